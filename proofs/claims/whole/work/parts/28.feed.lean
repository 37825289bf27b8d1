/-! bytes of an int -/
def bx (v : Int32) (r : Int) : Int32 := (v >>> zi (24 - 8 * r)) &&& zi 255
theorem bx_bv (X : BitVec 32) (k : Nat) (hk : k ≤ 24) : (((X >>> k) &&& 255#32) % 65536#32).toNat % 65536 = ((X.sshiftRight k) &&& 255#32).toNat ∧ ((X.sshiftRight k) &&& 255#32).toNat ≤ 255 := by
  have e : (X >>> k) &&& 255#32 = (X.sshiftRight k) &&& 255#32 := by
    apply BitVec.eq_of_getLsbD_eq
    intro i hi
    rw [BitVec.getLsbD_and, BitVec.getLsbD_and, BitVec.getLsbD_ushiftRight, BitVec.getLsbD_sshiftRight]
    by_cases h8 : i < 8
    · have h1 : k + i < 32 := by omega
      have h2 : ¬ (32 ≤ i) := by omega
      simp [h1, h2]
    · have h1 : (255#32).getLsbD i = false := by
        rw [BitVec.getLsbD]
        show Nat.testBit 255 i = false
        exact Nat.testBit_lt_two_pow (Nat.lt_of_lt_of_le (by decide : (255 : Nat) < 2 ^ 8) (Nat.pow_le_pow_right (by omega) (by omega)))
      rw [h1, Bool.and_false, Bool.and_false]
  have h : ((X.sshiftRight k) &&& 255#32).toNat ≤ 255 := by
    rw [BitVec.toNat_and]
    exact Nat.and_le_right
  rw [e]
  refine ⟨?_, h⟩
  rw [BitVec.toNat_umod]
  show _ % 65536 % 65536 = _
  omega
theorem narC {y : Int32} (h : y.toBitVec.toNat ≤ 255) : vp_nar .char y = y := by
  show y.toUInt32.toUInt16.toUInt32.toInt32 = y
  apply Int32.toBitVec.inj
  show ((y.toBitVec.setWidth 16).setWidth 32) = y.toBitVec
  apply BitVec.eq_of_toNat_eq
  rw [BitVec.toNat_setWidth, BitVec.toNat_setWidth]
  omega
theorem bx_C (v : Int32) {q : Int} (h0 : 0 ≤ q) (h1 : q < 4) : vp_nar .char (((((v.toUInt32 >>> ((zi (24 - 8 * q)).toUInt32 &&& Int32.toUInt32 (zi 31))).toInt32) &&& zi 255).toUInt32 % 65536).toInt32) = bx v q ∧ ∃ c : Int, 0 ≤ c ∧ c ≤ 255 ∧ bx v q = zi c := by
  obtain ⟨n, rfl⟩ : ∃ n : Nat, q = n := ⟨q.toNat, by omega⟩
  have e1 : (bx v n).toBitVec = (v.toBitVec.sshiftRight (24 - 8 * n)) &&& 255#32 := by
    have h : n = 0 ∨ n = 1 ∨ n = 2 ∨ n = 3 := by omega
    rcases h with rfl | rfl | rfl | rfl <;> rfl
  have e2 : ((((v.toUInt32 >>> ((zi (24 - 8 * (n : Int))).toUInt32 &&& Int32.toUInt32 (zi 31))).toInt32) &&& zi 255).toUInt32 % 65536).toInt32.toBitVec = ((v.toBitVec >>> (24 - 8 * n)) &&& 255#32) % 65536#32 := by
    have h : n = 0 ∨ n = 1 ∨ n = 2 ∨ n = 3 := by omega
    rcases h with rfl | rfl | rfl | rfl <;> rfl
  obtain ⟨k1, k2⟩ := bx_bv v.toBitVec (24 - 8 * n) (by omega)
  have e3 : ((((v.toUInt32 >>> ((zi (24 - 8 * (n : Int))).toUInt32 &&& Int32.toUInt32 (zi 31))).toInt32) &&& zi 255).toUInt32 % 65536).toInt32 = bx v n := by
    apply Int32.toBitVec.inj
    rw [e1, e2]
    apply BitVec.eq_of_toNat_eq
    rw [← k1]
    rw [BitVec.toNat_umod]
    show _ % 65536 = _ % 65536 % 65536
    omega
  rw [e3]
  refine ⟨narC (by rw [e1]; exact k2), (((v.toBitVec.sshiftRight (24 - 8 * n)) &&& 255#32).toNat : Int), by omega, by omega, ?_⟩
  apply Int32.toBitVec.inj
  rw [e1]
  apply BitVec.eq_of_toNat_eq
  show _ = (BitVec.ofInt 32 _).toNat
  rw [BitVec.toNat_ofInt]
  omega
theorem ok_append (v : Int32) {t : Int} (t0 : 0 ≤ t) (t1 : t ≤ 396) : ∀ (n : Nat) (q : Int) (s : Mem), 0 ≤ q → q ≤ 4 → 4 - q < n → rI s 160 6 = zi (t + q) → Ok (f_Re_append_3 n 160 v (zi (24 - 8 * q)) s) (fun s' => rI s' 160 6 = zi (t + 4) ∧ (∀ k j : Nat, k ≠ 161 → ¬ (k = 160 ∧ j = 6) → rI s' k j = rI s k j) ∧ ∀ i : Int, 0 ≤ i → rd s' 161 i = if t + q ≤ i ∧ i < t + 4 then bx v (i - t) else rd s 161 i) := by
  intro n
  induction n with
  | zero => intro q s h0 h1 h2; omega
  | succ n ih =>
    intro q s h0 h1 h2 hs
    rw [f_Re_append_3]
    by_cases hq : q = 4
    · subst hq
      simp (disch := omega) only [zi_div, zi_and31, zi_neg, zi_add, zi_sub, zi_mul, zi_lt, zi_le, zi_eq, zi_imx, zi_imn, zi_iab, gd_i, vpb_0, vpb_1, b2i_0, b2i_1, b2i_e0, b2i_e1, lf_b, lf_s, lf_n, Option.bind_some, decide_eq_false_iff_not, decide_eq_true_eq, cif_t, cif_f, cif_pos, cif_neg, if_pos, if_neg, zi_ofNat, Nat.zero_add, Nat.reduceAdd, Nat.reduceSub, Nat.reduceMul, Int.reduceAdd, Int.reduceSub, Int.reduceMul, Int.reduceNeg, Bool.false_eq_true, reduceCtorEq, rI_wI_s, rI_wI_f, rI_wI_c, rI_wd_c, rd_wI_c, rd_wd_c, rd_wd_s, rd_wd_n, rI_wJ, rd_wJ, rI_ix, wI_ix, rJ_ix, wJ_ix, zl_0, zl_1, zl_2, zl_3, zl_4, zl_5, zl_6, zl_7, zl_8, zl_9, zl_10, zl_11, zl_12, zl_13, zl_14, zl_15, zl_16, zl_20, zl_21, zl_22, zl_23, zl_24, zl_25, zl_26, zl_27, zl_28, zl_29, zl_30, zl_31, zl_32, zl_37, zl_40, zl_41, zl_42, zl_43, zl_44, zl_45, zl_46, zl_47, zl_48, zl_49, zl_50, zl_51, zl_52, zl_53, zl_54, zl_55, zl_56, zl_57, zl_58, zl_59, zl_60, zl_61, zl_62, zl_63, zl_64, zl_65, zl_74, zl_86, zl_90, zl_97, zl_98, zl_99, zl_100, zl_122, zl_140, zl_141, zl_142, zl_143, zl_145, zl_146, zl_147, zl_149, zl_150, zl_159, zl_160, zl_161, zl_162, zl_178, zl_199, zl_200, zl_201, zl_210, zl_230, zl_240, zl_245, zl_255, zl_256, zl_257, zl_288, zl_312, zl_332, zl_340, zl_356, zl_366, zl_399, zl_400, zl_500, zl_820, zl_966, zl_982, zl_998, zl_999, zl_1000, zl_1002, zl_1003, zl_1004, zl_1012, zl_1013, zl_1014, zl_1015, zl_1016, zl_1017, zl_1018, zl_1020, zl_1021, zl_1024, zl_1030, zl_1850, zl_2412, zl_2613, zl_9999, zl_10000, zl_99999, zl_1000000]
      exact ok_s ⟨hs, fun _ _ _ _ => rfl, fun i i0 => by first | rfl | rw [if_neg (by omega)]⟩
    · simp (disch := omega) only [zi_div, zi_and31, zi_neg, zi_add, zi_sub, zi_mul, zi_lt, zi_le, zi_eq, zi_imx, zi_imn, zi_iab, gd_i, vpb_0, vpb_1, b2i_0, b2i_1, b2i_e0, b2i_e1, lf_b, lf_s, lf_n, Option.bind_some, decide_eq_false_iff_not, decide_eq_true_eq, cif_t, cif_f, cif_pos, cif_neg, if_pos, if_neg, zi_ofNat, Nat.zero_add, Nat.reduceAdd, Nat.reduceSub, Nat.reduceMul, Int.reduceAdd, Int.reduceSub, Int.reduceMul, Int.reduceNeg, Bool.false_eq_true, reduceCtorEq, rI_wI_s, rI_wI_f, rI_wI_c, rI_wd_c, rd_wI_c, rd_wd_c, rd_wd_s, rd_wd_n, rI_wJ, rd_wJ, rI_ix, wI_ix, rJ_ix, wJ_ix, zl_0, zl_1, zl_2, zl_3, zl_4, zl_5, zl_6, zl_7, zl_8, zl_9, zl_10, zl_11, zl_12, zl_13, zl_14, zl_15, zl_16, zl_20, zl_21, zl_22, zl_23, zl_24, zl_25, zl_26, zl_27, zl_28, zl_29, zl_30, zl_31, zl_32, zl_37, zl_40, zl_41, zl_42, zl_43, zl_44, zl_45, zl_46, zl_47, zl_48, zl_49, zl_50, zl_51, zl_52, zl_53, zl_54, zl_55, zl_56, zl_57, zl_58, zl_59, zl_60, zl_61, zl_62, zl_63, zl_64, zl_65, zl_74, zl_86, zl_90, zl_97, zl_98, zl_99, zl_100, zl_122, zl_140, zl_141, zl_142, zl_143, zl_145, zl_146, zl_147, zl_149, zl_150, zl_159, zl_160, zl_161, zl_162, zl_178, zl_199, zl_200, zl_201, zl_210, zl_230, zl_240, zl_245, zl_255, zl_256, zl_257, zl_288, zl_312, zl_332, zl_340, zl_356, zl_366, zl_399, zl_400, zl_500, zl_820, zl_966, zl_982, zl_998, zl_999, zl_1000, zl_1002, zl_1003, zl_1004, zl_1012, zl_1013, zl_1014, zl_1015, zl_1016, zl_1017, zl_1018, zl_1020, zl_1021, zl_1024, zl_1030, zl_1850, zl_2412, zl_2613, zl_9999, zl_10000, zl_99999, zl_1000000, hs, e_within, lc_161, (bx_C v h0 (by omega : q < 4)).1]
      have e := ih (q + 1) (wI (wd s 161 (t + q) (bx v q)) 160 6 (zi (t + q + 1))) (by omega) (by omega) (by omega) (by rw [rI_wI_s, Int.add_assoc])
      rw [show 24 - 8 * (q + 1) = 24 - 8 * q - 8 by omega] at e
      refine ok_w e (fun s' ⟨p1, p2, p3⟩ => ⟨p1, fun k j h h' => (p2 k j h h').trans (by simp (disch := omega) only [rI_wI_s, rI_wI_f, rI_wI_c, rI_wd_c, rd_wI_c, rd_wd_c, rd_wd_s, rd_wd_n, rI_wJ, rd_wJ, rI_ix, wI_ix, rJ_ix, wJ_ix, rI_wI_o, Nat.reduceAdd]), fun i i0 => ?_⟩)
      rw [p3 i i0]
      by_cases g1 : t + (q + 1) ≤ i ∧ i < t + 4
      · rw [if_pos g1, if_pos (by omega)]
      · rw [if_neg g1]
        by_cases g2 : i = t + q
        · rw [if_pos (by omega), g2]
          simp (disch := omega) only [rI_wI_s, rI_wI_f, rI_wI_c, rI_wd_c, rd_wI_c, rd_wd_c, rd_wd_s, rd_wd_n, rI_wJ, rd_wJ, rI_ix, wI_ix, rJ_ix, wJ_ix, rI_wI_o, Nat.reduceAdd]
          rw [show t + q - t = q by omega]
        · rw [if_neg (by omega)]
          simp (disch := omega) only [rI_wI_s, rI_wI_f, rI_wI_c, rI_wd_c, rd_wI_c, rd_wd_c, rd_wd_s, rd_wd_n, rI_wJ, rd_wJ, rI_ix, wI_ix, rJ_ix, wJ_ix, rI_wI_o, Nat.reduceAdd]
theorem ok_append' (v : Int32) {t : Int} {s : Mem} (t0 : 0 ≤ t) (t1 : t ≤ 396) (hs : rI s 160 6 = zi t) : Ok (f_Re_append 160 v s) (fun s' => rI s' 160 6 = zi (t + 4) ∧ (∀ k j : Nat, k ≠ 161 → ¬ (k = 160 ∧ j = 6) → rI s' k j = rI s k j) ∧ ∀ i : Int, 0 ≤ i → rd s' 161 i = if t ≤ i ∧ i < t + 4 then bx v (i - t) else rd s 161 i) := by
  rw [f_Re_append_eq]
  have := ok_append v t0 t1 FU 0 s (by omega) (by omega) (by have := FU_ge; omega) (by rw [hs, Int.add_zero])
  rw [Int.add_zero] at this
  exact this
def sel (a b c d e : Int32) (k : Int) : Int32 := if k < 4 then a else if k < 8 then b else if k < 12 then c else if k < 16 then d else e
theorem ok_feedM (a b c d e : Int32) {t : Int} (t0 : 0 ≤ t) (t1 : t ≤ 380) : ∀ (n : Nat) (q : Int) (s : Mem), 0 ≤ q → q ≤ 20 → 20 - q < n → rI s 0 16 = zi (t + q) → Ok (f_M_feed_18 n 0 a b c d e (zi q) s) (fun r => r.1 = zi (t + 20) ∧ rI r.2 0 16 = zi (t + 20) ∧ (∀ k j : Nat, k ≠ 8 → ¬ (k = 0 ∧ j = 16) → rI r.2 k j = rI s k j) ∧ ∀ i : Int, 0 ≤ i → rd r.2 8 i = if t + q ≤ i ∧ i < t + 20 then bx (sel a b c d e (i - t)) ((i - t) - (i - t) / 4 * 4) else rd s 8 i) := by
  intro n
  induction n with
  | zero => intro q s h0 h1 h2; omega
  | succ n ih =>
    intro q s h0 h1 h2 hs
    rw [f_M_feed_18]
    by_cases hq : q = 20
    · subst hq
      simp (disch := omega) only [zi_div, zi_and31, zi_neg, zi_add, zi_sub, zi_mul, zi_lt, zi_le, zi_eq, zi_imx, zi_imn, zi_iab, gd_i, vpb_0, vpb_1, b2i_0, b2i_1, b2i_e0, b2i_e1, lf_b, lf_s, lf_n, Option.bind_some, decide_eq_false_iff_not, decide_eq_true_eq, cif_t, cif_f, cif_pos, cif_neg, if_pos, if_neg, zi_ofNat, Nat.zero_add, Nat.reduceAdd, Nat.reduceSub, Nat.reduceMul, Int.reduceAdd, Int.reduceSub, Int.reduceMul, Int.reduceNeg, Bool.false_eq_true, reduceCtorEq, rI_wI_s, rI_wI_f, rI_wI_c, rI_wd_c, rd_wI_c, rd_wd_c, rd_wd_s, rd_wd_n, rI_wJ, rd_wJ, rI_ix, wI_ix, rJ_ix, wJ_ix, zl_0, zl_1, zl_2, zl_3, zl_4, zl_5, zl_6, zl_7, zl_8, zl_9, zl_10, zl_11, zl_12, zl_13, zl_14, zl_15, zl_16, zl_20, zl_21, zl_22, zl_23, zl_24, zl_25, zl_26, zl_27, zl_28, zl_29, zl_30, zl_31, zl_32, zl_37, zl_40, zl_41, zl_42, zl_43, zl_44, zl_45, zl_46, zl_47, zl_48, zl_49, zl_50, zl_51, zl_52, zl_53, zl_54, zl_55, zl_56, zl_57, zl_58, zl_59, zl_60, zl_61, zl_62, zl_63, zl_64, zl_65, zl_74, zl_86, zl_90, zl_97, zl_98, zl_99, zl_100, zl_122, zl_140, zl_141, zl_142, zl_143, zl_145, zl_146, zl_147, zl_149, zl_150, zl_159, zl_160, zl_161, zl_162, zl_178, zl_199, zl_200, zl_201, zl_210, zl_230, zl_240, zl_245, zl_255, zl_256, zl_257, zl_288, zl_312, zl_332, zl_340, zl_356, zl_366, zl_399, zl_400, zl_500, zl_820, zl_966, zl_982, zl_998, zl_999, zl_1000, zl_1002, zl_1003, zl_1004, zl_1012, zl_1013, zl_1014, zl_1015, zl_1016, zl_1017, zl_1018, zl_1020, zl_1021, zl_1024, zl_1030, zl_1850, zl_2412, zl_2613, zl_9999, zl_10000, zl_99999, zl_1000000]
      exact ok_s ⟨hs, hs, fun _ _ _ _ => rfl, fun i i0 => by first | rfl | rw [if_neg (by omega)]⟩
    · have key : Ok (f_M_feed_73 (fun k0 v1 v2 v3 v4 v5 v6 s => f_M_feed_18 n k0 v1 v2 v3 v4 v5 v6 s) 0 a b c d e (zi q) (sel a b c d e q) s) (fun r => r.1 = zi (t + 20) ∧ rI r.2 0 16 = zi (t + 20) ∧ (∀ k j : Nat, k ≠ 8 → ¬ (k = 0 ∧ j = 16) → rI r.2 k j = rI s k j) ∧ ∀ i : Int, 0 ≤ i → rd r.2 8 i = if t + q ≤ i ∧ i < t + 20 then bx (sel a b c d e (i - t)) ((i - t) - (i - t) / 4 * 4) else rd s 8 i) := by
        rw [f_M_feed_73]
        simp (disch := omega) only [zi_div, zi_and31, zi_neg, zi_add, zi_sub, zi_mul, zi_lt, zi_le, zi_eq, zi_imx, zi_imn, zi_iab, gd_i, vpb_0, vpb_1, b2i_0, b2i_1, b2i_e0, b2i_e1, lf_b, lf_s, lf_n, Option.bind_some, decide_eq_false_iff_not, decide_eq_true_eq, cif_t, cif_f, cif_pos, cif_neg, if_pos, if_neg, zi_ofNat, Nat.zero_add, Nat.reduceAdd, Nat.reduceSub, Nat.reduceMul, Int.reduceAdd, Int.reduceSub, Int.reduceMul, Int.reduceNeg, Bool.false_eq_true, reduceCtorEq, rI_wI_s, rI_wI_f, rI_wI_c, rI_wd_c, rd_wI_c, rd_wd_c, rd_wd_s, rd_wd_n, rI_wJ, rd_wJ, rI_ix, wI_ix, rJ_ix, wJ_ix, zl_0, zl_1, zl_2, zl_3, zl_4, zl_5, zl_6, zl_7, zl_8, zl_9, zl_10, zl_11, zl_12, zl_13, zl_14, zl_15, zl_16, zl_20, zl_21, zl_22, zl_23, zl_24, zl_25, zl_26, zl_27, zl_28, zl_29, zl_30, zl_31, zl_32, zl_37, zl_40, zl_41, zl_42, zl_43, zl_44, zl_45, zl_46, zl_47, zl_48, zl_49, zl_50, zl_51, zl_52, zl_53, zl_54, zl_55, zl_56, zl_57, zl_58, zl_59, zl_60, zl_61, zl_62, zl_63, zl_64, zl_65, zl_74, zl_86, zl_90, zl_97, zl_98, zl_99, zl_100, zl_122, zl_140, zl_141, zl_142, zl_143, zl_145, zl_146, zl_147, zl_149, zl_150, zl_159, zl_160, zl_161, zl_162, zl_178, zl_199, zl_200, zl_201, zl_210, zl_230, zl_240, zl_245, zl_255, zl_256, zl_257, zl_288, zl_312, zl_332, zl_340, zl_356, zl_366, zl_399, zl_400, zl_500, zl_820, zl_966, zl_982, zl_998, zl_999, zl_1000, zl_1002, zl_1003, zl_1004, zl_1012, zl_1013, zl_1014, zl_1015, zl_1016, zl_1017, zl_1018, zl_1020, zl_1021, zl_1024, zl_1030, zl_1850, zl_2412, zl_2613, zl_9999, zl_10000, zl_99999, zl_1000000, lm_1, lm_2, lm_3, lm_4, lm_5, lm_6, lm_7, lm_8, lm_9, lm_10, lm_11, lm_12, lm_13, lm_14, lm_15, hs]
        have e := ih (q + 1) (wI (wd s 8 (t + q) (bx (sel a b c d e q) (q - q / 4 * 4))) 0 16 (zi (t + q + 1))) (by omega) (by omega) (by omega) (by rw [rI_wI_s, Int.add_assoc])
        refine ok_w e (fun s' ⟨p1, p4, p2, p3⟩ => ⟨p1, p4, fun k j h h' => (p2 k j h h').trans (by simp (disch := omega) only [rI_wI_s, rI_wI_f, rI_wI_c, rI_wd_c, rd_wI_c, rd_wd_c, rd_wd_s, rd_wd_n, rI_wJ, rd_wJ, rI_ix, wI_ix, rJ_ix, wJ_ix, rI_wI_o, Nat.reduceAdd]), fun i i0 => ?_⟩)
        rw [p3 i i0]
        by_cases g1 : t + (q + 1) ≤ i ∧ i < t + 20
        · rw [if_pos g1, if_pos (by omega)]
        · rw [if_neg g1]
          by_cases g2 : i = t + q
          · rw [if_pos (by omega), g2]
            simp (disch := omega) only [rI_wI_s, rI_wI_f, rI_wI_c, rI_wd_c, rd_wI_c, rd_wd_c, rd_wd_s, rd_wd_n, rI_wJ, rd_wJ, rI_ix, wI_ix, rJ_ix, wJ_ix, rI_wI_o, Nat.reduceAdd]
            rw [show t + q - t = q by omega]
          · rw [if_neg (by omega)]
            simp (disch := omega) only [rI_wI_s, rI_wI_f, rI_wI_c, rI_wd_c, rd_wI_c, rd_wd_c, rd_wd_s, rd_wd_n, rI_wJ, rd_wJ, rI_ix, wI_ix, rJ_ix, wJ_ix, rI_wI_o, Nat.reduceAdd]
      unfold sel at key
      by_cases k4 : q < 4
      · rw [if_pos k4] at key
        simp (disch := omega) only [zi_div, zi_and31, zi_neg, zi_add, zi_sub, zi_mul, zi_lt, zi_le, zi_eq, zi_imx, zi_imn, zi_iab, gd_i, vpb_0, vpb_1, b2i_0, b2i_1, b2i_e0, b2i_e1, lf_b, lf_s, lf_n, Option.bind_some, decide_eq_false_iff_not, decide_eq_true_eq, cif_t, cif_f, cif_pos, cif_neg, if_pos, if_neg, zi_ofNat, Nat.zero_add, Nat.reduceAdd, Nat.reduceSub, Nat.reduceMul, Int.reduceAdd, Int.reduceSub, Int.reduceMul, Int.reduceNeg, Bool.false_eq_true, reduceCtorEq, rI_wI_s, rI_wI_f, rI_wI_c, rI_wd_c, rd_wI_c, rd_wd_c, rd_wd_s, rd_wd_n, rI_wJ, rd_wJ, rI_ix, wI_ix, rJ_ix, wJ_ix, zl_0, zl_1, zl_2, zl_3, zl_4, zl_5, zl_6, zl_7, zl_8, zl_9, zl_10, zl_11, zl_12, zl_13, zl_14, zl_15, zl_16, zl_20, zl_21, zl_22, zl_23, zl_24, zl_25, zl_26, zl_27, zl_28, zl_29, zl_30, zl_31, zl_32, zl_37, zl_40, zl_41, zl_42, zl_43, zl_44, zl_45, zl_46, zl_47, zl_48, zl_49, zl_50, zl_51, zl_52, zl_53, zl_54, zl_55, zl_56, zl_57, zl_58, zl_59, zl_60, zl_61, zl_62, zl_63, zl_64, zl_65, zl_74, zl_86, zl_90, zl_97, zl_98, zl_99, zl_100, zl_122, zl_140, zl_141, zl_142, zl_143, zl_145, zl_146, zl_147, zl_149, zl_150, zl_159, zl_160, zl_161, zl_162, zl_178, zl_199, zl_200, zl_201, zl_210, zl_230, zl_240, zl_245, zl_255, zl_256, zl_257, zl_288, zl_312, zl_332, zl_340, zl_356, zl_366, zl_399, zl_400, zl_500, zl_820, zl_966, zl_982, zl_998, zl_999, zl_1000, zl_1002, zl_1003, zl_1004, zl_1012, zl_1013, zl_1014, zl_1015, zl_1016, zl_1017, zl_1018, zl_1020, zl_1021, zl_1024, zl_1030, zl_1850, zl_2412, zl_2613, zl_9999, zl_10000, zl_99999, zl_1000000]
        exact key
      · rw [if_neg k4] at key
        by_cases k8 : q < 8
        · rw [if_pos k8] at key
          simp (disch := omega) only [zi_div, zi_and31, zi_neg, zi_add, zi_sub, zi_mul, zi_lt, zi_le, zi_eq, zi_imx, zi_imn, zi_iab, gd_i, vpb_0, vpb_1, b2i_0, b2i_1, b2i_e0, b2i_e1, lf_b, lf_s, lf_n, Option.bind_some, decide_eq_false_iff_not, decide_eq_true_eq, cif_t, cif_f, cif_pos, cif_neg, if_pos, if_neg, zi_ofNat, Nat.zero_add, Nat.reduceAdd, Nat.reduceSub, Nat.reduceMul, Int.reduceAdd, Int.reduceSub, Int.reduceMul, Int.reduceNeg, Bool.false_eq_true, reduceCtorEq, rI_wI_s, rI_wI_f, rI_wI_c, rI_wd_c, rd_wI_c, rd_wd_c, rd_wd_s, rd_wd_n, rI_wJ, rd_wJ, rI_ix, wI_ix, rJ_ix, wJ_ix, zl_0, zl_1, zl_2, zl_3, zl_4, zl_5, zl_6, zl_7, zl_8, zl_9, zl_10, zl_11, zl_12, zl_13, zl_14, zl_15, zl_16, zl_20, zl_21, zl_22, zl_23, zl_24, zl_25, zl_26, zl_27, zl_28, zl_29, zl_30, zl_31, zl_32, zl_37, zl_40, zl_41, zl_42, zl_43, zl_44, zl_45, zl_46, zl_47, zl_48, zl_49, zl_50, zl_51, zl_52, zl_53, zl_54, zl_55, zl_56, zl_57, zl_58, zl_59, zl_60, zl_61, zl_62, zl_63, zl_64, zl_65, zl_74, zl_86, zl_90, zl_97, zl_98, zl_99, zl_100, zl_122, zl_140, zl_141, zl_142, zl_143, zl_145, zl_146, zl_147, zl_149, zl_150, zl_159, zl_160, zl_161, zl_162, zl_178, zl_199, zl_200, zl_201, zl_210, zl_230, zl_240, zl_245, zl_255, zl_256, zl_257, zl_288, zl_312, zl_332, zl_340, zl_356, zl_366, zl_399, zl_400, zl_500, zl_820, zl_966, zl_982, zl_998, zl_999, zl_1000, zl_1002, zl_1003, zl_1004, zl_1012, zl_1013, zl_1014, zl_1015, zl_1016, zl_1017, zl_1018, zl_1020, zl_1021, zl_1024, zl_1030, zl_1850, zl_2412, zl_2613, zl_9999, zl_10000, zl_99999, zl_1000000]
          exact key
        · rw [if_neg k8] at key
          by_cases k12 : q < 12
          · rw [if_pos k12] at key
            simp (disch := omega) only [zi_div, zi_and31, zi_neg, zi_add, zi_sub, zi_mul, zi_lt, zi_le, zi_eq, zi_imx, zi_imn, zi_iab, gd_i, vpb_0, vpb_1, b2i_0, b2i_1, b2i_e0, b2i_e1, lf_b, lf_s, lf_n, Option.bind_some, decide_eq_false_iff_not, decide_eq_true_eq, cif_t, cif_f, cif_pos, cif_neg, if_pos, if_neg, zi_ofNat, Nat.zero_add, Nat.reduceAdd, Nat.reduceSub, Nat.reduceMul, Int.reduceAdd, Int.reduceSub, Int.reduceMul, Int.reduceNeg, Bool.false_eq_true, reduceCtorEq, rI_wI_s, rI_wI_f, rI_wI_c, rI_wd_c, rd_wI_c, rd_wd_c, rd_wd_s, rd_wd_n, rI_wJ, rd_wJ, rI_ix, wI_ix, rJ_ix, wJ_ix, zl_0, zl_1, zl_2, zl_3, zl_4, zl_5, zl_6, zl_7, zl_8, zl_9, zl_10, zl_11, zl_12, zl_13, zl_14, zl_15, zl_16, zl_20, zl_21, zl_22, zl_23, zl_24, zl_25, zl_26, zl_27, zl_28, zl_29, zl_30, zl_31, zl_32, zl_37, zl_40, zl_41, zl_42, zl_43, zl_44, zl_45, zl_46, zl_47, zl_48, zl_49, zl_50, zl_51, zl_52, zl_53, zl_54, zl_55, zl_56, zl_57, zl_58, zl_59, zl_60, zl_61, zl_62, zl_63, zl_64, zl_65, zl_74, zl_86, zl_90, zl_97, zl_98, zl_99, zl_100, zl_122, zl_140, zl_141, zl_142, zl_143, zl_145, zl_146, zl_147, zl_149, zl_150, zl_159, zl_160, zl_161, zl_162, zl_178, zl_199, zl_200, zl_201, zl_210, zl_230, zl_240, zl_245, zl_255, zl_256, zl_257, zl_288, zl_312, zl_332, zl_340, zl_356, zl_366, zl_399, zl_400, zl_500, zl_820, zl_966, zl_982, zl_998, zl_999, zl_1000, zl_1002, zl_1003, zl_1004, zl_1012, zl_1013, zl_1014, zl_1015, zl_1016, zl_1017, zl_1018, zl_1020, zl_1021, zl_1024, zl_1030, zl_1850, zl_2412, zl_2613, zl_9999, zl_10000, zl_99999, zl_1000000]
            exact key
          · rw [if_neg k12] at key
            by_cases k16 : q < 16
            · rw [if_pos k16] at key
              simp (disch := omega) only [zi_div, zi_and31, zi_neg, zi_add, zi_sub, zi_mul, zi_lt, zi_le, zi_eq, zi_imx, zi_imn, zi_iab, gd_i, vpb_0, vpb_1, b2i_0, b2i_1, b2i_e0, b2i_e1, lf_b, lf_s, lf_n, Option.bind_some, decide_eq_false_iff_not, decide_eq_true_eq, cif_t, cif_f, cif_pos, cif_neg, if_pos, if_neg, zi_ofNat, Nat.zero_add, Nat.reduceAdd, Nat.reduceSub, Nat.reduceMul, Int.reduceAdd, Int.reduceSub, Int.reduceMul, Int.reduceNeg, Bool.false_eq_true, reduceCtorEq, rI_wI_s, rI_wI_f, rI_wI_c, rI_wd_c, rd_wI_c, rd_wd_c, rd_wd_s, rd_wd_n, rI_wJ, rd_wJ, rI_ix, wI_ix, rJ_ix, wJ_ix, zl_0, zl_1, zl_2, zl_3, zl_4, zl_5, zl_6, zl_7, zl_8, zl_9, zl_10, zl_11, zl_12, zl_13, zl_14, zl_15, zl_16, zl_20, zl_21, zl_22, zl_23, zl_24, zl_25, zl_26, zl_27, zl_28, zl_29, zl_30, zl_31, zl_32, zl_37, zl_40, zl_41, zl_42, zl_43, zl_44, zl_45, zl_46, zl_47, zl_48, zl_49, zl_50, zl_51, zl_52, zl_53, zl_54, zl_55, zl_56, zl_57, zl_58, zl_59, zl_60, zl_61, zl_62, zl_63, zl_64, zl_65, zl_74, zl_86, zl_90, zl_97, zl_98, zl_99, zl_100, zl_122, zl_140, zl_141, zl_142, zl_143, zl_145, zl_146, zl_147, zl_149, zl_150, zl_159, zl_160, zl_161, zl_162, zl_178, zl_199, zl_200, zl_201, zl_210, zl_230, zl_240, zl_245, zl_255, zl_256, zl_257, zl_288, zl_312, zl_332, zl_340, zl_356, zl_366, zl_399, zl_400, zl_500, zl_820, zl_966, zl_982, zl_998, zl_999, zl_1000, zl_1002, zl_1003, zl_1004, zl_1012, zl_1013, zl_1014, zl_1015, zl_1016, zl_1017, zl_1018, zl_1020, zl_1021, zl_1024, zl_1030, zl_1850, zl_2412, zl_2613, zl_9999, zl_10000, zl_99999, zl_1000000]
              exact key
            · rw [if_neg k16] at key
              simp (disch := omega) only [zi_div, zi_and31, zi_neg, zi_add, zi_sub, zi_mul, zi_lt, zi_le, zi_eq, zi_imx, zi_imn, zi_iab, gd_i, vpb_0, vpb_1, b2i_0, b2i_1, b2i_e0, b2i_e1, lf_b, lf_s, lf_n, Option.bind_some, decide_eq_false_iff_not, decide_eq_true_eq, cif_t, cif_f, cif_pos, cif_neg, if_pos, if_neg, zi_ofNat, Nat.zero_add, Nat.reduceAdd, Nat.reduceSub, Nat.reduceMul, Int.reduceAdd, Int.reduceSub, Int.reduceMul, Int.reduceNeg, Bool.false_eq_true, reduceCtorEq, rI_wI_s, rI_wI_f, rI_wI_c, rI_wd_c, rd_wI_c, rd_wd_c, rd_wd_s, rd_wd_n, rI_wJ, rd_wJ, rI_ix, wI_ix, rJ_ix, wJ_ix, zl_0, zl_1, zl_2, zl_3, zl_4, zl_5, zl_6, zl_7, zl_8, zl_9, zl_10, zl_11, zl_12, zl_13, zl_14, zl_15, zl_16, zl_20, zl_21, zl_22, zl_23, zl_24, zl_25, zl_26, zl_27, zl_28, zl_29, zl_30, zl_31, zl_32, zl_37, zl_40, zl_41, zl_42, zl_43, zl_44, zl_45, zl_46, zl_47, zl_48, zl_49, zl_50, zl_51, zl_52, zl_53, zl_54, zl_55, zl_56, zl_57, zl_58, zl_59, zl_60, zl_61, zl_62, zl_63, zl_64, zl_65, zl_74, zl_86, zl_90, zl_97, zl_98, zl_99, zl_100, zl_122, zl_140, zl_141, zl_142, zl_143, zl_145, zl_146, zl_147, zl_149, zl_150, zl_159, zl_160, zl_161, zl_162, zl_178, zl_199, zl_200, zl_201, zl_210, zl_230, zl_240, zl_245, zl_255, zl_256, zl_257, zl_288, zl_312, zl_332, zl_340, zl_356, zl_366, zl_399, zl_400, zl_500, zl_820, zl_966, zl_982, zl_998, zl_999, zl_1000, zl_1002, zl_1003, zl_1004, zl_1012, zl_1013, zl_1014, zl_1015, zl_1016, zl_1017, zl_1018, zl_1020, zl_1021, zl_1024, zl_1030, zl_1850, zl_2412, zl_2613, zl_9999, zl_10000, zl_99999, zl_1000000]
              exact key
theorem pr_feed {s σ : Mem} (R : RC s σ) (a b c d e : Int32) : Ok2 (f_P_feed 0 a b c d e s) (f_M_feed 0 a b c d e σ) QI := by
  obtain ⟨⟨N, hW, hY, hK⟩, hI, ⟨⟨t, t1, t2, t3, t4, t5⟩, r1, r2⟩, h2, h121, h15⟩ := id R
  rw [f_P_feed_eq, f_M_feed_eq, b_P_feed, b_M_feed, f_Re_hasRoom_eq, b_Re_hasRoom]
  by_cases g : t ≤ 380
  · simp (disch := omega) only [zi_div, zi_and31, zi_neg, zi_add, zi_sub, zi_mul, zi_lt, zi_le, zi_eq, zi_imx, zi_imn, zi_iab, gd_i, vpb_0, vpb_1, b2i_0, b2i_1, b2i_e0, b2i_e1, lf_b, lf_s, lf_n, Option.bind_some, decide_eq_false_iff_not, decide_eq_true_eq, cif_t, cif_f, cif_pos, cif_neg, if_pos, if_neg, zi_ofNat, Nat.zero_add, Nat.reduceAdd, Nat.reduceSub, Nat.reduceMul, Int.reduceAdd, Int.reduceSub, Int.reduceMul, Int.reduceNeg, Bool.false_eq_true, reduceCtorEq, rI_wI_s, rI_wI_f, rI_wI_c, rI_wd_c, rd_wI_c, rd_wd_c, rd_wd_s, rd_wd_n, rI_wJ, rd_wJ, rI_ix, wI_ix, rJ_ix, wJ_ix, zl_0, zl_1, zl_2, zl_3, zl_4, zl_5, zl_6, zl_7, zl_8, zl_9, zl_10, zl_11, zl_12, zl_13, zl_14, zl_15, zl_16, zl_20, zl_21, zl_22, zl_23, zl_24, zl_25, zl_26, zl_27, zl_28, zl_29, zl_30, zl_31, zl_32, zl_37, zl_40, zl_41, zl_42, zl_43, zl_44, zl_45, zl_46, zl_47, zl_48, zl_49, zl_50, zl_51, zl_52, zl_53, zl_54, zl_55, zl_56, zl_57, zl_58, zl_59, zl_60, zl_61, zl_62, zl_63, zl_64, zl_65, zl_74, zl_86, zl_90, zl_97, zl_98, zl_99, zl_100, zl_122, zl_140, zl_141, zl_142, zl_143, zl_145, zl_146, zl_147, zl_149, zl_150, zl_159, zl_160, zl_161, zl_162, zl_178, zl_199, zl_200, zl_201, zl_210, zl_230, zl_240, zl_245, zl_255, zl_256, zl_257, zl_288, zl_312, zl_332, zl_340, zl_356, zl_366, zl_399, zl_400, zl_500, zl_820, zl_966, zl_982, zl_998, zl_999, zl_1000, zl_1002, zl_1003, zl_1004, zl_1012, zl_1013, zl_1014, zl_1015, zl_1016, zl_1017, zl_1018, zl_1020, zl_1021, zl_1024, zl_1030, zl_1850, zl_2412, zl_2613, zl_9999, zl_10000, zl_99999, zl_1000000, t3, t4]
    refine ok2_l (ok_append' a t1 (by omega) t3) (fun s1 ⟨a1, a2, a3⟩ => ?_)
    refine ok2_l (ok_append' b (t := t + 4) (by omega) (by omega) a1) (fun s2 ⟨b1, b2, b3⟩ => ?_)
    refine ok2_l (ok_append' c (t := t + 4 + 4) (by omega) (by omega) b1) (fun s3 ⟨c1, c2, c3⟩ => ?_)
    refine ok2_l (ok_append' d (t := t + 4 + 4 + 4) (by omega) (by omega) c1) (fun s4 ⟨d1, d2, d3⟩ => ?_)
    refine ok2_l (ok_append' e (t := t + 4 + 4 + 4 + 4) (by omega) (by omega) d1) (fun s5 ⟨e1, e2, e3⟩ => ?_)
    obtain ⟨r, hr, q1, q4, q2, q3⟩ := ok_feedM a b c d e t1 g FU 0 σ (by omega) (by omega) (by have := FU_ge; omega) (by rw [t4, Int.add_zero])
    rw [hr]
    have f5 : ∀ k j : Nat, k ≠ 161 → ¬ (k = 160 ∧ j = 6) → rI s5 k j = rI s k j := fun k j h h' => (e2 k j h h').trans ((d2 k j h h').trans ((c2 k j h h').trans ((b2 k j h h').trans (a2 k j h h'))))
    refine ok2_s ⟨e1.trans (by rw [q1, show t + 4 + 4 + 4 + 4 + 4 = t + 20 by omega]), ⟨N, hW.cg (by intro k j w1 w2 w3 w4 w5; rw [f5 k j (by omega) (by omega)]) (by intro z w1 w2; exact q2 1 _ (by omega) (by omega)), hY.cg (q2 1 _ (by omega) (by omega)) (q2 1 _ (by omega) (by omega)), hK.cg (fun k j h => f5 k j (by omega) (by omega)) (q2 _ _ (by omega) (by omega)) (fun j => q2 _ _ (by omega) (by omega))⟩,
      hI.cg (fun k j h => f5 k j (by omega) (by omega)) (q2 _ _ (by omega) (by omega)) (fun j => q2 _ _ (by omega) (by omega)), ⟨⟨t + 20, by omega, by omega, e1.trans (by rw [show t + 4 + 4 + 4 + 4 + 4 = t + 20 by omega]), q4, fun i i0 i1 => ?_⟩, ?_, ?_⟩, (f5 _ _ (by omega) (by omega)).trans h2, (f5 _ _ (by omega) (by omega)).trans h121, (q2 15 _ (by omega) (by omega)).trans h15⟩
    · show ∃ c : Int, 0 ≤ c ∧ c ≤ 255 ∧ rd s5 161 i = zi c ∧ rd r.2 8 i = zi c
      rw [e3 i i0, d3 i i0, c3 i i0, b3 i i0, a3 i i0, q3 i i0]
      by_cases k0 : i < t
      · rw [if_neg (by omega), if_neg (by omega), if_neg (by omega), if_neg (by omega), if_neg (by omega), if_neg (by omega)]
        exact t5 i i0 k0
      · rw [if_pos (by omega : t + 0 ≤ i ∧ i < t + 20)]
        unfold sel
        by_cases k4 : i < t + 4
        · rw [if_neg (by omega), if_neg (by omega), if_neg (by omega), if_neg (by omega), if_pos (by omega), if_pos (by omega), show i - t - (i - t) / 4 * 4 = i - t by omega]
          obtain ⟨c, y1, y2, y3⟩ := (bx_C a (q := i - t) (by omega) (by omega)).2
          exact ⟨c, y1, y2, y3, y3⟩
        · rw [if_neg (by omega : ¬ (i - t < 4))]
          by_cases k8 : i < t + 8
          · rw [if_neg (by omega), if_neg (by omega), if_neg (by omega), if_pos (by omega), if_pos (by omega), show i - t - (i - t) / 4 * 4 = i - (t + 4) by omega]
            obtain ⟨c, y1, y2, y3⟩ := (bx_C b (q := i - (t + 4)) (by omega) (by omega)).2
            exact ⟨c, y1, y2, y3, y3⟩
          · rw [if_neg (by omega : ¬ (i - t < 8))]
            by_cases k12 : i < t + 12
            · rw [if_neg (by omega), if_neg (by omega), if_pos (by omega), if_pos (by omega), show i - t - (i - t) / 4 * 4 = i - (t + 4 + 4) by omega]
              obtain ⟨c, y1, y2, y3⟩ := (bx_C c (q := i - (t + 4 + 4)) (by omega) (by omega)).2
              exact ⟨c, y1, y2, y3, y3⟩
            · rw [if_neg (by omega : ¬ (i - t < 12))]
              by_cases k16 : i < t + 16
              · rw [if_neg (by omega), if_pos (by omega), if_pos (by omega), show i - t - (i - t) / 4 * 4 = i - (t + 4 + 4 + 4) by omega]
                obtain ⟨c, y1, y2, y3⟩ := (bx_C d (q := i - (t + 4 + 4 + 4)) (by omega) (by omega)).2
                exact ⟨c, y1, y2, y3, y3⟩
              · rw [if_neg (by omega : ¬ (i - t < 16)), if_pos (by omega), show i - t - (i - t) / 4 * 4 = i - (t + 4 + 4 + 4 + 4) by omega]
                obtain ⟨c, y1, y2, y3⟩ := (bx_C e (q := i - (t + 4 + 4 + 4 + 4)) (by omega) (by omega)).2
                exact ⟨c, y1, y2, y3, y3⟩
    · exact (f5 _ _ (by omega) (by omega)).trans (r1.trans (q2 _ _ (by omega) (by omega)).symm)
    · exact (f5 _ _ (by omega) (by omega)).trans (r2.trans (q2 _ _ (by omega) (by omega)).symm)
  · simp (disch := omega) only [zi_div, zi_and31, zi_neg, zi_add, zi_sub, zi_mul, zi_lt, zi_le, zi_eq, zi_imx, zi_imn, zi_iab, gd_i, vpb_0, vpb_1, b2i_0, b2i_1, b2i_e0, b2i_e1, lf_b, lf_s, lf_n, Option.bind_some, decide_eq_false_iff_not, decide_eq_true_eq, cif_t, cif_f, cif_pos, cif_neg, if_pos, if_neg, zi_ofNat, Nat.zero_add, Nat.reduceAdd, Nat.reduceSub, Nat.reduceMul, Int.reduceAdd, Int.reduceSub, Int.reduceMul, Int.reduceNeg, Bool.false_eq_true, reduceCtorEq, rI_wI_s, rI_wI_f, rI_wI_c, rI_wd_c, rd_wI_c, rd_wd_c, rd_wd_s, rd_wd_n, rI_wJ, rd_wJ, rI_ix, wI_ix, rJ_ix, wJ_ix, zl_0, zl_1, zl_2, zl_3, zl_4, zl_5, zl_6, zl_7, zl_8, zl_9, zl_10, zl_11, zl_12, zl_13, zl_14, zl_15, zl_16, zl_20, zl_21, zl_22, zl_23, zl_24, zl_25, zl_26, zl_27, zl_28, zl_29, zl_30, zl_31, zl_32, zl_37, zl_40, zl_41, zl_42, zl_43, zl_44, zl_45, zl_46, zl_47, zl_48, zl_49, zl_50, zl_51, zl_52, zl_53, zl_54, zl_55, zl_56, zl_57, zl_58, zl_59, zl_60, zl_61, zl_62, zl_63, zl_64, zl_65, zl_74, zl_86, zl_90, zl_97, zl_98, zl_99, zl_100, zl_122, zl_140, zl_141, zl_142, zl_143, zl_145, zl_146, zl_147, zl_149, zl_150, zl_159, zl_160, zl_161, zl_162, zl_178, zl_199, zl_200, zl_201, zl_210, zl_230, zl_240, zl_245, zl_255, zl_256, zl_257, zl_288, zl_312, zl_332, zl_340, zl_356, zl_366, zl_399, zl_400, zl_500, zl_820, zl_966, zl_982, zl_998, zl_999, zl_1000, zl_1002, zl_1003, zl_1004, zl_1012, zl_1013, zl_1014, zl_1015, zl_1016, zl_1017, zl_1018, zl_1020, zl_1021, zl_1024, zl_1030, zl_1850, zl_2412, zl_2613, zl_9999, zl_10000, zl_99999, zl_1000000, t3, t4]
    exact ok2_s ⟨rfl, R⟩
