/-! the code of THE LAW, laid by both -/
def Em (C : List Op) (s σ : Mem) : Prop := rI s 165 6 = zi (encL C).length ∧ rI σ 0 14 = zi C.length ∧ stC (fun z => rd s 170 z) 0 (encL C) ∧ stM (fun z => rd σ 6 z) 0 C
theorem encC_ne (o : Op) : 1 ≤ (encC o).length := by
  unfold encC
  repeat' split
  all_goals simp
theorem encL_one (o : Op) : encL [o] = encC o := by
  show encC o ++ [] = encC o
  rw [List.append_nil]
theorem enc_len (C : List Op) : C.length ≤ (encL C).length := by
  induction C with
  | nil => exact Nat.le_refl _
  | cons o C ih =>
    have := encC_ne o
    show C.length + 1 ≤ (encC o ++ encL C).length
    rw [List.length_append]
    omega
def FA (s s' : Mem) : Prop := ∀ k j : Nat, ¬ (k = 165 ∧ j = 6) → k ≠ 170 → rI s' k j = rI s k j
def GA (σ σ' : Mem) : Prop := ∀ k j : Nat, ¬ (k = 0 ∧ j = 14) → k ≠ 6 → rI σ' k j = rI σ k j
theorem Em.cg {C : List Op} {s s' σ σ' : Mem} (E : Em C s σ) (h6 : rI s' 165 6 = rI s 165 6) (hk : ∀ j : Nat, rI s' 170 j = rI s 170 j) (h14 : rI σ' 0 14 = rI σ 0 14) (h6' : ∀ j : Nat, rI σ' 6 j = rI σ 6 j) : Em C s' σ' := by
  obtain ⟨a, b, c, d⟩ := E
  exact ⟨h6.trans a, h14.trans b, stC_cg _ _ (Int.le_refl 0) (fun z _ _ => hk _) c, stM_cg _ _ (Int.le_refl 0) (fun z _ _ => h6' _) d⟩
theorem e_addS {s : Mem} {u x : Int} (h6 : rI s 165 6 = zi u) (u0 : 0 ≤ u) (u1 : u < 400) : f_La_addStep 165 (zi x) s = some (wI (wd s 170 u (zi x)) 165 6 (zi (u + 1))) := by
  rw [f_La_addStep_eq, b_La_addStep]
  simp (disch := omega) only [zi_div, zi_and31, zi_neg, zi_add, zi_sub, zi_mul, zi_lt, zi_le, zi_eq, zi_imx, zi_imn, zi_iab, gd_i, vpb_0, vpb_1, b2i_0, b2i_1, b2i_e0, b2i_e1, lf_b, lf_s, lf_n, Option.bind_some, decide_eq_false_iff_not, decide_eq_true_eq, cif_t, cif_f, cif_pos, cif_neg, if_true, if_false, if_pos, if_neg, zi_ofNat, Nat.zero_add, Nat.reduceAdd, Nat.reduceSub, Nat.reduceMul, Int.reduceAdd, Int.reduceSub, Int.reduceMul, Int.reduceNeg, Bool.false_eq_true, reduceCtorEq, rI_wI_s, rI_wI_f, rI_wI_c, rI_wd_c, rd_wI_c, rd_wd_c, rd_wd_s, rd_wd_n, rI_wJ, rd_wJ, rI_ix, wI_ix, rJ_ix, wJ_ix, zl_0, zl_1, zl_2, zl_3, zl_4, zl_5, zl_6, zl_7, zl_8, zl_9, zl_10, zl_11, zl_12, zl_13, zl_14, zl_15, zl_16, zl_20, zl_21, zl_22, zl_23, zl_24, zl_25, zl_26, zl_27, zl_28, zl_29, zl_30, zl_31, zl_32, zl_37, zl_40, zl_41, zl_42, zl_43, zl_44, zl_45, zl_46, zl_47, zl_48, zl_49, zl_50, zl_51, zl_52, zl_53, zl_54, zl_55, zl_56, zl_57, zl_58, zl_59, zl_60, zl_61, zl_62, zl_63, zl_64, zl_65, zl_74, zl_86, zl_90, zl_97, zl_98, zl_99, zl_100, zl_122, zl_140, zl_141, zl_142, zl_143, zl_145, zl_146, zl_147, zl_149, zl_150, zl_159, zl_160, zl_161, zl_162, zl_178, zl_199, zl_200, zl_201, zl_210, zl_230, zl_240, zl_245, zl_255, zl_256, zl_257, zl_288, zl_312, zl_332, zl_340, zl_356, zl_366, zl_399, zl_400, zl_500, zl_820, zl_966, zl_982, zl_998, zl_999, zl_1000, zl_1002, zl_1003, zl_1004, zl_1012, zl_1013, zl_1014, zl_1015, zl_1016, zl_1017, zl_1018, zl_1020, zl_1021, zl_1024, zl_1030, zl_1850, zl_2412, zl_2613, zl_9999, zl_10000, zl_99999, zl_1000000, lc_3, lc_4, lc_5, lc_6, lc_8, lc_9, lc_10, lc_12, lc_13, lc_14, lc_15, lc_16, lc_17, lc_19, lc_20, lc_21, lc_23, lc_24, lc_25, lc_27, lc_28, lc_29, lc_32, lc_33, lc_34, lc_36, lc_37, lc_38, lc_40, lc_41, lc_42, lc_44, lc_45, lc_46, lc_48, lc_49, lc_50, lc_52, lc_53, lc_54, lc_55, lc_56, lc_57, lc_58, lc_60, lc_122, lc_123, lc_124, lc_125, lc_127, lc_129, lc_161, lc_162, lc_163, lc_164, lc_166, lc_167, lc_168, lc_169, lc_170, lc_171, lc_173, lc_174, lc_175, lc_177, lc_190, h6]
theorem e_lay {σ : Mem} {v : Int} {k m : Int32} (h14 : rI σ 0 14 = zi v) (v0 : 0 ≤ v) (v1 : v < 400) : f_M_lay 0 k m σ = some (wI (wd (wd σ 6 (2 * v) k) 6 (2 * v + 1) m) 0 14 (zi (v + 1))) := by
  rw [f_M_lay_eq, b_M_lay]
  simp (disch := omega) only [zi_div, zi_and31, zi_neg, zi_add, zi_sub, zi_mul, zi_lt, zi_le, zi_eq, zi_imx, zi_imn, zi_iab, gd_i, vpb_0, vpb_1, b2i_0, b2i_1, b2i_e0, b2i_e1, lf_b, lf_s, lf_n, Option.bind_some, decide_eq_false_iff_not, decide_eq_true_eq, cif_t, cif_f, cif_pos, cif_neg, if_true, if_false, if_pos, if_neg, zi_ofNat, Nat.zero_add, Nat.reduceAdd, Nat.reduceSub, Nat.reduceMul, Int.reduceAdd, Int.reduceSub, Int.reduceMul, Int.reduceNeg, Bool.false_eq_true, reduceCtorEq, rI_wI_s, rI_wI_f, rI_wI_c, rI_wd_c, rd_wI_c, rd_wd_c, rd_wd_s, rd_wd_n, rI_wJ, rd_wJ, rI_ix, wI_ix, rJ_ix, wJ_ix, zl_0, zl_1, zl_2, zl_3, zl_4, zl_5, zl_6, zl_7, zl_8, zl_9, zl_10, zl_11, zl_12, zl_13, zl_14, zl_15, zl_16, zl_20, zl_21, zl_22, zl_23, zl_24, zl_25, zl_26, zl_27, zl_28, zl_29, zl_30, zl_31, zl_32, zl_37, zl_40, zl_41, zl_42, zl_43, zl_44, zl_45, zl_46, zl_47, zl_48, zl_49, zl_50, zl_51, zl_52, zl_53, zl_54, zl_55, zl_56, zl_57, zl_58, zl_59, zl_60, zl_61, zl_62, zl_63, zl_64, zl_65, zl_74, zl_86, zl_90, zl_97, zl_98, zl_99, zl_100, zl_122, zl_140, zl_141, zl_142, zl_143, zl_145, zl_146, zl_147, zl_149, zl_150, zl_159, zl_160, zl_161, zl_162, zl_178, zl_199, zl_200, zl_201, zl_210, zl_230, zl_240, zl_245, zl_255, zl_256, zl_257, zl_288, zl_312, zl_332, zl_340, zl_356, zl_366, zl_399, zl_400, zl_500, zl_820, zl_966, zl_982, zl_998, zl_999, zl_1000, zl_1002, zl_1003, zl_1004, zl_1012, zl_1013, zl_1014, zl_1015, zl_1016, zl_1017, zl_1018, zl_1020, zl_1021, zl_1024, zl_1030, zl_1850, zl_2412, zl_2613, zl_9999, zl_10000, zl_99999, zl_1000000, lm_1, lm_2, lm_3, lm_4, lm_5, lm_6, lm_7, lm_8, lm_9, lm_10, lm_11, lm_12, lm_13, lm_14, lm_15, h14]
theorem e_step {C : List Op} {s σ : Mem} (E : Em C s σ) (hu : ((encL C).length : Int) < 400) {k m x : Int} (hk : encC (k, m) = [x]) : ∃ s' σ' : Mem, f_La_addStep 165 (zi x) s = some s' ∧ f_M_lay 0 (zi k) (zi m) σ = some σ' ∧ Em (C ++ [(k, m)]) s' σ' ∧ FA s s' ∧ GA σ σ' := by
  obtain ⟨a, b, c, d⟩ := E
  have hl := enc_len C
  refine ⟨_, _, e_addS a (by omega) hu, e_lay b (by omega) (by omega), ⟨?_, ?_, ?_, ?_⟩, fun k j h1 h2 => by simp (disch := omega) only [rI_wI_s, rI_wI_f, rI_wI_c, rI_wd_c, rd_wI_c, rd_wd_c, rd_wd_s, rd_wd_n, rI_wJ, rd_wJ, rI_ix, wI_ix, rJ_ix, wJ_ix, rI_wI_o, Nat.reduceAdd], fun k j h1 h2 => by simp (disch := omega) only [rI_wI_s, rI_wI_f, rI_wI_c, rI_wd_c, rd_wI_c, rd_wd_c, rd_wd_s, rd_wd_n, rI_wJ, rd_wJ, rI_ix, wI_ix, rJ_ix, wJ_ix, rI_wI_o, Nat.reduceAdd]⟩
  · simp (disch := omega) only [rI_wI_s, rI_wI_f, rI_wI_c, rI_wd_c, rd_wI_c, rd_wd_c, rd_wd_s, rd_wd_n, rI_wJ, rd_wJ, rI_ix, wI_ix, rJ_ix, wJ_ix, rI_wI_o, Nat.reduceAdd]
    rw [encL_app, encL_one, hk, List.length_append]
    rfl
  · simp (disch := omega) only [rI_wI_s, rI_wI_f, rI_wI_c, rI_wd_c, rd_wI_c, rd_wd_c, rd_wd_s, rd_wd_n, rI_wJ, rd_wJ, rI_ix, wI_ix, rJ_ix, wJ_ix, rI_wI_o, Nat.reduceAdd]
    rw [List.length_append]
    rfl
  · rw [encL_app, encL_one, hk, stC_app]
    refine ⟨stC_cg _ _ (Int.le_refl 0) (fun z z0 z1 => ?_) c, ?_, trivial⟩
    · simp (disch := omega) only [rI_wI_s, rI_wI_f, rI_wI_c, rI_wd_c, rd_wI_c, rd_wd_c, rd_wd_s, rd_wd_n, rI_wJ, rd_wJ, rI_ix, wI_ix, rJ_ix, wJ_ix, rI_wI_o, Nat.reduceAdd]
    · simp (disch := omega) only [rI_wI_s, rI_wI_f, rI_wI_c, rI_wd_c, rd_wI_c, rd_wd_c, rd_wd_s, rd_wd_n, rI_wJ, rd_wJ, rI_ix, wI_ix, rJ_ix, wJ_ix, rI_wI_o, Nat.reduceAdd, Int.zero_add]
  · rw [stM_app]
    refine ⟨stM_cg _ _ (Int.le_refl 0) (fun z z0 z1 => ?_) d, ?_, ?_, trivial⟩
    · simp (disch := omega) only [rI_wI_s, rI_wI_f, rI_wI_c, rI_wd_c, rd_wI_c, rd_wd_c, rd_wd_s, rd_wd_n, rI_wJ, rd_wJ, rI_ix, wI_ix, rJ_ix, wJ_ix, rI_wI_o, Nat.reduceAdd]
    · simp (disch := omega) only [rI_wI_s, rI_wI_f, rI_wI_c, rI_wd_c, rd_wI_c, rd_wd_c, rd_wd_s, rd_wd_n, rI_wJ, rd_wJ, rI_ix, wI_ix, rJ_ix, wJ_ix, rI_wI_o, Nat.reduceAdd, Int.zero_add]
    · simp (disch := omega) only [rI_wI_s, rI_wI_f, rI_wI_c, rI_wd_c, rd_wI_c, rd_wd_c, rd_wd_s, rd_wd_n, rI_wJ, rd_wJ, rI_ix, wI_ix, rJ_ix, wJ_ix, rI_wI_o, Nat.reduceAdd, Int.zero_add]
theorem e_step2 {C : List Op} {s σ : Mem} (E : Em C s σ) (hu : ((encL C).length : Int) < 399) {x : Int} : ∃ s1 : Mem, f_La_addStep 165 (zi x) s = some s1 ∧ FA s s1 ∧ ∀ s2 σ2 : Mem, rI s2 165 6 = rI s1 165 6 → (∀ j : Nat, rI s2 170 j = rI s1 170 j) → rI σ2 0 14 = rI σ 0 14 → (∀ j : Nat, rI σ2 6 j = rI σ 6 j) → ∃ s3 σ3 : Mem, f_La_addStep 165 (zi (-4)) s2 = some s3 ∧ f_M_lay 0 (zi 26) (zi x) σ2 = some σ3 ∧ Em (C ++ [(26, x)]) s3 σ3 ∧ FA s2 s3 ∧ GA σ2 σ3 := by
  obtain ⟨a, b, c, d⟩ := E
  have hl := enc_len C
  refine ⟨_, e_addS a (by omega) (by omega), fun k j h1 h2 => by simp (disch := omega) only [rI_wI_s, rI_wI_f, rI_wI_c, rI_wd_c, rd_wI_c, rd_wd_c, rd_wd_s, rd_wd_n, rI_wJ, rd_wJ, rI_ix, wI_ix, rJ_ix, wJ_ix, rI_wI_o, Nat.reduceAdd], fun s2 σ2 w1 w2 w3 w4 => ?_⟩
  have a2 : rI s2 165 6 = zi ((encL C).length + 1) := w1.trans (by simp (disch := omega) only [rI_wI_s, rI_wI_f, rI_wI_c, rI_wd_c, rd_wI_c, rd_wd_c, rd_wd_s, rd_wd_n, rI_wJ, rd_wJ, rI_ix, wI_ix, rJ_ix, wJ_ix, rI_wI_o, Nat.reduceAdd])
  refine ⟨_, _, e_addS a2 (by omega) (by omega), e_lay (w3.trans b) (by omega) (by omega), ⟨?_, ?_, ?_, ?_⟩, fun k j h1 h2 => by simp (disch := omega) only [rI_wI_s, rI_wI_f, rI_wI_c, rI_wd_c, rd_wI_c, rd_wd_c, rd_wd_s, rd_wd_n, rI_wJ, rd_wJ, rI_ix, wI_ix, rJ_ix, wJ_ix, rI_wI_o, Nat.reduceAdd], fun k j h1 h2 => by simp (disch := omega) only [rI_wI_s, rI_wI_f, rI_wI_c, rI_wd_c, rd_wI_c, rd_wd_c, rd_wd_s, rd_wd_n, rI_wJ, rd_wJ, rI_ix, wI_ix, rJ_ix, wJ_ix, rI_wI_o, Nat.reduceAdd]⟩
  · simp (disch := omega) only [rI_wI_s, rI_wI_f, rI_wI_c, rI_wd_c, rd_wI_c, rd_wd_c, rd_wd_s, rd_wd_n, rI_wJ, rd_wJ, rI_ix, wI_ix, rJ_ix, wJ_ix, rI_wI_o, Nat.reduceAdd]
    rw [encL_app, encL_one, show encC (26, x) = [x, -4] from rfl, List.length_append]
    rfl
  · simp (disch := omega) only [rI_wI_s, rI_wI_f, rI_wI_c, rI_wd_c, rd_wI_c, rd_wd_c, rd_wd_s, rd_wd_n, rI_wJ, rd_wJ, rI_ix, wI_ix, rJ_ix, wJ_ix, rI_wI_o, Nat.reduceAdd]
    rw [List.length_append]
    rfl
  · rw [encL_app, encL_one, show encC (26, x) = [x, -4] from rfl, stC_app]
    have w2' : ∀ z : Int, rd s2 170 z = rd (wI (wd s 170 (encL C).length (zi x)) 165 6 (zi ((encL C).length + 1))) 170 z := fun z => w2 _
    refine ⟨stC_cg _ _ (Int.le_refl 0) (fun z z0 z1 => ?_) c, ?_, ?_, trivial⟩
    · simp (disch := omega) only [rI_wI_s, rI_wI_f, rI_wI_c, rI_wd_c, rd_wI_c, rd_wd_c, rd_wd_s, rd_wd_n, rI_wJ, rd_wJ, rI_ix, wI_ix, rJ_ix, wJ_ix, rI_wI_o, Nat.reduceAdd, w2']
    · simp (disch := omega) only [rI_wI_s, rI_wI_f, rI_wI_c, rI_wd_c, rd_wI_c, rd_wd_c, rd_wd_s, rd_wd_n, rI_wJ, rd_wJ, rI_ix, wI_ix, rJ_ix, wJ_ix, rI_wI_o, Nat.reduceAdd, Int.zero_add, w2']
    · simp (disch := omega) only [rI_wI_s, rI_wI_f, rI_wI_c, rI_wd_c, rd_wI_c, rd_wd_c, rd_wd_s, rd_wd_n, rI_wJ, rd_wJ, rI_ix, wI_ix, rJ_ix, wJ_ix, rI_wI_o, Nat.reduceAdd, Int.zero_add]
  · rw [stM_app]
    have w4' : ∀ z : Int, rd σ2 6 z = rd σ 6 z := fun z => w4 _
    refine ⟨stM_cg _ _ (Int.le_refl 0) (fun z z0 z1 => ?_) d, ?_, ?_, trivial⟩
    · simp (disch := omega) only [rI_wI_s, rI_wI_f, rI_wI_c, rI_wd_c, rd_wI_c, rd_wd_c, rd_wd_s, rd_wd_n, rI_wJ, rd_wJ, rI_ix, wI_ix, rJ_ix, wJ_ix, rI_wI_o, Nat.reduceAdd, w4']
    · simp (disch := omega) only [rI_wI_s, rI_wI_f, rI_wI_c, rI_wd_c, rd_wI_c, rd_wd_c, rd_wd_s, rd_wd_n, rI_wJ, rd_wJ, rI_ix, wI_ix, rJ_ix, wJ_ix, rI_wI_o, Nat.reduceAdd, Int.zero_add]
    · simp (disch := omega) only [rI_wI_s, rI_wI_f, rI_wI_c, rI_wd_c, rd_wI_c, rd_wd_c, rd_wd_s, rd_wd_n, rI_wJ, rd_wJ, rI_ix, wI_ix, rJ_ix, wJ_ix, rI_wI_o, Nat.reduceAdd, Int.zero_add]
/-! code that can be worked -/
theorem rn_app (F : Int → Int32) : ∀ (a b : List Op) (st : List Int32), rn F (a ++ b) st = (rn F a st).bind (rn F b)
  | [], b, st => rfl
  | o :: a, b, st => by
    show (rnO F o st).bind (rn F (a ++ b)) = ((rnO F o st).bind (rn F a)).bind (rn F b)
    cases rnO F o st with
    | none => rfl
    | some x => exact rn_app F a b x
theorem Cod.mono {c : List Op} {d d' : Nat} {b : Bool} (h : Cod c d b) (hd : d ≤ d') : Cod c d' b := ⟨h.1, fun F => by
  obtain ⟨v, h1, h2⟩ := h.2 F
  exact ⟨v, h1, fun st hs => h2 st (by omega)⟩⟩
theorem Cod.weak {c : List Op} {d : Nat} {b : Bool} (h : Cod c d b) : Cod c d false := ⟨h.1, fun F => by
  obtain ⟨v, h1, h2⟩ := h.2 F
  exact ⟨v, fun w => (by cases w), h2⟩⟩
theorem cod_n {n : Int} (n0 : 0 ≤ n) (n1 : n ≤ 9999) : Cod [(0, n)] 1 false := by
  refine ⟨fun o ho => ?_, fun F => ⟨zi n, fun w => (by cases w), fun st hs => ?_⟩⟩
  · rw [List.mem_singleton] at ho
    subst ho
    exact Or.inl ⟨rfl, n0, n1⟩
  · show (rnO F (0, n) st).bind (rn F []) = _
    rw [show rnO F (0, n) st = (if st.length < 60 then some (zi n :: st) else none) from rfl, if_pos (by omega)]
    rfl
theorem cod_a {k m : Int} (k0 : 1 ≤ k) (k1 : k ≤ 10) : Cod [(k, m)] 1 false := by
  refine ⟨fun o ho => ?_, fun F => ⟨F k, fun w => (by cases w), fun st hs => ?_⟩⟩
  · rw [List.mem_singleton] at ho
    subst ho
    exact Or.inr (Or.inl ⟨k0, k1⟩)
  · show (rnO F (k, m) st).bind (rn F []) = _
    unfold rnO
    rw [if_neg (by show ¬ k = 0; omega), if_pos k1, if_pos (by omega)]
    rfl
theorem ok_app {a b : List Op} (ha : ∀ o ∈ a, opOk o) (hb : ∀ o ∈ b, opOk o) : ∀ o ∈ a ++ b, opOk o := fun o ho => by
  rcases List.mem_append.mp ho with h | h
  · exact ha o h
  · exact hb o h
theorem ok_one {o : Op} (h : opOk o) : ∀ p ∈ [o], opOk p := fun p hp => by
  rw [List.mem_singleton] at hp
  subst hp
  exact h
theorem cod_div {c : List Op} {d : Nat} {b : Bool} {x : Int} (h : Cod c d b) (x0 : 1 ≤ x) (x1 : x ≤ 9999) : Cod (c ++ [(26, x)]) d false := by
  refine ⟨ok_app h.1 (ok_one (Or.inr (Or.inr (Or.inl ⟨rfl, x0, x1⟩)))), fun F => ?_⟩
  obtain ⟨v, _, h2⟩ := h.2 F
  exact ⟨v / zi x, fun w => (by cases w), fun st hs => by
    rw [rn_app, h2 st hs]
    rfl⟩
theorem cod_not {c : List Op} {d : Nat} {m : Int} (h : Cod c d true) : Cod (c ++ [(30, m)]) d true := by
  refine ⟨ok_app h.1 (ok_one (Or.inr (Or.inr (Or.inr (Or.inr ⟨by show (27 : Int) ≤ 30; omega, by show (30 : Int) ≤ 32; omega⟩))))), fun F => ?_⟩
  obtain ⟨v, h1, h2⟩ := h.2 F
  refine ⟨zi 1 - v, fun _ => ?_, fun st hs => by
    rw [rn_app, h2 st hs]
    rfl⟩
  rcases h1 rfl with rfl | rfl
  · exact Or.inr (by rw [zi_sub]; rfl)
  · exact Or.inl (by rw [zi_sub]; rfl)
theorem cod_two {a b : List Op} {d d1 d2 : Nat} {p q : Bool} {k m : Int} (ha : Cod a d1 p) (hb : Cod b d2 q) (h1 : d1 ≤ d) (h2 : d2 + 1 ≤ d) (hk : k = 23 ∨ k = 24 ∨ k = 25 ∨ k = 27 ∨ k = 28 ∨ k = 29 ∨ k = 31 ∨ k = 32) {w : Bool} (hw : w = true → (k = 27 ∨ k = 28 ∨ k = 29 ∨ (k = 31 ∨ k = 32) ∧ p = true ∧ q = true)) : Cod (a ++ b ++ [(k, m)]) d w := by
  refine ⟨ok_app (ok_app ha.1 hb.1) (ok_one (by unfold opOk; dsimp only; omega)), fun F => ?_⟩
  obtain ⟨v, v1, v2⟩ := ha.2 F
  obtain ⟨u, u1, u2⟩ := hb.2 F
  refine ⟨opTwo k v u, fun hw' => ?_, fun st hs => ?_⟩
  · rcases hw hw' with rfl | rfl | rfl | ⟨hk', hp, hq⟩
    · show cif (v < u) (zi 1) (zi 0) = zi 0 ∨ cif (v < u) (zi 1) (zi 0) = zi 1
      by_cases g : v < u
      · rw [cif_pos g]; exact Or.inr rfl
      · rw [cif_neg g]; exact Or.inl rfl
    · show cif (v = u) (zi 1) (zi 0) = zi 0 ∨ cif (v = u) (zi 1) (zi 0) = zi 1
      by_cases g : v = u
      · rw [cif_pos g]; exact Or.inr rfl
      · rw [cif_neg g]; exact Or.inl rfl
    · show cif (u < v) (zi 1) (zi 0) = zi 0 ∨ cif (u < v) (zi 1) (zi 0) = zi 1
      by_cases g : u < v
      · rw [cif_pos g]; exact Or.inr rfl
      · rw [cif_neg g]; exact Or.inl rfl
    · rcases hk' with rfl | rfl
      · rcases v1 hp with rfl | rfl <;> rcases u1 hq with rfl | rfl
        · exact Or.inl rfl
        · exact Or.inl rfl
        · exact Or.inl rfl
        · exact Or.inr rfl
      · rcases v1 hp with rfl | rfl <;> rcases u1 hq with rfl | rfl
        · exact Or.inl rfl
        · exact Or.inr rfl
        · exact Or.inr rfl
        · exact Or.inr rfl
  · rw [rn_app, rn_app, v2 st (by omega), Option.bind_some, u2 (v :: st) (by simp only [List.length_cons]; omega), Option.bind_some]
    show (rnO F (k, m) (u :: v :: st)).bind (rn F []) = _
    have e : rnO F (k, m) (u :: v :: st) = some (opTwo k v u :: st) := by
      unfold rnO
      rw [if_neg (by show ¬ k = 0; omega), if_neg (by show ¬ k ≤ 10; omega), if_neg (by show ¬ k = 26; omega), if_neg (by show ¬ k = 30; omega)]
    rw [e]
    rfl
