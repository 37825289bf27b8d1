/-! ways, by YEARS and LONG: sums -/
theorem rdJ_s {s : Mem} {k : Nat} {a b : Int} {v : Int64} (h : a = b) : rdJ (wdJ s k a v) k b = v := by subst h; exact rJ_wJ_s
theorem rdJ_n {s : Mem} {k : Nat} {a b : Int} {v : Int64} (h1 : 0 ≤ a) (h2 : 0 ≤ b) (h : a ≠ b) : rdJ (wdJ s k a v) k b = rdJ s k b := rJ_wJ_f (by omega)
theorem rdJ_c {s : Mem} {k k' : Nat} {a b : Int} {v : Int64} (h : k ≠ k') : rdJ (wdJ s k a v) k' b = rdJ s k' b := rJ_wJ_c h
theorem sm_swap : ∀ (a b : Nat) (f : Int → Int → Int), sm a (fun i => sm b (fun j => f i j)) = sm b (fun j => sm a (fun i => f i j))
  | 0, b, f => by
    rw [sm_zero b (f := fun j => sm 0 (fun i => f i j)) (fun _ _ _ => rfl)]
    rfl
  | a + 1, b, f => by
    show sm a (fun i => sm b (fun j => f i j)) + sm b (fun j => f a j) = _
    rw [sm_swap a b f, sm_sum]
    rfl
theorem sm_mulc (c : Int) : ∀ (n : Nat) (f : Int → Int), c * sm n f = sm n (fun i => c * f i)
  | 0, f => by simp [sm]
  | n + 1, f => by
    show c * (sm n f + f n) = sm n (fun i => c * f i) + c * f n
    rw [Int.mul_add, sm_mulc c n f]
theorem sm_le : ∀ (n : Nat) {f g : Int → Int}, (∀ i : Int, 0 ≤ i → i < n → f i ≤ g i) → sm n f ≤ sm n g
  | 0, _, _, _ => Int.le_refl _
  | n + 1, f, g, h => by
    have a := sm_le n (f := f) (g := g) (fun i h0 h1 => h i h0 (by omega))
    have b := h n (by omega) (by omega)
    show sm n f + f n ≤ sm n g + g n
    omega
theorem sm_nn (n : Nat) {f : Int → Int} (h : ∀ i : Int, 0 ≤ i → i < n → 0 ≤ f i) : 0 ≤ sm n f := by
  have := sm_le n (f := fun _ => 0) (g := f) h
  rw [sm_zero n (fun _ _ _ => rfl)] at this
  exact this
theorem sm_mem : ∀ (n : Nat) {f : Int → Int} {i : Int}, (∀ i : Int, 0 ≤ i → i < n → 0 ≤ f i) → 0 ≤ i → i < n → f i ≤ sm n f
  | 0, f, i, _, h0, h1 => by omega
  | n + 1, f, i, h, h0, h1 => by
    show f i ≤ sm n f + f n
    have a := sm_nn n (f := f) (fun i h0 h1 => h i h0 (by omega))
    have b := h n (by omega) (by omega)
    by_cases g : i = n
    · rw [g]; omega
    · have := sm_mem n (f := f) (i := i) (fun i h0 h1 => h i h0 (by omega)) h0 (by omega)
      omega
theorem sm_pick : ∀ (n : Nat) {a : Int} {P : Int → Prop} {X : Int → Int}, 0 ≤ a → a < n → sm n (fun t => cif (a = t ∧ P t) (X t) 0) = cif (P a) (X a) 0
  | 0, a, P, X, h0, h1 => by omega
  | n + 1, a, P, X, h0, h1 => by
    show sm n (fun t => cif (a = t ∧ P t) (X t) 0) + cif (a = (n : Int) ∧ P n) (X n) 0 = _
    by_cases g : a = n
    · rw [sm_zero n (fun t t0 t1 => cif_neg (by omega)), Int.zero_add]
      by_cases hp : P a
      · rw [cif_pos hp, cif_pos ⟨g, by rw [← g]; exact hp⟩, g]
      · rw [cif_neg hp, cif_neg (fun z => hp (by rw [g]; exact z.2))]
    · rw [sm_pick n h0 (by omega), cif_neg (show ¬ (a = (n : Int) ∧ P n) from fun z => g z.1), Int.add_zero]
def lgr (l d : Int) : Int := min 200 (l + (d + 1) * 3)
noncomputable def Tw (ok : Int → Int → Prop) : Nat → Int → Int
  | 0, l => if l = 0 then 1 else 0
  | y + 1, t => sm 201 (fun l => sm 6 (fun d => cif (lgr l d = t ∧ ok y t) (Tw ok y l) 0))
noncomputable def Og (ok : Int → Int → Prop) : Nat → Int → Int
  | 0, _ => 1
  | k + 1, l => sm 6 (fun d => cif (ok (11 - k) (lgr l d)) (Og ok k (lgr l d)) 0)
theorem lgr_bd {l d : Int} (l0 : 0 ≤ l) (d0 : 0 ≤ d) : 0 ≤ lgr l d ∧ lgr l d < 201 := by
  unfold lgr
  omega
theorem cif_nn {P : Prop} {x : Int} (h : 0 ≤ x) : 0 ≤ cif P x 0 ∧ cif P x 0 ≤ x := by
  by_cases p : P
  · rw [cif_pos p]; omega
  · rw [cif_neg p]; omega
theorem Tw_nn {ok : Int → Int → Prop} : ∀ (y : Nat) (t : Int), 0 ≤ Tw ok y t
  | 0, t => by unfold Tw; split <;> omega
  | y + 1, t => sm_nn 201 (fun l _ _ => sm_nn 6 (fun d _ _ => (cif_nn (Tw_nn y l)).1))
theorem Tw_sum {ok : Int → Int → Prop} : ∀ y : Nat, sm 201 (Tw ok y) ≤ 6 ^ y
  | 0 => by
    have h : sm 201 (fun t => cif ((0 : Int) = t ∧ True) 1 0) = cif True 1 0 := sm_pick 201 (a := 0) (P := fun _ => True) (X := fun _ => 1) (by omega) (by omega)
    rw [sm_cg (f := Tw ok 0) (g := fun t => cif ((0 : Int) = t ∧ True) 1 0) (fun t t0 t1 => by
      show (if t = 0 then (1 : Int) else 0) = _
      by_cases g : t = 0
      · rw [if_pos g, cif_pos ⟨g.symm, trivial⟩]
      · rw [if_neg g, cif_neg (fun z => g z.1.symm)]), h, cif_pos trivial]
    decide
  | y + 1 => by
    have e : sm 201 (Tw ok (y + 1)) = sm 201 (fun l => sm 6 (fun d => sm 201 (fun t => cif (lgr l d = t ∧ ok y t) (Tw ok y l) 0))) := by
      show sm 201 (fun t => sm 201 (fun l => sm 6 (fun d => cif (lgr l d = t ∧ ok y t) (Tw ok y l) 0))) = _
      rw [sm_swap]
      exact sm_cg (fun l _ _ => sm_swap 201 6 (fun t d => cif (lgr l d = t ∧ ok y t) (Tw ok y l) 0))
    have h1 : sm 201 (fun l => sm 6 (fun d => sm 201 (fun t => cif (lgr l d = t ∧ ok y t) (Tw ok y l) 0))) ≤ sm 201 (fun l => 6 * Tw ok y l) := by
      refine sm_le 201 (fun l l0 l1 => ?_)
      have h2 : sm 6 (fun d => sm 201 (fun t => cif (lgr l d = t ∧ ok y t) (Tw ok y l) 0)) ≤ sm 6 (fun _ => Tw ok y l) := by
        refine sm_le 6 (fun d d0 d1 => ?_)
        obtain ⟨g0, g1⟩ := lgr_bd l0 d0
        rw [sm_pick 201 (P := fun t => ok y t) (X := fun _ => Tw ok y l) g0 g1]
        exact (cif_nn (Tw_nn y l)).2
      have h3 : sm 6 (fun _ => Tw ok y l) = 6 * Tw ok y l := by
        simp only [sm]
        omega
      omega
    have h4 := Tw_sum y (ok := ok)
    rw [← sm_mulc] at h1
    rw [e]
    have e6 : (6 : Int) ^ (y + 1) = 6 ^ y * 6 := Int.pow_succ 6 y
    omega
theorem pow6 {y : Nat} (h : y ≤ 12) : (6 : Int) ^ y ≤ 2176782336 := by
  have h' := Nat.pow_le_pow_right (n := 6) (by omega) h
  have e : ∀ m : Nat, (6 : Int) ^ m = ((6 ^ m : Nat) : Int) := fun m => by simp
  rw [e]
  have : (6 : Nat) ^ 12 = 2176782336 := by decide
  omega
theorem Tw_bd {ok : Int → Int → Prop} {y : Nat} {t : Int} (h : y ≤ 12) (t0 : 0 ≤ t) (t1 : t < 201) : 0 ≤ Tw ok y t ∧ Tw ok y t ≤ 2176782336 := by
  have a := sm_mem 201 (f := Tw ok y) (i := t) (fun i _ _ => Tw_nn y i) t0 t1
  have b := Tw_sum (ok := ok) y
  have c := pow6 h
  exact ⟨Tw_nn y t, by omega⟩
theorem Og_bd {ok : Int → Int → Prop} : ∀ (k : Nat) (l : Int), 0 ≤ Og ok k l ∧ Og ok k l ≤ 6 ^ k
  | 0, l => by unfold Og; decide
  | k + 1, l => by
    have h : ∀ d : Int, 0 ≤ d → d < 6 → 0 ≤ cif (ok (11 - k) (lgr l d)) (Og ok k (lgr l d)) 0 ∧ cif (ok (11 - k) (lgr l d)) (Og ok k (lgr l d)) 0 ≤ 6 ^ k := fun d _ _ => by
      obtain ⟨a, b⟩ := Og_bd (ok := ok) k (lgr l d)
      have c := cif_nn (P := ok (11 - k) (lgr l d)) a
      omega
    have s := sm_bd 6 h
    have e6 : (6 : Int) ^ (k + 1) = 6 ^ k * 6 := Int.pow_succ 6 k
    rw [e6]
    show 0 ≤ sm 6 (fun d => cif (ok (11 - k) (lgr l d)) (Og ok k (lgr l d)) 0) ∧ sm 6 (fun d => cif (ok (11 - k) (lgr l d)) (Og ok k (lgr l d)) 0) ≤ _
    omega
/-- the ways through any YEAR are all ways -/
theorem ways_all {ok : Int → Int → Prop} : ∀ (y : Nat), y ≤ 12 → sm 201 (fun l => Tw ok y l * Og ok (12 - y) l) = Og ok 12 0
  | 0, _ => by
    have h : sm 201 (fun t => cif ((0 : Int) = t ∧ True) (Og ok 12 t) 0) = cif True (Og ok 12 0) 0 := sm_pick 201 (a := 0) (P := fun _ => True) (X := Og ok 12) (by omega) (by omega)
    rw [cif_pos trivial] at h
    rw [← h]
    refine sm_cg (fun t t0 t1 => ?_)
    show (if t = 0 then (1 : Int) else 0) * _ = _
    by_cases g : t = 0
    · rw [if_pos g, cif_pos ⟨g.symm, trivial⟩, Int.one_mul]
    · rw [if_neg g, cif_neg (fun z => g z.1.symm), Int.zero_mul]
  | y + 1, hy => by
    rw [← ways_all y (by omega)]
    have e1 : ∀ t : Int, Tw ok (y + 1) t * Og ok (12 - (y + 1)) t = sm 201 (fun l => sm 6 (fun d => Tw ok y l * cif (lgr l d = t ∧ ok y t) (Og ok (12 - (y + 1)) t) 0)) := by
      intro t
      show sm 201 (fun l => sm 6 (fun d => cif (lgr l d = t ∧ ok y t) (Tw ok y l) 0)) * _ = _
      rw [Int.mul_comm, sm_mulc]
      refine sm_cg (fun l _ _ => ?_)
      rw [sm_mulc]
      refine sm_cg (fun d _ _ => ?_)
      by_cases c : lgr l d = t ∧ ok y t
      · rw [cif_pos c, cif_pos c, Int.mul_comm]
      · rw [cif_neg c, cif_neg c, Int.mul_zero, Int.mul_zero]
    rw [sm_cg (fun t _ _ => e1 t), sm_swap]
    refine sm_cg (fun l l0 l1 => ?_)
    rw [sm_swap]
    have ek : 12 - y = (12 - (y + 1)) + 1 := by omega
    rw [ek]
    show _ = Tw ok y l * sm 6 (fun d => cif (ok (11 - (12 - (y + 1) : Nat)) (lgr l d)) (Og ok (12 - (y + 1)) (lgr l d)) 0)
    rw [sm_mulc]
    refine sm_cg (fun d d0 d1 => ?_)
    obtain ⟨g0, g1⟩ := lgr_bd l0 d0
    rw [← sm_mulc, sm_pick 201 (P := fun t => ok y t) (X := Og ok (12 - (y + 1))) g0 g1, show (11 : Int) - ((12 - (y + 1) : Nat) : Int) = y by omega]
/-- the told lengths: what a LONG behind a YEAR must be -/
def DdR (c : Int) (Y D : Int → Int) (s σ : Mem) : Prop := 0 ≤ c ∧ c ≤ 12 ∧ rI s 43 3 = zi c ∧ rd σ 1 59 = zi c ∧ ∀ i : Int, 0 ≤ i → i < c → 0 ≤ Y i ∧ Y i ≤ 11 ∧ 0 ≤ D i ∧ D i ≤ 200 ∧ rd s 44 i = zi (Y i) ∧ rd σ 1 (288 + 2 * i) = zi (Y i) ∧ rd s 45 i = zi (D i) ∧ rd σ 1 (288 + 2 * i + 1) = zi (D i)
def okD (c : Int) (Y D : Int → Int) (y t : Int) : Prop := ∀ i : Int, 0 ≤ i → i < c → Y i = y → D i = t
theorem e_isTold {c : Int} {Y D : Int → Int} {s σ s' : Mem} (h : DdR c Y D s σ) (hf : ∀ k j : Nat, rI s' k j = rI s k j) {y t : Int} (y0 : 0 ≤ y) (y1 : y ≤ 12) (t0 : 0 ≤ t) (t1 : t ≤ 200) : ∃ b : Bool, f_Wa_isTold 43 (zi y) (zi t) s' = some (b, s') ∧ (b = true ↔ okD c Y D y t) := by
  obtain ⟨c1, c2, c3, c4, c5⟩ := h
  have c3' : rI s' 43 3 = zi c := (hf _ _).trans c3
  have key : ∀ (n : Nat) (i : Int), 0 ≤ i → i ≤ c → c - i < n → ∃ b : Bool, f_Wa_isTold_2 n 43 (zi y) (zi t) (zi i) s' = some (b, s') ∧ (b = true ↔ ∀ j : Int, i ≤ j → j < c → Y j = y → D j = t) := by
    intro n
    induction n with
    | zero => intro i i0 i1 i2; omega
    | succ n ih =>
      intro i i0 i1 i2
      rw [f_Wa_isTold_2]
      by_cases g : c ≤ i
      · simp (disch := omega) only [zi_div, zi_and31, zi_neg, zi_add, zi_sub, zi_mul, zi_lt, zi_le, zi_eq, zi_imx, zi_imn, zi_iab, gd_i, vpb_0, vpb_1, b2i_0, b2i_1, b2i_e0, b2i_e1, lf_b, lf_s, lf_n, Option.bind_some, decide_eq_false_iff_not, decide_eq_true_eq, cif_t, cif_f, cif_pos, cif_neg, if_true, if_false, if_pos, if_neg, zi_ofNat, Nat.zero_add, Nat.reduceAdd, Nat.reduceSub, Nat.reduceMul, Int.reduceAdd, Int.reduceSub, Int.reduceMul, Int.reduceNeg, Bool.false_eq_true, reduceCtorEq, rI_wI_s, rI_wI_f, rI_wI_c, rI_wd_c, rd_wI_c, rd_wd_c, rd_wd_s, rd_wd_n, rI_wJ, rd_wJ, rI_ix, wI_ix, rJ_ix, wJ_ix, zl_0, zl_1, zl_2, zl_3, zl_4, zl_5, zl_6, zl_7, zl_8, zl_9, zl_10, zl_11, zl_12, zl_13, zl_14, zl_15, zl_16, zl_20, zl_21, zl_22, zl_23, zl_24, zl_25, zl_26, zl_27, zl_28, zl_29, zl_30, zl_31, zl_32, zl_37, zl_40, zl_41, zl_42, zl_43, zl_44, zl_45, zl_46, zl_47, zl_48, zl_49, zl_50, zl_51, zl_52, zl_53, zl_54, zl_55, zl_56, zl_57, zl_58, zl_59, zl_60, zl_61, zl_62, zl_63, zl_64, zl_65, zl_74, zl_86, zl_90, zl_97, zl_98, zl_99, zl_100, zl_122, zl_140, zl_141, zl_142, zl_143, zl_145, zl_146, zl_147, zl_149, zl_150, zl_159, zl_160, zl_161, zl_162, zl_178, zl_199, zl_200, zl_201, zl_210, zl_230, zl_240, zl_245, zl_255, zl_256, zl_257, zl_288, zl_312, zl_332, zl_340, zl_356, zl_366, zl_399, zl_400, zl_500, zl_820, zl_966, zl_982, zl_998, zl_999, zl_1000, zl_1002, zl_1003, zl_1004, zl_1012, zl_1013, zl_1014, zl_1015, zl_1016, zl_1017, zl_1018, zl_1020, zl_1021, zl_1024, zl_1030, zl_1850, zl_2412, zl_2613, zl_9999, zl_10000, zl_99999, zl_1000000, lc_3, lc_4, lc_5, lc_6, lc_8, lc_9, lc_10, lc_12, lc_13, lc_14, lc_15, lc_16, lc_17, lc_19, lc_20, lc_21, lc_23, lc_24, lc_25, lc_27, lc_28, lc_29, lc_32, lc_33, lc_34, lc_36, lc_37, lc_38, lc_40, lc_41, lc_42, lc_44, lc_45, lc_46, lc_48, lc_49, lc_50, lc_52, lc_53, lc_54, lc_55, lc_56, lc_57, lc_58, lc_60, lc_122, lc_123, lc_124, lc_125, lc_127, lc_129, lc_161, lc_162, lc_163, lc_164, lc_166, lc_167, lc_168, lc_169, lc_170, lc_171, lc_173, lc_174, lc_175, lc_177, lc_190, c3']
        exact ⟨true, rfl, by simp only [true_iff]; intro j j0 j1; omega⟩
      · obtain ⟨a1, a2, a3, a4, a5, a6, a7, a8⟩ := c5 i i0 (by omega)
        have a5' : rd s' 44 i = zi (Y i) := (hf _ _).trans a5
        have a7' : rd s' 45 i = zi (D i) := (hf _ _).trans a7
        have e1 : f_Ro_first 43 (zi i) s' = some (rd s' 44 i, s') := e_Ro_first (n := 12) rfl (by decide) c3' i0 (by omega) (by omega)
        have e2 : f_Ro_second 43 (zi i) s' = some (rd s' 45 i, s') := e_Ro_second (n := 12) rfl (by decide) c3' i0 (by omega) (by omega)
        obtain ⟨b, e, hb⟩ := ih (i + 1) (by omega) (by omega) (by omega)
        have lift : (Y i = y → D i = t) → ((∀ j : Int, i + 1 ≤ j → j < c → Y j = y → D j = t) ↔ ∀ j : Int, i ≤ j → j < c → Y j = y → D j = t) := fun hi => ⟨fun z j j0 j1 => by
          by_cases hj : j = i
          · rw [hj]; exact hi
          · exact z j (by omega) j1, fun z j j0 j1 => z j (by omega) j1⟩
        by_cases g1 : Y i = y
        · by_cases g2 : D i = t
          · simp (disch := omega) only [zi_div, zi_and31, zi_neg, zi_add, zi_sub, zi_mul, zi_lt, zi_le, zi_eq, zi_imx, zi_imn, zi_iab, gd_i, vpb_0, vpb_1, b2i_0, b2i_1, b2i_e0, b2i_e1, lf_b, lf_s, lf_n, Option.bind_some, decide_eq_false_iff_not, decide_eq_true_eq, cif_t, cif_f, cif_pos, cif_neg, if_true, if_false, if_pos, if_neg, zi_ofNat, Nat.zero_add, Nat.reduceAdd, Nat.reduceSub, Nat.reduceMul, Int.reduceAdd, Int.reduceSub, Int.reduceMul, Int.reduceNeg, Bool.false_eq_true, reduceCtorEq, rI_wI_s, rI_wI_f, rI_wI_c, rI_wd_c, rd_wI_c, rd_wd_c, rd_wd_s, rd_wd_n, rI_wJ, rd_wJ, rI_ix, wI_ix, rJ_ix, wJ_ix, zl_0, zl_1, zl_2, zl_3, zl_4, zl_5, zl_6, zl_7, zl_8, zl_9, zl_10, zl_11, zl_12, zl_13, zl_14, zl_15, zl_16, zl_20, zl_21, zl_22, zl_23, zl_24, zl_25, zl_26, zl_27, zl_28, zl_29, zl_30, zl_31, zl_32, zl_37, zl_40, zl_41, zl_42, zl_43, zl_44, zl_45, zl_46, zl_47, zl_48, zl_49, zl_50, zl_51, zl_52, zl_53, zl_54, zl_55, zl_56, zl_57, zl_58, zl_59, zl_60, zl_61, zl_62, zl_63, zl_64, zl_65, zl_74, zl_86, zl_90, zl_97, zl_98, zl_99, zl_100, zl_122, zl_140, zl_141, zl_142, zl_143, zl_145, zl_146, zl_147, zl_149, zl_150, zl_159, zl_160, zl_161, zl_162, zl_178, zl_199, zl_200, zl_201, zl_210, zl_230, zl_240, zl_245, zl_255, zl_256, zl_257, zl_288, zl_312, zl_332, zl_340, zl_356, zl_366, zl_399, zl_400, zl_500, zl_820, zl_966, zl_982, zl_998, zl_999, zl_1000, zl_1002, zl_1003, zl_1004, zl_1012, zl_1013, zl_1014, zl_1015, zl_1016, zl_1017, zl_1018, zl_1020, zl_1021, zl_1024, zl_1030, zl_1850, zl_2412, zl_2613, zl_9999, zl_10000, zl_99999, zl_1000000, lc_3, lc_4, lc_5, lc_6, lc_8, lc_9, lc_10, lc_12, lc_13, lc_14, lc_15, lc_16, lc_17, lc_19, lc_20, lc_21, lc_23, lc_24, lc_25, lc_27, lc_28, lc_29, lc_32, lc_33, lc_34, lc_36, lc_37, lc_38, lc_40, lc_41, lc_42, lc_44, lc_45, lc_46, lc_48, lc_49, lc_50, lc_52, lc_53, lc_54, lc_55, lc_56, lc_57, lc_58, lc_60, lc_122, lc_123, lc_124, lc_125, lc_127, lc_129, lc_161, lc_162, lc_163, lc_164, lc_166, lc_167, lc_168, lc_169, lc_170, lc_171, lc_173, lc_174, lc_175, lc_177, lc_190, c3', e1, e2, a5', a7']
            exact ⟨b, e, hb.trans (lift (fun _ => g2))⟩
          · simp (disch := omega) only [zi_div, zi_and31, zi_neg, zi_add, zi_sub, zi_mul, zi_lt, zi_le, zi_eq, zi_imx, zi_imn, zi_iab, gd_i, vpb_0, vpb_1, b2i_0, b2i_1, b2i_e0, b2i_e1, lf_b, lf_s, lf_n, Option.bind_some, decide_eq_false_iff_not, decide_eq_true_eq, cif_t, cif_f, cif_pos, cif_neg, if_true, if_false, if_pos, if_neg, zi_ofNat, Nat.zero_add, Nat.reduceAdd, Nat.reduceSub, Nat.reduceMul, Int.reduceAdd, Int.reduceSub, Int.reduceMul, Int.reduceNeg, Bool.false_eq_true, reduceCtorEq, rI_wI_s, rI_wI_f, rI_wI_c, rI_wd_c, rd_wI_c, rd_wd_c, rd_wd_s, rd_wd_n, rI_wJ, rd_wJ, rI_ix, wI_ix, rJ_ix, wJ_ix, zl_0, zl_1, zl_2, zl_3, zl_4, zl_5, zl_6, zl_7, zl_8, zl_9, zl_10, zl_11, zl_12, zl_13, zl_14, zl_15, zl_16, zl_20, zl_21, zl_22, zl_23, zl_24, zl_25, zl_26, zl_27, zl_28, zl_29, zl_30, zl_31, zl_32, zl_37, zl_40, zl_41, zl_42, zl_43, zl_44, zl_45, zl_46, zl_47, zl_48, zl_49, zl_50, zl_51, zl_52, zl_53, zl_54, zl_55, zl_56, zl_57, zl_58, zl_59, zl_60, zl_61, zl_62, zl_63, zl_64, zl_65, zl_74, zl_86, zl_90, zl_97, zl_98, zl_99, zl_100, zl_122, zl_140, zl_141, zl_142, zl_143, zl_145, zl_146, zl_147, zl_149, zl_150, zl_159, zl_160, zl_161, zl_162, zl_178, zl_199, zl_200, zl_201, zl_210, zl_230, zl_240, zl_245, zl_255, zl_256, zl_257, zl_288, zl_312, zl_332, zl_340, zl_356, zl_366, zl_399, zl_400, zl_500, zl_820, zl_966, zl_982, zl_998, zl_999, zl_1000, zl_1002, zl_1003, zl_1004, zl_1012, zl_1013, zl_1014, zl_1015, zl_1016, zl_1017, zl_1018, zl_1020, zl_1021, zl_1024, zl_1030, zl_1850, zl_2412, zl_2613, zl_9999, zl_10000, zl_99999, zl_1000000, lc_3, lc_4, lc_5, lc_6, lc_8, lc_9, lc_10, lc_12, lc_13, lc_14, lc_15, lc_16, lc_17, lc_19, lc_20, lc_21, lc_23, lc_24, lc_25, lc_27, lc_28, lc_29, lc_32, lc_33, lc_34, lc_36, lc_37, lc_38, lc_40, lc_41, lc_42, lc_44, lc_45, lc_46, lc_48, lc_49, lc_50, lc_52, lc_53, lc_54, lc_55, lc_56, lc_57, lc_58, lc_60, lc_122, lc_123, lc_124, lc_125, lc_127, lc_129, lc_161, lc_162, lc_163, lc_164, lc_166, lc_167, lc_168, lc_169, lc_170, lc_171, lc_173, lc_174, lc_175, lc_177, lc_190, c3', e1, e2, a5', a7']
            exact ⟨false, rfl, by simp only [Bool.false_eq_true, false_iff]; exact fun z => g2 (z i (by omega) (by omega) g1)⟩
        · simp (disch := omega) only [zi_div, zi_and31, zi_neg, zi_add, zi_sub, zi_mul, zi_lt, zi_le, zi_eq, zi_imx, zi_imn, zi_iab, gd_i, vpb_0, vpb_1, b2i_0, b2i_1, b2i_e0, b2i_e1, lf_b, lf_s, lf_n, Option.bind_some, decide_eq_false_iff_not, decide_eq_true_eq, cif_t, cif_f, cif_pos, cif_neg, if_true, if_false, if_pos, if_neg, zi_ofNat, Nat.zero_add, Nat.reduceAdd, Nat.reduceSub, Nat.reduceMul, Int.reduceAdd, Int.reduceSub, Int.reduceMul, Int.reduceNeg, Bool.false_eq_true, reduceCtorEq, rI_wI_s, rI_wI_f, rI_wI_c, rI_wd_c, rd_wI_c, rd_wd_c, rd_wd_s, rd_wd_n, rI_wJ, rd_wJ, rI_ix, wI_ix, rJ_ix, wJ_ix, zl_0, zl_1, zl_2, zl_3, zl_4, zl_5, zl_6, zl_7, zl_8, zl_9, zl_10, zl_11, zl_12, zl_13, zl_14, zl_15, zl_16, zl_20, zl_21, zl_22, zl_23, zl_24, zl_25, zl_26, zl_27, zl_28, zl_29, zl_30, zl_31, zl_32, zl_37, zl_40, zl_41, zl_42, zl_43, zl_44, zl_45, zl_46, zl_47, zl_48, zl_49, zl_50, zl_51, zl_52, zl_53, zl_54, zl_55, zl_56, zl_57, zl_58, zl_59, zl_60, zl_61, zl_62, zl_63, zl_64, zl_65, zl_74, zl_86, zl_90, zl_97, zl_98, zl_99, zl_100, zl_122, zl_140, zl_141, zl_142, zl_143, zl_145, zl_146, zl_147, zl_149, zl_150, zl_159, zl_160, zl_161, zl_162, zl_178, zl_199, zl_200, zl_201, zl_210, zl_230, zl_240, zl_245, zl_255, zl_256, zl_257, zl_288, zl_312, zl_332, zl_340, zl_356, zl_366, zl_399, zl_400, zl_500, zl_820, zl_966, zl_982, zl_998, zl_999, zl_1000, zl_1002, zl_1003, zl_1004, zl_1012, zl_1013, zl_1014, zl_1015, zl_1016, zl_1017, zl_1018, zl_1020, zl_1021, zl_1024, zl_1030, zl_1850, zl_2412, zl_2613, zl_9999, zl_10000, zl_99999, zl_1000000, lc_3, lc_4, lc_5, lc_6, lc_8, lc_9, lc_10, lc_12, lc_13, lc_14, lc_15, lc_16, lc_17, lc_19, lc_20, lc_21, lc_23, lc_24, lc_25, lc_27, lc_28, lc_29, lc_32, lc_33, lc_34, lc_36, lc_37, lc_38, lc_40, lc_41, lc_42, lc_44, lc_45, lc_46, lc_48, lc_49, lc_50, lc_52, lc_53, lc_54, lc_55, lc_56, lc_57, lc_58, lc_60, lc_122, lc_123, lc_124, lc_125, lc_127, lc_129, lc_161, lc_162, lc_163, lc_164, lc_166, lc_167, lc_168, lc_169, lc_170, lc_171, lc_173, lc_174, lc_175, lc_177, lc_190, c3', e1, e2, a5', a7']
          exact ⟨b, e, hb.trans (lift (fun z => absurd z g1))⟩
  rw [f_Wa_isTold_eq, b_Wa_isTold]
  exact key FU 0 (by omega) c1 (by have := FU_ge; omega)
theorem e_canBe {c : Int} {Y D : Int → Int} {s σ σ' : Mem} (h : DdR c Y D s σ) (hf : ∀ k j : Nat, rI σ' k j = rI σ k j) {y t : Int} (y0 : 0 ≤ y) (y1 : y ≤ 12) (t0 : 0 ≤ t) (t1 : t ≤ 200) : ∃ b : Bool, f_M_canBe 0 (zi y) (zi t) σ' = some (b, σ') ∧ (b = true ↔ okD c Y D y t) := by
  obtain ⟨c1, c2, c3, c4, c5⟩ := h
  have c4' : rd σ' 1 59 = zi c := (hf _ _).trans c4
  have key : ∀ (n : Nat) (i : Int), 0 ≤ i → i ≤ c → c - i < n → ∃ b : Bool, f_M_canBe_2 n 0 (zi y) (zi t) (zi i) σ' = some (b, σ') ∧ (b = true ↔ ∀ j : Int, i ≤ j → j < c → Y j = y → D j = t) := by
    intro n
    induction n with
    | zero => intro i i0 i1 i2; omega
    | succ n ih =>
      intro i i0 i1 i2
      rw [f_M_canBe_2]
      by_cases g : c ≤ i
      · simp (disch := omega) only [zi_div, zi_and31, zi_neg, zi_add, zi_sub, zi_mul, zi_lt, zi_le, zi_eq, zi_imx, zi_imn, zi_iab, gd_i, vpb_0, vpb_1, b2i_0, b2i_1, b2i_e0, b2i_e1, lf_b, lf_s, lf_n, Option.bind_some, decide_eq_false_iff_not, decide_eq_true_eq, cif_t, cif_f, cif_pos, cif_neg, if_true, if_false, if_pos, if_neg, zi_ofNat, Nat.zero_add, Nat.reduceAdd, Nat.reduceSub, Nat.reduceMul, Int.reduceAdd, Int.reduceSub, Int.reduceMul, Int.reduceNeg, Bool.false_eq_true, reduceCtorEq, rI_wI_s, rI_wI_f, rI_wI_c, rI_wd_c, rd_wI_c, rd_wd_c, rd_wd_s, rd_wd_n, rI_wJ, rd_wJ, rI_ix, wI_ix, rJ_ix, wJ_ix, zl_0, zl_1, zl_2, zl_3, zl_4, zl_5, zl_6, zl_7, zl_8, zl_9, zl_10, zl_11, zl_12, zl_13, zl_14, zl_15, zl_16, zl_20, zl_21, zl_22, zl_23, zl_24, zl_25, zl_26, zl_27, zl_28, zl_29, zl_30, zl_31, zl_32, zl_37, zl_40, zl_41, zl_42, zl_43, zl_44, zl_45, zl_46, zl_47, zl_48, zl_49, zl_50, zl_51, zl_52, zl_53, zl_54, zl_55, zl_56, zl_57, zl_58, zl_59, zl_60, zl_61, zl_62, zl_63, zl_64, zl_65, zl_74, zl_86, zl_90, zl_97, zl_98, zl_99, zl_100, zl_122, zl_140, zl_141, zl_142, zl_143, zl_145, zl_146, zl_147, zl_149, zl_150, zl_159, zl_160, zl_161, zl_162, zl_178, zl_199, zl_200, zl_201, zl_210, zl_230, zl_240, zl_245, zl_255, zl_256, zl_257, zl_288, zl_312, zl_332, zl_340, zl_356, zl_366, zl_399, zl_400, zl_500, zl_820, zl_966, zl_982, zl_998, zl_999, zl_1000, zl_1002, zl_1003, zl_1004, zl_1012, zl_1013, zl_1014, zl_1015, zl_1016, zl_1017, zl_1018, zl_1020, zl_1021, zl_1024, zl_1030, zl_1850, zl_2412, zl_2613, zl_9999, zl_10000, zl_99999, zl_1000000, lm_1, lm_2, lm_3, lm_4, lm_5, lm_6, lm_7, lm_8, lm_9, lm_10, lm_11, lm_12, lm_13, lm_14, lm_15, c4']
        exact ⟨true, rfl, by simp only [true_iff]; intro j j0 j1; omega⟩
      · obtain ⟨a1, a2, a3, a4, a5, a6, a7, a8⟩ := c5 i i0 (by omega)
        have a6' : rd σ' 1 (288 + 2 * i) = zi (Y i) := (hf _ _).trans a6
        have a8' : rd σ' 1 (288 + 2 * i + 1) = zi (D i) := (hf _ _).trans a8
        obtain ⟨b, e, hb⟩ := ih (i + 1) (by omega) (by omega) (by omega)
        have lift : (Y i = y → D i = t) → ((∀ j : Int, i + 1 ≤ j → j < c → Y j = y → D j = t) ↔ ∀ j : Int, i ≤ j → j < c → Y j = y → D j = t) := fun hi => ⟨fun z j j0 j1 => by
          by_cases hj : j = i
          · rw [hj]; exact hi
          · exact z j (by omega) j1, fun z j j0 j1 => z j (by omega) j1⟩
        by_cases g1 : Y i = y
        · by_cases g2 : D i = t
          · simp (disch := omega) only [zi_div, zi_and31, zi_neg, zi_add, zi_sub, zi_mul, zi_lt, zi_le, zi_eq, zi_imx, zi_imn, zi_iab, gd_i, vpb_0, vpb_1, b2i_0, b2i_1, b2i_e0, b2i_e1, lf_b, lf_s, lf_n, Option.bind_some, decide_eq_false_iff_not, decide_eq_true_eq, cif_t, cif_f, cif_pos, cif_neg, if_true, if_false, if_pos, if_neg, zi_ofNat, Nat.zero_add, Nat.reduceAdd, Nat.reduceSub, Nat.reduceMul, Int.reduceAdd, Int.reduceSub, Int.reduceMul, Int.reduceNeg, Bool.false_eq_true, reduceCtorEq, rI_wI_s, rI_wI_f, rI_wI_c, rI_wd_c, rd_wI_c, rd_wd_c, rd_wd_s, rd_wd_n, rI_wJ, rd_wJ, rI_ix, wI_ix, rJ_ix, wJ_ix, zl_0, zl_1, zl_2, zl_3, zl_4, zl_5, zl_6, zl_7, zl_8, zl_9, zl_10, zl_11, zl_12, zl_13, zl_14, zl_15, zl_16, zl_20, zl_21, zl_22, zl_23, zl_24, zl_25, zl_26, zl_27, zl_28, zl_29, zl_30, zl_31, zl_32, zl_37, zl_40, zl_41, zl_42, zl_43, zl_44, zl_45, zl_46, zl_47, zl_48, zl_49, zl_50, zl_51, zl_52, zl_53, zl_54, zl_55, zl_56, zl_57, zl_58, zl_59, zl_60, zl_61, zl_62, zl_63, zl_64, zl_65, zl_74, zl_86, zl_90, zl_97, zl_98, zl_99, zl_100, zl_122, zl_140, zl_141, zl_142, zl_143, zl_145, zl_146, zl_147, zl_149, zl_150, zl_159, zl_160, zl_161, zl_162, zl_178, zl_199, zl_200, zl_201, zl_210, zl_230, zl_240, zl_245, zl_255, zl_256, zl_257, zl_288, zl_312, zl_332, zl_340, zl_356, zl_366, zl_399, zl_400, zl_500, zl_820, zl_966, zl_982, zl_998, zl_999, zl_1000, zl_1002, zl_1003, zl_1004, zl_1012, zl_1013, zl_1014, zl_1015, zl_1016, zl_1017, zl_1018, zl_1020, zl_1021, zl_1024, zl_1030, zl_1850, zl_2412, zl_2613, zl_9999, zl_10000, zl_99999, zl_1000000, lm_1, lm_2, lm_3, lm_4, lm_5, lm_6, lm_7, lm_8, lm_9, lm_10, lm_11, lm_12, lm_13, lm_14, lm_15, c4', a6', a8']
            exact ⟨b, e, hb.trans (lift (fun _ => g2))⟩
          · simp (disch := omega) only [zi_div, zi_and31, zi_neg, zi_add, zi_sub, zi_mul, zi_lt, zi_le, zi_eq, zi_imx, zi_imn, zi_iab, gd_i, vpb_0, vpb_1, b2i_0, b2i_1, b2i_e0, b2i_e1, lf_b, lf_s, lf_n, Option.bind_some, decide_eq_false_iff_not, decide_eq_true_eq, cif_t, cif_f, cif_pos, cif_neg, if_true, if_false, if_pos, if_neg, zi_ofNat, Nat.zero_add, Nat.reduceAdd, Nat.reduceSub, Nat.reduceMul, Int.reduceAdd, Int.reduceSub, Int.reduceMul, Int.reduceNeg, Bool.false_eq_true, reduceCtorEq, rI_wI_s, rI_wI_f, rI_wI_c, rI_wd_c, rd_wI_c, rd_wd_c, rd_wd_s, rd_wd_n, rI_wJ, rd_wJ, rI_ix, wI_ix, rJ_ix, wJ_ix, zl_0, zl_1, zl_2, zl_3, zl_4, zl_5, zl_6, zl_7, zl_8, zl_9, zl_10, zl_11, zl_12, zl_13, zl_14, zl_15, zl_16, zl_20, zl_21, zl_22, zl_23, zl_24, zl_25, zl_26, zl_27, zl_28, zl_29, zl_30, zl_31, zl_32, zl_37, zl_40, zl_41, zl_42, zl_43, zl_44, zl_45, zl_46, zl_47, zl_48, zl_49, zl_50, zl_51, zl_52, zl_53, zl_54, zl_55, zl_56, zl_57, zl_58, zl_59, zl_60, zl_61, zl_62, zl_63, zl_64, zl_65, zl_74, zl_86, zl_90, zl_97, zl_98, zl_99, zl_100, zl_122, zl_140, zl_141, zl_142, zl_143, zl_145, zl_146, zl_147, zl_149, zl_150, zl_159, zl_160, zl_161, zl_162, zl_178, zl_199, zl_200, zl_201, zl_210, zl_230, zl_240, zl_245, zl_255, zl_256, zl_257, zl_288, zl_312, zl_332, zl_340, zl_356, zl_366, zl_399, zl_400, zl_500, zl_820, zl_966, zl_982, zl_998, zl_999, zl_1000, zl_1002, zl_1003, zl_1004, zl_1012, zl_1013, zl_1014, zl_1015, zl_1016, zl_1017, zl_1018, zl_1020, zl_1021, zl_1024, zl_1030, zl_1850, zl_2412, zl_2613, zl_9999, zl_10000, zl_99999, zl_1000000, lm_1, lm_2, lm_3, lm_4, lm_5, lm_6, lm_7, lm_8, lm_9, lm_10, lm_11, lm_12, lm_13, lm_14, lm_15, c4', a6', a8']
            exact ⟨false, rfl, by simp only [Bool.false_eq_true, false_iff]; exact fun z => g2 (z i (by omega) (by omega) g1)⟩
        · simp (disch := omega) only [zi_div, zi_and31, zi_neg, zi_add, zi_sub, zi_mul, zi_lt, zi_le, zi_eq, zi_imx, zi_imn, zi_iab, gd_i, vpb_0, vpb_1, b2i_0, b2i_1, b2i_e0, b2i_e1, lf_b, lf_s, lf_n, Option.bind_some, decide_eq_false_iff_not, decide_eq_true_eq, cif_t, cif_f, cif_pos, cif_neg, if_true, if_false, if_pos, if_neg, zi_ofNat, Nat.zero_add, Nat.reduceAdd, Nat.reduceSub, Nat.reduceMul, Int.reduceAdd, Int.reduceSub, Int.reduceMul, Int.reduceNeg, Bool.false_eq_true, reduceCtorEq, rI_wI_s, rI_wI_f, rI_wI_c, rI_wd_c, rd_wI_c, rd_wd_c, rd_wd_s, rd_wd_n, rI_wJ, rd_wJ, rI_ix, wI_ix, rJ_ix, wJ_ix, zl_0, zl_1, zl_2, zl_3, zl_4, zl_5, zl_6, zl_7, zl_8, zl_9, zl_10, zl_11, zl_12, zl_13, zl_14, zl_15, zl_16, zl_20, zl_21, zl_22, zl_23, zl_24, zl_25, zl_26, zl_27, zl_28, zl_29, zl_30, zl_31, zl_32, zl_37, zl_40, zl_41, zl_42, zl_43, zl_44, zl_45, zl_46, zl_47, zl_48, zl_49, zl_50, zl_51, zl_52, zl_53, zl_54, zl_55, zl_56, zl_57, zl_58, zl_59, zl_60, zl_61, zl_62, zl_63, zl_64, zl_65, zl_74, zl_86, zl_90, zl_97, zl_98, zl_99, zl_100, zl_122, zl_140, zl_141, zl_142, zl_143, zl_145, zl_146, zl_147, zl_149, zl_150, zl_159, zl_160, zl_161, zl_162, zl_178, zl_199, zl_200, zl_201, zl_210, zl_230, zl_240, zl_245, zl_255, zl_256, zl_257, zl_288, zl_312, zl_332, zl_340, zl_356, zl_366, zl_399, zl_400, zl_500, zl_820, zl_966, zl_982, zl_998, zl_999, zl_1000, zl_1002, zl_1003, zl_1004, zl_1012, zl_1013, zl_1014, zl_1015, zl_1016, zl_1017, zl_1018, zl_1020, zl_1021, zl_1024, zl_1030, zl_1850, zl_2412, zl_2613, zl_9999, zl_10000, zl_99999, zl_1000000, lm_1, lm_2, lm_3, lm_4, lm_5, lm_6, lm_7, lm_8, lm_9, lm_10, lm_11, lm_12, lm_13, lm_14, lm_15, c4', a6', a8']
          exact ⟨b, e, hb.trans (lift (fun z => absurd z g1))⟩
  rw [f_M_canBe_eq, b_M_canBe]
  exact key FU 0 (by omega) c1 (by have := FU_ge; omega)
theorem lenH {y : Nat} (h : y < 12) : lenC (178 + y) = 201 ∧ lenC (191 + y) = 201 := by
  have h' : y = 0 ∨ y = 1 ∨ y = 2 ∨ y = 3 ∨ y = 4 ∨ y = 5 ∨ y = 6 ∨ y = 7 ∨ y = 8 ∨ y = 9 ∨ y = 10 ∨ y = 11 := by omega
  rcases h' with rfl | rfl | rfl | rfl | rfl | rfl | rfl | rfl | rfl | rfl | rfl | rfl <;> exact ⟨rfl, rfl⟩
theorem e_longer {l d : Int} {s : Mem} (l0 : 0 ≤ l) (l1 : l ≤ 200) (d0 : 0 ≤ d) (d1 : d < 6) : f_Wa_longer (zi l) (zi d) s = some (zi (lgr l d), s) := by
  rw [f_Wa_longer_eq, b_Wa_longer]
  unfold lgr
  simp (disch := omega) only [zi_div, zi_and31, zi_neg, zi_add, zi_sub, zi_mul, zi_lt, zi_le, zi_eq, zi_imx, zi_imn, zi_iab, gd_i, vpb_0, vpb_1, b2i_0, b2i_1, b2i_e0, b2i_e1, lf_b, lf_s, lf_n, Option.bind_some, decide_eq_false_iff_not, decide_eq_true_eq, cif_t, cif_f, cif_pos, cif_neg, if_true, if_false, if_pos, if_neg, zi_ofNat, Nat.zero_add, Nat.reduceAdd, Nat.reduceSub, Nat.reduceMul, Int.reduceAdd, Int.reduceSub, Int.reduceMul, Int.reduceNeg, Bool.false_eq_true, reduceCtorEq, rI_wI_s, rI_wI_f, rI_wI_c, rI_wd_c, rd_wI_c, rd_wd_c, rd_wd_s, rd_wd_n, rI_wJ, rd_wJ, rI_ix, wI_ix, rJ_ix, wJ_ix, zl_0, zl_1, zl_2, zl_3, zl_4, zl_5, zl_6, zl_7, zl_8, zl_9, zl_10, zl_11, zl_12, zl_13, zl_14, zl_15, zl_16, zl_20, zl_21, zl_22, zl_23, zl_24, zl_25, zl_26, zl_27, zl_28, zl_29, zl_30, zl_31, zl_32, zl_37, zl_40, zl_41, zl_42, zl_43, zl_44, zl_45, zl_46, zl_47, zl_48, zl_49, zl_50, zl_51, zl_52, zl_53, zl_54, zl_55, zl_56, zl_57, zl_58, zl_59, zl_60, zl_61, zl_62, zl_63, zl_64, zl_65, zl_74, zl_86, zl_90, zl_97, zl_98, zl_99, zl_100, zl_122, zl_140, zl_141, zl_142, zl_143, zl_145, zl_146, zl_147, zl_149, zl_150, zl_159, zl_160, zl_161, zl_162, zl_178, zl_199, zl_200, zl_201, zl_210, zl_230, zl_240, zl_245, zl_255, zl_256, zl_257, zl_288, zl_312, zl_332, zl_340, zl_356, zl_366, zl_399, zl_400, zl_500, zl_820, zl_966, zl_982, zl_998, zl_999, zl_1000, zl_1002, zl_1003, zl_1004, zl_1012, zl_1013, zl_1014, zl_1015, zl_1016, zl_1017, zl_1018, zl_1020, zl_1021, zl_1024, zl_1030, zl_1850, zl_2412, zl_2613, zl_9999, zl_10000, zl_99999, zl_1000000]
