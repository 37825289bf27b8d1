/-! WHAT THE START GIVES of strings, statics and links -/
def sT (q : Nat × Nat × Nat) : Term := .string (cN q.1) q.2.1
def vT (q : Nat × Nat × Nat) : Term := .field (sT q) "java/lang/String" "value" "[B"
def nBy (q : Nat × Nat × Nat) : Nat := (ext0 (q.2.2 + 1000)).1
def strW (q : Nat × Nat × Nat) : List Cond := .exactly (sT q) "java/lang/String" :: .eq (.field (sT q) "java/lang/String" "coder" "B") (.int 0) :: .arrayOf (vT q) .byte :: .eq (.length (vT q)) (.int (Int32.ofNat (nBy q))) :: (List.range (nBy q)).map (fun j => .eq (.elem (vT q) (.int (Int32.ofNat j))) (.int ((ext0 (q.2.2 + 1000)).2 j)))
def hT : Term := .static "PierTooFar$Told" "HEAP_NUMBERS" "[I"
def zT : Term := .static "jdk/internal/util/Preconditions" "SIOOBE_FORMATTER" "Ljava/util/function/BiFunction;"
def heapW : List Cond := .isRef hT :: .arrayOf hT .int :: .eq (.length hT) (.int (Int32.ofNat 10)) :: (List.range 10).map (fun j => .eq (.elem hT (.int (Int32.ofNat j))) (.int ((ext0 0).2 j)))
def isN : Cond → Bool
  | .not _ => false
  | _ => true
set_option maxRecDepth 100000 in
theorem nw_str : SL.flatMap strW = (((flatC (Jvm.Cond.and given_1 narrow_1)).filter isN).drop 22).take 297 := by decide +kernel
set_option maxRecDepth 100000 in
theorem nw_heap : heapW = ((flatC (Jvm.Cond.and given_1 narrow_1)).drop 9).take 13 := by decide +kernel
set_option maxRecDepth 100000 in
theorem nw_two : [Cond.eq (.static "java/lang/String" "COMPACT_STRINGS" "Z") (.int 1), Cond.isRef zT] = ((flatC (Jvm.Cond.and given_1 narrow_1)).drop 4).take 2 := by decide +kernel
theorem dt_in {α : Type} {L M : List α} {a b : Nat} (h : L = (M.drop a).take b) : ∀ w ∈ L, w ∈ M := fun w hw => by
  rw [h] at hw
  exact List.mem_of_mem_drop (List.mem_of_mem_take hw)
def rfO (v : Option Value) : Nat := match v with
  | some (.ref a) => a
  | _ => 0
def noO (v : Option Value) : Option Nat := match v with
  | some (.ref a) => some a
  | _ => none
def sQ (k : Nat) : Nat × Nat × Nat := (SL.find? (fun q => q.2.2 == k)).getD (0, 0, 0)
theorem sQ_ok : ∀ k ∈ List.range strs.length, sQ k ∈ SL ∧ (sQ k).2.2 = k := by decide +kernel
theorem sQ_in : ∀ q ∈ SL, sQ q.2.2 = q ∧ q.2.2 < strs.length := by decide +kernel
theorem nBy_lt : ∀ q ∈ SL, nBy q < 1000 := by decide +kernel
set_option maxRecDepth 100000 in
theorem tb_sr : ∀ q ∈ SL, Cond.stringRef (cN q.1) q.2.1 ((strs[q.2.2]?).getD "") ∈ lw_tbl := tb_mp0 (fun q : Nat × Nat × Nat => Cond.stringRef (cN q.1) q.2.1 ((strs[q.2.2]?).getD "")) SL [(3, 230), (4, 47), (7, 53), (7, 60), (7, 61), (7, 62), (7, 63), (7, 64), (7, 65), (7, 70), (7, 71), (7, 72), (7, 73), (7, 74), (7, 75), (7, 76), (7, 77), (7, 78), (7, 79), (7, 80), (7, 81), (7, 82), (7, 83), (7, 84)] (by rfl)
theorem xf_OF {args : Array Value} {s : State} {t : Term} {o n d : String} {v : Value} {a : Nat} {A : Nat → Prop} (ht : t.eval args s none [] s = some (.ref a)) (hv : (Term.field t o n d).eval args s none [] s = some v) (hA : ∀ a : Nat, a < s.heap.size → ¬ A a) : va_OF o n d v a A s s.heap := by
  cases hfo : s.fieldFound? o n d with
  | none =>
    rw [va_fe ht] at hv
    simp [State.fieldOf?, State.fieldNamed?, hfo] at hv
  | some x =>
    obtain ⟨cf, k, fi, f⟩ := x
    obtain ⟨g1, cell, g2, g3, -, -, g6⟩ := Term.field_spec hfo ht hv
    exact ⟨cf, k, fi, f, cell, hfo, g1, g2, g3, g6, hA _ (Array.getElem?_eq_some_iff.mp g2).1⟩
theorem xf_start {args : Array Value} {s : State} (hgv : (Jvm.Cond.and given_1 narrow_1).before args s = true) (hts : ∀ w ∈ lw_tbl, w.before args s = true) : ∃ (ea sa va : Nat → Nat) (no : Option Nat), ∀ A : Nat → Prop, (∀ a : Nat, a < s.heap.size → ¬ A a) → XFf ea sa va no A s := by
  have hn := flat_of_before _ hgv
  have hH : ∀ w ∈ heapW, w.before args s = true := fun w hw => hn w (dt_in nw_heap w hw)
  have hS : ∀ q ∈ SL, ∀ w ∈ strW q, w.before args s = true := fun q hq w hw => hn w (List.mem_filter.mp (dt_in nw_str w (List.mem_flatMap.mpr ⟨q, hq, hw⟩))).1
  have h4 : (Cond.eq (.static "java/lang/String" "COMPACT_STRINGS" "Z") (.int 1)).before args s = true := hn _ (dt_in nw_two _ List.mem_cons_self)
  have h5 : (Cond.isRef zT).before args s = true := hn _ (dt_in nw_two _ (List.mem_cons_of_mem _ List.mem_cons_self))
  have iTold := hts (Cond.initialized "PierTooFar$Told") (tp_in 1 _ (List.mem_of_getElem? (i := 4) rfl))
  have iStr := hts (Cond.initialized "java/lang/String") (tp_in 1 _ (List.mem_of_getElem? (i := 15) rfl))
  have iPre := hts (Cond.initialized "jdk/internal/util/Preconditions") (tp_in 1 _ (List.mem_of_getElem? (i := 17) rfl))
  have lTold := hts (Cond.laysStatic "PierTooFar$Told" "HEAP_NUMBERS" "[I") (tp_in 6 _ (List.mem_of_getElem? (i := 69) rfl))
  have lStr := hts (Cond.laysStatic "java/lang/String" "COMPACT_STRINGS" "Z") (tp_in 4 _ (List.mem_of_getElem? (i := 0) rfl))
  have lPre := hts (Cond.laysStatic "jdk/internal/util/Preconditions" "SIOOBE_FORMATTER" "Ljava/util/function/BiFunction;") (tp_in 4 _ (List.mem_of_getElem? (i := 16) rfl))
  have f1 := hts (Cond.fieldLink "java/lang/String" 38 "java/lang/String" "COMPACT_STRINGS" "Z") (tp_in 3 _ (List.mem_of_getElem? (i := 239) rfl))
  have f2 := hts (Cond.fieldLink "java/lang/String" 1053 "jdk/internal/util/Preconditions" "SIOOBE_FORMATTER" "Ljava/util/function/BiFunction;") (tp_in 4 _ (List.mem_of_getElem? (i := 15) rfl))
  have f3 := hts (Cond.fieldLink "PierTooFar$Told" 96 "PierTooFar$Told" "HEAP_NUMBERS" "[I") (tp_in 6 _ (List.mem_of_getElem? (i := 68) rfl))
  have f4 := hts (Cond.fieldLink "java/lang/String" 9 "java/lang/String" "value" "[B") (tp_in 9 _ (List.mem_of_getElem? (i := 20) rfl))
  have f5 := hts (Cond.fieldLink "java/lang/String" 15 "java/lang/String" "coder" "B") (tp_in 9 _ (List.mem_of_getElem? (i := 21) rfl))
  -- a string's own facts
  have hstr : ∀ q ∈ SL, ∀ A : Nat → Prop, (∀ a : Nat, a < s.heap.size → ¬ A a) → (sT q).eval args s none [] s = some (.ref (rfO ((sT q).eval args s none [] s))) ∧ va_O "java/lang/String" (rfO ((sT q).eval args s none [] s)) A s s.heap ∧ va_OF "java/lang/String" "coder" "B" (.int 0) (rfO ((sT q).eval args s none [] s)) A s s.heap ∧ va_OF "java/lang/String" "value" "[B" (.ref (rfO ((vT q).eval args s none [] s))) (rfO ((sT q).eval args s none [] s)) A s s.heap ∧ va_T .byte (rfO ((vT q).eval args s none [] s)) (ext0 (q.2.2 + 1000)).1 (fun j => .int ((ext0 (q.2.2 + 1000)).2 j)) A s s.heap := by
    intro q hq A hA
    have hw := hS q hq
    have w1 := hw (.exactly (sT q) "java/lang/String") List.mem_cons_self
    have w2 := hw (.eq (.field (sT q) "java/lang/String" "coder" "B") (.int 0)) (List.mem_cons_of_mem _ List.mem_cons_self)
    have w3 := hw (.arrayOf (vT q) .byte) (List.mem_cons_of_mem _ (List.mem_cons_of_mem _ List.mem_cons_self))
    have w4 := hw (.eq (.length (vT q)) (.int (Int32.ofNat (nBy q)))) (List.mem_cons_of_mem _ (List.mem_cons_of_mem _ (List.mem_cons_of_mem _ List.mem_cons_self)))
    have w5 : ∀ j, j < nBy q → (Cond.eq (.elem (vT q) (.int (Int32.ofNat j))) (.int ((ext0 (q.2.2 + 1000)).2 j))).before args s = true := fun j hj => hw _ (List.mem_cons_of_mem _ (List.mem_cons_of_mem _ (List.mem_cons_of_mem _ (List.mem_cons_of_mem _ (List.mem_map.mpr ⟨j, List.mem_range.mpr hj, rfl⟩)))))
    obtain ⟨a, c, cA, kA, q1, -⟩ := Cond.exactly_spec (args := args) (first := s) (o := none) (s := s) (idx := []) (t := sT q) (cls := "java/lang/String") w1
    obtain ⟨t, ht, hT⟩ := va_Tof (A := A) (N := nBy q) (f := fun j => .int ((ext0 (q.2.2 + 1000)).2 j)) (by have := nBy_lt q hq; omega) w3 (va_eqv w4 rfl) (fun j hj => va_eqv (w5 j hj) rfl) hA
    rw [q1, ht]
    exact ⟨rfl, va_Oof w1 q1 hA, xf_OF q1 (va_eqv w2 rfl) hA, xf_OF q1 ht hA, hT⟩
  refine ⟨fun _ => rfO (hT.eval args s none [] s), fun k => rfO ((sT (sQ k)).eval args s none [] s), fun k => rfO ((vT (sQ k)).eval args s none [] s), noO (zT.eval args s none [] s), fun A hA => ?_⟩
  have w2 := hH (.arrayOf hT .int) (List.mem_cons_of_mem _ List.mem_cons_self)
  have w3 := hH (.eq (.length hT) (.int (Int32.ofNat 10))) (List.mem_cons_of_mem _ (List.mem_cons_of_mem _ List.mem_cons_self))
  have w4 : ∀ j, j < 10 → (Cond.eq (.elem hT (.int (Int32.ofNat j))) (.int ((ext0 0).2 j))).before args s = true := fun j hj => hH _ (List.mem_cons_of_mem _ (List.mem_cons_of_mem _ (List.mem_cons_of_mem _ (List.mem_map.mpr ⟨j, List.mem_range.mpr hj, rfl⟩))))
  obtain ⟨t0, ht0, hT0⟩ := va_Tof (A := A) (N := 10) (f := fun j => .int ((ext0 0).2 j)) (by omega) w2 (va_eqv w3 rfl) (fun j hj => va_eqv (w4 j hj) rfl) hA
  have ez : va_Z "jdk/internal/util/Preconditions" "SIOOBE_FORMATTER" "Ljava/util/function/BiFunction;" (va_rf (noO (zT.eval args s none [] s))) A s s.heap := by
    obtain ⟨v, hv, hr⟩ := Cond.isRef_spec h5
    rw [hv]
    have e : va_rf (noO (some v)) = v := by
      cases v <;> first | rfl | cases hr
    rw [e]
    exact va_Zof lPre iPre hv hA
  refine ⟨fun k hk => ?_, fun k hk => ?_, fun q hq => va_Nw.of rfl (hts _ (tb_fl2 q hq)), fun q hq => va_Nw.of rfl (hts _ (tb_ml2 q hq)), fun q hq => ⟨(sQ_in q hq).2, ?_⟩, List.mem_cons_self, ?_, va_Zof lStr iStr (va_eqv h4 rfl) hA, ez, ?_, ?_⟩
  · obtain rfl : k = 0 := by simpa using hk
    rw [ht0]
    exact hT0
  · obtain ⟨g1, g2⟩ := sQ_ok k (List.mem_range.mpr hk)
    have h := hstr _ g1 A hA
    rw [g2] at h
    exact h.2
  · have h := hstr q hq A hA
    show vk_R (cN q.1) q.2.1 _ (rfO ((sT (sQ q.2.2)).eval args s none [] s)) s
    rw [(sQ_in q hq).1]
    exact vk_R.of (hts _ (tb_sr q hq)) h.1
  · rw [ht0]
    exact va_Zref lTold iTold ht0 hA
  · intro q hq a
    have h3 : q = (16, 38, 1) ∨ q = (16, 1053, 2) ∨ q = (8, 96, 0) := by simpa [GSL] using hq
    rcases h3 with rfl | rfl | rfl
    · exact va_tabs rfl rfl f1
    · exact va_tabs rfl rfl f2
    · exact va_tabs rfl rfl f3
  · intro q hq a
    have h3 : q = (16, 9, 0) ∨ q = (16, 15, 1) := by simpa [SFL] using hq
    rcases h3 with rfl | rfl
    · exact va_tabs rfl rfl f4
    · exact va_tabs rfl rfl f5
