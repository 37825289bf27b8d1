/-! THE TWO WORLDS: the class's cells and the model's, at addresses of their own -/
def XFf (ea sa va : Nat → Nat) (no : Option Nat) (A : Nat → Prop) (s : State) : Prop :=
  (∀ k ∈ ([0] : List Nat), va_T .int (ea k) (ext0 k).1 (fun j => .int ((ext0 k).2 j)) A s s.heap)
    ∧ (∀ k, k < strs.length → va_O "java/lang/String" (sa k) A s s.heap ∧ va_OF "java/lang/String" "coder" "B" (.int 0) (sa k) A s s.heap ∧ va_OF "java/lang/String" "value" "[B" (.ref (va k)) (sa k) A s s.heap ∧ va_T .byte (va k) (ext0 (k + 1000)).1 (fun j => .int ((ext0 (k + 1000)).2 j)) A s s.heap)
    ∧ (∀ q ∈ FL2, va_Nw (wFN q) s) ∧ (∀ q ∈ ML2, va_Nw (wMN q) s)
    ∧ (∀ q ∈ SL, q.2.2 < strs.length ∧ vk_R (cN q.1) q.2.1 ((strs[q.2.2]?).getD "") (sa q.2.2) s)
    ∧ 0 ∈ ([0] : List Nat) ∧ va_Z "PierTooFar$Told" "HEAP_NUMBERS" "[I" (.ref (ea 0)) A s s.heap
    ∧ va_Z "java/lang/String" "COMPACT_STRINGS" "Z" (.int 1) A s s.heap
    ∧ va_Z "jdk/internal/util/Preconditions" "SIOOBE_FORMATTER" "Ljava/util/function/BiFunction;" (va_rf no) A s s.heap
    ∧ (∀ q ∈ GSL, ∀ a : Array Value, (Cond.fieldLink (cN q.1) q.2.1 (if q.2.2 = 0 then "PierTooFar$Told" else if q.2.2 = 1 then "java/lang/String" else "jdk/internal/util/Preconditions") (if q.2.2 = 0 then "HEAP_NUMBERS" else if q.2.2 = 1 then "COMPACT_STRINGS" else "SIOOBE_FORMATTER") (if q.2.2 = 0 then "[I" else if q.2.2 = 1 then "Z" else "Ljava/util/function/BiFunction;")).before a s = true)
    ∧ (∀ q ∈ SFL, ∀ a : Array Value, (Cond.fieldLink (cN q.1) q.2.1 "java/lang/String" (if q.2.2 = 0 then "value" else "coder") (if q.2.2 = 0 then "[B" else "B")).before a s = true)
theorem XFf_moves {ea sa va : Nat → Nat} {no : Option Nat} {A : Nat → Prop} (s U : State) (h : XFf ea sa va no A s) (hW : s.WarmedH U.vm) (hq : ∀ q, q < s.heap.size → ¬ A q → U.heap[q]? = s.heap[q]?) : XFf ea sa va no A U := by
  obtain ⟨a1, a2, a3, a4, a5, a6, a7, a8, a9, a10, a11⟩ := h
  refine ⟨fun k hk => ((a1 k hk).moved hW.alike).kept hq, fun k hk => ?_, fun q hq' => va_Nw.warmF hW (a3 q hq'), fun q hq' => va_Nw.warmM hW (a4 q hq'), fun q hq' => ⟨(a5 q hq').1, (a5 q hq').2.warm hW⟩, a6, (a7.moved hW.alike).kept hq, (a8.moved hW.alike).kept hq, (a9.moved hW.alike).kept hq, fun q hq' a => word_at hW (Or.inl rfl) (a10 q hq' a), fun q hq' a => word_at hW (Or.inl rfl) (a11 q hq' a)⟩
  obtain ⟨b1, b2, b3, b4⟩ := a2 k hk
  exact ⟨(b1.moved hW.alike).kept hq, (b2.moved hW.alike).kept hq, (b3.moved hW.alike).kept hq, (b4.moved hW.alike).kept hq⟩
def xA0 (n : Nat) (ad : Nat → Nat) : Nat → Prop := fun q => ∃ k, k < n ∧ q = ad k
def mkX (D : va_G) (ad ea sa va : Nat → Nat) (lay : List (Nat × Nat)) (dA : Nat → ClassId) (no : Option Nat) : CXT := (D, ad, ea, sa, va, lay, dA, ext0, [0], strs.length, no, XFf ea sa va no (xA0 lay.length ad))
/-- what a row of cells must be: each object's fields lead to cells of their kind -/
def okr (lay : List (Nat × Nat)) (t k : Nat) : Bool := decide (k < lay.length) && decide (((lay[k]?).getD (0, 0)).1 = t)
def okLay (lay : List (Nat × Nat)) : Bool := (List.range lay.length).all fun k =>
  (let t := ((lay[k]?).getD (0, 0)).1
   if t < 100 then decide (t < 13) && (List.range (nF t)).all fun j => (match fkd FT0 t j with
     | (2, f, u, v) => okr lay f (k + u - v) && decide (f < 150)
     | _ => true)
   else if t = 104 then (List.range (((lay[k]?).getD (0, 0)).2)).all fun i => okr lay 4 (k + 1 + 5 * i)
   else if t = 105 then (List.range (((lay[k]?).getD (0, 0)).2)).all fun i => okr lay 103 (k + 1 + i)
   else true)
theorem layC_ok : okLay layC = true := by decide +kernel
theorem layM_ok : okLay layM = true := by decide +kernel
set_option maxRecDepth 100000 in
theorem XG_of {D : va_G} {ad ea sa va : Nat → Nat} {lay : List (Nat × Nat)} {dA : Nat → ClassId} {no : Option Nat} (hl : okLay lay = true) (hinj : ∀ i j, i < lay.length → j < lay.length → ad i = ad j → i = j) : XG (mkX D ad ea sa va lay dA no) := by
  have hall := fun k (hk : k < lay.length) => List.all_eq_true.mp hl k (List.mem_range.mpr hk)
  have okr_ok : ∀ {t k : Nat}, okr lay t k = true → t < 150 → okref (mkX D ad ea sa va lay dA no) t k := fun {t k} h ht => by
    unfold okr at h
    rw [Bool.and_eq_true, decide_eq_true_eq, decide_eq_true_eq] at h
    exact Or.inr (Or.inr (Or.inr ⟨ht, h.1, h.2⟩))
  refine ⟨hinj, fun k hk ht => ?_, fun k hk ht i hi => ?_, fun k hk ht i hi => ?_, XFf_moves, fun s h => ?_⟩
  · have h := hall k hk
    have ht' : ((lay[k]?).getD (0, 0)).1 < 100 := ht
    dsimp only at h
    rw [if_pos ht', Bool.and_eq_true, decide_eq_true_eq] at h
    refine ⟨h.1, fun j f u v hj hf => ?_⟩
    have h2 := List.all_eq_true.mp h.2 j (List.mem_range.mpr hj)
    have hf' : fkd FT0 ((lay[k]?).getD (0, 0)).1 j = (2, f, u, v) := hf
    rw [hf'] at h2
    have h2 : (okr lay f (k + u - v) && decide (f < 150)) = true := h2
    rw [Bool.and_eq_true, decide_eq_true_eq] at h2
    exact ⟨okr_ok h2.1 h2.2, h2.2⟩
  · have h := hall k hk
    have ht' : ((lay[k]?).getD (0, 0)).1 = 104 := ht
    dsimp only at h
    rw [if_neg (by omega), if_pos ht'] at h
    exact okr_ok (List.all_eq_true.mp h i (List.mem_range.mpr hi)) (by omega)
  · have h := hall k hk
    have ht' : ((lay[k]?).getD (0, 0)).1 = 105 := ht
    dsimp only at h
    rw [if_neg (by omega), if_neg (by omega), if_pos ht'] at h
    exact okr_ok (List.all_eq_true.mp h i (List.mem_range.mpr hi)) (by omega)
  · have h : XFf ea sa va no (xA0 lay.length ad) s := h
    obtain ⟨a1, a2, a3, a4, a5, a6, a7, a8, a9, a10, a11⟩ := h
    exact ⟨a1, a2, a3, a4, a5, a6, a7, a8, a9, a10, a11⟩
theorem XC_of {D : va_G} {ad ea sa va : Nat → Nat} {dA : Nat → ClassId} {no : Option Nat} (hinj : ∀ i j, i < layC.length → j < layC.length → ad i = ad j → i = j) : XC (mkX D ad ea sa va layC dA no) := ⟨XG_of layC_ok hinj, rfl, rfl⟩
theorem XM_of {D : va_G} {ad ea sa va : Nat → Nat} {dA : Nat → ClassId} {no : Option Nat} (hinj : ∀ i j, i < layM.length → j < layM.length → ad i = ad j → i = j) : XM (mkX D ad ea sa va layM dA no) := ⟨XG_of layM_ok hinj, rfl, rfl⟩
