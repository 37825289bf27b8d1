/-! THE SHORT MACHINE IS SOUND: what it reaches, the machine of the claim reaches -/
theorem lget_lset_eq : ∀ (ls : OL) (n : Nat) (v : Option AV), lget (lset ls n v) n = v
  | [], 0, _ => rfl
  | [], n + 1, v => lget_lset_eq [] n v
  | _ :: _, 0, _ => rfl
  | _ :: l, n + 1, v => lget_lset_eq l n v
theorem lget_lset_ne : ∀ (ls : OL) (n j : Nat) (v : Option AV), j ≠ n → lget (lset ls n v) j = lget ls j
  | [], 0, 0, _, h => absurd rfl h
  | [], 0, _ + 1, _, _ => rfl
  | [], _ + 1, 0, _, _ => rfl
  | [], n + 1, j + 1, v, h => (lget_lset_ne [] n j v (fun e => h (by rw [e]))).trans (by cases j <;> rfl)
  | _ :: _, 0, 0, _, h => absurd rfl h
  | _ :: _, 0, _ + 1, _, _ => rfl
  | _ :: _, _ + 1, 0, _, _ => rfl
  | _ :: l, n + 1, j + 1, v, h => lget_lset_ne l n j v (fun e => h (by rw [e]))
theorem lget_lkill {ls : OL} {i j : Nat} {v : AV} (h : lget (lkill ls i) j = some v) : lget ls j = some v ∧ ¬ (j + 1 = i ∧ ∃ x, v = .inr (.inl x)) := by
  unfold lkill at h
  split at h
  · exact ⟨h, fun q => by omega⟩
  · rename_i n
    split at h
    · rename_i x hx
      by_cases hj : j = n
      · subst hj
        rw [lget_lset_eq] at h
        cases h
      · rw [lget_lset_ne _ _ _ _ hj] at h
        exact ⟨h, fun q => hj (by omega)⟩
    · rename_i hx
      refine ⟨h, fun q => ?_⟩
      obtain ⟨q1, x, q2⟩ := q
      have hj : j = n := by omega
      subst hj; subst q2
      exact hx x h
/-! the world -/
def FT0 : FT := [[(2, 8, 0, 119), (2, 3, 0, 67), (2, 100, 1, 0)], [(2, 104, 1, 0), (0, 0, 0, 0), (0, 0, 0, 0)], [(2, 100, 1, 0), (2, 100, 2, 0), (2, 100, 3, 0), (2, 100, 4, 0), (2, 100, 5, 0), (2, 100, 6, 0), (0, 0, 0, 0), (0, 0, 0, 0)], [(2, 100, 1, 0)], [(3, 0, 0, 0), (2, 101, 1, 0), (2, 100, 2, 0), (2, 101, 3, 0), (2, 100, 4, 0), (0, 0, 0, 0), (0, 0, 0, 0), (0, 0, 0, 0), (0, 0, 0, 0), (0, 0, 0, 0), (0, 0, 0, 0)], [(2, 102, 1, 0), (2, 100, 2, 0), (2, 100, 3, 0), (2, 100, 4, 0), (2, 2, 5, 0), (2, 6, 12, 0), (0, 0, 0, 0), (0, 0, 0, 0), (0, 0, 0, 0), (0, 0, 0, 0), (0, 0, 0, 0), (0, 0, 0, 0)], [(2, 100, 1, 0), (2, 100, 2, 0), (2, 100, 3, 0), (0, 0, 0, 0)], [(2, 6, 1, 0), (2, 6, 5, 0), (2, 6, 9, 0), (2, 6, 13, 0), (2, 6, 17, 0), (2, 6, 21, 0), (2, 100, 25, 0), (2, 100, 26, 0), (2, 100, 27, 0), (2, 100, 28, 0)], [(2, 100, 1, 0), (2, 100, 2, 0), (2, 100, 3, 0), (2, 2, 4, 0), (2, 6, 11, 0), (2, 6, 15, 0), (2, 6, 19, 0), (0, 0, 0, 0), (0, 0, 0, 0), (0, 0, 0, 0)], [(2, 105, 1, 0), (2, 105, 14, 0)], [(2, 4, 1, 0), (2, 8, 6, 0), (2, 7, 29, 0), (2, 3, 58, 0)], [(2, 10, 1, 0), (2, 10, 61, 0), (2, 4, 121, 0), (2, 0, 126, 0), (2, 1, 128, 0), (2, 5, 160, 0), (2, 9, 176, 0), (3, 0, 0, 0)], [(2, 100, 1, 0), (2, 100, 2, 0), (2, 100, 3, 0), (2, 100, 4, 0), (0, 0, 0, 0), (3, 0, 0, 0), (2, 100, 5, 0), (2, 100, 6, 0), (2, 100, 7, 0), (2, 100, 8, 0), (2, 100, 9, 0), (2, 100, 10, 0), (0, 0, 0, 0), (0, 0, 0, 0), (0, 0, 0, 0), (0, 0, 0, 0), (0, 0, 0, 0), (0, 0, 0, 0), (0, 0, 0, 0), (0, 0, 0, 0), (0, 0, 0, 0), (0, 0, 0, 0), (0, 0, 0, 0), (0, 0, 0, 0), (0, 0, 0, 0), (0, 0, 0, 0), (3, 0, 0, 0), (2, 100, 11, 0), (2, 103, 12, 0), (2, 103, 13, 0), (2, 100, 14, 0), (1, 0, 0, 0), (1, 0, 0, 0), (2, 100, 15, 0)]]
abbrev CXT : Type := va_G × (Nat → Nat) × (Nat → Nat) × (Nat → Nat) × (Nat → Nat) × List (Nat × Nat) × (Nat → ClassId) × (Nat → Nat × (Nat → Int32)) × List Nat × Nat × Option Nat × (State → Prop)
def xD (X : CXT) : va_G := X.1
def xad (X : CXT) : Nat → Nat := X.2.1
def xea (X : CXT) : Nat → Nat := X.2.2.1
def xsa (X : CXT) : Nat → Nat := X.2.2.2.1
def xva (X : CXT) : Nat → Nat := X.2.2.2.2.1
def xlay (X : CXT) : List (Nat × Nat) := X.2.2.2.2.2.1
def xdA (X : CXT) : Nat → ClassId := X.2.2.2.2.2.2.1
def xext (X : CXT) : Nat → Nat × (Nat → Int32) := X.2.2.2.2.2.2.2.1
def xev (X : CXT) : List Nat := X.2.2.2.2.2.2.2.2.1
def xns (X : CXT) : Nat := X.2.2.2.2.2.2.2.2.2.1
def xno (X : CXT) : Option Nat := X.2.2.2.2.2.2.2.2.2.2.1
def xXF (X : CXT) : State → Prop := X.2.2.2.2.2.2.2.2.2.2.2
def cvr (X : CXT) (t k : Nat) : Nat := if t = 150 then xea X k else if t = 151 then xsa X k else if t = 152 then xva X k else xad X k
def xN (X : CXT) : Nat := (xlay X).length
def xtg (X : CXT) (k : Nat) : Nat := (((xlay X)[k]?).getD (0, 0)).1
def xlen (X : CXT) (k : Nat) : Nat := (((xlay X)[k]?).getD (0, 0)).2
def xA (X : CXT) : Nat → Prop := fun q => ∃ k, k < xN X ∧ q = xad X k
def cv (X : CXT) : AV → Value
  | .inl i => .int i
  | .inr (.inl l) => .long l
  | .inr (.inr (t, k)) => if t = 153 then va_rf (xno X) else .ref (cvr X t k)
def fval (X : CXT) (σ : Mem) (k t j : Nat) : Value := match fkd FT0 t j with
  | (1, _) => .long (rJ σ k j)
  | (2, _, u, v) => .ref (xad X (k + u - v))
  | _ => .int (rI σ k j)
def nF (t : Nat) : Nat := (cT t).2.2
def cell (X : CXT) (σ : Mem) (k : Nat) : va_E :=
  if xtg X k < 100 then .inr (xtg X k, (List.range (nF (xtg X k))).map (fun j => fval X σ k (xtg X k) j))
  else if xtg X k = 103 then .inl (xdA X 3, xlen X k, .inr (.inl (σ.2 k)))
  else if xtg X k = 104 then .inl (xdA X 4, xlen X k, .inr (.inr (.inr (.inr (fun i => some (xad X (k + 1 + 5 * i)))))))
  else if xtg X k = 105 then .inl (xdA X 5, xlen X k, .inr (.inr (.inr (.inr (fun i => some (xad X (k + 1 + i)))))))
  else .inl (xdA X (xtg X k - 100), xlen X k, .inl (σ.1 k))
def xtys (X : CXT) : List (ClassId × FieldType) := [(xdA X 0, .int), (xdA X 1, .boolean), (xdA X 2, .char), (xdA X 3, .long), (xdA X 4, .object "PierTooFar$Pier"), (xdA X 5, .array .long)]
def wl (X : CXT) (σ : Mem) : va_W := (List.range (xN X)).map (fun k => (xad X k, cell X σ k))
def okref (X : CXT) (t k : Nat) : Prop := t = 153 ∨ (t = 150 ∧ k ∈ xev X) ∨ ((t = 151 ∨ t = 152) ∧ k < xns X) ∨ (t < 150 ∧ k < xN X ∧ xtg X k = t)
def TR (X : CXT) (v : AV) : Prop := match v with
  | .inr (.inr (t, k)) => okref X t k
  | _ => True
def kn (X : CXT) : Nat → OL → List (Nat × Value)
  | _, [] => []
  | n, none :: l => kn X (n + 1) l
  | n, some v :: l => (n, cv X v) :: kn X (n + 1) l
theorem cv_cat1 {X : CXT} {x : Nat × Nat} : (cv X (.inr (.inr x))).category = 1 := by
  show (if x.1 = 153 then va_rf (xno X) else Value.ref (cvr X x.1 x.2)).category = 1
  split
  · cases xno X <;> rfl
  · rfl
theorem kn_mem {X : CXT} : ∀ (ls : OL) (n : Nat) (q : Nat × Value), q ∈ kn X n ls ↔ ∃ j v, q.1 = n + j ∧ lget ls j = some v ∧ q.2 = cv X v
  | [], n, q => by
    simp only [kn, List.not_mem_nil, false_iff]
    rintro ⟨j, v, -, h, -⟩
    cases j <;> cases h
  | none :: l, n, q => by
    rw [kn, kn_mem l (n + 1) q]
    constructor
    · rintro ⟨j, v, h1, h2, h3⟩
      exact ⟨j + 1, v, by omega, h2, h3⟩
    · rintro ⟨j, v, h1, h2, h3⟩
      cases j with
      | zero => cases h2
      | succ j => exact ⟨j, v, by omega, h2, h3⟩
  | some w :: l, n, q => by
    rw [kn, List.mem_cons, kn_mem l (n + 1) q]
    constructor
    · rintro (rfl | ⟨j, v, h1, h2, h3⟩)
      · exact ⟨0, w, rfl, rfl, rfl⟩
      · exact ⟨j + 1, v, by omega, h2, h3⟩
    · rintro ⟨j, v, h1, h2, h3⟩
      cases j with
      | zero =>
        left
        cases h2
        exact Prod.ext h1 h3
      | succ j => exact Or.inr ⟨j, v, by omega, h2, h3⟩
theorem lv_mono {ls : Array Slot} {n : Nat} {l l' : List (Nat × Value)} (h : lv_has ls n l) (hs : ∀ q ∈ l', q ∈ l) : lv_has ls n l' := ⟨h.1, h.2.1, fun q hq => h.2.2 q (hs q hq)⟩
theorem kn_get {X : CXT} {lsR : Array Slot} {n : Nat} {ls : OL} (h : lv_has lsR n (kn X 0 ls)) {j : Nat} {v : AV} (hv : lget ls j = some v) : lsR[j]? = some (.val (cv X v)) :=
  h.2.2 (j, cv X v) ((kn_mem ls 0 _).mpr ⟨j, v, (Nat.zero_add j).symm, hv, rfl⟩)
theorem kn_put1 {X : CXT} {ls : OL} {i : Nat} {v : AV} : ∀ q ∈ kn X 0 (lput1 ls i v), q ∈ (i, cv X v) :: (kn X 0 ls).filter (fun q => !(q.1 == i) && !(q.1 + 1 == i && q.2.category == 2)) := by
  intro q hq
  obtain ⟨j, w, h1, h2, h3⟩ := (kn_mem _ _ _).mp hq
  rw [Nat.zero_add] at h1
  unfold lput1 at h2
  by_cases hj : j = i
  · subst hj
    rw [lget_lset_eq] at h2
    cases h2
    exact List.mem_cons.mpr (Or.inl (Prod.ext h1 h3))
  · rw [lget_lset_ne _ _ _ _ hj] at h2
    obtain ⟨h4, h5⟩ := lget_lkill h2
    refine List.mem_cons.mpr (Or.inr (List.mem_filter.mpr ⟨(kn_mem _ _ _).mpr ⟨j, w, by omega, h4, h3⟩, ?_⟩))
    have e1 : (q.1 == i) = false := by rw [h1]; exact beq_false_of_ne hj
    rw [e1]
    by_cases hj1 : j + 1 = i
    · have e2 : (q.2.category == 2) = false := by
        rw [h3]
        rcases w with x | x | x
        · rfl
        · exact absurd ⟨hj1, x, rfl⟩ h5
        · show ((cv X (.inr (.inr x))).category == 2) = false
          rw [cv_cat1]
          rfl
      rw [e2]
      simp
    · have e2 : (q.1 + 1 == i) = false := by rw [h1]; exact beq_false_of_ne hj1
      rw [e2]
      rfl
theorem kn_put2 {X : CXT} {ls : OL} {i : Nat} {v : AV} : ∀ q ∈ kn X 0 (lput2 ls i v), q ∈ (i, cv X v) :: (kn X 0 ls).filter (fun q => !(q.1 == i) && (!(q.1 == i + 1) && !(q.1 + 1 == i && q.2.category == 2))) := by
  intro q hq
  obtain ⟨j, w, h1, h2, h3⟩ := (kn_mem _ _ _).mp hq
  rw [Nat.zero_add] at h1
  unfold lput2 at h2
  by_cases hj2 : j = i + 1
  · subst hj2
    rw [lget_lset_eq] at h2
    cases h2
  rw [lget_lset_ne _ _ _ _ hj2] at h2
  by_cases hj : j = i
  · subst hj
    rw [lget_lset_eq] at h2
    cases h2
    exact List.mem_cons.mpr (Or.inl (Prod.ext h1 h3))
  · rw [lget_lset_ne _ _ _ _ hj] at h2
    obtain ⟨h4, h5⟩ := lget_lkill h2
    refine List.mem_cons.mpr (Or.inr (List.mem_filter.mpr ⟨(kn_mem _ _ _).mpr ⟨j, w, by omega, h4, h3⟩, ?_⟩))
    have e1 : (q.1 == i) = false := by rw [h1]; exact beq_false_of_ne hj
    have e3 : (q.1 == i + 1) = false := by rw [h1]; exact beq_false_of_ne hj2
    rw [e1, e3]
    by_cases hj1 : j + 1 = i
    · have e2 : (q.2.category == 2) = false := by
        rw [h3]
        rcases w with x | x | x
        · rfl
        · exact absurd ⟨hj1, x, rfl⟩ h5
        · show ((cv X (.inr (.inr x))).category == 2) = false
          rw [cv_cat1]
          rfl
      rw [e2]
      simp
    · have e2 : (q.1 + 1 == i) = false := by rw [h1]; exact beq_false_of_ne hj1
      rw [e2]
      rfl
theorem tr_put1 {X : CXT} {ls : OL} {i : Nat} {v : AV} (h : ∀ n w, lget ls n = some w → TR X w) (hv : TR X v) : ∀ n w, lget (lput1 ls i v) n = some w → TR X w := by
  intro n w hw
  unfold lput1 at hw
  by_cases hj : n = i
  · subst hj
    rw [lget_lset_eq] at hw
    cases hw
    exact hv
  · rw [lget_lset_ne _ _ _ _ hj] at hw
    exact h n w (lget_lkill hw).1
theorem tr_put2 {X : CXT} {ls : OL} {i : Nat} {v : AV} (h : ∀ n w, lget ls n = some w → TR X w) (hv : TR X v) : ∀ n w, lget (lput2 ls i v) n = some w → TR X w := by
  intro n w hw
  unfold lput2 at hw
  by_cases hj2 : n = i + 1
  · subst hj2
    rw [lget_lset_eq] at hw
    cases hw
  rw [lget_lset_ne _ _ _ _ hj2] at hw
  by_cases hj : n = i
  · subst hj
    rw [lget_lset_eq] at hw
    cases hw
    exact hv
  · rw [lget_lset_ne _ _ _ _ hj] at hw
    exact h n w (lget_lkill hw).1
theorem lget_mask : ∀ (m : List Bool) (ls : OL) (j : Nat) (v : AV), lget (lmask m ls) j = some v → lget ls j = some v
  | [], _, j, v, h => by cases j <;> cases h
  | true :: _, [], j, v, h => by cases j <;> cases h
  | false :: _, [], j, v, h => by cases j <;> cases h
  | true :: m, o :: l, 0, v, h => h
  | true :: m, o :: l, j + 1, v, h => lget_mask m l j v h
  | false :: m, o :: l, 0, v, h => by cases h
  | false :: m, o :: l, j + 1, v, h => lget_mask m l j v h
