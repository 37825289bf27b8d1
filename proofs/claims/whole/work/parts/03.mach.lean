/-! THE MACHINE IN SHORT: values, a memory of ints and longs by cell and place, one step and a run of steps as functions -/
abbrev AV : Type := Int32 ⊕ (Int64 ⊕ (Nat × Nat))
abbrev Mem : Type := (Nat → Nat → Int32) × (Nat → Nat → Int64)
abbrev OL : Type := List (Option AV)
def rI (σ : Mem) (k j : Nat) : Int32 := σ.1 k j
def rJ (σ : Mem) (k j : Nat) : Int64 := σ.2 k j
def wI (σ : Mem) (k j : Nat) (v : Int32) : Mem := (fun a => if a = k then upd (σ.1 a) j v else σ.1 a, σ.2)
def wJ (σ : Mem) (k j : Nat) (v : Int64) : Mem := (σ.1, fun a => if a = k then vp_updL (σ.2 a) j v else σ.2 a)
def ix (i : Int32) : Nat := i.toNatClampNeg
noncomputable def inb (i : Int32) (n : Nat) : Bool := @decide (0 ≤ i ∧ ix i < n) (Classical.propDecidable _)
theorem inb_iff {i : Int32} {n : Nat} : inb i n = true ↔ 0 ≤ i ∧ ix i < n := by
  unfold inb
  exact @decide_eq_true_iff _ (Classical.propDecidable _)
def gd {α : Type} (b : Bool) (x : Option α) : Option α := match b with
  | true => x
  | false => none
def b2i (b : Bool) : Int32 := match b with
  | true => 1
  | false => 0
def lget : OL → Nat → Option AV
  | [], _ => none
  | o :: _, 0 => o
  | _ :: l, n + 1 => lget l n
def lset : OL → Nat → Option AV → OL
  | [], 0, v => [v]
  | [], n + 1, v => none :: lset [] n v
  | _ :: l, 0, v => v :: l
  | o :: l, n + 1, v => o :: lset l n v
def lkill (ls : OL) (i : Nat) : OL := match i with
  | 0 => ls
  | n + 1 => match lget ls n with
    | some (.inr (.inl _)) => lset ls n none
    | _ => ls
def lput1 (ls : OL) (i : Nat) (v : AV) : OL := lset (lkill ls i) i (some v)
def lput2 (ls : OL) (i : Nat) (v : AV) : OL := lset (lset (lkill ls i) i (some v)) (i + 1) none
def lmask : List Bool → OL → OL
  | true :: m, o :: l => o :: lmask m l
  | false :: m, _ :: l => none :: lmask m l
  | _, _ => []
def catsum : List AV → Nat
  | [] => 0
  | .inr (.inl _) :: l => 2 + catsum l
  | _ :: l => 1 + catsum l
/-- fields of the classes, by number: kind (0 int, 1 long, 2 reference, 3 boolean), the kind of what is referred to, its place from here: plus, minus -/
abbrev FT : Type := List (List (Nat × Nat × Nat × Nat))
def fkd (T : FT) (t j : Nat) : Nat × Nat × Nat × Nat := ((T[t]?).getD [])[j]?.getD (9, 0, 0, 0)
noncomputable def cif {β : Type} (c : Prop) (a b : β) : β := @ite β c (Classical.propDecidable c) a b
theorem cif_pos {β : Type} {c : Prop} {a b : β} (h : c) : cif c a b = a := by unfold cif; exact if_pos h
theorem cif_neg {β : Type} {c : Prop} {a b : β} (h : ¬ c) : cif c a b = b := by unfold cif; exact if_neg h
theorem cif_ite {β : Type} {c : Prop} [Decidable c] {a b : β} : cif c a b = if c then a else b := by
  by_cases h : c
  · rw [cif_pos h, if_pos h]
  · rw [cif_neg h, if_neg h]
theorem cif_s {β : Type} {c : Prop} {x y : Option β} {o : β} (h : cif c x y = some o) : (c ∧ x = some o) ∨ (¬ c ∧ y = some o) := by
  by_cases hc : c
  · rw [cif_pos hc] at h
    exact Or.inl ⟨hc, h⟩
  · rw [cif_neg hc] at h
    exact Or.inr ⟨hc, h⟩
noncomputable def chain {β : Type} (x : Int32) (go : Nat → β) (d : Nat) : List (Int32 × Nat) → β
  | [] => go d
  | (v, t) :: r => cif (x = v) (go t) (chain x go d r)
def tsw (pc : Nat) : Int → List Int → List (Int32 × Nat)
  | _, [] => []
  | lo, o :: r => (Int32.ofInt lo, ((pc : Int) + o).toNat) :: tsw pc (lo + 1) r
def lsw (pc : Nat) : List (Int × Int) → List (Int32 × Nat)
  | [] => []
  | (v, o) :: r => (Int32.ofInt v, ((pc : Int) + o).toNat) :: lsw pc r
section
variable {β : Type}
def pI (st : List AV) (f : Int32 → List AV → Option β) : Option β := match st with
  | .inl x :: r => f x r
  | _ => none
def pL (st : List AV) (f : Int64 → List AV → Option β) : Option β := match st with
  | .inr (.inl x) :: r => f x r
  | _ => none
def pR (st : List AV) (f : Nat → Nat → List AV → Option β) : Option β := match st with
  | .inr (.inr (t, k)) :: r => f t k r
  | _ => none
def gI (ls : OL) (i : Nat) (f : Int32 → Option β) : Option β := match lget ls i with
  | some (.inl x) => f x
  | _ => none
def gL (ls : OL) (i : Nat) (f : Int64 → Option β) : Option β := match lget ls i with
  | some (.inr (.inl x)) => f x
  | _ => none
def gR (ls : OL) (i : Nat) (f : Nat → Nat → Option β) : Option β := match lget ls i with
  | some (.inr (.inr (t, k))) => f t k
  | _ => none
def pE (st : List AV) (x : Option β) : Option β := match st with
  | [] => x
  | _ => none
theorem pI_s {st : List AV} {f : Int32 → List AV → Option β} {o : β} (h : pI st f = some o) : ∃ x r, st = .inl x :: r ∧ f x r = some o := by
  unfold pI at h
  split at h
  · exact ⟨_, _, rfl, h⟩
  · cases h
theorem pL_s {st : List AV} {f : Int64 → List AV → Option β} {o : β} (h : pL st f = some o) : ∃ x r, st = .inr (.inl x) :: r ∧ f x r = some o := by
  unfold pL at h
  split at h
  · exact ⟨_, _, rfl, h⟩
  · cases h
theorem pR_s {st : List AV} {f : Nat → Nat → List AV → Option β} {o : β} (h : pR st f = some o) : ∃ t k r, st = .inr (.inr (t, k)) :: r ∧ f t k r = some o := by
  unfold pR at h
  split at h
  · exact ⟨_, _, _, rfl, h⟩
  · cases h
theorem gI_s {ls : OL} {i : Nat} {f : Int32 → Option β} {o : β} (h : gI ls i f = some o) : ∃ x, lget ls i = some (.inl x) ∧ f x = some o := by
  unfold gI at h
  split at h
  · exact ⟨_, by assumption, h⟩
  · cases h
theorem gL_s {ls : OL} {i : Nat} {f : Int64 → Option β} {o : β} (h : gL ls i f = some o) : ∃ x, lget ls i = some (.inr (.inl x)) ∧ f x = some o := by
  unfold gL at h
  split at h
  · exact ⟨_, by assumption, h⟩
  · cases h
theorem gR_s {ls : OL} {i : Nat} {f : Nat → Nat → Option β} {o : β} (h : gR ls i f = some o) : ∃ t k, lget ls i = some (.inr (.inr (t, k))) ∧ f t k = some o := by
  unfold gR at h
  split at h
  · exact ⟨_, _, by assumption, h⟩
  · cases h
theorem pE_s {st : List AV} {x : Option β} {o : β} (h : pE st x = some o) : st = [] ∧ x = some o := by
  unfold pE at h
  split at h
  · exact ⟨rfl, h⟩
  · cases h
theorem gd_s {b : Bool} {x : Option β} {o : β} (h : gd b x = some o) : b = true ∧ x = some o := by
  unfold gd at h
  split at h
  · exact ⟨rfl, h⟩
  · cases h
theorem ite_s {c : Prop} [Decidable c] {x y : Option β} {o : β} (h : (if c then x else y) = some o) : (c ∧ x = some o) ∨ (¬ c ∧ y = some o) := by
  split at h
  · exact Or.inl ⟨by assumption, h⟩
  · exact Or.inr ⟨by assumption, h⟩
theorem iten_s {c : Prop} [Decidable c] {y : Option β} {o : β} (h : (if c then none else y) = some o) : ¬ c ∧ y = some o := by
  split at h
  · cases h
  · exact ⟨by assumption, h⟩
theorem itet_s {c : Prop} [Decidable c] {x : Option β} {o : β} (h : (if c then x else none) = some o) : c ∧ x = some o := by
  split at h
  · exact ⟨by assumption, h⟩
  · cases h
end
def cst (a c : Nat) : Int32 := match c with
  | 0 => Int32.ofNat a
  | _ => -(Int32.ofNat a)
def inc (x : Int32) (a c : Nat) : Int32 := match c with
  | 0 => x + Int32.ofNat a
  | _ => x - Int32.ofNat a
theorem inc_cst (x : Int32) (a c : Nat) : inc x a c = x + cst a c := by
  unfold inc cst
  split
  · rfl
  · exact Int32.sub_eq_add_neg _ _
def imx (x y : Int32) : Int32 := if x < y then y else x
def imn (x y : Int32) : Int32 := if y < x then y else x
def iab (x : Int32) : Int32 := if 0 ≤ x then x else 0 - x
def lmx (x y : Int64) : Int64 := if y < x then x else y
def psh (c : Nat) (v : AV) (st : List AV) : List AV := match c with
  | 0 => st
  | _ => v :: st
section
variable {O : Type} (T : FT) (len : Nat → Nat) (ext : Nat → Nat × (Nat → Int32)) (F : Nat → List AV → Mem → (AV → Mem → Option O) → Option O) (rt : AV → Mem → Option O)
noncomputable def stp (go : Nat → OL → List AV → Mem → Option O) (pc : Nat) (I : Instr) (a b c : Nat) (ls : OL) (st : List AV) (σ : Mem) : Option O :=
  match I with
  | .iconst _ => go (pc + 1) ls (.inl (cst a c) :: st) σ
  | .bipush _ => go (pc + 2) ls (.inl (cst a c) :: st) σ
  | .sipush _ => go (pc + 3) ls (.inl (cst a c) :: st) σ
  | .lconst n => go (pc + 1) ls (.inr (.inl (Int64.ofNat n.val)) :: st) σ
  | .ldc _ => if c = 0 then go (pc + 2) ls (.inl (Int32.ofNat a) :: st) σ else go (pc + 2) ls (.inr (.inr (151, a)) :: st) σ
  | .ldc_w _ => go (pc + 3) ls (.inl (Int32.ofNat a) :: st) σ
  | .ldc2_w _ => go (pc + 3) ls (.inr (.inl (Int64.ofNat a)) :: st) σ
  | .iload i => gI ls i fun x => go (pc + 2) ls (.inl x :: st) σ
  | .iload_n i => gI ls i.val fun x => go (pc + 1) ls (.inl x :: st) σ
  | .lload i => gL ls i fun x => go (pc + 2) ls (.inr (.inl x) :: st) σ
  | .lload_n i => gL ls i.val fun x => go (pc + 1) ls (.inr (.inl x) :: st) σ
  | .aload i => gR ls i fun t k => if t = 153 then none else go (pc + 2) ls (.inr (.inr (t, k)) :: st) σ
  | .aload_n i => gR ls i.val fun t k => if t = 153 then none else go (pc + 1) ls (.inr (.inr (t, k)) :: st) σ
  | .istore i => pI st fun x st => go (pc + 2) (lput1 ls i (.inl x)) st σ
  | .istore_n i => pI st fun x st => go (pc + 1) (lput1 ls i.val (.inl x)) st σ
  | .lstore i => pL st fun x st => go (pc + 2) (lput2 ls i (.inr (.inl x))) st σ
  | .lstore_n i => pL st fun x st => go (pc + 1) (lput2 ls i.val (.inr (.inl x))) st σ
  | .astore i => pR st fun t k st => if t = 153 then none else go (pc + 2) (lput1 ls i (.inr (.inr (t, k)))) st σ
  | .astore_n i => pR st fun t k st => if t = 153 then none else go (pc + 1) (lput1 ls i.val (.inr (.inr (t, k)))) st σ
  | .iinc i _ => gI ls i fun x => go (pc + 3) (lput1 ls i (.inl (inc x a c))) st σ
  | .iadd => pI st fun y st => pI st fun x st => go (pc + 1) ls (.inl (x + y) :: st) σ
  | .isub => pI st fun y st => pI st fun x st => go (pc + 1) ls (.inl (x - y) :: st) σ
  | .imul => pI st fun y st => pI st fun x st => go (pc + 1) ls (.inl (x * y) :: st) σ
  | .iand => pI st fun y st => pI st fun x st => go (pc + 1) ls (.inl (x &&& y) :: st) σ
  | .ior => pI st fun y st => pI st fun x st => go (pc + 1) ls (.inl (x ||| y) :: st) σ
  | .ixor => pI st fun y st => pI st fun x st => go (pc + 1) ls (.inl (x ^^^ y) :: st) σ
  | .ishl => pI st fun y st => pI st fun x st => go (pc + 1) ls (.inl (x <<< (y &&& 31)) :: st) σ
  | .ishr => pI st fun y st => pI st fun x st => go (pc + 1) ls (.inl (x >>> (y &&& 31)) :: st) σ
  | .iushr => pI st fun y st => pI st fun x st => go (pc + 1) ls (.inl ((x.toUInt32 >>> (y.toUInt32 &&& Int32.toUInt32 31)).toInt32) :: st) σ
  | .idiv => pI st fun y st => pI st fun x st => if y = 0 then none else go (pc + 1) ls (.inl (x / y) :: st) σ
  | .irem => pI st fun y st => pI st fun x st => if y = 0 then none else go (pc + 1) ls (.inl (x - x / y * y) :: st) σ
  | .ineg => pI st fun x st => go (pc + 1) ls (.inl (-x) :: st) σ
  | .i2c => pI st fun x st => go (pc + 1) ls (.inl (x.toUInt32 % 65536).toInt32 :: st) σ
  | .i2b => pI st fun x st => go (pc + 1) ls (.inl x.toInt8.toInt32 :: st) σ
  | .i2l => pI st fun x st => go (pc + 1) ls (.inr (.inl x.toInt64) :: st) σ
  | .l2i => pL st fun x st => go (pc + 1) ls (.inl x.toInt32 :: st) σ
  | .ladd => pL st fun y st => pL st fun x st => go (pc + 1) ls (.inr (.inl (x + y)) :: st) σ
  | .lmul => pL st fun y st => pL st fun x st => go (pc + 1) ls (.inr (.inl (x * y)) :: st) σ
  | .ldiv => pL st fun y st => pL st fun x st => if y = 0 then none else go (pc + 1) ls (.inr (.inl (x / y)) :: st) σ
  | .lrem => pL st fun y st => pL st fun x st => if y = 0 then none else go (pc + 1) ls (.inr (.inl (x - x / y * y)) :: st) σ
  | .lcmp => pL st fun y st => pL st fun x st => go (pc + 1) ls (.inl (lg_cmp x y) :: st) σ
  | .dup => match st with
    | .inl x :: st => go (pc + 1) ls (.inl x :: .inl x :: st) σ
    | .inr (.inr (t, k)) :: st => if t = 153 then none else go (pc + 1) ls (.inr (.inr (t, k)) :: .inr (.inr (t, k)) :: st) σ
    | _ => none
  | .dup2 => pI st fun y st => pR st fun t k st => if t = 153 then none else go (pc + 1) ls (.inl y :: .inr (.inr (t, k)) :: .inl y :: .inr (.inr (t, k)) :: st) σ
  | .pop => pI st fun _ st => go (pc + 1) ls st σ
  | .ifCond cd _ => pI st fun x st => match cd with
      | .eq => cif (x = 0) (go a ls st σ) (go (pc + 3) ls st σ)
      | .ne => cif (x = 0) (go (pc + 3) ls st σ) (go a ls st σ)
      | .lt => cif (x < 0) (go a ls st σ) (go (pc + 3) ls st σ)
      | .ge => cif (0 ≤ x) (go a ls st σ) (go (pc + 3) ls st σ)
      | .gt => cif (0 < x) (go a ls st σ) (go (pc + 3) ls st σ)
      | .le => cif (x ≤ 0) (go a ls st σ) (go (pc + 3) ls st σ)
  | .if_icmp cd _ => pI st fun y st => pI st fun x st => match cd with
      | .eq => cif (x = y) (go a ls st σ) (go (pc + 3) ls st σ)
      | .ne => cif (x = y) (go (pc + 3) ls st σ) (go a ls st σ)
      | .lt => cif (x < y) (go a ls st σ) (go (pc + 3) ls st σ)
      | .ge => cif (y ≤ x) (go a ls st σ) (go (pc + 3) ls st σ)
      | .gt => cif (y < x) (go a ls st σ) (go (pc + 3) ls st σ)
      | .le => cif (x ≤ y) (go a ls st σ) (go (pc + 3) ls st σ)
  | .goto _ => go a ls st σ
  | .ifnull _ => pR st fun t _ st => if t = 153 then none else go (pc + 3) ls st σ
  | .ifnonnull _ => pR st fun t _ st => if t = 153 then none else go a ls st σ
  | .tableswitch d lo _ offs => pI st fun x st => chain x (fun t => go t ls st σ) ((pc : Int) + d).toNat (tsw pc lo offs.toList)
  | .lookupswitch d ps => pI st fun x st => chain x (fun t => go t ls st σ) ((pc : Int) + d).toNat (lsw pc ps.toList)
  | .arraylength => pR st fun t k st => if t = 150 then go (pc + 1) ls (.inl (Int32.ofNat (ext k).1) :: st) σ else if t = 152 then go (pc + 1) ls (.inl (Int32.ofNat (ext (k + 1000)).1) :: st) σ else if 100 ≤ t ∧ t ≤ 105 then go (pc + 1) ls (.inl (Int32.ofNat (len k)) :: st) σ else none
  | .iaload => pI st fun i st => pR st fun t k st => if t = 100 then gd (inb i (len k)) (go (pc + 1) ls (.inl (rI σ k (ix i)) :: st) σ) else if t = 150 then gd (inb i (ext k).1) (go (pc + 1) ls (.inl ((ext k).2 (ix i)) :: st) σ) else none
  | .baload => pI st fun i st => pR st fun t k st => if t = 101 then gd (inb i (len k)) (go (pc + 1) ls (.inl (rI σ k (ix i)) :: st) σ) else if t = 152 then gd (inb i (ext (k + 1000)).1) (go (pc + 1) ls (.inl ((ext (k + 1000)).2 (ix i)) :: st) σ) else none
  | .caload => pI st fun i st => pR st fun t k st => if t = 102 then gd (inb i (len k)) (go (pc + 1) ls (.inl (rI σ k (ix i)) :: st) σ) else none
  | .laload => pI st fun i st => pR st fun t k st => if t = 103 then gd (inb i (len k)) (go (pc + 1) ls (.inr (.inl (rJ σ k (ix i))) :: st) σ) else none
  | .aaload => pI st fun i st => pR st fun t k st => if t = 104 then gd (inb i (len k)) (go (pc + 1) ls (.inr (.inr (4, k + 1 + 5 * ix i)) :: st) σ) else if t = 105 then gd (inb i (len k)) (go (pc + 1) ls (.inr (.inr (103, k + 1 + ix i)) :: st) σ) else none
  | .iastore => pI st fun v st => pI st fun i st => pR st fun t k st => if t = 100 then gd (inb i (len k)) (go (pc + 1) ls st (wI σ k (ix i) v)) else none
  | .bastore => pI st fun v st => pI st fun i st => pR st fun t k st => if t = 101 then gd (inb i (len k)) (go (pc + 1) ls st (wI σ k (ix i) (vp_nar .boolean v))) else none
  | .castore => pI st fun v st => pI st fun i st => pR st fun t k st => if t = 102 then gd (inb i (len k)) (go (pc + 1) ls st (wI σ k (ix i) (vp_nar .char v))) else none
  | .lastore => pL st fun v st => pI st fun i st => pR st fun t k st => if t = 103 then gd (inb i (len k)) (go (pc + 1) ls st (wJ σ k (ix i) v)) else none
  | .getfield _ => pR st fun t k st => if t = a then (if t = 151 then (if b = 0 then go (pc + 3) ls (.inr (.inr (152, k)) :: st) σ else go (pc + 3) ls (.inl 0 :: st) σ) else match fkd T a b with
      | (0, _) => go (pc + 3) ls (.inl (rI σ k b) :: st) σ
      | (3, _) => go (pc + 3) ls (.inl (rI σ k b) :: st) σ
      | (1, _) => go (pc + 3) ls (.inr (.inl (rJ σ k b)) :: st) σ
      | (2, f, u, v) => go (pc + 3) ls (.inr (.inr (f, k + u - v)) :: st) σ
      | _ => none) else none
  | .putfield _ => if c = 0 then (pI st fun x st => pR st fun t k st => if t = a then match fkd T a b with
      | (0, _) => go (pc + 3) ls st (wI σ k b x)
      | (3, _) => if vp_nar .boolean x = x then go (pc + 3) ls st (wI σ k b x) else none
      | _ => none else none) else (pL st fun x st => pR st fun t k st => if t = a then match fkd T a b with
      | (1, _) => go (pc + 3) ls st (wJ σ k b x)
      | _ => none else none)
  | .getstatic _ => if c = 0 then go (pc + 3) ls (.inr (.inr (150, b)) :: st) σ else if c = 1 then go (pc + 3) ls (.inl (Int32.ofNat b) :: st) σ else go (pc + 3) ls (.inr (.inr (153, 0)) :: st) σ
  | .invokevirtual _ => if (st.take b).length = b ∧ catsum (st.drop b) ≤ 8 then pR (st.take b).reverse fun t _ _ => if t = c / 2 then F a (st.take b).reverse σ (fun v σ' => go (pc + 3) ls (psh (c % 2) v (st.drop b)) σ') else none else none
  | .invokestatic _ => match c with
    | 2 => pI st fun y st => pI st fun x st => if catsum st ≤ 8 then go (pc + 3) ls (.inl (imx x y) :: st) σ else none
    | 3 => pI st fun y st => pI st fun x st => if catsum st ≤ 8 then go (pc + 3) ls (.inl (imn x y) :: st) σ else none
    | 4 => pI st fun x st => if catsum st ≤ 8 then go (pc + 3) ls (.inl (iab x) :: st) σ else none
    | 5 => pL st fun y st => pL st fun x st => if catsum st ≤ 8 then go (pc + 3) ls (.inr (.inl (lmx x y)) :: st) σ else none
    | _ => if (st.take b).length = b ∧ catsum (st.drop b) ≤ 8 then F a (st.take b).reverse σ (fun v σ' => go (pc + 3) ls (psh c v (st.drop b)) σ') else none
  | .ireturn => pI st fun x st => pE st (rt (.inl x) σ)
  | .lreturn => pL st fun x st => pE st (rt (.inr (.inl x)) σ)
  | .return_ => pE st (rt (.inl 0) σ)
  | _ => none
abbrev CE : Type := Nat × Instr × Nat × Nat × Nat × Nat
def fetch1 (pc : Nat) : List CE → Option CE
  | [] => none
  | e :: r => if e.1 = pc then some e else fetch1 pc r
def fetch (chs : List (List CE)) (pc : Nat) : Option CE := fetch1 pc ((chs[pc / 16]?).getD [])
def cutOf (pc : Nat) : List (Nat × List Bool) → Option (List Bool)
  | [] => none
  | q :: r => if q.1 = pc then some q.2 else cutOf pc r
def cgo (cuts : List (Nat × List Bool)) (G go : Nat → OL → List AV → Mem → Option O) (pc : Nat) (ls : OL) (st : List AV) (σ : Mem) : Option O := match cutOf pc cuts with
  | some m => G pc (lmask m ls) st σ
  | none => go pc ls st σ
noncomputable def ev1 (chs : List (List CE)) (cuts : List (Nat × List Bool)) (G : Nat → OL → List AV → Mem → Option O) (ih : Nat → OL → List AV → Mem → Option O) (pc : Nat) (ls : OL) (st : List AV) (σ : Mem) : Option O := match fetch chs pc with
  | none => none
  | some (_, I, _, a, b, c) => stp T len ext F rt (cgo cuts G ih) pc I a b c ls st σ
noncomputable def ev (chs : List (List CE)) (cuts : List (Nat × List Bool)) (G : Nat → OL → List AV → Mem → Option O) (n : Nat) : Nat → OL → List AV → Mem → Option O :=
  Nat.rec (motive := fun _ => Nat → OL → List AV → Mem → Option O) (fun _ _ _ _ => none) (fun _ ih => ev1 T len ext F rt chs cuts G ih) n
end
