def sbytes : List (List Int32) := [[59, 43, 45, 42, 47, 40, 41, 60, 61, 62], [97, 110, 100], [98, 97, 100], [98, 101, 100], [100, 101, 101, 100], [105, 110], [107, 105, 111, 115, 107], [108, 97, 109, 112], [108, 101, 102, 116], [108, 111, 110, 103], [109, 105, 108, 101], [110, 101, 114, 118, 101], [110, 111, 116], [111, 110], [111, 114], [112, 97, 99, 101], [115, 104, 97, 109, 101], [115, 104, 97, 109, 101, 32, 119, 97, 108, 107, 115, 32, 115, 116, 111, 114, 109, 32, 100, 101, 101, 100, 32, 98, 97, 100, 32, 108, 111, 110, 103, 32, 112, 97, 99, 101, 32, 110, 101, 114, 118, 101, 32, 108, 101, 102, 116, 32, 109, 105, 108, 101, 32, 119, 105, 110, 100, 32, 121, 101, 97, 114, 32, 115, 116, 114, 111, 110, 103, 32, 119, 104, 101, 110, 32, 111, 114, 32, 97, 110, 100, 32, 110, 111, 116, 32, 105, 110, 32, 107, 105, 111, 115, 107, 32, 98, 101, 100, 32, 108, 97, 109, 112, 32, 111, 110], [115, 116, 111, 114, 109], [115, 116, 114, 111, 110, 103], [119, 97, 108, 107, 115], [119, 104, 101, 110], [119, 105, 110, 100], [121, 101, 97, 114]]
def layC : List (Nat × Nat) := [(11, 0), (10, 0), (4, 0), (101, 200), (100, 12), (101, 12), (100, 12), (8, 0), (100, 12), (100, 12), (100, 12), (2, 0), (100, 16), (100, 16), (100, 16), (100, 16), (100, 400), (100, 64), (6, 0), (100, 16), (100, 16), (100, 16), (6, 0), (100, 16), (100, 16), (100, 16), (6, 0), (100, 16), (100, 16), (100, 16), (7, 0), (6, 0), (100, 20), (100, 20), (100, 20), (6, 0), (100, 10), (100, 10), (100, 10), (6, 0), (100, 16), (100, 16), (100, 16), (6, 0), (100, 12), (100, 12), (100, 12), (6, 0), (100, 10), (100, 10), (100, 10), (6, 0), (100, 8), (100, 8), (100, 8), (100, 8), (100, 8), (100, 10), (100, 11), (3, 0), (100, 600), (10, 0), (4, 0), (101, 200), (100, 12), (101, 12), (100, 12), (8, 0), (100, 12), (100, 12), (100, 12), (2, 0), (100, 16), (100, 16), (100, 16), (100, 16), (100, 400), (100, 64), (6, 0), (100, 16), (100, 16), (100, 16), (6, 0), (100, 16), (100, 16), (100, 16), (6, 0), (100, 16), (100, 16), (100, 16), (7, 0), (6, 0), (100, 20), (100, 20), (100, 20), (6, 0), (100, 10), (100, 10), (100, 10), (6, 0), (100, 16), (100, 16), (100, 16), (6, 0), (100, 12), (100, 12), (100, 12), (6, 0), (100, 10), (100, 10), (100, 10), (6, 0), (100, 8), (100, 8), (100, 8), (100, 8), (100, 8), (100, 10), (100, 11), (3, 0), (100, 600), (4, 0), (101, 200), (100, 12), (101, 12), (100, 12), (0, 0), (100, 10), (1, 0), (104, 6), (4, 0), (101, 200), (100, 12), (101, 12), (100, 12), (4, 0), (101, 200), (100, 12), (101, 12), (100, 12), (4, 0), (101, 200), (100, 12), (101, 12), (100, 12), (4, 0), (101, 200), (100, 12), (101, 12), (100, 12), (4, 0), (101, 200), (100, 12), (101, 12), (100, 12), (4, 0), (101, 200), (100, 12), (101, 12), (100, 12), (5, 0), (102, 400), (100, 400), (100, 400), (100, 400), (2, 0), (100, 16), (100, 16), (100, 16), (100, 16), (100, 400), (100, 64), (6, 0), (100, 16), (100, 16), (100, 16), (9, 0), (105, 12), (103, 201), (103, 201), (103, 201), (103, 201), (103, 201), (103, 201), (103, 201), (103, 201), (103, 201), (103, 201), (103, 201), (103, 201), (105, 12), (103, 201), (103, 201), (103, 201), (103, 201), (103, 201), (103, 201), (103, 201), (103, 201), (103, 201), (103, 201), (103, 201), (103, 201)]
def layM : List (Nat × Nat) := [(12, 0), (100, 1850), (100, 1850), (100, 294), (100, 49), (100, 64), (100, 820), (100, 48), (100, 400), (100, 420), (100, 11), (100, 11), (103, 2613), (103, 2613), (100, 11), (100, 10)]
def ext0 (k : Nat) : Nat × (Nat → Int32) := if k = 0 then (10, fun j => (([0, 1, 0, 1, 2, 0, 1, 0, 1, 0] : List Int32)[j]?).getD 0) else if 1000 ≤ k then (((sbytes[k - 1000]?).getD []).length, fun j => (((sbytes[k - 1000]?).getD [])[j]?).getD 0) else (0, fun _ => 0)
/-- as many turns as any loop needs, and no number that could be unrolled -/
noncomputable def FU : Nat := Classical.choose (⟨100000, Nat.le_refl _⟩ : ∃ n : Nat, 100000 ≤ n)
theorem FU_ge : 100000 ≤ FU := Classical.choose_spec (⟨100000, Nat.le_refl _⟩ : ∃ n : Nat, 100000 ≤ n)
/-! the lengths of the arrays by cell; what lies outside -/
def lenC (k : Nat) : Nat := ((layC[k]?).getD (0, 0)).2
def lenM (k : Nat) : Nat := ((layM[k]?).getD (0, 0)).2
def XC (X : CXT) : Prop := XG X ∧ xlen X = lenC ∧ xext X = ext0
def XM (X : CXT) : Prop := XG X ∧ xlen X = lenM ∧ xext X = ext0
def XJ (X : CXT) : Prop := XG X ∧ xext X = ext0
theorem XC.j {X : CXT} (h : XC X) : XJ X := ⟨h.1, h.2.2⟩
theorem XM.j {X : CXT} (h : XM X) : XJ X := ⟨h.1, h.2.2⟩

noncomputable def f_P_within (v0 : Int32) (v1 : Int32) (v2 : Int32) (s : Mem) : Option (Bool × Mem) :=
  if v0 < v1 then
    some (false, s)
  else
    if v2 < v0 then
      some (false, s)
    else
      some (true, s)
noncomputable def sm_P_within (O : Type) (av : List AV) (σ : Mem) (K : AV → Mem → Option O) : Option O := match av with
  | [.inl v0, .inl v1, .inl v2] => (f_P_within v0 v1 v2 σ).bind fun r => K (.inl (b2i r.1)) r.2
  | _ => none
def c_P_within : List (List CE) := [[(0, .iload_n 0, 1, 0, 0, 0), (1, .iload_n 1, 1, 0, 0, 0), (2, .if_icmp .lt 12, 3, 14, 0, 0), (5, .iload_n 0, 1, 0, 0, 0), (6, .iload_n 2, 1, 0, 0, 0), (7, .if_icmp .gt 7, 3, 14, 0, 0), (10, .iconst 1, 1, 0, 0, 0), (11, .goto 4, 3, 15, 0, 0), (14, .iconst 0, 1, 0, 0, 0), (15, .ireturn, 1, 0, 0, 0)]]
theorem oc_P_within : okC 17 c_P_within = true := by decide +kernel
def cu_P_within : List (Nat × List Bool) := []
noncomputable def F_P_within (O : Type) (a : Nat) (av : List AV) (σ : Mem) (K : AV → Mem → Option O) : Option O := none
theorem fs_P_within {X : CXT} (hX : XC X) (O : Type) : FS X 1 (F_P_within O) := by
  intro a av σ K o h
  cases h
theorem s_P_within {X : CXT} (hX : XC X) : ∀ (v0 : Int32) (v1 : Int32) (v2 : Int32) (s : Mem) (o : Bool × Mem), f_P_within v0 v1 v2 s = some o → BSnd X 1 17 (ovZ o) 0 (entL [.inl v0, .inl v1, .inl v2]) [] s := by
  intro v0 v1 v2 s o h
  exact evC (chs := c_P_within) (cuts := cu_P_within) (G := fun pc ls st σ => none) hX.2.1 hX.2.2 (fs_P_within hX _) (rt_Z rfl) oc_P_within (by
    intro pc ls st σ o h
    cases h) 80 0 _ _ _ _ h
theorem ok_P_within {X : CXT} (hX : XC X) : SemOK X 1 17 sm_P_within := by
  intro O av σ K o h
  unfold sm_P_within at h
  split at h
  · obtain ⟨r, hf, h⟩ := Option.bind_eq_some_iff.mp h
    exact ⟨ovZ r, fun ht => sp_of hX.1 (by decide) (List.mem_range.mpr (by decide)) (by decide +kernel) ht (Nat.le_of_ble_eq_true rfl) (s_P_within hX _ _ _ _ _ hf), trivial, h⟩
  · cases h
noncomputable def f_Ro_first (k0 : Nat) (v1 : Int32) (s : Mem) : Option (Int32 × Mem) :=
  (f_P_within v1 ((0 : Int32)) ((rI s k0 3) - ((1 : Int32))) s).bind fun r1 =>
  if (b2i r1.1) = 0 then
    some ((0 : Int32), r1.2)
  else
    gd (inb v1 (lenC (k0 + 1))) <|
    some (rI r1.2 (k0 + 1) (ix v1), r1.2)
noncomputable def sm_Ro_first (O : Type) (av : List AV) (σ : Mem) (K : AV → Mem → Option O) : Option O := match av with
  | [.inr (.inr (6, k0)), .inl v1] => (f_Ro_first k0 v1 σ).bind fun r => K (.inl r.1) r.2
  | _ => none
def c_Ro_first : List (List CE) := [[(0, .iload_n 1, 1, 0, 0, 0), (1, .iconst 0, 1, 0, 0, 0), (2, .aload_n 0, 1, 0, 0, 0), (3, .getfield 9, 3, 6, 3, 0), (6, .iconst 1, 1, 0, 0, 0), (7, .isub, 1, 0, 0, 0), (8, .invokestatic 35, 3, 17, 3, 1), (11, .ifCond .eq 12, 3, 23, 0, 0), (14, .aload_n 0, 1, 0, 0, 0), (15, .getfield 21, 3, 6, 0, 0)], [(18, .iload_n 1, 1, 0, 0, 0), (19, .iaload, 1, 0, 0, 0), (20, .goto 4, 3, 24, 0, 0), (23, .iconst 0, 1, 0, 0, 0), (24, .ireturn, 1, 0, 0, 0)]]
theorem oc_Ro_first : okC 54 c_Ro_first = true := by decide +kernel
def cu_Ro_first : List (Nat × List Bool) := []
noncomputable def F_Ro_first (O : Type) (a : Nat) (av : List AV) (σ : Mem) (K : AV → Mem → Option O) : Option O := if a = 17 then sm_P_within O av σ K else none
theorem fs_Ro_first {X : CXT} (hX : XC X) (O : Type) : FS X 2 (F_Ro_first O) := by
  intro a av σ K o h
  unfold F_Ro_first at h
  rcases ite_s h with ⟨rfl, h⟩ | ⟨_, h⟩
  · obtain ⟨r, h1, h2, h3⟩ := ok_P_within hX _ _ _ _ _ h
    exact ⟨r, fun ht => ⟨1, by decide, h1 ht⟩, h2, h3⟩
  cases h
theorem s_Ro_first {X : CXT} (hX : XC X) : ∀ (k0 : Nat) (v1 : Int32) (s : Mem) (o : Int32 × Mem), f_Ro_first k0 v1 s = some o → BSnd X 2 54 (ovI o) 0 (entL [.inr (.inr (6, k0)), .inl v1]) [] s := by
  intro k0 v1 s o h
  exact evC (chs := c_Ro_first) (cuts := cu_Ro_first) (G := fun pc ls st σ => none) hX.2.1 hX.2.2 (fs_Ro_first hX _) (rt_I rfl) oc_Ro_first (by
    intro pc ls st σ o h
    cases h) 100 0 _ _ _ _ h
theorem ok_Ro_first {X : CXT} (hX : XC X) : SemOK X 2 54 sm_Ro_first := by
  intro O av σ K o h
  unfold sm_Ro_first at h
  split at h
  · obtain ⟨r, hf, h⟩ := Option.bind_eq_some_iff.mp h
    exact ⟨ovI r, fun ht => sp_of hX.1 (by decide) (List.mem_range.mpr (by decide)) (by decide +kernel) ht (Nat.le_of_ble_eq_true rfl) (s_Ro_first hX _ _ _ _ hf), trivial, h⟩
  · cases h
noncomputable def f_Ro_isFull (k0 : Nat) (s : Mem) : Option (Bool × Mem) :=
  if (rI s k0 3) < (Int32.ofNat (lenC (k0 + 1))) then
    some (false, s)
  else
    some (true, s)
noncomputable def sm_Ro_isFull (O : Type) (av : List AV) (σ : Mem) (K : AV → Mem → Option O) : Option O := match av with
  | [.inr (.inr (6, k0))] => (f_Ro_isFull k0 σ).bind fun r => K (.inl (b2i r.1)) r.2
  | _ => none
def c_Ro_isFull : List (List CE) := [[(0, .aload_n 0, 1, 0, 0, 0), (1, .getfield 9, 3, 6, 3, 0), (4, .aload_n 0, 1, 0, 0, 0), (5, .getfield 21, 3, 6, 0, 0), (8, .arraylength, 1, 0, 0, 0), (9, .if_icmp .lt 7, 3, 16, 0, 0), (12, .iconst 1, 1, 0, 0, 0), (13, .goto 4, 3, 17, 0, 0)], [(16, .iconst 0, 1, 0, 0, 0), (17, .ireturn, 1, 0, 0, 0)]]
theorem oc_Ro_isFull : okC 131 c_Ro_isFull = true := by decide +kernel
def cu_Ro_isFull : List (Nat × List Bool) := []
noncomputable def F_Ro_isFull (O : Type) (a : Nat) (av : List AV) (σ : Mem) (K : AV → Mem → Option O) : Option O := none
theorem fs_Ro_isFull {X : CXT} (hX : XC X) (O : Type) : FS X 1 (F_Ro_isFull O) := by
  intro a av σ K o h
  cases h
theorem s_Ro_isFull {X : CXT} (hX : XC X) : ∀ (k0 : Nat) (s : Mem) (o : Bool × Mem), f_Ro_isFull k0 s = some o → BSnd X 1 131 (ovZ o) 0 (entL [.inr (.inr (6, k0))]) [] s := by
  intro k0 s o h
  exact evC (chs := c_Ro_isFull) (cuts := cu_Ro_isFull) (G := fun pc ls st σ => none) hX.2.1 hX.2.2 (fs_Ro_isFull hX _) (rt_Z rfl) oc_Ro_isFull (by
    intro pc ls st σ o h
    cases h) 80 0 _ _ _ _ h
theorem ok_Ro_isFull {X : CXT} (hX : XC X) : SemOK X 1 131 sm_Ro_isFull := by
  intro O av σ K o h
  unfold sm_Ro_isFull at h
  split at h
  · obtain ⟨r, hf, h⟩ := Option.bind_eq_some_iff.mp h
    exact ⟨ovZ r, fun ht => sp_of hX.1 (by decide) (List.mem_range.mpr (by decide)) (by decide +kernel) ht (Nat.le_of_ble_eq_true rfl) (s_Ro_isFull hX _ _ _ hf), trivial, h⟩
  · cases h
noncomputable def f_Ro_add (k0 : Nat) (v1 : Int32) (v2 : Int32) (v3 : Int32) (s : Mem) : Option (Int32 × Mem) :=
  (f_Ro_isFull k0 s).bind fun r1 =>
  if (b2i r1.1) = 0 then
    gd (inb (rI r1.2 k0 3) (lenC (k0 + 1))) <|
    let s2 : Mem := wI r1.2 (k0 + 1) (ix (rI r1.2 k0 3)) v1
    gd (inb (rI s2 k0 3) (lenC (k0 + 2))) <|
    let s3 : Mem := wI s2 (k0 + 2) (ix (rI s2 k0 3)) v2
    gd (inb (rI s3 k0 3) (lenC (k0 + 3))) <|
    let s4 : Mem := wI s3 (k0 + 3) (ix (rI s3 k0 3)) v3
    let s5 : Mem := wI s4 k0 3 ((rI s4 k0 3) + ((1 : Int32)))
    some (rI s5 k0 3, s5)
  else
    some ((-1 : Int32), r1.2)
noncomputable def sm_Ro_add (O : Type) (av : List AV) (σ : Mem) (K : AV → Mem → Option O) : Option O := match av with
  | [.inr (.inr (6, k0)), .inl v1, .inl v2, .inl v3] => (f_Ro_add k0 v1 v2 v3 σ).bind fun r => K (.inl r.1) r.2
  | _ => none
def c_Ro_add : List (List CE) := [[(0, .aload_n 0, 1, 0, 0, 0), (1, .invokevirtual 31, 3, 131, 1, 13), (4, .ifCond .eq 5, 3, 9, 0, 0), (7, .iconst (-1), 1, 0, 0, 0), (8, .ireturn, 1, 0, 0, 0), (9, .aload_n 0, 1, 0, 0, 0), (10, .getfield 21, 3, 6, 0, 0), (13, .aload_n 0, 1, 0, 0, 0), (14, .getfield 9, 3, 6, 3, 0)], [(17, .iload_n 1, 1, 0, 0, 0), (18, .iastore, 1, 0, 0, 0), (19, .aload_n 0, 1, 0, 0, 0), (20, .getfield 25, 3, 6, 1, 0), (23, .aload_n 0, 1, 0, 0, 0), (24, .getfield 9, 3, 6, 3, 0), (27, .iload_n 2, 1, 0, 0, 0), (28, .iastore, 1, 0, 0, 0), (29, .aload_n 0, 1, 0, 0, 0), (30, .getfield 28, 3, 6, 2, 0)], [(33, .aload_n 0, 1, 0, 0, 0), (34, .getfield 9, 3, 6, 3, 0), (37, .iload_n 3, 1, 0, 0, 0), (38, .iastore, 1, 0, 0, 0), (39, .aload_n 0, 1, 0, 0, 0), (40, .dup, 1, 0, 0, 0), (41, .getfield 9, 3, 6, 3, 0), (44, .iconst 1, 1, 0, 0, 0), (45, .iadd, 1, 0, 0, 0), (46, .putfield 9, 3, 6, 3, 0)], [(49, .aload_n 0, 1, 0, 0, 0), (50, .getfield 9, 3, 6, 3, 0), (53, .ireturn, 1, 0, 0, 0)]]
theorem oc_Ro_add : okC 134 c_Ro_add = true := by decide +kernel
def cu_Ro_add : List (Nat × List Bool) := []
noncomputable def F_Ro_add (O : Type) (a : Nat) (av : List AV) (σ : Mem) (K : AV → Mem → Option O) : Option O := if a = 131 then sm_Ro_isFull O av σ K else none
theorem fs_Ro_add {X : CXT} (hX : XC X) (O : Type) : FS X 2 (F_Ro_add O) := by
  intro a av σ K o h
  unfold F_Ro_add at h
  rcases ite_s h with ⟨rfl, h⟩ | ⟨_, h⟩
  · obtain ⟨r, h1, h2, h3⟩ := ok_Ro_isFull hX _ _ _ _ _ h
    exact ⟨r, fun ht => ⟨1, by decide, h1 ht⟩, h2, h3⟩
  cases h
theorem s_Ro_add {X : CXT} (hX : XC X) : ∀ (k0 : Nat) (v1 : Int32) (v2 : Int32) (v3 : Int32) (s : Mem) (o : Int32 × Mem), f_Ro_add k0 v1 v2 v3 s = some o → BSnd X 2 134 (ovI o) 0 (entL [.inr (.inr (6, k0)), .inl v1, .inl v2, .inl v3]) [] s := by
  intro k0 v1 v2 v3 s o h
  exact evC (chs := c_Ro_add) (cuts := cu_Ro_add) (G := fun pc ls st σ => none) hX.2.1 hX.2.2 (fs_Ro_add hX _) (rt_I rfl) oc_Ro_add (by
    intro pc ls st σ o h
    cases h) 168 0 _ _ _ _ h
theorem ok_Ro_add {X : CXT} (hX : XC X) : SemOK X 2 134 sm_Ro_add := by
  intro O av σ K o h
  unfold sm_Ro_add at h
  split at h
  · obtain ⟨r, hf, h⟩ := Option.bind_eq_some_iff.mp h
    exact ⟨ovI r, fun ht => sp_of hX.1 (by decide) (List.mem_range.mpr (by decide)) (by decide +kernel) ht (Nat.le_of_ble_eq_true rfl) (s_Ro_add hX _ _ _ _ _ _ hf), trivial, h⟩
  · cases h
noncomputable def f_Ro_clear (k0 : Nat) (s : Mem) : Option (Int32 × Mem) :=
  let s1 : Mem := wI s k0 3 ((0 : Int32))
  some ((0 : Int32), s1)
noncomputable def sm_Ro_clear (O : Type) (av : List AV) (σ : Mem) (K : AV → Mem → Option O) : Option O := match av with
  | [.inr (.inr (6, k0))] => (f_Ro_clear k0 σ).bind fun r => K (.inl r.1) r.2
  | _ => none
def c_Ro_clear : List (List CE) := [[(0, .aload_n 0, 1, 0, 0, 0), (1, .iconst 0, 1, 0, 0, 0), (2, .putfield 9, 3, 6, 3, 0), (5, .iconst 0, 1, 0, 0, 0), (6, .ireturn, 1, 0, 0, 0)]]
theorem oc_Ro_clear : okC 130 c_Ro_clear = true := by decide +kernel
def cu_Ro_clear : List (Nat × List Bool) := []
noncomputable def F_Ro_clear (O : Type) (a : Nat) (av : List AV) (σ : Mem) (K : AV → Mem → Option O) : Option O := none
theorem fs_Ro_clear {X : CXT} (hX : XC X) (O : Type) : FS X 1 (F_Ro_clear O) := by
  intro a av σ K o h
  cases h
theorem s_Ro_clear {X : CXT} (hX : XC X) : ∀ (k0 : Nat) (s : Mem) (o : Int32 × Mem), f_Ro_clear k0 s = some o → BSnd X 1 130 (ovI o) 0 (entL [.inr (.inr (6, k0))]) [] s := by
  intro k0 s o h
  exact evC (chs := c_Ro_clear) (cuts := cu_Ro_clear) (G := fun pc ls st σ => none) hX.2.1 hX.2.2 (fs_Ro_clear hX _) (rt_I rfl) oc_Ro_clear (by
    intro pc ls st σ o h
    cases h) 60 0 _ _ _ _ h
theorem ok_Ro_clear {X : CXT} (hX : XC X) : SemOK X 1 130 sm_Ro_clear := by
  intro O av σ K o h
  unfold sm_Ro_clear at h
  split at h
  · obtain ⟨r, hf, h⟩ := Option.bind_eq_some_iff.mp h
    exact ⟨ovI r, fun ht => sp_of hX.1 (by decide) (List.mem_range.mpr (by decide)) (by decide +kernel) ht (Nat.le_of_ble_eq_true rfl) (s_Ro_clear hX _ _ _ hf), trivial, h⟩
  · cases h
noncomputable def f_Ro_copyFrom_7 : Nat → Nat → Nat → Int32 → Mem → Option (Int32 × Mem)
  | 0, _, _, _, _ => none
  | n + 1, k0, k1, v2, s =>
    if (rI s k1 3) ≤ v2 then
      some (rI s k0 3, s)
    else
      gd (inb v2 (lenC (k1 + 1))) <|
      gd (inb v2 (lenC (k1 + 2))) <|
      gd (inb v2 (lenC (k1 + 3))) <|
      (f_Ro_add k0 (rI s (k1 + 1) (ix v2)) (rI s (k1 + 2) (ix v2)) (rI s (k1 + 3) (ix v2)) s).bind fun r1 =>
      f_Ro_copyFrom_7 n k0 k1 (v2 + (1 : Int32)) r1.2
noncomputable def f_Ro_copyFrom (k0 : Nat) (k1 : Nat) (s : Mem) : Option (Int32 × Mem) :=
  (f_Ro_clear k0 s).bind fun r1 =>
  f_Ro_copyFrom_7 FU k0 k1 ((0 : Int32)) r1.2
noncomputable def sm_Ro_copyFrom (O : Type) (av : List AV) (σ : Mem) (K : AV → Mem → Option O) : Option O := match av with
  | [.inr (.inr (6, k0)), .inr (.inr (6, k1))] => (f_Ro_copyFrom k0 k1 σ).bind fun r => K (.inl r.1) r.2
  | _ => none
def c_Ro_copyFrom : List (List CE) := [[(0, .aload_n 0, 1, 0, 0, 0), (1, .invokevirtual 39, 3, 130, 1, 13), (4, .pop, 1, 0, 0, 0), (5, .iconst 0, 1, 0, 0, 0), (6, .istore_n 2, 1, 0, 0, 0), (7, .iload_n 2, 1, 0, 0, 0), (8, .aload_n 1, 1, 0, 0, 0), (9, .getfield 9, 3, 6, 3, 0), (12, .if_icmp .ge 32, 3, 44, 0, 0), (15, .aload_n 0, 1, 0, 0, 0)], [(16, .aload_n 1, 1, 0, 0, 0), (17, .getfield 21, 3, 6, 0, 0), (20, .iload_n 2, 1, 0, 0, 0), (21, .iaload, 1, 0, 0, 0), (22, .aload_n 1, 1, 0, 0, 0), (23, .getfield 25, 3, 6, 1, 0), (26, .iload_n 2, 1, 0, 0, 0), (27, .iaload, 1, 0, 0, 0), (28, .aload_n 1, 1, 0, 0, 0), (29, .getfield 28, 3, 6, 2, 0)], [(32, .iload_n 2, 1, 0, 0, 0), (33, .iaload, 1, 0, 0, 0), (34, .invokevirtual 43, 3, 134, 4, 13), (37, .pop, 1, 0, 0, 0), (38, .iinc 2 1, 3, 0, 0, 0), (41, .goto (-34), 3, 7, 0, 0), (44, .aload_n 0, 1, 0, 0, 0), (45, .getfield 9, 3, 6, 3, 0)], [(48, .ireturn, 1, 0, 0, 0)]]
theorem oc_Ro_copyFrom : okC 136 c_Ro_copyFrom = true := by decide +kernel
def cu_Ro_copyFrom : List (Nat × List Bool) := [(7, [true, true, true])]
noncomputable def F_Ro_copyFrom (O : Type) (a : Nat) (av : List AV) (σ : Mem) (K : AV → Mem → Option O) : Option O := if a = 130 then sm_Ro_clear O av σ K else if a = 134 then sm_Ro_add O av σ K else none
theorem fs_Ro_copyFrom {X : CXT} (hX : XC X) (O : Type) : FS X 3 (F_Ro_copyFrom O) := by
  intro a av σ K o h
  unfold F_Ro_copyFrom at h
  rcases ite_s h with ⟨rfl, h⟩ | ⟨_, h⟩
  · obtain ⟨r, h1, h2, h3⟩ := ok_Ro_clear hX _ _ _ _ _ h
    exact ⟨r, fun ht => ⟨1, by decide, h1 ht⟩, h2, h3⟩
  rcases ite_s h with ⟨rfl, h⟩ | ⟨_, h⟩
  · obtain ⟨r, h1, h2, h3⟩ := ok_Ro_add hX _ _ _ _ _ h
    exact ⟨r, fun ht => ⟨2, by decide, h1 ht⟩, h2, h3⟩
  cases h
def hd_Ro_copyFrom_7 {O : Type} (g : Nat → Nat → Int32 → Mem → Option O) (ls : OL) (st : List AV) (σ : Mem) : Option O := match ls, st with
  | [some (.inr (.inr (6, k0))), some (.inr (.inr (6, k1))), some (.inl v2)], [] => g k0 k1 v2 σ
  | _, _ => none
theorem hs_Ro_copyFrom_7 {X : CXT} {g : Nat → Nat → Int32 → Mem → Option (Int32 × Mem)} (hg : ∀ (k0 : Nat) (k1 : Nat) (v2 : Int32) (s : Mem) (o : Int32 × Mem), g k0 k1 v2 s = some o → BSnd X 3 136 (ovI o) 7 [some (.inr (.inr (6, k0))), some (.inr (.inr (6, k1))), some (.inl v2)] [] s) : ∀ ls st σ o, hd_Ro_copyFrom_7 g ls st σ = some o → BSnd X 3 136 (ovI o) 7 ls st σ := by
  intro ls st σ o h
  unfold hd_Ro_copyFrom_7 at h
  split at h
  · exact hg _ _ _ _ _ h
  · cases h
theorem s_Ro_copyFrom_7 {X : CXT} (hX : XC X) : ∀ n : Nat, ∀ (k0 : Nat) (k1 : Nat) (v2 : Int32) (s : Mem) (o : Int32 × Mem), f_Ro_copyFrom_7 n k0 k1 v2 s = some o → BSnd X 3 136 (ovI o) 7 [some (.inr (.inr (6, k0))), some (.inr (.inr (6, k1))), some (.inl v2)] [] s := by
  intro n
  induction n with
  | zero => intro k0 k1 v2 s o h; cases h
  | succ n ih =>
    intro k0 k1 v2 s o h
    exact evC (chs := c_Ro_copyFrom) (cuts := cu_Ro_copyFrom) (G := fun pc ls st σ => if pc = 7 then hd_Ro_copyFrom_7 (fun k0 k1 v2 s => f_Ro_copyFrom_7 n k0 k1 v2 s) ls st σ else none) hX.2.1 hX.2.2 (fs_Ro_copyFrom hX _) (rt_I rfl) oc_Ro_copyFrom (by
    intro pc ls st σ o h
    rcases ite_s h with ⟨rfl, h⟩ | ⟨_, h⟩
    · exact hs_Ro_copyFrom_7 ih _ _ _ _ h
    cases h) 156 7 _ _ _ _ h
theorem s_Ro_copyFrom {X : CXT} (hX : XC X) : ∀ (k0 : Nat) (k1 : Nat) (s : Mem) (o : Int32 × Mem), f_Ro_copyFrom k0 k1 s = some o → BSnd X 3 136 (ovI o) 0 (entL [.inr (.inr (6, k0)), .inr (.inr (6, k1))]) [] s := by
  intro k0 k1 s o h
  exact evC (chs := c_Ro_copyFrom) (cuts := cu_Ro_copyFrom) (G := fun pc ls st σ => if pc = 7 then hd_Ro_copyFrom_7 (fun k0 k1 v2 s => f_Ro_copyFrom_7 FU k0 k1 v2 s) ls st σ else none) hX.2.1 hX.2.2 (fs_Ro_copyFrom hX _) (rt_I rfl) oc_Ro_copyFrom (by
    intro pc ls st σ o h
    rcases ite_s h with ⟨rfl, h⟩ | ⟨_, h⟩
    · exact hs_Ro_copyFrom_7 (s_Ro_copyFrom_7 hX FU) _ _ _ _ h
    cases h) 156 0 _ _ _ _ h
theorem ok_Ro_copyFrom {X : CXT} (hX : XC X) : SemOK X 3 136 sm_Ro_copyFrom := by
  intro O av σ K o h
  unfold sm_Ro_copyFrom at h
  split at h
  · obtain ⟨r, hf, h⟩ := Option.bind_eq_some_iff.mp h
    exact ⟨ovI r, fun ht => sp_of hX.1 (by decide) (List.mem_range.mpr (by decide)) (by decide +kernel) ht (Nat.le_of_ble_eq_true rfl) (s_Ro_copyFrom hX _ _ _ _ hf), trivial, h⟩
  · cases h
noncomputable def f_Ro_contains_2 : Nat → Nat → Int32 → Int32 → Int32 → Mem → Option (Bool × Mem)
  | 0, _, _, _, _, _ => none
  | n + 1, k0, v1, v2, v3, s =>
    if (rI s k0 3) ≤ v3 then
      some (false, s)
    else
      gd (inb v3 (lenC (k0 + 1))) <|
      if (rI s (k0 + 1) (ix v3)) = v1 then
        gd (inb v3 (lenC (k0 + 2))) <|
        if (rI s (k0 + 2) (ix v3)) = v2 then
          some (true, s)
        else
          f_Ro_contains_2 n k0 v1 v2 (v3 + (1 : Int32)) s
      else
        f_Ro_contains_2 n k0 v1 v2 (v3 + (1 : Int32)) s
noncomputable def f_Ro_contains (k0 : Nat) (v1 : Int32) (v2 : Int32) (s : Mem) : Option (Bool × Mem) :=
  f_Ro_contains_2 FU k0 v1 v2 ((0 : Int32)) s
noncomputable def sm_Ro_contains (O : Type) (av : List AV) (σ : Mem) (K : AV → Mem → Option O) : Option O := match av with
  | [.inr (.inr (6, k0)), .inl v1, .inl v2] => (f_Ro_contains k0 v1 v2 σ).bind fun r => K (.inl (b2i r.1)) r.2
  | _ => none
def c_Ro_contains : List (List CE) := [[(0, .iconst 0, 1, 0, 0, 0), (1, .istore_n 3, 1, 0, 0, 0), (2, .iload_n 3, 1, 0, 0, 0), (3, .aload_n 0, 1, 0, 0, 0), (4, .getfield 9, 3, 6, 3, 0), (7, .if_icmp .ge 31, 3, 38, 0, 0), (10, .aload_n 0, 1, 0, 0, 0), (11, .getfield 21, 3, 6, 0, 0), (14, .iload_n 3, 1, 0, 0, 0), (15, .iaload, 1, 0, 0, 0)], [(16, .iload_n 1, 1, 0, 0, 0), (17, .if_icmp .ne 15, 3, 32, 0, 0), (20, .aload_n 0, 1, 0, 0, 0), (21, .getfield 25, 3, 6, 1, 0), (24, .iload_n 3, 1, 0, 0, 0), (25, .iaload, 1, 0, 0, 0), (26, .iload_n 2, 1, 0, 0, 0), (27, .if_icmp .ne 5, 3, 32, 0, 0), (30, .iconst 1, 1, 0, 0, 0), (31, .ireturn, 1, 0, 0, 0)], [(32, .iinc 3 1, 3, 0, 0, 0), (35, .goto (-33), 3, 2, 0, 0), (38, .iconst 0, 1, 0, 0, 0), (39, .ireturn, 1, 0, 0, 0)]]
theorem oc_Ro_contains : okC 139 c_Ro_contains = true := by decide +kernel
def cu_Ro_contains : List (Nat × List Bool) := [(2, [true, true, true, true])]
noncomputable def F_Ro_contains (O : Type) (a : Nat) (av : List AV) (σ : Mem) (K : AV → Mem → Option O) : Option O := none
theorem fs_Ro_contains {X : CXT} (hX : XC X) (O : Type) : FS X 1 (F_Ro_contains O) := by
  intro a av σ K o h
  cases h
def hd_Ro_contains_2 {O : Type} (g : Nat → Int32 → Int32 → Int32 → Mem → Option O) (ls : OL) (st : List AV) (σ : Mem) : Option O := match ls, st with
  | [some (.inr (.inr (6, k0))), some (.inl v1), some (.inl v2), some (.inl v3)], [] => g k0 v1 v2 v3 σ
  | _, _ => none
theorem hs_Ro_contains_2 {X : CXT} {g : Nat → Int32 → Int32 → Int32 → Mem → Option (Bool × Mem)} (hg : ∀ (k0 : Nat) (v1 : Int32) (v2 : Int32) (v3 : Int32) (s : Mem) (o : Bool × Mem), g k0 v1 v2 v3 s = some o → BSnd X 1 139 (ovZ o) 2 [some (.inr (.inr (6, k0))), some (.inl v1), some (.inl v2), some (.inl v3)] [] s) : ∀ ls st σ o, hd_Ro_contains_2 g ls st σ = some o → BSnd X 1 139 (ovZ o) 2 ls st σ := by
  intro ls st σ o h
  unfold hd_Ro_contains_2 at h
  split at h
  · exact hg _ _ _ _ _ _ h
  · cases h
theorem s_Ro_contains_2 {X : CXT} (hX : XC X) : ∀ n : Nat, ∀ (k0 : Nat) (v1 : Int32) (v2 : Int32) (v3 : Int32) (s : Mem) (o : Bool × Mem), f_Ro_contains_2 n k0 v1 v2 v3 s = some o → BSnd X 1 139 (ovZ o) 2 [some (.inr (.inr (6, k0))), some (.inl v1), some (.inl v2), some (.inl v3)] [] s := by
  intro n
  induction n with
  | zero => intro k0 v1 v2 v3 s o h; cases h
  | succ n ih =>
    intro k0 v1 v2 v3 s o h
    exact evC (chs := c_Ro_contains) (cuts := cu_Ro_contains) (G := fun pc ls st σ => if pc = 2 then hd_Ro_contains_2 (fun k0 v1 v2 v3 s => f_Ro_contains_2 n k0 v1 v2 v3 s) ls st σ else none) hX.2.1 hX.2.2 (fs_Ro_contains hX _) (rt_Z rfl) oc_Ro_contains (by
    intro pc ls st σ o h
    rcases ite_s h with ⟨rfl, h⟩ | ⟨_, h⟩
    · exact hs_Ro_contains_2 ih _ _ _ _ h
    cases h) 136 2 _ _ _ _ h
theorem s_Ro_contains {X : CXT} (hX : XC X) : ∀ (k0 : Nat) (v1 : Int32) (v2 : Int32) (s : Mem) (o : Bool × Mem), f_Ro_contains k0 v1 v2 s = some o → BSnd X 1 139 (ovZ o) 0 (entL [.inr (.inr (6, k0)), .inl v1, .inl v2]) [] s := by
  intro k0 v1 v2 s o h
  exact evC (chs := c_Ro_contains) (cuts := cu_Ro_contains) (G := fun pc ls st σ => if pc = 2 then hd_Ro_contains_2 (fun k0 v1 v2 v3 s => f_Ro_contains_2 FU k0 v1 v2 v3 s) ls st σ else none) hX.2.1 hX.2.2 (fs_Ro_contains hX _) (rt_Z rfl) oc_Ro_contains (by
    intro pc ls st σ o h
    rcases ite_s h with ⟨rfl, h⟩ | ⟨_, h⟩
    · exact hs_Ro_contains_2 (s_Ro_contains_2 hX FU) _ _ _ _ h
    cases h) 136 0 _ _ _ _ h
theorem ok_Ro_contains {X : CXT} (hX : XC X) : SemOK X 1 139 sm_Ro_contains := by
  intro O av σ K o h
  unfold sm_Ro_contains at h
  split at h
  · obtain ⟨r, hf, h⟩ := Option.bind_eq_some_iff.mp h
    exact ⟨ovZ r, fun ht => sp_of hX.1 (by decide) (List.mem_range.mpr (by decide)) (by decide +kernel) ht (Nat.le_of_ble_eq_true rfl) (s_Ro_contains hX _ _ _ _ _ hf), trivial, h⟩
  · cases h
