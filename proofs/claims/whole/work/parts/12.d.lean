noncomputable def f_Re_scan_26 : Nat → Nat → Int32 → Int32 → Mem → Option (Mem)
  | 0, _, _, _, _ => none
  | n + 1, k0, v1, v2, s =>
    cif (((400 : Int32)) ≤ v2) (
      some s) (
      cif ((rI s k0 7) ≤ v1) (
        some s) (
        (f_Re_tokenEnd k0 v1 s).bind fun r1 =>
        (f_Re_byteAt k0 v1 r1.2).bind fun r2 =>
        (f_Re_isBlank r2.1 r2.2).bind fun r3 =>
        cif ((b2i r3.1) = 0) (
          (f_Re_addToken k0 v1 r1.1 r3.2).bind fun r4 =>
          f_Re_scan_26 n k0 r1.1 (v2 + (1 : Int32)) r4) (
          f_Re_scan_26 n k0 r1.1 (v2 + (1 : Int32)) r3.2)))
noncomputable def b_Re_scan (k0 : Nat) (s : Mem) : Option (Mem) :=
  let s1 : Mem := wI s k0 8 ((0 : Int32))
  let s2 : Mem := wI s1 k0 9 ((0 : Int32))
  let s3 : Mem := wI s2 k0 7 (rI s2 k0 6)
  (f_Re_discard k0 s3).bind fun r4 =>
  f_Re_scan_26 FU k0 ((0 : Int32)) ((0 : Int32)) r4
noncomputable def f_Re_scan : Nat → Mem → Option (Mem) := Classical.choose (⟨b_Re_scan, rfl⟩ : ∃ f : Nat → Mem → Option (Mem), f = b_Re_scan)
theorem f_Re_scan_eq : f_Re_scan = b_Re_scan := Classical.choose_spec (⟨b_Re_scan, rfl⟩ : ∃ f : Nat → Mem → Option (Mem), f = b_Re_scan)
noncomputable def sm_Re_scan (O : Type) (av : List AV) (σ : Mem) (K : AV → Mem → Option O) : Option O := match av with
  | [.inr (.inr (5, k0))] => (f_Re_scan k0 σ).bind fun r => K (.inl 0) r
  | _ => none
def c_Re_scan : List (List CE) := [[(0, .aload_n 0, 1, 0, 0, 0), (1, .iconst 0, 1, 0, 0, 0), (2, .putfield 48, 3, 5, 8, 0), (5, .aload_n 0, 1, 0, 0, 0), (6, .iconst 0, 1, 0, 0, 0), (7, .putfield 51, 3, 5, 9, 0), (10, .aload_n 0, 1, 0, 0, 0), (11, .aload_n 0, 1, 0, 0, 0), (12, .getfield 41, 3, 5, 6, 0), (15, .putfield 45, 3, 5, 7, 0)], [(18, .aload_n 0, 1, 0, 0, 0), (19, .invokevirtual 64, 3, 76, 1, 10), (22, .iconst 0, 1, 0, 0, 0), (23, .istore_n 1, 1, 0, 0, 0), (24, .iconst 0, 1, 0, 0, 0), (25, .istore_n 2, 1, 0, 0, 0), (26, .iload_n 2, 1, 0, 0, 0), (27, .sipush 400, 3, 400, 0, 0), (30, .if_icmp .ge 42, 3, 72, 0, 0)], [(33, .iload_n 1, 1, 0, 0, 0), (34, .aload_n 0, 1, 0, 0, 0), (35, .getfield 45, 3, 5, 7, 0), (38, .if_icmp .ge 34, 3, 72, 0, 0), (41, .aload_n 0, 1, 0, 0, 0), (42, .iload_n 1, 1, 0, 0, 0), (43, .invokevirtual 67, 3, 77, 2, 11), (46, .istore_n 3, 1, 0, 0, 0), (47, .aload_n 0, 1, 0, 0, 0)], [(48, .iload_n 1, 1, 0, 0, 0), (49, .invokevirtual 71, 3, 78, 2, 11), (52, .invokestatic 75, 3, 81, 1, 1), (55, .ifCond .ne 9, 3, 64, 0, 0), (58, .aload_n 0, 1, 0, 0, 0), (59, .iload_n 1, 1, 0, 0, 0), (60, .iload_n 3, 1, 0, 0, 0), (61, .invokevirtual 79, 3, 82, 3, 10)], [(64, .iload_n 3, 1, 0, 0, 0), (65, .istore_n 1, 1, 0, 0, 0), (66, .iinc 2 1, 3, 1, 0, 0), (69, .goto (-43), 3, 26, 0, 0), (72, .return_, 1, 0, 0, 0)]]
set_option maxRecDepth 100000 in
theorem oc_Re_scan : okC 75 c_Re_scan = true := by decide +kernel
def cu_Re_scan : List (Nat × List Bool) := [(26, [true, true, true])]
noncomputable def F_Re_scan (O : Type) (a : Nat) (av : List AV) (σ : Mem) (K : AV → Mem → Option O) : Option O := if a = 76 then sm_Re_discard O av σ K else if a = 77 then sm_Re_tokenEnd O av σ K else if a = 78 then sm_Re_byteAt O av σ K else if a = 81 then sm_Re_isBlank O av σ K else if a = 82 then sm_Re_addToken O av σ K else none
theorem fs_Re_scan {X : CXT} (hX : XC X) (O : Type) : FS X 8 (F_Re_scan O) := by
  intro a av σ K o h
  unfold F_Re_scan at h
  rcases ite_s h with ⟨rfl, h⟩ | ⟨_, h⟩
  · obtain ⟨r, h1, h2, h3⟩ := ok_Re_discard hX _ _ _ _ _ h
    exact ⟨r, fun ht => ⟨1, by decide, h1 ht⟩, h2, h3⟩
  rcases ite_s h with ⟨rfl, h⟩ | ⟨_, h⟩
  · obtain ⟨r, h1, h2, h3⟩ := ok_Re_tokenEnd hX _ _ _ _ _ h
    exact ⟨r, fun ht => ⟨3, by decide, h1 ht⟩, h2, h3⟩
  rcases ite_s h with ⟨rfl, h⟩ | ⟨_, h⟩
  · obtain ⟨r, h1, h2, h3⟩ := ok_Re_byteAt hX _ _ _ _ _ h
    exact ⟨r, fun ht => ⟨2, by decide, h1 ht⟩, h2, h3⟩
  rcases ite_s h with ⟨rfl, h⟩ | ⟨_, h⟩
  · obtain ⟨r, h1, h2, h3⟩ := ok_Re_isBlank hX _ _ _ _ _ h
    exact ⟨r, fun ht => ⟨1, by decide, h1 ht⟩, h2, h3⟩
  rcases ite_s h with ⟨rfl, h⟩ | ⟨_, h⟩
  · obtain ⟨r, h1, h2, h3⟩ := ok_Re_addToken hX _ _ _ _ _ h
    exact ⟨r, fun ht => ⟨7, by decide, h1 ht⟩, h2, h3⟩
  cases h
def hd_Re_scan_26 {O : Type} (g : Nat → Int32 → Int32 → Mem → Option O) (ls : OL) (st : List AV) (σ : Mem) : Option O := match ls, st with
  | [some (.inr (.inr (5, k0))), some (.inl v1), some (.inl v2)], [] => g k0 v1 v2 σ
  | _, _ => none
theorem hs_Re_scan_26 {X : CXT} {g : Nat → Int32 → Int32 → Mem → Option (Mem)} (hg : ∀ (k0 : Nat) (v1 : Int32) (v2 : Int32) (s : Mem) (o : Mem), g k0 v1 v2 s = some o → BSnd X 8 75 (ovV o) 26 [some (.inr (.inr (5, k0))), some (.inl v1), some (.inl v2)] [] s) : ∀ ls st σ o, hd_Re_scan_26 g ls st σ = some o → BSnd X 8 75 (ovV o) 26 ls st σ := by
  intro ls st σ o h
  unfold hd_Re_scan_26 at h
  split at h
  · exact hg _ _ _ _ _ h
  · cases h
set_option maxRecDepth 100000 in
theorem s_Re_scan_26 {X : CXT} (hX : XC X) : ∀ n : Nat, ∀ (k0 : Nat) (v1 : Int32) (v2 : Int32) (s : Mem) (o : Mem), f_Re_scan_26 n k0 v1 v2 s = some o → BSnd X 8 75 (ovV o) 26 [some (.inr (.inr (5, k0))), some (.inl v1), some (.inl v2)] [] s := by
  intro n
  induction n with
  | zero => intro k0 v1 v2 s o h; cases h
  | succ n ih =>
    intro k0 v1 v2 s o h
    exact evC (chs := c_Re_scan) (cuts := cu_Re_scan) (G := fun pc ls st σ => if pc = 26 then hd_Re_scan_26 (fun k0 v1 v2 s => f_Re_scan_26 n k0 v1 v2 s) ls st σ else none) hX.2.1 hX.2.2 (F := F_Re_scan _) (fs_Re_scan hX _) (rt_V rfl) oc_Re_scan (by
    intro pc ls st σ o h
    rcases ite_s h with ⟨rfl, h⟩ | ⟨_, h⟩
    · exact hs_Re_scan_26 ih _ _ _ _ h
    cases h) 204 26 _ _ _ _ h
set_option maxRecDepth 100000 in
theorem s_Re_scan {X : CXT} (hX : XC X) : ∀ (k0 : Nat) (s : Mem) (o : Mem), f_Re_scan k0 s = some o → BSnd X 8 75 (ovV o) 0 (entL [.inr (.inr (5, k0))]) [] s := by
  intro k0 s o h
  rw [f_Re_scan_eq] at h
  exact evC (chs := c_Re_scan) (cuts := cu_Re_scan) (G := fun pc ls st σ => if pc = 26 then hd_Re_scan_26 (fun k0 v1 v2 s => f_Re_scan_26 FU k0 v1 v2 s) ls st σ else none) hX.2.1 hX.2.2 (F := F_Re_scan _) (fs_Re_scan hX _) (rt_V rfl) oc_Re_scan (by
    intro pc ls st σ o h
    rcases ite_s h with ⟨rfl, h⟩ | ⟨_, h⟩
    · exact hs_Re_scan_26 (s_Re_scan_26 hX FU) _ _ _ _ h
    cases h) 204 0 _ _ _ _ h
theorem ok_Re_scan {X : CXT} (hX : XC X) : SemOK X 8 75 sm_Re_scan := by
  intro O av σ K o h
  unfold sm_Re_scan at h
  split at h
  · obtain ⟨r, hf, h⟩ := Option.bind_eq_some_iff.mp h
    exact ⟨ovV r, fun ht => sp_of hX.1 (by decide) (List.mem_range.mpr (by decide)) (by decide +kernel) ht (Nat.le_of_ble_eq_true rfl) (s_Re_scan hX _ _ _ hf), trivial, h⟩
  · cases h
noncomputable def b_La_clear (k0 : Nat) (s : Mem) : Option (Mem) :=
  let s1 : Mem := wI s k0 6 ((0 : Int32))
  let s2 : Mem := wI s1 k0 7 ((0 : Int32))
  some s2
noncomputable def f_La_clear : Nat → Mem → Option (Mem) := Classical.choose (⟨b_La_clear, rfl⟩ : ∃ f : Nat → Mem → Option (Mem), f = b_La_clear)
theorem f_La_clear_eq : f_La_clear = b_La_clear := Classical.choose_spec (⟨b_La_clear, rfl⟩ : ∃ f : Nat → Mem → Option (Mem), f = b_La_clear)
noncomputable def sm_La_clear (O : Type) (av : List AV) (σ : Mem) (K : AV → Mem → Option O) : Option O := match av with
  | [.inr (.inr (2, k0))] => (f_La_clear k0 σ).bind fun r => K (.inl 0) r
  | _ => none
def c_La_clear : List (List CE) := [[(0, .aload_n 0, 1, 0, 0, 0), (1, .iconst 0, 1, 0, 0, 0), (2, .putfield 30, 3, 2, 6, 0), (5, .aload_n 0, 1, 0, 0, 0), (6, .iconst 0, 1, 0, 0, 0), (7, .putfield 34, 3, 2, 7, 0), (10, .return_, 1, 0, 0, 0)]]
set_option maxRecDepth 100000 in
theorem oc_La_clear : okC 112 c_La_clear = true := by decide +kernel
def cu_La_clear : List (Nat × List Bool) := []
noncomputable def F_La_clear (O : Type) (a : Nat) (av : List AV) (σ : Mem) (K : AV → Mem → Option O) : Option O := none
theorem fs_La_clear {X : CXT} (hX : XC X) (O : Type) : FS X 1 (F_La_clear O) := by
  intro a av σ K o h
  cases h
set_option maxRecDepth 100000 in
theorem s_La_clear {X : CXT} (hX : XC X) : ∀ (k0 : Nat) (s : Mem) (o : Mem), f_La_clear k0 s = some o → BSnd X 1 112 (ovV o) 0 (entL [.inr (.inr (2, k0))]) [] s := by
  intro k0 s o h
  rw [f_La_clear_eq] at h
  exact evC (chs := c_La_clear) (cuts := cu_La_clear) (G := fun pc ls st σ => none) hX.2.1 hX.2.2 (F := F_La_clear _) (fs_La_clear hX _) (rt_V rfl) oc_La_clear (by
    intro pc ls st σ o h
    cases h) 68 0 _ _ _ _ h
theorem ok_La_clear {X : CXT} (hX : XC X) : SemOK X 1 112 sm_La_clear := by
  intro O av σ K o h
  unfold sm_La_clear at h
  split at h
  · obtain ⟨r, hf, h⟩ := Option.bind_eq_some_iff.mp h
    exact ⟨ovV r, fun ht => sp_of hX.1 (by decide) (List.mem_range.mpr (by decide)) (by decide +kernel) ht (Nat.le_of_ble_eq_true rfl) (s_La_clear hX _ _ _ hf), trivial, h⟩
  · cases h
noncomputable def b_Re_sort (k0 : Nat) (s : Mem) : Option (Int32 × Mem) :=
  cif ((rI s k0 9) < 0) (
    some ((0 : Int32), s)) (
    cif ((rI s k0 8) ≤ (rI s k0 9)) (
      some ((0 : Int32), s)) (
      cif (((400 : Int32)) ≤ (rI s k0 9)) (
        some ((0 : Int32), s)) (
        gd (inb (rI s k0 9) (lenC (k0 + 2))) <|
        some (rI s (k0 + 2) (ix (rI s k0 9)), s))))
noncomputable def f_Re_sort : Nat → Mem → Option (Int32 × Mem) := Classical.choose (⟨b_Re_sort, rfl⟩ : ∃ f : Nat → Mem → Option (Int32 × Mem), f = b_Re_sort)
theorem f_Re_sort_eq : f_Re_sort = b_Re_sort := Classical.choose_spec (⟨b_Re_sort, rfl⟩ : ∃ f : Nat → Mem → Option (Int32 × Mem), f = b_Re_sort)
noncomputable def sm_Re_sort (O : Type) (av : List AV) (σ : Mem) (K : AV → Mem → Option O) : Option O := match av with
  | [.inr (.inr (5, k0))] => (f_Re_sort k0 σ).bind fun r => K (.inl r.1) r.2
  | _ => none
def c_Re_sort : List (List CE) := [[(0, .aload_n 0, 1, 0, 0, 0), (1, .getfield 51, 3, 5, 9, 0), (4, .ifCond .lt 36, 3, 40, 0, 0), (7, .aload_n 0, 1, 0, 0, 0), (8, .getfield 51, 3, 5, 9, 0), (11, .aload_n 0, 1, 0, 0, 0), (12, .getfield 48, 3, 5, 8, 0), (15, .if_icmp .ge 25, 3, 40, 0, 0)], [(18, .aload_n 0, 1, 0, 0, 0), (19, .getfield 51, 3, 5, 9, 0), (22, .sipush 400, 3, 400, 0, 0), (25, .if_icmp .ge 15, 3, 40, 0, 0), (28, .aload_n 0, 1, 0, 0, 0), (29, .getfield 15, 3, 5, 1, 0)], [(32, .aload_n 0, 1, 0, 0, 0), (33, .getfield 51, 3, 5, 9, 0), (36, .iaload, 1, 0, 0, 0), (37, .goto 4, 3, 41, 0, 0), (40, .iconst 0, 1, 0, 0, 0), (41, .ireturn, 1, 0, 0, 0)]]
set_option maxRecDepth 100000 in
theorem oc_Re_sort : okC 113 c_Re_sort = true := by decide +kernel
def cu_Re_sort : List (Nat × List Bool) := []
noncomputable def F_Re_sort (O : Type) (a : Nat) (av : List AV) (σ : Mem) (K : AV → Mem → Option O) : Option O := none
theorem fs_Re_sort {X : CXT} (hX : XC X) (O : Type) : FS X 1 (F_Re_sort O) := by
  intro a av σ K o h
  cases h
set_option maxRecDepth 100000 in
theorem s_Re_sort {X : CXT} (hX : XC X) : ∀ (k0 : Nat) (s : Mem) (o : Int32 × Mem), f_Re_sort k0 s = some o → BSnd X 1 113 (ovI o) 0 (entL [.inr (.inr (5, k0))]) [] s := by
  intro k0 s o h
  rw [f_Re_sort_eq] at h
  exact evC (chs := c_Re_sort) (cuts := cu_Re_sort) (G := fun pc ls st σ => none) hX.2.1 hX.2.2 (F := F_Re_sort _) (fs_Re_sort hX _) (rt_I rfl) oc_Re_sort (by
    intro pc ls st σ o h
    cases h) 120 0 _ _ _ _ h
theorem ok_Re_sort {X : CXT} (hX : XC X) : SemOK X 1 113 sm_Re_sort := by
  intro O av σ K o h
  unfold sm_Re_sort at h
  split at h
  · obtain ⟨r, hf, h⟩ := Option.bind_eq_some_iff.mp h
    exact ⟨ovI r, fun ht => sp_of hX.1 (by decide) (List.mem_range.mpr (by decide)) (by decide +kernel) ht (Nat.le_of_ble_eq_true rfl) (s_Re_sort hX _ _ _ hf), trivial, h⟩
  · cases h
noncomputable def b_La_isFull (k0 : Nat) (s : Mem) : Option (Bool × Mem) :=
  cif ((rI s k0 7) < ((16 : Int32))) (
    some (false, s)) (
    some (true, s))
noncomputable def f_La_isFull : Nat → Mem → Option (Bool × Mem) := Classical.choose (⟨b_La_isFull, rfl⟩ : ∃ f : Nat → Mem → Option (Bool × Mem), f = b_La_isFull)
theorem f_La_isFull_eq : f_La_isFull = b_La_isFull := Classical.choose_spec (⟨b_La_isFull, rfl⟩ : ∃ f : Nat → Mem → Option (Bool × Mem), f = b_La_isFull)
noncomputable def sm_La_isFull (O : Type) (av : List AV) (σ : Mem) (K : AV → Mem → Option O) : Option O := match av with
  | [.inr (.inr (2, k0))] => (f_La_isFull k0 σ).bind fun r => K (.inl (b2i r.1)) r.2
  | _ => none
def c_La_isFull : List (List CE) := [[(0, .aload_n 0, 1, 0, 0, 0), (1, .getfield 34, 3, 2, 7, 0), (4, .bipush 16, 2, 16, 0, 0), (6, .if_icmp .lt 7, 3, 13, 0, 0), (9, .iconst 1, 1, 1, 0, 0), (10, .goto 4, 3, 14, 0, 0), (13, .iconst 0, 1, 0, 0, 0), (14, .ireturn, 1, 0, 0, 0)]]
set_option maxRecDepth 100000 in
theorem oc_La_isFull : okC 114 c_La_isFull = true := by decide +kernel
def cu_La_isFull : List (Nat × List Bool) := []
noncomputable def F_La_isFull (O : Type) (a : Nat) (av : List AV) (σ : Mem) (K : AV → Mem → Option O) : Option O := none
theorem fs_La_isFull {X : CXT} (hX : XC X) (O : Type) : FS X 1 (F_La_isFull O) := by
  intro a av σ K o h
  cases h
set_option maxRecDepth 100000 in
theorem s_La_isFull {X : CXT} (hX : XC X) : ∀ (k0 : Nat) (s : Mem) (o : Bool × Mem), f_La_isFull k0 s = some o → BSnd X 1 114 (ovZ o) 0 (entL [.inr (.inr (2, k0))]) [] s := by
  intro k0 s o h
  rw [f_La_isFull_eq] at h
  exact evC (chs := c_La_isFull) (cuts := cu_La_isFull) (G := fun pc ls st σ => none) hX.2.1 hX.2.2 (F := F_La_isFull _) (fs_La_isFull hX _) (rt_Z rfl) oc_La_isFull (by
    intro pc ls st σ o h
    cases h) 72 0 _ _ _ _ h
theorem ok_La_isFull {X : CXT} (hX : XC X) : SemOK X 1 114 sm_La_isFull := by
  intro O av σ K o h
  unfold sm_La_isFull at h
  split at h
  · obtain ⟨r, hf, h⟩ := Option.bind_eq_some_iff.mp h
    exact ⟨ovZ r, fun ht => sp_of hX.1 (by decide) (List.mem_range.mpr (by decide)) (by decide +kernel) ht (Nat.le_of_ble_eq_true rfl) (s_La_isFull hX _ _ _ hf), trivial, h⟩
  · cases h
noncomputable def b_Re_fail (k0 : Nat) (v1 : Int32) (s : Mem) : Option (Bool × Mem) :=
  let s1 : Mem := wI s k0 10 v1
  cif ((rI s1 k0 9) < 0) (
    let s2 : Mem := wI s1 k0 11 (rI s1 k0 7)
    some (false, s2)) (
    cif ((rI s1 k0 8) ≤ (rI s1 k0 9)) (
      let s3 : Mem := wI s1 k0 11 (rI s1 k0 7)
      some (false, s3)) (
      cif (((400 : Int32)) ≤ (rI s1 k0 9)) (
        let s4 : Mem := wI s1 k0 11 (rI s1 k0 7)
        some (false, s4)) (
        gd (inb (rI s1 k0 9) (lenC (k0 + 4))) <|
        let s5 : Mem := wI s1 k0 11 (rI s1 (k0 + 4) (ix (rI s1 k0 9)))
        some (false, s5))))
noncomputable def f_Re_fail : Nat → Int32 → Mem → Option (Bool × Mem) := Classical.choose (⟨b_Re_fail, rfl⟩ : ∃ f : Nat → Int32 → Mem → Option (Bool × Mem), f = b_Re_fail)
theorem f_Re_fail_eq : f_Re_fail = b_Re_fail := Classical.choose_spec (⟨b_Re_fail, rfl⟩ : ∃ f : Nat → Int32 → Mem → Option (Bool × Mem), f = b_Re_fail)
noncomputable def sm_Re_fail (O : Type) (av : List AV) (σ : Mem) (K : AV → Mem → Option O) : Option O := match av with
  | [.inr (.inr (5, k0)), .inl v1] => (f_Re_fail k0 v1 σ).bind fun r => K (.inl (b2i r.1)) r.2
  | _ => none
def c_Re_fail : List (List CE) := [[(0, .aload_n 0, 1, 0, 0, 0), (1, .iload_n 1, 1, 0, 0, 0), (2, .putfield 54, 3, 5, 10, 0), (5, .aload_n 0, 1, 0, 0, 0), (6, .aload_n 0, 1, 0, 0, 0), (7, .getfield 51, 3, 5, 9, 0), (10, .ifCond .lt 36, 3, 46, 0, 0), (13, .aload_n 0, 1, 0, 0, 0), (14, .getfield 51, 3, 5, 9, 0)], [(17, .aload_n 0, 1, 0, 0, 0), (18, .getfield 48, 3, 5, 8, 0), (21, .if_icmp .ge 25, 3, 46, 0, 0), (24, .aload_n 0, 1, 0, 0, 0), (25, .getfield 51, 3, 5, 9, 0), (28, .sipush 400, 3, 400, 0, 0), (31, .if_icmp .ge 15, 3, 46, 0, 0)], [(34, .aload_n 0, 1, 0, 0, 0), (35, .getfield 22, 3, 5, 3, 0), (38, .aload_n 0, 1, 0, 0, 0), (39, .getfield 51, 3, 5, 9, 0), (42, .iaload, 1, 0, 0, 0), (43, .goto 7, 3, 50, 0, 0), (46, .aload_n 0, 1, 0, 0, 0), (47, .getfield 45, 3, 5, 7, 0)], [(50, .putfield 57, 3, 5, 11, 0), (53, .iconst 0, 1, 0, 0, 0), (54, .ireturn, 1, 0, 0, 0)]]
set_option maxRecDepth 100000 in
theorem oc_Re_fail : okC 116 c_Re_fail = true := by decide +kernel
def cu_Re_fail : List (Nat × List Bool) := []
noncomputable def F_Re_fail (O : Type) (a : Nat) (av : List AV) (σ : Mem) (K : AV → Mem → Option O) : Option O := none
theorem fs_Re_fail {X : CXT} (hX : XC X) (O : Type) : FS X 1 (F_Re_fail O) := by
  intro a av σ K o h
  cases h
set_option maxRecDepth 100000 in
theorem s_Re_fail {X : CXT} (hX : XC X) : ∀ (k0 : Nat) (v1 : Int32) (s : Mem) (o : Bool × Mem), f_Re_fail k0 v1 s = some o → BSnd X 1 116 (ovZ o) 0 (entL [.inr (.inr (5, k0)), .inl v1]) [] s := by
  intro k0 v1 s o h
  rw [f_Re_fail_eq] at h
  exact evC (chs := c_Re_fail) (cuts := cu_Re_fail) (G := fun pc ls st σ => none) hX.2.1 hX.2.2 (F := F_Re_fail _) (fs_Re_fail hX _) (rt_Z rfl) oc_Re_fail (by
    intro pc ls st σ o h
    cases h) 148 0 _ _ _ _ h
theorem ok_Re_fail {X : CXT} (hX : XC X) : SemOK X 1 116 sm_Re_fail := by
  intro O av σ K o h
  unfold sm_Re_fail at h
  split at h
  · obtain ⟨r, hf, h⟩ := Option.bind_eq_some_iff.mp h
    exact ⟨ovZ r, fun ht => sp_of hX.1 (by decide) (List.mem_range.mpr (by decide)) (by decide +kernel) ht (Nat.le_of_ble_eq_true rfl) (s_Re_fail hX _ _ _ _ hf), trivial, h⟩
  · cases h
noncomputable def b_Re_begin (k0 : Nat) (v1 : Int32) (v2 : Int32) (v3 : Int32) (s : Mem) : Option (Bool × Mem) :=
  (f_Re_sort k0 s).bind fun r1 =>
  (f_P_within r1.1 v1 v2 r1.2).bind fun r2 =>
  cif ((b2i r2.1) = 0) (
    (f_Re_fail k0 ((1 : Int32)) r2.2).bind fun r3 =>
    lf (rB (b2i r3.1)) r3.2) (
    cif (v3 = 0) (
      let s4 : Mem := wI r2.2 k0 9 ((rI r2.2 k0 9) + ((1 : Int32)))
      some (true, s4)) (
      (f_Re_fail k0 ((3 : Int32)) r2.2).bind fun r5 =>
      lf (rB (b2i r5.1)) r5.2))
noncomputable def f_Re_begin : Nat → Int32 → Int32 → Int32 → Mem → Option (Bool × Mem) := Classical.choose (⟨b_Re_begin, rfl⟩ : ∃ f : Nat → Int32 → Int32 → Int32 → Mem → Option (Bool × Mem), f = b_Re_begin)
theorem f_Re_begin_eq : f_Re_begin = b_Re_begin := Classical.choose_spec (⟨b_Re_begin, rfl⟩ : ∃ f : Nat → Int32 → Int32 → Int32 → Mem → Option (Bool × Mem), f = b_Re_begin)
noncomputable def sm_Re_begin (O : Type) (av : List AV) (σ : Mem) (K : AV → Mem → Option O) : Option O := match av with
  | [.inr (.inr (5, k0)), .inl v1, .inl v2, .inl v3] => (f_Re_begin k0 v1 v2 v3 σ).bind fun r => K (.inl (b2i r.1)) r.2
  | _ => none
def c_Re_begin : List (List CE) := [[(0, .aload_n 0, 1, 0, 0, 0), (1, .invokevirtual 115, 3, 113, 1, 11), (4, .iload_n 1, 1, 0, 0, 0), (5, .iload_n 2, 1, 0, 0, 0), (6, .invokestatic 60, 3, 17, 3, 1), (9, .ifCond .ne 9, 3, 18, 0, 0), (12, .aload_n 0, 1, 0, 0, 0), (13, .iconst 1, 1, 1, 0, 0), (14, .invokevirtual 118, 3, 116, 2, 11)], [(17, .ireturn, 1, 0, 0, 0), (18, .iload_n 3, 1, 0, 0, 0), (19, .ifCond .eq 9, 3, 28, 0, 0), (22, .aload_n 0, 1, 0, 0, 0), (23, .iconst 3, 1, 3, 0, 0), (24, .invokevirtual 118, 3, 116, 2, 11), (27, .ireturn, 1, 0, 0, 0), (28, .aload_n 0, 1, 0, 0, 0), (29, .dup, 1, 0, 0, 0), (30, .getfield 51, 3, 5, 9, 0)], [(33, .iconst 1, 1, 1, 0, 0), (34, .iadd, 1, 0, 0, 0), (35, .putfield 51, 3, 5, 9, 0), (38, .iconst 1, 1, 1, 0, 0), (39, .ireturn, 1, 0, 0, 0)]]
set_option maxRecDepth 100000 in
theorem oc_Re_begin : okC 115 c_Re_begin = true := by decide +kernel
def cu_Re_begin : List (Nat × List Bool) := []
noncomputable def F_Re_begin (O : Type) (a : Nat) (av : List AV) (σ : Mem) (K : AV → Mem → Option O) : Option O := if a = 17 then sm_P_within O av σ K else if a = 113 then sm_Re_sort O av σ K else if a = 116 then sm_Re_fail O av σ K else none
theorem fs_Re_begin {X : CXT} (hX : XC X) (O : Type) : FS X 2 (F_Re_begin O) := by
  intro a av σ K o h
  unfold F_Re_begin at h
  rcases ite_s h with ⟨rfl, h⟩ | ⟨_, h⟩
  · obtain ⟨r, h1, h2, h3⟩ := ok_P_within hX _ _ _ _ _ h
    exact ⟨r, fun ht => ⟨1, by decide, h1 ht⟩, h2, h3⟩
  rcases ite_s h with ⟨rfl, h⟩ | ⟨_, h⟩
  · obtain ⟨r, h1, h2, h3⟩ := ok_Re_sort hX _ _ _ _ _ h
    exact ⟨r, fun ht => ⟨1, by decide, h1 ht⟩, h2, h3⟩
  rcases ite_s h with ⟨rfl, h⟩ | ⟨_, h⟩
  · obtain ⟨r, h1, h2, h3⟩ := ok_Re_fail hX _ _ _ _ _ h
    exact ⟨r, fun ht => ⟨1, by decide, h1 ht⟩, h2, h3⟩
  cases h
set_option maxRecDepth 100000 in
theorem s_Re_begin {X : CXT} (hX : XC X) : ∀ (k0 : Nat) (v1 : Int32) (v2 : Int32) (v3 : Int32) (s : Mem) (o : Bool × Mem), f_Re_begin k0 v1 v2 v3 s = some o → BSnd X 2 115 (ovZ o) 0 (entL [.inr (.inr (5, k0)), .inl v1, .inl v2, .inl v3]) [] s := by
  intro k0 v1 v2 v3 s o h
  rw [f_Re_begin_eq] at h
  exact evC (chs := c_Re_begin) (cuts := cu_Re_begin) (G := fun pc ls st σ => none) hX.2.1 hX.2.2 (F := F_Re_begin _) (fs_Re_begin hX _) (rt_Z rfl) oc_Re_begin (by
    intro pc ls st σ o h
    cases h) 136 0 _ _ _ _ h
theorem ok_Re_begin {X : CXT} (hX : XC X) : SemOK X 2 115 sm_Re_begin := by
  intro O av σ K o h
  unfold sm_Re_begin at h
  split at h
  · obtain ⟨r, hf, h⟩ := Option.bind_eq_some_iff.mp h
    exact ⟨ovZ r, fun ht => sp_of hX.1 (by decide) (List.mem_range.mpr (by decide)) (by decide +kernel) ht (Nat.le_of_ble_eq_true rfl) (s_Re_begin hX _ _ _ _ _ _ hf), trivial, h⟩
  · cases h
noncomputable def b_Re_value (k0 : Nat) (s : Mem) : Option (Int32 × Mem) :=
  cif ((rI s k0 9) < 0) (
    some ((0 : Int32), s)) (
    cif ((rI s k0 8) ≤ (rI s k0 9)) (
      some ((0 : Int32), s)) (
      cif (((400 : Int32)) ≤ (rI s k0 9)) (
        some ((0 : Int32), s)) (
        gd (inb (rI s k0 9) (lenC (k0 + 3))) <|
        some (rI s (k0 + 3) (ix (rI s k0 9)), s))))
noncomputable def f_Re_value : Nat → Mem → Option (Int32 × Mem) := Classical.choose (⟨b_Re_value, rfl⟩ : ∃ f : Nat → Mem → Option (Int32 × Mem), f = b_Re_value)
theorem f_Re_value_eq : f_Re_value = b_Re_value := Classical.choose_spec (⟨b_Re_value, rfl⟩ : ∃ f : Nat → Mem → Option (Int32 × Mem), f = b_Re_value)
noncomputable def sm_Re_value (O : Type) (av : List AV) (σ : Mem) (K : AV → Mem → Option O) : Option O := match av with
  | [.inr (.inr (5, k0))] => (f_Re_value k0 σ).bind fun r => K (.inl r.1) r.2
  | _ => none
def c_Re_value : List (List CE) := [[(0, .aload_n 0, 1, 0, 0, 0), (1, .getfield 51, 3, 5, 9, 0), (4, .ifCond .lt 36, 3, 40, 0, 0), (7, .aload_n 0, 1, 0, 0, 0), (8, .getfield 51, 3, 5, 9, 0), (11, .aload_n 0, 1, 0, 0, 0), (12, .getfield 48, 3, 5, 8, 0), (15, .if_icmp .ge 25, 3, 40, 0, 0)], [(18, .aload_n 0, 1, 0, 0, 0), (19, .getfield 51, 3, 5, 9, 0), (22, .sipush 400, 3, 400, 0, 0), (25, .if_icmp .ge 15, 3, 40, 0, 0), (28, .aload_n 0, 1, 0, 0, 0), (29, .getfield 19, 3, 5, 2, 0)], [(32, .aload_n 0, 1, 0, 0, 0), (33, .getfield 51, 3, 5, 9, 0), (36, .iaload, 1, 0, 0, 0), (37, .goto 4, 3, 41, 0, 0), (40, .iconst 0, 1, 0, 0, 0), (41, .ireturn, 1, 0, 0, 0)]]
set_option maxRecDepth 100000 in
theorem oc_Re_value : okC 120 c_Re_value = true := by decide +kernel
def cu_Re_value : List (Nat × List Bool) := []
noncomputable def F_Re_value (O : Type) (a : Nat) (av : List AV) (σ : Mem) (K : AV → Mem → Option O) : Option O := none
theorem fs_Re_value {X : CXT} (hX : XC X) (O : Type) : FS X 1 (F_Re_value O) := by
  intro a av σ K o h
  cases h
set_option maxRecDepth 100000 in
theorem s_Re_value {X : CXT} (hX : XC X) : ∀ (k0 : Nat) (s : Mem) (o : Int32 × Mem), f_Re_value k0 s = some o → BSnd X 1 120 (ovI o) 0 (entL [.inr (.inr (5, k0))]) [] s := by
  intro k0 s o h
  rw [f_Re_value_eq] at h
  exact evC (chs := c_Re_value) (cuts := cu_Re_value) (G := fun pc ls st σ => none) hX.2.1 hX.2.2 (F := F_Re_value _) (fs_Re_value hX _) (rt_I rfl) oc_Re_value (by
    intro pc ls st σ o h
    cases h) 120 0 _ _ _ _ h
theorem ok_Re_value {X : CXT} (hX : XC X) : SemOK X 1 120 sm_Re_value := by
  intro O av σ K o h
  unfold sm_Re_value at h
  split at h
  · obtain ⟨r, hf, h⟩ := Option.bind_eq_some_iff.mp h
    exact ⟨ovI r, fun ht => sp_of hX.1 (by decide) (List.mem_range.mpr (by decide)) (by decide +kernel) ht (Nat.le_of_ble_eq_true rfl) (s_Re_value hX _ _ _ hf), trivial, h⟩
  · cases h
noncomputable def b_La_addStep (k0 : Nat) (v1 : Int32) (s : Mem) : Option (Mem) :=
  cif ((Int32.ofNat (lenC (k0 + 5))) ≤ (rI s k0 6)) (
    some s) (
    gd (inb (rI s k0 6) (lenC (k0 + 5))) <|
    let s1 : Mem := wI s (k0 + 5) (ix (rI s k0 6)) v1
    let s2 : Mem := wI s1 k0 6 ((rI s1 k0 6) + ((1 : Int32)))
    some s2)
noncomputable def f_La_addStep : Nat → Int32 → Mem → Option (Mem) := Classical.choose (⟨b_La_addStep, rfl⟩ : ∃ f : Nat → Int32 → Mem → Option (Mem), f = b_La_addStep)
theorem f_La_addStep_eq : f_La_addStep = b_La_addStep := Classical.choose_spec (⟨b_La_addStep, rfl⟩ : ∃ f : Nat → Int32 → Mem → Option (Mem), f = b_La_addStep)
noncomputable def sm_La_addStep (O : Type) (av : List AV) (σ : Mem) (K : AV → Mem → Option O) : Option O := match av with
  | [.inr (.inr (2, k0)), .inl v1] => (f_La_addStep k0 v1 σ).bind fun r => K (.inl 0) r
  | _ => none
def c_La_addStep : List (List CE) := [[(0, .aload_n 0, 1, 0, 0, 0), (1, .getfield 30, 3, 2, 6, 0), (4, .aload_n 0, 1, 0, 0, 0), (5, .getfield 24, 3, 2, 4, 0), (8, .arraylength, 1, 0, 0, 0), (9, .if_icmp .ge 23, 3, 32, 0, 0), (12, .aload_n 0, 1, 0, 0, 0), (13, .getfield 24, 3, 2, 4, 0)], [(16, .aload_n 0, 1, 0, 0, 0), (17, .getfield 30, 3, 2, 6, 0), (20, .iload_n 1, 1, 0, 0, 0), (21, .iastore, 1, 0, 0, 0), (22, .aload_n 0, 1, 0, 0, 0), (23, .dup, 1, 0, 0, 0), (24, .getfield 30, 3, 2, 6, 0), (27, .iconst 1, 1, 1, 0, 0), (28, .iadd, 1, 0, 0, 0), (29, .putfield 30, 3, 2, 6, 0)], [(32, .return_, 1, 0, 0, 0)]]
set_option maxRecDepth 100000 in
theorem oc_La_addStep : okC 121 c_La_addStep = true := by decide +kernel
def cu_La_addStep : List (Nat × List Bool) := []
noncomputable def F_La_addStep (O : Type) (a : Nat) (av : List AV) (σ : Mem) (K : AV → Mem → Option O) : Option O := none
theorem fs_La_addStep {X : CXT} (hX : XC X) (O : Type) : FS X 1 (F_La_addStep O) := by
  intro a av σ K o h
  cases h
set_option maxRecDepth 100000 in
theorem s_La_addStep {X : CXT} (hX : XC X) : ∀ (k0 : Nat) (v1 : Int32) (s : Mem) (o : Mem), f_La_addStep k0 v1 s = some o → BSnd X 1 121 (ovV o) 0 (entL [.inr (.inr (2, k0)), .inl v1]) [] s := by
  intro k0 v1 s o h
  rw [f_La_addStep_eq] at h
  exact evC (chs := c_La_addStep) (cuts := cu_La_addStep) (G := fun pc ls st σ => none) hX.2.1 hX.2.2 (F := F_La_addStep _) (fs_La_addStep hX _) (rt_V rfl) oc_La_addStep (by
    intro pc ls st σ o h
    cases h) 116 0 _ _ _ _ h
theorem ok_La_addStep {X : CXT} (hX : XC X) : SemOK X 1 121 sm_La_addStep := by
  intro O av σ K o h
  unfold sm_La_addStep at h
  split at h
  · obtain ⟨r, hf, h⟩ := Option.bind_eq_some_iff.mp h
    exact ⟨ovV r, fun ht => sp_of hX.1 (by decide) (List.mem_range.mpr (by decide)) (by decide +kernel) ht (Nat.le_of_ble_eq_true rfl) (s_La_addStep hX _ _ _ _ hf), trivial, h⟩
  · cases h
noncomputable def b_Re_unit (k0 : Nat) (s : Mem) : Option (Bool × Mem) :=
  (f_Re_sort k0 s).bind fun r1 =>
  cif (r1.1 = ((256 : Int32))) (
    (f_Re_value k0 r1.2).bind fun r2 =>
    (f_La_addStep (k0 + 5) r2.1 r2.2).bind fun r3 =>
    let s4 : Mem := wI r3 k0 9 ((rI r3 k0 9) + ((1 : Int32)))
    some (true, s4)) (
    (f_Re_sort k0 r1.2).bind fun r5 =>
    (f_P_within r5.1 ((1003 : Int32)) ((1012 : Int32)) r5.2).bind fun r6 =>
    cif ((b2i r6.1) = 0) (
      (f_Re_fail k0 ((1 : Int32)) r6.2).bind fun r7 =>
      lf (rB (b2i r7.1)) r7.2) (
      (f_Re_sort k0 r6.2).bind fun r8 =>
      (f_La_addStep (k0 + 5) ((((10000 : Int32)) + r8.1) - ((1003 : Int32))) r8.2).bind fun r9 =>
      let s10 : Mem := wI r9 k0 9 ((rI r9 k0 9) + ((1 : Int32)))
      some (true, s10)))
noncomputable def f_Re_unit : Nat → Mem → Option (Bool × Mem) := Classical.choose (⟨b_Re_unit, rfl⟩ : ∃ f : Nat → Mem → Option (Bool × Mem), f = b_Re_unit)
theorem f_Re_unit_eq : f_Re_unit = b_Re_unit := Classical.choose_spec (⟨b_Re_unit, rfl⟩ : ∃ f : Nat → Mem → Option (Bool × Mem), f = b_Re_unit)
noncomputable def sm_Re_unit (O : Type) (av : List AV) (σ : Mem) (K : AV → Mem → Option O) : Option O := match av with
  | [.inr (.inr (5, k0))] => (f_Re_unit k0 σ).bind fun r => K (.inl (b2i r.1)) r.2
  | _ => none
def c_Re_unit : List (List CE) := [[(0, .aload_n 0, 1, 0, 0, 0), (1, .invokevirtual 115, 3, 113, 1, 11), (4, .sipush 256, 3, 256, 0, 0), (7, .if_icmp .ne 17, 3, 24, 0, 0), (10, .aload_n 0, 1, 0, 0, 0), (11, .getfield 28, 3, 5, 4, 0), (14, .aload_n 0, 1, 0, 0, 0), (15, .invokevirtual 122, 3, 120, 1, 11)], [(18, .invokevirtual 184, 3, 121, 2, 4), (21, .goto 47, 3, 68, 0, 0), (24, .aload_n 0, 1, 0, 0, 0), (25, .invokevirtual 115, 3, 113, 1, 11), (28, .sipush 1003, 3, 1003, 0, 0), (31, .sipush 1012, 3, 1012, 0, 0)], [(34, .invokestatic 60, 3, 17, 3, 1), (37, .ifCond .eq 25, 3, 62, 0, 0), (40, .aload_n 0, 1, 0, 0, 0), (41, .getfield 28, 3, 5, 4, 0), (44, .sipush 10000, 3, 10000, 0, 0), (47, .aload_n 0, 1, 0, 0, 0)], [(48, .invokevirtual 115, 3, 113, 1, 11), (51, .iadd, 1, 0, 0, 0), (52, .sipush 1003, 3, 1003, 0, 0), (55, .isub, 1, 0, 0, 0), (56, .invokevirtual 184, 3, 121, 2, 4), (59, .goto 9, 3, 68, 0, 0), (62, .aload_n 0, 1, 0, 0, 0), (63, .iconst 1, 1, 1, 0, 0)], [(64, .invokevirtual 118, 3, 116, 2, 11), (67, .ireturn, 1, 0, 0, 0), (68, .aload_n 0, 1, 0, 0, 0), (69, .dup, 1, 0, 0, 0), (70, .getfield 51, 3, 5, 9, 0), (73, .iconst 1, 1, 1, 0, 0), (74, .iadd, 1, 0, 0, 0), (75, .putfield 51, 3, 5, 9, 0), (78, .iconst 1, 1, 1, 0, 0), (79, .ireturn, 1, 0, 0, 0)]]
set_option maxRecDepth 100000 in
theorem oc_Re_unit : okC 119 c_Re_unit = true := by decide +kernel
def cu_Re_unit : List (Nat × List Bool) := []
noncomputable def F_Re_unit (O : Type) (a : Nat) (av : List AV) (σ : Mem) (K : AV → Mem → Option O) : Option O := if a = 17 then sm_P_within O av σ K else if a = 113 then sm_Re_sort O av σ K else if a = 116 then sm_Re_fail O av σ K else if a = 120 then sm_Re_value O av σ K else if a = 121 then sm_La_addStep O av σ K else none
theorem fs_Re_unit {X : CXT} (hX : XC X) (O : Type) : FS X 2 (F_Re_unit O) := by
  intro a av σ K o h
  unfold F_Re_unit at h
  rcases ite_s h with ⟨rfl, h⟩ | ⟨_, h⟩
  · obtain ⟨r, h1, h2, h3⟩ := ok_P_within hX _ _ _ _ _ h
    exact ⟨r, fun ht => ⟨1, by decide, h1 ht⟩, h2, h3⟩
  rcases ite_s h with ⟨rfl, h⟩ | ⟨_, h⟩
  · obtain ⟨r, h1, h2, h3⟩ := ok_Re_sort hX _ _ _ _ _ h
    exact ⟨r, fun ht => ⟨1, by decide, h1 ht⟩, h2, h3⟩
  rcases ite_s h with ⟨rfl, h⟩ | ⟨_, h⟩
  · obtain ⟨r, h1, h2, h3⟩ := ok_Re_fail hX _ _ _ _ _ h
    exact ⟨r, fun ht => ⟨1, by decide, h1 ht⟩, h2, h3⟩
  rcases ite_s h with ⟨rfl, h⟩ | ⟨_, h⟩
  · obtain ⟨r, h1, h2, h3⟩ := ok_Re_value hX _ _ _ _ _ h
    exact ⟨r, fun ht => ⟨1, by decide, h1 ht⟩, h2, h3⟩
  rcases ite_s h with ⟨rfl, h⟩ | ⟨_, h⟩
  · obtain ⟨r, h1, h2, h3⟩ := ok_La_addStep hX _ _ _ _ _ h
    exact ⟨r, fun ht => ⟨1, by decide, h1 ht⟩, h2, h3⟩
  cases h
set_option maxRecDepth 100000 in
theorem s_Re_unit {X : CXT} (hX : XC X) : ∀ (k0 : Nat) (s : Mem) (o : Bool × Mem), f_Re_unit k0 s = some o → BSnd X 2 119 (ovZ o) 0 (entL [.inr (.inr (5, k0))]) [] s := by
  intro k0 s o h
  rw [f_Re_unit_eq] at h
  exact evC (chs := c_Re_unit) (cuts := cu_Re_unit) (G := fun pc ls st σ => none) hX.2.1 hX.2.2 (F := F_Re_unit _) (fs_Re_unit hX _) (rt_Z rfl) oc_Re_unit (by
    intro pc ls st σ o h
    cases h) 192 0 _ _ _ _ h
theorem ok_Re_unit {X : CXT} (hX : XC X) : SemOK X 2 119 sm_Re_unit := by
  intro O av σ K o h
  unfold sm_Re_unit at h
  split at h
  · obtain ⟨r, hf, h⟩ := Option.bind_eq_some_iff.mp h
    exact ⟨ovZ r, fun ht => sp_of hX.1 (by decide) (List.mem_range.mpr (by decide)) (by decide +kernel) ht (Nat.le_of_ble_eq_true rfl) (s_Re_unit hX _ _ _ hf), trivial, h⟩
  · cases h
noncomputable def b_Re_divisor (k0 : Nat) (s : Mem) : Option (Bool × Mem) :=
  (f_Re_sort k0 s).bind fun r1 =>
  cif (r1.1 = ((256 : Int32))) (
    (f_Re_value k0 r1.2).bind fun r2 =>
    cif (r2.1 = 0) (
      (f_Re_fail k0 ((2 : Int32)) r2.2).bind fun r3 =>
      lf (rB (b2i r3.1)) r3.2) (
      (f_Re_value k0 r2.2).bind fun r4 =>
      (f_La_addStep (k0 + 5) r4.1 r4.2).bind fun r5 =>
      let s6 : Mem := wI r5 k0 9 ((rI r5 k0 9) + ((1 : Int32)))
      some (true, s6))) (
    (f_Re_fail k0 ((1 : Int32)) r1.2).bind fun r7 =>
    lf (rB (b2i r7.1)) r7.2)
noncomputable def f_Re_divisor : Nat → Mem → Option (Bool × Mem) := Classical.choose (⟨b_Re_divisor, rfl⟩ : ∃ f : Nat → Mem → Option (Bool × Mem), f = b_Re_divisor)
theorem f_Re_divisor_eq : f_Re_divisor = b_Re_divisor := Classical.choose_spec (⟨b_Re_divisor, rfl⟩ : ∃ f : Nat → Mem → Option (Bool × Mem), f = b_Re_divisor)
noncomputable def sm_Re_divisor (O : Type) (av : List AV) (σ : Mem) (K : AV → Mem → Option O) : Option O := match av with
  | [.inr (.inr (5, k0))] => (f_Re_divisor k0 σ).bind fun r => K (.inl (b2i r.1)) r.2
  | _ => none
def c_Re_divisor : List (List CE) := [[(0, .aload_n 0, 1, 0, 0, 0), (1, .invokevirtual 115, 3, 113, 1, 11), (4, .sipush 256, 3, 256, 0, 0), (7, .if_icmp .eq 9, 3, 16, 0, 0), (10, .aload_n 0, 1, 0, 0, 0), (11, .iconst 1, 1, 1, 0, 0), (12, .invokevirtual 118, 3, 116, 2, 11), (15, .ireturn, 1, 0, 0, 0)], [(16, .aload_n 0, 1, 0, 0, 0), (17, .invokevirtual 122, 3, 120, 1, 11), (20, .ifCond .ne 9, 3, 29, 0, 0), (23, .aload_n 0, 1, 0, 0, 0), (24, .iconst 2, 1, 2, 0, 0), (25, .invokevirtual 118, 3, 116, 2, 11), (28, .ireturn, 1, 0, 0, 0), (29, .aload_n 0, 1, 0, 0, 0), (30, .getfield 28, 3, 5, 4, 0)], [(33, .aload_n 0, 1, 0, 0, 0), (34, .invokevirtual 122, 3, 120, 1, 11), (37, .invokevirtual 184, 3, 121, 2, 4), (40, .aload_n 0, 1, 0, 0, 0), (41, .dup, 1, 0, 0, 0), (42, .getfield 51, 3, 5, 9, 0), (45, .iconst 1, 1, 1, 0, 0), (46, .iadd, 1, 0, 0, 0), (47, .putfield 51, 3, 5, 9, 0)], [(50, .iconst 1, 1, 1, 0, 0), (51, .ireturn, 1, 0, 0, 0)]]
set_option maxRecDepth 100000 in
theorem oc_Re_divisor : okC 122 c_Re_divisor = true := by decide +kernel
def cu_Re_divisor : List (Nat × List Bool) := []
noncomputable def F_Re_divisor (O : Type) (a : Nat) (av : List AV) (σ : Mem) (K : AV → Mem → Option O) : Option O := if a = 113 then sm_Re_sort O av σ K else if a = 116 then sm_Re_fail O av σ K else if a = 120 then sm_Re_value O av σ K else if a = 121 then sm_La_addStep O av σ K else none
theorem fs_Re_divisor {X : CXT} (hX : XC X) (O : Type) : FS X 2 (F_Re_divisor O) := by
  intro a av σ K o h
  unfold F_Re_divisor at h
  rcases ite_s h with ⟨rfl, h⟩ | ⟨_, h⟩
  · obtain ⟨r, h1, h2, h3⟩ := ok_Re_sort hX _ _ _ _ _ h
    exact ⟨r, fun ht => ⟨1, by decide, h1 ht⟩, h2, h3⟩
  rcases ite_s h with ⟨rfl, h⟩ | ⟨_, h⟩
  · obtain ⟨r, h1, h2, h3⟩ := ok_Re_fail hX _ _ _ _ _ h
    exact ⟨r, fun ht => ⟨1, by decide, h1 ht⟩, h2, h3⟩
  rcases ite_s h with ⟨rfl, h⟩ | ⟨_, h⟩
  · obtain ⟨r, h1, h2, h3⟩ := ok_Re_value hX _ _ _ _ _ h
    exact ⟨r, fun ht => ⟨1, by decide, h1 ht⟩, h2, h3⟩
  rcases ite_s h with ⟨rfl, h⟩ | ⟨_, h⟩
  · obtain ⟨r, h1, h2, h3⟩ := ok_La_addStep hX _ _ _ _ _ h
    exact ⟨r, fun ht => ⟨1, by decide, h1 ht⟩, h2, h3⟩
  cases h
set_option maxRecDepth 100000 in
theorem s_Re_divisor {X : CXT} (hX : XC X) : ∀ (k0 : Nat) (s : Mem) (o : Bool × Mem), f_Re_divisor k0 s = some o → BSnd X 2 122 (ovZ o) 0 (entL [.inr (.inr (5, k0))]) [] s := by
  intro k0 s o h
  rw [f_Re_divisor_eq] at h
  exact evC (chs := c_Re_divisor) (cuts := cu_Re_divisor) (G := fun pc ls st σ => none) hX.2.1 hX.2.2 (F := F_Re_divisor _) (fs_Re_divisor hX _) (rt_Z rfl) oc_Re_divisor (by
    intro pc ls st σ o h
    cases h) 152 0 _ _ _ _ h
theorem ok_Re_divisor {X : CXT} (hX : XC X) : SemOK X 2 122 sm_Re_divisor := by
  intro O av σ K o h
  unfold sm_Re_divisor at h
  split at h
  · obtain ⟨r, hf, h⟩ := Option.bind_eq_some_iff.mp h
    exact ⟨ovZ r, fun ht => sp_of hX.1 (by decide) (List.mem_range.mpr (by decide)) (by decide +kernel) ht (Nat.le_of_ble_eq_true rfl) (s_Re_divisor hX _ _ _ hf), trivial, h⟩
  · cases h
noncomputable def f_Re_sum_123 (KH : Nat → Int32 → Int32 → Mem → Option (Bool × Mem)) (K170 : Nat → Int32 → Mem → Option (Bool × Mem)) (K49 : Nat → Int32 → Mem → Option (Bool × Mem)) (k0 : Nat) (v1 : Int32) (v2 : Int32) (v3 : Int32) (v4 : Int32) (s : Mem) : Option (Bool × Mem) :=
  cif (v4 = 0) (
    cif (v3 = ((42 : Int32))) (
      (f_La_addStep (k0 + 5) ((-3 : Int32)) s).bind fun r1 =>
      KH k0 v1 (v2 + (1 : Int32)) r1) (
      (f_La_addStep (k0 + 5) ((-4 : Int32)) s).bind fun r2 =>
      KH k0 v1 (v2 + (1 : Int32)) r2)) (
    cif (v3 = ((43 : Int32))) (
      KH k0 ((-1 : Int32)) (v2 + (1 : Int32)) s) (
      KH k0 ((-2 : Int32)) (v2 + (1 : Int32)) s))
noncomputable def f_Re_sum_98 (KH : Nat → Int32 → Int32 → Mem → Option (Bool × Mem)) (K170 : Nat → Int32 → Mem → Option (Bool × Mem)) (K49 : Nat → Int32 → Mem → Option (Bool × Mem)) (k0 : Nat) (v1 : Int32) (v2 : Int32) (v3 : Int32) (v4 : Int32) (s : Mem) : Option (Bool × Mem) :=
  cif (v3 = ((47 : Int32))) (
    (f_Re_divisor k0 s).bind fun r1 =>
    cif ((b2i r1.1) = 0) (
      some (false, r1.2)) (
      f_Re_sum_123 (KH) K170 K49 k0 v1 v2 v3 v4 r1.2)) (
    (f_Re_unit k0 s).bind fun r2 =>
    cif ((b2i r2.1) = 0) (
      some (false, r2.2)) (
      f_Re_sum_123 (KH) K170 K49 k0 v1 v2 v3 v4 r2.2))
noncomputable def f_Re_sum_81 (KH : Nat → Int32 → Int32 → Mem → Option (Bool × Mem)) (K170 : Nat → Int32 → Mem → Option (Bool × Mem)) (K49 : Nat → Int32 → Mem → Option (Bool × Mem)) (k0 : Nat) (v1 : Int32) (v2 : Int32) (v3 : Int32) (v4 : Int32) (s : Mem) : Option (Bool × Mem) :=
  cif (v4 = 0) (
    f_Re_sum_98 (KH) K170 K49 k0 v1 v2 v3 v4 s) (
    cif (v1 = 0) (
      f_Re_sum_98 (KH) K170 K49 k0 v1 v2 v3 v4 s) (
      (f_La_addStep (k0 + 5) v1 s).bind fun r1 =>
      f_Re_sum_98 (KH) K170 K49 k0 v1 v2 v3 v4 r1))
noncomputable def f_Re_sum_74 (KH : Nat → Int32 → Int32 → Mem → Option (Bool × Mem)) (K170 : Nat → Int32 → Mem → Option (Bool × Mem)) (K49 : Nat → Int32 → Mem → Option (Bool × Mem)) (k0 : Nat) (v1 : Int32) (v2 : Int32) (v3 : Int32) (s : Mem) : Option (Bool × Mem) :=
  f_Re_sum_81 (KH) K170 K49 k0 v1 v2 v3 ((1 : Int32)) s
noncomputable def f_Re_sum_52 (KH : Nat → Int32 → Int32 → Mem → Option (Bool × Mem)) (K170 : Nat → Int32 → Mem → Option (Bool × Mem)) (K49 : Nat → Int32 → Mem → Option (Bool × Mem)) (k0 : Nat) (v1 : Int32) (v2 : Int32) (v3 : Int32) (s : Mem) : Option (Bool × Mem) :=
  let s1 : Mem := wI s k0 9 ((rI s k0 9) + ((1 : Int32)))
  cif (v3 = ((43 : Int32))) (
    f_Re_sum_74 (KH) K170 K49 k0 v1 v2 v3 s1) (
    cif (v3 = ((45 : Int32))) (
      f_Re_sum_74 (KH) K170 K49 k0 v1 v2 v3 s1) (
      f_Re_sum_81 (KH) K170 K49 k0 v1 v2 v3 ((0 : Int32)) s1))
noncomputable def f_Re_sum_13 (K170 : Nat → Int32 → Mem → Option (Bool × Mem)) (K49 : Nat → Int32 → Mem → Option (Bool × Mem)) : Nat → Nat → Int32 → Int32 → Mem → Option (Bool × Mem)
  | 0, _, _, _, _ => none
  | n + 1, k0, v1, v2, s =>
    cif (((400 : Int32)) ≤ v2) (
      K170 k0 v1 s) (
      (f_Re_sort k0 s).bind fun r1 =>
      cif (r1.1 = ((43 : Int32))) (
        f_Re_sum_52 (fun k0 v1 v2 s => f_Re_sum_13 K170 K49 n k0 v1 v2 s) K170 K49 k0 v1 v2 r1.1 r1.2) (
        cif (r1.1 = ((45 : Int32))) (
          f_Re_sum_52 (fun k0 v1 v2 s => f_Re_sum_13 K170 K49 n k0 v1 v2 s) K170 K49 k0 v1 v2 r1.1 r1.2) (
          cif (r1.1 = ((42 : Int32))) (
            f_Re_sum_52 (fun k0 v1 v2 s => f_Re_sum_13 K170 K49 n k0 v1 v2 s) K170 K49 k0 v1 v2 r1.1 r1.2) (
            cif (r1.1 = ((47 : Int32))) (
              f_Re_sum_52 (fun k0 v1 v2 s => f_Re_sum_13 K170 K49 n k0 v1 v2 s) K170 K49 k0 v1 v2 r1.1 r1.2) (
              K49 k0 v1 r1.2)))))
noncomputable def f_Re_sum_170 (k0 : Nat) (v1 : Int32) (s : Mem) : Option (Bool × Mem) :=
  cif (v1 = 0) (
    some (true, s)) (
    (f_La_addStep (k0 + 5) v1 s).bind fun r1 =>
    some (true, r1))
noncomputable def f_Re_sum_49 (k0 : Nat) (v1 : Int32) (s : Mem) : Option (Bool × Mem) :=
  f_Re_sum_170 k0 v1 s
noncomputable def b_Re_sum (k0 : Nat) (s : Mem) : Option (Bool × Mem) :=
  (f_Re_unit k0 s).bind fun r1 =>
  cif ((b2i r1.1) = 0) (
    some (false, r1.2)) (
    f_Re_sum_13 (fun k0 v1 s => f_Re_sum_170 k0 v1 s) (fun k0 v1 s => f_Re_sum_49 k0 v1 s) FU k0 ((0 : Int32)) ((0 : Int32)) r1.2)
noncomputable def f_Re_sum : Nat → Mem → Option (Bool × Mem) := Classical.choose (⟨b_Re_sum, rfl⟩ : ∃ f : Nat → Mem → Option (Bool × Mem), f = b_Re_sum)
theorem f_Re_sum_eq : f_Re_sum = b_Re_sum := Classical.choose_spec (⟨b_Re_sum, rfl⟩ : ∃ f : Nat → Mem → Option (Bool × Mem), f = b_Re_sum)
noncomputable def sm_Re_sum (O : Type) (av : List AV) (σ : Mem) (K : AV → Mem → Option O) : Option O := match av with
  | [.inr (.inr (5, k0))] => (f_Re_sum k0 σ).bind fun r => K (.inl (b2i r.1)) r.2
  | _ => none
def c_Re_sum : List (List CE) := [[(0, .aload_n 0, 1, 0, 0, 0), (1, .invokevirtual 187, 3, 119, 1, 11), (4, .ifCond .ne 5, 3, 9, 0, 0), (7, .iconst 0, 1, 0, 0, 0), (8, .ireturn, 1, 0, 0, 0), (9, .iconst 0, 1, 0, 0, 0), (10, .istore_n 1, 1, 0, 0, 0), (11, .iconst 0, 1, 0, 0, 0), (12, .istore_n 2, 1, 0, 0, 0), (13, .iload_n 2, 1, 0, 0, 0), (14, .sipush 400, 3, 400, 0, 0)], [(17, .if_icmp .ge 153, 3, 170, 0, 0), (20, .aload_n 0, 1, 0, 0, 0), (21, .invokevirtual 115, 3, 113, 1, 11), (24, .istore_n 3, 1, 0, 0, 0), (25, .iload_n 3, 1, 0, 0, 0), (26, .bipush 43, 2, 43, 0, 0), (28, .if_icmp .eq 24, 3, 52, 0, 0), (31, .iload_n 3, 1, 0, 0, 0)], [(32, .bipush 45, 2, 45, 0, 0), (34, .if_icmp .eq 18, 3, 52, 0, 0), (37, .iload_n 3, 1, 0, 0, 0), (38, .bipush 42, 2, 42, 0, 0), (40, .if_icmp .eq 12, 3, 52, 0, 0), (43, .iload_n 3, 1, 0, 0, 0), (44, .bipush 47, 2, 47, 0, 0), (46, .if_icmp .eq 6, 3, 52, 0, 0)], [(49, .goto 121, 3, 170, 0, 0), (52, .aload_n 0, 1, 0, 0, 0), (53, .dup, 1, 0, 0, 0), (54, .getfield 51, 3, 5, 9, 0), (57, .iconst 1, 1, 1, 0, 0), (58, .iadd, 1, 0, 0, 0), (59, .putfield 51, 3, 5, 9, 0), (62, .iload_n 3, 1, 0, 0, 0), (63, .bipush 43, 2, 43, 0, 0)], [(65, .if_icmp .eq 9, 3, 74, 0, 0), (68, .iload_n 3, 1, 0, 0, 0), (69, .bipush 45, 2, 45, 0, 0), (71, .if_icmp .ne 7, 3, 78, 0, 0), (74, .iconst 1, 1, 1, 0, 0), (75, .goto 4, 3, 79, 0, 0), (78, .iconst 0, 1, 0, 0, 0), (79, .istore 4, 2, 0, 0, 0)], [(81, .iload 4, 2, 0, 0, 0), (83, .ifCond .eq 15, 3, 98, 0, 0), (86, .iload_n 1, 1, 0, 0, 0), (87, .ifCond .eq 11, 3, 98, 0, 0), (90, .aload_n 0, 1, 0, 0, 0), (91, .getfield 28, 3, 5, 4, 0), (94, .iload_n 1, 1, 0, 0, 0), (95, .invokevirtual 184, 3, 121, 2, 4)], [(98, .iload_n 3, 1, 0, 0, 0), (99, .bipush 47, 2, 47, 0, 0), (101, .if_icmp .ne 13, 3, 114, 0, 0), (104, .aload_n 0, 1, 0, 0, 0), (105, .invokevirtual 190, 3, 122, 1, 11), (108, .ifCond .ne 15, 3, 123, 0, 0), (111, .goto 10, 3, 121, 0, 0)], [(114, .aload_n 0, 1, 0, 0, 0), (115, .invokevirtual 187, 3, 119, 1, 11), (118, .ifCond .ne 5, 3, 123, 0, 0), (121, .iconst 0, 1, 0, 0, 0), (122, .ireturn, 1, 0, 0, 0), (123, .iload 4, 2, 0, 0, 0), (125, .ifCond .eq 19, 3, 144, 0, 0)], [(128, .iload_n 3, 1, 0, 0, 0), (129, .bipush 43, 2, 43, 0, 0), (131, .if_icmp .ne 7, 3, 138, 0, 0), (134, .iconst (-1), 1, 1, 0, 1), (135, .goto 5, 3, 140, 0, 0), (138, .bipush (-2), 2, 2, 0, 1), (140, .istore_n 1, 1, 0, 0, 0), (141, .goto 23, 3, 164, 0, 0)], [(144, .aload_n 0, 1, 0, 0, 0), (145, .getfield 28, 3, 5, 4, 0), (148, .iload_n 3, 1, 0, 0, 0), (149, .bipush 42, 2, 42, 0, 0), (151, .if_icmp .ne 8, 3, 159, 0, 0), (154, .bipush (-3), 2, 3, 0, 1), (156, .goto 5, 3, 161, 0, 0), (159, .bipush (-4), 2, 4, 0, 1)], [(161, .invokevirtual 184, 3, 121, 2, 4), (164, .iinc 2 1, 3, 1, 0, 0), (167, .goto (-154), 3, 13, 0, 0), (170, .iload_n 1, 1, 0, 0, 0), (171, .ifCond .eq 11, 3, 182, 0, 0), (174, .aload_n 0, 1, 0, 0, 0), (175, .getfield 28, 3, 5, 4, 0)], [(178, .iload_n 1, 1, 0, 0, 0), (179, .invokevirtual 184, 3, 121, 2, 4), (182, .iconst 1, 1, 1, 0, 0), (183, .ireturn, 1, 0, 0, 0)]]
set_option maxRecDepth 100000 in
theorem oc_Re_sum : okC 118 c_Re_sum = true := by decide +kernel
def cu_Re_sum : List (Nat × List Bool) := [(123, [true, true, true, true, true]), (98, [true, true, true, true, true]), (81, [true, true, true, true, true]), (74, [true, true, true, true]), (52, [true, true, true, true]), (13, [true, true, true]), (170, [true, true]), (49, [true, true])]
noncomputable def F_Re_sum (O : Type) (a : Nat) (av : List AV) (σ : Mem) (K : AV → Mem → Option O) : Option O := if a = 113 then sm_Re_sort O av σ K else if a = 119 then sm_Re_unit O av σ K else if a = 121 then sm_La_addStep O av σ K else if a = 122 then sm_Re_divisor O av σ K else none
theorem fs_Re_sum {X : CXT} (hX : XC X) (O : Type) : FS X 3 (F_Re_sum O) := by
  intro a av σ K o h
  unfold F_Re_sum at h
  rcases ite_s h with ⟨rfl, h⟩ | ⟨_, h⟩
  · obtain ⟨r, h1, h2, h3⟩ := ok_Re_sort hX _ _ _ _ _ h
    exact ⟨r, fun ht => ⟨1, by decide, h1 ht⟩, h2, h3⟩
  rcases ite_s h with ⟨rfl, h⟩ | ⟨_, h⟩
  · obtain ⟨r, h1, h2, h3⟩ := ok_Re_unit hX _ _ _ _ _ h
    exact ⟨r, fun ht => ⟨2, by decide, h1 ht⟩, h2, h3⟩
  rcases ite_s h with ⟨rfl, h⟩ | ⟨_, h⟩
  · obtain ⟨r, h1, h2, h3⟩ := ok_La_addStep hX _ _ _ _ _ h
    exact ⟨r, fun ht => ⟨1, by decide, h1 ht⟩, h2, h3⟩
  rcases ite_s h with ⟨rfl, h⟩ | ⟨_, h⟩
  · obtain ⟨r, h1, h2, h3⟩ := ok_Re_divisor hX _ _ _ _ _ h
    exact ⟨r, fun ht => ⟨2, by decide, h1 ht⟩, h2, h3⟩
  cases h
def hd_Re_sum_123 {O : Type} (g : Nat → Int32 → Int32 → Int32 → Int32 → Mem → Option O) (ls : OL) (st : List AV) (σ : Mem) : Option O := match ls, st with
  | [some (.inr (.inr (5, k0))), some (.inl v1), some (.inl v2), some (.inl v3), some (.inl v4)], [] => g k0 v1 v2 v3 v4 σ
  | _, _ => none
theorem hs_Re_sum_123 {X : CXT} {g : Nat → Int32 → Int32 → Int32 → Int32 → Mem → Option (Bool × Mem)} (hg : ∀ (k0 : Nat) (v1 : Int32) (v2 : Int32) (v3 : Int32) (v4 : Int32) (s : Mem) (o : Bool × Mem), g k0 v1 v2 v3 v4 s = some o → BSnd X 3 118 (ovZ o) 123 [some (.inr (.inr (5, k0))), some (.inl v1), some (.inl v2), some (.inl v3), some (.inl v4)] [] s) : ∀ ls st σ o, hd_Re_sum_123 g ls st σ = some o → BSnd X 3 118 (ovZ o) 123 ls st σ := by
  intro ls st σ o h
  unfold hd_Re_sum_123 at h
  split at h
  · exact hg _ _ _ _ _ _ _ h
  · cases h
def hd_Re_sum_98 {O : Type} (g : Nat → Int32 → Int32 → Int32 → Int32 → Mem → Option O) (ls : OL) (st : List AV) (σ : Mem) : Option O := match ls, st with
  | [some (.inr (.inr (5, k0))), some (.inl v1), some (.inl v2), some (.inl v3), some (.inl v4)], [] => g k0 v1 v2 v3 v4 σ
  | _, _ => none
theorem hs_Re_sum_98 {X : CXT} {g : Nat → Int32 → Int32 → Int32 → Int32 → Mem → Option (Bool × Mem)} (hg : ∀ (k0 : Nat) (v1 : Int32) (v2 : Int32) (v3 : Int32) (v4 : Int32) (s : Mem) (o : Bool × Mem), g k0 v1 v2 v3 v4 s = some o → BSnd X 3 118 (ovZ o) 98 [some (.inr (.inr (5, k0))), some (.inl v1), some (.inl v2), some (.inl v3), some (.inl v4)] [] s) : ∀ ls st σ o, hd_Re_sum_98 g ls st σ = some o → BSnd X 3 118 (ovZ o) 98 ls st σ := by
  intro ls st σ o h
  unfold hd_Re_sum_98 at h
  split at h
  · exact hg _ _ _ _ _ _ _ h
  · cases h
def hd_Re_sum_81 {O : Type} (g : Nat → Int32 → Int32 → Int32 → Int32 → Mem → Option O) (ls : OL) (st : List AV) (σ : Mem) : Option O := match ls, st with
  | [some (.inr (.inr (5, k0))), some (.inl v1), some (.inl v2), some (.inl v3), some (.inl v4)], [] => g k0 v1 v2 v3 v4 σ
  | _, _ => none
theorem hs_Re_sum_81 {X : CXT} {g : Nat → Int32 → Int32 → Int32 → Int32 → Mem → Option (Bool × Mem)} (hg : ∀ (k0 : Nat) (v1 : Int32) (v2 : Int32) (v3 : Int32) (v4 : Int32) (s : Mem) (o : Bool × Mem), g k0 v1 v2 v3 v4 s = some o → BSnd X 3 118 (ovZ o) 81 [some (.inr (.inr (5, k0))), some (.inl v1), some (.inl v2), some (.inl v3), some (.inl v4)] [] s) : ∀ ls st σ o, hd_Re_sum_81 g ls st σ = some o → BSnd X 3 118 (ovZ o) 81 ls st σ := by
  intro ls st σ o h
  unfold hd_Re_sum_81 at h
  split at h
  · exact hg _ _ _ _ _ _ _ h
  · cases h
def hd_Re_sum_74 {O : Type} (g : Nat → Int32 → Int32 → Int32 → Mem → Option O) (ls : OL) (st : List AV) (σ : Mem) : Option O := match ls, st with
  | [some (.inr (.inr (5, k0))), some (.inl v1), some (.inl v2), some (.inl v3)], [] => g k0 v1 v2 v3 σ
  | _, _ => none
theorem hs_Re_sum_74 {X : CXT} {g : Nat → Int32 → Int32 → Int32 → Mem → Option (Bool × Mem)} (hg : ∀ (k0 : Nat) (v1 : Int32) (v2 : Int32) (v3 : Int32) (s : Mem) (o : Bool × Mem), g k0 v1 v2 v3 s = some o → BSnd X 3 118 (ovZ o) 74 [some (.inr (.inr (5, k0))), some (.inl v1), some (.inl v2), some (.inl v3)] [] s) : ∀ ls st σ o, hd_Re_sum_74 g ls st σ = some o → BSnd X 3 118 (ovZ o) 74 ls st σ := by
  intro ls st σ o h
  unfold hd_Re_sum_74 at h
  split at h
  · exact hg _ _ _ _ _ _ h
  · cases h
def hd_Re_sum_52 {O : Type} (g : Nat → Int32 → Int32 → Int32 → Mem → Option O) (ls : OL) (st : List AV) (σ : Mem) : Option O := match ls, st with
  | [some (.inr (.inr (5, k0))), some (.inl v1), some (.inl v2), some (.inl v3)], [] => g k0 v1 v2 v3 σ
  | _, _ => none
theorem hs_Re_sum_52 {X : CXT} {g : Nat → Int32 → Int32 → Int32 → Mem → Option (Bool × Mem)} (hg : ∀ (k0 : Nat) (v1 : Int32) (v2 : Int32) (v3 : Int32) (s : Mem) (o : Bool × Mem), g k0 v1 v2 v3 s = some o → BSnd X 3 118 (ovZ o) 52 [some (.inr (.inr (5, k0))), some (.inl v1), some (.inl v2), some (.inl v3)] [] s) : ∀ ls st σ o, hd_Re_sum_52 g ls st σ = some o → BSnd X 3 118 (ovZ o) 52 ls st σ := by
  intro ls st σ o h
  unfold hd_Re_sum_52 at h
  split at h
  · exact hg _ _ _ _ _ _ h
  · cases h
def hd_Re_sum_13 {O : Type} (g : Nat → Int32 → Int32 → Mem → Option O) (ls : OL) (st : List AV) (σ : Mem) : Option O := match ls, st with
  | [some (.inr (.inr (5, k0))), some (.inl v1), some (.inl v2)], [] => g k0 v1 v2 σ
  | _, _ => none
theorem hs_Re_sum_13 {X : CXT} {g : Nat → Int32 → Int32 → Mem → Option (Bool × Mem)} (hg : ∀ (k0 : Nat) (v1 : Int32) (v2 : Int32) (s : Mem) (o : Bool × Mem), g k0 v1 v2 s = some o → BSnd X 3 118 (ovZ o) 13 [some (.inr (.inr (5, k0))), some (.inl v1), some (.inl v2)] [] s) : ∀ ls st σ o, hd_Re_sum_13 g ls st σ = some o → BSnd X 3 118 (ovZ o) 13 ls st σ := by
  intro ls st σ o h
  unfold hd_Re_sum_13 at h
  split at h
  · exact hg _ _ _ _ _ h
  · cases h
def hd_Re_sum_170 {O : Type} (g : Nat → Int32 → Mem → Option O) (ls : OL) (st : List AV) (σ : Mem) : Option O := match ls, st with
  | [some (.inr (.inr (5, k0))), some (.inl v1)], [] => g k0 v1 σ
  | _, _ => none
theorem hs_Re_sum_170 {X : CXT} {g : Nat → Int32 → Mem → Option (Bool × Mem)} (hg : ∀ (k0 : Nat) (v1 : Int32) (s : Mem) (o : Bool × Mem), g k0 v1 s = some o → BSnd X 3 118 (ovZ o) 170 [some (.inr (.inr (5, k0))), some (.inl v1)] [] s) : ∀ ls st σ o, hd_Re_sum_170 g ls st σ = some o → BSnd X 3 118 (ovZ o) 170 ls st σ := by
  intro ls st σ o h
  unfold hd_Re_sum_170 at h
  split at h
  · exact hg _ _ _ _ h
  · cases h
def hd_Re_sum_49 {O : Type} (g : Nat → Int32 → Mem → Option O) (ls : OL) (st : List AV) (σ : Mem) : Option O := match ls, st with
  | [some (.inr (.inr (5, k0))), some (.inl v1)], [] => g k0 v1 σ
  | _, _ => none
theorem hs_Re_sum_49 {X : CXT} {g : Nat → Int32 → Mem → Option (Bool × Mem)} (hg : ∀ (k0 : Nat) (v1 : Int32) (s : Mem) (o : Bool × Mem), g k0 v1 s = some o → BSnd X 3 118 (ovZ o) 49 [some (.inr (.inr (5, k0))), some (.inl v1)] [] s) : ∀ ls st σ o, hd_Re_sum_49 g ls st σ = some o → BSnd X 3 118 (ovZ o) 49 ls st σ := by
  intro ls st σ o h
  unfold hd_Re_sum_49 at h
  split at h
  · exact hg _ _ _ _ h
  · cases h
set_option maxRecDepth 100000 in
theorem s_Re_sum_123 {X : CXT} (hX : XC X) {KH : Nat → Int32 → Int32 → Mem → Option (Bool × Mem)} {K170 : Nat → Int32 → Mem → Option (Bool × Mem)} {K49 : Nat → Int32 → Mem → Option (Bool × Mem)} (hKH : ∀ (k0 : Nat) (v1 : Int32) (v2 : Int32) (s : Mem) (o : Bool × Mem), KH k0 v1 v2 s = some o → BSnd X 3 118 (ovZ o) 13 [some (.inr (.inr (5, k0))), some (.inl v1), some (.inl v2)] [] s) (hK170 : ∀ (k0 : Nat) (v1 : Int32) (s : Mem) (o : Bool × Mem), K170 k0 v1 s = some o → BSnd X 3 118 (ovZ o) 170 [some (.inr (.inr (5, k0))), some (.inl v1)] [] s) (hK49 : ∀ (k0 : Nat) (v1 : Int32) (s : Mem) (o : Bool × Mem), K49 k0 v1 s = some o → BSnd X 3 118 (ovZ o) 49 [some (.inr (.inr (5, k0))), some (.inl v1)] [] s) : ∀ (k0 : Nat) (v1 : Int32) (v2 : Int32) (v3 : Int32) (v4 : Int32) (s : Mem) (o : Bool × Mem), f_Re_sum_123 KH K170 K49 k0 v1 v2 v3 v4 s = some o → BSnd X 3 118 (ovZ o) 123 [some (.inr (.inr (5, k0))), some (.inl v1), some (.inl v2), some (.inl v3), some (.inl v4)] [] s := by
  intro k0 v1 v2 v3 v4 s o h
  exact evC (chs := c_Re_sum) (cuts := cu_Re_sum) (G := fun pc ls st σ => if pc = 13 then hd_Re_sum_13 (fun k0 v1 v2 s => KH k0 v1 v2 s) ls st σ else none) hX.2.1 hX.2.2 (F := F_Re_sum _) (fs_Re_sum hX _) (rt_Z rfl) oc_Re_sum (by
    intro pc ls st σ o h
    rcases ite_s h with ⟨rfl, h⟩ | ⟨_, h⟩
    · exact hs_Re_sum_13 hKH _ _ _ _ h
    cases h) 412 123 _ _ _ _ h
set_option maxRecDepth 100000 in
theorem s_Re_sum_98 {X : CXT} (hX : XC X) {KH : Nat → Int32 → Int32 → Mem → Option (Bool × Mem)} {K170 : Nat → Int32 → Mem → Option (Bool × Mem)} {K49 : Nat → Int32 → Mem → Option (Bool × Mem)} (hKH : ∀ (k0 : Nat) (v1 : Int32) (v2 : Int32) (s : Mem) (o : Bool × Mem), KH k0 v1 v2 s = some o → BSnd X 3 118 (ovZ o) 13 [some (.inr (.inr (5, k0))), some (.inl v1), some (.inl v2)] [] s) (hK170 : ∀ (k0 : Nat) (v1 : Int32) (s : Mem) (o : Bool × Mem), K170 k0 v1 s = some o → BSnd X 3 118 (ovZ o) 170 [some (.inr (.inr (5, k0))), some (.inl v1)] [] s) (hK49 : ∀ (k0 : Nat) (v1 : Int32) (s : Mem) (o : Bool × Mem), K49 k0 v1 s = some o → BSnd X 3 118 (ovZ o) 49 [some (.inr (.inr (5, k0))), some (.inl v1)] [] s) : ∀ (k0 : Nat) (v1 : Int32) (v2 : Int32) (v3 : Int32) (v4 : Int32) (s : Mem) (o : Bool × Mem), f_Re_sum_98 KH K170 K49 k0 v1 v2 v3 v4 s = some o → BSnd X 3 118 (ovZ o) 98 [some (.inr (.inr (5, k0))), some (.inl v1), some (.inl v2), some (.inl v3), some (.inl v4)] [] s := by
  intro k0 v1 v2 v3 v4 s o h
  exact evC (chs := c_Re_sum) (cuts := cu_Re_sum) (G := fun pc ls st σ => if pc = 123 then hd_Re_sum_123 (fun k0 v1 v2 v3 v4 s => f_Re_sum_123 (KH) K170 K49 k0 v1 v2 v3 v4 s) ls st σ else if pc = 13 then hd_Re_sum_13 (fun k0 v1 v2 s => KH k0 v1 v2 s) ls st σ else if pc = 170 then hd_Re_sum_170 (fun k0 v1 s => K170 k0 v1 s) ls st σ else if pc = 49 then hd_Re_sum_49 (fun k0 v1 s => K49 k0 v1 s) ls st σ else none) hX.2.1 hX.2.2 (F := F_Re_sum _) (fs_Re_sum hX _) (rt_Z rfl) oc_Re_sum (by
    intro pc ls st σ o h
    rcases ite_s h with ⟨rfl, h⟩ | ⟨_, h⟩
    · exact hs_Re_sum_123 (s_Re_sum_123 hX hKH hK170 hK49) _ _ _ _ h
    rcases ite_s h with ⟨rfl, h⟩ | ⟨_, h⟩
    · exact hs_Re_sum_13 hKH _ _ _ _ h
    rcases ite_s h with ⟨rfl, h⟩ | ⟨_, h⟩
    · exact hs_Re_sum_170 hK170 _ _ _ _ h
    rcases ite_s h with ⟨rfl, h⟩ | ⟨_, h⟩
    · exact hs_Re_sum_49 hK49 _ _ _ _ h
    cases h) 412 98 _ _ _ _ h
set_option maxRecDepth 100000 in
theorem s_Re_sum_81 {X : CXT} (hX : XC X) {KH : Nat → Int32 → Int32 → Mem → Option (Bool × Mem)} {K170 : Nat → Int32 → Mem → Option (Bool × Mem)} {K49 : Nat → Int32 → Mem → Option (Bool × Mem)} (hKH : ∀ (k0 : Nat) (v1 : Int32) (v2 : Int32) (s : Mem) (o : Bool × Mem), KH k0 v1 v2 s = some o → BSnd X 3 118 (ovZ o) 13 [some (.inr (.inr (5, k0))), some (.inl v1), some (.inl v2)] [] s) (hK170 : ∀ (k0 : Nat) (v1 : Int32) (s : Mem) (o : Bool × Mem), K170 k0 v1 s = some o → BSnd X 3 118 (ovZ o) 170 [some (.inr (.inr (5, k0))), some (.inl v1)] [] s) (hK49 : ∀ (k0 : Nat) (v1 : Int32) (s : Mem) (o : Bool × Mem), K49 k0 v1 s = some o → BSnd X 3 118 (ovZ o) 49 [some (.inr (.inr (5, k0))), some (.inl v1)] [] s) : ∀ (k0 : Nat) (v1 : Int32) (v2 : Int32) (v3 : Int32) (v4 : Int32) (s : Mem) (o : Bool × Mem), f_Re_sum_81 KH K170 K49 k0 v1 v2 v3 v4 s = some o → BSnd X 3 118 (ovZ o) 81 [some (.inr (.inr (5, k0))), some (.inl v1), some (.inl v2), some (.inl v3), some (.inl v4)] [] s := by
  intro k0 v1 v2 v3 v4 s o h
  exact evC (chs := c_Re_sum) (cuts := cu_Re_sum) (G := fun pc ls st σ => if pc = 98 then hd_Re_sum_98 (fun k0 v1 v2 v3 v4 s => f_Re_sum_98 (KH) K170 K49 k0 v1 v2 v3 v4 s) ls st σ else if pc = 13 then hd_Re_sum_13 (fun k0 v1 v2 s => KH k0 v1 v2 s) ls st σ else if pc = 170 then hd_Re_sum_170 (fun k0 v1 s => K170 k0 v1 s) ls st σ else if pc = 49 then hd_Re_sum_49 (fun k0 v1 s => K49 k0 v1 s) ls st σ else none) hX.2.1 hX.2.2 (F := F_Re_sum _) (fs_Re_sum hX _) (rt_Z rfl) oc_Re_sum (by
    intro pc ls st σ o h
    rcases ite_s h with ⟨rfl, h⟩ | ⟨_, h⟩
    · exact hs_Re_sum_98 (s_Re_sum_98 hX hKH hK170 hK49) _ _ _ _ h
    rcases ite_s h with ⟨rfl, h⟩ | ⟨_, h⟩
    · exact hs_Re_sum_13 hKH _ _ _ _ h
    rcases ite_s h with ⟨rfl, h⟩ | ⟨_, h⟩
    · exact hs_Re_sum_170 hK170 _ _ _ _ h
    rcases ite_s h with ⟨rfl, h⟩ | ⟨_, h⟩
    · exact hs_Re_sum_49 hK49 _ _ _ _ h
    cases h) 412 81 _ _ _ _ h
set_option maxRecDepth 100000 in
theorem s_Re_sum_74 {X : CXT} (hX : XC X) {KH : Nat → Int32 → Int32 → Mem → Option (Bool × Mem)} {K170 : Nat → Int32 → Mem → Option (Bool × Mem)} {K49 : Nat → Int32 → Mem → Option (Bool × Mem)} (hKH : ∀ (k0 : Nat) (v1 : Int32) (v2 : Int32) (s : Mem) (o : Bool × Mem), KH k0 v1 v2 s = some o → BSnd X 3 118 (ovZ o) 13 [some (.inr (.inr (5, k0))), some (.inl v1), some (.inl v2)] [] s) (hK170 : ∀ (k0 : Nat) (v1 : Int32) (s : Mem) (o : Bool × Mem), K170 k0 v1 s = some o → BSnd X 3 118 (ovZ o) 170 [some (.inr (.inr (5, k0))), some (.inl v1)] [] s) (hK49 : ∀ (k0 : Nat) (v1 : Int32) (s : Mem) (o : Bool × Mem), K49 k0 v1 s = some o → BSnd X 3 118 (ovZ o) 49 [some (.inr (.inr (5, k0))), some (.inl v1)] [] s) : ∀ (k0 : Nat) (v1 : Int32) (v2 : Int32) (v3 : Int32) (s : Mem) (o : Bool × Mem), f_Re_sum_74 KH K170 K49 k0 v1 v2 v3 s = some o → BSnd X 3 118 (ovZ o) 74 [some (.inr (.inr (5, k0))), some (.inl v1), some (.inl v2), some (.inl v3)] [] s := by
  intro k0 v1 v2 v3 s o h
  exact evC (chs := c_Re_sum) (cuts := cu_Re_sum) (G := fun pc ls st σ => if pc = 81 then hd_Re_sum_81 (fun k0 v1 v2 v3 v4 s => f_Re_sum_81 (KH) K170 K49 k0 v1 v2 v3 v4 s) ls st σ else if pc = 13 then hd_Re_sum_13 (fun k0 v1 v2 s => KH k0 v1 v2 s) ls st σ else if pc = 170 then hd_Re_sum_170 (fun k0 v1 s => K170 k0 v1 s) ls st σ else if pc = 49 then hd_Re_sum_49 (fun k0 v1 s => K49 k0 v1 s) ls st σ else none) hX.2.1 hX.2.2 (F := F_Re_sum _) (fs_Re_sum hX _) (rt_Z rfl) oc_Re_sum (by
    intro pc ls st σ o h
    rcases ite_s h with ⟨rfl, h⟩ | ⟨_, h⟩
    · exact hs_Re_sum_81 (s_Re_sum_81 hX hKH hK170 hK49) _ _ _ _ h
    rcases ite_s h with ⟨rfl, h⟩ | ⟨_, h⟩
    · exact hs_Re_sum_13 hKH _ _ _ _ h
    rcases ite_s h with ⟨rfl, h⟩ | ⟨_, h⟩
    · exact hs_Re_sum_170 hK170 _ _ _ _ h
    rcases ite_s h with ⟨rfl, h⟩ | ⟨_, h⟩
    · exact hs_Re_sum_49 hK49 _ _ _ _ h
    cases h) 412 74 _ _ _ _ h
set_option maxRecDepth 100000 in
theorem s_Re_sum_52 {X : CXT} (hX : XC X) {KH : Nat → Int32 → Int32 → Mem → Option (Bool × Mem)} {K170 : Nat → Int32 → Mem → Option (Bool × Mem)} {K49 : Nat → Int32 → Mem → Option (Bool × Mem)} (hKH : ∀ (k0 : Nat) (v1 : Int32) (v2 : Int32) (s : Mem) (o : Bool × Mem), KH k0 v1 v2 s = some o → BSnd X 3 118 (ovZ o) 13 [some (.inr (.inr (5, k0))), some (.inl v1), some (.inl v2)] [] s) (hK170 : ∀ (k0 : Nat) (v1 : Int32) (s : Mem) (o : Bool × Mem), K170 k0 v1 s = some o → BSnd X 3 118 (ovZ o) 170 [some (.inr (.inr (5, k0))), some (.inl v1)] [] s) (hK49 : ∀ (k0 : Nat) (v1 : Int32) (s : Mem) (o : Bool × Mem), K49 k0 v1 s = some o → BSnd X 3 118 (ovZ o) 49 [some (.inr (.inr (5, k0))), some (.inl v1)] [] s) : ∀ (k0 : Nat) (v1 : Int32) (v2 : Int32) (v3 : Int32) (s : Mem) (o : Bool × Mem), f_Re_sum_52 KH K170 K49 k0 v1 v2 v3 s = some o → BSnd X 3 118 (ovZ o) 52 [some (.inr (.inr (5, k0))), some (.inl v1), some (.inl v2), some (.inl v3)] [] s := by
  intro k0 v1 v2 v3 s o h
  exact evC (chs := c_Re_sum) (cuts := cu_Re_sum) (G := fun pc ls st σ => if pc = 81 then hd_Re_sum_81 (fun k0 v1 v2 v3 v4 s => f_Re_sum_81 (KH) K170 K49 k0 v1 v2 v3 v4 s) ls st σ else if pc = 74 then hd_Re_sum_74 (fun k0 v1 v2 v3 s => f_Re_sum_74 (KH) K170 K49 k0 v1 v2 v3 s) ls st σ else if pc = 13 then hd_Re_sum_13 (fun k0 v1 v2 s => KH k0 v1 v2 s) ls st σ else if pc = 170 then hd_Re_sum_170 (fun k0 v1 s => K170 k0 v1 s) ls st σ else if pc = 49 then hd_Re_sum_49 (fun k0 v1 s => K49 k0 v1 s) ls st σ else none) hX.2.1 hX.2.2 (F := F_Re_sum _) (fs_Re_sum hX _) (rt_Z rfl) oc_Re_sum (by
    intro pc ls st σ o h
    rcases ite_s h with ⟨rfl, h⟩ | ⟨_, h⟩
    · exact hs_Re_sum_81 (s_Re_sum_81 hX hKH hK170 hK49) _ _ _ _ h
    rcases ite_s h with ⟨rfl, h⟩ | ⟨_, h⟩
    · exact hs_Re_sum_74 (s_Re_sum_74 hX hKH hK170 hK49) _ _ _ _ h
    rcases ite_s h with ⟨rfl, h⟩ | ⟨_, h⟩
    · exact hs_Re_sum_13 hKH _ _ _ _ h
    rcases ite_s h with ⟨rfl, h⟩ | ⟨_, h⟩
    · exact hs_Re_sum_170 hK170 _ _ _ _ h
    rcases ite_s h with ⟨rfl, h⟩ | ⟨_, h⟩
    · exact hs_Re_sum_49 hK49 _ _ _ _ h
    cases h) 412 52 _ _ _ _ h
set_option maxRecDepth 100000 in
theorem s_Re_sum_13 {X : CXT} (hX : XC X) {K170 : Nat → Int32 → Mem → Option (Bool × Mem)} {K49 : Nat → Int32 → Mem → Option (Bool × Mem)} (hK170 : ∀ (k0 : Nat) (v1 : Int32) (s : Mem) (o : Bool × Mem), K170 k0 v1 s = some o → BSnd X 3 118 (ovZ o) 170 [some (.inr (.inr (5, k0))), some (.inl v1)] [] s) (hK49 : ∀ (k0 : Nat) (v1 : Int32) (s : Mem) (o : Bool × Mem), K49 k0 v1 s = some o → BSnd X 3 118 (ovZ o) 49 [some (.inr (.inr (5, k0))), some (.inl v1)] [] s) : ∀ n : Nat, ∀ (k0 : Nat) (v1 : Int32) (v2 : Int32) (s : Mem) (o : Bool × Mem), f_Re_sum_13 K170 K49 n k0 v1 v2 s = some o → BSnd X 3 118 (ovZ o) 13 [some (.inr (.inr (5, k0))), some (.inl v1), some (.inl v2)] [] s := by
  intro n
  induction n with
  | zero => intro k0 v1 v2 s o h; cases h
  | succ n ih =>
    intro k0 v1 v2 s o h
    exact evC (chs := c_Re_sum) (cuts := cu_Re_sum) (G := fun pc ls st σ => if pc = 52 then hd_Re_sum_52 (fun k0 v1 v2 v3 s => f_Re_sum_52 (fun k0 v1 v2 s => f_Re_sum_13 K170 K49 n k0 v1 v2 s) K170 K49 k0 v1 v2 v3 s) ls st σ else if pc = 13 then hd_Re_sum_13 (fun k0 v1 v2 s => f_Re_sum_13 K170 K49 n k0 v1 v2 s) ls st σ else if pc = 170 then hd_Re_sum_170 (fun k0 v1 s => K170 k0 v1 s) ls st σ else if pc = 49 then hd_Re_sum_49 (fun k0 v1 s => K49 k0 v1 s) ls st σ else none) hX.2.1 hX.2.2 (F := F_Re_sum _) (fs_Re_sum hX _) (rt_Z rfl) oc_Re_sum (by
    intro pc ls st σ o h
    rcases ite_s h with ⟨rfl, h⟩ | ⟨_, h⟩
    · exact hs_Re_sum_52 (s_Re_sum_52 hX ih hK170 hK49) _ _ _ _ h
    rcases ite_s h with ⟨rfl, h⟩ | ⟨_, h⟩
    · exact hs_Re_sum_13 ih _ _ _ _ h
    rcases ite_s h with ⟨rfl, h⟩ | ⟨_, h⟩
    · exact hs_Re_sum_170 hK170 _ _ _ _ h
    rcases ite_s h with ⟨rfl, h⟩ | ⟨_, h⟩
    · exact hs_Re_sum_49 hK49 _ _ _ _ h
    cases h) 412 13 _ _ _ _ h
set_option maxRecDepth 100000 in
theorem s_Re_sum_170 {X : CXT} (hX : XC X) : ∀ (k0 : Nat) (v1 : Int32) (s : Mem) (o : Bool × Mem), f_Re_sum_170 k0 v1 s = some o → BSnd X 3 118 (ovZ o) 170 [some (.inr (.inr (5, k0))), some (.inl v1)] [] s := by
  intro k0 v1 s o h
  exact evC (chs := c_Re_sum) (cuts := cu_Re_sum) (G := fun pc ls st σ => none) hX.2.1 hX.2.2 (F := F_Re_sum _) (fs_Re_sum hX _) (rt_Z rfl) oc_Re_sum (by
    intro pc ls st σ o h
    cases h) 412 170 _ _ _ _ h
set_option maxRecDepth 100000 in
theorem s_Re_sum_49 {X : CXT} (hX : XC X) : ∀ (k0 : Nat) (v1 : Int32) (s : Mem) (o : Bool × Mem), f_Re_sum_49 k0 v1 s = some o → BSnd X 3 118 (ovZ o) 49 [some (.inr (.inr (5, k0))), some (.inl v1)] [] s := by
  intro k0 v1 s o h
  exact evC (chs := c_Re_sum) (cuts := cu_Re_sum) (G := fun pc ls st σ => if pc = 170 then hd_Re_sum_170 (fun k0 v1 s => f_Re_sum_170 k0 v1 s) ls st σ else none) hX.2.1 hX.2.2 (F := F_Re_sum _) (fs_Re_sum hX _) (rt_Z rfl) oc_Re_sum (by
    intro pc ls st σ o h
    rcases ite_s h with ⟨rfl, h⟩ | ⟨_, h⟩
    · exact hs_Re_sum_170 (s_Re_sum_170 hX) _ _ _ _ h
    cases h) 412 49 _ _ _ _ h
set_option maxRecDepth 100000 in
theorem s_Re_sum {X : CXT} (hX : XC X) : ∀ (k0 : Nat) (s : Mem) (o : Bool × Mem), f_Re_sum k0 s = some o → BSnd X 3 118 (ovZ o) 0 (entL [.inr (.inr (5, k0))]) [] s := by
  intro k0 s o h
  rw [f_Re_sum_eq] at h
  exact evC (chs := c_Re_sum) (cuts := cu_Re_sum) (G := fun pc ls st σ => if pc = 13 then hd_Re_sum_13 (fun k0 v1 v2 s => f_Re_sum_13 (fun k0 v1 s => f_Re_sum_170 k0 v1 s) (fun k0 v1 s => f_Re_sum_49 k0 v1 s) FU k0 v1 v2 s) ls st σ else if pc = 170 then hd_Re_sum_170 (fun k0 v1 s => f_Re_sum_170 k0 v1 s) ls st σ else if pc = 49 then hd_Re_sum_49 (fun k0 v1 s => f_Re_sum_49 k0 v1 s) ls st σ else none) hX.2.1 hX.2.2 (F := F_Re_sum _) (fs_Re_sum hX _) (rt_Z rfl) oc_Re_sum (by
    intro pc ls st σ o h
    rcases ite_s h with ⟨rfl, h⟩ | ⟨_, h⟩
    · exact hs_Re_sum_13 (s_Re_sum_13 hX (s_Re_sum_170 hX) (s_Re_sum_49 hX) FU) _ _ _ _ h
    rcases ite_s h with ⟨rfl, h⟩ | ⟨_, h⟩
    · exact hs_Re_sum_170 (s_Re_sum_170 hX) _ _ _ _ h
    rcases ite_s h with ⟨rfl, h⟩ | ⟨_, h⟩
    · exact hs_Re_sum_49 (s_Re_sum_49 hX) _ _ _ _ h
    cases h) 412 0 _ _ _ _ h
theorem ok_Re_sum {X : CXT} (hX : XC X) : SemOK X 3 118 sm_Re_sum := by
  intro O av σ K o h
  unfold sm_Re_sum at h
  split at h
  · obtain ⟨r, hf, h⟩ := Option.bind_eq_some_iff.mp h
    exact ⟨ovZ r, fun ht => sp_of hX.1 (by decide) (List.mem_range.mpr (by decide)) (by decide +kernel) ht (Nat.le_of_ble_eq_true rfl) (s_Re_sum hX _ _ _ hf), trivial, h⟩
  · cases h
noncomputable def b_Re_take (k0 : Nat) (v1 : Int32) (s : Mem) : Option (Bool × Mem) :=
  (f_Re_sort k0 s).bind fun r1 =>
  cif (r1.1 = v1) (
    let s2 : Mem := wI r1.2 k0 9 ((rI r1.2 k0 9) + ((1 : Int32)))
    some (true, s2)) (
    (f_Re_fail k0 ((1 : Int32)) r1.2).bind fun r3 =>
    lf (rB (b2i r3.1)) r3.2)
noncomputable def f_Re_take : Nat → Int32 → Mem → Option (Bool × Mem) := Classical.choose (⟨b_Re_take, rfl⟩ : ∃ f : Nat → Int32 → Mem → Option (Bool × Mem), f = b_Re_take)
theorem f_Re_take_eq : f_Re_take = b_Re_take := Classical.choose_spec (⟨b_Re_take, rfl⟩ : ∃ f : Nat → Int32 → Mem → Option (Bool × Mem), f = b_Re_take)
noncomputable def sm_Re_take (O : Type) (av : List AV) (σ : Mem) (K : AV → Mem → Option O) : Option O := match av with
  | [.inr (.inr (5, k0)), .inl v1] => (f_Re_take k0 v1 σ).bind fun r => K (.inl (b2i r.1)) r.2
  | _ => none
def c_Re_take : List (List CE) := [[(0, .aload_n 0, 1, 0, 0, 0), (1, .invokevirtual 115, 3, 113, 1, 11), (4, .iload_n 1, 1, 0, 0, 0), (5, .if_icmp .eq 9, 3, 14, 0, 0), (8, .aload_n 0, 1, 0, 0, 0), (9, .iconst 1, 1, 1, 0, 0), (10, .invokevirtual 118, 3, 116, 2, 11), (13, .ireturn, 1, 0, 0, 0), (14, .aload_n 0, 1, 0, 0, 0), (15, .dup, 1, 0, 0, 0)], [(16, .getfield 51, 3, 5, 9, 0), (19, .iconst 1, 1, 1, 0, 0), (20, .iadd, 1, 0, 0, 0), (21, .putfield 51, 3, 5, 9, 0), (24, .iconst 1, 1, 1, 0, 0), (25, .ireturn, 1, 0, 0, 0)]]
set_option maxRecDepth 100000 in
theorem oc_Re_take : okC 125 c_Re_take = true := by decide +kernel
def cu_Re_take : List (Nat × List Bool) := []
noncomputable def F_Re_take (O : Type) (a : Nat) (av : List AV) (σ : Mem) (K : AV → Mem → Option O) : Option O := if a = 113 then sm_Re_sort O av σ K else if a = 116 then sm_Re_fail O av σ K else none
theorem fs_Re_take {X : CXT} (hX : XC X) (O : Type) : FS X 2 (F_Re_take O) := by
  intro a av σ K o h
  unfold F_Re_take at h
  rcases ite_s h with ⟨rfl, h⟩ | ⟨_, h⟩
  · obtain ⟨r, h1, h2, h3⟩ := ok_Re_sort hX _ _ _ _ _ h
    exact ⟨r, fun ht => ⟨1, by decide, h1 ht⟩, h2, h3⟩
  rcases ite_s h with ⟨rfl, h⟩ | ⟨_, h⟩
  · obtain ⟨r, h1, h2, h3⟩ := ok_Re_fail hX _ _ _ _ _ h
    exact ⟨r, fun ht => ⟨1, by decide, h1 ht⟩, h2, h3⟩
  cases h
set_option maxRecDepth 100000 in
theorem s_Re_take {X : CXT} (hX : XC X) : ∀ (k0 : Nat) (v1 : Int32) (s : Mem) (o : Bool × Mem), f_Re_take k0 v1 s = some o → BSnd X 2 125 (ovZ o) 0 (entL [.inr (.inr (5, k0)), .inl v1]) [] s := by
  intro k0 v1 s o h
  rw [f_Re_take_eq] at h
  exact evC (chs := c_Re_take) (cuts := cu_Re_take) (G := fun pc ls st σ => none) hX.2.1 hX.2.2 (F := F_Re_take _) (fs_Re_take hX _) (rt_Z rfl) oc_Re_take (by
    intro pc ls st σ o h
    cases h) 104 0 _ _ _ _ h
theorem ok_Re_take {X : CXT} (hX : XC X) : SemOK X 2 125 sm_Re_take := by
  intro O av σ K o h
  unfold sm_Re_take at h
  split at h
  · obtain ⟨r, hf, h⟩ := Option.bind_eq_some_iff.mp h
    exact ⟨ovZ r, fun ht => sp_of hX.1 (by decide) (List.mem_range.mpr (by decide)) (by decide +kernel) ht (Nat.le_of_ble_eq_true rfl) (s_Re_take hX _ _ _ _ hf), trivial, h⟩
  · cases h
noncomputable def rm_Re_either (R_Re_either : Nat → Int32 → Mem → Option (Bool × Mem)) (O : Type) (av : List AV) (σ : Mem) (K : AV → Mem → Option O) : Option O := match av with
  | [.inr (.inr (5, k0)), .inl v1] => (R_Re_either k0 v1 σ).bind fun r => K (.inl (b2i r.1)) r.2
  | _ => none
theorem okr_Re_either {X : CXT} (hX : XC X) {d : Nat} (hd : 1 ≤ d) {R_Re_either : Nat → Int32 → Mem → Option (Bool × Mem)} (hR : ∀ (k0 : Nat) (v1 : Int32) (s : Mem) (o : Bool × Mem), R_Re_either k0 v1 s = some o → BSnd X d 123 (ovZ o) 0 (entL [.inr (.inr (5, k0)), .inl v1]) [] s) : SemOK X d 123 (rm_Re_either R_Re_either) := by
  intro O av σ K o h
  unfold rm_Re_either at h
  split at h
  · obtain ⟨r, hf, h⟩ := Option.bind_eq_some_iff.mp h
    exact ⟨ovZ r, fun ht => sp_of hX.1 hd (List.mem_range.mpr (by decide)) (by decide +kernel) ht (Nat.le_of_ble_eq_true rfl) (hR _ _ _ _ hf), trivial, h⟩
  · cases h
noncomputable def rm_Re_claim (R_Re_claim : Nat → Int32 → Mem → Option (Bool × Mem)) (O : Type) (av : List AV) (σ : Mem) (K : AV → Mem → Option O) : Option O := match av with
  | [.inr (.inr (5, k0)), .inl v1] => (R_Re_claim k0 v1 σ).bind fun r => K (.inl (b2i r.1)) r.2
  | _ => none
theorem okr_Re_claim {X : CXT} (hX : XC X) {d : Nat} (hd : 1 ≤ d) {R_Re_claim : Nat → Int32 → Mem → Option (Bool × Mem)} (hR : ∀ (k0 : Nat) (v1 : Int32) (s : Mem) (o : Bool × Mem), R_Re_claim k0 v1 s = some o → BSnd X d 124 (ovZ o) 0 (entL [.inr (.inr (5, k0)), .inl v1]) [] s) : SemOK X d 124 (rm_Re_claim R_Re_claim) := by
  intro O av σ K o h
  unfold rm_Re_claim at h
  split at h
  · obtain ⟨r, hf, h⟩ := Option.bind_eq_some_iff.mp h
    exact ⟨ovZ r, fun ht => sp_of hX.1 hd (List.mem_range.mpr (by decide)) (by decide +kernel) ht (Nat.le_of_ble_eq_true rfl) (hR _ _ _ _ hf), trivial, h⟩
  · cases h
noncomputable def f_Re_either_101 (R_Re_either : Nat → Int32 → Mem → Option (Bool × Mem)) (R_Re_claim : Nat → Int32 → Mem → Option (Bool × Mem)) (KH : Nat → Int32 → Int32 → Int32 → Mem → Option (Bool × Mem)) (K131 : Nat → Int32 → Mem → Option (Bool × Mem)) (k0 : Nat) (v1 : Int32) (v2 : Int32) (v3 : Int32) (v4 : Int32) (s : Mem) : Option (Bool × Mem) :=
  (R_Re_claim k0 v1 s).bind fun r1 =>
  cif ((b2i r1.1) = 0) (
    some (false, r1.2)) (
    cif (v4 = 0) (
      (f_La_addStep (k0 + 5) ((-8 : Int32)) r1.2).bind fun r2 =>
      KH k0 v1 v2 (v3 + (1 : Int32)) r2) (
      KH k0 v1 v2 (v3 + (1 : Int32)) r1.2))
noncomputable def f_Re_either_95 (R_Re_either : Nat → Int32 → Mem → Option (Bool × Mem)) (R_Re_claim : Nat → Int32 → Mem → Option (Bool × Mem)) (KH : Nat → Int32 → Int32 → Int32 → Mem → Option (Bool × Mem)) (K131 : Nat → Int32 → Mem → Option (Bool × Mem)) (k0 : Nat) (v1 : Int32) (v3 : Int32) (v4 : Int32) (s : Mem) : Option (Bool × Mem) :=
  f_Re_either_101 R_Re_either R_Re_claim (KH) K131 k0 v1 ((1 : Int32)) v3 v4 s
noncomputable def f_Re_either_86 (R_Re_either : Nat → Int32 → Mem → Option (Bool × Mem)) (R_Re_claim : Nat → Int32 → Mem → Option (Bool × Mem)) (KH : Nat → Int32 → Int32 → Int32 → Mem → Option (Bool × Mem)) (K131 : Nat → Int32 → Mem → Option (Bool × Mem)) (k0 : Nat) (v1 : Int32) (v2 : Int32) (v3 : Int32) (v4 : Int32) (s : Mem) : Option (Bool × Mem) :=
  cif (v2 = 0) (
    cif (v4 = 0) (
      f_Re_either_101 R_Re_either R_Re_claim (KH) K131 k0 v1 ((0 : Int32)) v3 v4 s) (
      f_Re_either_95 R_Re_either R_Re_claim (KH) K131 k0 v1 v3 v4 s)) (
    f_Re_either_95 R_Re_either R_Re_claim (KH) K131 k0 v1 v3 v4 s)
noncomputable def f_Re_either_58 (R_Re_either : Nat → Int32 → Mem → Option (Bool × Mem)) (R_Re_claim : Nat → Int32 → Mem → Option (Bool × Mem)) (KH : Nat → Int32 → Int32 → Int32 → Mem → Option (Bool × Mem)) (K131 : Nat → Int32 → Mem → Option (Bool × Mem)) (k0 : Nat) (v1 : Int32) (v2 : Int32) (v3 : Int32) (v4 : Int32) (s : Mem) : Option (Bool × Mem) :=
  let s1 : Mem := wI s k0 9 ((rI s k0 9) + ((1 : Int32)))
  cif (v4 = 0) (
    f_Re_either_86 R_Re_either R_Re_claim (KH) K131 k0 v1 v2 v3 v4 s1) (
    cif (v2 = 0) (
      f_Re_either_86 R_Re_either R_Re_claim (KH) K131 k0 v1 v2 v3 v4 s1) (
      (f_La_addStep (k0 + 5) ((-9 : Int32)) s1).bind fun r2 =>
      f_Re_either_86 R_Re_either R_Re_claim (KH) K131 k0 v1 v2 v3 v4 r2))
noncomputable def f_Re_either_41 (R_Re_either : Nat → Int32 → Mem → Option (Bool × Mem)) (R_Re_claim : Nat → Int32 → Mem → Option (Bool × Mem)) (KH : Nat → Int32 → Int32 → Int32 → Mem → Option (Bool × Mem)) (K131 : Nat → Int32 → Mem → Option (Bool × Mem)) (k0 : Nat) (v1 : Int32) (v2 : Int32) (v3 : Int32) (s : Mem) : Option (Bool × Mem) :=
  (f_Re_sort k0 s).bind fun r1 =>
  cif (r1.1 = ((1014 : Int32))) (
    f_Re_either_58 R_Re_either R_Re_claim (KH) K131 k0 v1 v2 v3 ((1 : Int32)) r1.2) (
    f_Re_either_58 R_Re_either R_Re_claim (KH) K131 k0 v1 v2 v3 ((0 : Int32)) r1.2)
noncomputable def f_Re_either_14 (R_Re_either : Nat → Int32 → Mem → Option (Bool × Mem)) (R_Re_claim : Nat → Int32 → Mem → Option (Bool × Mem)) (K131 : Nat → Int32 → Mem → Option (Bool × Mem)) : Nat → Nat → Int32 → Int32 → Int32 → Mem → Option (Bool × Mem)
  | 0, _, _, _, _, _ => none
  | n + 1, k0, v1, v2, v3, s =>
    cif (((400 : Int32)) ≤ v3) (
      K131 k0 v2 s) (
      (f_Re_sort k0 s).bind fun r1 =>
      cif (r1.1 = ((1014 : Int32))) (
        f_Re_either_41 R_Re_either R_Re_claim (fun k0 v1 v2 v3 s => f_Re_either_14 R_Re_either R_Re_claim K131 n k0 v1 v2 v3 s) K131 k0 v1 v2 v3 r1.2) (
        (f_Re_sort k0 r1.2).bind fun r2 =>
        cif (r2.1 = ((1015 : Int32))) (
          f_Re_either_41 R_Re_either R_Re_claim (fun k0 v1 v2 v3 s => f_Re_either_14 R_Re_either R_Re_claim K131 n k0 v1 v2 v3 s) K131 k0 v1 v2 v3 r2.2) (
          K131 k0 v2 r2.2)))
noncomputable def f_Re_either_131 (R_Re_either : Nat → Int32 → Mem → Option (Bool × Mem)) (R_Re_claim : Nat → Int32 → Mem → Option (Bool × Mem)) (k0 : Nat) (v2 : Int32) (s : Mem) : Option (Bool × Mem) :=
  cif (v2 = 0) (
    some (true, s)) (
    (f_La_addStep (k0 + 5) ((-9 : Int32)) s).bind fun r1 =>
    some (true, r1))
noncomputable def b_Re_either (R_Re_either : Nat → Int32 → Mem → Option (Bool × Mem)) (R_Re_claim : Nat → Int32 → Mem → Option (Bool × Mem)) (k0 : Nat) (v1 : Int32) (s : Mem) : Option (Bool × Mem) :=
  (R_Re_claim k0 v1 s).bind fun r1 =>
  cif ((b2i r1.1) = 0) (
    some (false, r1.2)) (
    f_Re_either_14 R_Re_either R_Re_claim (fun k0 v2 s => f_Re_either_131 R_Re_either R_Re_claim k0 v2 s) FU k0 v1 ((0 : Int32)) ((0 : Int32)) r1.2)
def c_Re_either : List (List CE) := [[(0, .aload_n 0, 1, 0, 0, 0), (1, .iload_n 1, 1, 0, 0, 0), (2, .invokevirtual 181, 3, 124, 2, 11), (5, .ifCond .ne 5, 3, 10, 0, 0), (8, .iconst 0, 1, 0, 0, 0), (9, .ireturn, 1, 0, 0, 0), (10, .iconst 0, 1, 0, 0, 0), (11, .istore_n 2, 1, 0, 0, 0), (12, .iconst 0, 1, 0, 0, 0), (13, .istore_n 3, 1, 0, 0, 0), (14, .iload_n 3, 1, 0, 0, 0), (15, .sipush 400, 3, 400, 0, 0)], [(18, .if_icmp .ge 113, 3, 131, 0, 0), (21, .aload_n 0, 1, 0, 0, 0), (22, .invokevirtual 115, 3, 113, 1, 11), (25, .sipush 1014, 3, 1014, 0, 0), (28, .if_icmp .eq 13, 3, 41, 0, 0), (31, .aload_n 0, 1, 0, 0, 0)], [(32, .invokevirtual 115, 3, 113, 1, 11), (35, .sipush 1015, 3, 1015, 0, 0), (38, .if_icmp .ne 93, 3, 131, 0, 0), (41, .aload_n 0, 1, 0, 0, 0), (42, .invokevirtual 115, 3, 113, 1, 11), (45, .sipush 1014, 3, 1014, 0, 0)], [(48, .if_icmp .ne 7, 3, 55, 0, 0), (51, .iconst 1, 1, 1, 0, 0), (52, .goto 4, 3, 56, 0, 0), (55, .iconst 0, 1, 0, 0, 0), (56, .istore 4, 2, 0, 0, 0), (58, .aload_n 0, 1, 0, 0, 0), (59, .dup, 1, 0, 0, 0), (60, .getfield 51, 3, 5, 9, 0), (63, .iconst 1, 1, 1, 0, 0)], [(64, .iadd, 1, 0, 0, 0), (65, .putfield 51, 3, 5, 9, 0), (68, .iload 4, 2, 0, 0, 0), (70, .ifCond .eq 16, 3, 86, 0, 0), (73, .iload_n 2, 1, 0, 0, 0), (74, .ifCond .eq 12, 3, 86, 0, 0), (77, .aload_n 0, 1, 0, 0, 0), (78, .getfield 28, 3, 5, 4, 0)], [(81, .bipush (-9), 2, 9, 0, 1), (83, .invokevirtual 184, 3, 121, 2, 4), (86, .iload_n 2, 1, 0, 0, 0), (87, .ifCond .ne 8, 3, 95, 0, 0), (90, .iload 4, 2, 0, 0, 0), (92, .ifCond .eq 7, 3, 99, 0, 0), (95, .iconst 1, 1, 1, 0, 0)], [(96, .goto 4, 3, 100, 0, 0), (99, .iconst 0, 1, 0, 0, 0), (100, .istore_n 2, 1, 0, 0, 0), (101, .aload_n 0, 1, 0, 0, 0), (102, .iload_n 1, 1, 0, 0, 0), (103, .invokevirtual 181, 3, 124, 2, 11), (106, .ifCond .ne 5, 3, 111, 0, 0), (109, .iconst 0, 1, 0, 0, 0), (110, .ireturn, 1, 0, 0, 0), (111, .iload 4, 2, 0, 0, 0)], [(113, .ifCond .ne 12, 3, 125, 0, 0), (116, .aload_n 0, 1, 0, 0, 0), (117, .getfield 28, 3, 5, 4, 0), (120, .bipush (-8), 2, 8, 0, 1), (122, .invokevirtual 184, 3, 121, 2, 4), (125, .iinc 3 1, 3, 1, 0, 0)], [(128, .goto (-114), 3, 14, 0, 0), (131, .iload_n 2, 1, 0, 0, 0), (132, .ifCond .eq 12, 3, 144, 0, 0), (135, .aload_n 0, 1, 0, 0, 0), (136, .getfield 28, 3, 5, 4, 0), (139, .bipush (-9), 2, 9, 0, 1), (141, .invokevirtual 184, 3, 121, 2, 4)], [(144, .iconst 1, 1, 1, 0, 0), (145, .ireturn, 1, 0, 0, 0)]]
set_option maxRecDepth 100000 in
theorem oc_Re_either : okC 123 c_Re_either = true := by decide +kernel
def cu_Re_either : List (Nat × List Bool) := [(101, [true, true, true, true, true]), (95, [true, true, false, true, true]), (86, [true, true, true, true, true]), (58, [true, true, true, true, true]), (41, [true, true, true, true]), (14, [true, true, true, true]), (131, [true, false, true])]
noncomputable def F_Re_either (R_Re_either : Nat → Int32 → Mem → Option (Bool × Mem)) (R_Re_claim : Nat → Int32 → Mem → Option (Bool × Mem)) (O : Type) (a : Nat) (av : List AV) (σ : Mem) (K : AV → Mem → Option O) : Option O := if a = 113 then sm_Re_sort O av σ K else if a = 121 then sm_La_addStep O av σ K else if a = 124 then rm_Re_claim R_Re_claim O av σ K else none
theorem fs_Re_either {X : CXT} (hX : XC X) {d : Nat} (hd : 4 ≤ d) {R_Re_either : Nat → Int32 → Mem → Option (Bool × Mem)} (hR_Re_either : ∀ (k0 : Nat) (v1 : Int32) (s : Mem) (o : Bool × Mem), R_Re_either k0 v1 s = some o → BSnd X d 123 (ovZ o) 0 (entL [.inr (.inr (5, k0)), .inl v1]) [] s) {R_Re_claim : Nat → Int32 → Mem → Option (Bool × Mem)} (hR_Re_claim : ∀ (k0 : Nat) (v1 : Int32) (s : Mem) (o : Bool × Mem), R_Re_claim k0 v1 s = some o → BSnd X d 124 (ovZ o) 0 (entL [.inr (.inr (5, k0)), .inl v1]) [] s) (O : Type) : FS X (d + 1) (F_Re_either R_Re_either R_Re_claim O) := by
  intro a av σ K o h
  unfold F_Re_either at h
  rcases ite_s h with ⟨rfl, h⟩ | ⟨_, h⟩
  · obtain ⟨r, h1, h2, h3⟩ := ok_Re_sort hX _ _ _ _ _ h
    exact ⟨r, fun ht => ⟨1, by omega, h1 ht⟩, h2, h3⟩
  rcases ite_s h with ⟨rfl, h⟩ | ⟨_, h⟩
  · obtain ⟨r, h1, h2, h3⟩ := ok_La_addStep hX _ _ _ _ _ h
    exact ⟨r, fun ht => ⟨1, by omega, h1 ht⟩, h2, h3⟩
  rcases ite_s h with ⟨rfl, h⟩ | ⟨_, h⟩
  · obtain ⟨r, h1, h2, h3⟩ := okr_Re_claim hX (Nat.le_trans (by decide) hd) hR_Re_claim _ _ _ _ _ h
    exact ⟨r, fun ht => ⟨d, Nat.le_refl _, h1 ht⟩, h2, h3⟩
  cases h
def hd_Re_either_101 {O : Type} (g : Nat → Int32 → Int32 → Int32 → Int32 → Mem → Option O) (ls : OL) (st : List AV) (σ : Mem) : Option O := match ls, st with
  | [some (.inr (.inr (5, k0))), some (.inl v1), some (.inl v2), some (.inl v3), some (.inl v4)], [] => g k0 v1 v2 v3 v4 σ
  | _, _ => none
theorem hs_Re_either_101 {X : CXT} {d : Nat} {g : Nat → Int32 → Int32 → Int32 → Int32 → Mem → Option (Bool × Mem)} (hg : ∀ (k0 : Nat) (v1 : Int32) (v2 : Int32) (v3 : Int32) (v4 : Int32) (s : Mem) (o : Bool × Mem), g k0 v1 v2 v3 v4 s = some o → BSnd X (d + 1) 123 (ovZ o) 101 [some (.inr (.inr (5, k0))), some (.inl v1), some (.inl v2), some (.inl v3), some (.inl v4)] [] s) : ∀ ls st σ o, hd_Re_either_101 g ls st σ = some o → BSnd X (d + 1) 123 (ovZ o) 101 ls st σ := by
  intro ls st σ o h
  unfold hd_Re_either_101 at h
  split at h
  · exact hg _ _ _ _ _ _ _ h
  · cases h
def hd_Re_either_95 {O : Type} (g : Nat → Int32 → Int32 → Int32 → Mem → Option O) (ls : OL) (st : List AV) (σ : Mem) : Option O := match ls, st with
  | [some (.inr (.inr (5, k0))), some (.inl v1), none, some (.inl v3), some (.inl v4)], [] => g k0 v1 v3 v4 σ
  | _, _ => none
theorem hs_Re_either_95 {X : CXT} {d : Nat} {g : Nat → Int32 → Int32 → Int32 → Mem → Option (Bool × Mem)} (hg : ∀ (k0 : Nat) (v1 : Int32) (v3 : Int32) (v4 : Int32) (s : Mem) (o : Bool × Mem), g k0 v1 v3 v4 s = some o → BSnd X (d + 1) 123 (ovZ o) 95 [some (.inr (.inr (5, k0))), some (.inl v1), none, some (.inl v3), some (.inl v4)] [] s) : ∀ ls st σ o, hd_Re_either_95 g ls st σ = some o → BSnd X (d + 1) 123 (ovZ o) 95 ls st σ := by
  intro ls st σ o h
  unfold hd_Re_either_95 at h
  split at h
  · exact hg _ _ _ _ _ _ h
  · cases h
def hd_Re_either_86 {O : Type} (g : Nat → Int32 → Int32 → Int32 → Int32 → Mem → Option O) (ls : OL) (st : List AV) (σ : Mem) : Option O := match ls, st with
  | [some (.inr (.inr (5, k0))), some (.inl v1), some (.inl v2), some (.inl v3), some (.inl v4)], [] => g k0 v1 v2 v3 v4 σ
  | _, _ => none
theorem hs_Re_either_86 {X : CXT} {d : Nat} {g : Nat → Int32 → Int32 → Int32 → Int32 → Mem → Option (Bool × Mem)} (hg : ∀ (k0 : Nat) (v1 : Int32) (v2 : Int32) (v3 : Int32) (v4 : Int32) (s : Mem) (o : Bool × Mem), g k0 v1 v2 v3 v4 s = some o → BSnd X (d + 1) 123 (ovZ o) 86 [some (.inr (.inr (5, k0))), some (.inl v1), some (.inl v2), some (.inl v3), some (.inl v4)] [] s) : ∀ ls st σ o, hd_Re_either_86 g ls st σ = some o → BSnd X (d + 1) 123 (ovZ o) 86 ls st σ := by
  intro ls st σ o h
  unfold hd_Re_either_86 at h
  split at h
  · exact hg _ _ _ _ _ _ _ h
  · cases h
def hd_Re_either_58 {O : Type} (g : Nat → Int32 → Int32 → Int32 → Int32 → Mem → Option O) (ls : OL) (st : List AV) (σ : Mem) : Option O := match ls, st with
  | [some (.inr (.inr (5, k0))), some (.inl v1), some (.inl v2), some (.inl v3), some (.inl v4)], [] => g k0 v1 v2 v3 v4 σ
  | _, _ => none
theorem hs_Re_either_58 {X : CXT} {d : Nat} {g : Nat → Int32 → Int32 → Int32 → Int32 → Mem → Option (Bool × Mem)} (hg : ∀ (k0 : Nat) (v1 : Int32) (v2 : Int32) (v3 : Int32) (v4 : Int32) (s : Mem) (o : Bool × Mem), g k0 v1 v2 v3 v4 s = some o → BSnd X (d + 1) 123 (ovZ o) 58 [some (.inr (.inr (5, k0))), some (.inl v1), some (.inl v2), some (.inl v3), some (.inl v4)] [] s) : ∀ ls st σ o, hd_Re_either_58 g ls st σ = some o → BSnd X (d + 1) 123 (ovZ o) 58 ls st σ := by
  intro ls st σ o h
  unfold hd_Re_either_58 at h
  split at h
  · exact hg _ _ _ _ _ _ _ h
  · cases h
def hd_Re_either_41 {O : Type} (g : Nat → Int32 → Int32 → Int32 → Mem → Option O) (ls : OL) (st : List AV) (σ : Mem) : Option O := match ls, st with
  | [some (.inr (.inr (5, k0))), some (.inl v1), some (.inl v2), some (.inl v3)], [] => g k0 v1 v2 v3 σ
  | _, _ => none
theorem hs_Re_either_41 {X : CXT} {d : Nat} {g : Nat → Int32 → Int32 → Int32 → Mem → Option (Bool × Mem)} (hg : ∀ (k0 : Nat) (v1 : Int32) (v2 : Int32) (v3 : Int32) (s : Mem) (o : Bool × Mem), g k0 v1 v2 v3 s = some o → BSnd X (d + 1) 123 (ovZ o) 41 [some (.inr (.inr (5, k0))), some (.inl v1), some (.inl v2), some (.inl v3)] [] s) : ∀ ls st σ o, hd_Re_either_41 g ls st σ = some o → BSnd X (d + 1) 123 (ovZ o) 41 ls st σ := by
  intro ls st σ o h
  unfold hd_Re_either_41 at h
  split at h
  · exact hg _ _ _ _ _ _ h
  · cases h
def hd_Re_either_14 {O : Type} (g : Nat → Int32 → Int32 → Int32 → Mem → Option O) (ls : OL) (st : List AV) (σ : Mem) : Option O := match ls, st with
  | [some (.inr (.inr (5, k0))), some (.inl v1), some (.inl v2), some (.inl v3)], [] => g k0 v1 v2 v3 σ
  | _, _ => none
theorem hs_Re_either_14 {X : CXT} {d : Nat} {g : Nat → Int32 → Int32 → Int32 → Mem → Option (Bool × Mem)} (hg : ∀ (k0 : Nat) (v1 : Int32) (v2 : Int32) (v3 : Int32) (s : Mem) (o : Bool × Mem), g k0 v1 v2 v3 s = some o → BSnd X (d + 1) 123 (ovZ o) 14 [some (.inr (.inr (5, k0))), some (.inl v1), some (.inl v2), some (.inl v3)] [] s) : ∀ ls st σ o, hd_Re_either_14 g ls st σ = some o → BSnd X (d + 1) 123 (ovZ o) 14 ls st σ := by
  intro ls st σ o h
  unfold hd_Re_either_14 at h
  split at h
  · exact hg _ _ _ _ _ _ h
  · cases h
def hd_Re_either_131 {O : Type} (g : Nat → Int32 → Mem → Option O) (ls : OL) (st : List AV) (σ : Mem) : Option O := match ls, st with
  | [some (.inr (.inr (5, k0))), none, some (.inl v2)], [] => g k0 v2 σ
  | _, _ => none
theorem hs_Re_either_131 {X : CXT} {d : Nat} {g : Nat → Int32 → Mem → Option (Bool × Mem)} (hg : ∀ (k0 : Nat) (v2 : Int32) (s : Mem) (o : Bool × Mem), g k0 v2 s = some o → BSnd X (d + 1) 123 (ovZ o) 131 [some (.inr (.inr (5, k0))), none, some (.inl v2)] [] s) : ∀ ls st σ o, hd_Re_either_131 g ls st σ = some o → BSnd X (d + 1) 123 (ovZ o) 131 ls st σ := by
  intro ls st σ o h
  unfold hd_Re_either_131 at h
  split at h
  · exact hg _ _ _ _ h
  · cases h
set_option maxRecDepth 100000 in
theorem s_Re_either_101 {X : CXT} (hX : XC X) {d : Nat} (hd : 4 ≤ d) {R_Re_either : Nat → Int32 → Mem → Option (Bool × Mem)} (hR_Re_either : ∀ (k0 : Nat) (v1 : Int32) (s : Mem) (o : Bool × Mem), R_Re_either k0 v1 s = some o → BSnd X d 123 (ovZ o) 0 (entL [.inr (.inr (5, k0)), .inl v1]) [] s) {R_Re_claim : Nat → Int32 → Mem → Option (Bool × Mem)} (hR_Re_claim : ∀ (k0 : Nat) (v1 : Int32) (s : Mem) (o : Bool × Mem), R_Re_claim k0 v1 s = some o → BSnd X d 124 (ovZ o) 0 (entL [.inr (.inr (5, k0)), .inl v1]) [] s) {KH : Nat → Int32 → Int32 → Int32 → Mem → Option (Bool × Mem)} {K131 : Nat → Int32 → Mem → Option (Bool × Mem)} (hKH : ∀ (k0 : Nat) (v1 : Int32) (v2 : Int32) (v3 : Int32) (s : Mem) (o : Bool × Mem), KH k0 v1 v2 v3 s = some o → BSnd X (d + 1) 123 (ovZ o) 14 [some (.inr (.inr (5, k0))), some (.inl v1), some (.inl v2), some (.inl v3)] [] s) (hK131 : ∀ (k0 : Nat) (v2 : Int32) (s : Mem) (o : Bool × Mem), K131 k0 v2 s = some o → BSnd X (d + 1) 123 (ovZ o) 131 [some (.inr (.inr (5, k0))), none, some (.inl v2)] [] s) : ∀ (k0 : Nat) (v1 : Int32) (v2 : Int32) (v3 : Int32) (v4 : Int32) (s : Mem) (o : Bool × Mem), f_Re_either_101 R_Re_either R_Re_claim KH K131 k0 v1 v2 v3 v4 s = some o → BSnd X (d + 1) 123 (ovZ o) 101 [some (.inr (.inr (5, k0))), some (.inl v1), some (.inl v2), some (.inl v3), some (.inl v4)] [] s := by
  intro k0 v1 v2 v3 v4 s o h
  exact evC (chs := c_Re_either) (cuts := cu_Re_either) (G := fun pc ls st σ => if pc = 14 then hd_Re_either_14 (fun k0 v1 v2 v3 s => KH k0 v1 v2 v3 s) ls st σ else none) hX.2.1 hX.2.2 (F := F_Re_either R_Re_either R_Re_claim _) (fs_Re_either hX hd hR_Re_either hR_Re_claim _) (rt_Z rfl) oc_Re_either (by
    intro pc ls st σ o h
    rcases ite_s h with ⟨rfl, h⟩ | ⟨_, h⟩
    · exact hs_Re_either_14 hKH _ _ _ _ h
    cases h) 332 101 _ _ _ _ h
set_option maxRecDepth 100000 in
theorem s_Re_either_95 {X : CXT} (hX : XC X) {d : Nat} (hd : 4 ≤ d) {R_Re_either : Nat → Int32 → Mem → Option (Bool × Mem)} (hR_Re_either : ∀ (k0 : Nat) (v1 : Int32) (s : Mem) (o : Bool × Mem), R_Re_either k0 v1 s = some o → BSnd X d 123 (ovZ o) 0 (entL [.inr (.inr (5, k0)), .inl v1]) [] s) {R_Re_claim : Nat → Int32 → Mem → Option (Bool × Mem)} (hR_Re_claim : ∀ (k0 : Nat) (v1 : Int32) (s : Mem) (o : Bool × Mem), R_Re_claim k0 v1 s = some o → BSnd X d 124 (ovZ o) 0 (entL [.inr (.inr (5, k0)), .inl v1]) [] s) {KH : Nat → Int32 → Int32 → Int32 → Mem → Option (Bool × Mem)} {K131 : Nat → Int32 → Mem → Option (Bool × Mem)} (hKH : ∀ (k0 : Nat) (v1 : Int32) (v2 : Int32) (v3 : Int32) (s : Mem) (o : Bool × Mem), KH k0 v1 v2 v3 s = some o → BSnd X (d + 1) 123 (ovZ o) 14 [some (.inr (.inr (5, k0))), some (.inl v1), some (.inl v2), some (.inl v3)] [] s) (hK131 : ∀ (k0 : Nat) (v2 : Int32) (s : Mem) (o : Bool × Mem), K131 k0 v2 s = some o → BSnd X (d + 1) 123 (ovZ o) 131 [some (.inr (.inr (5, k0))), none, some (.inl v2)] [] s) : ∀ (k0 : Nat) (v1 : Int32) (v3 : Int32) (v4 : Int32) (s : Mem) (o : Bool × Mem), f_Re_either_95 R_Re_either R_Re_claim KH K131 k0 v1 v3 v4 s = some o → BSnd X (d + 1) 123 (ovZ o) 95 [some (.inr (.inr (5, k0))), some (.inl v1), none, some (.inl v3), some (.inl v4)] [] s := by
  intro k0 v1 v3 v4 s o h
  exact evC (chs := c_Re_either) (cuts := cu_Re_either) (G := fun pc ls st σ => if pc = 101 then hd_Re_either_101 (fun k0 v1 v2 v3 v4 s => f_Re_either_101 R_Re_either R_Re_claim (KH) K131 k0 v1 v2 v3 v4 s) ls st σ else if pc = 14 then hd_Re_either_14 (fun k0 v1 v2 v3 s => KH k0 v1 v2 v3 s) ls st σ else if pc = 131 then hd_Re_either_131 (fun k0 v2 s => K131 k0 v2 s) ls st σ else none) hX.2.1 hX.2.2 (F := F_Re_either R_Re_either R_Re_claim _) (fs_Re_either hX hd hR_Re_either hR_Re_claim _) (rt_Z rfl) oc_Re_either (by
    intro pc ls st σ o h
    rcases ite_s h with ⟨rfl, h⟩ | ⟨_, h⟩
    · exact hs_Re_either_101 (s_Re_either_101 hX hd hR_Re_either hR_Re_claim hKH hK131) _ _ _ _ h
    rcases ite_s h with ⟨rfl, h⟩ | ⟨_, h⟩
    · exact hs_Re_either_14 hKH _ _ _ _ h
    rcases ite_s h with ⟨rfl, h⟩ | ⟨_, h⟩
    · exact hs_Re_either_131 hK131 _ _ _ _ h
    cases h) 332 95 _ _ _ _ h
set_option maxRecDepth 100000 in
theorem s_Re_either_86 {X : CXT} (hX : XC X) {d : Nat} (hd : 4 ≤ d) {R_Re_either : Nat → Int32 → Mem → Option (Bool × Mem)} (hR_Re_either : ∀ (k0 : Nat) (v1 : Int32) (s : Mem) (o : Bool × Mem), R_Re_either k0 v1 s = some o → BSnd X d 123 (ovZ o) 0 (entL [.inr (.inr (5, k0)), .inl v1]) [] s) {R_Re_claim : Nat → Int32 → Mem → Option (Bool × Mem)} (hR_Re_claim : ∀ (k0 : Nat) (v1 : Int32) (s : Mem) (o : Bool × Mem), R_Re_claim k0 v1 s = some o → BSnd X d 124 (ovZ o) 0 (entL [.inr (.inr (5, k0)), .inl v1]) [] s) {KH : Nat → Int32 → Int32 → Int32 → Mem → Option (Bool × Mem)} {K131 : Nat → Int32 → Mem → Option (Bool × Mem)} (hKH : ∀ (k0 : Nat) (v1 : Int32) (v2 : Int32) (v3 : Int32) (s : Mem) (o : Bool × Mem), KH k0 v1 v2 v3 s = some o → BSnd X (d + 1) 123 (ovZ o) 14 [some (.inr (.inr (5, k0))), some (.inl v1), some (.inl v2), some (.inl v3)] [] s) (hK131 : ∀ (k0 : Nat) (v2 : Int32) (s : Mem) (o : Bool × Mem), K131 k0 v2 s = some o → BSnd X (d + 1) 123 (ovZ o) 131 [some (.inr (.inr (5, k0))), none, some (.inl v2)] [] s) : ∀ (k0 : Nat) (v1 : Int32) (v2 : Int32) (v3 : Int32) (v4 : Int32) (s : Mem) (o : Bool × Mem), f_Re_either_86 R_Re_either R_Re_claim KH K131 k0 v1 v2 v3 v4 s = some o → BSnd X (d + 1) 123 (ovZ o) 86 [some (.inr (.inr (5, k0))), some (.inl v1), some (.inl v2), some (.inl v3), some (.inl v4)] [] s := by
  intro k0 v1 v2 v3 v4 s o h
  exact evC (chs := c_Re_either) (cuts := cu_Re_either) (G := fun pc ls st σ => if pc = 101 then hd_Re_either_101 (fun k0 v1 v2 v3 v4 s => f_Re_either_101 R_Re_either R_Re_claim (KH) K131 k0 v1 v2 v3 v4 s) ls st σ else if pc = 95 then hd_Re_either_95 (fun k0 v1 v3 v4 s => f_Re_either_95 R_Re_either R_Re_claim (KH) K131 k0 v1 v3 v4 s) ls st σ else if pc = 14 then hd_Re_either_14 (fun k0 v1 v2 v3 s => KH k0 v1 v2 v3 s) ls st σ else if pc = 131 then hd_Re_either_131 (fun k0 v2 s => K131 k0 v2 s) ls st σ else none) hX.2.1 hX.2.2 (F := F_Re_either R_Re_either R_Re_claim _) (fs_Re_either hX hd hR_Re_either hR_Re_claim _) (rt_Z rfl) oc_Re_either (by
    intro pc ls st σ o h
    rcases ite_s h with ⟨rfl, h⟩ | ⟨_, h⟩
    · exact hs_Re_either_101 (s_Re_either_101 hX hd hR_Re_either hR_Re_claim hKH hK131) _ _ _ _ h
    rcases ite_s h with ⟨rfl, h⟩ | ⟨_, h⟩
    · exact hs_Re_either_95 (s_Re_either_95 hX hd hR_Re_either hR_Re_claim hKH hK131) _ _ _ _ h
    rcases ite_s h with ⟨rfl, h⟩ | ⟨_, h⟩
    · exact hs_Re_either_14 hKH _ _ _ _ h
    rcases ite_s h with ⟨rfl, h⟩ | ⟨_, h⟩
    · exact hs_Re_either_131 hK131 _ _ _ _ h
    cases h) 332 86 _ _ _ _ h
set_option maxRecDepth 100000 in
theorem s_Re_either_58 {X : CXT} (hX : XC X) {d : Nat} (hd : 4 ≤ d) {R_Re_either : Nat → Int32 → Mem → Option (Bool × Mem)} (hR_Re_either : ∀ (k0 : Nat) (v1 : Int32) (s : Mem) (o : Bool × Mem), R_Re_either k0 v1 s = some o → BSnd X d 123 (ovZ o) 0 (entL [.inr (.inr (5, k0)), .inl v1]) [] s) {R_Re_claim : Nat → Int32 → Mem → Option (Bool × Mem)} (hR_Re_claim : ∀ (k0 : Nat) (v1 : Int32) (s : Mem) (o : Bool × Mem), R_Re_claim k0 v1 s = some o → BSnd X d 124 (ovZ o) 0 (entL [.inr (.inr (5, k0)), .inl v1]) [] s) {KH : Nat → Int32 → Int32 → Int32 → Mem → Option (Bool × Mem)} {K131 : Nat → Int32 → Mem → Option (Bool × Mem)} (hKH : ∀ (k0 : Nat) (v1 : Int32) (v2 : Int32) (v3 : Int32) (s : Mem) (o : Bool × Mem), KH k0 v1 v2 v3 s = some o → BSnd X (d + 1) 123 (ovZ o) 14 [some (.inr (.inr (5, k0))), some (.inl v1), some (.inl v2), some (.inl v3)] [] s) (hK131 : ∀ (k0 : Nat) (v2 : Int32) (s : Mem) (o : Bool × Mem), K131 k0 v2 s = some o → BSnd X (d + 1) 123 (ovZ o) 131 [some (.inr (.inr (5, k0))), none, some (.inl v2)] [] s) : ∀ (k0 : Nat) (v1 : Int32) (v2 : Int32) (v3 : Int32) (v4 : Int32) (s : Mem) (o : Bool × Mem), f_Re_either_58 R_Re_either R_Re_claim KH K131 k0 v1 v2 v3 v4 s = some o → BSnd X (d + 1) 123 (ovZ o) 58 [some (.inr (.inr (5, k0))), some (.inl v1), some (.inl v2), some (.inl v3), some (.inl v4)] [] s := by
  intro k0 v1 v2 v3 v4 s o h
  exact evC (chs := c_Re_either) (cuts := cu_Re_either) (G := fun pc ls st σ => if pc = 86 then hd_Re_either_86 (fun k0 v1 v2 v3 v4 s => f_Re_either_86 R_Re_either R_Re_claim (KH) K131 k0 v1 v2 v3 v4 s) ls st σ else if pc = 14 then hd_Re_either_14 (fun k0 v1 v2 v3 s => KH k0 v1 v2 v3 s) ls st σ else if pc = 131 then hd_Re_either_131 (fun k0 v2 s => K131 k0 v2 s) ls st σ else none) hX.2.1 hX.2.2 (F := F_Re_either R_Re_either R_Re_claim _) (fs_Re_either hX hd hR_Re_either hR_Re_claim _) (rt_Z rfl) oc_Re_either (by
    intro pc ls st σ o h
    rcases ite_s h with ⟨rfl, h⟩ | ⟨_, h⟩
    · exact hs_Re_either_86 (s_Re_either_86 hX hd hR_Re_either hR_Re_claim hKH hK131) _ _ _ _ h
    rcases ite_s h with ⟨rfl, h⟩ | ⟨_, h⟩
    · exact hs_Re_either_14 hKH _ _ _ _ h
    rcases ite_s h with ⟨rfl, h⟩ | ⟨_, h⟩
    · exact hs_Re_either_131 hK131 _ _ _ _ h
    cases h) 332 58 _ _ _ _ h
set_option maxRecDepth 100000 in
theorem s_Re_either_41 {X : CXT} (hX : XC X) {d : Nat} (hd : 4 ≤ d) {R_Re_either : Nat → Int32 → Mem → Option (Bool × Mem)} (hR_Re_either : ∀ (k0 : Nat) (v1 : Int32) (s : Mem) (o : Bool × Mem), R_Re_either k0 v1 s = some o → BSnd X d 123 (ovZ o) 0 (entL [.inr (.inr (5, k0)), .inl v1]) [] s) {R_Re_claim : Nat → Int32 → Mem → Option (Bool × Mem)} (hR_Re_claim : ∀ (k0 : Nat) (v1 : Int32) (s : Mem) (o : Bool × Mem), R_Re_claim k0 v1 s = some o → BSnd X d 124 (ovZ o) 0 (entL [.inr (.inr (5, k0)), .inl v1]) [] s) {KH : Nat → Int32 → Int32 → Int32 → Mem → Option (Bool × Mem)} {K131 : Nat → Int32 → Mem → Option (Bool × Mem)} (hKH : ∀ (k0 : Nat) (v1 : Int32) (v2 : Int32) (v3 : Int32) (s : Mem) (o : Bool × Mem), KH k0 v1 v2 v3 s = some o → BSnd X (d + 1) 123 (ovZ o) 14 [some (.inr (.inr (5, k0))), some (.inl v1), some (.inl v2), some (.inl v3)] [] s) (hK131 : ∀ (k0 : Nat) (v2 : Int32) (s : Mem) (o : Bool × Mem), K131 k0 v2 s = some o → BSnd X (d + 1) 123 (ovZ o) 131 [some (.inr (.inr (5, k0))), none, some (.inl v2)] [] s) : ∀ (k0 : Nat) (v1 : Int32) (v2 : Int32) (v3 : Int32) (s : Mem) (o : Bool × Mem), f_Re_either_41 R_Re_either R_Re_claim KH K131 k0 v1 v2 v3 s = some o → BSnd X (d + 1) 123 (ovZ o) 41 [some (.inr (.inr (5, k0))), some (.inl v1), some (.inl v2), some (.inl v3)] [] s := by
  intro k0 v1 v2 v3 s o h
  exact evC (chs := c_Re_either) (cuts := cu_Re_either) (G := fun pc ls st σ => if pc = 58 then hd_Re_either_58 (fun k0 v1 v2 v3 v4 s => f_Re_either_58 R_Re_either R_Re_claim (KH) K131 k0 v1 v2 v3 v4 s) ls st σ else if pc = 14 then hd_Re_either_14 (fun k0 v1 v2 v3 s => KH k0 v1 v2 v3 s) ls st σ else if pc = 131 then hd_Re_either_131 (fun k0 v2 s => K131 k0 v2 s) ls st σ else none) hX.2.1 hX.2.2 (F := F_Re_either R_Re_either R_Re_claim _) (fs_Re_either hX hd hR_Re_either hR_Re_claim _) (rt_Z rfl) oc_Re_either (by
    intro pc ls st σ o h
    rcases ite_s h with ⟨rfl, h⟩ | ⟨_, h⟩
    · exact hs_Re_either_58 (s_Re_either_58 hX hd hR_Re_either hR_Re_claim hKH hK131) _ _ _ _ h
    rcases ite_s h with ⟨rfl, h⟩ | ⟨_, h⟩
    · exact hs_Re_either_14 hKH _ _ _ _ h
    rcases ite_s h with ⟨rfl, h⟩ | ⟨_, h⟩
    · exact hs_Re_either_131 hK131 _ _ _ _ h
    cases h) 332 41 _ _ _ _ h
set_option maxRecDepth 100000 in
theorem s_Re_either_14 {X : CXT} (hX : XC X) {d : Nat} (hd : 4 ≤ d) {R_Re_either : Nat → Int32 → Mem → Option (Bool × Mem)} (hR_Re_either : ∀ (k0 : Nat) (v1 : Int32) (s : Mem) (o : Bool × Mem), R_Re_either k0 v1 s = some o → BSnd X d 123 (ovZ o) 0 (entL [.inr (.inr (5, k0)), .inl v1]) [] s) {R_Re_claim : Nat → Int32 → Mem → Option (Bool × Mem)} (hR_Re_claim : ∀ (k0 : Nat) (v1 : Int32) (s : Mem) (o : Bool × Mem), R_Re_claim k0 v1 s = some o → BSnd X d 124 (ovZ o) 0 (entL [.inr (.inr (5, k0)), .inl v1]) [] s) {K131 : Nat → Int32 → Mem → Option (Bool × Mem)} (hK131 : ∀ (k0 : Nat) (v2 : Int32) (s : Mem) (o : Bool × Mem), K131 k0 v2 s = some o → BSnd X (d + 1) 123 (ovZ o) 131 [some (.inr (.inr (5, k0))), none, some (.inl v2)] [] s) : ∀ n : Nat, ∀ (k0 : Nat) (v1 : Int32) (v2 : Int32) (v3 : Int32) (s : Mem) (o : Bool × Mem), f_Re_either_14 R_Re_either R_Re_claim K131 n k0 v1 v2 v3 s = some o → BSnd X (d + 1) 123 (ovZ o) 14 [some (.inr (.inr (5, k0))), some (.inl v1), some (.inl v2), some (.inl v3)] [] s := by
  intro n
  induction n with
  | zero => intro k0 v1 v2 v3 s o h; cases h
  | succ n ih =>
    intro k0 v1 v2 v3 s o h
    exact evC (chs := c_Re_either) (cuts := cu_Re_either) (G := fun pc ls st σ => if pc = 41 then hd_Re_either_41 (fun k0 v1 v2 v3 s => f_Re_either_41 R_Re_either R_Re_claim (fun k0 v1 v2 v3 s => f_Re_either_14 R_Re_either R_Re_claim K131 n k0 v1 v2 v3 s) K131 k0 v1 v2 v3 s) ls st σ else if pc = 14 then hd_Re_either_14 (fun k0 v1 v2 v3 s => f_Re_either_14 R_Re_either R_Re_claim K131 n k0 v1 v2 v3 s) ls st σ else if pc = 131 then hd_Re_either_131 (fun k0 v2 s => K131 k0 v2 s) ls st σ else none) hX.2.1 hX.2.2 (F := F_Re_either R_Re_either R_Re_claim _) (fs_Re_either hX hd hR_Re_either hR_Re_claim _) (rt_Z rfl) oc_Re_either (by
    intro pc ls st σ o h
    rcases ite_s h with ⟨rfl, h⟩ | ⟨_, h⟩
    · exact hs_Re_either_41 (s_Re_either_41 hX hd hR_Re_either hR_Re_claim ih hK131) _ _ _ _ h
    rcases ite_s h with ⟨rfl, h⟩ | ⟨_, h⟩
    · exact hs_Re_either_14 ih _ _ _ _ h
    rcases ite_s h with ⟨rfl, h⟩ | ⟨_, h⟩
    · exact hs_Re_either_131 hK131 _ _ _ _ h
    cases h) 332 14 _ _ _ _ h
set_option maxRecDepth 100000 in
theorem s_Re_either_131 {X : CXT} (hX : XC X) {d : Nat} (hd : 4 ≤ d) {R_Re_either : Nat → Int32 → Mem → Option (Bool × Mem)} (hR_Re_either : ∀ (k0 : Nat) (v1 : Int32) (s : Mem) (o : Bool × Mem), R_Re_either k0 v1 s = some o → BSnd X d 123 (ovZ o) 0 (entL [.inr (.inr (5, k0)), .inl v1]) [] s) {R_Re_claim : Nat → Int32 → Mem → Option (Bool × Mem)} (hR_Re_claim : ∀ (k0 : Nat) (v1 : Int32) (s : Mem) (o : Bool × Mem), R_Re_claim k0 v1 s = some o → BSnd X d 124 (ovZ o) 0 (entL [.inr (.inr (5, k0)), .inl v1]) [] s) : ∀ (k0 : Nat) (v2 : Int32) (s : Mem) (o : Bool × Mem), f_Re_either_131 R_Re_either R_Re_claim k0 v2 s = some o → BSnd X (d + 1) 123 (ovZ o) 131 [some (.inr (.inr (5, k0))), none, some (.inl v2)] [] s := by
  intro k0 v2 s o h
  exact evC (chs := c_Re_either) (cuts := cu_Re_either) (G := fun pc ls st σ => none) hX.2.1 hX.2.2 (F := F_Re_either R_Re_either R_Re_claim _) (fs_Re_either hX hd hR_Re_either hR_Re_claim _) (rt_Z rfl) oc_Re_either (by
    intro pc ls st σ o h
    cases h) 332 131 _ _ _ _ h
set_option maxRecDepth 100000 in
theorem s_Re_either {X : CXT} (hX : XC X) {d : Nat} (hd : 4 ≤ d) {R_Re_either : Nat → Int32 → Mem → Option (Bool × Mem)} (hR_Re_either : ∀ (k0 : Nat) (v1 : Int32) (s : Mem) (o : Bool × Mem), R_Re_either k0 v1 s = some o → BSnd X d 123 (ovZ o) 0 (entL [.inr (.inr (5, k0)), .inl v1]) [] s) {R_Re_claim : Nat → Int32 → Mem → Option (Bool × Mem)} (hR_Re_claim : ∀ (k0 : Nat) (v1 : Int32) (s : Mem) (o : Bool × Mem), R_Re_claim k0 v1 s = some o → BSnd X d 124 (ovZ o) 0 (entL [.inr (.inr (5, k0)), .inl v1]) [] s) : ∀ (k0 : Nat) (v1 : Int32) (s : Mem) (o : Bool × Mem), b_Re_either R_Re_either R_Re_claim  k0 v1 s = some o → BSnd X (d + 1) 123 (ovZ o) 0 (entL [.inr (.inr (5, k0)), .inl v1]) [] s := by
  intro k0 v1 s o h
  exact evC (chs := c_Re_either) (cuts := cu_Re_either) (G := fun pc ls st σ => if pc = 14 then hd_Re_either_14 (fun k0 v1 v2 v3 s => f_Re_either_14 R_Re_either R_Re_claim (fun k0 v2 s => f_Re_either_131 R_Re_either R_Re_claim k0 v2 s) FU k0 v1 v2 v3 s) ls st σ else if pc = 131 then hd_Re_either_131 (fun k0 v2 s => f_Re_either_131 R_Re_either R_Re_claim k0 v2 s) ls st σ else none) hX.2.1 hX.2.2 (F := F_Re_either R_Re_either R_Re_claim _) (fs_Re_either hX hd hR_Re_either hR_Re_claim _) (rt_Z rfl) oc_Re_either (by
    intro pc ls st σ o h
    rcases ite_s h with ⟨rfl, h⟩ | ⟨_, h⟩
    · exact hs_Re_either_14 (s_Re_either_14 hX hd hR_Re_either hR_Re_claim (s_Re_either_131 hX hd hR_Re_either hR_Re_claim) FU) _ _ _ _ h
    rcases ite_s h with ⟨rfl, h⟩ | ⟨_, h⟩
    · exact hs_Re_either_131 (s_Re_either_131 hX hd hR_Re_either hR_Re_claim) _ _ _ _ h
    cases h) 332 0 _ _ _ _ h
noncomputable def f_Re_claim_29 (R_Re_either : Nat → Int32 → Mem → Option (Bool × Mem)) (R_Re_claim : Nat → Int32 → Mem → Option (Bool × Mem)) (k0 : Nat) (v1 : Int32) (v2 : Int32) (s : Mem) : Option (Bool × Mem) :=
  cif (v1 < ((8 : Int32))) (
    let s1 : Mem := wI s k0 9 ((rI s k0 9) + ((1 : Int32)))
    cif (v2 = 0) (
      (R_Re_either k0 (v1 + ((1 : Int32))) s1).bind fun r2 =>
      cif ((b2i r2.1) = 0) (
        some (false, r2.2)) (
        (f_Re_take k0 ((41 : Int32)) r2.2).bind fun r3 =>
        cif ((b2i r3.1) = 0) (
          some (false, r3.2)) (
          some (true, r3.2)))) (
      (R_Re_claim k0 (v1 + ((1 : Int32))) s1).bind fun r4 =>
      cif ((b2i r4.1) = 0) (
        some (false, r4.2)) (
        (f_La_addStep (k0 + 5) ((-10 : Int32)) r4.2).bind fun r5 =>
        some (true, r5)))) (
    (f_Re_fail k0 ((3 : Int32)) s).bind fun r6 =>
    lf (rB (b2i r6.1)) r6.2)
noncomputable def f_Re_claim_156 (R_Re_either : Nat → Int32 → Mem → Option (Bool × Mem)) (R_Re_claim : Nat → Int32 → Mem → Option (Bool × Mem)) (k0 : Nat) (v3 : Int32) (s : Mem) : Option (Bool × Mem) :=
  cif (v3 = 0) (
    (f_Re_fail k0 ((1 : Int32)) s).bind fun r1 =>
    lf (rB (b2i r1.1)) r1.2) (
    let s2 : Mem := wI s k0 9 ((rI s k0 9) + ((1 : Int32)))
    (f_Re_sum k0 s2).bind fun r3 =>
    cif ((b2i r3.1) = 0) (
      some (false, r3.2)) (
      (f_La_addStep (k0 + 5) v3 r3.2).bind fun r4 =>
      some (true, r4)))
noncomputable def f_Re_claim_16 (R_Re_either : Nat → Int32 → Mem → Option (Bool × Mem)) (R_Re_claim : Nat → Int32 → Mem → Option (Bool × Mem)) (k0 : Nat) (v1 : Int32) (v2 : Int32) (s : Mem) : Option (Bool × Mem) :=
  cif (v2 = 0) (
    (f_Re_sort k0 s).bind fun r1 =>
    cif (r1.1 = ((40 : Int32))) (
      f_Re_claim_29 R_Re_either R_Re_claim k0 v1 v2 r1.2) (
      (f_Re_sum k0 r1.2).bind fun r2 =>
      cif ((b2i r2.1) = 0) (
        some (false, r2.2)) (
        (f_Re_sort k0 r2.2).bind fun r3 =>
        cif (r3.1 = ((60 : Int32))) (
          f_Re_claim_156 R_Re_either R_Re_claim k0 ((-5 : Int32)) r3.2) (
          (f_Re_sort k0 r3.2).bind fun r4 =>
          cif (r4.1 = ((61 : Int32))) (
            f_Re_claim_156 R_Re_either R_Re_claim k0 ((-6 : Int32)) r4.2) (
            (f_Re_sort k0 r4.2).bind fun r5 =>
            cif (r5.1 = ((62 : Int32))) (
              f_Re_claim_156 R_Re_either R_Re_claim k0 ((-7 : Int32)) r5.2) (
              f_Re_claim_156 R_Re_either R_Re_claim k0 ((0 : Int32)) r5.2)))))) (
    f_Re_claim_29 R_Re_either R_Re_claim k0 v1 v2 s)
noncomputable def b_Re_claim (R_Re_either : Nat → Int32 → Mem → Option (Bool × Mem)) (R_Re_claim : Nat → Int32 → Mem → Option (Bool × Mem)) (k0 : Nat) (v1 : Int32) (s : Mem) : Option (Bool × Mem) :=
  (f_Re_sort k0 s).bind fun r1 =>
  cif (r1.1 = ((1016 : Int32))) (
    f_Re_claim_16 R_Re_either R_Re_claim k0 v1 ((1 : Int32)) r1.2) (
    f_Re_claim_16 R_Re_either R_Re_claim k0 v1 ((0 : Int32)) r1.2)
def c_Re_claim : List (List CE) := [[(0, .aload_n 0, 1, 0, 0, 0), (1, .invokevirtual 115, 3, 113, 1, 11), (4, .sipush 1016, 3, 1016, 0, 0), (7, .if_icmp .ne 7, 3, 14, 0, 0), (10, .iconst 1, 1, 1, 0, 0), (11, .goto 4, 3, 15, 0, 0), (14, .iconst 0, 1, 0, 0, 0), (15, .istore_n 2, 1, 0, 0, 0)], [(16, .iload_n 2, 1, 0, 0, 0), (17, .ifCond .ne 12, 3, 29, 0, 0), (20, .aload_n 0, 1, 0, 0, 0), (21, .invokevirtual 115, 3, 113, 1, 11), (24, .bipush 40, 2, 40, 0, 0), (26, .if_icmp .ne 77, 3, 103, 0, 0), (29, .iload_n 1, 1, 0, 0, 0), (30, .bipush 8, 2, 8, 0, 0)], [(32, .if_icmp .lt 9, 3, 41, 0, 0), (35, .aload_n 0, 1, 0, 0, 0), (36, .iconst 3, 1, 3, 0, 0), (37, .invokevirtual 118, 3, 116, 2, 11), (40, .ireturn, 1, 0, 0, 0), (41, .aload_n 0, 1, 0, 0, 0), (42, .dup, 1, 0, 0, 0), (43, .getfield 51, 3, 5, 9, 0), (46, .iconst 1, 1, 1, 0, 0), (47, .iadd, 1, 0, 0, 0)], [(48, .putfield 51, 3, 5, 9, 0), (51, .iload_n 2, 1, 0, 0, 0), (52, .ifCond .ne 28, 3, 80, 0, 0), (55, .aload_n 0, 1, 0, 0, 0), (56, .iload_n 1, 1, 0, 0, 0), (57, .iconst 1, 1, 1, 0, 0), (58, .iadd, 1, 0, 0, 0), (59, .invokevirtual 174, 3, 123, 2, 11), (62, .ifCond .eq 16, 3, 78, 0, 0)], [(65, .aload_n 0, 1, 0, 0, 0), (66, .bipush 41, 2, 41, 0, 0), (68, .invokevirtual 145, 3, 125, 2, 11), (71, .ifCond .eq 7, 3, 78, 0, 0), (74, .iconst 1, 1, 1, 0, 0), (75, .goto 4, 3, 79, 0, 0), (78, .iconst 0, 1, 0, 0, 0), (79, .ireturn, 1, 0, 0, 0)], [(80, .aload_n 0, 1, 0, 0, 0), (81, .iload_n 1, 1, 0, 0, 0), (82, .iconst 1, 1, 1, 0, 0), (83, .iadd, 1, 0, 0, 0), (84, .invokevirtual 181, 3, 124, 2, 11), (87, .ifCond .ne 5, 3, 92, 0, 0), (90, .iconst 0, 1, 0, 0, 0), (91, .ireturn, 1, 0, 0, 0), (92, .aload_n 0, 1, 0, 0, 0), (93, .getfield 28, 3, 5, 4, 0)], [(96, .bipush (-10), 2, 10, 0, 1), (98, .invokevirtual 184, 3, 121, 2, 4), (101, .iconst 1, 1, 1, 0, 0), (102, .ireturn, 1, 0, 0, 0), (103, .aload_n 0, 1, 0, 0, 0), (104, .invokevirtual 171, 3, 118, 1, 11), (107, .ifCond .ne 5, 3, 112, 0, 0), (110, .iconst 0, 1, 0, 0, 0), (111, .ireturn, 1, 0, 0, 0)], [(112, .aload_n 0, 1, 0, 0, 0), (113, .invokevirtual 115, 3, 113, 1, 11), (116, .bipush 60, 2, 60, 0, 0), (118, .if_icmp .ne 8, 3, 126, 0, 0), (121, .bipush (-5), 2, 5, 0, 1), (123, .goto 32, 3, 155, 0, 0), (126, .aload_n 0, 1, 0, 0, 0), (127, .invokevirtual 115, 3, 113, 1, 11)], [(130, .bipush 61, 2, 61, 0, 0), (132, .if_icmp .ne 8, 3, 140, 0, 0), (135, .bipush (-6), 2, 6, 0, 1), (137, .goto 18, 3, 155, 0, 0), (140, .aload_n 0, 1, 0, 0, 0), (141, .invokevirtual 115, 3, 113, 1, 11)], [(144, .bipush 62, 2, 62, 0, 0), (146, .if_icmp .ne 8, 3, 154, 0, 0), (149, .bipush (-7), 2, 7, 0, 1), (151, .goto 4, 3, 155, 0, 0), (154, .iconst 0, 1, 0, 0, 0), (155, .istore_n 3, 1, 0, 0, 0), (156, .iload_n 3, 1, 0, 0, 0), (157, .ifCond .ne 9, 3, 166, 0, 0)], [(160, .aload_n 0, 1, 0, 0, 0), (161, .iconst 1, 1, 1, 0, 0), (162, .invokevirtual 118, 3, 116, 2, 11), (165, .ireturn, 1, 0, 0, 0), (166, .aload_n 0, 1, 0, 0, 0), (167, .dup, 1, 0, 0, 0), (168, .getfield 51, 3, 5, 9, 0), (171, .iconst 1, 1, 1, 0, 0), (172, .iadd, 1, 0, 0, 0), (173, .putfield 51, 3, 5, 9, 0)], [(176, .aload_n 0, 1, 0, 0, 0), (177, .invokevirtual 171, 3, 118, 1, 11), (180, .ifCond .ne 5, 3, 185, 0, 0), (183, .iconst 0, 1, 0, 0, 0), (184, .ireturn, 1, 0, 0, 0), (185, .aload_n 0, 1, 0, 0, 0), (186, .getfield 28, 3, 5, 4, 0), (189, .iload_n 3, 1, 0, 0, 0), (190, .invokevirtual 184, 3, 121, 2, 4)], [(193, .iconst 1, 1, 1, 0, 0), (194, .ireturn, 1, 0, 0, 0)]]
set_option maxRecDepth 100000 in
theorem oc_Re_claim : okC 124 c_Re_claim = true := by decide +kernel
def cu_Re_claim : List (Nat × List Bool) := [(29, [true, true, true]), (156, [true, false, false, true]), (16, [true, true, true])]
noncomputable def F_Re_claim (R_Re_either : Nat → Int32 → Mem → Option (Bool × Mem)) (R_Re_claim : Nat → Int32 → Mem → Option (Bool × Mem)) (O : Type) (a : Nat) (av : List AV) (σ : Mem) (K : AV → Mem → Option O) : Option O := if a = 113 then sm_Re_sort O av σ K else if a = 116 then sm_Re_fail O av σ K else if a = 118 then sm_Re_sum O av σ K else if a = 121 then sm_La_addStep O av σ K else if a = 123 then rm_Re_either R_Re_either O av σ K else if a = 124 then rm_Re_claim R_Re_claim O av σ K else if a = 125 then sm_Re_take O av σ K else none
theorem fs_Re_claim {X : CXT} (hX : XC X) {d : Nat} (hd : 4 ≤ d) {R_Re_either : Nat → Int32 → Mem → Option (Bool × Mem)} (hR_Re_either : ∀ (k0 : Nat) (v1 : Int32) (s : Mem) (o : Bool × Mem), R_Re_either k0 v1 s = some o → BSnd X d 123 (ovZ o) 0 (entL [.inr (.inr (5, k0)), .inl v1]) [] s) {R_Re_claim : Nat → Int32 → Mem → Option (Bool × Mem)} (hR_Re_claim : ∀ (k0 : Nat) (v1 : Int32) (s : Mem) (o : Bool × Mem), R_Re_claim k0 v1 s = some o → BSnd X d 124 (ovZ o) 0 (entL [.inr (.inr (5, k0)), .inl v1]) [] s) (O : Type) : FS X (d + 1) (F_Re_claim R_Re_either R_Re_claim O) := by
  intro a av σ K o h
  unfold F_Re_claim at h
  rcases ite_s h with ⟨rfl, h⟩ | ⟨_, h⟩
  · obtain ⟨r, h1, h2, h3⟩ := ok_Re_sort hX _ _ _ _ _ h
    exact ⟨r, fun ht => ⟨1, by omega, h1 ht⟩, h2, h3⟩
  rcases ite_s h with ⟨rfl, h⟩ | ⟨_, h⟩
  · obtain ⟨r, h1, h2, h3⟩ := ok_Re_fail hX _ _ _ _ _ h
    exact ⟨r, fun ht => ⟨1, by omega, h1 ht⟩, h2, h3⟩
  rcases ite_s h with ⟨rfl, h⟩ | ⟨_, h⟩
  · obtain ⟨r, h1, h2, h3⟩ := ok_Re_sum hX _ _ _ _ _ h
    exact ⟨r, fun ht => ⟨3, by omega, h1 ht⟩, h2, h3⟩
  rcases ite_s h with ⟨rfl, h⟩ | ⟨_, h⟩
  · obtain ⟨r, h1, h2, h3⟩ := ok_La_addStep hX _ _ _ _ _ h
    exact ⟨r, fun ht => ⟨1, by omega, h1 ht⟩, h2, h3⟩
  rcases ite_s h with ⟨rfl, h⟩ | ⟨_, h⟩
  · obtain ⟨r, h1, h2, h3⟩ := okr_Re_either hX (Nat.le_trans (by decide) hd) hR_Re_either _ _ _ _ _ h
    exact ⟨r, fun ht => ⟨d, Nat.le_refl _, h1 ht⟩, h2, h3⟩
  rcases ite_s h with ⟨rfl, h⟩ | ⟨_, h⟩
  · obtain ⟨r, h1, h2, h3⟩ := okr_Re_claim hX (Nat.le_trans (by decide) hd) hR_Re_claim _ _ _ _ _ h
    exact ⟨r, fun ht => ⟨d, Nat.le_refl _, h1 ht⟩, h2, h3⟩
  rcases ite_s h with ⟨rfl, h⟩ | ⟨_, h⟩
  · obtain ⟨r, h1, h2, h3⟩ := ok_Re_take hX _ _ _ _ _ h
    exact ⟨r, fun ht => ⟨2, by omega, h1 ht⟩, h2, h3⟩
  cases h
def hd_Re_claim_29 {O : Type} (g : Nat → Int32 → Int32 → Mem → Option O) (ls : OL) (st : List AV) (σ : Mem) : Option O := match ls, st with
  | [some (.inr (.inr (5, k0))), some (.inl v1), some (.inl v2)], [] => g k0 v1 v2 σ
  | _, _ => none
theorem hs_Re_claim_29 {X : CXT} {d : Nat} {g : Nat → Int32 → Int32 → Mem → Option (Bool × Mem)} (hg : ∀ (k0 : Nat) (v1 : Int32) (v2 : Int32) (s : Mem) (o : Bool × Mem), g k0 v1 v2 s = some o → BSnd X (d + 1) 124 (ovZ o) 29 [some (.inr (.inr (5, k0))), some (.inl v1), some (.inl v2)] [] s) : ∀ ls st σ o, hd_Re_claim_29 g ls st σ = some o → BSnd X (d + 1) 124 (ovZ o) 29 ls st σ := by
  intro ls st σ o h
  unfold hd_Re_claim_29 at h
  split at h
  · exact hg _ _ _ _ _ h
  · cases h
def hd_Re_claim_156 {O : Type} (g : Nat → Int32 → Mem → Option O) (ls : OL) (st : List AV) (σ : Mem) : Option O := match ls, st with
  | [some (.inr (.inr (5, k0))), none, none, some (.inl v3)], [] => g k0 v3 σ
  | _, _ => none
theorem hs_Re_claim_156 {X : CXT} {d : Nat} {g : Nat → Int32 → Mem → Option (Bool × Mem)} (hg : ∀ (k0 : Nat) (v3 : Int32) (s : Mem) (o : Bool × Mem), g k0 v3 s = some o → BSnd X (d + 1) 124 (ovZ o) 156 [some (.inr (.inr (5, k0))), none, none, some (.inl v3)] [] s) : ∀ ls st σ o, hd_Re_claim_156 g ls st σ = some o → BSnd X (d + 1) 124 (ovZ o) 156 ls st σ := by
  intro ls st σ o h
  unfold hd_Re_claim_156 at h
  split at h
  · exact hg _ _ _ _ h
  · cases h
def hd_Re_claim_16 {O : Type} (g : Nat → Int32 → Int32 → Mem → Option O) (ls : OL) (st : List AV) (σ : Mem) : Option O := match ls, st with
  | [some (.inr (.inr (5, k0))), some (.inl v1), some (.inl v2)], [] => g k0 v1 v2 σ
  | _, _ => none
theorem hs_Re_claim_16 {X : CXT} {d : Nat} {g : Nat → Int32 → Int32 → Mem → Option (Bool × Mem)} (hg : ∀ (k0 : Nat) (v1 : Int32) (v2 : Int32) (s : Mem) (o : Bool × Mem), g k0 v1 v2 s = some o → BSnd X (d + 1) 124 (ovZ o) 16 [some (.inr (.inr (5, k0))), some (.inl v1), some (.inl v2)] [] s) : ∀ ls st σ o, hd_Re_claim_16 g ls st σ = some o → BSnd X (d + 1) 124 (ovZ o) 16 ls st σ := by
  intro ls st σ o h
  unfold hd_Re_claim_16 at h
  split at h
  · exact hg _ _ _ _ _ h
  · cases h
set_option maxRecDepth 100000 in
theorem s_Re_claim_29 {X : CXT} (hX : XC X) {d : Nat} (hd : 4 ≤ d) {R_Re_either : Nat → Int32 → Mem → Option (Bool × Mem)} (hR_Re_either : ∀ (k0 : Nat) (v1 : Int32) (s : Mem) (o : Bool × Mem), R_Re_either k0 v1 s = some o → BSnd X d 123 (ovZ o) 0 (entL [.inr (.inr (5, k0)), .inl v1]) [] s) {R_Re_claim : Nat → Int32 → Mem → Option (Bool × Mem)} (hR_Re_claim : ∀ (k0 : Nat) (v1 : Int32) (s : Mem) (o : Bool × Mem), R_Re_claim k0 v1 s = some o → BSnd X d 124 (ovZ o) 0 (entL [.inr (.inr (5, k0)), .inl v1]) [] s) : ∀ (k0 : Nat) (v1 : Int32) (v2 : Int32) (s : Mem) (o : Bool × Mem), f_Re_claim_29 R_Re_either R_Re_claim k0 v1 v2 s = some o → BSnd X (d + 1) 124 (ovZ o) 29 [some (.inr (.inr (5, k0))), some (.inl v1), some (.inl v2)] [] s := by
  intro k0 v1 v2 s o h
  exact evC (chs := c_Re_claim) (cuts := cu_Re_claim) (G := fun pc ls st σ => none) hX.2.1 hX.2.2 (F := F_Re_claim R_Re_either R_Re_claim _) (fs_Re_claim hX hd hR_Re_either hR_Re_claim _) (rt_Z rfl) oc_Re_claim (by
    intro pc ls st σ o h
    cases h) 460 29 _ _ _ _ h
set_option maxRecDepth 100000 in
theorem s_Re_claim_156 {X : CXT} (hX : XC X) {d : Nat} (hd : 4 ≤ d) {R_Re_either : Nat → Int32 → Mem → Option (Bool × Mem)} (hR_Re_either : ∀ (k0 : Nat) (v1 : Int32) (s : Mem) (o : Bool × Mem), R_Re_either k0 v1 s = some o → BSnd X d 123 (ovZ o) 0 (entL [.inr (.inr (5, k0)), .inl v1]) [] s) {R_Re_claim : Nat → Int32 → Mem → Option (Bool × Mem)} (hR_Re_claim : ∀ (k0 : Nat) (v1 : Int32) (s : Mem) (o : Bool × Mem), R_Re_claim k0 v1 s = some o → BSnd X d 124 (ovZ o) 0 (entL [.inr (.inr (5, k0)), .inl v1]) [] s) : ∀ (k0 : Nat) (v3 : Int32) (s : Mem) (o : Bool × Mem), f_Re_claim_156 R_Re_either R_Re_claim k0 v3 s = some o → BSnd X (d + 1) 124 (ovZ o) 156 [some (.inr (.inr (5, k0))), none, none, some (.inl v3)] [] s := by
  intro k0 v3 s o h
  exact evC (chs := c_Re_claim) (cuts := cu_Re_claim) (G := fun pc ls st σ => none) hX.2.1 hX.2.2 (F := F_Re_claim R_Re_either R_Re_claim _) (fs_Re_claim hX hd hR_Re_either hR_Re_claim _) (rt_Z rfl) oc_Re_claim (by
    intro pc ls st σ o h
    cases h) 460 156 _ _ _ _ h
set_option maxRecDepth 100000 in
theorem s_Re_claim_16 {X : CXT} (hX : XC X) {d : Nat} (hd : 4 ≤ d) {R_Re_either : Nat → Int32 → Mem → Option (Bool × Mem)} (hR_Re_either : ∀ (k0 : Nat) (v1 : Int32) (s : Mem) (o : Bool × Mem), R_Re_either k0 v1 s = some o → BSnd X d 123 (ovZ o) 0 (entL [.inr (.inr (5, k0)), .inl v1]) [] s) {R_Re_claim : Nat → Int32 → Mem → Option (Bool × Mem)} (hR_Re_claim : ∀ (k0 : Nat) (v1 : Int32) (s : Mem) (o : Bool × Mem), R_Re_claim k0 v1 s = some o → BSnd X d 124 (ovZ o) 0 (entL [.inr (.inr (5, k0)), .inl v1]) [] s) : ∀ (k0 : Nat) (v1 : Int32) (v2 : Int32) (s : Mem) (o : Bool × Mem), f_Re_claim_16 R_Re_either R_Re_claim k0 v1 v2 s = some o → BSnd X (d + 1) 124 (ovZ o) 16 [some (.inr (.inr (5, k0))), some (.inl v1), some (.inl v2)] [] s := by
  intro k0 v1 v2 s o h
  exact evC (chs := c_Re_claim) (cuts := cu_Re_claim) (G := fun pc ls st σ => if pc = 29 then hd_Re_claim_29 (fun k0 v1 v2 s => f_Re_claim_29 R_Re_either R_Re_claim k0 v1 v2 s) ls st σ else if pc = 156 then hd_Re_claim_156 (fun k0 v3 s => f_Re_claim_156 R_Re_either R_Re_claim k0 v3 s) ls st σ else none) hX.2.1 hX.2.2 (F := F_Re_claim R_Re_either R_Re_claim _) (fs_Re_claim hX hd hR_Re_either hR_Re_claim _) (rt_Z rfl) oc_Re_claim (by
    intro pc ls st σ o h
    rcases ite_s h with ⟨rfl, h⟩ | ⟨_, h⟩
    · exact hs_Re_claim_29 (s_Re_claim_29 hX hd hR_Re_either hR_Re_claim) _ _ _ _ h
    rcases ite_s h with ⟨rfl, h⟩ | ⟨_, h⟩
    · exact hs_Re_claim_156 (s_Re_claim_156 hX hd hR_Re_either hR_Re_claim) _ _ _ _ h
    cases h) 460 16 _ _ _ _ h
set_option maxRecDepth 100000 in
theorem s_Re_claim {X : CXT} (hX : XC X) {d : Nat} (hd : 4 ≤ d) {R_Re_either : Nat → Int32 → Mem → Option (Bool × Mem)} (hR_Re_either : ∀ (k0 : Nat) (v1 : Int32) (s : Mem) (o : Bool × Mem), R_Re_either k0 v1 s = some o → BSnd X d 123 (ovZ o) 0 (entL [.inr (.inr (5, k0)), .inl v1]) [] s) {R_Re_claim : Nat → Int32 → Mem → Option (Bool × Mem)} (hR_Re_claim : ∀ (k0 : Nat) (v1 : Int32) (s : Mem) (o : Bool × Mem), R_Re_claim k0 v1 s = some o → BSnd X d 124 (ovZ o) 0 (entL [.inr (.inr (5, k0)), .inl v1]) [] s) : ∀ (k0 : Nat) (v1 : Int32) (s : Mem) (o : Bool × Mem), b_Re_claim R_Re_either R_Re_claim  k0 v1 s = some o → BSnd X (d + 1) 124 (ovZ o) 0 (entL [.inr (.inr (5, k0)), .inl v1]) [] s := by
  intro k0 v1 s o h
  exact evC (chs := c_Re_claim) (cuts := cu_Re_claim) (G := fun pc ls st σ => if pc = 16 then hd_Re_claim_16 (fun k0 v1 v2 s => f_Re_claim_16 R_Re_either R_Re_claim k0 v1 v2 s) ls st σ else none) hX.2.1 hX.2.2 (F := F_Re_claim R_Re_either R_Re_claim _) (fs_Re_claim hX hd hR_Re_either hR_Re_claim _) (rt_Z rfl) oc_Re_claim (by
    intro pc ls st σ o h
    rcases ite_s h with ⟨rfl, h⟩ | ⟨_, h⟩
    · exact hs_Re_claim_16 (s_Re_claim_16 hX hd hR_Re_either hR_Re_claim) _ _ _ _ h
    cases h) 460 0 _ _ _ _ h
noncomputable def g_Re_either : Nat → (Nat → Int32 → Mem → Option (Bool × Mem)) × (Nat → Int32 → Mem → Option (Bool × Mem))
  | 0 => (fun _ _ _ => none, fun _ _ _ => none)
  | n + 1 => (b_Re_either (g_Re_either n).1 (g_Re_either n).2, b_Re_claim (g_Re_either n).1 (g_Re_either n).2)
theorem gs_Re_either {X : CXT} (hX : XC X) : ∀ n : Nat, (∀ (k0 : Nat) (v1 : Int32) (s : Mem) (o : Bool × Mem), (g_Re_either n).1 k0 v1 s = some o → BSnd X (4 + n) 123 (ovZ o) 0 (entL [.inr (.inr (5, k0)), .inl v1]) [] s) ∧ (∀ (k0 : Nat) (v1 : Int32) (s : Mem) (o : Bool × Mem), (g_Re_either n).2 k0 v1 s = some o → BSnd X (4 + n) 124 (ovZ o) 0 (entL [.inr (.inr (5, k0)), .inl v1]) [] s) := by
  intro n
  induction n with
  | zero => exact ⟨(fun _ _ _ _ h => by cases h), fun _ _ _ _ h => by cases h⟩
  | succ n ih => exact ⟨s_Re_either hX (Nat.le_add_right _ _) ih.1 ih.2, s_Re_claim hX (Nat.le_add_right _ _) ih.1 ih.2⟩
noncomputable def f_Re_either : Nat → Int32 → Mem → Option (Bool × Mem) := Classical.choose (⟨(g_Re_either 24).1, rfl⟩ : ∃ f : Nat → Int32 → Mem → Option (Bool × Mem), f = (g_Re_either 24).1)
theorem f_Re_either_eq : f_Re_either = (g_Re_either 24).1 := Classical.choose_spec (⟨(g_Re_either 24).1, rfl⟩ : ∃ f : Nat → Int32 → Mem → Option (Bool × Mem), f = (g_Re_either 24).1)
noncomputable def sm_Re_either (O : Type) (av : List AV) (σ : Mem) (K : AV → Mem → Option O) : Option O := match av with
  | [.inr (.inr (5, k0)), .inl v1] => (f_Re_either k0 v1 σ).bind fun r => K (.inl (b2i r.1)) r.2
  | _ => none
theorem ok_Re_either {X : CXT} (hX : XC X) : SemOK X 28 123 sm_Re_either := by
  intro O av σ K o h
  unfold sm_Re_either at h
  split at h
  · obtain ⟨r, hf, h⟩ := Option.bind_eq_some_iff.mp h
    rw [f_Re_either_eq] at hf
    exact ⟨ovZ r, fun ht => sp_of hX.1 (by decide) (List.mem_range.mpr (by decide)) (by decide +kernel) ht (Nat.le_of_ble_eq_true rfl) ((gs_Re_either hX 24).1 _ _ _ _ hf), trivial, h⟩
  · cases h
noncomputable def f_Re_claim : Nat → Int32 → Mem → Option (Bool × Mem) := Classical.choose (⟨(g_Re_either 24).2, rfl⟩ : ∃ f : Nat → Int32 → Mem → Option (Bool × Mem), f = (g_Re_either 24).2)
theorem f_Re_claim_eq : f_Re_claim = (g_Re_either 24).2 := Classical.choose_spec (⟨(g_Re_either 24).2, rfl⟩ : ∃ f : Nat → Int32 → Mem → Option (Bool × Mem), f = (g_Re_either 24).2)
noncomputable def sm_Re_claim (O : Type) (av : List AV) (σ : Mem) (K : AV → Mem → Option O) : Option O := match av with
  | [.inr (.inr (5, k0)), .inl v1] => (f_Re_claim k0 v1 σ).bind fun r => K (.inl (b2i r.1)) r.2
  | _ => none
theorem ok_Re_claim {X : CXT} (hX : XC X) : SemOK X 28 124 sm_Re_claim := by
  intro O av σ K o h
  unfold sm_Re_claim at h
  split at h
  · obtain ⟨r, hf, h⟩ := Option.bind_eq_some_iff.mp h
    rw [f_Re_claim_eq] at hf
    exact ⟨ovZ r, fun ht => sp_of hX.1 (by decide) (List.mem_range.mpr (by decide)) (by decide +kernel) ht (Nat.le_of_ble_eq_true rfl) ((gs_Re_either hX 24).2 _ _ _ _ hf), trivial, h⟩
  · cases h
noncomputable def b_La_addLine (k0 : Nat) (v1 : Int32) (v2 : Int32) (v3 : Int32) (s : Mem) : Option (Mem) :=
  (f_La_isFull k0 s).bind fun r1 =>
  cif ((b2i r1.1) = 0) (
    gd (inb (rI r1.2 k0 7) (lenC (k0 + 1))) <|
    let s2 : Mem := wI r1.2 (k0 + 1) (ix (rI r1.2 k0 7)) v1
    gd (inb (rI s2 k0 7) (lenC (k0 + 2))) <|
    let s3 : Mem := wI s2 (k0 + 2) (ix (rI s2 k0 7)) v2
    gd (inb (rI s3 k0 7) (lenC (k0 + 3))) <|
    let s4 : Mem := wI s3 (k0 + 3) (ix (rI s3 k0 7)) v3
    gd (inb (rI s4 k0 7) (lenC (k0 + 4))) <|
    let s5 : Mem := wI s4 (k0 + 4) (ix (rI s4 k0 7)) (rI s4 k0 6)
    let s6 : Mem := wI s5 k0 7 ((rI s5 k0 7) + ((1 : Int32)))
    some s6) (
    some r1.2)
noncomputable def f_La_addLine : Nat → Int32 → Int32 → Int32 → Mem → Option (Mem) := Classical.choose (⟨b_La_addLine, rfl⟩ : ∃ f : Nat → Int32 → Int32 → Int32 → Mem → Option (Mem), f = b_La_addLine)
theorem f_La_addLine_eq : f_La_addLine = b_La_addLine := Classical.choose_spec (⟨b_La_addLine, rfl⟩ : ∃ f : Nat → Int32 → Int32 → Int32 → Mem → Option (Mem), f = b_La_addLine)
noncomputable def sm_La_addLine (O : Type) (av : List AV) (σ : Mem) (K : AV → Mem → Option O) : Option O := match av with
  | [.inr (.inr (2, k0)), .inl v1, .inl v2, .inl v3] => (f_La_addLine k0 v1 v2 v3 σ).bind fun r => K (.inl 0) r
  | _ => none
def c_La_addLine : List (List CE) := [[(0, .aload_n 0, 1, 0, 0, 0), (1, .invokevirtual 37, 3, 114, 1, 5), (4, .ifCond .ne 56, 3, 60, 0, 0), (7, .aload_n 0, 1, 0, 0, 0), (8, .getfield 9, 3, 2, 0, 0), (11, .aload_n 0, 1, 0, 0, 0), (12, .getfield 34, 3, 2, 7, 0), (15, .iload_n 1, 1, 0, 0, 0)], [(16, .iastore, 1, 0, 0, 0), (17, .aload_n 0, 1, 0, 0, 0), (18, .getfield 15, 3, 2, 1, 0), (21, .aload_n 0, 1, 0, 0, 0), (22, .getfield 34, 3, 2, 7, 0), (25, .iload_n 2, 1, 0, 0, 0), (26, .iastore, 1, 0, 0, 0), (27, .aload_n 0, 1, 0, 0, 0), (28, .getfield 18, 3, 2, 2, 0), (31, .aload_n 0, 1, 0, 0, 0)], [(32, .getfield 34, 3, 2, 7, 0), (35, .iload_n 3, 1, 0, 0, 0), (36, .iastore, 1, 0, 0, 0), (37, .aload_n 0, 1, 0, 0, 0), (38, .getfield 21, 3, 2, 3, 0), (41, .aload_n 0, 1, 0, 0, 0), (42, .getfield 34, 3, 2, 7, 0), (45, .aload_n 0, 1, 0, 0, 0), (46, .getfield 30, 3, 2, 6, 0)], [(49, .iastore, 1, 0, 0, 0), (50, .aload_n 0, 1, 0, 0, 0), (51, .dup, 1, 0, 0, 0), (52, .getfield 34, 3, 2, 7, 0), (55, .iconst 1, 1, 1, 0, 0), (56, .iadd, 1, 0, 0, 0), (57, .putfield 34, 3, 2, 7, 0), (60, .return_, 1, 0, 0, 0)]]
set_option maxRecDepth 100000 in
theorem oc_La_addLine : okC 126 c_La_addLine = true := by decide +kernel
def cu_La_addLine : List (Nat × List Bool) := []
noncomputable def F_La_addLine (O : Type) (a : Nat) (av : List AV) (σ : Mem) (K : AV → Mem → Option O) : Option O := if a = 114 then sm_La_isFull O av σ K else none
theorem fs_La_addLine {X : CXT} (hX : XC X) (O : Type) : FS X 2 (F_La_addLine O) := by
  intro a av σ K o h
  unfold F_La_addLine at h
  rcases ite_s h with ⟨rfl, h⟩ | ⟨_, h⟩
  · obtain ⟨r, h1, h2, h3⟩ := ok_La_isFull hX _ _ _ _ _ h
    exact ⟨r, fun ht => ⟨1, by decide, h1 ht⟩, h2, h3⟩
  cases h
set_option maxRecDepth 100000 in
theorem s_La_addLine {X : CXT} (hX : XC X) : ∀ (k0 : Nat) (v1 : Int32) (v2 : Int32) (v3 : Int32) (s : Mem) (o : Mem), f_La_addLine k0 v1 v2 v3 s = some o → BSnd X 2 126 (ovV o) 0 (entL [.inr (.inr (2, k0)), .inl v1, .inl v2, .inl v3]) [] s := by
  intro k0 v1 v2 v3 s o h
  rw [f_La_addLine_eq] at h
  exact evC (chs := c_La_addLine) (cuts := cu_La_addLine) (G := fun pc ls st σ => none) hX.2.1 hX.2.2 (F := F_La_addLine _) (fs_La_addLine hX _) (rt_V rfl) oc_La_addLine (by
    intro pc ls st σ o h
    cases h) 180 0 _ _ _ _ h
theorem ok_La_addLine {X : CXT} (hX : XC X) : SemOK X 2 126 sm_La_addLine := by
  intro O av σ K o h
  unfold sm_La_addLine at h
  split at h
  · obtain ⟨r, hf, h⟩ := Option.bind_eq_some_iff.mp h
    exact ⟨ovV r, fun ht => sp_of hX.1 (by decide) (List.mem_range.mpr (by decide)) (by decide +kernel) ht (Nat.le_of_ble_eq_true rfl) (s_La_addLine hX _ _ _ _ _ _ hf), trivial, h⟩
  · cases h
noncomputable def b_Re_lawLine (k0 : Nat) (v1 : Int32) (s : Mem) : Option (Bool × Mem) :=
  let x1 : Int32 := rI s (k0 + 5) 6
  (f_Re_sum k0 s).bind fun r2 =>
  cif ((b2i r2.1) = 0) (
    some (false, r2.2)) (
    let x3 : Int32 := rI r2.2 (k0 + 5) 6
    (f_Re_sort k0 r2.2).bind fun r4 =>
    cif (r4.1 = ((1013 : Int32))) (
      let s5 : Mem := wI r4.2 k0 9 ((rI r4.2 k0 9) + ((1 : Int32)))
      (f_Re_either k0 ((0 : Int32)) s5).bind fun r6 =>
      cif ((b2i r6.1) = 0) (
        some (false, r6.2)) (
        (f_Re_take k0 ((59 : Int32)) r6.2).bind fun r7 =>
        cif ((b2i r7.1) = 0) (
          some (false, r7.2)) (
          (f_La_addLine (k0 + 5) v1 x1 x3 r7.2).bind fun r8 =>
          some (true, r8)))) (
      (f_Re_take k0 ((59 : Int32)) r4.2).bind fun r9 =>
      cif ((b2i r9.1) = 0) (
        some (false, r9.2)) (
        (f_La_addLine (k0 + 5) v1 x1 x3 r9.2).bind fun r10 =>
        some (true, r10))))
noncomputable def f_Re_lawLine : Nat → Int32 → Mem → Option (Bool × Mem) := Classical.choose (⟨b_Re_lawLine, rfl⟩ : ∃ f : Nat → Int32 → Mem → Option (Bool × Mem), f = b_Re_lawLine)
theorem f_Re_lawLine_eq : f_Re_lawLine = b_Re_lawLine := Classical.choose_spec (⟨b_Re_lawLine, rfl⟩ : ∃ f : Nat → Int32 → Mem → Option (Bool × Mem), f = b_Re_lawLine)
noncomputable def sm_Re_lawLine (O : Type) (av : List AV) (σ : Mem) (K : AV → Mem → Option O) : Option O := match av with
  | [.inr (.inr (5, k0)), .inl v1] => (f_Re_lawLine k0 v1 σ).bind fun r => K (.inl (b2i r.1)) r.2
  | _ => none
def c_Re_lawLine : List (List CE) := [[(0, .aload_n 0, 1, 0, 0, 0), (1, .getfield 28, 3, 5, 4, 0), (4, .getfield 168, 3, 2, 6, 0), (7, .istore_n 2, 1, 0, 0, 0), (8, .aload_n 0, 1, 0, 0, 0), (9, .invokevirtual 171, 3, 118, 1, 11), (12, .ifCond .ne 5, 3, 17, 0, 0), (15, .iconst 0, 1, 0, 0, 0)], [(16, .ireturn, 1, 0, 0, 0), (17, .aload_n 0, 1, 0, 0, 0), (18, .getfield 28, 3, 5, 4, 0), (21, .getfield 168, 3, 2, 6, 0), (24, .istore_n 3, 1, 0, 0, 0), (25, .aload_n 0, 1, 0, 0, 0), (26, .invokevirtual 115, 3, 113, 1, 11), (29, .sipush 1013, 3, 1013, 0, 0)], [(32, .if_icmp .ne 23, 3, 55, 0, 0), (35, .aload_n 0, 1, 0, 0, 0), (36, .dup, 1, 0, 0, 0), (37, .getfield 51, 3, 5, 9, 0), (40, .iconst 1, 1, 1, 0, 0), (41, .iadd, 1, 0, 0, 0), (42, .putfield 51, 3, 5, 9, 0), (45, .aload_n 0, 1, 0, 0, 0), (46, .iconst 0, 1, 0, 0, 0), (47, .invokevirtual 174, 3, 123, 2, 11)], [(50, .ifCond .ne 5, 3, 55, 0, 0), (53, .iconst 0, 1, 0, 0, 0), (54, .ireturn, 1, 0, 0, 0), (55, .aload_n 0, 1, 0, 0, 0), (56, .bipush 59, 2, 59, 0, 0), (58, .invokevirtual 145, 3, 125, 2, 11), (61, .ifCond .ne 5, 3, 66, 0, 0)], [(64, .iconst 0, 1, 0, 0, 0), (65, .ireturn, 1, 0, 0, 0), (66, .aload_n 0, 1, 0, 0, 0), (67, .getfield 28, 3, 5, 4, 0), (70, .iload_n 1, 1, 0, 0, 0), (71, .iload_n 2, 1, 0, 0, 0), (72, .iload_n 3, 1, 0, 0, 0), (73, .invokevirtual 177, 3, 126, 4, 4), (76, .iconst 1, 1, 1, 0, 0), (77, .ireturn, 1, 0, 0, 0)]]
set_option maxRecDepth 100000 in
theorem oc_Re_lawLine : okC 117 c_Re_lawLine = true := by decide +kernel
def cu_Re_lawLine : List (Nat × List Bool) := []
noncomputable def F_Re_lawLine (O : Type) (a : Nat) (av : List AV) (σ : Mem) (K : AV → Mem → Option O) : Option O := if a = 113 then sm_Re_sort O av σ K else if a = 118 then sm_Re_sum O av σ K else if a = 123 then sm_Re_either O av σ K else if a = 125 then sm_Re_take O av σ K else if a = 126 then sm_La_addLine O av σ K else none
theorem fs_Re_lawLine {X : CXT} (hX : XC X) (O : Type) : FS X 29 (F_Re_lawLine O) := by
  intro a av σ K o h
  unfold F_Re_lawLine at h
  rcases ite_s h with ⟨rfl, h⟩ | ⟨_, h⟩
  · obtain ⟨r, h1, h2, h3⟩ := ok_Re_sort hX _ _ _ _ _ h
    exact ⟨r, fun ht => ⟨1, by decide, h1 ht⟩, h2, h3⟩
  rcases ite_s h with ⟨rfl, h⟩ | ⟨_, h⟩
  · obtain ⟨r, h1, h2, h3⟩ := ok_Re_sum hX _ _ _ _ _ h
    exact ⟨r, fun ht => ⟨3, by decide, h1 ht⟩, h2, h3⟩
  rcases ite_s h with ⟨rfl, h⟩ | ⟨_, h⟩
  · obtain ⟨r, h1, h2, h3⟩ := ok_Re_either hX _ _ _ _ _ h
    exact ⟨r, fun ht => ⟨28, by decide, h1 ht⟩, h2, h3⟩
  rcases ite_s h with ⟨rfl, h⟩ | ⟨_, h⟩
  · obtain ⟨r, h1, h2, h3⟩ := ok_Re_take hX _ _ _ _ _ h
    exact ⟨r, fun ht => ⟨2, by decide, h1 ht⟩, h2, h3⟩
  rcases ite_s h with ⟨rfl, h⟩ | ⟨_, h⟩
  · obtain ⟨r, h1, h2, h3⟩ := ok_La_addLine hX _ _ _ _ _ h
    exact ⟨r, fun ht => ⟨2, by decide, h1 ht⟩, h2, h3⟩
  cases h
set_option maxRecDepth 100000 in
theorem s_Re_lawLine {X : CXT} (hX : XC X) : ∀ (k0 : Nat) (v1 : Int32) (s : Mem) (o : Bool × Mem), f_Re_lawLine k0 v1 s = some o → BSnd X 29 117 (ovZ o) 0 (entL [.inr (.inr (5, k0)), .inl v1]) [] s := by
  intro k0 v1 s o h
  rw [f_Re_lawLine_eq] at h
  exact evC (chs := c_Re_lawLine) (cuts := cu_Re_lawLine) (G := fun pc ls st σ => none) hX.2.1 hX.2.2 (F := F_Re_lawLine _) (fs_Re_lawLine hX _) (rt_Z rfl) oc_Re_lawLine (by
    intro pc ls st σ o h
    cases h) 212 0 _ _ _ _ h
theorem ok_Re_lawLine {X : CXT} (hX : XC X) : SemOK X 29 117 sm_Re_lawLine := by
  intro O av σ K o h
  unfold sm_Re_lawLine at h
  split at h
  · obtain ⟨r, hf, h⟩ := Option.bind_eq_some_iff.mp h
    exact ⟨ovZ r, fun ht => sp_of hX.1 (by decide) (List.mem_range.mpr (by decide)) (by decide +kernel) ht (Nat.le_of_ble_eq_true rfl) (s_Re_lawLine hX _ _ _ _ hf), trivial, h⟩
  · cases h
noncomputable def f_Re_readLaw_13 : Nat → Nat → Int32 → Mem → Option (Bool × Mem)
  | 0, _, _, _ => none
  | n + 1, k0, v1, s =>
    cif (((16 : Int32)) < v1) (
      some (true, s)) (
      (f_Re_sort k0 s).bind fun r1 =>
      cif (r1.1 = 0) (
        some (true, r1.2)) (
        (f_Re_sort k0 r1.2).bind fun r2 =>
        let x3 : Int32 := r2.1 - ((1000 : Int32))
        (f_La_isFull (k0 + 5) r2.2).bind fun r4 =>
        (f_Re_begin k0 ((1000 : Int32)) ((1002 : Int32)) (b2i r4.1) r4.2).bind fun r5 =>
        cif ((b2i r5.1) = 0) (
          some (false, r5.2)) (
          (f_Re_lawLine k0 x3 r5.2).bind fun r6 =>
          cif ((b2i r6.1) = 0) (
            some (false, r6.2)) (
            f_Re_readLaw_13 n k0 (v1 + (1 : Int32)) r6.2))))
noncomputable def b_Re_readLaw (k0 : Nat) (s : Mem) : Option (Bool × Mem) :=
  (f_Re_scan k0 s).bind fun r1 =>
  (f_La_clear (k0 + 5) r1).bind fun r2 =>
  f_Re_readLaw_13 FU k0 ((0 : Int32)) r2
noncomputable def f_Re_readLaw : Nat → Mem → Option (Bool × Mem) := Classical.choose (⟨b_Re_readLaw, rfl⟩ : ∃ f : Nat → Mem → Option (Bool × Mem), f = b_Re_readLaw)
theorem f_Re_readLaw_eq : f_Re_readLaw = b_Re_readLaw := Classical.choose_spec (⟨b_Re_readLaw, rfl⟩ : ∃ f : Nat → Mem → Option (Bool × Mem), f = b_Re_readLaw)
noncomputable def sm_Re_readLaw (O : Type) (av : List AV) (σ : Mem) (K : AV → Mem → Option O) : Option O := match av with
  | [.inr (.inr (5, k0))] => (f_Re_readLaw k0 σ).bind fun r => K (.inl (b2i r.1)) r.2
  | _ => none
def c_Re_readLaw : List (List CE) := [[(0, .aload_n 0, 1, 0, 0, 0), (1, .invokevirtual 125, 3, 75, 1, 10), (4, .aload_n 0, 1, 0, 0, 0), (5, .getfield 28, 3, 5, 4, 0), (8, .invokevirtual 162, 3, 112, 1, 4), (11, .iconst 0, 1, 0, 0, 0), (12, .istore_n 1, 1, 0, 0, 0), (13, .iload_n 1, 1, 0, 0, 0), (14, .bipush 16, 2, 16, 0, 0)], [(16, .if_icmp .gt 55, 3, 71, 0, 0), (19, .aload_n 0, 1, 0, 0, 0), (20, .invokevirtual 115, 3, 113, 1, 11), (23, .ifCond .eq 48, 3, 71, 0, 0), (26, .aload_n 0, 1, 0, 0, 0), (27, .invokevirtual 115, 3, 113, 1, 11), (30, .sipush 1000, 3, 1000, 0, 0)], [(33, .isub, 1, 0, 0, 0), (34, .istore_n 2, 1, 0, 0, 0), (35, .aload_n 0, 1, 0, 0, 0), (36, .sipush 1000, 3, 1000, 0, 0), (39, .sipush 1002, 3, 1002, 0, 0), (42, .aload_n 0, 1, 0, 0, 0), (43, .getfield 28, 3, 5, 4, 0), (46, .invokevirtual 164, 3, 114, 1, 5)], [(49, .invokevirtual 135, 3, 115, 4, 11), (52, .ifCond .eq 11, 3, 63, 0, 0), (55, .aload_n 0, 1, 0, 0, 0), (56, .iload_n 2, 1, 0, 0, 0), (57, .invokevirtual 165, 3, 117, 2, 11), (60, .ifCond .ne 5, 3, 65, 0, 0), (63, .iconst 0, 1, 0, 0, 0)], [(64, .ireturn, 1, 0, 0, 0), (65, .iinc 1 1, 3, 1, 0, 0), (68, .goto (-55), 3, 13, 0, 0), (71, .iconst 1, 1, 1, 0, 0), (72, .ireturn, 1, 0, 0, 0)]]
set_option maxRecDepth 100000 in
theorem oc_Re_readLaw : okC 74 c_Re_readLaw = true := by decide +kernel
def cu_Re_readLaw : List (Nat × List Bool) := [(13, [true, true])]
noncomputable def F_Re_readLaw (O : Type) (a : Nat) (av : List AV) (σ : Mem) (K : AV → Mem → Option O) : Option O := if a = 75 then sm_Re_scan O av σ K else if a = 112 then sm_La_clear O av σ K else if a = 113 then sm_Re_sort O av σ K else if a = 114 then sm_La_isFull O av σ K else if a = 115 then sm_Re_begin O av σ K else if a = 117 then sm_Re_lawLine O av σ K else none
theorem fs_Re_readLaw {X : CXT} (hX : XC X) (O : Type) : FS X 30 (F_Re_readLaw O) := by
  intro a av σ K o h
  unfold F_Re_readLaw at h
  rcases ite_s h with ⟨rfl, h⟩ | ⟨_, h⟩
  · obtain ⟨r, h1, h2, h3⟩ := ok_Re_scan hX _ _ _ _ _ h
    exact ⟨r, fun ht => ⟨8, by decide, h1 ht⟩, h2, h3⟩
  rcases ite_s h with ⟨rfl, h⟩ | ⟨_, h⟩
  · obtain ⟨r, h1, h2, h3⟩ := ok_La_clear hX _ _ _ _ _ h
    exact ⟨r, fun ht => ⟨1, by decide, h1 ht⟩, h2, h3⟩
  rcases ite_s h with ⟨rfl, h⟩ | ⟨_, h⟩
  · obtain ⟨r, h1, h2, h3⟩ := ok_Re_sort hX _ _ _ _ _ h
    exact ⟨r, fun ht => ⟨1, by decide, h1 ht⟩, h2, h3⟩
  rcases ite_s h with ⟨rfl, h⟩ | ⟨_, h⟩
  · obtain ⟨r, h1, h2, h3⟩ := ok_La_isFull hX _ _ _ _ _ h
    exact ⟨r, fun ht => ⟨1, by decide, h1 ht⟩, h2, h3⟩
  rcases ite_s h with ⟨rfl, h⟩ | ⟨_, h⟩
  · obtain ⟨r, h1, h2, h3⟩ := ok_Re_begin hX _ _ _ _ _ h
    exact ⟨r, fun ht => ⟨2, by decide, h1 ht⟩, h2, h3⟩
  rcases ite_s h with ⟨rfl, h⟩ | ⟨_, h⟩
  · obtain ⟨r, h1, h2, h3⟩ := ok_Re_lawLine hX _ _ _ _ _ h
    exact ⟨r, fun ht => ⟨29, by decide, h1 ht⟩, h2, h3⟩
  cases h
def hd_Re_readLaw_13 {O : Type} (g : Nat → Int32 → Mem → Option O) (ls : OL) (st : List AV) (σ : Mem) : Option O := match ls, st with
  | [some (.inr (.inr (5, k0))), some (.inl v1)], [] => g k0 v1 σ
  | _, _ => none
theorem hs_Re_readLaw_13 {X : CXT} {g : Nat → Int32 → Mem → Option (Bool × Mem)} (hg : ∀ (k0 : Nat) (v1 : Int32) (s : Mem) (o : Bool × Mem), g k0 v1 s = some o → BSnd X 30 74 (ovZ o) 13 [some (.inr (.inr (5, k0))), some (.inl v1)] [] s) : ∀ ls st σ o, hd_Re_readLaw_13 g ls st σ = some o → BSnd X 30 74 (ovZ o) 13 ls st σ := by
  intro ls st σ o h
  unfold hd_Re_readLaw_13 at h
  split at h
  · exact hg _ _ _ _ h
  · cases h
set_option maxRecDepth 100000 in
theorem s_Re_readLaw_13 {X : CXT} (hX : XC X) : ∀ n : Nat, ∀ (k0 : Nat) (v1 : Int32) (s : Mem) (o : Bool × Mem), f_Re_readLaw_13 n k0 v1 s = some o → BSnd X 30 74 (ovZ o) 13 [some (.inr (.inr (5, k0))), some (.inl v1)] [] s := by
  intro n
  induction n with
  | zero => intro k0 v1 s o h; cases h
  | succ n ih =>
    intro k0 v1 s o h
    exact evC (chs := c_Re_readLaw) (cuts := cu_Re_readLaw) (G := fun pc ls st σ => if pc = 13 then hd_Re_readLaw_13 (fun k0 v1 s => f_Re_readLaw_13 n k0 v1 s) ls st σ else none) hX.2.1 hX.2.2 (F := F_Re_readLaw _) (fs_Re_readLaw hX _) (rt_Z rfl) oc_Re_readLaw (by
    intro pc ls st σ o h
    rcases ite_s h with ⟨rfl, h⟩ | ⟨_, h⟩
    · exact hs_Re_readLaw_13 ih _ _ _ _ h
    cases h) 184 13 _ _ _ _ h
set_option maxRecDepth 100000 in
theorem s_Re_readLaw {X : CXT} (hX : XC X) : ∀ (k0 : Nat) (s : Mem) (o : Bool × Mem), f_Re_readLaw k0 s = some o → BSnd X 30 74 (ovZ o) 0 (entL [.inr (.inr (5, k0))]) [] s := by
  intro k0 s o h
  rw [f_Re_readLaw_eq] at h
  exact evC (chs := c_Re_readLaw) (cuts := cu_Re_readLaw) (G := fun pc ls st σ => if pc = 13 then hd_Re_readLaw_13 (fun k0 v1 s => f_Re_readLaw_13 FU k0 v1 s) ls st σ else none) hX.2.1 hX.2.2 (F := F_Re_readLaw _) (fs_Re_readLaw hX _) (rt_Z rfl) oc_Re_readLaw (by
    intro pc ls st σ o h
    rcases ite_s h with ⟨rfl, h⟩ | ⟨_, h⟩
    · exact hs_Re_readLaw_13 (s_Re_readLaw_13 hX FU) _ _ _ _ h
    cases h) 184 0 _ _ _ _ h
theorem ok_Re_readLaw {X : CXT} (hX : XC X) : SemOK X 30 74 sm_Re_readLaw := by
  intro O av σ K o h
  unfold sm_Re_readLaw at h
  split at h
  · obtain ⟨r, hf, h⟩ := Option.bind_eq_some_iff.mp h
    exact ⟨ovZ r, fun ht => sp_of hX.1 (by decide) (List.mem_range.mpr (by decide)) (by decide +kernel) ht (Nat.le_of_ble_eq_true rfl) (s_Re_readLaw hX _ _ _ hf), trivial, h⟩
  · cases h
noncomputable def f_La_copyFrom_2 (K62 : Nat → Nat → Mem → Option (Mem)) : Nat → Nat → Nat → Int32 → Mem → Option (Mem)
  | 0, _, _, _, _ => none
  | n + 1, k0, k1, v2, s =>
    cif (((16 : Int32)) ≤ v2) (
      K62 k0 k1 s) (
      gd (inb v2 (lenC (k1 + 1))) <|
      gd (inb v2 (lenC (k0 + 1))) <|
      let s1 : Mem := wI s (k0 + 1) (ix v2) (rI s (k1 + 1) (ix v2))
      gd (inb v2 (lenC (k1 + 2))) <|
      gd (inb v2 (lenC (k0 + 2))) <|
      let s2 : Mem := wI s1 (k0 + 2) (ix v2) (rI s1 (k1 + 2) (ix v2))
      gd (inb v2 (lenC (k1 + 3))) <|
      gd (inb v2 (lenC (k0 + 3))) <|
      let s3 : Mem := wI s2 (k0 + 3) (ix v2) (rI s2 (k1 + 3) (ix v2))
      gd (inb v2 (lenC (k1 + 4))) <|
      gd (inb v2 (lenC (k0 + 4))) <|
      let s4 : Mem := wI s3 (k0 + 4) (ix v2) (rI s3 (k1 + 4) (ix v2))
      f_La_copyFrom_2 K62 n k0 k1 (v2 + (1 : Int32)) s4)
noncomputable def f_La_copyFrom_64 (K100 : Nat → Nat → Mem → Option (Mem)) : Nat → Nat → Nat → Int32 → Mem → Option (Mem)
  | 0, _, _, _, _ => none
  | n + 1, k0, k1, v2, s =>
    cif ((Int32.ofNat (lenC (k0 + 5))) ≤ v2) (
      K100 k0 k1 s) (
      cif ((Int32.ofNat (lenC (k1 + 5))) ≤ v2) (
        K100 k0 k1 s) (
        gd (inb v2 (lenC (k1 + 5))) <|
        gd (inb v2 (lenC (k0 + 5))) <|
        let s1 : Mem := wI s (k0 + 5) (ix v2) (rI s (k1 + 5) (ix v2))
        f_La_copyFrom_64 K100 n k0 k1 (v2 + (1 : Int32)) s1))
noncomputable def f_La_copyFrom_100 (k0 : Nat) (k1 : Nat) (s : Mem) : Option (Mem) :=
  let s1 : Mem := wI s k0 6 (rI s k1 6)
  let s2 : Mem := wI s1 k0 7 (rI s1 k1 7)
  some s2
noncomputable def f_La_copyFrom_62 (k0 : Nat) (k1 : Nat) (s : Mem) : Option (Mem) :=
  f_La_copyFrom_64 (fun k0 k1 s => f_La_copyFrom_100 k0 k1 s) FU k0 k1 ((0 : Int32)) s
noncomputable def b_La_copyFrom (k0 : Nat) (k1 : Nat) (s : Mem) : Option (Mem) :=
  f_La_copyFrom_2 (fun k0 k1 s => f_La_copyFrom_62 k0 k1 s) FU k0 k1 ((0 : Int32)) s
noncomputable def f_La_copyFrom : Nat → Nat → Mem → Option (Mem) := Classical.choose (⟨b_La_copyFrom, rfl⟩ : ∃ f : Nat → Nat → Mem → Option (Mem), f = b_La_copyFrom)
theorem f_La_copyFrom_eq : f_La_copyFrom = b_La_copyFrom := Classical.choose_spec (⟨b_La_copyFrom, rfl⟩ : ∃ f : Nat → Nat → Mem → Option (Mem), f = b_La_copyFrom)
noncomputable def sm_La_copyFrom (O : Type) (av : List AV) (σ : Mem) (K : AV → Mem → Option O) : Option O := match av with
  | [.inr (.inr (2, k0)), .inr (.inr (2, k1))] => (f_La_copyFrom k0 k1 σ).bind fun r => K (.inl 0) r
  | _ => none
def c_La_copyFrom : List (List CE) := [[(0, .iconst 0, 1, 0, 0, 0), (1, .istore_n 2, 1, 0, 0, 0), (2, .iload_n 2, 1, 0, 0, 0), (3, .bipush 16, 2, 16, 0, 0), (5, .if_icmp .ge 57, 3, 62, 0, 0), (8, .aload_n 0, 1, 0, 0, 0), (9, .getfield 9, 3, 2, 0, 0), (12, .iload_n 2, 1, 0, 0, 0), (13, .aload_n 1, 1, 0, 0, 0), (14, .getfield 9, 3, 2, 0, 0)], [(17, .iload_n 2, 1, 0, 0, 0), (18, .iaload, 1, 0, 0, 0), (19, .iastore, 1, 0, 0, 0), (20, .aload_n 0, 1, 0, 0, 0), (21, .getfield 15, 3, 2, 1, 0), (24, .iload_n 2, 1, 0, 0, 0), (25, .aload_n 1, 1, 0, 0, 0), (26, .getfield 15, 3, 2, 1, 0), (29, .iload_n 2, 1, 0, 0, 0), (30, .iaload, 1, 0, 0, 0), (31, .iastore, 1, 0, 0, 0)], [(32, .aload_n 0, 1, 0, 0, 0), (33, .getfield 18, 3, 2, 2, 0), (36, .iload_n 2, 1, 0, 0, 0), (37, .aload_n 1, 1, 0, 0, 0), (38, .getfield 18, 3, 2, 2, 0), (41, .iload_n 2, 1, 0, 0, 0), (42, .iaload, 1, 0, 0, 0), (43, .iastore, 1, 0, 0, 0), (44, .aload_n 0, 1, 0, 0, 0), (45, .getfield 21, 3, 2, 3, 0)], [(48, .iload_n 2, 1, 0, 0, 0), (49, .aload_n 1, 1, 0, 0, 0), (50, .getfield 21, 3, 2, 3, 0), (53, .iload_n 2, 1, 0, 0, 0), (54, .iaload, 1, 0, 0, 0), (55, .iastore, 1, 0, 0, 0), (56, .iinc 2 1, 3, 1, 0, 0), (59, .goto (-57), 3, 2, 0, 0), (62, .iconst 0, 1, 0, 0, 0), (63, .istore_n 2, 1, 0, 0, 0)], [(64, .iload_n 2, 1, 0, 0, 0), (65, .aload_n 0, 1, 0, 0, 0), (66, .getfield 24, 3, 2, 4, 0), (69, .arraylength, 1, 0, 0, 0), (70, .if_icmp .ge 30, 3, 100, 0, 0), (73, .iload_n 2, 1, 0, 0, 0), (74, .aload_n 1, 1, 0, 0, 0), (75, .getfield 24, 3, 2, 4, 0), (78, .arraylength, 1, 0, 0, 0), (79, .if_icmp .ge 21, 3, 100, 0, 0)], [(82, .aload_n 0, 1, 0, 0, 0), (83, .getfield 24, 3, 2, 4, 0), (86, .iload_n 2, 1, 0, 0, 0), (87, .aload_n 1, 1, 0, 0, 0), (88, .getfield 24, 3, 2, 4, 0), (91, .iload_n 2, 1, 0, 0, 0), (92, .iaload, 1, 0, 0, 0), (93, .iastore, 1, 0, 0, 0), (94, .iinc 2 1, 3, 1, 0, 0)], [(97, .goto (-33), 3, 64, 0, 0), (100, .aload_n 0, 1, 0, 0, 0), (101, .aload_n 1, 1, 0, 0, 0), (102, .getfield 30, 3, 2, 6, 0), (105, .putfield 30, 3, 2, 6, 0), (108, .aload_n 0, 1, 0, 0, 0), (109, .aload_n 1, 1, 0, 0, 0), (110, .getfield 34, 3, 2, 7, 0)], [(113, .putfield 34, 3, 2, 7, 0), (116, .return_, 1, 0, 0, 0)]]
set_option maxRecDepth 100000 in
theorem oc_La_copyFrom : okC 128 c_La_copyFrom = true := by decide +kernel
def cu_La_copyFrom : List (Nat × List Bool) := [(2, [true, true, true]), (64, [true, true, true]), (100, [true, true]), (62, [true, true])]
noncomputable def F_La_copyFrom (O : Type) (a : Nat) (av : List AV) (σ : Mem) (K : AV → Mem → Option O) : Option O := none
theorem fs_La_copyFrom {X : CXT} (hX : XC X) (O : Type) : FS X 1 (F_La_copyFrom O) := by
  intro a av σ K o h
  cases h
def hd_La_copyFrom_2 {O : Type} (g : Nat → Nat → Int32 → Mem → Option O) (ls : OL) (st : List AV) (σ : Mem) : Option O := match ls, st with
  | [some (.inr (.inr (2, k0))), some (.inr (.inr (2, k1))), some (.inl v2)], [] => g k0 k1 v2 σ
  | _, _ => none
theorem hs_La_copyFrom_2 {X : CXT} {g : Nat → Nat → Int32 → Mem → Option (Mem)} (hg : ∀ (k0 : Nat) (k1 : Nat) (v2 : Int32) (s : Mem) (o : Mem), g k0 k1 v2 s = some o → BSnd X 1 128 (ovV o) 2 [some (.inr (.inr (2, k0))), some (.inr (.inr (2, k1))), some (.inl v2)] [] s) : ∀ ls st σ o, hd_La_copyFrom_2 g ls st σ = some o → BSnd X 1 128 (ovV o) 2 ls st σ := by
  intro ls st σ o h
  unfold hd_La_copyFrom_2 at h
  split at h
  · exact hg _ _ _ _ _ h
  · cases h
def hd_La_copyFrom_64 {O : Type} (g : Nat → Nat → Int32 → Mem → Option O) (ls : OL) (st : List AV) (σ : Mem) : Option O := match ls, st with
  | [some (.inr (.inr (2, k0))), some (.inr (.inr (2, k1))), some (.inl v2)], [] => g k0 k1 v2 σ
  | _, _ => none
theorem hs_La_copyFrom_64 {X : CXT} {g : Nat → Nat → Int32 → Mem → Option (Mem)} (hg : ∀ (k0 : Nat) (k1 : Nat) (v2 : Int32) (s : Mem) (o : Mem), g k0 k1 v2 s = some o → BSnd X 1 128 (ovV o) 64 [some (.inr (.inr (2, k0))), some (.inr (.inr (2, k1))), some (.inl v2)] [] s) : ∀ ls st σ o, hd_La_copyFrom_64 g ls st σ = some o → BSnd X 1 128 (ovV o) 64 ls st σ := by
  intro ls st σ o h
  unfold hd_La_copyFrom_64 at h
  split at h
  · exact hg _ _ _ _ _ h
  · cases h
def hd_La_copyFrom_100 {O : Type} (g : Nat → Nat → Mem → Option O) (ls : OL) (st : List AV) (σ : Mem) : Option O := match ls, st with
  | [some (.inr (.inr (2, k0))), some (.inr (.inr (2, k1)))], [] => g k0 k1 σ
  | _, _ => none
theorem hs_La_copyFrom_100 {X : CXT} {g : Nat → Nat → Mem → Option (Mem)} (hg : ∀ (k0 : Nat) (k1 : Nat) (s : Mem) (o : Mem), g k0 k1 s = some o → BSnd X 1 128 (ovV o) 100 [some (.inr (.inr (2, k0))), some (.inr (.inr (2, k1)))] [] s) : ∀ ls st σ o, hd_La_copyFrom_100 g ls st σ = some o → BSnd X 1 128 (ovV o) 100 ls st σ := by
  intro ls st σ o h
  unfold hd_La_copyFrom_100 at h
  split at h
  · exact hg _ _ _ _ h
  · cases h
def hd_La_copyFrom_62 {O : Type} (g : Nat → Nat → Mem → Option O) (ls : OL) (st : List AV) (σ : Mem) : Option O := match ls, st with
  | [some (.inr (.inr (2, k0))), some (.inr (.inr (2, k1)))], [] => g k0 k1 σ
  | _, _ => none
theorem hs_La_copyFrom_62 {X : CXT} {g : Nat → Nat → Mem → Option (Mem)} (hg : ∀ (k0 : Nat) (k1 : Nat) (s : Mem) (o : Mem), g k0 k1 s = some o → BSnd X 1 128 (ovV o) 62 [some (.inr (.inr (2, k0))), some (.inr (.inr (2, k1)))] [] s) : ∀ ls st σ o, hd_La_copyFrom_62 g ls st σ = some o → BSnd X 1 128 (ovV o) 62 ls st σ := by
  intro ls st σ o h
  unfold hd_La_copyFrom_62 at h
  split at h
  · exact hg _ _ _ _ h
  · cases h
set_option maxRecDepth 100000 in
theorem s_La_copyFrom_2 {X : CXT} (hX : XC X) {K62 : Nat → Nat → Mem → Option (Mem)} (hK62 : ∀ (k0 : Nat) (k1 : Nat) (s : Mem) (o : Mem), K62 k0 k1 s = some o → BSnd X 1 128 (ovV o) 62 [some (.inr (.inr (2, k0))), some (.inr (.inr (2, k1)))] [] s) : ∀ n : Nat, ∀ (k0 : Nat) (k1 : Nat) (v2 : Int32) (s : Mem) (o : Mem), f_La_copyFrom_2 K62 n k0 k1 v2 s = some o → BSnd X 1 128 (ovV o) 2 [some (.inr (.inr (2, k0))), some (.inr (.inr (2, k1))), some (.inl v2)] [] s := by
  intro n
  induction n with
  | zero => intro k0 k1 v2 s o h; cases h
  | succ n ih =>
    intro k0 k1 v2 s o h
    exact evC (chs := c_La_copyFrom) (cuts := cu_La_copyFrom) (G := fun pc ls st σ => if pc = 2 then hd_La_copyFrom_2 (fun k0 k1 v2 s => f_La_copyFrom_2 K62 n k0 k1 v2 s) ls st σ else if pc = 62 then hd_La_copyFrom_62 (fun k0 k1 s => K62 k0 k1 s) ls st σ else none) hX.2.1 hX.2.2 (F := F_La_copyFrom _) (fs_La_copyFrom hX _) (rt_V rfl) oc_La_copyFrom (by
    intro pc ls st σ o h
    rcases ite_s h with ⟨rfl, h⟩ | ⟨_, h⟩
    · exact hs_La_copyFrom_2 ih _ _ _ _ h
    rcases ite_s h with ⟨rfl, h⟩ | ⟨_, h⟩
    · exact hs_La_copyFrom_62 hK62 _ _ _ _ h
    cases h) 320 2 _ _ _ _ h
set_option maxRecDepth 100000 in
theorem s_La_copyFrom_64 {X : CXT} (hX : XC X) {K100 : Nat → Nat → Mem → Option (Mem)} (hK100 : ∀ (k0 : Nat) (k1 : Nat) (s : Mem) (o : Mem), K100 k0 k1 s = some o → BSnd X 1 128 (ovV o) 100 [some (.inr (.inr (2, k0))), some (.inr (.inr (2, k1)))] [] s) : ∀ n : Nat, ∀ (k0 : Nat) (k1 : Nat) (v2 : Int32) (s : Mem) (o : Mem), f_La_copyFrom_64 K100 n k0 k1 v2 s = some o → BSnd X 1 128 (ovV o) 64 [some (.inr (.inr (2, k0))), some (.inr (.inr (2, k1))), some (.inl v2)] [] s := by
  intro n
  induction n with
  | zero => intro k0 k1 v2 s o h; cases h
  | succ n ih =>
    intro k0 k1 v2 s o h
    exact evC (chs := c_La_copyFrom) (cuts := cu_La_copyFrom) (G := fun pc ls st σ => if pc = 64 then hd_La_copyFrom_64 (fun k0 k1 v2 s => f_La_copyFrom_64 K100 n k0 k1 v2 s) ls st σ else if pc = 100 then hd_La_copyFrom_100 (fun k0 k1 s => K100 k0 k1 s) ls st σ else none) hX.2.1 hX.2.2 (F := F_La_copyFrom _) (fs_La_copyFrom hX _) (rt_V rfl) oc_La_copyFrom (by
    intro pc ls st σ o h
    rcases ite_s h with ⟨rfl, h⟩ | ⟨_, h⟩
    · exact hs_La_copyFrom_64 ih _ _ _ _ h
    rcases ite_s h with ⟨rfl, h⟩ | ⟨_, h⟩
    · exact hs_La_copyFrom_100 hK100 _ _ _ _ h
    cases h) 320 64 _ _ _ _ h
set_option maxRecDepth 100000 in
theorem s_La_copyFrom_100 {X : CXT} (hX : XC X) : ∀ (k0 : Nat) (k1 : Nat) (s : Mem) (o : Mem), f_La_copyFrom_100 k0 k1 s = some o → BSnd X 1 128 (ovV o) 100 [some (.inr (.inr (2, k0))), some (.inr (.inr (2, k1)))] [] s := by
  intro k0 k1 s o h
  exact evC (chs := c_La_copyFrom) (cuts := cu_La_copyFrom) (G := fun pc ls st σ => none) hX.2.1 hX.2.2 (F := F_La_copyFrom _) (fs_La_copyFrom hX _) (rt_V rfl) oc_La_copyFrom (by
    intro pc ls st σ o h
    cases h) 320 100 _ _ _ _ h
set_option maxRecDepth 100000 in
theorem s_La_copyFrom_62 {X : CXT} (hX : XC X) : ∀ (k0 : Nat) (k1 : Nat) (s : Mem) (o : Mem), f_La_copyFrom_62 k0 k1 s = some o → BSnd X 1 128 (ovV o) 62 [some (.inr (.inr (2, k0))), some (.inr (.inr (2, k1)))] [] s := by
  intro k0 k1 s o h
  exact evC (chs := c_La_copyFrom) (cuts := cu_La_copyFrom) (G := fun pc ls st σ => if pc = 64 then hd_La_copyFrom_64 (fun k0 k1 v2 s => f_La_copyFrom_64 (fun k0 k1 s => f_La_copyFrom_100 k0 k1 s) FU k0 k1 v2 s) ls st σ else if pc = 100 then hd_La_copyFrom_100 (fun k0 k1 s => f_La_copyFrom_100 k0 k1 s) ls st σ else none) hX.2.1 hX.2.2 (F := F_La_copyFrom _) (fs_La_copyFrom hX _) (rt_V rfl) oc_La_copyFrom (by
    intro pc ls st σ o h
    rcases ite_s h with ⟨rfl, h⟩ | ⟨_, h⟩
    · exact hs_La_copyFrom_64 (s_La_copyFrom_64 hX (s_La_copyFrom_100 hX) FU) _ _ _ _ h
    rcases ite_s h with ⟨rfl, h⟩ | ⟨_, h⟩
    · exact hs_La_copyFrom_100 (s_La_copyFrom_100 hX) _ _ _ _ h
    cases h) 320 62 _ _ _ _ h
set_option maxRecDepth 100000 in
theorem s_La_copyFrom {X : CXT} (hX : XC X) : ∀ (k0 : Nat) (k1 : Nat) (s : Mem) (o : Mem), f_La_copyFrom k0 k1 s = some o → BSnd X 1 128 (ovV o) 0 (entL [.inr (.inr (2, k0)), .inr (.inr (2, k1))]) [] s := by
  intro k0 k1 s o h
  rw [f_La_copyFrom_eq] at h
  exact evC (chs := c_La_copyFrom) (cuts := cu_La_copyFrom) (G := fun pc ls st σ => if pc = 2 then hd_La_copyFrom_2 (fun k0 k1 v2 s => f_La_copyFrom_2 (fun k0 k1 s => f_La_copyFrom_62 k0 k1 s) FU k0 k1 v2 s) ls st σ else if pc = 62 then hd_La_copyFrom_62 (fun k0 k1 s => f_La_copyFrom_62 k0 k1 s) ls st σ else none) hX.2.1 hX.2.2 (F := F_La_copyFrom _) (fs_La_copyFrom hX _) (rt_V rfl) oc_La_copyFrom (by
    intro pc ls st σ o h
    rcases ite_s h with ⟨rfl, h⟩ | ⟨_, h⟩
    · exact hs_La_copyFrom_2 (s_La_copyFrom_2 hX (s_La_copyFrom_62 hX) FU) _ _ _ _ h
    rcases ite_s h with ⟨rfl, h⟩ | ⟨_, h⟩
    · exact hs_La_copyFrom_62 (s_La_copyFrom_62 hX) _ _ _ _ h
    cases h) 320 0 _ _ _ _ h
theorem ok_La_copyFrom {X : CXT} (hX : XC X) : SemOK X 1 128 sm_La_copyFrom := by
  intro O av σ K o h
  unfold sm_La_copyFrom at h
  split at h
  · obtain ⟨r, hf, h⟩ := Option.bind_eq_some_iff.mp h
    exact ⟨ovV r, fun ht => sp_of hX.1 (by decide) (List.mem_range.mpr (by decide)) (by decide +kernel) ht (Nat.le_of_ble_eq_true rfl) (s_La_copyFrom hX _ _ _ _ hf), trivial, h⟩
  · cases h
noncomputable def b_To_tellLaw (k0 : Nat) (k1 : Nat) (s : Mem) : Option (Int32 × Mem) :=
  (f_La_copyFrom (k0 + 4) k1 s).bind fun r1 =>
  some (rI r1 (k0 + 4) 7, r1)
noncomputable def f_To_tellLaw : Nat → Nat → Mem → Option (Int32 × Mem) := Classical.choose (⟨b_To_tellLaw, rfl⟩ : ∃ f : Nat → Nat → Mem → Option (Int32 × Mem), f = b_To_tellLaw)
theorem f_To_tellLaw_eq : f_To_tellLaw = b_To_tellLaw := Classical.choose_spec (⟨b_To_tellLaw, rfl⟩ : ∃ f : Nat → Nat → Mem → Option (Int32 × Mem), f = b_To_tellLaw)
noncomputable def sm_To_tellLaw (O : Type) (av : List AV) (σ : Mem) (K : AV → Mem → Option O) : Option O := match av with
  | [.inr (.inr (8, k0)), .inr (.inr (2, k1))] => (f_To_tellLaw k0 k1 σ).bind fun r => K (.inl r.1) r.2
  | _ => none
def c_To_tellLaw : List (List CE) := [[(0, .aload_n 0, 1, 0, 0, 0), (1, .getfield 24, 3, 8, 3, 0), (4, .aload_n 1, 1, 0, 0, 0), (5, .invokevirtual 53, 3, 128, 2, 4), (8, .aload_n 0, 1, 0, 0, 0), (9, .getfield 24, 3, 8, 3, 0), (12, .getfield 71, 3, 2, 7, 0), (15, .ireturn, 1, 0, 0, 0)]]
set_option maxRecDepth 100000 in
theorem oc_To_tellLaw : okC 127 c_To_tellLaw = true := by decide +kernel
def cu_To_tellLaw : List (Nat × List Bool) := []
noncomputable def F_To_tellLaw (O : Type) (a : Nat) (av : List AV) (σ : Mem) (K : AV → Mem → Option O) : Option O := if a = 128 then sm_La_copyFrom O av σ K else none
theorem fs_To_tellLaw {X : CXT} (hX : XC X) (O : Type) : FS X 2 (F_To_tellLaw O) := by
  intro a av σ K o h
  unfold F_To_tellLaw at h
  rcases ite_s h with ⟨rfl, h⟩ | ⟨_, h⟩
  · obtain ⟨r, h1, h2, h3⟩ := ok_La_copyFrom hX _ _ _ _ _ h
    exact ⟨r, fun ht => ⟨1, by decide, h1 ht⟩, h2, h3⟩
  cases h
set_option maxRecDepth 100000 in
theorem s_To_tellLaw {X : CXT} (hX : XC X) : ∀ (k0 : Nat) (k1 : Nat) (s : Mem) (o : Int32 × Mem), f_To_tellLaw k0 k1 s = some o → BSnd X 2 127 (ovI o) 0 (entL [.inr (.inr (8, k0)), .inr (.inr (2, k1))]) [] s := by
  intro k0 k1 s o h
  rw [f_To_tellLaw_eq] at h
  exact evC (chs := c_To_tellLaw) (cuts := cu_To_tellLaw) (G := fun pc ls st σ => none) hX.2.1 hX.2.2 (F := F_To_tellLaw _) (fs_To_tellLaw hX _) (rt_I rfl) oc_To_tellLaw (by
    intro pc ls st σ o h
    cases h) 72 0 _ _ _ _ h
theorem ok_To_tellLaw {X : CXT} (hX : XC X) : SemOK X 2 127 sm_To_tellLaw := by
  intro O av σ K o h
  unfold sm_To_tellLaw at h
  split at h
  · obtain ⟨r, hf, h⟩ := Option.bind_eq_some_iff.mp h
    exact ⟨ovI r, fun ht => sp_of hX.1 (by decide) (List.mem_range.mpr (by decide)) (by decide +kernel) ht (Nat.le_of_ble_eq_true rfl) (s_To_tellLaw hX _ _ _ _ hf), trivial, h⟩
  · cases h
noncomputable def b_Ro_clear (k0 : Nat) (s : Mem) : Option (Int32 × Mem) :=
  let s1 : Mem := wI s k0 3 ((0 : Int32))
  some ((0 : Int32), s1)
noncomputable def f_Ro_clear : Nat → Mem → Option (Int32 × Mem) := Classical.choose (⟨b_Ro_clear, rfl⟩ : ∃ f : Nat → Mem → Option (Int32 × Mem), f = b_Ro_clear)
theorem f_Ro_clear_eq : f_Ro_clear = b_Ro_clear := Classical.choose_spec (⟨b_Ro_clear, rfl⟩ : ∃ f : Nat → Mem → Option (Int32 × Mem), f = b_Ro_clear)
noncomputable def sm_Ro_clear (O : Type) (av : List AV) (σ : Mem) (K : AV → Mem → Option O) : Option O := match av with
  | [.inr (.inr (6, k0))] => (f_Ro_clear k0 σ).bind fun r => K (.inl r.1) r.2
  | _ => none
def c_Ro_clear : List (List CE) := [[(0, .aload_n 0, 1, 0, 0, 0), (1, .iconst 0, 1, 0, 0, 0), (2, .putfield 9, 3, 6, 3, 0), (5, .iconst 0, 1, 0, 0, 0), (6, .ireturn, 1, 0, 0, 0)]]
set_option maxRecDepth 100000 in
theorem oc_Ro_clear : okC 130 c_Ro_clear = true := by decide +kernel
def cu_Ro_clear : List (Nat × List Bool) := []
noncomputable def F_Ro_clear (O : Type) (a : Nat) (av : List AV) (σ : Mem) (K : AV → Mem → Option O) : Option O := none
theorem fs_Ro_clear {X : CXT} (hX : XC X) (O : Type) : FS X 1 (F_Ro_clear O) := by
  intro a av σ K o h
  cases h
set_option maxRecDepth 100000 in
theorem s_Ro_clear {X : CXT} (hX : XC X) : ∀ (k0 : Nat) (s : Mem) (o : Int32 × Mem), f_Ro_clear k0 s = some o → BSnd X 1 130 (ovI o) 0 (entL [.inr (.inr (6, k0))]) [] s := by
  intro k0 s o h
  rw [f_Ro_clear_eq] at h
  exact evC (chs := c_Ro_clear) (cuts := cu_Ro_clear) (G := fun pc ls st σ => none) hX.2.1 hX.2.2 (F := F_Ro_clear _) (fs_Ro_clear hX _) (rt_I rfl) oc_Ro_clear (by
    intro pc ls st σ o h
    cases h) 60 0 _ _ _ _ h
theorem ok_Ro_clear {X : CXT} (hX : XC X) : SemOK X 1 130 sm_Ro_clear := by
  intro O av σ K o h
  unfold sm_Ro_clear at h
  split at h
  · obtain ⟨r, hf, h⟩ := Option.bind_eq_some_iff.mp h
    exact ⟨ovI r, fun ht => sp_of hX.1 (by decide) (List.mem_range.mpr (by decide)) (by decide +kernel) ht (Nat.le_of_ble_eq_true rfl) (s_Ro_clear hX _ _ _ hf), trivial, h⟩
  · cases h
noncomputable def b_Ro_isFull (k0 : Nat) (s : Mem) : Option (Bool × Mem) :=
  cif ((rI s k0 3) < (Int32.ofNat (lenC (k0 + 1)))) (
    some (false, s)) (
    some (true, s))
noncomputable def f_Ro_isFull : Nat → Mem → Option (Bool × Mem) := Classical.choose (⟨b_Ro_isFull, rfl⟩ : ∃ f : Nat → Mem → Option (Bool × Mem), f = b_Ro_isFull)
theorem f_Ro_isFull_eq : f_Ro_isFull = b_Ro_isFull := Classical.choose_spec (⟨b_Ro_isFull, rfl⟩ : ∃ f : Nat → Mem → Option (Bool × Mem), f = b_Ro_isFull)
noncomputable def sm_Ro_isFull (O : Type) (av : List AV) (σ : Mem) (K : AV → Mem → Option O) : Option O := match av with
  | [.inr (.inr (6, k0))] => (f_Ro_isFull k0 σ).bind fun r => K (.inl (b2i r.1)) r.2
  | _ => none
def c_Ro_isFull : List (List CE) := [[(0, .aload_n 0, 1, 0, 0, 0), (1, .getfield 9, 3, 6, 3, 0), (4, .aload_n 0, 1, 0, 0, 0), (5, .getfield 21, 3, 6, 0, 0), (8, .arraylength, 1, 0, 0, 0), (9, .if_icmp .lt 7, 3, 16, 0, 0), (12, .iconst 1, 1, 1, 0, 0), (13, .goto 4, 3, 17, 0, 0)], [(16, .iconst 0, 1, 0, 0, 0), (17, .ireturn, 1, 0, 0, 0)]]
set_option maxRecDepth 100000 in
theorem oc_Ro_isFull : okC 131 c_Ro_isFull = true := by decide +kernel
def cu_Ro_isFull : List (Nat × List Bool) := []
noncomputable def F_Ro_isFull (O : Type) (a : Nat) (av : List AV) (σ : Mem) (K : AV → Mem → Option O) : Option O := none
theorem fs_Ro_isFull {X : CXT} (hX : XC X) (O : Type) : FS X 1 (F_Ro_isFull O) := by
  intro a av σ K o h
  cases h
set_option maxRecDepth 100000 in
theorem s_Ro_isFull {X : CXT} (hX : XC X) : ∀ (k0 : Nat) (s : Mem) (o : Bool × Mem), f_Ro_isFull k0 s = some o → BSnd X 1 131 (ovZ o) 0 (entL [.inr (.inr (6, k0))]) [] s := by
  intro k0 s o h
  rw [f_Ro_isFull_eq] at h
  exact evC (chs := c_Ro_isFull) (cuts := cu_Ro_isFull) (G := fun pc ls st σ => none) hX.2.1 hX.2.2 (F := F_Ro_isFull _) (fs_Ro_isFull hX _) (rt_Z rfl) oc_Ro_isFull (by
    intro pc ls st σ o h
    cases h) 80 0 _ _ _ _ h
theorem ok_Ro_isFull {X : CXT} (hX : XC X) : SemOK X 1 131 sm_Ro_isFull := by
  intro O av σ K o h
  unfold sm_Ro_isFull at h
  split at h
  · obtain ⟨r, hf, h⟩ := Option.bind_eq_some_iff.mp h
    exact ⟨ovZ r, fun ht => sp_of hX.1 (by decide) (List.mem_range.mpr (by decide)) (by decide +kernel) ht (Nat.le_of_ble_eq_true rfl) (s_Ro_isFull hX _ _ _ hf), trivial, h⟩
  · cases h
noncomputable def b_Re_takeNumber (k0 : Nat) (v1 : Int32) (s : Mem) : Option (Int32 × Mem) :=
  (f_Re_sort k0 s).bind fun r1 =>
  cif (r1.1 = ((256 : Int32))) (
    (f_Re_value k0 r1.2).bind fun r2 =>
    cif (r2.1 ≤ v1) (
      let s3 : Mem := wI r2.2 k0 9 ((rI r2.2 k0 9) + ((1 : Int32)))
      some (r2.1, s3)) (
      (f_Re_fail k0 ((2 : Int32)) r2.2).bind fun r4 =>
      some ((-1 : Int32), r4.2))) (
    (f_Re_fail k0 ((1 : Int32)) r1.2).bind fun r5 =>
    some ((-1 : Int32), r5.2))
noncomputable def f_Re_takeNumber : Nat → Int32 → Mem → Option (Int32 × Mem) := Classical.choose (⟨b_Re_takeNumber, rfl⟩ : ∃ f : Nat → Int32 → Mem → Option (Int32 × Mem), f = b_Re_takeNumber)
theorem f_Re_takeNumber_eq : f_Re_takeNumber = b_Re_takeNumber := Classical.choose_spec (⟨b_Re_takeNumber, rfl⟩ : ∃ f : Nat → Int32 → Mem → Option (Int32 × Mem), f = b_Re_takeNumber)
noncomputable def sm_Re_takeNumber (O : Type) (av : List AV) (σ : Mem) (K : AV → Mem → Option O) : Option O := match av with
  | [.inr (.inr (5, k0)), .inl v1] => (f_Re_takeNumber k0 v1 σ).bind fun r => K (.inl r.1) r.2
  | _ => none
def c_Re_takeNumber : List (List CE) := [[(0, .aload_n 0, 1, 0, 0, 0), (1, .invokevirtual 115, 3, 113, 1, 11), (4, .sipush 256, 3, 256, 0, 0), (7, .if_icmp .eq 11, 3, 18, 0, 0), (10, .aload_n 0, 1, 0, 0, 0), (11, .iconst 1, 1, 1, 0, 0), (12, .invokevirtual 118, 3, 116, 2, 11), (15, .pop, 1, 0, 0, 0)], [(16, .iconst (-1), 1, 1, 0, 1), (17, .ireturn, 1, 0, 0, 0), (18, .aload_n 0, 1, 0, 0, 0), (19, .invokevirtual 122, 3, 120, 1, 11), (22, .istore_n 2, 1, 0, 0, 0), (23, .iload_n 2, 1, 0, 0, 0), (24, .iload_n 1, 1, 0, 0, 0), (25, .if_icmp .le 11, 3, 36, 0, 0), (28, .aload_n 0, 1, 0, 0, 0), (29, .iconst 2, 1, 2, 0, 0), (30, .invokevirtual 118, 3, 116, 2, 11)], [(33, .pop, 1, 0, 0, 0), (34, .iconst (-1), 1, 1, 0, 1), (35, .ireturn, 1, 0, 0, 0), (36, .aload_n 0, 1, 0, 0, 0), (37, .dup, 1, 0, 0, 0), (38, .getfield 51, 3, 5, 9, 0), (41, .iconst 1, 1, 1, 0, 0), (42, .iadd, 1, 0, 0, 0), (43, .putfield 51, 3, 5, 9, 0), (46, .iload_n 2, 1, 0, 0, 0), (47, .ireturn, 1, 0, 0, 0)]]
set_option maxRecDepth 100000 in
theorem oc_Re_takeNumber : okC 133 c_Re_takeNumber = true := by decide +kernel
def cu_Re_takeNumber : List (Nat × List Bool) := []
noncomputable def F_Re_takeNumber (O : Type) (a : Nat) (av : List AV) (σ : Mem) (K : AV → Mem → Option O) : Option O := if a = 113 then sm_Re_sort O av σ K else if a = 116 then sm_Re_fail O av σ K else if a = 120 then sm_Re_value O av σ K else none
theorem fs_Re_takeNumber {X : CXT} (hX : XC X) (O : Type) : FS X 2 (F_Re_takeNumber O) := by
  intro a av σ K o h
  unfold F_Re_takeNumber at h
  rcases ite_s h with ⟨rfl, h⟩ | ⟨_, h⟩
  · obtain ⟨r, h1, h2, h3⟩ := ok_Re_sort hX _ _ _ _ _ h
    exact ⟨r, fun ht => ⟨1, by decide, h1 ht⟩, h2, h3⟩
  rcases ite_s h with ⟨rfl, h⟩ | ⟨_, h⟩
  · obtain ⟨r, h1, h2, h3⟩ := ok_Re_fail hX _ _ _ _ _ h
    exact ⟨r, fun ht => ⟨1, by decide, h1 ht⟩, h2, h3⟩
  rcases ite_s h with ⟨rfl, h⟩ | ⟨_, h⟩
  · obtain ⟨r, h1, h2, h3⟩ := ok_Re_value hX _ _ _ _ _ h
    exact ⟨r, fun ht => ⟨1, by decide, h1 ht⟩, h2, h3⟩
  cases h
set_option maxRecDepth 100000 in
theorem s_Re_takeNumber {X : CXT} (hX : XC X) : ∀ (k0 : Nat) (v1 : Int32) (s : Mem) (o : Int32 × Mem), f_Re_takeNumber k0 v1 s = some o → BSnd X 2 133 (ovI o) 0 (entL [.inr (.inr (5, k0)), .inl v1]) [] s := by
  intro k0 v1 s o h
  rw [f_Re_takeNumber_eq] at h
  exact evC (chs := c_Re_takeNumber) (cuts := cu_Re_takeNumber) (G := fun pc ls st σ => none) hX.2.1 hX.2.2 (F := F_Re_takeNumber _) (fs_Re_takeNumber hX _) (rt_I rfl) oc_Re_takeNumber (by
    intro pc ls st σ o h
    cases h) 160 0 _ _ _ _ h
theorem ok_Re_takeNumber {X : CXT} (hX : XC X) : SemOK X 2 133 sm_Re_takeNumber := by
  intro O av σ K o h
  unfold sm_Re_takeNumber at h
  split at h
  · obtain ⟨r, hf, h⟩ := Option.bind_eq_some_iff.mp h
    exact ⟨ovI r, fun ht => sp_of hX.1 (by decide) (List.mem_range.mpr (by decide)) (by decide +kernel) ht (Nat.le_of_ble_eq_true rfl) (s_Re_takeNumber hX _ _ _ _ hf), trivial, h⟩
  · cases h
noncomputable def b_Ro_add (k0 : Nat) (v1 : Int32) (v2 : Int32) (v3 : Int32) (s : Mem) : Option (Int32 × Mem) :=
  (f_Ro_isFull k0 s).bind fun r1 =>
  cif ((b2i r1.1) = 0) (
    gd (inb (rI r1.2 k0 3) (lenC (k0 + 1))) <|
    let s2 : Mem := wI r1.2 (k0 + 1) (ix (rI r1.2 k0 3)) v1
    gd (inb (rI s2 k0 3) (lenC (k0 + 2))) <|
    let s3 : Mem := wI s2 (k0 + 2) (ix (rI s2 k0 3)) v2
    gd (inb (rI s3 k0 3) (lenC (k0 + 3))) <|
    let s4 : Mem := wI s3 (k0 + 3) (ix (rI s3 k0 3)) v3
    let s5 : Mem := wI s4 k0 3 ((rI s4 k0 3) + ((1 : Int32)))
    some (rI s5 k0 3, s5)) (
    some ((-1 : Int32), r1.2))
noncomputable def f_Ro_add : Nat → Int32 → Int32 → Int32 → Mem → Option (Int32 × Mem) := Classical.choose (⟨b_Ro_add, rfl⟩ : ∃ f : Nat → Int32 → Int32 → Int32 → Mem → Option (Int32 × Mem), f = b_Ro_add)
theorem f_Ro_add_eq : f_Ro_add = b_Ro_add := Classical.choose_spec (⟨b_Ro_add, rfl⟩ : ∃ f : Nat → Int32 → Int32 → Int32 → Mem → Option (Int32 × Mem), f = b_Ro_add)
noncomputable def sm_Ro_add (O : Type) (av : List AV) (σ : Mem) (K : AV → Mem → Option O) : Option O := match av with
  | [.inr (.inr (6, k0)), .inl v1, .inl v2, .inl v3] => (f_Ro_add k0 v1 v2 v3 σ).bind fun r => K (.inl r.1) r.2
  | _ => none
def c_Ro_add : List (List CE) := [[(0, .aload_n 0, 1, 0, 0, 0), (1, .invokevirtual 31, 3, 131, 1, 13), (4, .ifCond .eq 5, 3, 9, 0, 0), (7, .iconst (-1), 1, 1, 0, 1), (8, .ireturn, 1, 0, 0, 0), (9, .aload_n 0, 1, 0, 0, 0), (10, .getfield 21, 3, 6, 0, 0), (13, .aload_n 0, 1, 0, 0, 0), (14, .getfield 9, 3, 6, 3, 0)], [(17, .iload_n 1, 1, 0, 0, 0), (18, .iastore, 1, 0, 0, 0), (19, .aload_n 0, 1, 0, 0, 0), (20, .getfield 25, 3, 6, 1, 0), (23, .aload_n 0, 1, 0, 0, 0), (24, .getfield 9, 3, 6, 3, 0), (27, .iload_n 2, 1, 0, 0, 0), (28, .iastore, 1, 0, 0, 0), (29, .aload_n 0, 1, 0, 0, 0), (30, .getfield 28, 3, 6, 2, 0)], [(33, .aload_n 0, 1, 0, 0, 0), (34, .getfield 9, 3, 6, 3, 0), (37, .iload_n 3, 1, 0, 0, 0), (38, .iastore, 1, 0, 0, 0), (39, .aload_n 0, 1, 0, 0, 0), (40, .dup, 1, 0, 0, 0), (41, .getfield 9, 3, 6, 3, 0), (44, .iconst 1, 1, 1, 0, 0), (45, .iadd, 1, 0, 0, 0), (46, .putfield 9, 3, 6, 3, 0)], [(49, .aload_n 0, 1, 0, 0, 0), (50, .getfield 9, 3, 6, 3, 0), (53, .ireturn, 1, 0, 0, 0)]]
set_option maxRecDepth 100000 in
theorem oc_Ro_add : okC 134 c_Ro_add = true := by decide +kernel
def cu_Ro_add : List (Nat × List Bool) := []
noncomputable def F_Ro_add (O : Type) (a : Nat) (av : List AV) (σ : Mem) (K : AV → Mem → Option O) : Option O := if a = 131 then sm_Ro_isFull O av σ K else none
theorem fs_Ro_add {X : CXT} (hX : XC X) (O : Type) : FS X 2 (F_Ro_add O) := by
  intro a av σ K o h
  unfold F_Ro_add at h
  rcases ite_s h with ⟨rfl, h⟩ | ⟨_, h⟩
  · obtain ⟨r, h1, h2, h3⟩ := ok_Ro_isFull hX _ _ _ _ _ h
    exact ⟨r, fun ht => ⟨1, by decide, h1 ht⟩, h2, h3⟩
  cases h
set_option maxRecDepth 100000 in
theorem s_Ro_add {X : CXT} (hX : XC X) : ∀ (k0 : Nat) (v1 : Int32) (v2 : Int32) (v3 : Int32) (s : Mem) (o : Int32 × Mem), f_Ro_add k0 v1 v2 v3 s = some o → BSnd X 2 134 (ovI o) 0 (entL [.inr (.inr (6, k0)), .inl v1, .inl v2, .inl v3]) [] s := by
  intro k0 v1 v2 v3 s o h
  rw [f_Ro_add_eq] at h
  exact evC (chs := c_Ro_add) (cuts := cu_Ro_add) (G := fun pc ls st σ => none) hX.2.1 hX.2.2 (F := F_Ro_add _) (fs_Ro_add hX _) (rt_I rfl) oc_Ro_add (by
    intro pc ls st σ o h
    cases h) 168 0 _ _ _ _ h
theorem ok_Ro_add {X : CXT} (hX : XC X) : SemOK X 2 134 sm_Ro_add := by
  intro O av σ K o h
  unfold sm_Ro_add at h
  split at h
  · obtain ⟨r, hf, h⟩ := Option.bind_eq_some_iff.mp h
    exact ⟨ovI r, fun ht => sp_of hX.1 (by decide) (List.mem_range.mpr (by decide)) (by decide +kernel) ht (Nat.le_of_ble_eq_true rfl) (s_Ro_add hX _ _ _ _ _ _ hf), trivial, h⟩
  · cases h
noncomputable def b_Re_deedLine (k0 : Nat) (s : Mem) : Option (Bool × Mem) :=
  (f_Re_takeNumber k0 ((999 : Int32)) s).bind fun r1 =>
  cif (r1.1 = ((-1 : Int32))) (
    some (false, r1.2)) (
    (f_Re_take k0 ((1003 : Int32)) r1.2).bind fun r2 =>
    cif ((b2i r2.1) = 0) (
      some (false, r2.2)) (
      (f_Re_takeNumber k0 ((5 : Int32)) r2.2).bind fun r3 =>
      cif (r3.1 = ((-1 : Int32))) (
        some (false, r3.2)) (
        (f_Re_take k0 ((1004 : Int32)) r3.2).bind fun r4 =>
        cif ((b2i r4.1) = 0) (
          some (false, r4.2)) (
          (f_Re_takeNumber k0 ((99 : Int32)) r4.2).bind fun r5 =>
          cif (r5.1 = ((-1 : Int32))) (
            some (false, r5.2)) (
            (f_Re_take k0 ((59 : Int32)) r5.2).bind fun r6 =>
            cif ((b2i r6.1) = 0) (
              some (false, r6.2)) (
              (f_Ro_add (k0 + 12) r1.1 r3.1 r5.1 r6.2).bind fun r7 =>
              some (true, r7.2)))))))
noncomputable def f_Re_deedLine : Nat → Mem → Option (Bool × Mem) := Classical.choose (⟨b_Re_deedLine, rfl⟩ : ∃ f : Nat → Mem → Option (Bool × Mem), f = b_Re_deedLine)
theorem f_Re_deedLine_eq : f_Re_deedLine = b_Re_deedLine := Classical.choose_spec (⟨b_Re_deedLine, rfl⟩ : ∃ f : Nat → Mem → Option (Bool × Mem), f = b_Re_deedLine)
noncomputable def sm_Re_deedLine (O : Type) (av : List AV) (σ : Mem) (K : AV → Mem → Option O) : Option O := match av with
  | [.inr (.inr (5, k0))] => (f_Re_deedLine k0 σ).bind fun r => K (.inl (b2i r.1)) r.2
  | _ => none
def c_Re_deedLine : List (List CE) := [[(0, .aload_n 0, 1, 0, 0, 0), (1, .sipush 999, 3, 999, 0, 0), (4, .invokevirtual 142, 3, 133, 2, 11), (7, .istore_n 1, 1, 0, 0, 0), (8, .iload_n 1, 1, 0, 0, 0), (9, .iconst (-1), 1, 1, 0, 1), (10, .if_icmp .eq 13, 3, 23, 0, 0), (13, .aload_n 0, 1, 0, 0, 0), (14, .sipush 1003, 3, 1003, 0, 0)], [(17, .invokevirtual 145, 3, 125, 2, 11), (20, .ifCond .ne 5, 3, 25, 0, 0), (23, .iconst 0, 1, 0, 0, 0), (24, .ireturn, 1, 0, 0, 0), (25, .aload_n 0, 1, 0, 0, 0), (26, .iconst 5, 1, 5, 0, 0), (27, .invokevirtual 142, 3, 133, 2, 11), (30, .istore_n 2, 1, 0, 0, 0), (31, .iload_n 2, 1, 0, 0, 0)], [(32, .iconst (-1), 1, 1, 0, 1), (33, .if_icmp .eq 13, 3, 46, 0, 0), (36, .aload_n 0, 1, 0, 0, 0), (37, .sipush 1004, 3, 1004, 0, 0), (40, .invokevirtual 145, 3, 125, 2, 11), (43, .ifCond .ne 5, 3, 48, 0, 0), (46, .iconst 0, 1, 0, 0, 0), (47, .ireturn, 1, 0, 0, 0)], [(48, .aload_n 0, 1, 0, 0, 0), (49, .bipush 99, 2, 99, 0, 0), (51, .invokevirtual 142, 3, 133, 2, 11), (54, .istore_n 3, 1, 0, 0, 0), (55, .iload_n 3, 1, 0, 0, 0), (56, .iconst (-1), 1, 1, 0, 1), (57, .if_icmp .eq 12, 3, 69, 0, 0), (60, .aload_n 0, 1, 0, 0, 0), (61, .bipush 59, 2, 59, 0, 0), (63, .invokevirtual 145, 3, 125, 2, 11)], [(66, .ifCond .ne 5, 3, 71, 0, 0), (69, .iconst 0, 1, 0, 0, 0), (70, .ireturn, 1, 0, 0, 0), (71, .aload_n 0, 1, 0, 0, 0), (72, .getfield 37, 3, 5, 5, 0), (75, .iload_n 1, 1, 0, 0, 0), (76, .iload_n 2, 1, 0, 0, 0), (77, .iload_n 3, 1, 0, 0, 0), (78, .invokevirtual 148, 3, 134, 4, 13)], [(81, .pop, 1, 0, 0, 0), (82, .iconst 1, 1, 1, 0, 0), (83, .ireturn, 1, 0, 0, 0)]]
set_option maxRecDepth 100000 in
theorem oc_Re_deedLine : okC 132 c_Re_deedLine = true := by decide +kernel
def cu_Re_deedLine : List (Nat × List Bool) := []
noncomputable def F_Re_deedLine (O : Type) (a : Nat) (av : List AV) (σ : Mem) (K : AV → Mem → Option O) : Option O := if a = 125 then sm_Re_take O av σ K else if a = 133 then sm_Re_takeNumber O av σ K else if a = 134 then sm_Ro_add O av σ K else none
theorem fs_Re_deedLine {X : CXT} (hX : XC X) (O : Type) : FS X 3 (F_Re_deedLine O) := by
  intro a av σ K o h
  unfold F_Re_deedLine at h
  rcases ite_s h with ⟨rfl, h⟩ | ⟨_, h⟩
  · obtain ⟨r, h1, h2, h3⟩ := ok_Re_take hX _ _ _ _ _ h
    exact ⟨r, fun ht => ⟨2, by decide, h1 ht⟩, h2, h3⟩
  rcases ite_s h with ⟨rfl, h⟩ | ⟨_, h⟩
  · obtain ⟨r, h1, h2, h3⟩ := ok_Re_takeNumber hX _ _ _ _ _ h
    exact ⟨r, fun ht => ⟨2, by decide, h1 ht⟩, h2, h3⟩
  rcases ite_s h with ⟨rfl, h⟩ | ⟨_, h⟩
  · obtain ⟨r, h1, h2, h3⟩ := ok_Ro_add hX _ _ _ _ _ h
    exact ⟨r, fun ht => ⟨2, by decide, h1 ht⟩, h2, h3⟩
  cases h
set_option maxRecDepth 100000 in
theorem s_Re_deedLine {X : CXT} (hX : XC X) : ∀ (k0 : Nat) (s : Mem) (o : Bool × Mem), f_Re_deedLine k0 s = some o → BSnd X 3 132 (ovZ o) 0 (entL [.inr (.inr (5, k0))]) [] s := by
  intro k0 s o h
  rw [f_Re_deedLine_eq] at h
  exact evC (chs := c_Re_deedLine) (cuts := cu_Re_deedLine) (G := fun pc ls st σ => none) hX.2.1 hX.2.2 (F := F_Re_deedLine _) (fs_Re_deedLine hX _) (rt_Z rfl) oc_Re_deedLine (by
    intro pc ls st σ o h
    cases h) 232 0 _ _ _ _ h
theorem ok_Re_deedLine {X : CXT} (hX : XC X) : SemOK X 3 132 sm_Re_deedLine := by
  intro O av σ K o h
  unfold sm_Re_deedLine at h
  split at h
  · obtain ⟨r, hf, h⟩ := Option.bind_eq_some_iff.mp h
    exact ⟨ovZ r, fun ht => sp_of hX.1 (by decide) (List.mem_range.mpr (by decide)) (by decide +kernel) ht (Nat.le_of_ble_eq_true rfl) (s_Re_deedLine hX _ _ _ hf), trivial, h⟩
  · cases h
noncomputable def f_Re_readDeeds_14 : Nat → Nat → Int32 → Mem → Option (Bool × Mem)
  | 0, _, _, _ => none
  | n + 1, k0, v1, s =>
    cif (((16 : Int32)) < v1) (
      some (true, s)) (
      (f_Re_sort k0 s).bind fun r1 =>
      cif (r1.1 = 0) (
        some (true, r1.2)) (
        (f_Ro_isFull (k0 + 12) r1.2).bind fun r2 =>
        (f_Re_begin k0 ((1017 : Int32)) ((1017 : Int32)) (b2i r2.1) r2.2).bind fun r3 =>
        cif ((b2i r3.1) = 0) (
          some (false, r3.2)) (
          (f_Re_deedLine k0 r3.2).bind fun r4 =>
          cif ((b2i r4.1) = 0) (
            some (false, r4.2)) (
            f_Re_readDeeds_14 n k0 (v1 + (1 : Int32)) r4.2))))
noncomputable def b_Re_readDeeds (k0 : Nat) (s : Mem) : Option (Bool × Mem) :=
  (f_Re_scan k0 s).bind fun r1 =>
  (f_Ro_clear (k0 + 12) r1).bind fun r2 =>
  f_Re_readDeeds_14 FU k0 ((0 : Int32)) r2.2
noncomputable def f_Re_readDeeds : Nat → Mem → Option (Bool × Mem) := Classical.choose (⟨b_Re_readDeeds, rfl⟩ : ∃ f : Nat → Mem → Option (Bool × Mem), f = b_Re_readDeeds)
theorem f_Re_readDeeds_eq : f_Re_readDeeds = b_Re_readDeeds := Classical.choose_spec (⟨b_Re_readDeeds, rfl⟩ : ∃ f : Nat → Mem → Option (Bool × Mem), f = b_Re_readDeeds)
noncomputable def sm_Re_readDeeds (O : Type) (av : List AV) (σ : Mem) (K : AV → Mem → Option O) : Option O := match av with
  | [.inr (.inr (5, k0))] => (f_Re_readDeeds k0 σ).bind fun r => K (.inl (b2i r.1)) r.2
  | _ => none
def c_Re_readDeeds : List (List CE) := [[(0, .aload_n 0, 1, 0, 0, 0), (1, .invokevirtual 125, 3, 75, 1, 10), (4, .aload_n 0, 1, 0, 0, 0), (5, .getfield 37, 3, 5, 5, 0), (8, .invokevirtual 128, 3, 130, 1, 13), (11, .pop, 1, 0, 0, 0), (12, .iconst 0, 1, 0, 0, 0), (13, .istore_n 1, 1, 0, 0, 0), (14, .iload_n 1, 1, 0, 0, 0), (15, .bipush 16, 2, 16, 0, 0)], [(17, .if_icmp .gt 45, 3, 62, 0, 0), (20, .aload_n 0, 1, 0, 0, 0), (21, .invokevirtual 115, 3, 113, 1, 11), (24, .ifCond .eq 38, 3, 62, 0, 0), (27, .aload_n 0, 1, 0, 0, 0), (28, .sipush 1017, 3, 1017, 0, 0), (31, .sipush 1017, 3, 1017, 0, 0)], [(34, .aload_n 0, 1, 0, 0, 0), (35, .getfield 37, 3, 5, 5, 0), (38, .invokevirtual 131, 3, 131, 1, 13), (41, .invokevirtual 135, 3, 115, 4, 11), (44, .ifCond .eq 10, 3, 54, 0, 0), (47, .aload_n 0, 1, 0, 0, 0)], [(48, .invokevirtual 139, 3, 132, 1, 11), (51, .ifCond .ne 5, 3, 56, 0, 0), (54, .iconst 0, 1, 0, 0, 0), (55, .ireturn, 1, 0, 0, 0), (56, .iinc 1 1, 3, 1, 0, 0), (59, .goto (-45), 3, 14, 0, 0), (62, .iconst 1, 1, 1, 0, 0), (63, .ireturn, 1, 0, 0, 0)]]
set_option maxRecDepth 100000 in
theorem oc_Re_readDeeds : okC 129 c_Re_readDeeds = true := by decide +kernel
def cu_Re_readDeeds : List (Nat × List Bool) := [(14, [true, true])]
noncomputable def F_Re_readDeeds (O : Type) (a : Nat) (av : List AV) (σ : Mem) (K : AV → Mem → Option O) : Option O := if a = 75 then sm_Re_scan O av σ K else if a = 113 then sm_Re_sort O av σ K else if a = 115 then sm_Re_begin O av σ K else if a = 130 then sm_Ro_clear O av σ K else if a = 131 then sm_Ro_isFull O av σ K else if a = 132 then sm_Re_deedLine O av σ K else none
theorem fs_Re_readDeeds {X : CXT} (hX : XC X) (O : Type) : FS X 9 (F_Re_readDeeds O) := by
  intro a av σ K o h
  unfold F_Re_readDeeds at h
  rcases ite_s h with ⟨rfl, h⟩ | ⟨_, h⟩
  · obtain ⟨r, h1, h2, h3⟩ := ok_Re_scan hX _ _ _ _ _ h
    exact ⟨r, fun ht => ⟨8, by decide, h1 ht⟩, h2, h3⟩
  rcases ite_s h with ⟨rfl, h⟩ | ⟨_, h⟩
  · obtain ⟨r, h1, h2, h3⟩ := ok_Re_sort hX _ _ _ _ _ h
    exact ⟨r, fun ht => ⟨1, by decide, h1 ht⟩, h2, h3⟩
  rcases ite_s h with ⟨rfl, h⟩ | ⟨_, h⟩
  · obtain ⟨r, h1, h2, h3⟩ := ok_Re_begin hX _ _ _ _ _ h
    exact ⟨r, fun ht => ⟨2, by decide, h1 ht⟩, h2, h3⟩
  rcases ite_s h with ⟨rfl, h⟩ | ⟨_, h⟩
  · obtain ⟨r, h1, h2, h3⟩ := ok_Ro_clear hX _ _ _ _ _ h
    exact ⟨r, fun ht => ⟨1, by decide, h1 ht⟩, h2, h3⟩
  rcases ite_s h with ⟨rfl, h⟩ | ⟨_, h⟩
  · obtain ⟨r, h1, h2, h3⟩ := ok_Ro_isFull hX _ _ _ _ _ h
    exact ⟨r, fun ht => ⟨1, by decide, h1 ht⟩, h2, h3⟩
  rcases ite_s h with ⟨rfl, h⟩ | ⟨_, h⟩
  · obtain ⟨r, h1, h2, h3⟩ := ok_Re_deedLine hX _ _ _ _ _ h
    exact ⟨r, fun ht => ⟨3, by decide, h1 ht⟩, h2, h3⟩
  cases h
def hd_Re_readDeeds_14 {O : Type} (g : Nat → Int32 → Mem → Option O) (ls : OL) (st : List AV) (σ : Mem) : Option O := match ls, st with
  | [some (.inr (.inr (5, k0))), some (.inl v1)], [] => g k0 v1 σ
  | _, _ => none
theorem hs_Re_readDeeds_14 {X : CXT} {g : Nat → Int32 → Mem → Option (Bool × Mem)} (hg : ∀ (k0 : Nat) (v1 : Int32) (s : Mem) (o : Bool × Mem), g k0 v1 s = some o → BSnd X 9 129 (ovZ o) 14 [some (.inr (.inr (5, k0))), some (.inl v1)] [] s) : ∀ ls st σ o, hd_Re_readDeeds_14 g ls st σ = some o → BSnd X 9 129 (ovZ o) 14 ls st σ := by
  intro ls st σ o h
  unfold hd_Re_readDeeds_14 at h
  split at h
  · exact hg _ _ _ _ h
  · cases h
set_option maxRecDepth 100000 in
theorem s_Re_readDeeds_14 {X : CXT} (hX : XC X) : ∀ n : Nat, ∀ (k0 : Nat) (v1 : Int32) (s : Mem) (o : Bool × Mem), f_Re_readDeeds_14 n k0 v1 s = some o → BSnd X 9 129 (ovZ o) 14 [some (.inr (.inr (5, k0))), some (.inl v1)] [] s := by
  intro n
  induction n with
  | zero => intro k0 v1 s o h; cases h
  | succ n ih =>
    intro k0 v1 s o h
    exact evC (chs := c_Re_readDeeds) (cuts := cu_Re_readDeeds) (G := fun pc ls st σ => if pc = 14 then hd_Re_readDeeds_14 (fun k0 v1 s => f_Re_readDeeds_14 n k0 v1 s) ls st σ else none) hX.2.1 hX.2.2 (F := F_Re_readDeeds _) (fs_Re_readDeeds hX _) (rt_Z rfl) oc_Re_readDeeds (by
    intro pc ls st σ o h
    rcases ite_s h with ⟨rfl, h⟩ | ⟨_, h⟩
    · exact hs_Re_readDeeds_14 ih _ _ _ _ h
    cases h) 164 14 _ _ _ _ h
set_option maxRecDepth 100000 in
theorem s_Re_readDeeds {X : CXT} (hX : XC X) : ∀ (k0 : Nat) (s : Mem) (o : Bool × Mem), f_Re_readDeeds k0 s = some o → BSnd X 9 129 (ovZ o) 0 (entL [.inr (.inr (5, k0))]) [] s := by
  intro k0 s o h
  rw [f_Re_readDeeds_eq] at h
  exact evC (chs := c_Re_readDeeds) (cuts := cu_Re_readDeeds) (G := fun pc ls st σ => if pc = 14 then hd_Re_readDeeds_14 (fun k0 v1 s => f_Re_readDeeds_14 FU k0 v1 s) ls st σ else none) hX.2.1 hX.2.2 (F := F_Re_readDeeds _) (fs_Re_readDeeds hX _) (rt_Z rfl) oc_Re_readDeeds (by
    intro pc ls st σ o h
    rcases ite_s h with ⟨rfl, h⟩ | ⟨_, h⟩
    · exact hs_Re_readDeeds_14 (s_Re_readDeeds_14 hX FU) _ _ _ _ h
    cases h) 164 0 _ _ _ _ h
theorem ok_Re_readDeeds {X : CXT} (hX : XC X) : SemOK X 9 129 sm_Re_readDeeds := by
  intro O av σ K o h
  unfold sm_Re_readDeeds at h
  split at h
  · obtain ⟨r, hf, h⟩ := Option.bind_eq_some_iff.mp h
    exact ⟨ovZ r, fun ht => sp_of hX.1 (by decide) (List.mem_range.mpr (by decide)) (by decide +kernel) ht (Nat.le_of_ble_eq_true rfl) (s_Re_readDeeds hX _ _ _ hf), trivial, h⟩
  · cases h
noncomputable def f_Ro_copyFrom_7 : Nat → Nat → Nat → Int32 → Mem → Option (Int32 × Mem)
  | 0, _, _, _, _ => none
  | n + 1, k0, k1, v2, s =>
    cif ((rI s k1 3) ≤ v2) (
      some (rI s k0 3, s)) (
      gd (inb v2 (lenC (k1 + 1))) <|
      gd (inb v2 (lenC (k1 + 2))) <|
      gd (inb v2 (lenC (k1 + 3))) <|
      (f_Ro_add k0 (rI s (k1 + 1) (ix v2)) (rI s (k1 + 2) (ix v2)) (rI s (k1 + 3) (ix v2)) s).bind fun r1 =>
      f_Ro_copyFrom_7 n k0 k1 (v2 + (1 : Int32)) r1.2)
noncomputable def b_Ro_copyFrom (k0 : Nat) (k1 : Nat) (s : Mem) : Option (Int32 × Mem) :=
  (f_Ro_clear k0 s).bind fun r1 =>
  f_Ro_copyFrom_7 FU k0 k1 ((0 : Int32)) r1.2
noncomputable def f_Ro_copyFrom : Nat → Nat → Mem → Option (Int32 × Mem) := Classical.choose (⟨b_Ro_copyFrom, rfl⟩ : ∃ f : Nat → Nat → Mem → Option (Int32 × Mem), f = b_Ro_copyFrom)
theorem f_Ro_copyFrom_eq : f_Ro_copyFrom = b_Ro_copyFrom := Classical.choose_spec (⟨b_Ro_copyFrom, rfl⟩ : ∃ f : Nat → Nat → Mem → Option (Int32 × Mem), f = b_Ro_copyFrom)
noncomputable def sm_Ro_copyFrom (O : Type) (av : List AV) (σ : Mem) (K : AV → Mem → Option O) : Option O := match av with
  | [.inr (.inr (6, k0)), .inr (.inr (6, k1))] => (f_Ro_copyFrom k0 k1 σ).bind fun r => K (.inl r.1) r.2
  | _ => none
def c_Ro_copyFrom : List (List CE) := [[(0, .aload_n 0, 1, 0, 0, 0), (1, .invokevirtual 39, 3, 130, 1, 13), (4, .pop, 1, 0, 0, 0), (5, .iconst 0, 1, 0, 0, 0), (6, .istore_n 2, 1, 0, 0, 0), (7, .iload_n 2, 1, 0, 0, 0), (8, .aload_n 1, 1, 0, 0, 0), (9, .getfield 9, 3, 6, 3, 0), (12, .if_icmp .ge 32, 3, 44, 0, 0), (15, .aload_n 0, 1, 0, 0, 0)], [(16, .aload_n 1, 1, 0, 0, 0), (17, .getfield 21, 3, 6, 0, 0), (20, .iload_n 2, 1, 0, 0, 0), (21, .iaload, 1, 0, 0, 0), (22, .aload_n 1, 1, 0, 0, 0), (23, .getfield 25, 3, 6, 1, 0), (26, .iload_n 2, 1, 0, 0, 0), (27, .iaload, 1, 0, 0, 0), (28, .aload_n 1, 1, 0, 0, 0), (29, .getfield 28, 3, 6, 2, 0)], [(32, .iload_n 2, 1, 0, 0, 0), (33, .iaload, 1, 0, 0, 0), (34, .invokevirtual 43, 3, 134, 4, 13), (37, .pop, 1, 0, 0, 0), (38, .iinc 2 1, 3, 1, 0, 0), (41, .goto (-34), 3, 7, 0, 0), (44, .aload_n 0, 1, 0, 0, 0), (45, .getfield 9, 3, 6, 3, 0)], [(48, .ireturn, 1, 0, 0, 0)]]
set_option maxRecDepth 100000 in
theorem oc_Ro_copyFrom : okC 136 c_Ro_copyFrom = true := by decide +kernel
def cu_Ro_copyFrom : List (Nat × List Bool) := [(7, [true, true, true])]
noncomputable def F_Ro_copyFrom (O : Type) (a : Nat) (av : List AV) (σ : Mem) (K : AV → Mem → Option O) : Option O := if a = 130 then sm_Ro_clear O av σ K else if a = 134 then sm_Ro_add O av σ K else none
theorem fs_Ro_copyFrom {X : CXT} (hX : XC X) (O : Type) : FS X 3 (F_Ro_copyFrom O) := by
  intro a av σ K o h
  unfold F_Ro_copyFrom at h
  rcases ite_s h with ⟨rfl, h⟩ | ⟨_, h⟩
  · obtain ⟨r, h1, h2, h3⟩ := ok_Ro_clear hX _ _ _ _ _ h
    exact ⟨r, fun ht => ⟨1, by decide, h1 ht⟩, h2, h3⟩
  rcases ite_s h with ⟨rfl, h⟩ | ⟨_, h⟩
  · obtain ⟨r, h1, h2, h3⟩ := ok_Ro_add hX _ _ _ _ _ h
    exact ⟨r, fun ht => ⟨2, by decide, h1 ht⟩, h2, h3⟩
  cases h
def hd_Ro_copyFrom_7 {O : Type} (g : Nat → Nat → Int32 → Mem → Option O) (ls : OL) (st : List AV) (σ : Mem) : Option O := match ls, st with
  | [some (.inr (.inr (6, k0))), some (.inr (.inr (6, k1))), some (.inl v2)], [] => g k0 k1 v2 σ
  | _, _ => none
theorem hs_Ro_copyFrom_7 {X : CXT} {g : Nat → Nat → Int32 → Mem → Option (Int32 × Mem)} (hg : ∀ (k0 : Nat) (k1 : Nat) (v2 : Int32) (s : Mem) (o : Int32 × Mem), g k0 k1 v2 s = some o → BSnd X 3 136 (ovI o) 7 [some (.inr (.inr (6, k0))), some (.inr (.inr (6, k1))), some (.inl v2)] [] s) : ∀ ls st σ o, hd_Ro_copyFrom_7 g ls st σ = some o → BSnd X 3 136 (ovI o) 7 ls st σ := by
  intro ls st σ o h
  unfold hd_Ro_copyFrom_7 at h
  split at h
  · exact hg _ _ _ _ _ h
  · cases h
set_option maxRecDepth 100000 in
theorem s_Ro_copyFrom_7 {X : CXT} (hX : XC X) : ∀ n : Nat, ∀ (k0 : Nat) (k1 : Nat) (v2 : Int32) (s : Mem) (o : Int32 × Mem), f_Ro_copyFrom_7 n k0 k1 v2 s = some o → BSnd X 3 136 (ovI o) 7 [some (.inr (.inr (6, k0))), some (.inr (.inr (6, k1))), some (.inl v2)] [] s := by
  intro n
  induction n with
  | zero => intro k0 k1 v2 s o h; cases h
  | succ n ih =>
    intro k0 k1 v2 s o h
    exact evC (chs := c_Ro_copyFrom) (cuts := cu_Ro_copyFrom) (G := fun pc ls st σ => if pc = 7 then hd_Ro_copyFrom_7 (fun k0 k1 v2 s => f_Ro_copyFrom_7 n k0 k1 v2 s) ls st σ else none) hX.2.1 hX.2.2 (F := F_Ro_copyFrom _) (fs_Ro_copyFrom hX _) (rt_I rfl) oc_Ro_copyFrom (by
    intro pc ls st σ o h
    rcases ite_s h with ⟨rfl, h⟩ | ⟨_, h⟩
    · exact hs_Ro_copyFrom_7 ih _ _ _ _ h
    cases h) 156 7 _ _ _ _ h
set_option maxRecDepth 100000 in
theorem s_Ro_copyFrom {X : CXT} (hX : XC X) : ∀ (k0 : Nat) (k1 : Nat) (s : Mem) (o : Int32 × Mem), f_Ro_copyFrom k0 k1 s = some o → BSnd X 3 136 (ovI o) 0 (entL [.inr (.inr (6, k0)), .inr (.inr (6, k1))]) [] s := by
  intro k0 k1 s o h
  rw [f_Ro_copyFrom_eq] at h
  exact evC (chs := c_Ro_copyFrom) (cuts := cu_Ro_copyFrom) (G := fun pc ls st σ => if pc = 7 then hd_Ro_copyFrom_7 (fun k0 k1 v2 s => f_Ro_copyFrom_7 FU k0 k1 v2 s) ls st σ else none) hX.2.1 hX.2.2 (F := F_Ro_copyFrom _) (fs_Ro_copyFrom hX _) (rt_I rfl) oc_Ro_copyFrom (by
    intro pc ls st σ o h
    rcases ite_s h with ⟨rfl, h⟩ | ⟨_, h⟩
    · exact hs_Ro_copyFrom_7 (s_Ro_copyFrom_7 hX FU) _ _ _ _ h
    cases h) 156 0 _ _ _ _ h
theorem ok_Ro_copyFrom {X : CXT} (hX : XC X) : SemOK X 3 136 sm_Ro_copyFrom := by
  intro O av σ K o h
  unfold sm_Ro_copyFrom at h
  split at h
  · obtain ⟨r, hf, h⟩ := Option.bind_eq_some_iff.mp h
    exact ⟨ovI r, fun ht => sp_of hX.1 (by decide) (List.mem_range.mpr (by decide)) (by decide +kernel) ht (Nat.le_of_ble_eq_true rfl) (s_Ro_copyFrom hX _ _ _ _ hf), trivial, h⟩
  · cases h
noncomputable def b_P_tellDated (k0 : Nat) (v1 : Int32) (k2 : Nat) (s : Mem) : Option (Int32 × Mem) :=
  cif (v1 = 0) (
    some ((-1 : Int32), s)) (
    (f_Ke_forget (k0 + 128) s).bind fun r1 =>
    (f_Ro_copyFrom k2 (k0 + 172) r1).bind fun r2 =>
    some (r2.1, r2.2))
noncomputable def f_P_tellDated : Nat → Int32 → Nat → Mem → Option (Int32 × Mem) := Classical.choose (⟨b_P_tellDated, rfl⟩ : ∃ f : Nat → Int32 → Nat → Mem → Option (Int32 × Mem), f = b_P_tellDated)
theorem f_P_tellDated_eq : f_P_tellDated = b_P_tellDated := Classical.choose_spec (⟨b_P_tellDated, rfl⟩ : ∃ f : Nat → Int32 → Nat → Mem → Option (Int32 × Mem), f = b_P_tellDated)
noncomputable def sm_P_tellDated (O : Type) (av : List AV) (σ : Mem) (K : AV → Mem → Option O) : Option O := match av with
  | [.inr (.inr (11, k0)), .inl v1, .inr (.inr (6, k2))] => (f_P_tellDated k0 v1 k2 σ).bind fun r => K (.inl r.1) r.2
  | _ => none
def c_P_tellDated : List (List CE) := [[(0, .iload_n 1, 1, 0, 0, 0), (1, .ifCond .ne 5, 3, 6, 0, 0), (4, .iconst (-1), 1, 1, 0, 1), (5, .ireturn, 1, 0, 0, 0), (6, .aload_n 0, 1, 0, 0, 0), (7, .getfield 48, 3, 11, 4, 0), (10, .invokevirtual 77, 3, 15, 1, 2), (13, .aload_n 2, 1, 0, 0, 0), (14, .aload_n 0, 1, 0, 0, 0), (15, .getfield 55, 3, 11, 5, 0)], [(18, .getfield 200, 3, 5, 5, 0), (21, .invokevirtual 203, 3, 136, 2, 13), (24, .ireturn, 1, 0, 0, 0)]]
set_option maxRecDepth 100000 in
theorem oc_P_tellDated : okC 135 c_P_tellDated = true := by decide +kernel
def cu_P_tellDated : List (Nat × List Bool) := []
noncomputable def F_P_tellDated (O : Type) (a : Nat) (av : List AV) (σ : Mem) (K : AV → Mem → Option O) : Option O := if a = 15 then sm_Ke_forget O av σ K else if a = 136 then sm_Ro_copyFrom O av σ K else none
theorem fs_P_tellDated {X : CXT} (hX : XC X) (O : Type) : FS X 4 (F_P_tellDated O) := by
  intro a av σ K o h
  unfold F_P_tellDated at h
  rcases ite_s h with ⟨rfl, h⟩ | ⟨_, h⟩
  · obtain ⟨r, h1, h2, h3⟩ := ok_Ke_forget hX _ _ _ _ _ h
    exact ⟨r, fun ht => ⟨1, by decide, h1 ht⟩, h2, h3⟩
  rcases ite_s h with ⟨rfl, h⟩ | ⟨_, h⟩
  · obtain ⟨r, h1, h2, h3⟩ := ok_Ro_copyFrom hX _ _ _ _ _ h
    exact ⟨r, fun ht => ⟨3, by decide, h1 ht⟩, h2, h3⟩
  cases h
set_option maxRecDepth 100000 in
theorem s_P_tellDated {X : CXT} (hX : XC X) : ∀ (k0 : Nat) (v1 : Int32) (k2 : Nat) (s : Mem) (o : Int32 × Mem), f_P_tellDated k0 v1 k2 s = some o → BSnd X 4 135 (ovI o) 0 (entL [.inr (.inr (11, k0)), .inl v1, .inr (.inr (6, k2))]) [] s := by
  intro k0 v1 k2 s o h
  rw [f_P_tellDated_eq] at h
  exact evC (chs := c_P_tellDated) (cuts := cu_P_tellDated) (G := fun pc ls st σ => none) hX.2.1 hX.2.2 (F := F_P_tellDated _) (fs_P_tellDated hX _) (rt_I rfl) oc_P_tellDated (by
    intro pc ls st σ o h
    cases h) 92 0 _ _ _ _ h
theorem ok_P_tellDated {X : CXT} (hX : XC X) : SemOK X 4 135 sm_P_tellDated := by
  intro O av σ K o h
  unfold sm_P_tellDated at h
  split at h
  · obtain ⟨r, hf, h⟩ := Option.bind_eq_some_iff.mp h
    exact ⟨ovI r, fun ht => sp_of hX.1 (by decide) (List.mem_range.mpr (by decide)) (by decide +kernel) ht (Nat.le_of_ble_eq_true rfl) (s_P_tellDated hX _ _ _ _ _ hf), trivial, h⟩
  · cases h
noncomputable def f_Ro_contains_2 : Nat → Nat → Int32 → Int32 → Int32 → Mem → Option (Bool × Mem)
  | 0, _, _, _, _, _ => none
  | n + 1, k0, v1, v2, v3, s =>
    cif ((rI s k0 3) ≤ v3) (
      some (false, s)) (
      gd (inb v3 (lenC (k0 + 1))) <|
      cif ((rI s (k0 + 1) (ix v3)) = v1) (
        gd (inb v3 (lenC (k0 + 2))) <|
        cif ((rI s (k0 + 2) (ix v3)) = v2) (
          some (true, s)) (
          f_Ro_contains_2 n k0 v1 v2 (v3 + (1 : Int32)) s)) (
        f_Ro_contains_2 n k0 v1 v2 (v3 + (1 : Int32)) s))
noncomputable def b_Ro_contains (k0 : Nat) (v1 : Int32) (v2 : Int32) (s : Mem) : Option (Bool × Mem) :=
  f_Ro_contains_2 FU k0 v1 v2 ((0 : Int32)) s
noncomputable def f_Ro_contains : Nat → Int32 → Int32 → Mem → Option (Bool × Mem) := Classical.choose (⟨b_Ro_contains, rfl⟩ : ∃ f : Nat → Int32 → Int32 → Mem → Option (Bool × Mem), f = b_Ro_contains)
theorem f_Ro_contains_eq : f_Ro_contains = b_Ro_contains := Classical.choose_spec (⟨b_Ro_contains, rfl⟩ : ∃ f : Nat → Int32 → Int32 → Mem → Option (Bool × Mem), f = b_Ro_contains)
noncomputable def sm_Ro_contains (O : Type) (av : List AV) (σ : Mem) (K : AV → Mem → Option O) : Option O := match av with
  | [.inr (.inr (6, k0)), .inl v1, .inl v2] => (f_Ro_contains k0 v1 v2 σ).bind fun r => K (.inl (b2i r.1)) r.2
  | _ => none
def c_Ro_contains : List (List CE) := [[(0, .iconst 0, 1, 0, 0, 0), (1, .istore_n 3, 1, 0, 0, 0), (2, .iload_n 3, 1, 0, 0, 0), (3, .aload_n 0, 1, 0, 0, 0), (4, .getfield 9, 3, 6, 3, 0), (7, .if_icmp .ge 31, 3, 38, 0, 0), (10, .aload_n 0, 1, 0, 0, 0), (11, .getfield 21, 3, 6, 0, 0), (14, .iload_n 3, 1, 0, 0, 0), (15, .iaload, 1, 0, 0, 0)], [(16, .iload_n 1, 1, 0, 0, 0), (17, .if_icmp .ne 15, 3, 32, 0, 0), (20, .aload_n 0, 1, 0, 0, 0), (21, .getfield 25, 3, 6, 1, 0), (24, .iload_n 3, 1, 0, 0, 0), (25, .iaload, 1, 0, 0, 0), (26, .iload_n 2, 1, 0, 0, 0), (27, .if_icmp .ne 5, 3, 32, 0, 0), (30, .iconst 1, 1, 1, 0, 0), (31, .ireturn, 1, 0, 0, 0)], [(32, .iinc 3 1, 3, 1, 0, 0), (35, .goto (-33), 3, 2, 0, 0), (38, .iconst 0, 1, 0, 0, 0), (39, .ireturn, 1, 0, 0, 0)]]
set_option maxRecDepth 100000 in
theorem oc_Ro_contains : okC 139 c_Ro_contains = true := by decide +kernel
def cu_Ro_contains : List (Nat × List Bool) := [(2, [true, true, true, true])]
noncomputable def F_Ro_contains (O : Type) (a : Nat) (av : List AV) (σ : Mem) (K : AV → Mem → Option O) : Option O := none
theorem fs_Ro_contains {X : CXT} (hX : XC X) (O : Type) : FS X 1 (F_Ro_contains O) := by
  intro a av σ K o h
  cases h
def hd_Ro_contains_2 {O : Type} (g : Nat → Int32 → Int32 → Int32 → Mem → Option O) (ls : OL) (st : List AV) (σ : Mem) : Option O := match ls, st with
  | [some (.inr (.inr (6, k0))), some (.inl v1), some (.inl v2), some (.inl v3)], [] => g k0 v1 v2 v3 σ
  | _, _ => none
theorem hs_Ro_contains_2 {X : CXT} {g : Nat → Int32 → Int32 → Int32 → Mem → Option (Bool × Mem)} (hg : ∀ (k0 : Nat) (v1 : Int32) (v2 : Int32) (v3 : Int32) (s : Mem) (o : Bool × Mem), g k0 v1 v2 v3 s = some o → BSnd X 1 139 (ovZ o) 2 [some (.inr (.inr (6, k0))), some (.inl v1), some (.inl v2), some (.inl v3)] [] s) : ∀ ls st σ o, hd_Ro_contains_2 g ls st σ = some o → BSnd X 1 139 (ovZ o) 2 ls st σ := by
  intro ls st σ o h
  unfold hd_Ro_contains_2 at h
  split at h
  · exact hg _ _ _ _ _ _ h
  · cases h
set_option maxRecDepth 100000 in
theorem s_Ro_contains_2 {X : CXT} (hX : XC X) : ∀ n : Nat, ∀ (k0 : Nat) (v1 : Int32) (v2 : Int32) (v3 : Int32) (s : Mem) (o : Bool × Mem), f_Ro_contains_2 n k0 v1 v2 v3 s = some o → BSnd X 1 139 (ovZ o) 2 [some (.inr (.inr (6, k0))), some (.inl v1), some (.inl v2), some (.inl v3)] [] s := by
  intro n
  induction n with
  | zero => intro k0 v1 v2 v3 s o h; cases h
  | succ n ih =>
    intro k0 v1 v2 v3 s o h
    exact evC (chs := c_Ro_contains) (cuts := cu_Ro_contains) (G := fun pc ls st σ => if pc = 2 then hd_Ro_contains_2 (fun k0 v1 v2 v3 s => f_Ro_contains_2 n k0 v1 v2 v3 s) ls st σ else none) hX.2.1 hX.2.2 (F := F_Ro_contains _) (fs_Ro_contains hX _) (rt_Z rfl) oc_Ro_contains (by
    intro pc ls st σ o h
    rcases ite_s h with ⟨rfl, h⟩ | ⟨_, h⟩
    · exact hs_Ro_contains_2 ih _ _ _ _ h
    cases h) 136 2 _ _ _ _ h
set_option maxRecDepth 100000 in
theorem s_Ro_contains {X : CXT} (hX : XC X) : ∀ (k0 : Nat) (v1 : Int32) (v2 : Int32) (s : Mem) (o : Bool × Mem), f_Ro_contains k0 v1 v2 s = some o → BSnd X 1 139 (ovZ o) 0 (entL [.inr (.inr (6, k0)), .inl v1, .inl v2]) [] s := by
  intro k0 v1 v2 s o h
  rw [f_Ro_contains_eq] at h
  exact evC (chs := c_Ro_contains) (cuts := cu_Ro_contains) (G := fun pc ls st σ => if pc = 2 then hd_Ro_contains_2 (fun k0 v1 v2 v3 s => f_Ro_contains_2 FU k0 v1 v2 v3 s) ls st σ else none) hX.2.1 hX.2.2 (F := F_Ro_contains _) (fs_Ro_contains hX _) (rt_Z rfl) oc_Ro_contains (by
    intro pc ls st σ o h
    rcases ite_s h with ⟨rfl, h⟩ | ⟨_, h⟩
    · exact hs_Ro_contains_2 (s_Ro_contains_2 hX FU) _ _ _ _ h
    cases h) 136 0 _ _ _ _ h
theorem ok_Ro_contains {X : CXT} (hX : XC X) : SemOK X 1 139 sm_Ro_contains := by
  intro O av σ K o h
  unfold sm_Ro_contains at h
  split at h
  · obtain ⟨r, hf, h⟩ := Option.bind_eq_some_iff.mp h
    exact ⟨ovZ r, fun ht => sp_of hX.1 (by decide) (List.mem_range.mpr (by decide)) (by decide +kernel) ht (Nat.le_of_ble_eq_true rfl) (s_Ro_contains hX _ _ _ _ _ hf), trivial, h⟩
  · cases h
noncomputable def f_Re_placeLine_31 (k0 : Nat) (v1 : Int32) (s : Mem) : Option (Bool × Mem) :=
  (f_Re_takeNumber k0 ((199 : Int32)) s).bind fun r1 =>
  cif (r1.1 = ((-1 : Int32))) (
    some (false, r1.2)) (
    (f_Re_take k0 ((59 : Int32)) r1.2).bind fun r2 =>
    cif ((b2i r2.1) = 0) (
      some (false, r2.2)) (
      (f_Ro_add (k0 + 12) v1 r1.1 ((0 : Int32)) r2.2).bind fun r3 =>
      some (true, r3.2)))
noncomputable def b_Re_placeLine (k0 : Nat) (v1 : Int32) (s : Mem) : Option (Bool × Mem) :=
  (f_Re_sort k0 s).bind fun r1 =>
  cif (r1.1 = ((256 : Int32))) (
    (f_Re_value k0 r1.2).bind fun r2 =>
    (f_Ro_contains (k0 + 12) v1 r2.1 r2.2).bind fun r3 =>
    cif ((b2i r3.1) = 0) (
      f_Re_placeLine_31 k0 v1 r3.2) (
      (f_Re_fail k0 ((2 : Int32)) r3.2).bind fun r4 =>
      lf (rB (b2i r4.1)) r4.2)) (
    f_Re_placeLine_31 k0 v1 r1.2)
noncomputable def f_Re_placeLine : Nat → Int32 → Mem → Option (Bool × Mem) := Classical.choose (⟨b_Re_placeLine, rfl⟩ : ∃ f : Nat → Int32 → Mem → Option (Bool × Mem), f = b_Re_placeLine)
theorem f_Re_placeLine_eq : f_Re_placeLine = b_Re_placeLine := Classical.choose_spec (⟨b_Re_placeLine, rfl⟩ : ∃ f : Nat → Int32 → Mem → Option (Bool × Mem), f = b_Re_placeLine)
noncomputable def sm_Re_placeLine (O : Type) (av : List AV) (σ : Mem) (K : AV → Mem → Option O) : Option O := match av with
  | [.inr (.inr (5, k0)), .inl v1] => (f_Re_placeLine k0 v1 σ).bind fun r => K (.inl (b2i r.1)) r.2
  | _ => none
def c_Re_placeLine : List (List CE) := [[(0, .aload_n 0, 1, 0, 0, 0), (1, .invokevirtual 115, 3, 113, 1, 11), (4, .sipush 256, 3, 256, 0, 0), (7, .if_icmp .ne 24, 3, 31, 0, 0), (10, .aload_n 0, 1, 0, 0, 0), (11, .getfield 37, 3, 5, 5, 0), (14, .iload_n 1, 1, 0, 0, 0), (15, .aload_n 0, 1, 0, 0, 0)], [(16, .invokevirtual 122, 3, 120, 1, 11), (19, .invokevirtual 155, 3, 139, 3, 13), (22, .ifCond .eq 9, 3, 31, 0, 0), (25, .aload_n 0, 1, 0, 0, 0), (26, .iconst 2, 1, 2, 0, 0), (27, .invokevirtual 118, 3, 116, 2, 11), (30, .ireturn, 1, 0, 0, 0), (31, .aload_n 0, 1, 0, 0, 0)], [(32, .sipush 199, 3, 199, 0, 0), (35, .invokevirtual 142, 3, 133, 2, 11), (38, .istore_n 2, 1, 0, 0, 0), (39, .iload_n 2, 1, 0, 0, 0), (40, .iconst (-1), 1, 1, 0, 1), (41, .if_icmp .eq 12, 3, 53, 0, 0), (44, .aload_n 0, 1, 0, 0, 0), (45, .bipush 59, 2, 59, 0, 0), (47, .invokevirtual 145, 3, 125, 2, 11)], [(50, .ifCond .ne 5, 3, 55, 0, 0), (53, .iconst 0, 1, 0, 0, 0), (54, .ireturn, 1, 0, 0, 0), (55, .aload_n 0, 1, 0, 0, 0), (56, .getfield 37, 3, 5, 5, 0), (59, .iload_n 1, 1, 0, 0, 0), (60, .iload_n 2, 1, 0, 0, 0), (61, .iconst 0, 1, 0, 0, 0), (62, .invokevirtual 148, 3, 134, 4, 13)], [(65, .pop, 1, 0, 0, 0), (66, .iconst 1, 1, 1, 0, 0), (67, .ireturn, 1, 0, 0, 0)]]
set_option maxRecDepth 100000 in
theorem oc_Re_placeLine : okC 138 c_Re_placeLine = true := by decide +kernel
def cu_Re_placeLine : List (Nat × List Bool) := [(31, [true, true])]
noncomputable def F_Re_placeLine (O : Type) (a : Nat) (av : List AV) (σ : Mem) (K : AV → Mem → Option O) : Option O := if a = 113 then sm_Re_sort O av σ K else if a = 116 then sm_Re_fail O av σ K else if a = 120 then sm_Re_value O av σ K else if a = 125 then sm_Re_take O av σ K else if a = 133 then sm_Re_takeNumber O av σ K else if a = 134 then sm_Ro_add O av σ K else if a = 139 then sm_Ro_contains O av σ K else none
theorem fs_Re_placeLine {X : CXT} (hX : XC X) (O : Type) : FS X 3 (F_Re_placeLine O) := by
  intro a av σ K o h
  unfold F_Re_placeLine at h
  rcases ite_s h with ⟨rfl, h⟩ | ⟨_, h⟩
  · obtain ⟨r, h1, h2, h3⟩ := ok_Re_sort hX _ _ _ _ _ h
    exact ⟨r, fun ht => ⟨1, by decide, h1 ht⟩, h2, h3⟩
  rcases ite_s h with ⟨rfl, h⟩ | ⟨_, h⟩
  · obtain ⟨r, h1, h2, h3⟩ := ok_Re_fail hX _ _ _ _ _ h
    exact ⟨r, fun ht => ⟨1, by decide, h1 ht⟩, h2, h3⟩
  rcases ite_s h with ⟨rfl, h⟩ | ⟨_, h⟩
  · obtain ⟨r, h1, h2, h3⟩ := ok_Re_value hX _ _ _ _ _ h
    exact ⟨r, fun ht => ⟨1, by decide, h1 ht⟩, h2, h3⟩
  rcases ite_s h with ⟨rfl, h⟩ | ⟨_, h⟩
  · obtain ⟨r, h1, h2, h3⟩ := ok_Re_take hX _ _ _ _ _ h
    exact ⟨r, fun ht => ⟨2, by decide, h1 ht⟩, h2, h3⟩
  rcases ite_s h with ⟨rfl, h⟩ | ⟨_, h⟩
  · obtain ⟨r, h1, h2, h3⟩ := ok_Re_takeNumber hX _ _ _ _ _ h
    exact ⟨r, fun ht => ⟨2, by decide, h1 ht⟩, h2, h3⟩
  rcases ite_s h with ⟨rfl, h⟩ | ⟨_, h⟩
  · obtain ⟨r, h1, h2, h3⟩ := ok_Ro_add hX _ _ _ _ _ h
    exact ⟨r, fun ht => ⟨2, by decide, h1 ht⟩, h2, h3⟩
  rcases ite_s h with ⟨rfl, h⟩ | ⟨_, h⟩
  · obtain ⟨r, h1, h2, h3⟩ := ok_Ro_contains hX _ _ _ _ _ h
    exact ⟨r, fun ht => ⟨1, by decide, h1 ht⟩, h2, h3⟩
  cases h
def hd_Re_placeLine_31 {O : Type} (g : Nat → Int32 → Mem → Option O) (ls : OL) (st : List AV) (σ : Mem) : Option O := match ls, st with
  | [some (.inr (.inr (5, k0))), some (.inl v1)], [] => g k0 v1 σ
  | _, _ => none
theorem hs_Re_placeLine_31 {X : CXT} {g : Nat → Int32 → Mem → Option (Bool × Mem)} (hg : ∀ (k0 : Nat) (v1 : Int32) (s : Mem) (o : Bool × Mem), g k0 v1 s = some o → BSnd X 3 138 (ovZ o) 31 [some (.inr (.inr (5, k0))), some (.inl v1)] [] s) : ∀ ls st σ o, hd_Re_placeLine_31 g ls st σ = some o → BSnd X 3 138 (ovZ o) 31 ls st σ := by
  intro ls st σ o h
  unfold hd_Re_placeLine_31 at h
  split at h
  · exact hg _ _ _ _ h
  · cases h
set_option maxRecDepth 100000 in
theorem s_Re_placeLine_31 {X : CXT} (hX : XC X) : ∀ (k0 : Nat) (v1 : Int32) (s : Mem) (o : Bool × Mem), f_Re_placeLine_31 k0 v1 s = some o → BSnd X 3 138 (ovZ o) 31 [some (.inr (.inr (5, k0))), some (.inl v1)] [] s := by
  intro k0 v1 s o h
  exact evC (chs := c_Re_placeLine) (cuts := cu_Re_placeLine) (G := fun pc ls st σ => none) hX.2.1 hX.2.2 (F := F_Re_placeLine _) (fs_Re_placeLine hX _) (rt_Z rfl) oc_Re_placeLine (by
    intro pc ls st σ o h
    cases h) 188 31 _ _ _ _ h
set_option maxRecDepth 100000 in
theorem s_Re_placeLine {X : CXT} (hX : XC X) : ∀ (k0 : Nat) (v1 : Int32) (s : Mem) (o : Bool × Mem), f_Re_placeLine k0 v1 s = some o → BSnd X 3 138 (ovZ o) 0 (entL [.inr (.inr (5, k0)), .inl v1]) [] s := by
  intro k0 v1 s o h
  rw [f_Re_placeLine_eq] at h
  exact evC (chs := c_Re_placeLine) (cuts := cu_Re_placeLine) (G := fun pc ls st σ => if pc = 31 then hd_Re_placeLine_31 (fun k0 v1 s => f_Re_placeLine_31 k0 v1 s) ls st σ else none) hX.2.1 hX.2.2 (F := F_Re_placeLine _) (fs_Re_placeLine hX _) (rt_Z rfl) oc_Re_placeLine (by
    intro pc ls st σ o h
    rcases ite_s h with ⟨rfl, h⟩ | ⟨_, h⟩
    · exact hs_Re_placeLine_31 (s_Re_placeLine_31 hX) _ _ _ _ h
    cases h) 188 0 _ _ _ _ h
theorem ok_Re_placeLine {X : CXT} (hX : XC X) : SemOK X 3 138 sm_Re_placeLine := by
  intro O av σ K o h
  unfold sm_Re_placeLine at h
  split at h
  · obtain ⟨r, hf, h⟩ := Option.bind_eq_some_iff.mp h
    exact ⟨ovZ r, fun ht => sp_of hX.1 (by decide) (List.mem_range.mpr (by decide)) (by decide +kernel) ht (Nat.le_of_ble_eq_true rfl) (s_Re_placeLine hX _ _ _ _ hf), trivial, h⟩
  · cases h
noncomputable def f_Re_readPlaces_14 : Nat → Nat → Int32 → Mem → Option (Bool × Mem)
  | 0, _, _, _ => none
  | n + 1, k0, v1, s =>
    cif (((16 : Int32)) < v1) (
      some (true, s)) (
      (f_Re_sort k0 s).bind fun r1 =>
      cif (r1.1 = 0) (
        some (true, r1.2)) (
        (f_Re_sort k0 r1.2).bind fun r2 =>
        let x3 : Int32 := r2.1 - ((1018 : Int32))
        (f_Ro_isFull (k0 + 12) r2.2).bind fun r4 =>
        (f_Re_begin k0 ((1018 : Int32)) ((1020 : Int32)) (b2i r4.1) r4.2).bind fun r5 =>
        cif ((b2i r5.1) = 0) (
          some (false, r5.2)) (
          (f_Re_placeLine k0 x3 r5.2).bind fun r6 =>
          cif ((b2i r6.1) = 0) (
            some (false, r6.2)) (
            f_Re_readPlaces_14 n k0 (v1 + (1 : Int32)) r6.2))))
noncomputable def b_Re_readPlaces (k0 : Nat) (s : Mem) : Option (Bool × Mem) :=
  (f_Re_scan k0 s).bind fun r1 =>
  (f_Ro_clear (k0 + 12) r1).bind fun r2 =>
  f_Re_readPlaces_14 FU k0 ((0 : Int32)) r2.2
noncomputable def f_Re_readPlaces : Nat → Mem → Option (Bool × Mem) := Classical.choose (⟨b_Re_readPlaces, rfl⟩ : ∃ f : Nat → Mem → Option (Bool × Mem), f = b_Re_readPlaces)
theorem f_Re_readPlaces_eq : f_Re_readPlaces = b_Re_readPlaces := Classical.choose_spec (⟨b_Re_readPlaces, rfl⟩ : ∃ f : Nat → Mem → Option (Bool × Mem), f = b_Re_readPlaces)
noncomputable def sm_Re_readPlaces (O : Type) (av : List AV) (σ : Mem) (K : AV → Mem → Option O) : Option O := match av with
  | [.inr (.inr (5, k0))] => (f_Re_readPlaces k0 σ).bind fun r => K (.inl (b2i r.1)) r.2
  | _ => none
def c_Re_readPlaces : List (List CE) := [[(0, .aload_n 0, 1, 0, 0, 0), (1, .invokevirtual 125, 3, 75, 1, 10), (4, .aload_n 0, 1, 0, 0, 0), (5, .getfield 37, 3, 5, 5, 0), (8, .invokevirtual 128, 3, 130, 1, 13), (11, .pop, 1, 0, 0, 0), (12, .iconst 0, 1, 0, 0, 0), (13, .istore_n 1, 1, 0, 0, 0), (14, .iload_n 1, 1, 0, 0, 0), (15, .bipush 16, 2, 16, 0, 0)], [(17, .if_icmp .gt 55, 3, 72, 0, 0), (20, .aload_n 0, 1, 0, 0, 0), (21, .invokevirtual 115, 3, 113, 1, 11), (24, .ifCond .eq 48, 3, 72, 0, 0), (27, .aload_n 0, 1, 0, 0, 0), (28, .invokevirtual 115, 3, 113, 1, 11), (31, .sipush 1018, 3, 1018, 0, 0)], [(34, .isub, 1, 0, 0, 0), (35, .istore_n 2, 1, 0, 0, 0), (36, .aload_n 0, 1, 0, 0, 0), (37, .sipush 1018, 3, 1018, 0, 0), (40, .sipush 1020, 3, 1020, 0, 0), (43, .aload_n 0, 1, 0, 0, 0), (44, .getfield 37, 3, 5, 5, 0), (47, .invokevirtual 131, 3, 131, 1, 13)], [(50, .invokevirtual 135, 3, 115, 4, 11), (53, .ifCond .eq 11, 3, 64, 0, 0), (56, .aload_n 0, 1, 0, 0, 0), (57, .iload_n 2, 1, 0, 0, 0), (58, .invokevirtual 152, 3, 138, 2, 11), (61, .ifCond .ne 5, 3, 66, 0, 0)], [(64, .iconst 0, 1, 0, 0, 0), (65, .ireturn, 1, 0, 0, 0), (66, .iinc 1 1, 3, 1, 0, 0), (69, .goto (-55), 3, 14, 0, 0), (72, .iconst 1, 1, 1, 0, 0), (73, .ireturn, 1, 0, 0, 0)]]
set_option maxRecDepth 100000 in
theorem oc_Re_readPlaces : okC 137 c_Re_readPlaces = true := by decide +kernel
def cu_Re_readPlaces : List (Nat × List Bool) := [(14, [true, true])]
noncomputable def F_Re_readPlaces (O : Type) (a : Nat) (av : List AV) (σ : Mem) (K : AV → Mem → Option O) : Option O := if a = 75 then sm_Re_scan O av σ K else if a = 113 then sm_Re_sort O av σ K else if a = 115 then sm_Re_begin O av σ K else if a = 130 then sm_Ro_clear O av σ K else if a = 131 then sm_Ro_isFull O av σ K else if a = 138 then sm_Re_placeLine O av σ K else none
theorem fs_Re_readPlaces {X : CXT} (hX : XC X) (O : Type) : FS X 9 (F_Re_readPlaces O) := by
  intro a av σ K o h
  unfold F_Re_readPlaces at h
  rcases ite_s h with ⟨rfl, h⟩ | ⟨_, h⟩
  · obtain ⟨r, h1, h2, h3⟩ := ok_Re_scan hX _ _ _ _ _ h
    exact ⟨r, fun ht => ⟨8, by decide, h1 ht⟩, h2, h3⟩
  rcases ite_s h with ⟨rfl, h⟩ | ⟨_, h⟩
  · obtain ⟨r, h1, h2, h3⟩ := ok_Re_sort hX _ _ _ _ _ h
    exact ⟨r, fun ht => ⟨1, by decide, h1 ht⟩, h2, h3⟩
  rcases ite_s h with ⟨rfl, h⟩ | ⟨_, h⟩
  · obtain ⟨r, h1, h2, h3⟩ := ok_Re_begin hX _ _ _ _ _ h
    exact ⟨r, fun ht => ⟨2, by decide, h1 ht⟩, h2, h3⟩
  rcases ite_s h with ⟨rfl, h⟩ | ⟨_, h⟩
  · obtain ⟨r, h1, h2, h3⟩ := ok_Ro_clear hX _ _ _ _ _ h
    exact ⟨r, fun ht => ⟨1, by decide, h1 ht⟩, h2, h3⟩
  rcases ite_s h with ⟨rfl, h⟩ | ⟨_, h⟩
  · obtain ⟨r, h1, h2, h3⟩ := ok_Ro_isFull hX _ _ _ _ _ h
    exact ⟨r, fun ht => ⟨1, by decide, h1 ht⟩, h2, h3⟩
  rcases ite_s h with ⟨rfl, h⟩ | ⟨_, h⟩
  · obtain ⟨r, h1, h2, h3⟩ := ok_Re_placeLine hX _ _ _ _ _ h
    exact ⟨r, fun ht => ⟨3, by decide, h1 ht⟩, h2, h3⟩
  cases h
def hd_Re_readPlaces_14 {O : Type} (g : Nat → Int32 → Mem → Option O) (ls : OL) (st : List AV) (σ : Mem) : Option O := match ls, st with
  | [some (.inr (.inr (5, k0))), some (.inl v1)], [] => g k0 v1 σ
  | _, _ => none
theorem hs_Re_readPlaces_14 {X : CXT} {g : Nat → Int32 → Mem → Option (Bool × Mem)} (hg : ∀ (k0 : Nat) (v1 : Int32) (s : Mem) (o : Bool × Mem), g k0 v1 s = some o → BSnd X 9 137 (ovZ o) 14 [some (.inr (.inr (5, k0))), some (.inl v1)] [] s) : ∀ ls st σ o, hd_Re_readPlaces_14 g ls st σ = some o → BSnd X 9 137 (ovZ o) 14 ls st σ := by
  intro ls st σ o h
  unfold hd_Re_readPlaces_14 at h
  split at h
  · exact hg _ _ _ _ h
  · cases h
set_option maxRecDepth 100000 in
theorem s_Re_readPlaces_14 {X : CXT} (hX : XC X) : ∀ n : Nat, ∀ (k0 : Nat) (v1 : Int32) (s : Mem) (o : Bool × Mem), f_Re_readPlaces_14 n k0 v1 s = some o → BSnd X 9 137 (ovZ o) 14 [some (.inr (.inr (5, k0))), some (.inl v1)] [] s := by
  intro n
  induction n with
  | zero => intro k0 v1 s o h; cases h
  | succ n ih =>
    intro k0 v1 s o h
    exact evC (chs := c_Re_readPlaces) (cuts := cu_Re_readPlaces) (G := fun pc ls st σ => if pc = 14 then hd_Re_readPlaces_14 (fun k0 v1 s => f_Re_readPlaces_14 n k0 v1 s) ls st σ else none) hX.2.1 hX.2.2 (F := F_Re_readPlaces _) (fs_Re_readPlaces hX _) (rt_Z rfl) oc_Re_readPlaces (by
    intro pc ls st σ o h
    rcases ite_s h with ⟨rfl, h⟩ | ⟨_, h⟩
    · exact hs_Re_readPlaces_14 ih _ _ _ _ h
    cases h) 188 14 _ _ _ _ h
set_option maxRecDepth 100000 in
theorem s_Re_readPlaces {X : CXT} (hX : XC X) : ∀ (k0 : Nat) (s : Mem) (o : Bool × Mem), f_Re_readPlaces k0 s = some o → BSnd X 9 137 (ovZ o) 0 (entL [.inr (.inr (5, k0))]) [] s := by
  intro k0 s o h
  rw [f_Re_readPlaces_eq] at h
  exact evC (chs := c_Re_readPlaces) (cuts := cu_Re_readPlaces) (G := fun pc ls st σ => if pc = 14 then hd_Re_readPlaces_14 (fun k0 v1 s => f_Re_readPlaces_14 FU k0 v1 s) ls st σ else none) hX.2.1 hX.2.2 (F := F_Re_readPlaces _) (fs_Re_readPlaces hX _) (rt_Z rfl) oc_Re_readPlaces (by
    intro pc ls st σ o h
    rcases ite_s h with ⟨rfl, h⟩ | ⟨_, h⟩
    · exact hs_Re_readPlaces_14 (s_Re_readPlaces_14 hX FU) _ _ _ _ h
    cases h) 188 0 _ _ _ _ h
theorem ok_Re_readPlaces {X : CXT} (hX : XC X) : SemOK X 9 137 sm_Re_readPlaces := by
  intro O av σ K o h
  unfold sm_Re_readPlaces at h
  split at h
  · obtain ⟨r, hf, h⟩ := Option.bind_eq_some_iff.mp h
    exact ⟨ovZ r, fun ht => sp_of hX.1 (by decide) (List.mem_range.mpr (by decide)) (by decide +kernel) ht (Nat.le_of_ble_eq_true rfl) (s_Re_readPlaces hX _ _ _ hf), trivial, h⟩
  · cases h
noncomputable def b_Re_settingLine (k0 : Nat) (v1 : Int32) (s : Mem) : Option (Bool × Mem) :=
  (f_Re_takeNumber k0 ((999 : Int32)) s).bind fun r1 =>
  cif (r1.1 = ((-1 : Int32))) (
    some (false, r1.2)) (
    (f_Re_takeNumber k0 (v1 - ((1 : Int32))) r1.2).bind fun r2 =>
    cif (r2.1 = ((-1 : Int32))) (
      some (false, r2.2)) (
      (f_Re_take k0 ((59 : Int32)) r2.2).bind fun r3 =>
      cif ((b2i r3.1) = 0) (
        some (false, r3.2)) (
        (f_Ro_add (k0 + 12) r1.1 r2.1 ((0 : Int32)) r3.2).bind fun r4 =>
        some (true, r4.2))))
noncomputable def f_Re_settingLine : Nat → Int32 → Mem → Option (Bool × Mem) := Classical.choose (⟨b_Re_settingLine, rfl⟩ : ∃ f : Nat → Int32 → Mem → Option (Bool × Mem), f = b_Re_settingLine)
theorem f_Re_settingLine_eq : f_Re_settingLine = b_Re_settingLine := Classical.choose_spec (⟨b_Re_settingLine, rfl⟩ : ∃ f : Nat → Int32 → Mem → Option (Bool × Mem), f = b_Re_settingLine)
noncomputable def sm_Re_settingLine (O : Type) (av : List AV) (σ : Mem) (K : AV → Mem → Option O) : Option O := match av with
  | [.inr (.inr (5, k0)), .inl v1] => (f_Re_settingLine k0 v1 σ).bind fun r => K (.inl (b2i r.1)) r.2
  | _ => none
def c_Re_settingLine : List (List CE) := [[(0, .aload_n 0, 1, 0, 0, 0), (1, .sipush 999, 3, 999, 0, 0), (4, .invokevirtual 142, 3, 133, 2, 11), (7, .istore_n 2, 1, 0, 0, 0), (8, .iload_n 2, 1, 0, 0, 0), (9, .iconst (-1), 1, 1, 0, 1), (10, .if_icmp .ne 5, 3, 15, 0, 0), (13, .iconst 0, 1, 0, 0, 0), (14, .ireturn, 1, 0, 0, 0), (15, .aload_n 0, 1, 0, 0, 0)], [(16, .iload_n 1, 1, 0, 0, 0), (17, .iconst 1, 1, 1, 0, 0), (18, .isub, 1, 0, 0, 0), (19, .invokevirtual 142, 3, 133, 2, 11), (22, .istore_n 3, 1, 0, 0, 0), (23, .iload_n 3, 1, 0, 0, 0), (24, .iconst (-1), 1, 1, 0, 1), (25, .if_icmp .eq 12, 3, 37, 0, 0), (28, .aload_n 0, 1, 0, 0, 0), (29, .bipush 59, 2, 59, 0, 0), (31, .invokevirtual 145, 3, 125, 2, 11)], [(34, .ifCond .ne 5, 3, 39, 0, 0), (37, .iconst 0, 1, 0, 0, 0), (38, .ireturn, 1, 0, 0, 0), (39, .aload_n 0, 1, 0, 0, 0), (40, .getfield 37, 3, 5, 5, 0), (43, .iload_n 2, 1, 0, 0, 0), (44, .iload_n 3, 1, 0, 0, 0), (45, .iconst 0, 1, 0, 0, 0), (46, .invokevirtual 148, 3, 134, 4, 13)], [(49, .pop, 1, 0, 0, 0), (50, .iconst 1, 1, 1, 0, 0), (51, .ireturn, 1, 0, 0, 0)]]
set_option maxRecDepth 100000 in
theorem oc_Re_settingLine : okC 141 c_Re_settingLine = true := by decide +kernel
def cu_Re_settingLine : List (Nat × List Bool) := []
noncomputable def F_Re_settingLine (O : Type) (a : Nat) (av : List AV) (σ : Mem) (K : AV → Mem → Option O) : Option O := if a = 125 then sm_Re_take O av σ K else if a = 133 then sm_Re_takeNumber O av σ K else if a = 134 then sm_Ro_add O av σ K else none
theorem fs_Re_settingLine {X : CXT} (hX : XC X) (O : Type) : FS X 3 (F_Re_settingLine O) := by
  intro a av σ K o h
  unfold F_Re_settingLine at h
  rcases ite_s h with ⟨rfl, h⟩ | ⟨_, h⟩
  · obtain ⟨r, h1, h2, h3⟩ := ok_Re_take hX _ _ _ _ _ h
    exact ⟨r, fun ht => ⟨2, by decide, h1 ht⟩, h2, h3⟩
  rcases ite_s h with ⟨rfl, h⟩ | ⟨_, h⟩
  · obtain ⟨r, h1, h2, h3⟩ := ok_Re_takeNumber hX _ _ _ _ _ h
    exact ⟨r, fun ht => ⟨2, by decide, h1 ht⟩, h2, h3⟩
  rcases ite_s h with ⟨rfl, h⟩ | ⟨_, h⟩
  · obtain ⟨r, h1, h2, h3⟩ := ok_Ro_add hX _ _ _ _ _ h
    exact ⟨r, fun ht => ⟨2, by decide, h1 ht⟩, h2, h3⟩
  cases h
set_option maxRecDepth 100000 in
theorem s_Re_settingLine {X : CXT} (hX : XC X) : ∀ (k0 : Nat) (v1 : Int32) (s : Mem) (o : Bool × Mem), f_Re_settingLine k0 v1 s = some o → BSnd X 3 141 (ovZ o) 0 (entL [.inr (.inr (5, k0)), .inl v1]) [] s := by
  intro k0 v1 s o h
  rw [f_Re_settingLine_eq] at h
  exact evC (chs := c_Re_settingLine) (cuts := cu_Re_settingLine) (G := fun pc ls st σ => none) hX.2.1 hX.2.2 (F := F_Re_settingLine _) (fs_Re_settingLine hX _) (rt_Z rfl) oc_Re_settingLine (by
    intro pc ls st σ o h
    cases h) 172 0 _ _ _ _ h
theorem ok_Re_settingLine {X : CXT} (hX : XC X) : SemOK X 3 141 sm_Re_settingLine := by
  intro O av σ K o h
  unfold sm_Re_settingLine at h
  split at h
  · obtain ⟨r, hf, h⟩ := Option.bind_eq_some_iff.mp h
    exact ⟨ovZ r, fun ht => sp_of hX.1 (by decide) (List.mem_range.mpr (by decide)) (by decide +kernel) ht (Nat.le_of_ble_eq_true rfl) (s_Re_settingLine hX _ _ _ _ hf), trivial, h⟩
  · cases h
noncomputable def f_Re_readSetting_14 : Nat → Nat → Int32 → Int32 → Mem → Option (Bool × Mem)
  | 0, _, _, _, _ => none
  | n + 1, k0, v1, v2, s =>
    cif (((16 : Int32)) < v2) (
      some (true, s)) (
      (f_Re_sort k0 s).bind fun r1 =>
      cif (r1.1 = 0) (
        some (true, r1.2)) (
        (f_Ro_isFull (k0 + 12) r1.2).bind fun r2 =>
        (f_Re_begin k0 ((1021 : Int32)) ((1021 : Int32)) (b2i r2.1) r2.2).bind fun r3 =>
        cif ((b2i r3.1) = 0) (
          some (false, r3.2)) (
          (f_Re_settingLine k0 v1 r3.2).bind fun r4 =>
          cif ((b2i r4.1) = 0) (
            some (false, r4.2)) (
            f_Re_readSetting_14 n k0 v1 (v2 + (1 : Int32)) r4.2))))
noncomputable def b_Re_readSetting (k0 : Nat) (v1 : Int32) (s : Mem) : Option (Bool × Mem) :=
  (f_Re_scan k0 s).bind fun r1 =>
  (f_Ro_clear (k0 + 12) r1).bind fun r2 =>
  f_Re_readSetting_14 FU k0 v1 ((0 : Int32)) r2.2
noncomputable def f_Re_readSetting : Nat → Int32 → Mem → Option (Bool × Mem) := Classical.choose (⟨b_Re_readSetting, rfl⟩ : ∃ f : Nat → Int32 → Mem → Option (Bool × Mem), f = b_Re_readSetting)
theorem f_Re_readSetting_eq : f_Re_readSetting = b_Re_readSetting := Classical.choose_spec (⟨b_Re_readSetting, rfl⟩ : ∃ f : Nat → Int32 → Mem → Option (Bool × Mem), f = b_Re_readSetting)
noncomputable def sm_Re_readSetting (O : Type) (av : List AV) (σ : Mem) (K : AV → Mem → Option O) : Option O := match av with
  | [.inr (.inr (5, k0)), .inl v1] => (f_Re_readSetting k0 v1 σ).bind fun r => K (.inl (b2i r.1)) r.2
  | _ => none
def c_Re_readSetting : List (List CE) := [[(0, .aload_n 0, 1, 0, 0, 0), (1, .invokevirtual 125, 3, 75, 1, 10), (4, .aload_n 0, 1, 0, 0, 0), (5, .getfield 37, 3, 5, 5, 0), (8, .invokevirtual 128, 3, 130, 1, 13), (11, .pop, 1, 0, 0, 0), (12, .iconst 0, 1, 0, 0, 0), (13, .istore_n 2, 1, 0, 0, 0), (14, .iload_n 2, 1, 0, 0, 0), (15, .bipush 16, 2, 16, 0, 0)], [(17, .if_icmp .gt 46, 3, 63, 0, 0), (20, .aload_n 0, 1, 0, 0, 0), (21, .invokevirtual 115, 3, 113, 1, 11), (24, .ifCond .eq 39, 3, 63, 0, 0), (27, .aload_n 0, 1, 0, 0, 0), (28, .sipush 1021, 3, 1021, 0, 0), (31, .sipush 1021, 3, 1021, 0, 0)], [(34, .aload_n 0, 1, 0, 0, 0), (35, .getfield 37, 3, 5, 5, 0), (38, .invokevirtual 131, 3, 131, 1, 13), (41, .invokevirtual 135, 3, 115, 4, 11), (44, .ifCond .eq 11, 3, 55, 0, 0), (47, .aload_n 0, 1, 0, 0, 0)], [(48, .iload_n 1, 1, 0, 0, 0), (49, .invokevirtual 159, 3, 141, 2, 11), (52, .ifCond .ne 5, 3, 57, 0, 0), (55, .iconst 0, 1, 0, 0, 0), (56, .ireturn, 1, 0, 0, 0), (57, .iinc 2 1, 3, 1, 0, 0), (60, .goto (-46), 3, 14, 0, 0), (63, .iconst 1, 1, 1, 0, 0)], [(64, .ireturn, 1, 0, 0, 0)]]
set_option maxRecDepth 100000 in
theorem oc_Re_readSetting : okC 140 c_Re_readSetting = true := by decide +kernel
def cu_Re_readSetting : List (Nat × List Bool) := [(14, [true, true, true])]
noncomputable def F_Re_readSetting (O : Type) (a : Nat) (av : List AV) (σ : Mem) (K : AV → Mem → Option O) : Option O := if a = 75 then sm_Re_scan O av σ K else if a = 113 then sm_Re_sort O av σ K else if a = 115 then sm_Re_begin O av σ K else if a = 130 then sm_Ro_clear O av σ K else if a = 131 then sm_Ro_isFull O av σ K else if a = 141 then sm_Re_settingLine O av σ K else none
theorem fs_Re_readSetting {X : CXT} (hX : XC X) (O : Type) : FS X 9 (F_Re_readSetting O) := by
  intro a av σ K o h
  unfold F_Re_readSetting at h
  rcases ite_s h with ⟨rfl, h⟩ | ⟨_, h⟩
  · obtain ⟨r, h1, h2, h3⟩ := ok_Re_scan hX _ _ _ _ _ h
    exact ⟨r, fun ht => ⟨8, by decide, h1 ht⟩, h2, h3⟩
  rcases ite_s h with ⟨rfl, h⟩ | ⟨_, h⟩
  · obtain ⟨r, h1, h2, h3⟩ := ok_Re_sort hX _ _ _ _ _ h
    exact ⟨r, fun ht => ⟨1, by decide, h1 ht⟩, h2, h3⟩
  rcases ite_s h with ⟨rfl, h⟩ | ⟨_, h⟩
  · obtain ⟨r, h1, h2, h3⟩ := ok_Re_begin hX _ _ _ _ _ h
    exact ⟨r, fun ht => ⟨2, by decide, h1 ht⟩, h2, h3⟩
  rcases ite_s h with ⟨rfl, h⟩ | ⟨_, h⟩
  · obtain ⟨r, h1, h2, h3⟩ := ok_Ro_clear hX _ _ _ _ _ h
    exact ⟨r, fun ht => ⟨1, by decide, h1 ht⟩, h2, h3⟩
  rcases ite_s h with ⟨rfl, h⟩ | ⟨_, h⟩
  · obtain ⟨r, h1, h2, h3⟩ := ok_Ro_isFull hX _ _ _ _ _ h
    exact ⟨r, fun ht => ⟨1, by decide, h1 ht⟩, h2, h3⟩
  rcases ite_s h with ⟨rfl, h⟩ | ⟨_, h⟩
  · obtain ⟨r, h1, h2, h3⟩ := ok_Re_settingLine hX _ _ _ _ _ h
    exact ⟨r, fun ht => ⟨3, by decide, h1 ht⟩, h2, h3⟩
  cases h
def hd_Re_readSetting_14 {O : Type} (g : Nat → Int32 → Int32 → Mem → Option O) (ls : OL) (st : List AV) (σ : Mem) : Option O := match ls, st with
  | [some (.inr (.inr (5, k0))), some (.inl v1), some (.inl v2)], [] => g k0 v1 v2 σ
  | _, _ => none
theorem hs_Re_readSetting_14 {X : CXT} {g : Nat → Int32 → Int32 → Mem → Option (Bool × Mem)} (hg : ∀ (k0 : Nat) (v1 : Int32) (v2 : Int32) (s : Mem) (o : Bool × Mem), g k0 v1 v2 s = some o → BSnd X 9 140 (ovZ o) 14 [some (.inr (.inr (5, k0))), some (.inl v1), some (.inl v2)] [] s) : ∀ ls st σ o, hd_Re_readSetting_14 g ls st σ = some o → BSnd X 9 140 (ovZ o) 14 ls st σ := by
  intro ls st σ o h
  unfold hd_Re_readSetting_14 at h
  split at h
  · exact hg _ _ _ _ _ h
  · cases h
set_option maxRecDepth 100000 in
theorem s_Re_readSetting_14 {X : CXT} (hX : XC X) : ∀ n : Nat, ∀ (k0 : Nat) (v1 : Int32) (v2 : Int32) (s : Mem) (o : Bool × Mem), f_Re_readSetting_14 n k0 v1 v2 s = some o → BSnd X 9 140 (ovZ o) 14 [some (.inr (.inr (5, k0))), some (.inl v1), some (.inl v2)] [] s := by
  intro n
  induction n with
  | zero => intro k0 v1 v2 s o h; cases h
  | succ n ih =>
    intro k0 v1 v2 s o h
    exact evC (chs := c_Re_readSetting) (cuts := cu_Re_readSetting) (G := fun pc ls st σ => if pc = 14 then hd_Re_readSetting_14 (fun k0 v1 v2 s => f_Re_readSetting_14 n k0 v1 v2 s) ls st σ else none) hX.2.1 hX.2.2 (F := F_Re_readSetting _) (fs_Re_readSetting hX _) (rt_Z rfl) oc_Re_readSetting (by
    intro pc ls st σ o h
    rcases ite_s h with ⟨rfl, h⟩ | ⟨_, h⟩
    · exact hs_Re_readSetting_14 ih _ _ _ _ h
    cases h) 168 14 _ _ _ _ h
set_option maxRecDepth 100000 in
theorem s_Re_readSetting {X : CXT} (hX : XC X) : ∀ (k0 : Nat) (v1 : Int32) (s : Mem) (o : Bool × Mem), f_Re_readSetting k0 v1 s = some o → BSnd X 9 140 (ovZ o) 0 (entL [.inr (.inr (5, k0)), .inl v1]) [] s := by
  intro k0 v1 s o h
  rw [f_Re_readSetting_eq] at h
  exact evC (chs := c_Re_readSetting) (cuts := cu_Re_readSetting) (G := fun pc ls st σ => if pc = 14 then hd_Re_readSetting_14 (fun k0 v1 v2 s => f_Re_readSetting_14 FU k0 v1 v2 s) ls st σ else none) hX.2.1 hX.2.2 (F := F_Re_readSetting _) (fs_Re_readSetting hX _) (rt_Z rfl) oc_Re_readSetting (by
    intro pc ls st σ o h
    rcases ite_s h with ⟨rfl, h⟩ | ⟨_, h⟩
    · exact hs_Re_readSetting_14 (s_Re_readSetting_14 hX FU) _ _ _ _ h
    cases h) 168 0 _ _ _ _ h
theorem ok_Re_readSetting {X : CXT} (hX : XC X) : SemOK X 9 140 sm_Re_readSetting := by
  intro O av σ K o h
  unfold sm_Re_readSetting at h
  split at h
  · obtain ⟨r, hf, h⟩ := Option.bind_eq_some_iff.mp h
    exact ⟨ovZ r, fun ht => sp_of hX.1 (by decide) (List.mem_range.mpr (by decide)) (by decide +kernel) ht (Nat.le_of_ble_eq_true rfl) (s_Re_readSetting hX _ _ _ _ hf), trivial, h⟩
  · cases h
noncomputable def b_P_text (k0 : Nat) (v1 : Int32) (s : Mem) : Option (Int32 × Mem) :=
  cif (v1 = (0 : Int32)) (
    (f_Re_readLaw (k0 + 160) s).bind fun r1 =>
    cif ((b2i r1.1) = 0) (
      some ((-1 : Int32), r1.2)) (
      (f_To_tellLaw (k0 + 7) (k0 + 165) r1.2).bind fun r2 =>
      some (r2.1, r2.2))) (
    cif (v1 = (1 : Int32)) (
      (f_Re_readDeeds (k0 + 160) s).bind fun r3 =>
      (f_P_tellDated k0 (b2i r3.1) (k0 + 18) r3.2).bind fun r4 =>
      some (r4.1, r4.2)) (
      cif (v1 = (2 : Int32)) (
        (f_Re_readPlaces (k0 + 160) s).bind fun r5 =>
        cif ((b2i r5.1) = 0) (
          some ((-1 : Int32), r5.2)) (
          (f_Ro_copyFrom (k0 + 22) (k0 + 172) r5.2).bind fun r6 =>
          some (r6.1, r6.2))) (
        cif (v1 = (3 : Int32)) (
          (f_Re_readSetting (k0 + 160) (rI s (k0 + 7) 7) s).bind fun r7 =>
          (f_P_tellDated k0 (b2i r7.1) (k0 + 26) r7.2).bind fun r8 =>
          some (r8.1, r8.2)) (
          (f_Re_discard (k0 + 160) s).bind fun r9 =>
          some ((-1 : Int32), r9)))))
noncomputable def f_P_text : Nat → Int32 → Mem → Option (Int32 × Mem) := Classical.choose (⟨b_P_text, rfl⟩ : ∃ f : Nat → Int32 → Mem → Option (Int32 × Mem), f = b_P_text)
theorem f_P_text_eq : f_P_text = b_P_text := Classical.choose_spec (⟨b_P_text, rfl⟩ : ∃ f : Nat → Int32 → Mem → Option (Int32 × Mem), f = b_P_text)
noncomputable def sm_P_text (O : Type) (av : List AV) (σ : Mem) (K : AV → Mem → Option O) : Option O := match av with
  | [.inr (.inr (11, k0)), .inl v1] => (f_P_text k0 v1 σ).bind fun r => K (.inl r.1) r.2
  | _ => none
def c_P_text : List (List CE) := [[(0, .iload_n 1, 1, 0, 0, 0), (1, .tableswitch 152 0 3 #[31, 63, 85, 120], 31, 0, 0, 0)], [], [(32, .aload_n 0, 1, 0, 0, 0), (33, .getfield 55, 3, 11, 5, 0), (36, .invokevirtual 171, 3, 74, 1, 11), (39, .ifCond .eq 23, 3, 62, 0, 0), (42, .aload_n 0, 1, 0, 0, 0), (43, .getfield 10, 3, 11, 0, 0), (46, .getfield 30, 3, 10, 1, 0)], [(49, .aload_n 0, 1, 0, 0, 0), (50, .getfield 55, 3, 11, 5, 0), (53, .getfield 175, 3, 5, 4, 0), (56, .invokevirtual 179, 3, 127, 2, 17), (59, .goto 4, 3, 63, 0, 0), (62, .iconst (-1), 1, 1, 0, 1), (63, .ireturn, 1, 0, 0, 0)], [(64, .aload_n 0, 1, 0, 0, 0), (65, .aload_n 0, 1, 0, 0, 0), (66, .getfield 55, 3, 11, 5, 0), (69, .invokevirtual 183, 3, 129, 1, 11), (72, .aload_n 0, 1, 0, 0, 0), (73, .getfield 10, 3, 11, 0, 0), (76, .getfield 30, 3, 10, 1, 0), (79, .getfield 186, 3, 8, 4, 0)], [(82, .invokevirtual 190, 3, 135, 3, 23), (85, .ireturn, 1, 0, 0, 0), (86, .aload_n 0, 1, 0, 0, 0), (87, .getfield 55, 3, 11, 5, 0), (90, .invokevirtual 194, 3, 137, 1, 11), (93, .ifCond .eq 26, 3, 119, 0, 0)], [(96, .aload_n 0, 1, 0, 0, 0), (97, .getfield 10, 3, 11, 0, 0), (100, .getfield 30, 3, 10, 1, 0), (103, .getfield 197, 3, 8, 5, 0), (106, .aload_n 0, 1, 0, 0, 0), (107, .getfield 55, 3, 11, 5, 0), (110, .getfield 200, 3, 5, 5, 0)], [(113, .invokevirtual 203, 3, 136, 2, 13), (116, .goto 4, 3, 120, 0, 0), (119, .iconst (-1), 1, 1, 0, 1), (120, .ireturn, 1, 0, 0, 0), (121, .aload_n 0, 1, 0, 0, 0), (122, .aload_n 0, 1, 0, 0, 0), (123, .getfield 55, 3, 11, 5, 0), (126, .aload_n 0, 1, 0, 0, 0), (127, .getfield 10, 3, 11, 0, 0)], [(130, .getfield 30, 3, 10, 1, 0), (133, .getfield 209, 3, 8, 7, 0), (136, .invokevirtual 212, 3, 140, 2, 11), (139, .aload_n 0, 1, 0, 0, 0), (140, .getfield 10, 3, 11, 0, 0), (143, .getfield 30, 3, 10, 1, 0)], [(146, .getfield 215, 3, 8, 6, 0), (149, .invokevirtual 190, 3, 135, 3, 23), (152, .ireturn, 1, 0, 0, 0), (153, .aload_n 0, 1, 0, 0, 0), (154, .getfield 55, 3, 11, 5, 0), (157, .invokevirtual 218, 3, 76, 1, 10)], [(160, .iconst (-1), 1, 1, 0, 1), (161, .ireturn, 1, 0, 0, 0)]]
set_option maxRecDepth 100000 in
theorem oc_P_text : okC 73 c_P_text = true := by decide +kernel
def cu_P_text : List (Nat × List Bool) := []
noncomputable def F_P_text (O : Type) (a : Nat) (av : List AV) (σ : Mem) (K : AV → Mem → Option O) : Option O := if a = 74 then sm_Re_readLaw O av σ K else if a = 76 then sm_Re_discard O av σ K else if a = 127 then sm_To_tellLaw O av σ K else if a = 129 then sm_Re_readDeeds O av σ K else if a = 135 then sm_P_tellDated O av σ K else if a = 136 then sm_Ro_copyFrom O av σ K else if a = 137 then sm_Re_readPlaces O av σ K else if a = 140 then sm_Re_readSetting O av σ K else none
theorem fs_P_text {X : CXT} (hX : XC X) (O : Type) : FS X 31 (F_P_text O) := by
  intro a av σ K o h
  unfold F_P_text at h
  rcases ite_s h with ⟨rfl, h⟩ | ⟨_, h⟩
  · obtain ⟨r, h1, h2, h3⟩ := ok_Re_readLaw hX _ _ _ _ _ h
    exact ⟨r, fun ht => ⟨30, by decide, h1 ht⟩, h2, h3⟩
  rcases ite_s h with ⟨rfl, h⟩ | ⟨_, h⟩
  · obtain ⟨r, h1, h2, h3⟩ := ok_Re_discard hX _ _ _ _ _ h
    exact ⟨r, fun ht => ⟨1, by decide, h1 ht⟩, h2, h3⟩
  rcases ite_s h with ⟨rfl, h⟩ | ⟨_, h⟩
  · obtain ⟨r, h1, h2, h3⟩ := ok_To_tellLaw hX _ _ _ _ _ h
    exact ⟨r, fun ht => ⟨2, by decide, h1 ht⟩, h2, h3⟩
  rcases ite_s h with ⟨rfl, h⟩ | ⟨_, h⟩
  · obtain ⟨r, h1, h2, h3⟩ := ok_Re_readDeeds hX _ _ _ _ _ h
    exact ⟨r, fun ht => ⟨9, by decide, h1 ht⟩, h2, h3⟩
  rcases ite_s h with ⟨rfl, h⟩ | ⟨_, h⟩
  · obtain ⟨r, h1, h2, h3⟩ := ok_P_tellDated hX _ _ _ _ _ h
    exact ⟨r, fun ht => ⟨4, by decide, h1 ht⟩, h2, h3⟩
  rcases ite_s h with ⟨rfl, h⟩ | ⟨_, h⟩
  · obtain ⟨r, h1, h2, h3⟩ := ok_Ro_copyFrom hX _ _ _ _ _ h
    exact ⟨r, fun ht => ⟨3, by decide, h1 ht⟩, h2, h3⟩
  rcases ite_s h with ⟨rfl, h⟩ | ⟨_, h⟩
  · obtain ⟨r, h1, h2, h3⟩ := ok_Re_readPlaces hX _ _ _ _ _ h
    exact ⟨r, fun ht => ⟨9, by decide, h1 ht⟩, h2, h3⟩
  rcases ite_s h with ⟨rfl, h⟩ | ⟨_, h⟩
  · obtain ⟨r, h1, h2, h3⟩ := ok_Re_readSetting hX _ _ _ _ _ h
    exact ⟨r, fun ht => ⟨9, by decide, h1 ht⟩, h2, h3⟩
  cases h
set_option maxRecDepth 100000 in
theorem s_P_text {X : CXT} (hX : XC X) : ∀ (k0 : Nat) (v1 : Int32) (s : Mem) (o : Int32 × Mem), f_P_text k0 v1 s = some o → BSnd X 31 73 (ovI o) 0 (entL [.inr (.inr (11, k0)), .inl v1]) [] s := by
  intro k0 v1 s o h
  rw [f_P_text_eq] at h
  exact evC (chs := c_P_text) (cuts := cu_P_text) (G := fun pc ls st σ => none) hX.2.1 hX.2.2 (F := F_P_text _) (fs_P_text hX _) (rt_I rfl) oc_P_text (by
    intro pc ls st σ o h
    cases h) 280 0 _ _ _ _ h
theorem ok_P_text {X : CXT} (hX : XC X) : SemOK X 31 73 sm_P_text := by
  intro O av σ K o h
  unfold sm_P_text at h
  split at h
  · obtain ⟨r, hf, h⟩ := Option.bind_eq_some_iff.mp h
    exact ⟨ovI r, fun ht => sp_of hX.1 (by decide) (List.mem_range.mpr (by decide)) (by decide +kernel) ht (Nat.le_of_ble_eq_true rfl) (s_P_text hX _ _ _ _ hf), trivial, h⟩
  · cases h
noncomputable def b_Pr_checkFromToIndex (v0 : Int32) (v1 : Int32) (v2 : Int32) (k3 : Nat) (s : Mem) : Option (Int32 × Mem) :=
  cif (v0 < 0) (
    none) (
    cif (v1 < v0) (
      none) (
      cif (v1 ≤ v2) (
        some (v0, s)) (
        none)))
noncomputable def f_Pr_checkFromToIndex : Int32 → Int32 → Int32 → Nat → Mem → Option (Int32 × Mem) := Classical.choose (⟨b_Pr_checkFromToIndex, rfl⟩ : ∃ f : Int32 → Int32 → Int32 → Nat → Mem → Option (Int32 × Mem), f = b_Pr_checkFromToIndex)
theorem f_Pr_checkFromToIndex_eq : f_Pr_checkFromToIndex = b_Pr_checkFromToIndex := Classical.choose_spec (⟨b_Pr_checkFromToIndex, rfl⟩ : ∃ f : Int32 → Int32 → Int32 → Nat → Mem → Option (Int32 × Mem), f = b_Pr_checkFromToIndex)
noncomputable def sm_Pr_checkFromToIndex (O : Type) (av : List AV) (σ : Mem) (K : AV → Mem → Option O) : Option O := match av with
  | [.inl v0, .inl v1, .inl v2, .inr (.inr (153, k3))] => (f_Pr_checkFromToIndex v0 v1 v2 k3 σ).bind fun r => K (.inl r.1) r.2
  | _ => none
def c_Pr_checkFromToIndex : List (List CE) := [[(0, .iload_n 0, 1, 0, 0, 0), (1, .ifCond .lt 13, 3, 14, 0, 0), (4, .iload_n 0, 1, 0, 0, 0), (5, .iload_n 1, 1, 0, 0, 0), (6, .if_icmp .gt 8, 3, 14, 0, 0), (9, .iload_n 1, 1, 0, 0, 0), (10, .iload_n 2, 1, 0, 0, 0), (11, .if_icmp .le 11, 3, 22, 0, 0), (14, .aload_n 3, 1, 0, 0, 0), (15, .iload_n 0, 1, 0, 0, 0)], [(16, .iload_n 1, 1, 0, 0, 0), (17, .iload_n 2, 1, 0, 0, 0), (22, .iload_n 0, 1, 0, 0, 0), (23, .ireturn, 1, 0, 0, 0)]]
set_option maxRecDepth 100000 in
theorem oc_Pr_checkFromToIndex : okC 106 c_Pr_checkFromToIndex = true := by decide +kernel
def cu_Pr_checkFromToIndex : List (Nat × List Bool) := []
noncomputable def F_Pr_checkFromToIndex (O : Type) (a : Nat) (av : List AV) (σ : Mem) (K : AV → Mem → Option O) : Option O := none
theorem fs_Pr_checkFromToIndex {X : CXT} (hX : XJ X) (O : Type) : FS X 1 (F_Pr_checkFromToIndex O) := by
  intro a av σ K o h
  cases h
set_option maxRecDepth 100000 in
theorem s_Pr_checkFromToIndex {X : CXT} (hX : XJ X) : ∀ (v0 : Int32) (v1 : Int32) (v2 : Int32) (k3 : Nat) (s : Mem) (o : Int32 × Mem), f_Pr_checkFromToIndex v0 v1 v2 k3 s = some o → BSnd X 1 106 (ovI o) 0 (entL [.inl v0, .inl v1, .inl v2, .inr (.inr (153, k3))]) [] s := by
  intro v0 v1 v2 k3 s o h
  rw [f_Pr_checkFromToIndex_eq] at h
  exact evC (chs := c_Pr_checkFromToIndex) (cuts := cu_Pr_checkFromToIndex) (G := fun pc ls st σ => none) rfl hX.2 (F := F_Pr_checkFromToIndex _) (fs_Pr_checkFromToIndex hX _) (rt_I rfl) oc_Pr_checkFromToIndex (by
    intro pc ls st σ o h
    cases h) 104 0 _ _ _ _ h
theorem ok_Pr_checkFromToIndex {X : CXT} (hX : XJ X) : SemOK X 1 106 sm_Pr_checkFromToIndex := by
  intro O av σ K o h
  unfold sm_Pr_checkFromToIndex at h
  split at h
  · obtain ⟨r, hf, h⟩ := Option.bind_eq_some_iff.mp h
    exact ⟨ovI r, fun ht => sp_of hX.1 (by decide) (List.mem_range.mpr (by decide)) (by decide +kernel) ht (Nat.le_of_ble_eq_true rfl) (s_Pr_checkFromToIndex hX _ _ _ _ _ _ hf), trivial, h⟩
  · cases h
noncomputable def b_St_checkBoundsBeginEnd (v0 : Int32) (v1 : Int32) (v2 : Int32) (s : Mem) : Option (Mem) :=
  (f_Pr_checkFromToIndex v0 v1 v2 0 s).bind fun r1 =>
  some r1.2
noncomputable def f_St_checkBoundsBeginEnd : Int32 → Int32 → Int32 → Mem → Option (Mem) := Classical.choose (⟨b_St_checkBoundsBeginEnd, rfl⟩ : ∃ f : Int32 → Int32 → Int32 → Mem → Option (Mem), f = b_St_checkBoundsBeginEnd)
theorem f_St_checkBoundsBeginEnd_eq : f_St_checkBoundsBeginEnd = b_St_checkBoundsBeginEnd := Classical.choose_spec (⟨b_St_checkBoundsBeginEnd, rfl⟩ : ∃ f : Int32 → Int32 → Int32 → Mem → Option (Mem), f = b_St_checkBoundsBeginEnd)
noncomputable def sm_St_checkBoundsBeginEnd (O : Type) (av : List AV) (σ : Mem) (K : AV → Mem → Option O) : Option O := match av with
  | [.inl v0, .inl v1, .inl v2] => (f_St_checkBoundsBeginEnd v0 v1 v2 σ).bind fun r => K (.inl 0) r
  | _ => none
def c_St_checkBoundsBeginEnd : List (List CE) := [[(0, .iload_n 0, 1, 0, 0, 0), (1, .iload_n 1, 1, 0, 0, 0), (2, .iload_n 2, 1, 0, 0, 0), (3, .getstatic 1053, 3, 0, 0, 2), (6, .invokestatic 1062, 3, 106, 4, 1), (9, .pop, 1, 0, 0, 0), (10, .return_, 1, 0, 0, 0)]]
set_option maxRecDepth 100000 in
theorem oc_St_checkBoundsBeginEnd : okC 105 c_St_checkBoundsBeginEnd = true := by decide +kernel
def cu_St_checkBoundsBeginEnd : List (Nat × List Bool) := []
noncomputable def F_St_checkBoundsBeginEnd (O : Type) (a : Nat) (av : List AV) (σ : Mem) (K : AV → Mem → Option O) : Option O := if a = 106 then sm_Pr_checkFromToIndex O av σ K else none
theorem fs_St_checkBoundsBeginEnd {X : CXT} (hX : XJ X) (O : Type) : FS X 2 (F_St_checkBoundsBeginEnd O) := by
  intro a av σ K o h
  unfold F_St_checkBoundsBeginEnd at h
  rcases ite_s h with ⟨rfl, h⟩ | ⟨_, h⟩
  · obtain ⟨r, h1, h2, h3⟩ := ok_Pr_checkFromToIndex hX _ _ _ _ _ h
    exact ⟨r, fun ht => ⟨1, by decide, h1 ht⟩, h2, h3⟩
  cases h
set_option maxRecDepth 100000 in
theorem s_St_checkBoundsBeginEnd {X : CXT} (hX : XJ X) : ∀ (v0 : Int32) (v1 : Int32) (v2 : Int32) (s : Mem) (o : Mem), f_St_checkBoundsBeginEnd v0 v1 v2 s = some o → BSnd X 2 105 (ovV o) 0 (entL [.inl v0, .inl v1, .inl v2]) [] s := by
  intro v0 v1 v2 s o h
  rw [f_St_checkBoundsBeginEnd_eq] at h
  exact evC (chs := c_St_checkBoundsBeginEnd) (cuts := cu_St_checkBoundsBeginEnd) (G := fun pc ls st σ => none) rfl hX.2 (F := F_St_checkBoundsBeginEnd _) (fs_St_checkBoundsBeginEnd hX _) (rt_V rfl) oc_St_checkBoundsBeginEnd (by
    intro pc ls st σ o h
    cases h) 68 0 _ _ _ _ h
theorem ok_St_checkBoundsBeginEnd {X : CXT} (hX : XJ X) : SemOK X 2 105 sm_St_checkBoundsBeginEnd := by
  intro O av σ K o h
  unfold sm_St_checkBoundsBeginEnd at h
  split at h
  · obtain ⟨r, hf, h⟩ := Option.bind_eq_some_iff.mp h
    exact ⟨ovV r, fun ht => sp_of hX.1 (by decide) (List.mem_range.mpr (by decide)) (by decide +kernel) ht (Nat.le_of_ble_eq_true rfl) (s_St_checkBoundsBeginEnd hX _ _ _ _ _ hf), trivial, h⟩
  · cases h
noncomputable def b_P_fault (k0 : Nat) (v1 : Int32) (s : Mem) : Option (Int32 × Mem) :=
  cif (v1 = (0 : Int32)) (
    some (rI s (k0 + 160) 10, s)) (
    cif (v1 = (1 : Int32)) (
      some (rI s (k0 + 160) 11, s)) (
      some ((-1 : Int32), s)))
noncomputable def f_P_fault : Nat → Int32 → Mem → Option (Int32 × Mem) := Classical.choose (⟨b_P_fault, rfl⟩ : ∃ f : Nat → Int32 → Mem → Option (Int32 × Mem), f = b_P_fault)
theorem f_P_fault_eq : f_P_fault = b_P_fault := Classical.choose_spec (⟨b_P_fault, rfl⟩ : ∃ f : Nat → Int32 → Mem → Option (Int32 × Mem), f = b_P_fault)
noncomputable def sm_P_fault (O : Type) (av : List AV) (σ : Mem) (K : AV → Mem → Option O) : Option O := match av with
  | [.inr (.inr (11, k0)), .inl v1] => (f_P_fault k0 v1 σ).bind fun r => K (.inl r.1) r.2
  | _ => none
def c_P_fault : List (List CE) := [[(0, .iload_n 1, 1, 0, 0, 0), (1, .lookupswitch 43 #[(0, 27), (1, 35)], 27, 0, 0, 0)], [(28, .aload_n 0, 1, 0, 0, 0), (29, .getfield 55, 3, 11, 5, 0)], [(32, .getfield 221, 3, 5, 10, 0), (35, .ireturn, 1, 0, 0, 0), (36, .aload_n 0, 1, 0, 0, 0), (37, .getfield 55, 3, 11, 5, 0), (40, .getfield 224, 3, 5, 11, 0), (43, .ireturn, 1, 0, 0, 0), (44, .iconst (-1), 1, 1, 0, 1), (45, .ireturn, 1, 0, 0, 0)]]
set_option maxRecDepth 100000 in
theorem oc_P_fault : okC 142 c_P_fault = true := by decide +kernel
def cu_P_fault : List (Nat × List Bool) := []
noncomputable def F_P_fault (O : Type) (a : Nat) (av : List AV) (σ : Mem) (K : AV → Mem → Option O) : Option O := none
theorem fs_P_fault {X : CXT} (hX : XC X) (O : Type) : FS X 1 (F_P_fault O) := by
  intro a av σ K o h
  cases h
set_option maxRecDepth 100000 in
theorem s_P_fault {X : CXT} (hX : XC X) : ∀ (k0 : Nat) (v1 : Int32) (s : Mem) (o : Int32 × Mem), f_P_fault k0 v1 s = some o → BSnd X 1 142 (ovI o) 0 (entL [.inr (.inr (11, k0)), .inl v1]) [] s := by
  intro k0 v1 s o h
  rw [f_P_fault_eq] at h
  exact evC (chs := c_P_fault) (cuts := cu_P_fault) (G := fun pc ls st σ => none) hX.2.1 hX.2.2 (F := F_P_fault _) (fs_P_fault hX _) (rt_I rfl) oc_P_fault (by
    intro pc ls st σ o h
    cases h) 88 0 _ _ _ _ h
theorem ok_P_fault {X : CXT} (hX : XC X) : SemOK X 1 142 sm_P_fault := by
  intro O av σ K o h
  unfold sm_P_fault at h
  split at h
  · obtain ⟨r, hf, h⟩ := Option.bind_eq_some_iff.mp h
    exact ⟨ovI r, fun ht => sp_of hX.1 (by decide) (List.mem_range.mpr (by decide)) (by decide +kernel) ht (Nat.le_of_ble_eq_true rfl) (s_P_fault hX _ _ _ _ hf), trivial, h⟩
  · cases h
noncomputable def b_P_of (k0 : Nat) (v1 : Int32) (v2 : Int32) (s : Mem) : Option (Int32 × Mem) :=
  (f_To_isWalker (k0 + 7) v1 s).bind fun r1 =>
  cif ((b2i r1.1) = 0) (
    some ((-2 : Int32), r1.2)) (
    cif (v2 = (0 : Int32)) (
      gd (inb v1 (lenC (k0 + 8))) <|
      some (rI r1.2 (k0 + 8) (ix v1), r1.2)) (
      cif (v2 = (1 : Int32)) (
        gd (inb v1 (lenC (k0 + 9))) <|
        some (rI r1.2 (k0 + 9) (ix v1), r1.2)) (
        cif (v2 = (2 : Int32)) (
          gd (inb v1 (lenC (k0 + 10))) <|
          some (rI r1.2 (k0 + 10) (ix v1), r1.2)) (
          cif (v2 = (3 : Int32)) (
            gd (inb v1 (lenC (k0 + 4))) <|
            some (rI r1.2 (k0 + 4) (ix v1), r1.2)) (
            cif (v2 = (4 : Int32)) (
              gd (inb v1 (lenC (k0 + 5))) <|
              cif ((rI r1.2 (k0 + 5) (ix v1)) = 0) (
                some ((0 : Int32), r1.2)) (
                some ((1 : Int32), r1.2))) (
              cif (v2 = (5 : Int32)) (
                gd (inb v1 (lenC (k0 + 6))) <|
                some (rI r1.2 (k0 + 6) (ix v1), r1.2)) (
                cif (v2 = (6 : Int32)) (
                  (f_Co_walksOf (k0 + 126) (k0 + 2) v1 r1.2).bind fun r2 =>
                  some (r2.1, r2.2)) (
                  some ((-2 : Int32), r1.2)))))))))
noncomputable def f_P_of : Nat → Int32 → Int32 → Mem → Option (Int32 × Mem) := Classical.choose (⟨b_P_of, rfl⟩ : ∃ f : Nat → Int32 → Int32 → Mem → Option (Int32 × Mem), f = b_P_of)
theorem f_P_of_eq : f_P_of = b_P_of := Classical.choose_spec (⟨b_P_of, rfl⟩ : ∃ f : Nat → Int32 → Int32 → Mem → Option (Int32 × Mem), f = b_P_of)
noncomputable def sm_P_of (O : Type) (av : List AV) (σ : Mem) (K : AV → Mem → Option O) : Option O := match av with
  | [.inr (.inr (11, k0)), .inl v1, .inl v2] => (f_P_of k0 v1 v2 σ).bind fun r => K (.inl r.1) r.2
  | _ => none
def c_P_of : List (List CE) := [[(0, .aload_n 0, 1, 0, 0, 0), (1, .getfield 10, 3, 11, 0, 0), (4, .getfield 30, 3, 10, 1, 0), (7, .iload_n 1, 1, 0, 0, 0), (8, .invokevirtual 97, 3, 22, 2, 17), (11, .ifCond .ne 6, 3, 17, 0, 0), (14, .bipush (-2), 2, 2, 0, 1)], [(16, .ireturn, 1, 0, 0, 0), (17, .iload_n 2, 1, 0, 0, 0), (18, .tableswitch 144 0 6 #[42, 55, 68, 81, 94, 115, 128], 42, 0, 0, 0)], [], [(60, .aload_n 0, 1, 0, 0, 0), (61, .getfield 10, 3, 11, 0, 0)], [(64, .getfield 30, 3, 10, 1, 0), (67, .getfield 227, 3, 8, 0, 0), (70, .iload_n 1, 1, 0, 0, 0), (71, .iaload, 1, 0, 0, 0), (72, .ireturn, 1, 0, 0, 0), (73, .aload_n 0, 1, 0, 0, 0), (74, .getfield 10, 3, 11, 0, 0), (77, .getfield 30, 3, 10, 1, 0)], [(80, .getfield 231, 3, 8, 1, 0), (83, .iload_n 1, 1, 0, 0, 0), (84, .iaload, 1, 0, 0, 0), (85, .ireturn, 1, 0, 0, 0), (86, .aload_n 0, 1, 0, 0, 0), (87, .getfield 10, 3, 11, 0, 0), (90, .getfield 30, 3, 10, 1, 0), (93, .getfield 234, 3, 8, 2, 0)], [(96, .iload_n 1, 1, 0, 0, 0), (97, .iaload, 1, 0, 0, 0), (98, .ireturn, 1, 0, 0, 0), (99, .aload_n 0, 1, 0, 0, 0), (100, .getfield 10, 3, 11, 0, 0), (103, .getfield 70, 3, 10, 0, 0), (106, .getfield 237, 3, 4, 2, 0), (109, .iload_n 1, 1, 0, 0, 0), (110, .iaload, 1, 0, 0, 0), (111, .ireturn, 1, 0, 0, 0)], [(112, .aload_n 0, 1, 0, 0, 0), (113, .getfield 10, 3, 11, 0, 0), (116, .getfield 70, 3, 10, 0, 0), (119, .getfield 240, 3, 4, 3, 0), (122, .iload_n 1, 1, 0, 0, 0), (123, .baload, 1, 0, 0, 0), (124, .ifCond .eq 7, 3, 131, 0, 0), (127, .iconst 1, 1, 1, 0, 0)], [(128, .goto 4, 3, 132, 0, 0), (131, .iconst 0, 1, 0, 0, 0), (132, .ireturn, 1, 0, 0, 0), (133, .aload_n 0, 1, 0, 0, 0), (134, .getfield 10, 3, 11, 0, 0), (137, .getfield 70, 3, 10, 0, 0), (140, .getfield 244, 3, 4, 4, 0), (143, .iload_n 1, 1, 0, 0, 0)], [(144, .iaload, 1, 0, 0, 0), (145, .ireturn, 1, 0, 0, 0), (146, .aload_n 0, 1, 0, 0, 0), (147, .getfield 41, 3, 11, 3, 0), (150, .aload_n 0, 1, 0, 0, 0), (151, .getfield 10, 3, 11, 0, 0), (154, .getfield 70, 3, 10, 0, 0), (157, .iload_n 1, 1, 0, 0, 0), (158, .invokevirtual 247, 3, 64, 3, 1)], [(161, .ireturn, 1, 0, 0, 0), (162, .bipush (-2), 2, 2, 0, 1), (164, .ireturn, 1, 0, 0, 0)]]
set_option maxRecDepth 100000 in
theorem oc_P_of : okC 143 c_P_of = true := by decide +kernel
def cu_P_of : List (Nat × List Bool) := []
noncomputable def F_P_of (O : Type) (a : Nat) (av : List AV) (σ : Mem) (K : AV → Mem → Option O) : Option O := if a = 22 then sm_To_isWalker O av σ K else if a = 64 then sm_Co_walksOf O av σ K else none
theorem fs_P_of {X : CXT} (hX : XC X) (O : Type) : FS X 5 (F_P_of O) := by
  intro a av σ K o h
  unfold F_P_of at h
  rcases ite_s h with ⟨rfl, h⟩ | ⟨_, h⟩
  · obtain ⟨r, h1, h2, h3⟩ := ok_To_isWalker hX _ _ _ _ _ h
    exact ⟨r, fun ht => ⟨1, by decide, h1 ht⟩, h2, h3⟩
  rcases ite_s h with ⟨rfl, h⟩ | ⟨_, h⟩
  · obtain ⟨r, h1, h2, h3⟩ := ok_Co_walksOf hX _ _ _ _ _ h
    exact ⟨r, fun ht => ⟨4, by decide, h1 ht⟩, h2, h3⟩
  cases h
set_option maxRecDepth 100000 in
theorem s_P_of {X : CXT} (hX : XC X) : ∀ (k0 : Nat) (v1 : Int32) (v2 : Int32) (s : Mem) (o : Int32 × Mem), f_P_of k0 v1 v2 s = some o → BSnd X 5 143 (ovI o) 0 (entL [.inr (.inr (11, k0)), .inl v1, .inl v2]) [] s := by
  intro k0 v1 v2 s o h
  rw [f_P_of_eq] at h
  exact evC (chs := c_P_of) (cuts := cu_P_of) (G := fun pc ls st σ => none) hX.2.1 hX.2.2 (F := F_P_of _) (fs_P_of hX _) (rt_I rfl) oc_P_of (by
    intro pc ls st σ o h
    cases h) 304 0 _ _ _ _ h
theorem ok_P_of {X : CXT} (hX : XC X) : SemOK X 5 143 sm_P_of := by
  intro O av σ K o h
  unfold sm_P_of at h
  split at h
  · obtain ⟨r, hf, h⟩ := Option.bind_eq_some_iff.mp h
    exact ⟨ovI r, fun ht => sp_of hX.1 (by decide) (List.mem_range.mpr (by decide)) (by decide +kernel) ht (Nat.le_of_ble_eq_true rfl) (s_P_of hX _ _ _ _ _ hf), trivial, h⟩
  · cases h
noncomputable def b_To_isPlaced (k0 : Nat) (v1 : Int32) (v2 : Int32) (s : Mem) : Option (Bool × Mem) :=
  (f_Ro_contains (k0 + 15) v1 v2 s).bind fun r1 =>
  lf (rB (b2i r1.1)) r1.2
noncomputable def f_To_isPlaced : Nat → Int32 → Int32 → Mem → Option (Bool × Mem) := Classical.choose (⟨b_To_isPlaced, rfl⟩ : ∃ f : Nat → Int32 → Int32 → Mem → Option (Bool × Mem), f = b_To_isPlaced)
theorem f_To_isPlaced_eq : f_To_isPlaced = b_To_isPlaced := Classical.choose_spec (⟨b_To_isPlaced, rfl⟩ : ∃ f : Nat → Int32 → Int32 → Mem → Option (Bool × Mem), f = b_To_isPlaced)
noncomputable def sm_To_isPlaced (O : Type) (av : List AV) (σ : Mem) (K : AV → Mem → Option O) : Option O := match av with
  | [.inr (.inr (8, k0)), .inl v1, .inl v2] => (f_To_isPlaced k0 v1 v2 σ).bind fun r => K (.inl (b2i r.1)) r.2
  | _ => none
def c_To_isPlaced : List (List CE) := [[(0, .aload_n 0, 1, 0, 0, 0), (1, .getfield 37, 3, 8, 5, 0), (4, .iload_n 1, 1, 0, 0, 0), (5, .iload_n 2, 1, 0, 0, 0), (6, .invokevirtual 74, 3, 139, 3, 13), (9, .ireturn, 1, 0, 0, 0)]]
set_option maxRecDepth 100000 in
theorem oc_To_isPlaced : okC 145 c_To_isPlaced = true := by decide +kernel
def cu_To_isPlaced : List (Nat × List Bool) := []
noncomputable def F_To_isPlaced (O : Type) (a : Nat) (av : List AV) (σ : Mem) (K : AV → Mem → Option O) : Option O := if a = 139 then sm_Ro_contains O av σ K else none
theorem fs_To_isPlaced {X : CXT} (hX : XC X) (O : Type) : FS X 2 (F_To_isPlaced O) := by
  intro a av σ K o h
  unfold F_To_isPlaced at h
  rcases ite_s h with ⟨rfl, h⟩ | ⟨_, h⟩
  · obtain ⟨r, h1, h2, h3⟩ := ok_Ro_contains hX _ _ _ _ _ h
    exact ⟨r, fun ht => ⟨1, by decide, h1 ht⟩, h2, h3⟩
  cases h
set_option maxRecDepth 100000 in
theorem s_To_isPlaced {X : CXT} (hX : XC X) : ∀ (k0 : Nat) (v1 : Int32) (v2 : Int32) (s : Mem) (o : Bool × Mem), f_To_isPlaced k0 v1 v2 s = some o → BSnd X 2 145 (ovZ o) 0 (entL [.inr (.inr (8, k0)), .inl v1, .inl v2]) [] s := by
  intro k0 v1 v2 s o h
  rw [f_To_isPlaced_eq] at h
  exact evC (chs := c_To_isPlaced) (cuts := cu_To_isPlaced) (G := fun pc ls st σ => none) hX.2.1 hX.2.2 (F := F_To_isPlaced _) (fs_To_isPlaced hX _) (rt_Z rfl) oc_To_isPlaced (by
    intro pc ls st σ o h
    cases h) 64 0 _ _ _ _ h
theorem ok_To_isPlaced {X : CXT} (hX : XC X) : SemOK X 2 145 sm_To_isPlaced := by
  intro O av σ K o h
  unfold sm_To_isPlaced at h
  split at h
  · obtain ⟨r, hf, h⟩ := Option.bind_eq_some_iff.mp h
    exact ⟨ovZ r, fun ht => sp_of hX.1 (by decide) (List.mem_range.mpr (by decide)) (by decide +kernel) ht (Nat.le_of_ble_eq_true rfl) (s_To_isPlaced hX _ _ _ _ _ hf), trivial, h⟩
  · cases h
noncomputable def b_P_mile (k0 : Nat) (v1 : Int32) (v2 : Int32) (s : Mem) : Option (Int32 × Mem) :=
  (f_P_isMile v1 s).bind fun r1 =>
  cif ((b2i r1.1) = 0) (
    some ((-1 : Int32), r1.2)) (
    cif (v2 = (0 : Int32)) (
      (f_Pi_isBroken (k0 + 2) v1 r1.2).bind fun r2 =>
      cif ((b2i r2.1) = 0) (
        some ((0 : Int32), r2.2)) (
        some ((1 : Int32), r2.2))) (
      cif (v2 = (1 : Int32)) (
        (f_To_isPlaced (k0 + 7) ((0 : Int32)) v1 r1.2).bind fun r3 =>
        cif ((b2i r3.1) = 0) (
          some ((0 : Int32), r3.2)) (
          some ((1 : Int32), r3.2))) (
        cif (v2 = (2 : Int32)) (
          (f_To_isPlaced (k0 + 7) ((1 : Int32)) v1 r1.2).bind fun r4 =>
          cif ((b2i r4.1) = 0) (
            some ((0 : Int32), r4.2)) (
            some ((1 : Int32), r4.2))) (
          cif (v2 = (3 : Int32)) (
            (f_To_isPlaced (k0 + 7) ((2 : Int32)) v1 r1.2).bind fun r5 =>
            cif ((b2i r5.1) = 0) (
              some ((0 : Int32), r5.2)) (
              some ((1 : Int32), r5.2))) (
            cif (v2 = (4 : Int32)) (
              (f_Co_stormOf (k0 + 126) (k0 + 2) (v1 / ((20 : Int32))) r1.2).bind fun r6 =>
              some (r6.1, r6.2)) (
              some ((-1 : Int32), r1.2)))))))
noncomputable def f_P_mile : Nat → Int32 → Int32 → Mem → Option (Int32 × Mem) := Classical.choose (⟨b_P_mile, rfl⟩ : ∃ f : Nat → Int32 → Int32 → Mem → Option (Int32 × Mem), f = b_P_mile)
theorem f_P_mile_eq : f_P_mile = b_P_mile := Classical.choose_spec (⟨b_P_mile, rfl⟩ : ∃ f : Nat → Int32 → Int32 → Mem → Option (Int32 × Mem), f = b_P_mile)
noncomputable def sm_P_mile (O : Type) (av : List AV) (σ : Mem) (K : AV → Mem → Option O) : Option O := match av with
  | [.inr (.inr (11, k0)), .inl v1, .inl v2] => (f_P_mile k0 v1 v2 σ).bind fun r => K (.inl r.1) r.2
  | _ => none
def c_P_mile : List (List CE) := [[(0, .iload_n 1, 1, 0, 0, 0), (1, .invokestatic 251, 3, 44, 1, 1), (4, .ifCond .ne 5, 3, 9, 0, 0), (7, .iconst (-1), 1, 1, 0, 1), (8, .ireturn, 1, 0, 0, 0), (9, .iload_n 2, 1, 0, 0, 0), (10, .tableswitch 136 0 4 #[34, 54, 75, 96, 117], 34, 0, 0, 0)], [], [(44, .aload_n 0, 1, 0, 0, 0), (45, .getfield 10, 3, 11, 0, 0)], [(48, .getfield 70, 3, 10, 0, 0), (51, .iload_n 1, 1, 0, 0, 0), (52, .invokevirtual 137, 3, 45, 2, 9), (55, .ifCond .eq 7, 3, 62, 0, 0), (58, .iconst 1, 1, 1, 0, 0), (59, .goto 4, 3, 63, 0, 0), (62, .iconst 0, 1, 0, 0, 0), (63, .ireturn, 1, 0, 0, 0)], [(64, .aload_n 0, 1, 0, 0, 0), (65, .getfield 10, 3, 11, 0, 0), (68, .getfield 30, 3, 10, 1, 0), (71, .iconst 0, 1, 0, 0, 0), (72, .iload_n 1, 1, 0, 0, 0), (73, .invokevirtual 254, 3, 145, 3, 17), (76, .ifCond .eq 7, 3, 83, 0, 0), (79, .iconst 1, 1, 1, 0, 0)], [(80, .goto 4, 3, 84, 0, 0), (83, .iconst 0, 1, 0, 0, 0), (84, .ireturn, 1, 0, 0, 0), (85, .aload_n 0, 1, 0, 0, 0), (86, .getfield 10, 3, 11, 0, 0), (89, .getfield 30, 3, 10, 1, 0), (92, .iconst 1, 1, 1, 0, 0), (93, .iload_n 1, 1, 0, 0, 0), (94, .invokevirtual 254, 3, 145, 3, 17)], [(97, .ifCond .eq 7, 3, 104, 0, 0), (100, .iconst 1, 1, 1, 0, 0), (101, .goto 4, 3, 105, 0, 0), (104, .iconst 0, 1, 0, 0, 0), (105, .ireturn, 1, 0, 0, 0), (106, .aload_n 0, 1, 0, 0, 0), (107, .getfield 10, 3, 11, 0, 0), (110, .getfield 30, 3, 10, 1, 0)], [(113, .iconst 2, 1, 2, 0, 0), (114, .iload_n 1, 1, 0, 0, 0), (115, .invokevirtual 254, 3, 145, 3, 17), (118, .ifCond .eq 7, 3, 125, 0, 0), (121, .iconst 1, 1, 1, 0, 0), (122, .goto 4, 3, 126, 0, 0), (125, .iconst 0, 1, 0, 0, 0), (126, .ireturn, 1, 0, 0, 0), (127, .aload_n 0, 1, 0, 0, 0)], [(128, .getfield 41, 3, 11, 3, 0), (131, .aload_n 0, 1, 0, 0, 0), (132, .getfield 10, 3, 11, 0, 0), (135, .getfield 70, 3, 10, 0, 0), (138, .iload_n 1, 1, 0, 0, 0), (139, .bipush 20, 2, 20, 0, 0), (141, .idiv, 1, 0, 0, 0), (142, .invokevirtual 257, 3, 58, 3, 1)], [(145, .ireturn, 1, 0, 0, 0), (146, .iconst (-1), 1, 1, 0, 1), (147, .ireturn, 1, 0, 0, 0)]]
set_option maxRecDepth 100000 in
theorem oc_P_mile : okC 144 c_P_mile = true := by decide +kernel
def cu_P_mile : List (Nat × List Bool) := []
noncomputable def F_P_mile (O : Type) (a : Nat) (av : List AV) (σ : Mem) (K : AV → Mem → Option O) : Option O := if a = 44 then sm_P_isMile O av σ K else if a = 45 then sm_Pi_isBroken O av σ K else if a = 58 then sm_Co_stormOf O av σ K else if a = 145 then sm_To_isPlaced O av σ K else none
theorem fs_P_mile {X : CXT} (hX : XC X) (O : Type) : FS X 5 (F_P_mile O) := by
  intro a av σ K o h
  unfold F_P_mile at h
  rcases ite_s h with ⟨rfl, h⟩ | ⟨_, h⟩
  · obtain ⟨r, h1, h2, h3⟩ := ok_P_isMile hX _ _ _ _ _ h
    exact ⟨r, fun ht => ⟨2, by decide, h1 ht⟩, h2, h3⟩
  rcases ite_s h with ⟨rfl, h⟩ | ⟨_, h⟩
  · obtain ⟨r, h1, h2, h3⟩ := ok_Pi_isBroken hX _ _ _ _ _ h
    exact ⟨r, fun ht => ⟨3, by decide, h1 ht⟩, h2, h3⟩
  rcases ite_s h with ⟨rfl, h⟩ | ⟨_, h⟩
  · obtain ⟨r, h1, h2, h3⟩ := ok_Co_stormOf hX _ _ _ _ _ h
    exact ⟨r, fun ht => ⟨4, by decide, h1 ht⟩, h2, h3⟩
  rcases ite_s h with ⟨rfl, h⟩ | ⟨_, h⟩
  · obtain ⟨r, h1, h2, h3⟩ := ok_To_isPlaced hX _ _ _ _ _ h
    exact ⟨r, fun ht => ⟨2, by decide, h1 ht⟩, h2, h3⟩
  cases h
set_option maxRecDepth 100000 in
theorem s_P_mile {X : CXT} (hX : XC X) : ∀ (k0 : Nat) (v1 : Int32) (v2 : Int32) (s : Mem) (o : Int32 × Mem), f_P_mile k0 v1 v2 s = some o → BSnd X 5 144 (ovI o) 0 (entL [.inr (.inr (11, k0)), .inl v1, .inl v2]) [] s := by
  intro k0 v1 v2 s o h
  rw [f_P_mile_eq] at h
  exact evC (chs := c_P_mile) (cuts := cu_P_mile) (G := fun pc ls st σ => none) hX.2.1 hX.2.2 (F := F_P_mile _) (fs_P_mile hX _) (rt_I rfl) oc_P_mile (by
    intro pc ls st σ o h
    cases h) 288 0 _ _ _ _ h
theorem ok_P_mile {X : CXT} (hX : XC X) : SemOK X 5 144 sm_P_mile := by
  intro O av σ K o h
  unfold sm_P_mile at h
  split at h
  · obtain ⟨r, hf, h⟩ := Option.bind_eq_some_iff.mp h
    exact ⟨ovI r, fun ht => sp_of hX.1 (by decide) (List.mem_range.mpr (by decide)) (by decide +kernel) ht (Nat.le_of_ble_eq_true rfl) (s_P_mile hX _ _ _ _ _ hf), trivial, h⟩
  · cases h
noncomputable def b_P_shame (k0 : Nat) (v1 : Int32) (v2 : Int32) (s : Mem) : Option (Int32 × Mem) :=
  (f_P_isDeed v1 v2 s).bind fun r1 =>
  cif ((b2i r1.1) = 0) (
    some ((-1 : Int32), r1.2)) (
    (f_Co_shameOf (k0 + 126) (k0 + 2) v1 v2 r1.2).bind fun r2 =>
    some (r2.1, r2.2))
noncomputable def f_P_shame : Nat → Int32 → Int32 → Mem → Option (Int32 × Mem) := Classical.choose (⟨b_P_shame, rfl⟩ : ∃ f : Nat → Int32 → Int32 → Mem → Option (Int32 × Mem), f = b_P_shame)
theorem f_P_shame_eq : f_P_shame = b_P_shame := Classical.choose_spec (⟨b_P_shame, rfl⟩ : ∃ f : Nat → Int32 → Int32 → Mem → Option (Int32 × Mem), f = b_P_shame)
noncomputable def sm_P_shame (O : Type) (av : List AV) (σ : Mem) (K : AV → Mem → Option O) : Option O := match av with
  | [.inr (.inr (11, k0)), .inl v1, .inl v2] => (f_P_shame k0 v1 v2 σ).bind fun r => K (.inl r.1) r.2
  | _ => none
def c_P_shame : List (List CE) := [[(0, .iload_n 1, 1, 0, 0, 0), (1, .iload_n 2, 1, 0, 0, 0), (2, .invokestatic 110, 3, 28, 2, 1), (5, .ifCond .eq 22, 3, 27, 0, 0), (8, .aload_n 0, 1, 0, 0, 0), (9, .getfield 41, 3, 11, 3, 0), (12, .aload_n 0, 1, 0, 0, 0), (13, .getfield 10, 3, 11, 0, 0)], [(16, .getfield 70, 3, 10, 0, 0), (19, .iload_n 1, 1, 0, 0, 0), (20, .iload_n 2, 1, 0, 0, 0), (21, .invokevirtual 260, 3, 34, 4, 1), (24, .goto 4, 3, 28, 0, 0), (27, .iconst (-1), 1, 1, 0, 1), (28, .ireturn, 1, 0, 0, 0)]]
set_option maxRecDepth 100000 in
theorem oc_P_shame : okC 146 c_P_shame = true := by decide +kernel
def cu_P_shame : List (Nat × List Bool) := []
noncomputable def F_P_shame (O : Type) (a : Nat) (av : List AV) (σ : Mem) (K : AV → Mem → Option O) : Option O := if a = 28 then sm_P_isDeed O av σ K else if a = 34 then sm_Co_shameOf O av σ K else none
theorem fs_P_shame {X : CXT} (hX : XC X) (O : Type) : FS X 5 (F_P_shame O) := by
  intro a av σ K o h
  unfold F_P_shame at h
  rcases ite_s h with ⟨rfl, h⟩ | ⟨_, h⟩
  · obtain ⟨r, h1, h2, h3⟩ := ok_P_isDeed hX _ _ _ _ _ h
    exact ⟨r, fun ht => ⟨2, by decide, h1 ht⟩, h2, h3⟩
  rcases ite_s h with ⟨rfl, h⟩ | ⟨_, h⟩
  · obtain ⟨r, h1, h2, h3⟩ := ok_Co_shameOf hX _ _ _ _ _ h
    exact ⟨r, fun ht => ⟨4, by decide, h1 ht⟩, h2, h3⟩
  cases h
set_option maxRecDepth 100000 in
theorem s_P_shame {X : CXT} (hX : XC X) : ∀ (k0 : Nat) (v1 : Int32) (v2 : Int32) (s : Mem) (o : Int32 × Mem), f_P_shame k0 v1 v2 s = some o → BSnd X 5 146 (ovI o) 0 (entL [.inr (.inr (11, k0)), .inl v1, .inl v2]) [] s := by
  intro k0 v1 v2 s o h
  rw [f_P_shame_eq] at h
  exact evC (chs := c_P_shame) (cuts := cu_P_shame) (G := fun pc ls st σ => none) hX.2.1 hX.2.2 (F := F_P_shame _) (fs_P_shame hX _) (rt_I rfl) oc_P_shame (by
    intro pc ls st σ o h
    cases h) 100 0 _ _ _ _ h
theorem ok_P_shame {X : CXT} (hX : XC X) : SemOK X 5 146 sm_P_shame := by
  intro O av σ K o h
  unfold sm_P_shame at h
  split at h
  · obtain ⟨r, hf, h⟩ := Option.bind_eq_some_iff.mp h
    exact ⟨ovI r, fun ht => sp_of hX.1 (by decide) (List.mem_range.mpr (by decide)) (by decide +kernel) ht (Nat.le_of_ble_eq_true rfl) (s_P_shame hX _ _ _ _ _ hf), trivial, h⟩
  · cases h
noncomputable def f_Lo_entry_24 (k0 : Nat) (v1 : Int32) (v2 : Int32) (s : Mem) : Option (Int32 × Mem) :=
  cif (((0 : Int32)) = 0) (
    some ((-1 : Int32), s)) (
    gd (inb ((v1 * ((4 : Int32))) + v2) (lenC (k0 + 1))) <|
    some (rI s (k0 + 1) (ix ((v1 * ((4 : Int32))) + v2)), s))
noncomputable def b_Lo_entry (k0 : Nat) (v1 : Int32) (v2 : Int32) (s : Mem) : Option (Int32 × Mem) :=
  (f_P_within v1 ((0 : Int32)) ((149 : Int32)) s).bind fun r1 =>
  cif ((b2i r1.1) = 0) (
    f_Lo_entry_24 k0 v1 v2 r1.2) (
    (f_P_within v2 ((0 : Int32)) ((3 : Int32)) r1.2).bind fun r2 =>
    cif ((b2i r2.1) = 0) (
      f_Lo_entry_24 k0 v1 v2 r2.2) (
      cif (((1 : Int32)) = 0) (
        some ((-1 : Int32), r2.2)) (
        gd (inb ((v1 * ((4 : Int32))) + v2) (lenC (k0 + 1))) <|
        some (rI r2.2 (k0 + 1) (ix ((v1 * ((4 : Int32))) + v2)), r2.2))))
noncomputable def f_Lo_entry : Nat → Int32 → Int32 → Mem → Option (Int32 × Mem) := Classical.choose (⟨b_Lo_entry, rfl⟩ : ∃ f : Nat → Int32 → Int32 → Mem → Option (Int32 × Mem), f = b_Lo_entry)
theorem f_Lo_entry_eq : f_Lo_entry = b_Lo_entry := Classical.choose_spec (⟨b_Lo_entry, rfl⟩ : ∃ f : Nat → Int32 → Int32 → Mem → Option (Int32 × Mem), f = b_Lo_entry)
noncomputable def sm_Lo_entry (O : Type) (av : List AV) (σ : Mem) (K : AV → Mem → Option O) : Option O := match av with
  | [.inr (.inr (3, k0)), .inl v1, .inl v2] => (f_Lo_entry k0 v1 v2 σ).bind fun r => K (.inl r.1) r.2
  | _ => none
def c_Lo_entry : List (List CE) := [[(0, .iload_n 1, 1, 0, 0, 0), (1, .iconst 0, 1, 0, 0, 0), (2, .sipush 149, 3, 149, 0, 0), (5, .invokestatic 25, 3, 17, 3, 1), (8, .ifCond .eq 16, 3, 24, 0, 0), (11, .iload_n 2, 1, 0, 0, 0), (12, .iconst 0, 1, 0, 0, 0), (13, .iconst 3, 1, 3, 0, 0), (14, .invokestatic 25, 3, 17, 3, 1)], [(17, .ifCond .eq 7, 3, 24, 0, 0), (20, .iconst 1, 1, 1, 0, 0), (21, .goto 4, 3, 25, 0, 0), (24, .iconst 0, 1, 0, 0, 0), (25, .istore_n 3, 1, 0, 0, 0), (26, .iload_n 3, 1, 0, 0, 0), (27, .ifCond .eq 16, 3, 43, 0, 0), (30, .aload_n 0, 1, 0, 0, 0), (31, .getfield 11, 3, 3, 0, 0)], [(34, .iload_n 1, 1, 0, 0, 0), (35, .iconst 4, 1, 4, 0, 0), (36, .imul, 1, 0, 0, 0), (37, .iload_n 2, 1, 0, 0, 0), (38, .iadd, 1, 0, 0, 0), (39, .iaload, 1, 0, 0, 0), (40, .goto 4, 3, 44, 0, 0), (43, .iconst (-1), 1, 1, 0, 1), (44, .ireturn, 1, 0, 0, 0)]]
set_option maxRecDepth 100000 in
theorem oc_Lo_entry : okC 148 c_Lo_entry = true := by decide +kernel
def cu_Lo_entry : List (Nat × List Bool) := [(24, [true, true, true])]
noncomputable def F_Lo_entry (O : Type) (a : Nat) (av : List AV) (σ : Mem) (K : AV → Mem → Option O) : Option O := if a = 17 then sm_P_within O av σ K else none
theorem fs_Lo_entry {X : CXT} (hX : XC X) (O : Type) : FS X 2 (F_Lo_entry O) := by
  intro a av σ K o h
  unfold F_Lo_entry at h
  rcases ite_s h with ⟨rfl, h⟩ | ⟨_, h⟩
  · obtain ⟨r, h1, h2, h3⟩ := ok_P_within hX _ _ _ _ _ h
    exact ⟨r, fun ht => ⟨1, by decide, h1 ht⟩, h2, h3⟩
  cases h
def hd_Lo_entry_24 {O : Type} (g : Nat → Int32 → Int32 → Mem → Option O) (ls : OL) (st : List AV) (σ : Mem) : Option O := match ls, st with
  | [some (.inr (.inr (3, k0))), some (.inl v1), some (.inl v2)], [] => g k0 v1 v2 σ
  | _, _ => none
theorem hs_Lo_entry_24 {X : CXT} {g : Nat → Int32 → Int32 → Mem → Option (Int32 × Mem)} (hg : ∀ (k0 : Nat) (v1 : Int32) (v2 : Int32) (s : Mem) (o : Int32 × Mem), g k0 v1 v2 s = some o → BSnd X 2 148 (ovI o) 24 [some (.inr (.inr (3, k0))), some (.inl v1), some (.inl v2)] [] s) : ∀ ls st σ o, hd_Lo_entry_24 g ls st σ = some o → BSnd X 2 148 (ovI o) 24 ls st σ := by
  intro ls st σ o h
  unfold hd_Lo_entry_24 at h
  split at h
  · exact hg _ _ _ _ _ h
  · cases h
set_option maxRecDepth 100000 in
theorem s_Lo_entry_24 {X : CXT} (hX : XC X) : ∀ (k0 : Nat) (v1 : Int32) (v2 : Int32) (s : Mem) (o : Int32 × Mem), f_Lo_entry_24 k0 v1 v2 s = some o → BSnd X 2 148 (ovI o) 24 [some (.inr (.inr (3, k0))), some (.inl v1), some (.inl v2)] [] s := by
  intro k0 v1 v2 s o h
  exact evC (chs := c_Lo_entry) (cuts := cu_Lo_entry) (G := fun pc ls st σ => none) hX.2.1 hX.2.2 (F := F_Lo_entry _) (fs_Lo_entry hX _) (rt_I rfl) oc_Lo_entry (by
    intro pc ls st σ o h
    cases h) 148 24 _ _ _ _ h
set_option maxRecDepth 100000 in
theorem s_Lo_entry {X : CXT} (hX : XC X) : ∀ (k0 : Nat) (v1 : Int32) (v2 : Int32) (s : Mem) (o : Int32 × Mem), f_Lo_entry k0 v1 v2 s = some o → BSnd X 2 148 (ovI o) 0 (entL [.inr (.inr (3, k0)), .inl v1, .inl v2]) [] s := by
  intro k0 v1 v2 s o h
  rw [f_Lo_entry_eq] at h
  exact evC (chs := c_Lo_entry) (cuts := cu_Lo_entry) (G := fun pc ls st σ => if pc = 24 then hd_Lo_entry_24 (fun k0 v1 v2 s => f_Lo_entry_24 k0 v1 v2 s) ls st σ else none) hX.2.1 hX.2.2 (F := F_Lo_entry _) (fs_Lo_entry hX _) (rt_I rfl) oc_Lo_entry (by
    intro pc ls st σ o h
    rcases ite_s h with ⟨rfl, h⟩ | ⟨_, h⟩
    · exact hs_Lo_entry_24 (s_Lo_entry_24 hX) _ _ _ _ h
    cases h) 148 0 _ _ _ _ h
theorem ok_Lo_entry {X : CXT} (hX : XC X) : SemOK X 2 148 sm_Lo_entry := by
  intro O av σ K o h
  unfold sm_Lo_entry at h
  split at h
  · obtain ⟨r, hf, h⟩ := Option.bind_eq_some_iff.mp h
    exact ⟨ovI r, fun ht => sp_of hX.1 (by decide) (List.mem_range.mpr (by decide)) (by decide +kernel) ht (Nat.le_of_ble_eq_true rfl) (s_Lo_entry hX _ _ _ _ _ hf), trivial, h⟩
  · cases h
