noncomputable def b_Co_stormOf (k0 : Nat) (k1 : Nat) (v2 : Int32) (s : Mem) : Option (Int32 × Mem) :=
  (f_Co_ask k0 k1 s).bind fun r1 =>
  gd (inb ((6 : Int32)) (lenC (k0 + 1))) <|
  let s2 : Mem := wI r1 (k0 + 1) (ix ((6 : Int32))) (v2 * ((20 : Int32)))
  gd (inb ((8 : Int32)) (lenC (k0 + 1))) <|
  let s3 : Mem := wI s2 (k0 + 1) (ix ((8 : Int32))) (rI s2 k1 7)
  gd (inb ((9 : Int32)) (lenC (k0 + 1))) <|
  let s4 : Mem := wI s3 (k0 + 1) (ix ((9 : Int32))) (((rI s3 (k0 - 119) 9) >>> (v2 &&& 31)) &&& ((1 : Int32)))
  (f_La_tells ((k0 - 119) + 4) ((2 : Int32)) (k0 + 1) (((10 : Int32)) * (rI s4 (k0 - 119) 8)) ((1000 : Int32)) s4).bind fun r5 =>
  some (r5.1, r5.2)
noncomputable def f_Co_stormOf : Nat → Nat → Int32 → Mem → Option (Int32 × Mem) := Classical.choose (⟨b_Co_stormOf, rfl⟩ : ∃ f : Nat → Nat → Int32 → Mem → Option (Int32 × Mem), f = b_Co_stormOf)
theorem f_Co_stormOf_eq : f_Co_stormOf = b_Co_stormOf := Classical.choose_spec (⟨b_Co_stormOf, rfl⟩ : ∃ f : Nat → Nat → Int32 → Mem → Option (Int32 × Mem), f = b_Co_stormOf)
noncomputable def sm_Co_stormOf (O : Type) (av : List AV) (σ : Mem) (K : AV → Mem → Option O) : Option O := match av with
  | [.inr (.inr (0, k0)), .inr (.inr (4, k1)), .inl v2] => (f_Co_stormOf k0 k1 v2 σ).bind fun r => K (.inl r.1) r.2
  | _ => none
def c_Co_stormOf : List (List CE) := [[(0, .aload_n 0, 1, 0, 0, 0), (1, .aload_n 1, 1, 0, 0, 0), (2, .invokevirtual 34, 3, 35, 2, 0), (5, .aload_n 0, 1, 0, 0, 0), (6, .getfield 9, 3, 0, 2, 0), (9, .bipush 6, 2, 6, 0, 0), (11, .iload_n 2, 1, 0, 0, 0), (12, .bipush 20, 2, 20, 0, 0), (14, .imul, 1, 0, 0, 0), (15, .iastore, 1, 0, 0, 0)], [(16, .aload_n 0, 1, 0, 0, 0), (17, .getfield 9, 3, 0, 2, 0), (20, .bipush 8, 2, 8, 0, 0), (22, .aload_n 1, 1, 0, 0, 0), (23, .getfield 38, 3, 4, 7, 0), (26, .iastore, 1, 0, 0, 0), (27, .aload_n 0, 1, 0, 0, 0), (28, .getfield 9, 3, 0, 2, 0), (31, .bipush 9, 2, 9, 0, 0)], [(33, .aload_n 0, 1, 0, 0, 0), (34, .getfield 15, 3, 0, 0, 0), (37, .getfield 73, 3, 8, 9, 0), (40, .iload_n 2, 1, 0, 0, 0), (41, .ishr, 1, 0, 0, 0), (42, .iconst 1, 1, 1, 0, 0), (43, .iand, 1, 0, 0, 0), (44, .iastore, 1, 0, 0, 0), (45, .aload_n 0, 1, 0, 0, 0), (46, .getfield 15, 3, 0, 0, 0)], [(49, .getfield 41, 3, 8, 3, 0), (52, .iconst 2, 1, 2, 0, 0), (53, .aload_n 0, 1, 0, 0, 0), (54, .getfield 9, 3, 0, 2, 0), (57, .bipush 10, 2, 10, 0, 0), (59, .aload_n 0, 1, 0, 0, 0), (60, .getfield 15, 3, 0, 0, 0), (63, .getfield 29, 3, 8, 8, 0)], [(66, .imul, 1, 0, 0, 0), (67, .sipush 1000, 3, 1000, 0, 0), (70, .invokevirtual 45, 3, 36, 5, 5), (73, .ireturn, 1, 0, 0, 0)]]
set_option maxRecDepth 100000 in
theorem oc_Co_stormOf : okC 58 c_Co_stormOf = true := by decide +kernel
def cu_Co_stormOf : List (Nat × List Bool) := []
noncomputable def F_Co_stormOf (O : Type) (a : Nat) (av : List AV) (σ : Mem) (K : AV → Mem → Option O) : Option O := if a = 35 then sm_Co_ask O av σ K else if a = 36 then sm_La_tells O av σ K else none
theorem fs_Co_stormOf {X : CXT} (hX : XC X) (O : Type) : FS X 4 (F_Co_stormOf O) := by
  intro a av σ K o h
  unfold F_Co_stormOf at h
  rcases ite_s h with ⟨rfl, h⟩ | ⟨_, h⟩
  · obtain ⟨r, h1, h2, h3⟩ := ok_Co_ask hX _ _ _ _ _ h
    exact ⟨r, fun ht => ⟨1, by decide, h1 ht⟩, h2, h3⟩
  rcases ite_s h with ⟨rfl, h⟩ | ⟨_, h⟩
  · obtain ⟨r, h1, h2, h3⟩ := ok_La_tells hX _ _ _ _ _ h
    exact ⟨r, fun ht => ⟨3, by decide, h1 ht⟩, h2, h3⟩
  cases h
set_option maxRecDepth 100000 in
theorem s_Co_stormOf {X : CXT} (hX : XC X) : ∀ (k0 : Nat) (k1 : Nat) (v2 : Int32) (s : Mem) (o : Int32 × Mem), f_Co_stormOf k0 k1 v2 s = some o → BSnd X 4 58 (ovI o) 0 (entL [.inr (.inr (0, k0)), .inr (.inr (4, k1)), .inl v2]) [] s := by
  intro k0 k1 v2 s o h
  rw [f_Co_stormOf_eq] at h
  exact evC (chs := c_Co_stormOf) (cuts := cu_Co_stormOf) (G := fun pc ls st σ => none) hX.2.1 hX.2.2 (F := F_Co_stormOf _) (fs_Co_stormOf hX _) (rt_I rfl) oc_Co_stormOf (by
    intro pc ls st σ o h
    cases h) 204 0 _ _ _ _ h
theorem ok_Co_stormOf {X : CXT} (hX : XC X) : SemOK X 4 58 sm_Co_stormOf := by
  intro O av σ K o h
  unfold sm_Co_stormOf at h
  split at h
  · obtain ⟨r, hf, h⟩ := Option.bind_eq_some_iff.mp h
    exact ⟨ovI r, fun ht => sp_of hX.1 (by decide) (List.mem_range.mpr (by decide)) (by decide +kernel) ht (Nat.le_of_ble_eq_true rfl) (s_Co_stormOf hX _ _ _ _ _ hf), trivial, h⟩
  · cases h
noncomputable def b_Pi_draw (k0 : Nat) (v1 : Int32) (s : Mem) : Option (Int32 × Mem) :=
  let s1 : Mem := wI s k0 5 (((rI s k0 5) * ((1664525 : Int32))) + ((1013904223 : Int32)))
  let x2 : Int32 := ((rI s1 k0 5).toUInt32 >>> (((8 : Int32)).toUInt32 &&& Int32.toUInt32 31)).toInt32
  cif (v1 ≤ 0) (
    some ((0 : Int32), s1)) (
    if v1 = 0 then none else
    some (x2 - x2 / v1 * v1, s1))
noncomputable def f_Pi_draw : Nat → Int32 → Mem → Option (Int32 × Mem) := Classical.choose (⟨b_Pi_draw, rfl⟩ : ∃ f : Nat → Int32 → Mem → Option (Int32 × Mem), f = b_Pi_draw)
theorem f_Pi_draw_eq : f_Pi_draw = b_Pi_draw := Classical.choose_spec (⟨b_Pi_draw, rfl⟩ : ∃ f : Nat → Int32 → Mem → Option (Int32 × Mem), f = b_Pi_draw)
noncomputable def sm_Pi_draw (O : Type) (av : List AV) (σ : Mem) (K : AV → Mem → Option O) : Option O := match av with
  | [.inr (.inr (4, k0)), .inl v1] => (f_Pi_draw k0 v1 σ).bind fun r => K (.inl r.1) r.2
  | _ => none
def c_Pi_draw : List (List CE) := [[(0, .aload_n 0, 1, 0, 0, 0), (1, .aload_n 0, 1, 0, 0, 0), (2, .getfield 25, 3, 4, 5, 0), (5, .ldc 48, 2, 1664525, 0, 0), (7, .imul, 1, 0, 0, 0), (8, .ldc 49, 2, 1013904223, 0, 0), (10, .iadd, 1, 0, 0, 0), (11, .putfield 25, 3, 4, 5, 0), (14, .aload_n 0, 1, 0, 0, 0), (15, .getfield 25, 3, 4, 5, 0)], [(18, .bipush 8, 2, 8, 0, 0), (20, .iushr, 1, 0, 0, 0), (21, .istore_n 2, 1, 0, 0, 0), (22, .iload_n 1, 1, 0, 0, 0), (23, .ifCond .le 9, 3, 32, 0, 0), (26, .iload_n 2, 1, 0, 0, 0), (27, .iload_n 1, 1, 0, 0, 0), (28, .irem, 1, 0, 0, 0), (29, .goto 4, 3, 33, 0, 0)], [(32, .iconst 0, 1, 0, 0, 0), (33, .ireturn, 1, 0, 0, 0)]]
set_option maxRecDepth 100000 in
theorem oc_Pi_draw : okC 59 c_Pi_draw = true := by decide +kernel
def cu_Pi_draw : List (Nat × List Bool) := []
noncomputable def F_Pi_draw (O : Type) (a : Nat) (av : List AV) (σ : Mem) (K : AV → Mem → Option O) : Option O := none
theorem fs_Pi_draw {X : CXT} (hX : XC X) (O : Type) : FS X 1 (F_Pi_draw O) := by
  intro a av σ K o h
  cases h
set_option maxRecDepth 100000 in
theorem s_Pi_draw {X : CXT} (hX : XC X) : ∀ (k0 : Nat) (v1 : Int32) (s : Mem) (o : Int32 × Mem), f_Pi_draw k0 v1 s = some o → BSnd X 1 59 (ovI o) 0 (entL [.inr (.inr (4, k0)), .inl v1]) [] s := by
  intro k0 v1 s o h
  rw [f_Pi_draw_eq] at h
  exact evC (chs := c_Pi_draw) (cuts := cu_Pi_draw) (G := fun pc ls st σ => none) hX.2.1 hX.2.2 (F := F_Pi_draw _) (fs_Pi_draw hX _) (rt_I rfl) oc_Pi_draw (by
    intro pc ls st σ o h
    cases h) 124 0 _ _ _ _ h
theorem ok_Pi_draw {X : CXT} (hX : XC X) : SemOK X 1 59 sm_Pi_draw := by
  intro O av σ K o h
  unfold sm_Pi_draw at h
  split at h
  · obtain ⟨r, hf, h⟩ := Option.bind_eq_some_iff.mp h
    exact ⟨ovI r, fun ht => sp_of hX.1 (by decide) (List.mem_range.mpr (by decide)) (by decide +kernel) ht (Nat.le_of_ble_eq_true rfl) (s_Pi_draw hX _ _ _ _ hf), trivial, h⟩
  · cases h
noncomputable def b_Co_struckMile (k0 : Nat) (k1 : Nat) (v2 : Int32) (s : Mem) : Option (Int32 × Mem) :=
  (f_Co_stormOf k0 k1 v2 s).bind fun r1 =>
  cif ((rI r1.2 k1 0) = 0) (
    cif (r1.1 = 0) (
      some ((-1 : Int32), r1.2)) (
      (f_Pi_draw k1 ((1000 : Int32)) r1.2).bind fun r2 =>
      cif (r2.1 < r1.1) (
        (f_Pi_draw k1 ((20 : Int32)) r2.2).bind fun r3 =>
        some ((v2 * ((20 : Int32))) + r3.1, r3.2)) (
        some ((-1 : Int32), r2.2)))) (
    cif (r1.1 < ((500 : Int32))) (
      some ((-1 : Int32), r1.2)) (
      some (v2 * ((20 : Int32)), r1.2)))
noncomputable def f_Co_struckMile : Nat → Nat → Int32 → Mem → Option (Int32 × Mem) := Classical.choose (⟨b_Co_struckMile, rfl⟩ : ∃ f : Nat → Nat → Int32 → Mem → Option (Int32 × Mem), f = b_Co_struckMile)
theorem f_Co_struckMile_eq : f_Co_struckMile = b_Co_struckMile := Classical.choose_spec (⟨b_Co_struckMile, rfl⟩ : ∃ f : Nat → Nat → Int32 → Mem → Option (Int32 × Mem), f = b_Co_struckMile)
noncomputable def sm_Co_struckMile (O : Type) (av : List AV) (σ : Mem) (K : AV → Mem → Option O) : Option O := match av with
  | [.inr (.inr (0, k0)), .inr (.inr (4, k1)), .inl v2] => (f_Co_struckMile k0 k1 v2 σ).bind fun r => K (.inl r.1) r.2
  | _ => none
def c_Co_struckMile : List (List CE) := [[(0, .aload_n 0, 1, 0, 0, 0), (1, .aload_n 1, 1, 0, 0, 0), (2, .iload_n 2, 1, 0, 0, 0), (3, .invokevirtual 126, 3, 58, 3, 1), (6, .istore_n 3, 1, 0, 0, 0), (7, .aload_n 1, 1, 0, 0, 0), (8, .getfield 129, 3, 4, 0, 0), (11, .ifCond .eq 19, 3, 30, 0, 0), (14, .iload_n 3, 1, 0, 0, 0), (15, .sipush 500, 3, 500, 0, 0)], [(18, .if_icmp .lt 10, 3, 28, 0, 0), (21, .iload_n 2, 1, 0, 0, 0), (22, .bipush 20, 2, 20, 0, 0), (24, .imul, 1, 0, 0, 0), (25, .goto 4, 3, 29, 0, 0), (28, .iconst (-1), 1, 1, 0, 1), (29, .ireturn, 1, 0, 0, 0), (30, .iload_n 3, 1, 0, 0, 0), (31, .ifCond .eq 14, 3, 45, 0, 0)], [(34, .aload_n 1, 1, 0, 0, 0), (35, .sipush 1000, 3, 1000, 0, 0), (38, .invokevirtual 133, 3, 59, 2, 9), (41, .iload_n 3, 1, 0, 0, 0), (42, .if_icmp .lt 5, 3, 47, 0, 0), (45, .iconst (-1), 1, 1, 0, 1), (46, .ireturn, 1, 0, 0, 0), (47, .iload_n 2, 1, 0, 0, 0)], [(48, .bipush 20, 2, 20, 0, 0), (50, .imul, 1, 0, 0, 0), (51, .aload_n 1, 1, 0, 0, 0), (52, .bipush 20, 2, 20, 0, 0), (54, .invokevirtual 133, 3, 59, 2, 9), (57, .iadd, 1, 0, 0, 0), (58, .ireturn, 1, 0, 0, 0)]]
set_option maxRecDepth 100000 in
theorem oc_Co_struckMile : okC 57 c_Co_struckMile = true := by decide +kernel
def cu_Co_struckMile : List (Nat × List Bool) := []
noncomputable def F_Co_struckMile (O : Type) (a : Nat) (av : List AV) (σ : Mem) (K : AV → Mem → Option O) : Option O := if a = 58 then sm_Co_stormOf O av σ K else if a = 59 then sm_Pi_draw O av σ K else none
theorem fs_Co_struckMile {X : CXT} (hX : XC X) (O : Type) : FS X 5 (F_Co_struckMile O) := by
  intro a av σ K o h
  unfold F_Co_struckMile at h
  rcases ite_s h with ⟨rfl, h⟩ | ⟨_, h⟩
  · obtain ⟨r, h1, h2, h3⟩ := ok_Co_stormOf hX _ _ _ _ _ h
    exact ⟨r, fun ht => ⟨4, by decide, h1 ht⟩, h2, h3⟩
  rcases ite_s h with ⟨rfl, h⟩ | ⟨_, h⟩
  · obtain ⟨r, h1, h2, h3⟩ := ok_Pi_draw hX _ _ _ _ _ h
    exact ⟨r, fun ht => ⟨1, by decide, h1 ht⟩, h2, h3⟩
  cases h
set_option maxRecDepth 100000 in
theorem s_Co_struckMile {X : CXT} (hX : XC X) : ∀ (k0 : Nat) (k1 : Nat) (v2 : Int32) (s : Mem) (o : Int32 × Mem), f_Co_struckMile k0 k1 v2 s = some o → BSnd X 5 57 (ovI o) 0 (entL [.inr (.inr (0, k0)), .inr (.inr (4, k1)), .inl v2]) [] s := by
  intro k0 k1 v2 s o h
  rw [f_Co_struckMile_eq] at h
  exact evC (chs := c_Co_struckMile) (cuts := cu_Co_struckMile) (G := fun pc ls st σ => none) hX.2.1 hX.2.2 (F := F_Co_struckMile _) (fs_Co_struckMile hX _) (rt_I rfl) oc_Co_struckMile (by
    intro pc ls st σ o h
    cases h) 176 0 _ _ _ _ h
theorem ok_Co_struckMile {X : CXT} (hX : XC X) : SemOK X 5 57 sm_Co_struckMile := by
  intro O av σ K o h
  unfold sm_Co_struckMile at h
  split at h
  · obtain ⟨r, hf, h⟩ := Option.bind_eq_some_iff.mp h
    exact ⟨ovI r, fun ht => sp_of hX.1 (by decide) (List.mem_range.mpr (by decide)) (by decide +kernel) ht (Nat.le_of_ble_eq_true rfl) (s_Co_struckMile hX _ _ _ _ _ hf), trivial, h⟩
  · cases h
noncomputable def f_Co_goYear_10 (K52 : Nat → Nat → Mem → Option (Int32 × Mem)) : Nat → Nat → Nat → Nat → Int32 → Mem → Option (Int32 × Mem)
  | 0, _, _, _, _, _ => none
  | n + 1, k0, k1, k2, v3, s =>
    cif ((rI s k2 3) ≤ v3) (
      K52 k0 k1 s) (
      (f_Ro_first k2 v3 s).bind fun r1 =>
      cif (r1.1 = (rI r1.2 k1 7)) (
        (f_Ro_second k2 v3 r1.2).bind fun r2 =>
        (f_Ro_third k2 v3 r2.2).bind fun r3 =>
        (f_Co_build k0 k1 r2.1 r3.1 r3.2).bind fun r4 =>
        f_Co_goYear_10 K52 n k0 k1 k2 (v3 + (1 : Int32)) r4.2) (
        f_Co_goYear_10 K52 n k0 k1 k2 (v3 + (1 : Int32)) r1.2))
noncomputable def f_Co_goYear_57 (K110 : Nat → Int32 → Mem → Option (Int32 × Mem)) : Nat → Nat → Nat → Int32 → Int32 → Mem → Option (Int32 × Mem)
  | 0, _, _, _, _, _ => none
  | n + 1, k0, k1, v3, v4, s =>
    cif (((10 : Int32)) ≤ v4) (
      K110 k1 v3 s) (
      cif ((rI s k1 6) ≤ (v4 * ((20 : Int32)))) (
        K110 k1 v3 s) (
        (f_Co_struckMile k0 k1 v4 s).bind fun r1 =>
        (f_Pi_isWhole k1 r1.1 r1.2).bind fun r2 =>
        cif ((b2i r2.1) = 0) (
          f_Co_goYear_57 K110 n k0 k1 v3 (v4 + (1 : Int32)) r2.2) (
          (f_Co_breakMile k0 k1 r1.1 r2.2).bind fun r3 =>
          f_Co_goYear_57 K110 n k0 k1 (v3 + (1 : Int32)) (v4 + (1 : Int32)) r3)))
noncomputable def f_Co_goYear_110 (k1 : Nat) (v3 : Int32) (s : Mem) : Option (Int32 × Mem) :=
  let s1 : Mem := wI s k1 7 ((rI s k1 7) + ((1 : Int32)))
  some (v3, s1)
noncomputable def f_Co_goYear_52 (k0 : Nat) (k1 : Nat) (s : Mem) : Option (Int32 × Mem) :=
  f_Co_goYear_57 (fun k1 v3 s => f_Co_goYear_110 k1 v3 s) FU k0 k1 ((0 : Int32)) ((0 : Int32)) s
noncomputable def b_Co_goYear (k0 : Nat) (k1 : Nat) (s : Mem) : Option (Int32 × Mem) :=
  f_Co_goYear_10 (fun k0 k1 s => f_Co_goYear_52 k0 k1 s) FU k0 k1 ((k0 - 119) + 11) ((0 : Int32)) s
noncomputable def f_Co_goYear : Nat → Nat → Mem → Option (Int32 × Mem) := Classical.choose (⟨b_Co_goYear, rfl⟩ : ∃ f : Nat → Nat → Mem → Option (Int32 × Mem), f = b_Co_goYear)
theorem f_Co_goYear_eq : f_Co_goYear = b_Co_goYear := Classical.choose_spec (⟨b_Co_goYear, rfl⟩ : ∃ f : Nat → Nat → Mem → Option (Int32 × Mem), f = b_Co_goYear)
noncomputable def sm_Co_goYear (O : Type) (av : List AV) (σ : Mem) (K : AV → Mem → Option O) : Option O := match av with
  | [.inr (.inr (0, k0)), .inr (.inr (4, k1))] => (f_Co_goYear k0 k1 σ).bind fun r => K (.inl r.1) r.2
  | _ => none
def c_Co_goYear : List (List CE) := [[(0, .aload_n 0, 1, 0, 0, 0), (1, .getfield 15, 3, 0, 0, 0), (4, .getfield 93, 3, 8, 4, 0), (7, .astore_n 2, 1, 0, 0, 0), (8, .iconst 0, 1, 0, 0, 0), (9, .istore_n 3, 1, 0, 0, 0), (10, .iload_n 3, 1, 0, 0, 0), (11, .aload_n 2, 1, 0, 0, 0), (12, .getfield 97, 3, 6, 3, 0), (15, .if_icmp .ge 37, 3, 52, 0, 0)], [(18, .aload_n 2, 1, 0, 0, 0), (19, .iload_n 3, 1, 0, 0, 0), (20, .invokevirtual 102, 3, 54, 2, 13), (23, .aload_n 1, 1, 0, 0, 0), (24, .getfield 38, 3, 4, 7, 0), (27, .if_icmp .ne 19, 3, 46, 0, 0), (30, .aload_n 0, 1, 0, 0, 0), (31, .aload_n 1, 1, 0, 0, 0)], [(32, .aload_n 2, 1, 0, 0, 0), (33, .iload_n 3, 1, 0, 0, 0), (34, .invokevirtual 106, 3, 55, 2, 13), (37, .aload_n 2, 1, 0, 0, 0), (38, .iload_n 3, 1, 0, 0, 0), (39, .invokevirtual 109, 3, 56, 2, 13), (42, .invokevirtual 112, 3, 33, 4, 1), (45, .pop, 1, 0, 0, 0), (46, .iinc 3 1, 3, 1, 0, 0)], [(49, .goto (-39), 3, 10, 0, 0), (52, .iconst 0, 1, 0, 0, 0), (53, .istore_n 3, 1, 0, 0, 0), (54, .iconst 0, 1, 0, 0, 0), (55, .istore 4, 2, 0, 0, 0), (57, .iload 4, 2, 0, 0, 0), (59, .bipush 10, 2, 10, 0, 0), (61, .if_icmp .ge 49, 3, 110, 0, 0)], [(64, .iload 4, 2, 0, 0, 0), (66, .bipush 20, 2, 20, 0, 0), (68, .imul, 1, 0, 0, 0), (69, .aload_n 1, 1, 0, 0, 0), (70, .getfield 23, 3, 4, 6, 0), (73, .if_icmp .ge 37, 3, 110, 0, 0), (76, .aload_n 0, 1, 0, 0, 0), (77, .aload_n 1, 1, 0, 0, 0), (78, .iload 4, 2, 0, 0, 0)], [(80, .invokevirtual 115, 3, 57, 3, 1), (83, .istore 5, 2, 0, 0, 0), (85, .aload_n 1, 1, 0, 0, 0), (86, .iload 5, 2, 0, 0, 0), (88, .invokevirtual 119, 3, 43, 2, 9), (91, .ifCond .eq 13, 3, 104, 0, 0), (94, .aload_n 0, 1, 0, 0, 0), (95, .aload_n 1, 1, 0, 0, 0)], [(96, .iload 5, 2, 0, 0, 0), (98, .invokevirtual 122, 3, 47, 3, 0), (101, .iinc 3 1, 3, 1, 0, 0), (104, .iinc 4 1, 3, 1, 0, 0), (107, .goto (-50), 3, 57, 0, 0), (110, .aload_n 1, 1, 0, 0, 0), (111, .dup, 1, 0, 0, 0)], [(112, .getfield 38, 3, 4, 7, 0), (115, .iconst 1, 1, 1, 0, 0), (116, .iadd, 1, 0, 0, 0), (117, .putfield 38, 3, 4, 7, 0), (120, .iload_n 3, 1, 0, 0, 0), (121, .ireturn, 1, 0, 0, 0)]]
set_option maxRecDepth 100000 in
theorem oc_Co_goYear : okC 53 c_Co_goYear = true := by decide +kernel
def cu_Co_goYear : List (Nat × List Bool) := [(10, [true, true, true, true]), (57, [true, true, false, true, true]), (110, [false, true, false, true]), (52, [true, true])]
noncomputable def F_Co_goYear (O : Type) (a : Nat) (av : List AV) (σ : Mem) (K : AV → Mem → Option O) : Option O := if a = 33 then sm_Co_build O av σ K else if a = 43 then sm_Pi_isWhole O av σ K else if a = 47 then sm_Co_breakMile O av σ K else if a = 54 then sm_Ro_first O av σ K else if a = 55 then sm_Ro_second O av σ K else if a = 56 then sm_Ro_third O av σ K else if a = 57 then sm_Co_struckMile O av σ K else none
theorem fs_Co_goYear {X : CXT} (hX : XC X) (O : Type) : FS X 6 (F_Co_goYear O) := by
  intro a av σ K o h
  unfold F_Co_goYear at h
  rcases ite_s h with ⟨rfl, h⟩ | ⟨_, h⟩
  · obtain ⟨r, h1, h2, h3⟩ := ok_Co_build hX _ _ _ _ _ h
    exact ⟨r, fun ht => ⟨5, by decide, h1 ht⟩, h2, h3⟩
  rcases ite_s h with ⟨rfl, h⟩ | ⟨_, h⟩
  · obtain ⟨r, h1, h2, h3⟩ := ok_Pi_isWhole hX _ _ _ _ _ h
    exact ⟨r, fun ht => ⟨3, by decide, h1 ht⟩, h2, h3⟩
  rcases ite_s h with ⟨rfl, h⟩ | ⟨_, h⟩
  · obtain ⟨r, h1, h2, h3⟩ := ok_Co_breakMile hX _ _ _ _ _ h
    exact ⟨r, fun ht => ⟨4, by decide, h1 ht⟩, h2, h3⟩
  rcases ite_s h with ⟨rfl, h⟩ | ⟨_, h⟩
  · obtain ⟨r, h1, h2, h3⟩ := ok_Ro_first hX _ _ _ _ _ h
    exact ⟨r, fun ht => ⟨2, by decide, h1 ht⟩, h2, h3⟩
  rcases ite_s h with ⟨rfl, h⟩ | ⟨_, h⟩
  · obtain ⟨r, h1, h2, h3⟩ := ok_Ro_second hX _ _ _ _ _ h
    exact ⟨r, fun ht => ⟨2, by decide, h1 ht⟩, h2, h3⟩
  rcases ite_s h with ⟨rfl, h⟩ | ⟨_, h⟩
  · obtain ⟨r, h1, h2, h3⟩ := ok_Ro_third hX _ _ _ _ _ h
    exact ⟨r, fun ht => ⟨2, by decide, h1 ht⟩, h2, h3⟩
  rcases ite_s h with ⟨rfl, h⟩ | ⟨_, h⟩
  · obtain ⟨r, h1, h2, h3⟩ := ok_Co_struckMile hX _ _ _ _ _ h
    exact ⟨r, fun ht => ⟨5, by decide, h1 ht⟩, h2, h3⟩
  cases h
def hd_Co_goYear_10 {O : Type} (g : Nat → Nat → Nat → Int32 → Mem → Option O) (ls : OL) (st : List AV) (σ : Mem) : Option O := match ls, st with
  | [some (.inr (.inr (0, k0))), some (.inr (.inr (4, k1))), some (.inr (.inr (6, k2))), some (.inl v3)], [] => g k0 k1 k2 v3 σ
  | _, _ => none
theorem hs_Co_goYear_10 {X : CXT} {g : Nat → Nat → Nat → Int32 → Mem → Option (Int32 × Mem)} (hg : ∀ (k0 : Nat) (k1 : Nat) (k2 : Nat) (v3 : Int32) (s : Mem) (o : Int32 × Mem), g k0 k1 k2 v3 s = some o → BSnd X 6 53 (ovI o) 10 [some (.inr (.inr (0, k0))), some (.inr (.inr (4, k1))), some (.inr (.inr (6, k2))), some (.inl v3)] [] s) : ∀ ls st σ o, hd_Co_goYear_10 g ls st σ = some o → BSnd X 6 53 (ovI o) 10 ls st σ := by
  intro ls st σ o h
  unfold hd_Co_goYear_10 at h
  split at h
  · exact hg _ _ _ _ _ _ h
  · cases h
def hd_Co_goYear_57 {O : Type} (g : Nat → Nat → Int32 → Int32 → Mem → Option O) (ls : OL) (st : List AV) (σ : Mem) : Option O := match ls, st with
  | [some (.inr (.inr (0, k0))), some (.inr (.inr (4, k1))), none, some (.inl v3), some (.inl v4)], [] => g k0 k1 v3 v4 σ
  | _, _ => none
theorem hs_Co_goYear_57 {X : CXT} {g : Nat → Nat → Int32 → Int32 → Mem → Option (Int32 × Mem)} (hg : ∀ (k0 : Nat) (k1 : Nat) (v3 : Int32) (v4 : Int32) (s : Mem) (o : Int32 × Mem), g k0 k1 v3 v4 s = some o → BSnd X 6 53 (ovI o) 57 [some (.inr (.inr (0, k0))), some (.inr (.inr (4, k1))), none, some (.inl v3), some (.inl v4)] [] s) : ∀ ls st σ o, hd_Co_goYear_57 g ls st σ = some o → BSnd X 6 53 (ovI o) 57 ls st σ := by
  intro ls st σ o h
  unfold hd_Co_goYear_57 at h
  split at h
  · exact hg _ _ _ _ _ _ h
  · cases h
def hd_Co_goYear_110 {O : Type} (g : Nat → Int32 → Mem → Option O) (ls : OL) (st : List AV) (σ : Mem) : Option O := match ls, st with
  | [none, some (.inr (.inr (4, k1))), none, some (.inl v3)], [] => g k1 v3 σ
  | _, _ => none
theorem hs_Co_goYear_110 {X : CXT} {g : Nat → Int32 → Mem → Option (Int32 × Mem)} (hg : ∀ (k1 : Nat) (v3 : Int32) (s : Mem) (o : Int32 × Mem), g k1 v3 s = some o → BSnd X 6 53 (ovI o) 110 [none, some (.inr (.inr (4, k1))), none, some (.inl v3)] [] s) : ∀ ls st σ o, hd_Co_goYear_110 g ls st σ = some o → BSnd X 6 53 (ovI o) 110 ls st σ := by
  intro ls st σ o h
  unfold hd_Co_goYear_110 at h
  split at h
  · exact hg _ _ _ _ h
  · cases h
def hd_Co_goYear_52 {O : Type} (g : Nat → Nat → Mem → Option O) (ls : OL) (st : List AV) (σ : Mem) : Option O := match ls, st with
  | [some (.inr (.inr (0, k0))), some (.inr (.inr (4, k1)))], [] => g k0 k1 σ
  | _, _ => none
theorem hs_Co_goYear_52 {X : CXT} {g : Nat → Nat → Mem → Option (Int32 × Mem)} (hg : ∀ (k0 : Nat) (k1 : Nat) (s : Mem) (o : Int32 × Mem), g k0 k1 s = some o → BSnd X 6 53 (ovI o) 52 [some (.inr (.inr (0, k0))), some (.inr (.inr (4, k1)))] [] s) : ∀ ls st σ o, hd_Co_goYear_52 g ls st σ = some o → BSnd X 6 53 (ovI o) 52 ls st σ := by
  intro ls st σ o h
  unfold hd_Co_goYear_52 at h
  split at h
  · exact hg _ _ _ _ h
  · cases h
set_option maxRecDepth 100000 in
theorem s_Co_goYear_10 {X : CXT} (hX : XC X) {K52 : Nat → Nat → Mem → Option (Int32 × Mem)} (hK52 : ∀ (k0 : Nat) (k1 : Nat) (s : Mem) (o : Int32 × Mem), K52 k0 k1 s = some o → BSnd X 6 53 (ovI o) 52 [some (.inr (.inr (0, k0))), some (.inr (.inr (4, k1)))] [] s) : ∀ n : Nat, ∀ (k0 : Nat) (k1 : Nat) (k2 : Nat) (v3 : Int32) (s : Mem) (o : Int32 × Mem), f_Co_goYear_10 K52 n k0 k1 k2 v3 s = some o → BSnd X 6 53 (ovI o) 10 [some (.inr (.inr (0, k0))), some (.inr (.inr (4, k1))), some (.inr (.inr (6, k2))), some (.inl v3)] [] s := by
  intro n
  induction n with
  | zero => intro k0 k1 k2 v3 s o h; cases h
  | succ n ih =>
    intro k0 k1 k2 v3 s o h
    exact evC (chs := c_Co_goYear) (cuts := cu_Co_goYear) (G := fun pc ls st σ => if pc = 10 then hd_Co_goYear_10 (fun k0 k1 k2 v3 s => f_Co_goYear_10 K52 n k0 k1 k2 v3 s) ls st σ else if pc = 52 then hd_Co_goYear_52 (fun k0 k1 s => K52 k0 k1 s) ls st σ else none) hX.2.1 hX.2.2 (F := F_Co_goYear _) (fs_Co_goYear hX _) (rt_I rfl) oc_Co_goYear (by
    intro pc ls st σ o h
    rcases ite_s h with ⟨rfl, h⟩ | ⟨_, h⟩
    · exact hs_Co_goYear_10 ih _ _ _ _ h
    rcases ite_s h with ⟨rfl, h⟩ | ⟨_, h⟩
    · exact hs_Co_goYear_52 hK52 _ _ _ _ h
    cases h) 300 10 _ _ _ _ h
set_option maxRecDepth 100000 in
theorem s_Co_goYear_57 {X : CXT} (hX : XC X) {K110 : Nat → Int32 → Mem → Option (Int32 × Mem)} (hK110 : ∀ (k1 : Nat) (v3 : Int32) (s : Mem) (o : Int32 × Mem), K110 k1 v3 s = some o → BSnd X 6 53 (ovI o) 110 [none, some (.inr (.inr (4, k1))), none, some (.inl v3)] [] s) : ∀ n : Nat, ∀ (k0 : Nat) (k1 : Nat) (v3 : Int32) (v4 : Int32) (s : Mem) (o : Int32 × Mem), f_Co_goYear_57 K110 n k0 k1 v3 v4 s = some o → BSnd X 6 53 (ovI o) 57 [some (.inr (.inr (0, k0))), some (.inr (.inr (4, k1))), none, some (.inl v3), some (.inl v4)] [] s := by
  intro n
  induction n with
  | zero => intro k0 k1 v3 v4 s o h; cases h
  | succ n ih =>
    intro k0 k1 v3 v4 s o h
    exact evC (chs := c_Co_goYear) (cuts := cu_Co_goYear) (G := fun pc ls st σ => if pc = 57 then hd_Co_goYear_57 (fun k0 k1 v3 v4 s => f_Co_goYear_57 K110 n k0 k1 v3 v4 s) ls st σ else if pc = 110 then hd_Co_goYear_110 (fun k1 v3 s => K110 k1 v3 s) ls st σ else none) hX.2.1 hX.2.2 (F := F_Co_goYear _) (fs_Co_goYear hX _) (rt_I rfl) oc_Co_goYear (by
    intro pc ls st σ o h
    rcases ite_s h with ⟨rfl, h⟩ | ⟨_, h⟩
    · exact hs_Co_goYear_57 ih _ _ _ _ h
    rcases ite_s h with ⟨rfl, h⟩ | ⟨_, h⟩
    · exact hs_Co_goYear_110 hK110 _ _ _ _ h
    cases h) 300 57 _ _ _ _ h
set_option maxRecDepth 100000 in
theorem s_Co_goYear_110 {X : CXT} (hX : XC X) : ∀ (k1 : Nat) (v3 : Int32) (s : Mem) (o : Int32 × Mem), f_Co_goYear_110 k1 v3 s = some o → BSnd X 6 53 (ovI o) 110 [none, some (.inr (.inr (4, k1))), none, some (.inl v3)] [] s := by
  intro k1 v3 s o h
  exact evC (chs := c_Co_goYear) (cuts := cu_Co_goYear) (G := fun pc ls st σ => none) hX.2.1 hX.2.2 (F := F_Co_goYear _) (fs_Co_goYear hX _) (rt_I rfl) oc_Co_goYear (by
    intro pc ls st σ o h
    cases h) 300 110 _ _ _ _ h
set_option maxRecDepth 100000 in
theorem s_Co_goYear_52 {X : CXT} (hX : XC X) : ∀ (k0 : Nat) (k1 : Nat) (s : Mem) (o : Int32 × Mem), f_Co_goYear_52 k0 k1 s = some o → BSnd X 6 53 (ovI o) 52 [some (.inr (.inr (0, k0))), some (.inr (.inr (4, k1)))] [] s := by
  intro k0 k1 s o h
  exact evC (chs := c_Co_goYear) (cuts := cu_Co_goYear) (G := fun pc ls st σ => if pc = 57 then hd_Co_goYear_57 (fun k0 k1 v3 v4 s => f_Co_goYear_57 (fun k1 v3 s => f_Co_goYear_110 k1 v3 s) FU k0 k1 v3 v4 s) ls st σ else if pc = 110 then hd_Co_goYear_110 (fun k1 v3 s => f_Co_goYear_110 k1 v3 s) ls st σ else none) hX.2.1 hX.2.2 (F := F_Co_goYear _) (fs_Co_goYear hX _) (rt_I rfl) oc_Co_goYear (by
    intro pc ls st σ o h
    rcases ite_s h with ⟨rfl, h⟩ | ⟨_, h⟩
    · exact hs_Co_goYear_57 (s_Co_goYear_57 hX (s_Co_goYear_110 hX) FU) _ _ _ _ h
    rcases ite_s h with ⟨rfl, h⟩ | ⟨_, h⟩
    · exact hs_Co_goYear_110 (s_Co_goYear_110 hX) _ _ _ _ h
    cases h) 300 52 _ _ _ _ h
set_option maxRecDepth 100000 in
theorem s_Co_goYear {X : CXT} (hX : XC X) : ∀ (k0 : Nat) (k1 : Nat) (s : Mem) (o : Int32 × Mem), f_Co_goYear k0 k1 s = some o → BSnd X 6 53 (ovI o) 0 (entL [.inr (.inr (0, k0)), .inr (.inr (4, k1))]) [] s := by
  intro k0 k1 s o h
  rw [f_Co_goYear_eq] at h
  exact evC (chs := c_Co_goYear) (cuts := cu_Co_goYear) (G := fun pc ls st σ => if pc = 10 then hd_Co_goYear_10 (fun k0 k1 k2 v3 s => f_Co_goYear_10 (fun k0 k1 s => f_Co_goYear_52 k0 k1 s) FU k0 k1 k2 v3 s) ls st σ else if pc = 52 then hd_Co_goYear_52 (fun k0 k1 s => f_Co_goYear_52 k0 k1 s) ls st σ else none) hX.2.1 hX.2.2 (F := F_Co_goYear _) (fs_Co_goYear hX _) (rt_I rfl) oc_Co_goYear (by
    intro pc ls st σ o h
    rcases ite_s h with ⟨rfl, h⟩ | ⟨_, h⟩
    · exact hs_Co_goYear_10 (s_Co_goYear_10 hX (s_Co_goYear_52 hX) FU) _ _ _ _ h
    rcases ite_s h with ⟨rfl, h⟩ | ⟨_, h⟩
    · exact hs_Co_goYear_52 (s_Co_goYear_52 hX) _ _ _ _ h
    cases h) 300 0 _ _ _ _ h
theorem ok_Co_goYear {X : CXT} (hX : XC X) : SemOK X 6 53 sm_Co_goYear := by
  intro O av σ K o h
  unfold sm_Co_goYear at h
  split at h
  · obtain ⟨r, hf, h⟩ := Option.bind_eq_some_iff.mp h
    exact ⟨ovI r, fun ht => sp_of hX.1 (by decide) (List.mem_range.mpr (by decide)) (by decide +kernel) ht (Nat.le_of_ble_eq_true rfl) (s_Co_goYear hX _ _ _ _ hf), trivial, h⟩
  · cases h
noncomputable def f_P_years_34 : Nat → Nat → Int32 → Int32 → Int32 → Mem → Option (Int32 × Mem)
  | 0, _, _, _, _, _ => none
  | n + 1, k0, v1, v2, v3, s =>
    cif (v1 ≤ v3) (
      some (v2, s)) (
      (f_Ke_keep (k0 + 128) (k0 + 2) s).bind fun r1 =>
      (f_Co_goYear (k0 + 126) (k0 + 2) r1).bind fun r2 =>
      let x3 : Int32 := v2 + r2.1
      f_P_years_34 n k0 v1 x3 (v3 + (1 : Int32)) r2.2)
noncomputable def b_P_years (k0 : Nat) (v1 : Int32) (s : Mem) : Option (Int32 × Mem) :=
  (f_P_within v1 ((1 : Int32)) ((60 : Int32)) s).bind fun r1 =>
  cif ((b2i r1.1) = 0) (
    some ((-1 : Int32), r1.2)) (
    cif ((rI r1.2 (k0 + 2) 7) ≤ (((9999 : Int32)) - v1)) (
      f_P_years_34 FU k0 v1 ((0 : Int32)) ((0 : Int32)) r1.2) (
      some ((-1 : Int32), r1.2)))
noncomputable def f_P_years : Nat → Int32 → Mem → Option (Int32 × Mem) := Classical.choose (⟨b_P_years, rfl⟩ : ∃ f : Nat → Int32 → Mem → Option (Int32 × Mem), f = b_P_years)
theorem f_P_years_eq : f_P_years = b_P_years := Classical.choose_spec (⟨b_P_years, rfl⟩ : ∃ f : Nat → Int32 → Mem → Option (Int32 × Mem), f = b_P_years)
noncomputable def sm_P_years (O : Type) (av : List AV) (σ : Mem) (K : AV → Mem → Option O) : Option O := match av with
  | [.inr (.inr (11, k0)), .inl v1] => (f_P_years k0 v1 σ).bind fun r => K (.inl r.1) r.2
  | _ => none
def c_P_years : List (List CE) := [[(0, .iload_n 1, 1, 0, 0, 0), (1, .iconst 1, 1, 1, 0, 0), (2, .bipush 60, 2, 60, 0, 0), (4, .invokestatic 80, 3, 17, 3, 1), (7, .ifCond .eq 21, 3, 28, 0, 0), (10, .aload_n 0, 1, 0, 0, 0), (11, .getfield 10, 3, 11, 0, 0), (14, .getfield 70, 3, 10, 0, 0)], [(17, .getfield 144, 3, 4, 7, 0), (20, .sipush 9999, 3, 9999, 0, 0), (23, .iload_n 1, 1, 0, 0, 0), (24, .isub, 1, 0, 0, 0), (25, .if_icmp .le 5, 3, 30, 0, 0), (28, .iconst (-1), 1, 1, 0, 1), (29, .ireturn, 1, 0, 0, 0), (30, .iconst 0, 1, 0, 0, 0), (31, .istore_n 2, 1, 0, 0, 0)], [(32, .iconst 0, 1, 0, 0, 0), (33, .istore_n 3, 1, 0, 0, 0), (34, .iload_n 3, 1, 0, 0, 0), (35, .iload_n 1, 1, 0, 0, 0), (36, .if_icmp .ge 40, 3, 76, 0, 0), (39, .aload_n 0, 1, 0, 0, 0), (40, .getfield 48, 3, 11, 4, 0), (43, .aload_n 0, 1, 0, 0, 0), (44, .getfield 10, 3, 11, 0, 0), (47, .getfield 70, 3, 10, 0, 0)], [(50, .invokevirtual 113, 3, 29, 2, 2), (53, .iload_n 2, 1, 0, 0, 0), (54, .aload_n 0, 1, 0, 0, 0), (55, .getfield 41, 3, 11, 3, 0), (58, .aload_n 0, 1, 0, 0, 0), (59, .getfield 10, 3, 11, 0, 0), (62, .getfield 70, 3, 10, 0, 0)], [(65, .invokevirtual 147, 3, 53, 2, 1), (68, .iadd, 1, 0, 0, 0), (69, .istore_n 2, 1, 0, 0, 0), (70, .iinc 3 1, 3, 1, 0, 0), (73, .goto (-39), 3, 34, 0, 0), (76, .iload_n 2, 1, 0, 0, 0), (77, .ireturn, 1, 0, 0, 0)]]
set_option maxRecDepth 100000 in
theorem oc_P_years : okC 52 c_P_years = true := by decide +kernel
def cu_P_years : List (Nat × List Bool) := [(34, [true, true, true, true])]
noncomputable def F_P_years (O : Type) (a : Nat) (av : List AV) (σ : Mem) (K : AV → Mem → Option O) : Option O := if a = 17 then sm_P_within O av σ K else if a = 29 then sm_Ke_keep O av σ K else if a = 53 then sm_Co_goYear O av σ K else none
theorem fs_P_years {X : CXT} (hX : XC X) (O : Type) : FS X 7 (F_P_years O) := by
  intro a av σ K o h
  unfold F_P_years at h
  rcases ite_s h with ⟨rfl, h⟩ | ⟨_, h⟩
  · obtain ⟨r, h1, h2, h3⟩ := ok_P_within hX _ _ _ _ _ h
    exact ⟨r, fun ht => ⟨1, by decide, h1 ht⟩, h2, h3⟩
  rcases ite_s h with ⟨rfl, h⟩ | ⟨_, h⟩
  · obtain ⟨r, h1, h2, h3⟩ := ok_Ke_keep hX _ _ _ _ _ h
    exact ⟨r, fun ht => ⟨2, by decide, h1 ht⟩, h2, h3⟩
  rcases ite_s h with ⟨rfl, h⟩ | ⟨_, h⟩
  · obtain ⟨r, h1, h2, h3⟩ := ok_Co_goYear hX _ _ _ _ _ h
    exact ⟨r, fun ht => ⟨6, by decide, h1 ht⟩, h2, h3⟩
  cases h
def hd_P_years_34 {O : Type} (g : Nat → Int32 → Int32 → Int32 → Mem → Option O) (ls : OL) (st : List AV) (σ : Mem) : Option O := match ls, st with
  | [some (.inr (.inr (11, k0))), some (.inl v1), some (.inl v2), some (.inl v3)], [] => g k0 v1 v2 v3 σ
  | _, _ => none
theorem hs_P_years_34 {X : CXT} {g : Nat → Int32 → Int32 → Int32 → Mem → Option (Int32 × Mem)} (hg : ∀ (k0 : Nat) (v1 : Int32) (v2 : Int32) (v3 : Int32) (s : Mem) (o : Int32 × Mem), g k0 v1 v2 v3 s = some o → BSnd X 7 52 (ovI o) 34 [some (.inr (.inr (11, k0))), some (.inl v1), some (.inl v2), some (.inl v3)] [] s) : ∀ ls st σ o, hd_P_years_34 g ls st σ = some o → BSnd X 7 52 (ovI o) 34 ls st σ := by
  intro ls st σ o h
  unfold hd_P_years_34 at h
  split at h
  · exact hg _ _ _ _ _ _ h
  · cases h
set_option maxRecDepth 100000 in
theorem s_P_years_34 {X : CXT} (hX : XC X) : ∀ n : Nat, ∀ (k0 : Nat) (v1 : Int32) (v2 : Int32) (v3 : Int32) (s : Mem) (o : Int32 × Mem), f_P_years_34 n k0 v1 v2 v3 s = some o → BSnd X 7 52 (ovI o) 34 [some (.inr (.inr (11, k0))), some (.inl v1), some (.inl v2), some (.inl v3)] [] s := by
  intro n
  induction n with
  | zero => intro k0 v1 v2 v3 s o h; cases h
  | succ n ih =>
    intro k0 v1 v2 v3 s o h
    exact evC (chs := c_P_years) (cuts := cu_P_years) (G := fun pc ls st σ => if pc = 34 then hd_P_years_34 (fun k0 v1 v2 v3 s => f_P_years_34 n k0 v1 v2 v3 s) ls st σ else none) hX.2.1 hX.2.2 (F := F_P_years _) (fs_P_years hX _) (rt_I rfl) oc_P_years (by
    intro pc ls st σ o h
    rcases ite_s h with ⟨rfl, h⟩ | ⟨_, h⟩
    · exact hs_P_years_34 ih _ _ _ _ h
    cases h) 204 34 _ _ _ _ h
set_option maxRecDepth 100000 in
theorem s_P_years {X : CXT} (hX : XC X) : ∀ (k0 : Nat) (v1 : Int32) (s : Mem) (o : Int32 × Mem), f_P_years k0 v1 s = some o → BSnd X 7 52 (ovI o) 0 (entL [.inr (.inr (11, k0)), .inl v1]) [] s := by
  intro k0 v1 s o h
  rw [f_P_years_eq] at h
  exact evC (chs := c_P_years) (cuts := cu_P_years) (G := fun pc ls st σ => if pc = 34 then hd_P_years_34 (fun k0 v1 v2 v3 s => f_P_years_34 FU k0 v1 v2 v3 s) ls st σ else none) hX.2.1 hX.2.2 (F := F_P_years _) (fs_P_years hX _) (rt_I rfl) oc_P_years (by
    intro pc ls st σ o h
    rcases ite_s h with ⟨rfl, h⟩ | ⟨_, h⟩
    · exact hs_P_years_34 (s_P_years_34 hX FU) _ _ _ _ h
    cases h) 204 0 _ _ _ _ h
theorem ok_P_years {X : CXT} (hX : XC X) : SemOK X 7 52 sm_P_years := by
  intro O av σ K o h
  unfold sm_P_years at h
  split at h
  · obtain ⟨r, hf, h⟩ := Option.bind_eq_some_iff.mp h
    exact ⟨ovI r, fun ht => sp_of hX.1 (by decide) (List.mem_range.mpr (by decide)) (by decide +kernel) ht (Nat.le_of_ble_eq_true rfl) (s_P_years hX _ _ _ _ hf), trivial, h⟩
  · cases h
noncomputable def b_Co_turnBack (k0 : Nat) (k1 : Nat) (v2 : Int32) (s : Mem) : Option (Mem) :=
  gd (inb v2 (lenC (k1 + 3))) <|
  let s1 : Mem := wI s (k1 + 3) (ix v2) (vp_nar .boolean ((0 : Int32)))
  gd (inb v2 (lenC (k1 + 2))) <|
  (f_Lo_write (k0 - 67) k1 ((4 : Int32)) v2 (rI s1 (k1 + 2) (ix v2)) s1).bind fun r2 =>
  some r2
noncomputable def f_Co_turnBack : Nat → Nat → Int32 → Mem → Option (Mem) := Classical.choose (⟨b_Co_turnBack, rfl⟩ : ∃ f : Nat → Nat → Int32 → Mem → Option (Mem), f = b_Co_turnBack)
theorem f_Co_turnBack_eq : f_Co_turnBack = b_Co_turnBack := Classical.choose_spec (⟨b_Co_turnBack, rfl⟩ : ∃ f : Nat → Nat → Int32 → Mem → Option (Mem), f = b_Co_turnBack)
noncomputable def sm_Co_turnBack (O : Type) (av : List AV) (σ : Mem) (K : AV → Mem → Option O) : Option O := match av with
  | [.inr (.inr (0, k0)), .inr (.inr (4, k1)), .inl v2] => (f_Co_turnBack k0 k1 v2 σ).bind fun r => K (.inl 0) r
  | _ => none
def c_Co_turnBack : List (List CE) := [[(0, .aload_n 1, 1, 0, 0, 0), (1, .getfield 165, 3, 4, 3, 0), (4, .iload_n 2, 1, 0, 0, 0), (5, .iconst 0, 1, 0, 0, 0), (6, .bastore, 1, 0, 0, 0), (7, .aload_n 0, 1, 0, 0, 0), (8, .getfield 19, 3, 0, 1, 0), (11, .aload_n 1, 1, 0, 0, 0), (12, .iconst 4, 1, 4, 0, 0), (13, .iload_n 2, 1, 0, 0, 0), (14, .aload_n 1, 1, 0, 0, 0), (15, .getfield 64, 3, 4, 2, 0)], [(18, .iload_n 2, 1, 0, 0, 0), (19, .iaload, 1, 0, 0, 0), (20, .invokevirtual 83, 3, 40, 5, 6), (23, .return_, 1, 0, 0, 0)]]
set_option maxRecDepth 100000 in
theorem oc_Co_turnBack : okC 63 c_Co_turnBack = true := by decide +kernel
def cu_Co_turnBack : List (Nat × List Bool) := []
noncomputable def F_Co_turnBack (O : Type) (a : Nat) (av : List AV) (σ : Mem) (K : AV → Mem → Option O) : Option O := if a = 40 then sm_Lo_write O av σ K else none
theorem fs_Co_turnBack {X : CXT} (hX : XC X) (O : Type) : FS X 3 (F_Co_turnBack O) := by
  intro a av σ K o h
  unfold F_Co_turnBack at h
  rcases ite_s h with ⟨rfl, h⟩ | ⟨_, h⟩
  · obtain ⟨r, h1, h2, h3⟩ := ok_Lo_write hX _ _ _ _ _ h
    exact ⟨r, fun ht => ⟨2, by decide, h1 ht⟩, h2, h3⟩
  cases h
set_option maxRecDepth 100000 in
theorem s_Co_turnBack {X : CXT} (hX : XC X) : ∀ (k0 : Nat) (k1 : Nat) (v2 : Int32) (s : Mem) (o : Mem), f_Co_turnBack k0 k1 v2 s = some o → BSnd X 3 63 (ovV o) 0 (entL [.inr (.inr (0, k0)), .inr (.inr (4, k1)), .inl v2]) [] s := by
  intro k0 k1 v2 s o h
  rw [f_Co_turnBack_eq] at h
  exact evC (chs := c_Co_turnBack) (cuts := cu_Co_turnBack) (G := fun pc ls st σ => none) hX.2.1 hX.2.2 (F := F_Co_turnBack _) (fs_Co_turnBack hX _) (rt_V rfl) oc_Co_turnBack (by
    intro pc ls st σ o h
    cases h) 104 0 _ _ _ _ h
theorem ok_Co_turnBack {X : CXT} (hX : XC X) : SemOK X 3 63 sm_Co_turnBack := by
  intro O av σ K o h
  unfold sm_Co_turnBack at h
  split at h
  · obtain ⟨r, hf, h⟩ := Option.bind_eq_some_iff.mp h
    exact ⟨ovV r, fun ht => sp_of hX.1 (by decide) (List.mem_range.mpr (by decide)) (by decide +kernel) ht (Nat.le_of_ble_eq_true rfl) (s_Co_turnBack hX _ _ _ _ _ hf), trivial, h⟩
  · cases h
noncomputable def b_Co_walksOf (k0 : Nat) (k1 : Nat) (v2 : Int32) (s : Mem) : Option (Int32 × Mem) :=
  (f_To_isWalker (k0 - 119) v2 s).bind fun r1 =>
  cif ((b2i r1.1) = 0) (
    some ((0 : Int32), r1.2)) (
    (f_Co_ask k0 k1 r1.2).bind fun r2 =>
    gd (inb v2 (lenC ((k0 - 119) + 1))) <|
    gd (inb ((3 : Int32)) (lenC (k0 + 1))) <|
    let s3 : Mem := wI r2 (k0 + 1) (ix ((3 : Int32))) (rI r2 ((k0 - 119) + 1) (ix v2))
    gd (inb v2 (lenC ((k0 - 119) + 3))) <|
    gd (inb ((4 : Int32)) (lenC (k0 + 1))) <|
    let s4 : Mem := wI s3 (k0 + 1) (ix ((4 : Int32))) (rI s3 ((k0 - 119) + 3) (ix v2))
    gd (inb v2 (lenC (k1 + 4))) <|
    gd (inb ((5 : Int32)) (lenC (k0 + 1))) <|
    let s5 : Mem := wI s4 (k0 + 1) (ix ((5 : Int32))) (rI s4 (k1 + 4) (ix v2))
    gd (inb v2 (lenC (k1 + 2))) <|
    gd (inb ((6 : Int32)) (lenC (k0 + 1))) <|
    let s6 : Mem := wI s5 (k0 + 1) (ix ((6 : Int32))) (imx ((0 : Int32)) (rI s5 (k1 + 2) (ix v2)))
    gd (inb v2 (lenC ((k0 - 119) + 1))) <|
    (f_La_tells ((k0 - 119) + 4) ((1 : Int32)) (k0 + 1) (rI s6 ((k0 - 119) + 1) (ix v2)) ((20 : Int32)) s6).bind fun r7 =>
    some (r7.1, r7.2))
noncomputable def f_Co_walksOf : Nat → Nat → Int32 → Mem → Option (Int32 × Mem) := Classical.choose (⟨b_Co_walksOf, rfl⟩ : ∃ f : Nat → Nat → Int32 → Mem → Option (Int32 × Mem), f = b_Co_walksOf)
theorem f_Co_walksOf_eq : f_Co_walksOf = b_Co_walksOf := Classical.choose_spec (⟨b_Co_walksOf, rfl⟩ : ∃ f : Nat → Nat → Int32 → Mem → Option (Int32 × Mem), f = b_Co_walksOf)
noncomputable def sm_Co_walksOf (O : Type) (av : List AV) (σ : Mem) (K : AV → Mem → Option O) : Option O := match av with
  | [.inr (.inr (0, k0)), .inr (.inr (4, k1)), .inl v2] => (f_Co_walksOf k0 k1 v2 σ).bind fun r => K (.inl r.1) r.2
  | _ => none
def c_Co_walksOf : List (List CE) := [[(0, .aload_n 0, 1, 0, 0, 0), (1, .getfield 15, 3, 0, 0, 0), (4, .iload_n 2, 1, 0, 0, 0), (5, .invokevirtual 51, 3, 22, 2, 17), (8, .ifCond .ne 5, 3, 13, 0, 0), (11, .iconst 0, 1, 0, 0, 0), (12, .ireturn, 1, 0, 0, 0), (13, .aload_n 0, 1, 0, 0, 0), (14, .aload_n 1, 1, 0, 0, 0), (15, .invokevirtual 34, 3, 35, 2, 0)], [(18, .aload_n 0, 1, 0, 0, 0), (19, .getfield 9, 3, 0, 2, 0), (22, .iconst 3, 1, 3, 0, 0), (23, .aload_n 0, 1, 0, 0, 0), (24, .getfield 15, 3, 0, 0, 0), (27, .getfield 55, 3, 8, 0, 0), (30, .iload_n 2, 1, 0, 0, 0), (31, .iaload, 1, 0, 0, 0)], [(32, .iastore, 1, 0, 0, 0), (33, .aload_n 0, 1, 0, 0, 0), (34, .getfield 9, 3, 0, 2, 0), (37, .iconst 4, 1, 4, 0, 0), (38, .aload_n 0, 1, 0, 0, 0), (39, .getfield 15, 3, 0, 0, 0), (42, .getfield 58, 3, 8, 2, 0), (45, .iload_n 2, 1, 0, 0, 0), (46, .iaload, 1, 0, 0, 0), (47, .iastore, 1, 0, 0, 0)], [(48, .aload_n 0, 1, 0, 0, 0), (49, .getfield 9, 3, 0, 2, 0), (52, .iconst 5, 1, 5, 0, 0), (53, .aload_n 1, 1, 0, 0, 0), (54, .getfield 61, 3, 4, 4, 0), (57, .iload_n 2, 1, 0, 0, 0), (58, .iaload, 1, 0, 0, 0), (59, .iastore, 1, 0, 0, 0), (60, .aload_n 0, 1, 0, 0, 0), (61, .getfield 9, 3, 0, 2, 0)], [(64, .bipush 6, 2, 6, 0, 0), (66, .iconst 0, 1, 0, 0, 0), (67, .aload_n 1, 1, 0, 0, 0), (68, .getfield 64, 3, 4, 2, 0), (71, .iload_n 2, 1, 0, 0, 0), (72, .iaload, 1, 0, 0, 0), (73, .invokestatic 67, 3, 7, 2, 2), (76, .iastore, 1, 0, 0, 0), (77, .aload_n 0, 1, 0, 0, 0), (78, .getfield 15, 3, 0, 0, 0)], [(81, .getfield 41, 3, 8, 3, 0), (84, .iconst 1, 1, 1, 0, 0), (85, .aload_n 0, 1, 0, 0, 0), (86, .getfield 9, 3, 0, 2, 0), (89, .aload_n 0, 1, 0, 0, 0), (90, .getfield 15, 3, 0, 0, 0), (93, .getfield 55, 3, 8, 0, 0)], [(96, .iload_n 2, 1, 0, 0, 0), (97, .iaload, 1, 0, 0, 0), (98, .bipush 20, 2, 20, 0, 0), (100, .invokevirtual 45, 3, 36, 5, 5), (103, .ireturn, 1, 0, 0, 0)]]
set_option maxRecDepth 100000 in
theorem oc_Co_walksOf : okC 64 c_Co_walksOf = true := by decide +kernel
def cu_Co_walksOf : List (Nat × List Bool) := []
noncomputable def F_Co_walksOf (O : Type) (a : Nat) (av : List AV) (σ : Mem) (K : AV → Mem → Option O) : Option O := if a = 22 then sm_To_isWalker O av σ K else if a = 35 then sm_Co_ask O av σ K else if a = 36 then sm_La_tells O av σ K else none
theorem fs_Co_walksOf {X : CXT} (hX : XC X) (O : Type) : FS X 4 (F_Co_walksOf O) := by
  intro a av σ K o h
  unfold F_Co_walksOf at h
  rcases ite_s h with ⟨rfl, h⟩ | ⟨_, h⟩
  · obtain ⟨r, h1, h2, h3⟩ := ok_To_isWalker hX _ _ _ _ _ h
    exact ⟨r, fun ht => ⟨1, by decide, h1 ht⟩, h2, h3⟩
  rcases ite_s h with ⟨rfl, h⟩ | ⟨_, h⟩
  · obtain ⟨r, h1, h2, h3⟩ := ok_Co_ask hX _ _ _ _ _ h
    exact ⟨r, fun ht => ⟨1, by decide, h1 ht⟩, h2, h3⟩
  rcases ite_s h with ⟨rfl, h⟩ | ⟨_, h⟩
  · obtain ⟨r, h1, h2, h3⟩ := ok_La_tells hX _ _ _ _ _ h
    exact ⟨r, fun ht => ⟨3, by decide, h1 ht⟩, h2, h3⟩
  cases h
set_option maxRecDepth 100000 in
theorem s_Co_walksOf {X : CXT} (hX : XC X) : ∀ (k0 : Nat) (k1 : Nat) (v2 : Int32) (s : Mem) (o : Int32 × Mem), f_Co_walksOf k0 k1 v2 s = some o → BSnd X 4 64 (ovI o) 0 (entL [.inr (.inr (0, k0)), .inr (.inr (4, k1)), .inl v2]) [] s := by
  intro k0 k1 v2 s o h
  rw [f_Co_walksOf_eq] at h
  exact evC (chs := c_Co_walksOf) (cuts := cu_Co_walksOf) (G := fun pc ls st σ => none) hX.2.1 hX.2.2 (F := F_Co_walksOf _) (fs_Co_walksOf hX _) (rt_I rfl) oc_Co_walksOf (by
    intro pc ls st σ o h
    cases h) 280 0 _ _ _ _ h
theorem ok_Co_walksOf {X : CXT} (hX : XC X) : SemOK X 4 64 sm_Co_walksOf := by
  intro O av σ K o h
  unfold sm_Co_walksOf at h
  split at h
  · obtain ⟨r, hf, h⟩ := Option.bind_eq_some_iff.mp h
    exact ⟨ovI r, fun ht => sp_of hX.1 (by decide) (List.mem_range.mpr (by decide)) (by decide +kernel) ht (Nat.le_of_ble_eq_true rfl) (s_Co_walksOf hX _ _ _ _ _ hf), trivial, h⟩
  · cases h
noncomputable def b_Pi_land (k0 : Nat) (v1 : Int32) (s : Mem) : Option (Mem) :=
  (f_P_within v1 ((0 : Int32)) ((11 : Int32)) s).bind fun r1 =>
  cif ((b2i r1.1) = 0) (
    some r1.2) (
    gd (inb v1 (lenC (k0 + 2))) <|
    let s2 : Mem := wI r1.2 (k0 + 2) (ix v1) ((-1 : Int32))
    gd (inb v1 (lenC (k0 + 3))) <|
    let s3 : Mem := wI s2 (k0 + 3) (ix v1) (vp_nar .boolean ((0 : Int32)))
    gd (inb v1 (lenC (k0 + 4))) <|
    let s4 : Mem := wI s3 (k0 + 4) (ix v1) ((0 : Int32))
    some s4)
noncomputable def f_Pi_land : Nat → Int32 → Mem → Option (Mem) := Classical.choose (⟨b_Pi_land, rfl⟩ : ∃ f : Nat → Int32 → Mem → Option (Mem), f = b_Pi_land)
theorem f_Pi_land_eq : f_Pi_land = b_Pi_land := Classical.choose_spec (⟨b_Pi_land, rfl⟩ : ∃ f : Nat → Int32 → Mem → Option (Mem), f = b_Pi_land)
noncomputable def sm_Pi_land (O : Type) (av : List AV) (σ : Mem) (K : AV → Mem → Option O) : Option O := match av with
  | [.inr (.inr (4, k0)), .inl v1] => (f_Pi_land k0 v1 σ).bind fun r => K (.inl 0) r
  | _ => none
def c_Pi_land : List (List CE) := [[(0, .iload_n 1, 1, 0, 0, 0), (1, .iconst 0, 1, 0, 0, 0), (2, .bipush 11, 2, 11, 0, 0), (4, .invokestatic 50, 3, 17, 3, 1), (7, .ifCond .eq 24, 3, 31, 0, 0), (10, .aload_n 0, 1, 0, 0, 0), (11, .getfield 15, 3, 4, 2, 0), (14, .iload_n 1, 1, 0, 0, 0), (15, .iconst (-1), 1, 1, 0, 1)], [(16, .iastore, 1, 0, 0, 0), (17, .aload_n 0, 1, 0, 0, 0), (18, .getfield 19, 3, 4, 3, 0), (21, .iload_n 1, 1, 0, 0, 0), (22, .iconst 0, 1, 0, 0, 0), (23, .bastore, 1, 0, 0, 0), (24, .aload_n 0, 1, 0, 0, 0), (25, .getfield 22, 3, 4, 4, 0), (28, .iload_n 1, 1, 0, 0, 0), (29, .iconst 0, 1, 0, 0, 0), (30, .iastore, 1, 0, 0, 0), (31, .return_, 1, 0, 0, 0)]]
set_option maxRecDepth 100000 in
theorem oc_Pi_land : okC 66 c_Pi_land = true := by decide +kernel
def cu_Pi_land : List (Nat × List Bool) := []
noncomputable def F_Pi_land (O : Type) (a : Nat) (av : List AV) (σ : Mem) (K : AV → Mem → Option O) : Option O := if a = 17 then sm_P_within O av σ K else none
theorem fs_Pi_land {X : CXT} (hX : XC X) (O : Type) : FS X 2 (F_Pi_land O) := by
  intro a av σ K o h
  unfold F_Pi_land at h
  rcases ite_s h with ⟨rfl, h⟩ | ⟨_, h⟩
  · obtain ⟨r, h1, h2, h3⟩ := ok_P_within hX _ _ _ _ _ h
    exact ⟨r, fun ht => ⟨1, by decide, h1 ht⟩, h2, h3⟩
  cases h
set_option maxRecDepth 100000 in
theorem s_Pi_land {X : CXT} (hX : XC X) : ∀ (k0 : Nat) (v1 : Int32) (s : Mem) (o : Mem), f_Pi_land k0 v1 s = some o → BSnd X 2 66 (ovV o) 0 (entL [.inr (.inr (4, k0)), .inl v1]) [] s := by
  intro k0 v1 s o h
  rw [f_Pi_land_eq] at h
  exact evC (chs := c_Pi_land) (cuts := cu_Pi_land) (G := fun pc ls st σ => none) hX.2.1 hX.2.2 (F := F_Pi_land _) (fs_Pi_land hX _) (rt_V rfl) oc_Pi_land (by
    intro pc ls st σ o h
    cases h) 124 0 _ _ _ _ h
theorem ok_Pi_land {X : CXT} (hX : XC X) : SemOK X 2 66 sm_Pi_land := by
  intro O av σ K o h
  unfold sm_Pi_land at h
  split at h
  · obtain ⟨r, hf, h⟩ := Option.bind_eq_some_iff.mp h
    exact ⟨ovV r, fun ht => sp_of hX.1 (by decide) (List.mem_range.mpr (by decide)) (by decide +kernel) ht (Nat.le_of_ble_eq_true rfl) (s_Pi_land hX _ _ _ _ hf), trivial, h⟩
  · cases h
noncomputable def f_Co_step_29 (k0 : Nat) (k1 : Nat) (v2 : Int32) (v3 : Int32) (s : Mem) : Option (Bool × Mem) :=
  cif (0 ≤ v3) (
    (f_Pi_isWhole k1 v3 s).bind fun r1 =>
    cif ((b2i r1.1) = 0) (
      gd (inb v2 (lenC (k1 + 3))) <|
      cif ((rI r1.2 (k1 + 3) (ix v2)) = 0) (
        some (false, r1.2)) (
        (f_Co_turnBack k0 k1 v2 r1.2).bind fun r2 =>
        some (false, r2))) (
      gd (inb v2 (lenC (k1 + 2))) <|
      let s3 : Mem := wI r1.2 (k1 + 2) (ix v2) v3
      some (true, s3))) (
    (f_Pi_land k1 v2 s).bind fun r4 =>
    (f_Lo_write (k0 - 67) k1 ((5 : Int32)) v2 (rI r4 k1 8) r4).bind fun r5 =>
    some (false, r5))
noncomputable def b_Co_step (k0 : Nat) (k1 : Nat) (v2 : Int32) (s : Mem) : Option (Bool × Mem) :=
  gd (inb v2 (lenC (k1 + 3))) <|
  cif ((rI s (k1 + 3) (ix v2)) = 0) (
    gd (inb v2 (lenC (k1 + 2))) <|
    let x1 : Int32 := (rI s (k1 + 2) (ix v2)) - ((1 : Int32))
    f_Co_step_29 k0 k1 v2 x1 s) (
    gd (inb v2 (lenC (k1 + 2))) <|
    let x2 : Int32 := (rI s (k1 + 2) (ix v2)) + ((1 : Int32))
    f_Co_step_29 k0 k1 v2 x2 s)
noncomputable def f_Co_step : Nat → Nat → Int32 → Mem → Option (Bool × Mem) := Classical.choose (⟨b_Co_step, rfl⟩ : ∃ f : Nat → Nat → Int32 → Mem → Option (Bool × Mem), f = b_Co_step)
theorem f_Co_step_eq : f_Co_step = b_Co_step := Classical.choose_spec (⟨b_Co_step, rfl⟩ : ∃ f : Nat → Nat → Int32 → Mem → Option (Bool × Mem), f = b_Co_step)
noncomputable def sm_Co_step (O : Type) (av : List AV) (σ : Mem) (K : AV → Mem → Option O) : Option O := match av with
  | [.inr (.inr (0, k0)), .inr (.inr (4, k1)), .inl v2] => (f_Co_step k0 k1 v2 σ).bind fun r => K (.inl (b2i r.1)) r.2
  | _ => none
def c_Co_step : List (List CE) := [[(0, .aload_n 1, 1, 0, 0, 0), (1, .getfield 165, 3, 4, 3, 0), (4, .iload_n 2, 1, 0, 0, 0), (5, .baload, 1, 0, 0, 0), (6, .ifCond .eq 14, 3, 20, 0, 0), (9, .aload_n 1, 1, 0, 0, 0), (10, .getfield 64, 3, 4, 2, 0), (13, .iload_n 2, 1, 0, 0, 0), (14, .iaload, 1, 0, 0, 0), (15, .iconst 1, 1, 1, 0, 0)], [(16, .iadd, 1, 0, 0, 0), (17, .goto 11, 3, 28, 0, 0), (20, .aload_n 1, 1, 0, 0, 0), (21, .getfield 64, 3, 4, 2, 0), (24, .iload_n 2, 1, 0, 0, 0), (25, .iaload, 1, 0, 0, 0), (26, .iconst 1, 1, 1, 0, 0), (27, .isub, 1, 0, 0, 0), (28, .istore_n 3, 1, 0, 0, 0), (29, .iload_n 3, 1, 0, 0, 0), (30, .ifCond .ge 24, 3, 54, 0, 0)], [(33, .aload_n 1, 1, 0, 0, 0), (34, .iload_n 2, 1, 0, 0, 0), (35, .invokevirtual 181, 3, 66, 2, 8), (38, .aload_n 0, 1, 0, 0, 0), (39, .getfield 19, 3, 0, 1, 0), (42, .aload_n 1, 1, 0, 0, 0), (43, .iconst 5, 1, 5, 0, 0), (44, .iload_n 2, 1, 0, 0, 0), (45, .aload_n 1, 1, 0, 0, 0), (46, .getfield 139, 3, 4, 8, 0)], [(49, .invokevirtual 83, 3, 40, 5, 6), (52, .iconst 0, 1, 0, 0, 0), (53, .ireturn, 1, 0, 0, 0), (54, .aload_n 1, 1, 0, 0, 0), (55, .iload_n 3, 1, 0, 0, 0), (56, .invokevirtual 119, 3, 43, 2, 9), (59, .ifCond .ne 20, 3, 79, 0, 0), (62, .aload_n 1, 1, 0, 0, 0), (63, .getfield 165, 3, 4, 3, 0)], [(66, .iload_n 2, 1, 0, 0, 0), (67, .baload, 1, 0, 0, 0), (68, .ifCond .eq 9, 3, 77, 0, 0), (71, .aload_n 0, 1, 0, 0, 0), (72, .aload_n 1, 1, 0, 0, 0), (73, .iload_n 2, 1, 0, 0, 0), (74, .invokevirtual 169, 3, 63, 3, 0), (77, .iconst 0, 1, 0, 0, 0), (78, .ireturn, 1, 0, 0, 0), (79, .aload_n 1, 1, 0, 0, 0)], [(80, .getfield 64, 3, 4, 2, 0), (83, .iload_n 2, 1, 0, 0, 0), (84, .iload_n 3, 1, 0, 0, 0), (85, .iastore, 1, 0, 0, 0), (86, .iconst 1, 1, 1, 0, 0), (87, .ireturn, 1, 0, 0, 0)]]
set_option maxRecDepth 100000 in
theorem oc_Co_step : okC 65 c_Co_step = true := by decide +kernel
def cu_Co_step : List (Nat × List Bool) := [(29, [true, true, true, true])]
noncomputable def F_Co_step (O : Type) (a : Nat) (av : List AV) (σ : Mem) (K : AV → Mem → Option O) : Option O := if a = 40 then sm_Lo_write O av σ K else if a = 43 then sm_Pi_isWhole O av σ K else if a = 63 then sm_Co_turnBack O av σ K else if a = 66 then sm_Pi_land O av σ K else none
theorem fs_Co_step {X : CXT} (hX : XC X) (O : Type) : FS X 4 (F_Co_step O) := by
  intro a av σ K o h
  unfold F_Co_step at h
  rcases ite_s h with ⟨rfl, h⟩ | ⟨_, h⟩
  · obtain ⟨r, h1, h2, h3⟩ := ok_Lo_write hX _ _ _ _ _ h
    exact ⟨r, fun ht => ⟨2, by decide, h1 ht⟩, h2, h3⟩
  rcases ite_s h with ⟨rfl, h⟩ | ⟨_, h⟩
  · obtain ⟨r, h1, h2, h3⟩ := ok_Pi_isWhole hX _ _ _ _ _ h
    exact ⟨r, fun ht => ⟨3, by decide, h1 ht⟩, h2, h3⟩
  rcases ite_s h with ⟨rfl, h⟩ | ⟨_, h⟩
  · obtain ⟨r, h1, h2, h3⟩ := ok_Co_turnBack hX _ _ _ _ _ h
    exact ⟨r, fun ht => ⟨3, by decide, h1 ht⟩, h2, h3⟩
  rcases ite_s h with ⟨rfl, h⟩ | ⟨_, h⟩
  · obtain ⟨r, h1, h2, h3⟩ := ok_Pi_land hX _ _ _ _ _ h
    exact ⟨r, fun ht => ⟨2, by decide, h1 ht⟩, h2, h3⟩
  cases h
def hd_Co_step_29 {O : Type} (g : Nat → Nat → Int32 → Int32 → Mem → Option O) (ls : OL) (st : List AV) (σ : Mem) : Option O := match ls, st with
  | [some (.inr (.inr (0, k0))), some (.inr (.inr (4, k1))), some (.inl v2), some (.inl v3)], [] => g k0 k1 v2 v3 σ
  | _, _ => none
theorem hs_Co_step_29 {X : CXT} {g : Nat → Nat → Int32 → Int32 → Mem → Option (Bool × Mem)} (hg : ∀ (k0 : Nat) (k1 : Nat) (v2 : Int32) (v3 : Int32) (s : Mem) (o : Bool × Mem), g k0 k1 v2 v3 s = some o → BSnd X 4 65 (ovZ o) 29 [some (.inr (.inr (0, k0))), some (.inr (.inr (4, k1))), some (.inl v2), some (.inl v3)] [] s) : ∀ ls st σ o, hd_Co_step_29 g ls st σ = some o → BSnd X 4 65 (ovZ o) 29 ls st σ := by
  intro ls st σ o h
  unfold hd_Co_step_29 at h
  split at h
  · exact hg _ _ _ _ _ _ h
  · cases h
set_option maxRecDepth 100000 in
theorem s_Co_step_29 {X : CXT} (hX : XC X) : ∀ (k0 : Nat) (k1 : Nat) (v2 : Int32) (v3 : Int32) (s : Mem) (o : Bool × Mem), f_Co_step_29 k0 k1 v2 v3 s = some o → BSnd X 4 65 (ovZ o) 29 [some (.inr (.inr (0, k0))), some (.inr (.inr (4, k1))), some (.inl v2), some (.inl v3)] [] s := by
  intro k0 k1 v2 v3 s o h
  exact evC (chs := c_Co_step) (cuts := cu_Co_step) (G := fun pc ls st σ => none) hX.2.1 hX.2.2 (F := F_Co_step _) (fs_Co_step hX _) (rt_Z rfl) oc_Co_step (by
    intro pc ls st σ o h
    cases h) 264 29 _ _ _ _ h
set_option maxRecDepth 100000 in
theorem s_Co_step {X : CXT} (hX : XC X) : ∀ (k0 : Nat) (k1 : Nat) (v2 : Int32) (s : Mem) (o : Bool × Mem), f_Co_step k0 k1 v2 s = some o → BSnd X 4 65 (ovZ o) 0 (entL [.inr (.inr (0, k0)), .inr (.inr (4, k1)), .inl v2]) [] s := by
  intro k0 k1 v2 s o h
  rw [f_Co_step_eq] at h
  exact evC (chs := c_Co_step) (cuts := cu_Co_step) (G := fun pc ls st σ => if pc = 29 then hd_Co_step_29 (fun k0 k1 v2 v3 s => f_Co_step_29 k0 k1 v2 v3 s) ls st σ else none) hX.2.1 hX.2.2 (F := F_Co_step _) (fs_Co_step hX _) (rt_Z rfl) oc_Co_step (by
    intro pc ls st σ o h
    rcases ite_s h with ⟨rfl, h⟩ | ⟨_, h⟩
    · exact hs_Co_step_29 (s_Co_step_29 hX) _ _ _ _ h
    cases h) 264 0 _ _ _ _ h
theorem ok_Co_step {X : CXT} (hX : XC X) : SemOK X 4 65 sm_Co_step := by
  intro O av σ K o h
  unfold sm_Co_step at h
  split at h
  · obtain ⟨r, hf, h⟩ := Option.bind_eq_some_iff.mp h
    exact ⟨ovZ r, fun ht => sp_of hX.1 (by decide) (List.mem_range.mpr (by decide)) (by decide +kernel) ht (Nat.le_of_ble_eq_true rfl) (s_Co_step hX _ _ _ _ _ hf), trivial, h⟩
  · cases h
noncomputable def b_Co_lose (k0 : Nat) (k1 : Nat) (v2 : Int32) (s : Mem) : Option (Mem) :=
  gd (inb v2 (lenC (k1 + 2))) <|
  (f_Lo_write (k0 - 67) k1 ((6 : Int32)) v2 (rI s (k1 + 2) (ix v2)) s).bind fun r1 =>
  (f_Pi_land k1 v2 r1).bind fun r2 =>
  let s3 : Mem := wI r2 k1 9 ((rI r2 k1 9) + ((1 : Int32)))
  some s3
noncomputable def f_Co_lose : Nat → Nat → Int32 → Mem → Option (Mem) := Classical.choose (⟨b_Co_lose, rfl⟩ : ∃ f : Nat → Nat → Int32 → Mem → Option (Mem), f = b_Co_lose)
theorem f_Co_lose_eq : f_Co_lose = b_Co_lose := Classical.choose_spec (⟨b_Co_lose, rfl⟩ : ∃ f : Nat → Nat → Int32 → Mem → Option (Mem), f = b_Co_lose)
noncomputable def sm_Co_lose (O : Type) (av : List AV) (σ : Mem) (K : AV → Mem → Option O) : Option O := match av with
  | [.inr (.inr (0, k0)), .inr (.inr (4, k1)), .inl v2] => (f_Co_lose k0 k1 v2 σ).bind fun r => K (.inl 0) r
  | _ => none
def c_Co_lose : List (List CE) := [[(0, .aload_n 0, 1, 0, 0, 0), (1, .getfield 19, 3, 0, 1, 0), (4, .aload_n 1, 1, 0, 0, 0), (5, .bipush 6, 2, 6, 0, 0), (7, .iload_n 2, 1, 0, 0, 0), (8, .aload_n 1, 1, 0, 0, 0), (9, .getfield 64, 3, 4, 2, 0), (12, .iload_n 2, 1, 0, 0, 0), (13, .iaload, 1, 0, 0, 0), (14, .invokevirtual 83, 3, 40, 5, 6)], [(17, .aload_n 1, 1, 0, 0, 0), (18, .iload_n 2, 1, 0, 0, 0), (19, .invokevirtual 181, 3, 66, 2, 8), (22, .aload_n 1, 1, 0, 0, 0), (23, .dup, 1, 0, 0, 0), (24, .getfield 185, 3, 4, 9, 0), (27, .iconst 1, 1, 1, 0, 0), (28, .iadd, 1, 0, 0, 0), (29, .putfield 185, 3, 4, 9, 0)], [(32, .return_, 1, 0, 0, 0)]]
set_option maxRecDepth 100000 in
theorem oc_Co_lose : okC 67 c_Co_lose = true := by decide +kernel
def cu_Co_lose : List (Nat × List Bool) := []
noncomputable def F_Co_lose (O : Type) (a : Nat) (av : List AV) (σ : Mem) (K : AV → Mem → Option O) : Option O := if a = 40 then sm_Lo_write O av σ K else if a = 66 then sm_Pi_land O av σ K else none
theorem fs_Co_lose {X : CXT} (hX : XC X) (O : Type) : FS X 3 (F_Co_lose O) := by
  intro a av σ K o h
  unfold F_Co_lose at h
  rcases ite_s h with ⟨rfl, h⟩ | ⟨_, h⟩
  · obtain ⟨r, h1, h2, h3⟩ := ok_Lo_write hX _ _ _ _ _ h
    exact ⟨r, fun ht => ⟨2, by decide, h1 ht⟩, h2, h3⟩
  rcases ite_s h with ⟨rfl, h⟩ | ⟨_, h⟩
  · obtain ⟨r, h1, h2, h3⟩ := ok_Pi_land hX _ _ _ _ _ h
    exact ⟨r, fun ht => ⟨2, by decide, h1 ht⟩, h2, h3⟩
  cases h
set_option maxRecDepth 100000 in
theorem s_Co_lose {X : CXT} (hX : XC X) : ∀ (k0 : Nat) (k1 : Nat) (v2 : Int32) (s : Mem) (o : Mem), f_Co_lose k0 k1 v2 s = some o → BSnd X 3 67 (ovV o) 0 (entL [.inr (.inr (0, k0)), .inr (.inr (4, k1)), .inl v2]) [] s := by
  intro k0 k1 v2 s o h
  rw [f_Co_lose_eq] at h
  exact evC (chs := c_Co_lose) (cuts := cu_Co_lose) (G := fun pc ls st σ => none) hX.2.1 hX.2.2 (F := F_Co_lose _) (fs_Co_lose hX _) (rt_V rfl) oc_Co_lose (by
    intro pc ls st σ o h
    cases h) 120 0 _ _ _ _ h
theorem ok_Co_lose {X : CXT} (hX : XC X) : SemOK X 3 67 sm_Co_lose := by
  intro O av σ K o h
  unfold sm_Co_lose at h
  split at h
  · obtain ⟨r, hf, h⟩ := Option.bind_eq_some_iff.mp h
    exact ⟨ovV r, fun ht => sp_of hX.1 (by decide) (List.mem_range.mpr (by decide)) (by decide +kernel) ht (Nat.le_of_ble_eq_true rfl) (s_Co_lose hX _ _ _ _ _ hf), trivial, h⟩
  · cases h
noncomputable def f_Co_goWalker_79 (K104 : Nat → Nat → Int32 → Mem → Option (Bool × Mem)) : Nat → Nat → Nat → Int32 → Int32 → Int32 → Int32 → Mem → Option (Bool × Mem)
  | 0, _, _, _, _, _, _, _ => none
  | n + 1, k0, k1, v2, v3, v4, v5, s =>
    cif (v3 ≤ v5) (
      K104 k0 k1 v2 s) (
      cif (v4 = 0) (
        K104 k0 k1 v2 s) (
        (f_Co_step k0 k1 v2 s).bind fun r1 =>
        let x2 : Int32 := b2i r1.1
        f_Co_goWalker_79 K104 n k0 k1 v2 v3 x2 (v5 + (1 : Int32)) r1.2))
noncomputable def f_Co_goWalker_104 (k0 : Nat) (k1 : Nat) (v2 : Int32) (s : Mem) : Option (Bool × Mem) :=
  (f_Pi_isOnPier k1 v2 s).bind fun r1 =>
  cif ((b2i r1.1) = 0) (
    some (true, r1.2)) (
    gd (inb v2 (lenC (k1 + 4))) <|
    cif (0 < (rI r1.2 (k1 + 4) (ix v2))) (
      some (false, r1.2)) (
      (f_Co_lose k0 k1 v2 r1.2).bind fun r2 =>
      some (false, r2)))
noncomputable def b_Co_goWalker (k0 : Nat) (k1 : Nat) (v2 : Int32) (s : Mem) : Option (Bool × Mem) :=
  (f_To_isWalker (k0 - 119) v2 s).bind fun r1 =>
  cif ((b2i r1.1) = 0) (
    some (false, r1.2)) (
    (f_Pi_isOnPier k1 v2 r1.2).bind fun r2 =>
    cif ((b2i r2.1) = 0) (
      some (false, r2.2)) (
      gd (inb v2 (lenC (k1 + 4))) <|
      gd (inb v2 (lenC (k1 + 4))) <|
      let s3 : Mem := wI r2.2 (k1 + 4) (ix v2) ((rI r2.2 (k1 + 4) (ix v2)) - ((1 : Int32)))
      gd (inb v2 (lenC (k1 + 3))) <|
      cif ((rI s3 (k1 + 3) (ix v2)) = 0) (
        (f_Co_walksOf k0 k1 v2 s3).bind fun r4 =>
        f_Co_goWalker_79 (fun k0 k1 v2 s => f_Co_goWalker_104 k0 k1 v2 s) FU k0 k1 v2 r4.1 ((1 : Int32)) ((0 : Int32)) r4.2) (
        gd (inb v2 (lenC (k1 + 4))) <|
        gd (inb v2 (lenC ((k0 - 119) + 2))) <|
        cif (((rI s3 ((k0 - 119) + 2) (ix v2)) / ((2 : Int32))) < (rI s3 (k1 + 4) (ix v2))) (
          (f_Co_walksOf k0 k1 v2 s3).bind fun r5 =>
          f_Co_goWalker_79 (fun k0 k1 v2 s => f_Co_goWalker_104 k0 k1 v2 s) FU k0 k1 v2 r5.1 ((1 : Int32)) ((0 : Int32)) r5.2) (
          (f_Co_turnBack k0 k1 v2 s3).bind fun r6 =>
          (f_Co_walksOf k0 k1 v2 r6).bind fun r7 =>
          f_Co_goWalker_79 (fun k0 k1 v2 s => f_Co_goWalker_104 k0 k1 v2 s) FU k0 k1 v2 r7.1 ((1 : Int32)) ((0 : Int32)) r7.2))))
noncomputable def f_Co_goWalker : Nat → Nat → Int32 → Mem → Option (Bool × Mem) := Classical.choose (⟨b_Co_goWalker, rfl⟩ : ∃ f : Nat → Nat → Int32 → Mem → Option (Bool × Mem), f = b_Co_goWalker)
theorem f_Co_goWalker_eq : f_Co_goWalker = b_Co_goWalker := Classical.choose_spec (⟨b_Co_goWalker, rfl⟩ : ∃ f : Nat → Nat → Int32 → Mem → Option (Bool × Mem), f = b_Co_goWalker)
noncomputable def sm_Co_goWalker (O : Type) (av : List AV) (σ : Mem) (K : AV → Mem → Option O) : Option O := match av with
  | [.inr (.inr (0, k0)), .inr (.inr (4, k1)), .inl v2] => (f_Co_goWalker k0 k1 v2 σ).bind fun r => K (.inl (b2i r.1)) r.2
  | _ => none
def c_Co_goWalker : List (List CE) := [[(0, .aload_n 0, 1, 0, 0, 0), (1, .getfield 15, 3, 0, 0, 0), (4, .iload_n 2, 1, 0, 0, 0), (5, .invokevirtual 51, 3, 22, 2, 17), (8, .ifCond .eq 11, 3, 19, 0, 0), (11, .aload_n 1, 1, 0, 0, 0), (12, .iload_n 2, 1, 0, 0, 0), (13, .invokevirtual 152, 3, 23, 2, 9)], [(16, .ifCond .ne 5, 3, 21, 0, 0), (19, .iconst 0, 1, 0, 0, 0), (20, .ireturn, 1, 0, 0, 0), (21, .aload_n 1, 1, 0, 0, 0), (22, .getfield 61, 3, 4, 4, 0), (25, .iload_n 2, 1, 0, 0, 0), (26, .dup2, 1, 0, 0, 0), (27, .iaload, 1, 0, 0, 0), (28, .iconst 1, 1, 1, 0, 0), (29, .isub, 1, 0, 0, 0), (30, .iastore, 1, 0, 0, 0), (31, .aload_n 1, 1, 0, 0, 0)], [(32, .getfield 165, 3, 4, 3, 0), (35, .iload_n 2, 1, 0, 0, 0), (36, .baload, 1, 0, 0, 0), (37, .ifCond .eq 29, 3, 66, 0, 0), (40, .aload_n 1, 1, 0, 0, 0), (41, .getfield 61, 3, 4, 4, 0), (44, .iload_n 2, 1, 0, 0, 0), (45, .iaload, 1, 0, 0, 0), (46, .aload_n 0, 1, 0, 0, 0), (47, .getfield 15, 3, 0, 0, 0)], [(50, .getfield 158, 3, 8, 1, 0), (53, .iload_n 2, 1, 0, 0, 0), (54, .iaload, 1, 0, 0, 0), (55, .iconst 2, 1, 2, 0, 0), (56, .idiv, 1, 0, 0, 0), (57, .if_icmp .gt 9, 3, 66, 0, 0), (60, .aload_n 0, 1, 0, 0, 0), (61, .aload_n 1, 1, 0, 0, 0), (62, .iload_n 2, 1, 0, 0, 0), (63, .invokevirtual 169, 3, 63, 3, 0)], [(66, .aload_n 0, 1, 0, 0, 0), (67, .aload_n 1, 1, 0, 0, 0), (68, .iload_n 2, 1, 0, 0, 0), (69, .invokevirtual 172, 3, 64, 3, 1), (72, .istore_n 3, 1, 0, 0, 0), (73, .iconst 1, 1, 1, 0, 0), (74, .istore 4, 2, 0, 0, 0), (76, .iconst 0, 1, 0, 0, 0), (77, .istore 5, 2, 0, 0, 0), (79, .iload 5, 2, 0, 0, 0)], [(81, .iload_n 3, 1, 0, 0, 0), (82, .if_icmp .ge 22, 3, 104, 0, 0), (85, .iload 4, 2, 0, 0, 0), (87, .ifCond .eq 17, 3, 104, 0, 0), (90, .aload_n 0, 1, 0, 0, 0), (91, .aload_n 1, 1, 0, 0, 0), (92, .iload_n 2, 1, 0, 0, 0), (93, .invokevirtual 175, 3, 65, 3, 1)], [(96, .istore 4, 2, 0, 0, 0), (98, .iinc 5 1, 3, 1, 0, 0), (101, .goto (-22), 3, 79, 0, 0), (104, .aload_n 1, 1, 0, 0, 0), (105, .iload_n 2, 1, 0, 0, 0), (106, .invokevirtual 152, 3, 23, 2, 9), (109, .ifCond .ne 5, 3, 114, 0, 0)], [(112, .iconst 1, 1, 1, 0, 0), (113, .ireturn, 1, 0, 0, 0), (114, .aload_n 1, 1, 0, 0, 0), (115, .getfield 61, 3, 4, 4, 0), (118, .iload_n 2, 1, 0, 0, 0), (119, .iaload, 1, 0, 0, 0), (120, .ifCond .gt 9, 3, 129, 0, 0), (123, .aload_n 0, 1, 0, 0, 0), (124, .aload_n 1, 1, 0, 0, 0), (125, .iload_n 2, 1, 0, 0, 0), (126, .invokevirtual 178, 3, 67, 3, 0)], [(129, .iconst 0, 1, 0, 0, 0), (130, .ireturn, 1, 0, 0, 0)]]
set_option maxRecDepth 100000 in
theorem oc_Co_goWalker : okC 62 c_Co_goWalker = true := by decide +kernel
def cu_Co_goWalker : List (Nat × List Bool) := [(79, [true, true, true, true, true, true]), (104, [true, true, true])]
noncomputable def F_Co_goWalker (O : Type) (a : Nat) (av : List AV) (σ : Mem) (K : AV → Mem → Option O) : Option O := if a = 22 then sm_To_isWalker O av σ K else if a = 23 then sm_Pi_isOnPier O av σ K else if a = 63 then sm_Co_turnBack O av σ K else if a = 64 then sm_Co_walksOf O av σ K else if a = 65 then sm_Co_step O av σ K else if a = 67 then sm_Co_lose O av σ K else none
theorem fs_Co_goWalker {X : CXT} (hX : XC X) (O : Type) : FS X 5 (F_Co_goWalker O) := by
  intro a av σ K o h
  unfold F_Co_goWalker at h
  rcases ite_s h with ⟨rfl, h⟩ | ⟨_, h⟩
  · obtain ⟨r, h1, h2, h3⟩ := ok_To_isWalker hX _ _ _ _ _ h
    exact ⟨r, fun ht => ⟨1, by decide, h1 ht⟩, h2, h3⟩
  rcases ite_s h with ⟨rfl, h⟩ | ⟨_, h⟩
  · obtain ⟨r, h1, h2, h3⟩ := ok_Pi_isOnPier hX _ _ _ _ _ h
    exact ⟨r, fun ht => ⟨2, by decide, h1 ht⟩, h2, h3⟩
  rcases ite_s h with ⟨rfl, h⟩ | ⟨_, h⟩
  · obtain ⟨r, h1, h2, h3⟩ := ok_Co_turnBack hX _ _ _ _ _ h
    exact ⟨r, fun ht => ⟨3, by decide, h1 ht⟩, h2, h3⟩
  rcases ite_s h with ⟨rfl, h⟩ | ⟨_, h⟩
  · obtain ⟨r, h1, h2, h3⟩ := ok_Co_walksOf hX _ _ _ _ _ h
    exact ⟨r, fun ht => ⟨4, by decide, h1 ht⟩, h2, h3⟩
  rcases ite_s h with ⟨rfl, h⟩ | ⟨_, h⟩
  · obtain ⟨r, h1, h2, h3⟩ := ok_Co_step hX _ _ _ _ _ h
    exact ⟨r, fun ht => ⟨4, by decide, h1 ht⟩, h2, h3⟩
  rcases ite_s h with ⟨rfl, h⟩ | ⟨_, h⟩
  · obtain ⟨r, h1, h2, h3⟩ := ok_Co_lose hX _ _ _ _ _ h
    exact ⟨r, fun ht => ⟨3, by decide, h1 ht⟩, h2, h3⟩
  cases h
def hd_Co_goWalker_79 {O : Type} (g : Nat → Nat → Int32 → Int32 → Int32 → Int32 → Mem → Option O) (ls : OL) (st : List AV) (σ : Mem) : Option O := match ls, st with
  | [some (.inr (.inr (0, k0))), some (.inr (.inr (4, k1))), some (.inl v2), some (.inl v3), some (.inl v4), some (.inl v5)], [] => g k0 k1 v2 v3 v4 v5 σ
  | _, _ => none
theorem hs_Co_goWalker_79 {X : CXT} {g : Nat → Nat → Int32 → Int32 → Int32 → Int32 → Mem → Option (Bool × Mem)} (hg : ∀ (k0 : Nat) (k1 : Nat) (v2 : Int32) (v3 : Int32) (v4 : Int32) (v5 : Int32) (s : Mem) (o : Bool × Mem), g k0 k1 v2 v3 v4 v5 s = some o → BSnd X 5 62 (ovZ o) 79 [some (.inr (.inr (0, k0))), some (.inr (.inr (4, k1))), some (.inl v2), some (.inl v3), some (.inl v4), some (.inl v5)] [] s) : ∀ ls st σ o, hd_Co_goWalker_79 g ls st σ = some o → BSnd X 5 62 (ovZ o) 79 ls st σ := by
  intro ls st σ o h
  unfold hd_Co_goWalker_79 at h
  split at h
  · exact hg _ _ _ _ _ _ _ _ h
  · cases h
def hd_Co_goWalker_104 {O : Type} (g : Nat → Nat → Int32 → Mem → Option O) (ls : OL) (st : List AV) (σ : Mem) : Option O := match ls, st with
  | [some (.inr (.inr (0, k0))), some (.inr (.inr (4, k1))), some (.inl v2)], [] => g k0 k1 v2 σ
  | _, _ => none
theorem hs_Co_goWalker_104 {X : CXT} {g : Nat → Nat → Int32 → Mem → Option (Bool × Mem)} (hg : ∀ (k0 : Nat) (k1 : Nat) (v2 : Int32) (s : Mem) (o : Bool × Mem), g k0 k1 v2 s = some o → BSnd X 5 62 (ovZ o) 104 [some (.inr (.inr (0, k0))), some (.inr (.inr (4, k1))), some (.inl v2)] [] s) : ∀ ls st σ o, hd_Co_goWalker_104 g ls st σ = some o → BSnd X 5 62 (ovZ o) 104 ls st σ := by
  intro ls st σ o h
  unfold hd_Co_goWalker_104 at h
  split at h
  · exact hg _ _ _ _ _ h
  · cases h
set_option maxRecDepth 100000 in
theorem s_Co_goWalker_79 {X : CXT} (hX : XC X) {K104 : Nat → Nat → Int32 → Mem → Option (Bool × Mem)} (hK104 : ∀ (k0 : Nat) (k1 : Nat) (v2 : Int32) (s : Mem) (o : Bool × Mem), K104 k0 k1 v2 s = some o → BSnd X 5 62 (ovZ o) 104 [some (.inr (.inr (0, k0))), some (.inr (.inr (4, k1))), some (.inl v2)] [] s) : ∀ n : Nat, ∀ (k0 : Nat) (k1 : Nat) (v2 : Int32) (v3 : Int32) (v4 : Int32) (v5 : Int32) (s : Mem) (o : Bool × Mem), f_Co_goWalker_79 K104 n k0 k1 v2 v3 v4 v5 s = some o → BSnd X 5 62 (ovZ o) 79 [some (.inr (.inr (0, k0))), some (.inr (.inr (4, k1))), some (.inl v2), some (.inl v3), some (.inl v4), some (.inl v5)] [] s := by
  intro n
  induction n with
  | zero => intro k0 k1 v2 v3 v4 v5 s o h; cases h
  | succ n ih =>
    intro k0 k1 v2 v3 v4 v5 s o h
    exact evC (chs := c_Co_goWalker) (cuts := cu_Co_goWalker) (G := fun pc ls st σ => if pc = 79 then hd_Co_goWalker_79 (fun k0 k1 v2 v3 v4 v5 s => f_Co_goWalker_79 K104 n k0 k1 v2 v3 v4 v5 s) ls st σ else if pc = 104 then hd_Co_goWalker_104 (fun k0 k1 v2 s => K104 k0 k1 v2 s) ls st σ else none) hX.2.1 hX.2.2 (F := F_Co_goWalker _) (fs_Co_goWalker hX _) (rt_Z rfl) oc_Co_goWalker (by
    intro pc ls st σ o h
    rcases ite_s h with ⟨rfl, h⟩ | ⟨_, h⟩
    · exact hs_Co_goWalker_79 ih _ _ _ _ h
    rcases ite_s h with ⟨rfl, h⟩ | ⟨_, h⟩
    · exact hs_Co_goWalker_104 hK104 _ _ _ _ h
    cases h) 352 79 _ _ _ _ h
set_option maxRecDepth 100000 in
theorem s_Co_goWalker_104 {X : CXT} (hX : XC X) : ∀ (k0 : Nat) (k1 : Nat) (v2 : Int32) (s : Mem) (o : Bool × Mem), f_Co_goWalker_104 k0 k1 v2 s = some o → BSnd X 5 62 (ovZ o) 104 [some (.inr (.inr (0, k0))), some (.inr (.inr (4, k1))), some (.inl v2)] [] s := by
  intro k0 k1 v2 s o h
  exact evC (chs := c_Co_goWalker) (cuts := cu_Co_goWalker) (G := fun pc ls st σ => none) hX.2.1 hX.2.2 (F := F_Co_goWalker _) (fs_Co_goWalker hX _) (rt_Z rfl) oc_Co_goWalker (by
    intro pc ls st σ o h
    cases h) 352 104 _ _ _ _ h
set_option maxRecDepth 100000 in
theorem s_Co_goWalker {X : CXT} (hX : XC X) : ∀ (k0 : Nat) (k1 : Nat) (v2 : Int32) (s : Mem) (o : Bool × Mem), f_Co_goWalker k0 k1 v2 s = some o → BSnd X 5 62 (ovZ o) 0 (entL [.inr (.inr (0, k0)), .inr (.inr (4, k1)), .inl v2]) [] s := by
  intro k0 k1 v2 s o h
  rw [f_Co_goWalker_eq] at h
  exact evC (chs := c_Co_goWalker) (cuts := cu_Co_goWalker) (G := fun pc ls st σ => if pc = 79 then hd_Co_goWalker_79 (fun k0 k1 v2 v3 v4 v5 s => f_Co_goWalker_79 (fun k0 k1 v2 s => f_Co_goWalker_104 k0 k1 v2 s) FU k0 k1 v2 v3 v4 v5 s) ls st σ else if pc = 104 then hd_Co_goWalker_104 (fun k0 k1 v2 s => f_Co_goWalker_104 k0 k1 v2 s) ls st σ else none) hX.2.1 hX.2.2 (F := F_Co_goWalker _) (fs_Co_goWalker hX _) (rt_Z rfl) oc_Co_goWalker (by
    intro pc ls st σ o h
    rcases ite_s h with ⟨rfl, h⟩ | ⟨_, h⟩
    · exact hs_Co_goWalker_79 (s_Co_goWalker_79 hX (s_Co_goWalker_104 hX) FU) _ _ _ _ h
    rcases ite_s h with ⟨rfl, h⟩ | ⟨_, h⟩
    · exact hs_Co_goWalker_104 (s_Co_goWalker_104 hX) _ _ _ _ h
    cases h) 352 0 _ _ _ _ h
theorem ok_Co_goWalker {X : CXT} (hX : XC X) : SemOK X 5 62 sm_Co_goWalker := by
  intro O av σ K o h
  unfold sm_Co_goWalker at h
  split at h
  · obtain ⟨r, hf, h⟩ := Option.bind_eq_some_iff.mp h
    exact ⟨ovZ r, fun ht => sp_of hX.1 (by decide) (List.mem_range.mpr (by decide)) (by decide +kernel) ht (Nat.le_of_ble_eq_true rfl) (s_Co_goWalker hX _ _ _ _ _ hf), trivial, h⟩
  · cases h
noncomputable def f_Co_goDay_10 (K46 : Nat → Nat → Mem → Option (Int32 × Mem)) : Nat → Nat → Nat → Nat → Int32 → Mem → Option (Int32 × Mem)
  | 0, _, _, _, _, _ => none
  | n + 1, k0, k1, k2, v3, s =>
    cif ((rI s k2 3) ≤ v3) (
      K46 k0 k1 s) (
      (f_Ro_first k2 v3 s).bind fun r1 =>
      cif (r1.1 = (rI r1.2 k1 8)) (
        (f_Ro_second k2 v3 r1.2).bind fun r2 =>
        (f_Co_sendOff k0 k1 r2.1 r2.2).bind fun r3 =>
        f_Co_goDay_10 K46 n k0 k1 k2 (v3 + (1 : Int32)) r3) (
        f_Co_goDay_10 K46 n k0 k1 k2 (v3 + (1 : Int32)) r1.2))
noncomputable def f_Co_goDay_51 (K87 : Nat → Int32 → Mem → Option (Int32 × Mem)) : Nat → Nat → Nat → Int32 → Int32 → Mem → Option (Int32 × Mem)
  | 0, _, _, _, _, _ => none
  | n + 1, k0, k1, v3, v4, s =>
    cif ((rI s (k0 - 119) 7) ≤ v4) (
      K87 k1 v3 s) (
      (f_Co_goWalker k0 k1 v4 s).bind fun r1 =>
      cif ((b2i r1.1) = 0) (
        let x2 : Int32 := v3 + ((0 : Int32))
        f_Co_goDay_51 K87 n k0 k1 x2 (v4 + (1 : Int32)) r1.2) (
        let x3 : Int32 := v3 + ((1 : Int32))
        f_Co_goDay_51 K87 n k0 k1 x3 (v4 + (1 : Int32)) r1.2))
noncomputable def f_Co_goDay_87 (k1 : Nat) (v3 : Int32) (s : Mem) : Option (Int32 × Mem) :=
  let s1 : Mem := wI s k1 8 ((rI s k1 8) + ((1 : Int32)))
  some (v3, s1)
noncomputable def f_Co_goDay_46 (k0 : Nat) (k1 : Nat) (s : Mem) : Option (Int32 × Mem) :=
  f_Co_goDay_51 (fun k1 v3 s => f_Co_goDay_87 k1 v3 s) FU k0 k1 ((0 : Int32)) ((0 : Int32)) s
noncomputable def b_Co_goDay (k0 : Nat) (k1 : Nat) (s : Mem) : Option (Int32 × Mem) :=
  f_Co_goDay_10 (fun k0 k1 s => f_Co_goDay_46 k0 k1 s) FU k0 k1 ((k0 - 119) + 19) ((0 : Int32)) s
noncomputable def f_Co_goDay : Nat → Nat → Mem → Option (Int32 × Mem) := Classical.choose (⟨b_Co_goDay, rfl⟩ : ∃ f : Nat → Nat → Mem → Option (Int32 × Mem), f = b_Co_goDay)
theorem f_Co_goDay_eq : f_Co_goDay = b_Co_goDay := Classical.choose_spec (⟨b_Co_goDay, rfl⟩ : ∃ f : Nat → Nat → Mem → Option (Int32 × Mem), f = b_Co_goDay)
noncomputable def sm_Co_goDay (O : Type) (av : List AV) (σ : Mem) (K : AV → Mem → Option O) : Option O := match av with
  | [.inr (.inr (0, k0)), .inr (.inr (4, k1))] => (f_Co_goDay k0 k1 σ).bind fun r => K (.inl r.1) r.2
  | _ => none
def c_Co_goDay : List (List CE) := [[(0, .aload_n 0, 1, 0, 0, 0), (1, .getfield 15, 3, 0, 0, 0), (4, .getfield 136, 3, 8, 6, 0), (7, .astore_n 2, 1, 0, 0, 0), (8, .iconst 0, 1, 0, 0, 0), (9, .istore_n 3, 1, 0, 0, 0), (10, .iload_n 3, 1, 0, 0, 0), (11, .aload_n 2, 1, 0, 0, 0), (12, .getfield 97, 3, 6, 3, 0), (15, .if_icmp .ge 31, 3, 46, 0, 0)], [(18, .aload_n 2, 1, 0, 0, 0), (19, .iload_n 3, 1, 0, 0, 0), (20, .invokevirtual 102, 3, 54, 2, 13), (23, .aload_n 1, 1, 0, 0, 0), (24, .getfield 139, 3, 4, 8, 0), (27, .if_icmp .ne 13, 3, 40, 0, 0), (30, .aload_n 0, 1, 0, 0, 0), (31, .aload_n 1, 1, 0, 0, 0)], [(32, .aload_n 2, 1, 0, 0, 0), (33, .iload_n 3, 1, 0, 0, 0), (34, .invokevirtual 106, 3, 55, 2, 13), (37, .invokevirtual 142, 3, 50, 3, 0), (40, .iinc 3 1, 3, 1, 0, 0), (43, .goto (-33), 3, 10, 0, 0), (46, .iconst 0, 1, 0, 0, 0), (47, .istore_n 3, 1, 0, 0, 0)], [(48, .iconst 0, 1, 0, 0, 0), (49, .istore 4, 2, 0, 0, 0), (51, .iload 4, 2, 0, 0, 0), (53, .aload_n 0, 1, 0, 0, 0), (54, .getfield 15, 3, 0, 0, 0), (57, .getfield 145, 3, 8, 7, 0), (60, .if_icmp .ge 27, 3, 87, 0, 0), (63, .iload_n 3, 1, 0, 0, 0)], [(64, .aload_n 0, 1, 0, 0, 0), (65, .aload_n 1, 1, 0, 0, 0), (66, .iload 4, 2, 0, 0, 0), (68, .invokevirtual 148, 3, 62, 3, 1), (71, .ifCond .eq 7, 3, 78, 0, 0), (74, .iconst 1, 1, 1, 0, 0), (75, .goto 4, 3, 79, 0, 0), (78, .iconst 0, 1, 0, 0, 0), (79, .iadd, 1, 0, 0, 0)], [(80, .istore_n 3, 1, 0, 0, 0), (81, .iinc 4 1, 3, 1, 0, 0), (84, .goto (-33), 3, 51, 0, 0), (87, .aload_n 1, 1, 0, 0, 0), (88, .dup, 1, 0, 0, 0), (89, .getfield 139, 3, 4, 8, 0), (92, .iconst 1, 1, 1, 0, 0), (93, .iadd, 1, 0, 0, 0), (94, .putfield 139, 3, 4, 8, 0)], [(97, .iload_n 3, 1, 0, 0, 0), (98, .ireturn, 1, 0, 0, 0)]]
set_option maxRecDepth 100000 in
theorem oc_Co_goDay : okC 61 c_Co_goDay = true := by decide +kernel
def cu_Co_goDay : List (Nat × List Bool) := [(10, [true, true, true, true]), (51, [true, true, false, true, true]), (87, [false, true, false, true]), (46, [true, true])]
noncomputable def F_Co_goDay (O : Type) (a : Nat) (av : List AV) (σ : Mem) (K : AV → Mem → Option O) : Option O := if a = 50 then sm_Co_sendOff O av σ K else if a = 54 then sm_Ro_first O av σ K else if a = 55 then sm_Ro_second O av σ K else if a = 62 then sm_Co_goWalker O av σ K else none
theorem fs_Co_goDay {X : CXT} (hX : XC X) (O : Type) : FS X 6 (F_Co_goDay O) := by
  intro a av σ K o h
  unfold F_Co_goDay at h
  rcases ite_s h with ⟨rfl, h⟩ | ⟨_, h⟩
  · obtain ⟨r, h1, h2, h3⟩ := ok_Co_sendOff hX _ _ _ _ _ h
    exact ⟨r, fun ht => ⟨5, by decide, h1 ht⟩, h2, h3⟩
  rcases ite_s h with ⟨rfl, h⟩ | ⟨_, h⟩
  · obtain ⟨r, h1, h2, h3⟩ := ok_Ro_first hX _ _ _ _ _ h
    exact ⟨r, fun ht => ⟨2, by decide, h1 ht⟩, h2, h3⟩
  rcases ite_s h with ⟨rfl, h⟩ | ⟨_, h⟩
  · obtain ⟨r, h1, h2, h3⟩ := ok_Ro_second hX _ _ _ _ _ h
    exact ⟨r, fun ht => ⟨2, by decide, h1 ht⟩, h2, h3⟩
  rcases ite_s h with ⟨rfl, h⟩ | ⟨_, h⟩
  · obtain ⟨r, h1, h2, h3⟩ := ok_Co_goWalker hX _ _ _ _ _ h
    exact ⟨r, fun ht => ⟨5, by decide, h1 ht⟩, h2, h3⟩
  cases h
def hd_Co_goDay_10 {O : Type} (g : Nat → Nat → Nat → Int32 → Mem → Option O) (ls : OL) (st : List AV) (σ : Mem) : Option O := match ls, st with
  | [some (.inr (.inr (0, k0))), some (.inr (.inr (4, k1))), some (.inr (.inr (6, k2))), some (.inl v3)], [] => g k0 k1 k2 v3 σ
  | _, _ => none
theorem hs_Co_goDay_10 {X : CXT} {g : Nat → Nat → Nat → Int32 → Mem → Option (Int32 × Mem)} (hg : ∀ (k0 : Nat) (k1 : Nat) (k2 : Nat) (v3 : Int32) (s : Mem) (o : Int32 × Mem), g k0 k1 k2 v3 s = some o → BSnd X 6 61 (ovI o) 10 [some (.inr (.inr (0, k0))), some (.inr (.inr (4, k1))), some (.inr (.inr (6, k2))), some (.inl v3)] [] s) : ∀ ls st σ o, hd_Co_goDay_10 g ls st σ = some o → BSnd X 6 61 (ovI o) 10 ls st σ := by
  intro ls st σ o h
  unfold hd_Co_goDay_10 at h
  split at h
  · exact hg _ _ _ _ _ _ h
  · cases h
def hd_Co_goDay_51 {O : Type} (g : Nat → Nat → Int32 → Int32 → Mem → Option O) (ls : OL) (st : List AV) (σ : Mem) : Option O := match ls, st with
  | [some (.inr (.inr (0, k0))), some (.inr (.inr (4, k1))), none, some (.inl v3), some (.inl v4)], [] => g k0 k1 v3 v4 σ
  | _, _ => none
theorem hs_Co_goDay_51 {X : CXT} {g : Nat → Nat → Int32 → Int32 → Mem → Option (Int32 × Mem)} (hg : ∀ (k0 : Nat) (k1 : Nat) (v3 : Int32) (v4 : Int32) (s : Mem) (o : Int32 × Mem), g k0 k1 v3 v4 s = some o → BSnd X 6 61 (ovI o) 51 [some (.inr (.inr (0, k0))), some (.inr (.inr (4, k1))), none, some (.inl v3), some (.inl v4)] [] s) : ∀ ls st σ o, hd_Co_goDay_51 g ls st σ = some o → BSnd X 6 61 (ovI o) 51 ls st σ := by
  intro ls st σ o h
  unfold hd_Co_goDay_51 at h
  split at h
  · exact hg _ _ _ _ _ _ h
  · cases h
def hd_Co_goDay_87 {O : Type} (g : Nat → Int32 → Mem → Option O) (ls : OL) (st : List AV) (σ : Mem) : Option O := match ls, st with
  | [none, some (.inr (.inr (4, k1))), none, some (.inl v3)], [] => g k1 v3 σ
  | _, _ => none
theorem hs_Co_goDay_87 {X : CXT} {g : Nat → Int32 → Mem → Option (Int32 × Mem)} (hg : ∀ (k1 : Nat) (v3 : Int32) (s : Mem) (o : Int32 × Mem), g k1 v3 s = some o → BSnd X 6 61 (ovI o) 87 [none, some (.inr (.inr (4, k1))), none, some (.inl v3)] [] s) : ∀ ls st σ o, hd_Co_goDay_87 g ls st σ = some o → BSnd X 6 61 (ovI o) 87 ls st σ := by
  intro ls st σ o h
  unfold hd_Co_goDay_87 at h
  split at h
  · exact hg _ _ _ _ h
  · cases h
def hd_Co_goDay_46 {O : Type} (g : Nat → Nat → Mem → Option O) (ls : OL) (st : List AV) (σ : Mem) : Option O := match ls, st with
  | [some (.inr (.inr (0, k0))), some (.inr (.inr (4, k1)))], [] => g k0 k1 σ
  | _, _ => none
theorem hs_Co_goDay_46 {X : CXT} {g : Nat → Nat → Mem → Option (Int32 × Mem)} (hg : ∀ (k0 : Nat) (k1 : Nat) (s : Mem) (o : Int32 × Mem), g k0 k1 s = some o → BSnd X 6 61 (ovI o) 46 [some (.inr (.inr (0, k0))), some (.inr (.inr (4, k1)))] [] s) : ∀ ls st σ o, hd_Co_goDay_46 g ls st σ = some o → BSnd X 6 61 (ovI o) 46 ls st σ := by
  intro ls st σ o h
  unfold hd_Co_goDay_46 at h
  split at h
  · exact hg _ _ _ _ h
  · cases h
set_option maxRecDepth 100000 in
theorem s_Co_goDay_10 {X : CXT} (hX : XC X) {K46 : Nat → Nat → Mem → Option (Int32 × Mem)} (hK46 : ∀ (k0 : Nat) (k1 : Nat) (s : Mem) (o : Int32 × Mem), K46 k0 k1 s = some o → BSnd X 6 61 (ovI o) 46 [some (.inr (.inr (0, k0))), some (.inr (.inr (4, k1)))] [] s) : ∀ n : Nat, ∀ (k0 : Nat) (k1 : Nat) (k2 : Nat) (v3 : Int32) (s : Mem) (o : Int32 × Mem), f_Co_goDay_10 K46 n k0 k1 k2 v3 s = some o → BSnd X 6 61 (ovI o) 10 [some (.inr (.inr (0, k0))), some (.inr (.inr (4, k1))), some (.inr (.inr (6, k2))), some (.inl v3)] [] s := by
  intro n
  induction n with
  | zero => intro k0 k1 k2 v3 s o h; cases h
  | succ n ih =>
    intro k0 k1 k2 v3 s o h
    exact evC (chs := c_Co_goDay) (cuts := cu_Co_goDay) (G := fun pc ls st σ => if pc = 10 then hd_Co_goDay_10 (fun k0 k1 k2 v3 s => f_Co_goDay_10 K46 n k0 k1 k2 v3 s) ls st σ else if pc = 46 then hd_Co_goDay_46 (fun k0 k1 s => K46 k0 k1 s) ls st σ else none) hX.2.1 hX.2.2 (F := F_Co_goDay _) (fs_Co_goDay hX _) (rt_I rfl) oc_Co_goDay (by
    intro pc ls st σ o h
    rcases ite_s h with ⟨rfl, h⟩ | ⟨_, h⟩
    · exact hs_Co_goDay_10 ih _ _ _ _ h
    rcases ite_s h with ⟨rfl, h⟩ | ⟨_, h⟩
    · exact hs_Co_goDay_46 hK46 _ _ _ _ h
    cases h) 256 10 _ _ _ _ h
set_option maxRecDepth 100000 in
theorem s_Co_goDay_51 {X : CXT} (hX : XC X) {K87 : Nat → Int32 → Mem → Option (Int32 × Mem)} (hK87 : ∀ (k1 : Nat) (v3 : Int32) (s : Mem) (o : Int32 × Mem), K87 k1 v3 s = some o → BSnd X 6 61 (ovI o) 87 [none, some (.inr (.inr (4, k1))), none, some (.inl v3)] [] s) : ∀ n : Nat, ∀ (k0 : Nat) (k1 : Nat) (v3 : Int32) (v4 : Int32) (s : Mem) (o : Int32 × Mem), f_Co_goDay_51 K87 n k0 k1 v3 v4 s = some o → BSnd X 6 61 (ovI o) 51 [some (.inr (.inr (0, k0))), some (.inr (.inr (4, k1))), none, some (.inl v3), some (.inl v4)] [] s := by
  intro n
  induction n with
  | zero => intro k0 k1 v3 v4 s o h; cases h
  | succ n ih =>
    intro k0 k1 v3 v4 s o h
    exact evC (chs := c_Co_goDay) (cuts := cu_Co_goDay) (G := fun pc ls st σ => if pc = 51 then hd_Co_goDay_51 (fun k0 k1 v3 v4 s => f_Co_goDay_51 K87 n k0 k1 v3 v4 s) ls st σ else if pc = 87 then hd_Co_goDay_87 (fun k1 v3 s => K87 k1 v3 s) ls st σ else none) hX.2.1 hX.2.2 (F := F_Co_goDay _) (fs_Co_goDay hX _) (rt_I rfl) oc_Co_goDay (by
    intro pc ls st σ o h
    rcases ite_s h with ⟨rfl, h⟩ | ⟨_, h⟩
    · exact hs_Co_goDay_51 ih _ _ _ _ h
    rcases ite_s h with ⟨rfl, h⟩ | ⟨_, h⟩
    · exact hs_Co_goDay_87 hK87 _ _ _ _ h
    cases h) 256 51 _ _ _ _ h
set_option maxRecDepth 100000 in
theorem s_Co_goDay_87 {X : CXT} (hX : XC X) : ∀ (k1 : Nat) (v3 : Int32) (s : Mem) (o : Int32 × Mem), f_Co_goDay_87 k1 v3 s = some o → BSnd X 6 61 (ovI o) 87 [none, some (.inr (.inr (4, k1))), none, some (.inl v3)] [] s := by
  intro k1 v3 s o h
  exact evC (chs := c_Co_goDay) (cuts := cu_Co_goDay) (G := fun pc ls st σ => none) hX.2.1 hX.2.2 (F := F_Co_goDay _) (fs_Co_goDay hX _) (rt_I rfl) oc_Co_goDay (by
    intro pc ls st σ o h
    cases h) 256 87 _ _ _ _ h
set_option maxRecDepth 100000 in
theorem s_Co_goDay_46 {X : CXT} (hX : XC X) : ∀ (k0 : Nat) (k1 : Nat) (s : Mem) (o : Int32 × Mem), f_Co_goDay_46 k0 k1 s = some o → BSnd X 6 61 (ovI o) 46 [some (.inr (.inr (0, k0))), some (.inr (.inr (4, k1)))] [] s := by
  intro k0 k1 s o h
  exact evC (chs := c_Co_goDay) (cuts := cu_Co_goDay) (G := fun pc ls st σ => if pc = 51 then hd_Co_goDay_51 (fun k0 k1 v3 v4 s => f_Co_goDay_51 (fun k1 v3 s => f_Co_goDay_87 k1 v3 s) FU k0 k1 v3 v4 s) ls st σ else if pc = 87 then hd_Co_goDay_87 (fun k1 v3 s => f_Co_goDay_87 k1 v3 s) ls st σ else none) hX.2.1 hX.2.2 (F := F_Co_goDay _) (fs_Co_goDay hX _) (rt_I rfl) oc_Co_goDay (by
    intro pc ls st σ o h
    rcases ite_s h with ⟨rfl, h⟩ | ⟨_, h⟩
    · exact hs_Co_goDay_51 (s_Co_goDay_51 hX (s_Co_goDay_87 hX) FU) _ _ _ _ h
    rcases ite_s h with ⟨rfl, h⟩ | ⟨_, h⟩
    · exact hs_Co_goDay_87 (s_Co_goDay_87 hX) _ _ _ _ h
    cases h) 256 46 _ _ _ _ h
set_option maxRecDepth 100000 in
theorem s_Co_goDay {X : CXT} (hX : XC X) : ∀ (k0 : Nat) (k1 : Nat) (s : Mem) (o : Int32 × Mem), f_Co_goDay k0 k1 s = some o → BSnd X 6 61 (ovI o) 0 (entL [.inr (.inr (0, k0)), .inr (.inr (4, k1))]) [] s := by
  intro k0 k1 s o h
  rw [f_Co_goDay_eq] at h
  exact evC (chs := c_Co_goDay) (cuts := cu_Co_goDay) (G := fun pc ls st σ => if pc = 10 then hd_Co_goDay_10 (fun k0 k1 k2 v3 s => f_Co_goDay_10 (fun k0 k1 s => f_Co_goDay_46 k0 k1 s) FU k0 k1 k2 v3 s) ls st σ else if pc = 46 then hd_Co_goDay_46 (fun k0 k1 s => f_Co_goDay_46 k0 k1 s) ls st σ else none) hX.2.1 hX.2.2 (F := F_Co_goDay _) (fs_Co_goDay hX _) (rt_I rfl) oc_Co_goDay (by
    intro pc ls st σ o h
    rcases ite_s h with ⟨rfl, h⟩ | ⟨_, h⟩
    · exact hs_Co_goDay_10 (s_Co_goDay_10 hX (s_Co_goDay_46 hX) FU) _ _ _ _ h
    rcases ite_s h with ⟨rfl, h⟩ | ⟨_, h⟩
    · exact hs_Co_goDay_46 (s_Co_goDay_46 hX) _ _ _ _ h
    cases h) 256 0 _ _ _ _ h
theorem ok_Co_goDay {X : CXT} (hX : XC X) : SemOK X 6 61 sm_Co_goDay := by
  intro O av σ K o h
  unfold sm_Co_goDay at h
  split at h
  · obtain ⟨r, hf, h⟩ := Option.bind_eq_some_iff.mp h
    exact ⟨ovI r, fun ht => sp_of hX.1 (by decide) (List.mem_range.mpr (by decide)) (by decide +kernel) ht (Nat.le_of_ble_eq_true rfl) (s_Co_goDay hX _ _ _ _ hf), trivial, h⟩
  · cases h
noncomputable def f_P_days_33 : Nat → Nat → Int32 → Int32 → Int32 → Mem → Option (Int32 × Mem)
  | 0, _, _, _, _, _ => none
  | n + 1, k0, v1, v2, v3, s =>
    cif (v1 ≤ v3) (
      some (v2, s)) (
      (f_Ke_keep (k0 + 128) (k0 + 2) s).bind fun r1 =>
      (f_Co_goDay (k0 + 126) (k0 + 2) r1).bind fun r2 =>
      let x3 : Int32 := v2 + r2.1
      f_P_days_33 n k0 v1 x3 (v3 + (1 : Int32)) r2.2)
noncomputable def b_P_days (k0 : Nat) (v1 : Int32) (s : Mem) : Option (Int32 × Mem) :=
  (f_P_within v1 ((1 : Int32)) ((60 : Int32)) s).bind fun r1 =>
  cif ((b2i r1.1) = 0) (
    some ((-1 : Int32), r1.2)) (
    cif ((rI r1.2 (k0 + 2) 8) ≤ (((99999 : Int32)) - v1)) (
      f_P_days_33 FU k0 v1 ((0 : Int32)) ((0 : Int32)) r1.2) (
      some ((-1 : Int32), r1.2)))
noncomputable def f_P_days : Nat → Int32 → Mem → Option (Int32 × Mem) := Classical.choose (⟨b_P_days, rfl⟩ : ∃ f : Nat → Int32 → Mem → Option (Int32 × Mem), f = b_P_days)
theorem f_P_days_eq : f_P_days = b_P_days := Classical.choose_spec (⟨b_P_days, rfl⟩ : ∃ f : Nat → Int32 → Mem → Option (Int32 × Mem), f = b_P_days)
noncomputable def sm_P_days (O : Type) (av : List AV) (σ : Mem) (K : AV → Mem → Option O) : Option O := match av with
  | [.inr (.inr (11, k0)), .inl v1] => (f_P_days k0 v1 σ).bind fun r => K (.inl r.1) r.2
  | _ => none
def c_P_days : List (List CE) := [[(0, .iload_n 1, 1, 0, 0, 0), (1, .iconst 1, 1, 1, 0, 0), (2, .bipush 60, 2, 60, 0, 0), (4, .invokestatic 80, 3, 17, 3, 1), (7, .ifCond .eq 20, 3, 27, 0, 0), (10, .aload_n 0, 1, 0, 0, 0), (11, .getfield 10, 3, 11, 0, 0), (14, .getfield 70, 3, 10, 0, 0)], [(17, .getfield 151, 3, 4, 8, 0), (20, .ldc 154, 2, 99999, 0, 0), (22, .iload_n 1, 1, 0, 0, 0), (23, .isub, 1, 0, 0, 0), (24, .if_icmp .le 5, 3, 29, 0, 0), (27, .iconst (-1), 1, 1, 0, 1), (28, .ireturn, 1, 0, 0, 0), (29, .iconst 0, 1, 0, 0, 0), (30, .istore_n 2, 1, 0, 0, 0), (31, .iconst 0, 1, 0, 0, 0)], [(32, .istore_n 3, 1, 0, 0, 0), (33, .iload_n 3, 1, 0, 0, 0), (34, .iload_n 1, 1, 0, 0, 0), (35, .if_icmp .ge 40, 3, 75, 0, 0), (38, .aload_n 0, 1, 0, 0, 0), (39, .getfield 48, 3, 11, 4, 0), (42, .aload_n 0, 1, 0, 0, 0), (43, .getfield 10, 3, 11, 0, 0), (46, .getfield 70, 3, 10, 0, 0)], [(49, .invokevirtual 113, 3, 29, 2, 2), (52, .iload_n 2, 1, 0, 0, 0), (53, .aload_n 0, 1, 0, 0, 0), (54, .getfield 41, 3, 11, 3, 0), (57, .aload_n 0, 1, 0, 0, 0), (58, .getfield 10, 3, 11, 0, 0), (61, .getfield 70, 3, 10, 0, 0)], [(64, .invokevirtual 155, 3, 61, 2, 1), (67, .iadd, 1, 0, 0, 0), (68, .istore_n 2, 1, 0, 0, 0), (69, .iinc 3 1, 3, 1, 0, 0), (72, .goto (-39), 3, 33, 0, 0), (75, .iload_n 2, 1, 0, 0, 0), (76, .ireturn, 1, 0, 0, 0)]]
set_option maxRecDepth 100000 in
theorem oc_P_days : okC 60 c_P_days = true := by decide +kernel
def cu_P_days : List (Nat × List Bool) := [(33, [true, true, true, true])]
noncomputable def F_P_days (O : Type) (a : Nat) (av : List AV) (σ : Mem) (K : AV → Mem → Option O) : Option O := if a = 17 then sm_P_within O av σ K else if a = 29 then sm_Ke_keep O av σ K else if a = 61 then sm_Co_goDay O av σ K else none
theorem fs_P_days {X : CXT} (hX : XC X) (O : Type) : FS X 7 (F_P_days O) := by
  intro a av σ K o h
  unfold F_P_days at h
  rcases ite_s h with ⟨rfl, h⟩ | ⟨_, h⟩
  · obtain ⟨r, h1, h2, h3⟩ := ok_P_within hX _ _ _ _ _ h
    exact ⟨r, fun ht => ⟨1, by decide, h1 ht⟩, h2, h3⟩
  rcases ite_s h with ⟨rfl, h⟩ | ⟨_, h⟩
  · obtain ⟨r, h1, h2, h3⟩ := ok_Ke_keep hX _ _ _ _ _ h
    exact ⟨r, fun ht => ⟨2, by decide, h1 ht⟩, h2, h3⟩
  rcases ite_s h with ⟨rfl, h⟩ | ⟨_, h⟩
  · obtain ⟨r, h1, h2, h3⟩ := ok_Co_goDay hX _ _ _ _ _ h
    exact ⟨r, fun ht => ⟨6, by decide, h1 ht⟩, h2, h3⟩
  cases h
def hd_P_days_33 {O : Type} (g : Nat → Int32 → Int32 → Int32 → Mem → Option O) (ls : OL) (st : List AV) (σ : Mem) : Option O := match ls, st with
  | [some (.inr (.inr (11, k0))), some (.inl v1), some (.inl v2), some (.inl v3)], [] => g k0 v1 v2 v3 σ
  | _, _ => none
theorem hs_P_days_33 {X : CXT} {g : Nat → Int32 → Int32 → Int32 → Mem → Option (Int32 × Mem)} (hg : ∀ (k0 : Nat) (v1 : Int32) (v2 : Int32) (v3 : Int32) (s : Mem) (o : Int32 × Mem), g k0 v1 v2 v3 s = some o → BSnd X 7 60 (ovI o) 33 [some (.inr (.inr (11, k0))), some (.inl v1), some (.inl v2), some (.inl v3)] [] s) : ∀ ls st σ o, hd_P_days_33 g ls st σ = some o → BSnd X 7 60 (ovI o) 33 ls st σ := by
  intro ls st σ o h
  unfold hd_P_days_33 at h
  split at h
  · exact hg _ _ _ _ _ _ h
  · cases h
set_option maxRecDepth 100000 in
theorem s_P_days_33 {X : CXT} (hX : XC X) : ∀ n : Nat, ∀ (k0 : Nat) (v1 : Int32) (v2 : Int32) (v3 : Int32) (s : Mem) (o : Int32 × Mem), f_P_days_33 n k0 v1 v2 v3 s = some o → BSnd X 7 60 (ovI o) 33 [some (.inr (.inr (11, k0))), some (.inl v1), some (.inl v2), some (.inl v3)] [] s := by
  intro n
  induction n with
  | zero => intro k0 v1 v2 v3 s o h; cases h
  | succ n ih =>
    intro k0 v1 v2 v3 s o h
    exact evC (chs := c_P_days) (cuts := cu_P_days) (G := fun pc ls st σ => if pc = 33 then hd_P_days_33 (fun k0 v1 v2 v3 s => f_P_days_33 n k0 v1 v2 v3 s) ls st σ else none) hX.2.1 hX.2.2 (F := F_P_days _) (fs_P_days hX _) (rt_I rfl) oc_P_days (by
    intro pc ls st σ o h
    rcases ite_s h with ⟨rfl, h⟩ | ⟨_, h⟩
    · exact hs_P_days_33 ih _ _ _ _ h
    cases h) 204 33 _ _ _ _ h
set_option maxRecDepth 100000 in
theorem s_P_days {X : CXT} (hX : XC X) : ∀ (k0 : Nat) (v1 : Int32) (s : Mem) (o : Int32 × Mem), f_P_days k0 v1 s = some o → BSnd X 7 60 (ovI o) 0 (entL [.inr (.inr (11, k0)), .inl v1]) [] s := by
  intro k0 v1 s o h
  rw [f_P_days_eq] at h
  exact evC (chs := c_P_days) (cuts := cu_P_days) (G := fun pc ls st σ => if pc = 33 then hd_P_days_33 (fun k0 v1 v2 v3 s => f_P_days_33 FU k0 v1 v2 v3 s) ls st σ else none) hX.2.1 hX.2.2 (F := F_P_days _) (fs_P_days hX _) (rt_I rfl) oc_P_days (by
    intro pc ls st σ o h
    rcases ite_s h with ⟨rfl, h⟩ | ⟨_, h⟩
    · exact hs_P_days_33 (s_P_days_33 hX FU) _ _ _ _ h
    cases h) 204 0 _ _ _ _ h
theorem ok_P_days {X : CXT} (hX : XC X) : SemOK X 7 60 sm_P_days := by
  intro O av σ K o h
  unfold sm_P_days at h
  split at h
  · obtain ⟨r, hf, h⟩ := Option.bind_eq_some_iff.mp h
    exact ⟨ovI r, fun ht => sp_of hX.1 (by decide) (List.mem_range.mpr (by decide)) (by decide +kernel) ht (Nat.le_of_ble_eq_true rfl) (s_P_days hX _ _ _ _ hf), trivial, h⟩
  · cases h
noncomputable def b_Re_hasRoom (k0 : Nat) (v1 : Int32) (s : Mem) : Option (Bool × Mem) :=
  cif (((400 : Int32)) < ((rI s k0 6) + v1)) (
    some (false, s)) (
    some (true, s))
noncomputable def f_Re_hasRoom : Nat → Int32 → Mem → Option (Bool × Mem) := Classical.choose (⟨b_Re_hasRoom, rfl⟩ : ∃ f : Nat → Int32 → Mem → Option (Bool × Mem), f = b_Re_hasRoom)
theorem f_Re_hasRoom_eq : f_Re_hasRoom = b_Re_hasRoom := Classical.choose_spec (⟨b_Re_hasRoom, rfl⟩ : ∃ f : Nat → Int32 → Mem → Option (Bool × Mem), f = b_Re_hasRoom)
noncomputable def sm_Re_hasRoom (O : Type) (av : List AV) (σ : Mem) (K : AV → Mem → Option O) : Option O := match av with
  | [.inr (.inr (5, k0)), .inl v1] => (f_Re_hasRoom k0 v1 σ).bind fun r => K (.inl (b2i r.1)) r.2
  | _ => none
def c_Re_hasRoom : List (List CE) := [[(0, .aload_n 0, 1, 0, 0, 0), (1, .getfield 41, 3, 5, 6, 0), (4, .iload_n 1, 1, 0, 0, 0), (5, .iadd, 1, 0, 0, 0), (6, .sipush 400, 3, 400, 0, 0), (9, .if_icmp .gt 7, 3, 16, 0, 0), (12, .iconst 1, 1, 1, 0, 0), (13, .goto 4, 3, 17, 0, 0)], [(16, .iconst 0, 1, 0, 0, 0), (17, .ireturn, 1, 0, 0, 0)]]
set_option maxRecDepth 100000 in
theorem oc_Re_hasRoom : okC 69 c_Re_hasRoom = true := by decide +kernel
def cu_Re_hasRoom : List (Nat × List Bool) := []
noncomputable def F_Re_hasRoom (O : Type) (a : Nat) (av : List AV) (σ : Mem) (K : AV → Mem → Option O) : Option O := none
theorem fs_Re_hasRoom {X : CXT} (hX : XC X) (O : Type) : FS X 1 (F_Re_hasRoom O) := by
  intro a av σ K o h
  cases h
set_option maxRecDepth 100000 in
theorem s_Re_hasRoom {X : CXT} (hX : XC X) : ∀ (k0 : Nat) (v1 : Int32) (s : Mem) (o : Bool × Mem), f_Re_hasRoom k0 v1 s = some o → BSnd X 1 69 (ovZ o) 0 (entL [.inr (.inr (5, k0)), .inl v1]) [] s := by
  intro k0 v1 s o h
  rw [f_Re_hasRoom_eq] at h
  exact evC (chs := c_Re_hasRoom) (cuts := cu_Re_hasRoom) (G := fun pc ls st σ => none) hX.2.1 hX.2.2 (F := F_Re_hasRoom _) (fs_Re_hasRoom hX _) (rt_Z rfl) oc_Re_hasRoom (by
    intro pc ls st σ o h
    cases h) 80 0 _ _ _ _ h
theorem ok_Re_hasRoom {X : CXT} (hX : XC X) : SemOK X 1 69 sm_Re_hasRoom := by
  intro O av σ K o h
  unfold sm_Re_hasRoom at h
  split at h
  · obtain ⟨r, hf, h⟩ := Option.bind_eq_some_iff.mp h
    exact ⟨ovZ r, fun ht => sp_of hX.1 (by decide) (List.mem_range.mpr (by decide)) (by decide +kernel) ht (Nat.le_of_ble_eq_true rfl) (s_Re_hasRoom hX _ _ _ _ hf), trivial, h⟩
  · cases h
noncomputable def f_Re_append_3 : Nat → Nat → Int32 → Int32 → Mem → Option (Mem)
  | 0, _, _, _, _ => none
  | n + 1, k0, v1, v2, s =>
    cif (v2 < 0) (
      some s) (
      (f_P_within (rI s k0 6) ((0 : Int32)) ((399 : Int32)) s).bind fun r1 =>
      cif ((b2i r1.1) = 0) (
        some r1.2) (
        gd (inb (rI r1.2 k0 6) (lenC (k0 + 1))) <|
        let s2 : Mem := wI r1.2 (k0 + 1) (ix (rI r1.2 k0 6)) (vp_nar .char (((((v1.toUInt32 >>> (v2.toUInt32 &&& Int32.toUInt32 31)).toInt32) &&& ((255 : Int32))).toUInt32 % 65536).toInt32))
        let s3 : Mem := wI s2 k0 6 ((rI s2 k0 6) + ((1 : Int32)))
        f_Re_append_3 n k0 v1 (v2 - (8 : Int32)) s3))
noncomputable def b_Re_append (k0 : Nat) (v1 : Int32) (s : Mem) : Option (Mem) :=
  f_Re_append_3 FU k0 v1 ((24 : Int32)) s
noncomputable def f_Re_append : Nat → Int32 → Mem → Option (Mem) := Classical.choose (⟨b_Re_append, rfl⟩ : ∃ f : Nat → Int32 → Mem → Option (Mem), f = b_Re_append)
theorem f_Re_append_eq : f_Re_append = b_Re_append := Classical.choose_spec (⟨b_Re_append, rfl⟩ : ∃ f : Nat → Int32 → Mem → Option (Mem), f = b_Re_append)
noncomputable def sm_Re_append (O : Type) (av : List AV) (σ : Mem) (K : AV → Mem → Option O) : Option O := match av with
  | [.inr (.inr (5, k0)), .inl v1] => (f_Re_append k0 v1 σ).bind fun r => K (.inl 0) r
  | _ => none
def c_Re_append : List (List CE) := [[(0, .bipush 24, 2, 24, 0, 0), (2, .istore_n 2, 1, 0, 0, 0), (3, .iload_n 2, 1, 0, 0, 0), (4, .ifCond .lt 50, 3, 54, 0, 0), (7, .aload_n 0, 1, 0, 0, 0), (8, .getfield 41, 3, 5, 6, 0), (11, .iconst 0, 1, 0, 0, 0), (12, .sipush 399, 3, 399, 0, 0), (15, .invokestatic 60, 3, 17, 3, 1)], [(18, .ifCond .eq 36, 3, 54, 0, 0), (21, .aload_n 0, 1, 0, 0, 0), (22, .getfield 11, 3, 5, 0, 0), (25, .aload_n 0, 1, 0, 0, 0), (26, .getfield 41, 3, 5, 6, 0), (29, .iload_n 1, 1, 0, 0, 0), (30, .iload_n 2, 1, 0, 0, 0), (31, .iushr, 1, 0, 0, 0)], [(32, .sipush 255, 3, 255, 0, 0), (35, .iand, 1, 0, 0, 0), (36, .i2c, 1, 0, 0, 0), (37, .castore, 1, 0, 0, 0), (38, .aload_n 0, 1, 0, 0, 0), (39, .dup, 1, 0, 0, 0), (40, .getfield 41, 3, 5, 6, 0), (43, .iconst 1, 1, 1, 0, 0), (44, .iadd, 1, 0, 0, 0), (45, .putfield 41, 3, 5, 6, 0)], [(48, .iinc 2 (-8), 3, 8, 0, 1), (51, .goto (-48), 3, 3, 0, 0), (54, .return_, 1, 0, 0, 0)]]
set_option maxRecDepth 100000 in
theorem oc_Re_append : okC 70 c_Re_append = true := by decide +kernel
def cu_Re_append : List (Nat × List Bool) := [(3, [true, true, true])]
noncomputable def F_Re_append (O : Type) (a : Nat) (av : List AV) (σ : Mem) (K : AV → Mem → Option O) : Option O := if a = 17 then sm_P_within O av σ K else none
theorem fs_Re_append {X : CXT} (hX : XC X) (O : Type) : FS X 2 (F_Re_append O) := by
  intro a av σ K o h
  unfold F_Re_append at h
  rcases ite_s h with ⟨rfl, h⟩ | ⟨_, h⟩
  · obtain ⟨r, h1, h2, h3⟩ := ok_P_within hX _ _ _ _ _ h
    exact ⟨r, fun ht => ⟨1, by decide, h1 ht⟩, h2, h3⟩
  cases h
def hd_Re_append_3 {O : Type} (g : Nat → Int32 → Int32 → Mem → Option O) (ls : OL) (st : List AV) (σ : Mem) : Option O := match ls, st with
  | [some (.inr (.inr (5, k0))), some (.inl v1), some (.inl v2)], [] => g k0 v1 v2 σ
  | _, _ => none
theorem hs_Re_append_3 {X : CXT} {g : Nat → Int32 → Int32 → Mem → Option (Mem)} (hg : ∀ (k0 : Nat) (v1 : Int32) (v2 : Int32) (s : Mem) (o : Mem), g k0 v1 v2 s = some o → BSnd X 2 70 (ovV o) 3 [some (.inr (.inr (5, k0))), some (.inl v1), some (.inl v2)] [] s) : ∀ ls st σ o, hd_Re_append_3 g ls st σ = some o → BSnd X 2 70 (ovV o) 3 ls st σ := by
  intro ls st σ o h
  unfold hd_Re_append_3 at h
  split at h
  · exact hg _ _ _ _ _ h
  · cases h
set_option maxRecDepth 100000 in
theorem s_Re_append_3 {X : CXT} (hX : XC X) : ∀ n : Nat, ∀ (k0 : Nat) (v1 : Int32) (v2 : Int32) (s : Mem) (o : Mem), f_Re_append_3 n k0 v1 v2 s = some o → BSnd X 2 70 (ovV o) 3 [some (.inr (.inr (5, k0))), some (.inl v1), some (.inl v2)] [] s := by
  intro n
  induction n with
  | zero => intro k0 v1 v2 s o h; cases h
  | succ n ih =>
    intro k0 v1 v2 s o h
    exact evC (chs := c_Re_append) (cuts := cu_Re_append) (G := fun pc ls st σ => if pc = 3 then hd_Re_append_3 (fun k0 v1 v2 s => f_Re_append_3 n k0 v1 v2 s) ls st σ else none) hX.2.1 hX.2.2 (F := F_Re_append _) (fs_Re_append hX _) (rt_V rfl) oc_Re_append (by
    intro pc ls st σ o h
    rcases ite_s h with ⟨rfl, h⟩ | ⟨_, h⟩
    · exact hs_Re_append_3 ih _ _ _ _ h
    cases h) 160 3 _ _ _ _ h
set_option maxRecDepth 100000 in
theorem s_Re_append {X : CXT} (hX : XC X) : ∀ (k0 : Nat) (v1 : Int32) (s : Mem) (o : Mem), f_Re_append k0 v1 s = some o → BSnd X 2 70 (ovV o) 0 (entL [.inr (.inr (5, k0)), .inl v1]) [] s := by
  intro k0 v1 s o h
  rw [f_Re_append_eq] at h
  exact evC (chs := c_Re_append) (cuts := cu_Re_append) (G := fun pc ls st σ => if pc = 3 then hd_Re_append_3 (fun k0 v1 v2 s => f_Re_append_3 FU k0 v1 v2 s) ls st σ else none) hX.2.1 hX.2.2 (F := F_Re_append _) (fs_Re_append hX _) (rt_V rfl) oc_Re_append (by
    intro pc ls st σ o h
    rcases ite_s h with ⟨rfl, h⟩ | ⟨_, h⟩
    · exact hs_Re_append_3 (s_Re_append_3 hX FU) _ _ _ _ h
    cases h) 160 0 _ _ _ _ h
theorem ok_Re_append {X : CXT} (hX : XC X) : SemOK X 2 70 sm_Re_append := by
  intro O av σ K o h
  unfold sm_Re_append at h
  split at h
  · obtain ⟨r, hf, h⟩ := Option.bind_eq_some_iff.mp h
    exact ⟨ovV r, fun ht => sp_of hX.1 (by decide) (List.mem_range.mpr (by decide)) (by decide +kernel) ht (Nat.le_of_ble_eq_true rfl) (s_Re_append hX _ _ _ _ hf), trivial, h⟩
  · cases h
noncomputable def b_P_feed (k0 : Nat) (v1 : Int32) (v2 : Int32) (v3 : Int32) (v4 : Int32) (v5 : Int32) (s : Mem) : Option (Int32 × Mem) :=
  (f_Re_hasRoom (k0 + 160) ((20 : Int32)) s).bind fun r1 =>
  cif ((b2i r1.1) = 0) (
    some ((-1 : Int32), r1.2)) (
    (f_Re_append (k0 + 160) v1 r1.2).bind fun r2 =>
    (f_Re_append (k0 + 160) v2 r2).bind fun r3 =>
    (f_Re_append (k0 + 160) v3 r3).bind fun r4 =>
    (f_Re_append (k0 + 160) v4 r4).bind fun r5 =>
    (f_Re_append (k0 + 160) v5 r5).bind fun r6 =>
    some (rI r6 (k0 + 160) 6, r6))
noncomputable def f_P_feed : Nat → Int32 → Int32 → Int32 → Int32 → Int32 → Mem → Option (Int32 × Mem) := Classical.choose (⟨b_P_feed, rfl⟩ : ∃ f : Nat → Int32 → Int32 → Int32 → Int32 → Int32 → Mem → Option (Int32 × Mem), f = b_P_feed)
theorem f_P_feed_eq : f_P_feed = b_P_feed := Classical.choose_spec (⟨b_P_feed, rfl⟩ : ∃ f : Nat → Int32 → Int32 → Int32 → Int32 → Int32 → Mem → Option (Int32 × Mem), f = b_P_feed)
noncomputable def sm_P_feed (O : Type) (av : List AV) (σ : Mem) (K : AV → Mem → Option O) : Option O := match av with
  | [.inr (.inr (11, k0)), .inl v1, .inl v2, .inl v3, .inl v4, .inl v5] => (f_P_feed k0 v1 v2 v3 v4 v5 σ).bind fun r => K (.inl r.1) r.2
  | _ => none
def c_P_feed : List (List CE) := [[(0, .aload_n 0, 1, 0, 0, 0), (1, .getfield 55, 3, 11, 5, 0), (4, .bipush 20, 2, 20, 0, 0), (6, .invokevirtual 158, 3, 69, 2, 11), (9, .ifCond .ne 5, 3, 14, 0, 0), (12, .iconst (-1), 1, 1, 0, 1), (13, .ireturn, 1, 0, 0, 0), (14, .aload_n 0, 1, 0, 0, 0), (15, .getfield 55, 3, 11, 5, 0)], [(18, .iload_n 1, 1, 0, 0, 0), (19, .invokevirtual 161, 3, 70, 2, 10), (22, .aload_n 0, 1, 0, 0, 0), (23, .getfield 55, 3, 11, 5, 0), (26, .iload_n 2, 1, 0, 0, 0), (27, .invokevirtual 161, 3, 70, 2, 10), (30, .aload_n 0, 1, 0, 0, 0), (31, .getfield 55, 3, 11, 5, 0)], [(34, .iload_n 3, 1, 0, 0, 0), (35, .invokevirtual 161, 3, 70, 2, 10), (38, .aload_n 0, 1, 0, 0, 0), (39, .getfield 55, 3, 11, 5, 0), (42, .iload 4, 2, 0, 0, 0), (44, .invokevirtual 161, 3, 70, 2, 10), (47, .aload_n 0, 1, 0, 0, 0)], [(48, .getfield 55, 3, 11, 5, 0), (51, .iload 5, 2, 0, 0, 0), (53, .invokevirtual 161, 3, 70, 2, 10), (56, .aload_n 0, 1, 0, 0, 0), (57, .getfield 55, 3, 11, 5, 0), (60, .getfield 165, 3, 5, 6, 0), (63, .ireturn, 1, 0, 0, 0)]]
set_option maxRecDepth 100000 in
theorem oc_P_feed : okC 68 c_P_feed = true := by decide +kernel
def cu_P_feed : List (Nat × List Bool) := []
noncomputable def F_P_feed (O : Type) (a : Nat) (av : List AV) (σ : Mem) (K : AV → Mem → Option O) : Option O := if a = 69 then sm_Re_hasRoom O av σ K else if a = 70 then sm_Re_append O av σ K else none
theorem fs_P_feed {X : CXT} (hX : XC X) (O : Type) : FS X 3 (F_P_feed O) := by
  intro a av σ K o h
  unfold F_P_feed at h
  rcases ite_s h with ⟨rfl, h⟩ | ⟨_, h⟩
  · obtain ⟨r, h1, h2, h3⟩ := ok_Re_hasRoom hX _ _ _ _ _ h
    exact ⟨r, fun ht => ⟨1, by decide, h1 ht⟩, h2, h3⟩
  rcases ite_s h with ⟨rfl, h⟩ | ⟨_, h⟩
  · obtain ⟨r, h1, h2, h3⟩ := ok_Re_append hX _ _ _ _ _ h
    exact ⟨r, fun ht => ⟨2, by decide, h1 ht⟩, h2, h3⟩
  cases h
set_option maxRecDepth 100000 in
theorem s_P_feed {X : CXT} (hX : XC X) : ∀ (k0 : Nat) (v1 : Int32) (v2 : Int32) (v3 : Int32) (v4 : Int32) (v5 : Int32) (s : Mem) (o : Int32 × Mem), f_P_feed k0 v1 v2 v3 v4 v5 s = some o → BSnd X 3 68 (ovI o) 0 (entL [.inr (.inr (11, k0)), .inl v1, .inl v2, .inl v3, .inl v4, .inl v5]) [] s := by
  intro k0 v1 v2 v3 v4 v5 s o h
  rw [f_P_feed_eq] at h
  exact evC (chs := c_P_feed) (cuts := cu_P_feed) (G := fun pc ls st σ => none) hX.2.1 hX.2.2 (F := F_P_feed _) (fs_P_feed hX _) (rt_I rfl) oc_P_feed (by
    intro pc ls st σ o h
    cases h) 164 0 _ _ _ _ h
theorem ok_P_feed {X : CXT} (hX : XC X) : SemOK X 3 68 sm_P_feed := by
  intro O av σ K o h
  unfold sm_P_feed at h
  split at h
  · obtain ⟨r, hf, h⟩ := Option.bind_eq_some_iff.mp h
    exact ⟨ovI r, fun ht => sp_of hX.1 (by decide) (List.mem_range.mpr (by decide)) (by decide +kernel) ht (Nat.le_of_ble_eq_true rfl) (s_P_feed hX _ _ _ _ _ _ _ _ hf), trivial, h⟩
  · cases h
noncomputable def b_Re_cut (k0 : Nat) (v1 : Int32) (s : Mem) : Option (Bool × Mem) :=
  (f_P_within v1 ((0 : Int32)) (rI s k0 6) s).bind fun r1 =>
  cif ((b2i r1.1) = 0) (
    some (false, r1.2)) (
    let s2 : Mem := wI r1.2 k0 6 v1
    some (true, s2))
noncomputable def f_Re_cut : Nat → Int32 → Mem → Option (Bool × Mem) := Classical.choose (⟨b_Re_cut, rfl⟩ : ∃ f : Nat → Int32 → Mem → Option (Bool × Mem), f = b_Re_cut)
theorem f_Re_cut_eq : f_Re_cut = b_Re_cut := Classical.choose_spec (⟨b_Re_cut, rfl⟩ : ∃ f : Nat → Int32 → Mem → Option (Bool × Mem), f = b_Re_cut)
noncomputable def sm_Re_cut (O : Type) (av : List AV) (σ : Mem) (K : AV → Mem → Option O) : Option O := match av with
  | [.inr (.inr (5, k0)), .inl v1] => (f_Re_cut k0 v1 σ).bind fun r => K (.inl (b2i r.1)) r.2
  | _ => none
def c_Re_cut : List (List CE) := [[(0, .iload_n 1, 1, 0, 0, 0), (1, .iconst 0, 1, 0, 0, 0), (2, .aload_n 0, 1, 0, 0, 0), (3, .getfield 41, 3, 5, 6, 0), (6, .invokestatic 60, 3, 17, 3, 1), (9, .ifCond .ne 5, 3, 14, 0, 0), (12, .iconst 0, 1, 0, 0, 0), (13, .ireturn, 1, 0, 0, 0), (14, .aload_n 0, 1, 0, 0, 0), (15, .iload_n 1, 1, 0, 0, 0)], [(16, .putfield 41, 3, 5, 6, 0), (19, .iconst 1, 1, 1, 0, 0), (20, .ireturn, 1, 0, 0, 0)]]
set_option maxRecDepth 100000 in
theorem oc_Re_cut : okC 72 c_Re_cut = true := by decide +kernel
def cu_Re_cut : List (Nat × List Bool) := []
noncomputable def F_Re_cut (O : Type) (a : Nat) (av : List AV) (σ : Mem) (K : AV → Mem → Option O) : Option O := if a = 17 then sm_P_within O av σ K else none
theorem fs_Re_cut {X : CXT} (hX : XC X) (O : Type) : FS X 2 (F_Re_cut O) := by
  intro a av σ K o h
  unfold F_Re_cut at h
  rcases ite_s h with ⟨rfl, h⟩ | ⟨_, h⟩
  · obtain ⟨r, h1, h2, h3⟩ := ok_P_within hX _ _ _ _ _ h
    exact ⟨r, fun ht => ⟨1, by decide, h1 ht⟩, h2, h3⟩
  cases h
set_option maxRecDepth 100000 in
theorem s_Re_cut {X : CXT} (hX : XC X) : ∀ (k0 : Nat) (v1 : Int32) (s : Mem) (o : Bool × Mem), f_Re_cut k0 v1 s = some o → BSnd X 2 72 (ovZ o) 0 (entL [.inr (.inr (5, k0)), .inl v1]) [] s := by
  intro k0 v1 s o h
  rw [f_Re_cut_eq] at h
  exact evC (chs := c_Re_cut) (cuts := cu_Re_cut) (G := fun pc ls st σ => none) hX.2.1 hX.2.2 (F := F_Re_cut _) (fs_Re_cut hX _) (rt_Z rfl) oc_Re_cut (by
    intro pc ls st σ o h
    cases h) 92 0 _ _ _ _ h
theorem ok_Re_cut {X : CXT} (hX : XC X) : SemOK X 2 72 sm_Re_cut := by
  intro O av σ K o h
  unfold sm_Re_cut at h
  split at h
  · obtain ⟨r, hf, h⟩ := Option.bind_eq_some_iff.mp h
    exact ⟨ovZ r, fun ht => sp_of hX.1 (by decide) (List.mem_range.mpr (by decide)) (by decide +kernel) ht (Nat.le_of_ble_eq_true rfl) (s_Re_cut hX _ _ _ _ hf), trivial, h⟩
  · cases h
noncomputable def b_P_end (k0 : Nat) (v1 : Int32) (s : Mem) : Option (Bool × Mem) :=
  (f_Re_cut (k0 + 160) v1 s).bind fun r1 =>
  lf (rB (b2i r1.1)) r1.2
noncomputable def f_P_end : Nat → Int32 → Mem → Option (Bool × Mem) := Classical.choose (⟨b_P_end, rfl⟩ : ∃ f : Nat → Int32 → Mem → Option (Bool × Mem), f = b_P_end)
theorem f_P_end_eq : f_P_end = b_P_end := Classical.choose_spec (⟨b_P_end, rfl⟩ : ∃ f : Nat → Int32 → Mem → Option (Bool × Mem), f = b_P_end)
noncomputable def sm_P_end (O : Type) (av : List AV) (σ : Mem) (K : AV → Mem → Option O) : Option O := match av with
  | [.inr (.inr (11, k0)), .inl v1] => (f_P_end k0 v1 σ).bind fun r => K (.inl (b2i r.1)) r.2
  | _ => none
def c_P_end : List (List CE) := [[(0, .aload_n 0, 1, 0, 0, 0), (1, .getfield 55, 3, 11, 5, 0), (4, .iload_n 1, 1, 0, 0, 0), (5, .invokevirtual 168, 3, 72, 2, 11), (8, .ireturn, 1, 0, 0, 0)]]
set_option maxRecDepth 100000 in
theorem oc_P_end : okC 71 c_P_end = true := by decide +kernel
def cu_P_end : List (Nat × List Bool) := []
noncomputable def F_P_end (O : Type) (a : Nat) (av : List AV) (σ : Mem) (K : AV → Mem → Option O) : Option O := if a = 72 then sm_Re_cut O av σ K else none
theorem fs_P_end {X : CXT} (hX : XC X) (O : Type) : FS X 3 (F_P_end O) := by
  intro a av σ K o h
  unfold F_P_end at h
  rcases ite_s h with ⟨rfl, h⟩ | ⟨_, h⟩
  · obtain ⟨r, h1, h2, h3⟩ := ok_Re_cut hX _ _ _ _ _ h
    exact ⟨r, fun ht => ⟨2, by decide, h1 ht⟩, h2, h3⟩
  cases h
set_option maxRecDepth 100000 in
theorem s_P_end {X : CXT} (hX : XC X) : ∀ (k0 : Nat) (v1 : Int32) (s : Mem) (o : Bool × Mem), f_P_end k0 v1 s = some o → BSnd X 3 71 (ovZ o) 0 (entL [.inr (.inr (11, k0)), .inl v1]) [] s := by
  intro k0 v1 s o h
  rw [f_P_end_eq] at h
  exact evC (chs := c_P_end) (cuts := cu_P_end) (G := fun pc ls st σ => none) hX.2.1 hX.2.2 (F := F_P_end _) (fs_P_end hX _) (rt_Z rfl) oc_P_end (by
    intro pc ls st σ o h
    cases h) 60 0 _ _ _ _ h
theorem ok_P_end {X : CXT} (hX : XC X) : SemOK X 3 71 sm_P_end := by
  intro O av σ K o h
  unfold sm_P_end at h
  split at h
  · obtain ⟨r, hf, h⟩ := Option.bind_eq_some_iff.mp h
    exact ⟨ovZ r, fun ht => sp_of hX.1 (by decide) (List.mem_range.mpr (by decide)) (by decide +kernel) ht (Nat.le_of_ble_eq_true rfl) (s_P_end hX _ _ _ _ hf), trivial, h⟩
  · cases h
noncomputable def b_Re_discard (k0 : Nat) (s : Mem) : Option (Mem) :=
  let s1 : Mem := wI s k0 10 ((0 : Int32))
  let s2 : Mem := wI s1 k0 11 ((-1 : Int32))
  let s3 : Mem := wI s2 k0 6 ((0 : Int32))
  some s3
noncomputable def f_Re_discard : Nat → Mem → Option (Mem) := Classical.choose (⟨b_Re_discard, rfl⟩ : ∃ f : Nat → Mem → Option (Mem), f = b_Re_discard)
theorem f_Re_discard_eq : f_Re_discard = b_Re_discard := Classical.choose_spec (⟨b_Re_discard, rfl⟩ : ∃ f : Nat → Mem → Option (Mem), f = b_Re_discard)
noncomputable def sm_Re_discard (O : Type) (av : List AV) (σ : Mem) (K : AV → Mem → Option O) : Option O := match av with
  | [.inr (.inr (5, k0))] => (f_Re_discard k0 σ).bind fun r => K (.inl 0) r
  | _ => none
def c_Re_discard : List (List CE) := [[(0, .aload_n 0, 1, 0, 0, 0), (1, .iconst 0, 1, 0, 0, 0), (2, .putfield 54, 3, 5, 10, 0), (5, .aload_n 0, 1, 0, 0, 0), (6, .iconst (-1), 1, 1, 0, 1), (7, .putfield 57, 3, 5, 11, 0), (10, .aload_n 0, 1, 0, 0, 0), (11, .iconst 0, 1, 0, 0, 0), (12, .putfield 41, 3, 5, 6, 0), (15, .return_, 1, 0, 0, 0)]]
set_option maxRecDepth 100000 in
theorem oc_Re_discard : okC 76 c_Re_discard = true := by decide +kernel
def cu_Re_discard : List (Nat × List Bool) := []
noncomputable def F_Re_discard (O : Type) (a : Nat) (av : List AV) (σ : Mem) (K : AV → Mem → Option O) : Option O := none
theorem fs_Re_discard {X : CXT} (hX : XC X) (O : Type) : FS X 1 (F_Re_discard O) := by
  intro a av σ K o h
  cases h
set_option maxRecDepth 100000 in
theorem s_Re_discard {X : CXT} (hX : XC X) : ∀ (k0 : Nat) (s : Mem) (o : Mem), f_Re_discard k0 s = some o → BSnd X 1 76 (ovV o) 0 (entL [.inr (.inr (5, k0))]) [] s := by
  intro k0 s o h
  rw [f_Re_discard_eq] at h
  exact evC (chs := c_Re_discard) (cuts := cu_Re_discard) (G := fun pc ls st σ => none) hX.2.1 hX.2.2 (F := F_Re_discard _) (fs_Re_discard hX _) (rt_V rfl) oc_Re_discard (by
    intro pc ls st σ o h
    cases h) 80 0 _ _ _ _ h
theorem ok_Re_discard {X : CXT} (hX : XC X) : SemOK X 1 76 sm_Re_discard := by
  intro O av σ K o h
  unfold sm_Re_discard at h
  split at h
  · obtain ⟨r, hf, h⟩ := Option.bind_eq_some_iff.mp h
    exact ⟨ovV r, fun ht => sp_of hX.1 (by decide) (List.mem_range.mpr (by decide)) (by decide +kernel) ht (Nat.le_of_ble_eq_true rfl) (s_Re_discard hX _ _ _ hf), trivial, h⟩
  · cases h
noncomputable def b_Re_byteAt (k0 : Nat) (v1 : Int32) (s : Mem) : Option (Int32 × Mem) :=
  (f_P_within v1 ((0 : Int32)) ((399 : Int32)) s).bind fun r1 =>
  cif ((b2i r1.1) = 0) (
    lf (rN .char ((0 : Int32))) r1.2) (
    gd (inb v1 (lenC (k0 + 1))) <|
    lf (rN .char (rI r1.2 (k0 + 1) (ix v1))) r1.2)
noncomputable def f_Re_byteAt : Nat → Int32 → Mem → Option (Int32 × Mem) := Classical.choose (⟨b_Re_byteAt, rfl⟩ : ∃ f : Nat → Int32 → Mem → Option (Int32 × Mem), f = b_Re_byteAt)
theorem f_Re_byteAt_eq : f_Re_byteAt = b_Re_byteAt := Classical.choose_spec (⟨b_Re_byteAt, rfl⟩ : ∃ f : Nat → Int32 → Mem → Option (Int32 × Mem), f = b_Re_byteAt)
noncomputable def sm_Re_byteAt (O : Type) (av : List AV) (σ : Mem) (K : AV → Mem → Option O) : Option O := match av with
  | [.inr (.inr (5, k0)), .inl v1] => (f_Re_byteAt k0 v1 σ).bind fun r => K (.inl r.1) r.2
  | _ => none
def c_Re_byteAt : List (List CE) := [[(0, .iload_n 1, 1, 0, 0, 0), (1, .iconst 0, 1, 0, 0, 0), (2, .sipush 399, 3, 399, 0, 0), (5, .invokestatic 60, 3, 17, 3, 1), (8, .ifCond .eq 12, 3, 20, 0, 0), (11, .aload_n 0, 1, 0, 0, 0), (12, .getfield 11, 3, 5, 0, 0), (15, .iload_n 1, 1, 0, 0, 0)], [(16, .caload, 1, 0, 0, 0), (17, .goto 4, 3, 21, 0, 0), (20, .iconst 0, 1, 0, 0, 0), (21, .ireturn, 1, 0, 0, 0)]]
set_option maxRecDepth 100000 in
theorem oc_Re_byteAt : okC 78 c_Re_byteAt = true := by decide +kernel
def cu_Re_byteAt : List (Nat × List Bool) := []
noncomputable def F_Re_byteAt (O : Type) (a : Nat) (av : List AV) (σ : Mem) (K : AV → Mem → Option O) : Option O := if a = 17 then sm_P_within O av σ K else none
theorem fs_Re_byteAt {X : CXT} (hX : XC X) (O : Type) : FS X 2 (F_Re_byteAt O) := by
  intro a av σ K o h
  unfold F_Re_byteAt at h
  rcases ite_s h with ⟨rfl, h⟩ | ⟨_, h⟩
  · obtain ⟨r, h1, h2, h3⟩ := ok_P_within hX _ _ _ _ _ h
    exact ⟨r, fun ht => ⟨1, by decide, h1 ht⟩, h2, h3⟩
  cases h
set_option maxRecDepth 100000 in
theorem s_Re_byteAt {X : CXT} (hX : XC X) : ∀ (k0 : Nat) (v1 : Int32) (s : Mem) (o : Int32 × Mem), f_Re_byteAt k0 v1 s = some o → BSnd X 2 78 (ovI o) 0 (entL [.inr (.inr (5, k0)), .inl v1]) [] s := by
  intro k0 v1 s o h
  rw [f_Re_byteAt_eq] at h
  exact evC (chs := c_Re_byteAt) (cuts := cu_Re_byteAt) (G := fun pc ls st σ => none) hX.2.1 hX.2.2 (F := F_Re_byteAt _) (fs_Re_byteAt hX _) (rt_N (ty := .char) rfl (fun x h => by have e : narrow .char (.int x) = .int (vp_nar .char x) := rfl; rw [h] at e; exact e)) oc_Re_byteAt (by
    intro pc ls st σ o h
    cases h) 88 0 _ _ _ _ h
theorem ok_Re_byteAt {X : CXT} (hX : XC X) : SemOK X 2 78 sm_Re_byteAt := by
  intro O av σ K o h
  unfold sm_Re_byteAt at h
  split at h
  · obtain ⟨r, hf, h⟩ := Option.bind_eq_some_iff.mp h
    exact ⟨ovI r, fun ht => sp_of hX.1 (by decide) (List.mem_range.mpr (by decide)) (by decide +kernel) ht (Nat.le_of_ble_eq_true rfl) (s_Re_byteAt hX _ _ _ _ hf), trivial, h⟩
  · cases h
noncomputable def b_Re_isLetter (v0 : Int32) (s : Mem) : Option (Bool × Mem) :=
  cif (v0 < ((97 : Int32))) (
    cif (v0 < ((65 : Int32))) (
      some (false, s)) (
      cif (((90 : Int32)) < v0) (
        some (false, s)) (
        some (true, s)))) (
    cif (v0 ≤ ((122 : Int32))) (
      some (true, s)) (
      cif (v0 < ((65 : Int32))) (
        some (false, s)) (
        cif (((90 : Int32)) < v0) (
          some (false, s)) (
          some (true, s)))))
noncomputable def f_Re_isLetter : Int32 → Mem → Option (Bool × Mem) := Classical.choose (⟨b_Re_isLetter, rfl⟩ : ∃ f : Int32 → Mem → Option (Bool × Mem), f = b_Re_isLetter)
theorem f_Re_isLetter_eq : f_Re_isLetter = b_Re_isLetter := Classical.choose_spec (⟨b_Re_isLetter, rfl⟩ : ∃ f : Int32 → Mem → Option (Bool × Mem), f = b_Re_isLetter)
noncomputable def sm_Re_isLetter (O : Type) (av : List AV) (σ : Mem) (K : AV → Mem → Option O) : Option O := match av with
  | [.inl v0] => (f_Re_isLetter v0 σ).bind fun r => K (.inl (b2i r.1)) r.2
  | _ => none
def c_Re_isLetter : List (List CE) := [[(0, .iload_n 0, 1, 0, 0, 0), (1, .bipush 97, 2, 97, 0, 0), (3, .if_icmp .lt 9, 3, 12, 0, 0), (6, .iload_n 0, 1, 0, 0, 0), (7, .bipush 122, 2, 122, 0, 0), (9, .if_icmp .le 15, 3, 24, 0, 0), (12, .iload_n 0, 1, 0, 0, 0), (13, .bipush 65, 2, 65, 0, 0), (15, .if_icmp .lt 13, 3, 28, 0, 0)], [(18, .iload_n 0, 1, 0, 0, 0), (19, .bipush 90, 2, 90, 0, 0), (21, .if_icmp .gt 7, 3, 28, 0, 0), (24, .iconst 1, 1, 1, 0, 0), (25, .goto 4, 3, 29, 0, 0), (28, .iconst 0, 1, 0, 0, 0), (29, .ireturn, 1, 0, 0, 0)]]
set_option maxRecDepth 100000 in
theorem oc_Re_isLetter : okC 79 c_Re_isLetter = true := by decide +kernel
def cu_Re_isLetter : List (Nat × List Bool) := []
noncomputable def F_Re_isLetter (O : Type) (a : Nat) (av : List AV) (σ : Mem) (K : AV → Mem → Option O) : Option O := none
theorem fs_Re_isLetter {X : CXT} (hX : XC X) (O : Type) : FS X 1 (F_Re_isLetter O) := by
  intro a av σ K o h
  cases h
set_option maxRecDepth 100000 in
theorem s_Re_isLetter {X : CXT} (hX : XC X) : ∀ (v0 : Int32) (s : Mem) (o : Bool × Mem), f_Re_isLetter v0 s = some o → BSnd X 1 79 (ovZ o) 0 (entL [.inl v0]) [] s := by
  intro v0 s o h
  rw [f_Re_isLetter_eq] at h
  exact evC (chs := c_Re_isLetter) (cuts := cu_Re_isLetter) (G := fun pc ls st σ => none) hX.2.1 hX.2.2 (F := F_Re_isLetter _) (fs_Re_isLetter hX _) (rt_Z rfl) oc_Re_isLetter (by
    intro pc ls st σ o h
    cases h) 104 0 _ _ _ _ h
theorem ok_Re_isLetter {X : CXT} (hX : XC X) : SemOK X 1 79 sm_Re_isLetter := by
  intro O av σ K o h
  unfold sm_Re_isLetter at h
  split at h
  · obtain ⟨r, hf, h⟩ := Option.bind_eq_some_iff.mp h
    exact ⟨ovZ r, fun ht => sp_of hX.1 (by decide) (List.mem_range.mpr (by decide)) (by decide +kernel) ht (Nat.le_of_ble_eq_true rfl) (s_Re_isLetter hX _ _ _ hf), trivial, h⟩
  · cases h
noncomputable def b_Re_isDigit (v0 : Int32) (s : Mem) : Option (Bool × Mem) :=
  cif (v0 < ((48 : Int32))) (
    some (false, s)) (
    cif (((57 : Int32)) < v0) (
      some (false, s)) (
      some (true, s)))
noncomputable def f_Re_isDigit : Int32 → Mem → Option (Bool × Mem) := Classical.choose (⟨b_Re_isDigit, rfl⟩ : ∃ f : Int32 → Mem → Option (Bool × Mem), f = b_Re_isDigit)
theorem f_Re_isDigit_eq : f_Re_isDigit = b_Re_isDigit := Classical.choose_spec (⟨b_Re_isDigit, rfl⟩ : ∃ f : Int32 → Mem → Option (Bool × Mem), f = b_Re_isDigit)
noncomputable def sm_Re_isDigit (O : Type) (av : List AV) (σ : Mem) (K : AV → Mem → Option O) : Option O := match av with
  | [.inl v0] => (f_Re_isDigit v0 σ).bind fun r => K (.inl (b2i r.1)) r.2
  | _ => none
def c_Re_isDigit : List (List CE) := [[(0, .iload_n 0, 1, 0, 0, 0), (1, .bipush 48, 2, 48, 0, 0), (3, .if_icmp .lt 13, 3, 16, 0, 0), (6, .iload_n 0, 1, 0, 0, 0), (7, .bipush 57, 2, 57, 0, 0), (9, .if_icmp .gt 7, 3, 16, 0, 0), (12, .iconst 1, 1, 1, 0, 0), (13, .goto 4, 3, 17, 0, 0)], [(16, .iconst 0, 1, 0, 0, 0), (17, .ireturn, 1, 0, 0, 0)]]
set_option maxRecDepth 100000 in
theorem oc_Re_isDigit : okC 80 c_Re_isDigit = true := by decide +kernel
def cu_Re_isDigit : List (Nat × List Bool) := []
noncomputable def F_Re_isDigit (O : Type) (a : Nat) (av : List AV) (σ : Mem) (K : AV → Mem → Option O) : Option O := none
theorem fs_Re_isDigit {X : CXT} (hX : XC X) (O : Type) : FS X 1 (F_Re_isDigit O) := by
  intro a av σ K o h
  cases h
set_option maxRecDepth 100000 in
theorem s_Re_isDigit {X : CXT} (hX : XC X) : ∀ (v0 : Int32) (s : Mem) (o : Bool × Mem), f_Re_isDigit v0 s = some o → BSnd X 1 80 (ovZ o) 0 (entL [.inl v0]) [] s := by
  intro v0 s o h
  rw [f_Re_isDigit_eq] at h
  exact evC (chs := c_Re_isDigit) (cuts := cu_Re_isDigit) (G := fun pc ls st σ => none) hX.2.1 hX.2.2 (F := F_Re_isDigit _) (fs_Re_isDigit hX _) (rt_Z rfl) oc_Re_isDigit (by
    intro pc ls st σ o h
    cases h) 80 0 _ _ _ _ h
theorem ok_Re_isDigit {X : CXT} (hX : XC X) : SemOK X 1 80 sm_Re_isDigit := by
  intro O av σ K o h
  unfold sm_Re_isDigit at h
  split at h
  · obtain ⟨r, hf, h⟩ := Option.bind_eq_some_iff.mp h
    exact ⟨ovZ r, fun ht => sp_of hX.1 (by decide) (List.mem_range.mpr (by decide)) (by decide +kernel) ht (Nat.le_of_ble_eq_true rfl) (s_Re_isDigit hX _ _ _ hf), trivial, h⟩
  · cases h
noncomputable def f_Re_tokenEnd_23 : Nat → Nat → Int32 → Int32 → Int32 → Mem → Option (Int32 × Mem)
  | 0, _, _, _, _, _ => none
  | n + 1, k0, v2, v3, v4, s =>
    cif ((rI s k0 7) ≤ v4) (
      some (v4, s)) (
      cif (v2 = 0) (
        cif (v3 = 0) (
          some (v4, s)) (
          (f_Re_byteAt k0 v4 s).bind fun r1 =>
          (f_Re_isDigit r1.1 r1.2).bind fun r2 =>
          cif ((b2i r2.1) = 0) (
            some (v4, r2.2)) (
            f_Re_tokenEnd_23 n k0 v2 v3 (v4 + (1 : Int32)) r2.2))) (
        (f_Re_byteAt k0 v4 s).bind fun r3 =>
        (f_Re_isLetter r3.1 r3.2).bind fun r4 =>
        cif ((b2i r4.1) = 0) (
          cif (v3 = 0) (
            some (v4, r4.2)) (
            (f_Re_byteAt k0 v4 r4.2).bind fun r5 =>
            (f_Re_isDigit r5.1 r5.2).bind fun r6 =>
            cif ((b2i r6.1) = 0) (
              some (v4, r6.2)) (
              f_Re_tokenEnd_23 n k0 v2 v3 (v4 + (1 : Int32)) r6.2))) (
          f_Re_tokenEnd_23 n k0 v2 v3 (v4 + (1 : Int32)) r4.2)))
noncomputable def b_Re_tokenEnd (k0 : Nat) (v1 : Int32) (s : Mem) : Option (Int32 × Mem) :=
  (f_Re_byteAt k0 v1 s).bind fun r1 =>
  (f_Re_isLetter r1.1 r1.2).bind fun r2 =>
  let x3 : Int32 := b2i r2.1
  (f_Re_byteAt k0 v1 r2.2).bind fun r4 =>
  (f_Re_isDigit r4.1 r4.2).bind fun r5 =>
  let x6 : Int32 := b2i r5.1
  let x7 : Int32 := v1 + ((1 : Int32))
  f_Re_tokenEnd_23 FU k0 x3 x6 x7 r5.2
noncomputable def f_Re_tokenEnd : Nat → Int32 → Mem → Option (Int32 × Mem) := Classical.choose (⟨b_Re_tokenEnd, rfl⟩ : ∃ f : Nat → Int32 → Mem → Option (Int32 × Mem), f = b_Re_tokenEnd)
theorem f_Re_tokenEnd_eq : f_Re_tokenEnd = b_Re_tokenEnd := Classical.choose_spec (⟨b_Re_tokenEnd, rfl⟩ : ∃ f : Nat → Int32 → Mem → Option (Int32 × Mem), f = b_Re_tokenEnd)
noncomputable def sm_Re_tokenEnd (O : Type) (av : List AV) (σ : Mem) (K : AV → Mem → Option O) : Option O := match av with
  | [.inr (.inr (5, k0)), .inl v1] => (f_Re_tokenEnd k0 v1 σ).bind fun r => K (.inl r.1) r.2
  | _ => none
def c_Re_tokenEnd : List (List CE) := [[(0, .aload_n 0, 1, 0, 0, 0), (1, .iload_n 1, 1, 0, 0, 0), (2, .invokevirtual 71, 3, 78, 2, 11), (5, .invokestatic 83, 3, 79, 1, 1), (8, .istore_n 2, 1, 0, 0, 0), (9, .aload_n 0, 1, 0, 0, 0), (10, .iload_n 1, 1, 0, 0, 0), (11, .invokevirtual 71, 3, 78, 2, 11), (14, .invokestatic 86, 3, 80, 1, 1)], [(17, .istore_n 3, 1, 0, 0, 0), (18, .iload_n 1, 1, 0, 0, 0), (19, .iconst 1, 1, 1, 0, 0), (20, .iadd, 1, 0, 0, 0), (21, .istore 4, 2, 0, 0, 0), (23, .iload 4, 2, 0, 0, 0), (25, .aload_n 0, 1, 0, 0, 0), (26, .getfield 45, 3, 5, 7, 0), (29, .if_icmp .ge 41, 3, 70, 0, 0)], [(32, .iload_n 2, 1, 0, 0, 0), (33, .ifCond .eq 15, 3, 48, 0, 0), (36, .aload_n 0, 1, 0, 0, 0), (37, .iload 4, 2, 0, 0, 0), (39, .invokevirtual 71, 3, 78, 2, 11), (42, .invokestatic 83, 3, 79, 1, 1), (45, .ifCond .ne 19, 3, 64, 0, 0)], [(48, .iload_n 3, 1, 0, 0, 0), (49, .ifCond .eq 21, 3, 70, 0, 0), (52, .aload_n 0, 1, 0, 0, 0), (53, .iload 4, 2, 0, 0, 0), (55, .invokevirtual 71, 3, 78, 2, 11), (58, .invokestatic 86, 3, 80, 1, 1), (61, .ifCond .eq 9, 3, 70, 0, 0)], [(64, .iinc 4 1, 3, 1, 0, 0), (67, .goto (-44), 3, 23, 0, 0), (70, .iload 4, 2, 0, 0, 0), (72, .ireturn, 1, 0, 0, 0)]]
set_option maxRecDepth 100000 in
theorem oc_Re_tokenEnd : okC 77 c_Re_tokenEnd = true := by decide +kernel
def cu_Re_tokenEnd : List (Nat × List Bool) := [(23, [true, false, true, true, true])]
noncomputable def F_Re_tokenEnd (O : Type) (a : Nat) (av : List AV) (σ : Mem) (K : AV → Mem → Option O) : Option O := if a = 78 then sm_Re_byteAt O av σ K else if a = 79 then sm_Re_isLetter O av σ K else if a = 80 then sm_Re_isDigit O av σ K else none
theorem fs_Re_tokenEnd {X : CXT} (hX : XC X) (O : Type) : FS X 3 (F_Re_tokenEnd O) := by
  intro a av σ K o h
  unfold F_Re_tokenEnd at h
  rcases ite_s h with ⟨rfl, h⟩ | ⟨_, h⟩
  · obtain ⟨r, h1, h2, h3⟩ := ok_Re_byteAt hX _ _ _ _ _ h
    exact ⟨r, fun ht => ⟨2, by decide, h1 ht⟩, h2, h3⟩
  rcases ite_s h with ⟨rfl, h⟩ | ⟨_, h⟩
  · obtain ⟨r, h1, h2, h3⟩ := ok_Re_isLetter hX _ _ _ _ _ h
    exact ⟨r, fun ht => ⟨1, by decide, h1 ht⟩, h2, h3⟩
  rcases ite_s h with ⟨rfl, h⟩ | ⟨_, h⟩
  · obtain ⟨r, h1, h2, h3⟩ := ok_Re_isDigit hX _ _ _ _ _ h
    exact ⟨r, fun ht => ⟨1, by decide, h1 ht⟩, h2, h3⟩
  cases h
def hd_Re_tokenEnd_23 {O : Type} (g : Nat → Int32 → Int32 → Int32 → Mem → Option O) (ls : OL) (st : List AV) (σ : Mem) : Option O := match ls, st with
  | [some (.inr (.inr (5, k0))), none, some (.inl v2), some (.inl v3), some (.inl v4)], [] => g k0 v2 v3 v4 σ
  | _, _ => none
theorem hs_Re_tokenEnd_23 {X : CXT} {g : Nat → Int32 → Int32 → Int32 → Mem → Option (Int32 × Mem)} (hg : ∀ (k0 : Nat) (v2 : Int32) (v3 : Int32) (v4 : Int32) (s : Mem) (o : Int32 × Mem), g k0 v2 v3 v4 s = some o → BSnd X 3 77 (ovI o) 23 [some (.inr (.inr (5, k0))), none, some (.inl v2), some (.inl v3), some (.inl v4)] [] s) : ∀ ls st σ o, hd_Re_tokenEnd_23 g ls st σ = some o → BSnd X 3 77 (ovI o) 23 ls st σ := by
  intro ls st σ o h
  unfold hd_Re_tokenEnd_23 at h
  split at h
  · exact hg _ _ _ _ _ _ h
  · cases h
set_option maxRecDepth 100000 in
theorem s_Re_tokenEnd_23 {X : CXT} (hX : XC X) : ∀ n : Nat, ∀ (k0 : Nat) (v2 : Int32) (v3 : Int32) (v4 : Int32) (s : Mem) (o : Int32 × Mem), f_Re_tokenEnd_23 n k0 v2 v3 v4 s = some o → BSnd X 3 77 (ovI o) 23 [some (.inr (.inr (5, k0))), none, some (.inl v2), some (.inl v3), some (.inl v4)] [] s := by
  intro n
  induction n with
  | zero => intro k0 v2 v3 v4 s o h; cases h
  | succ n ih =>
    intro k0 v2 v3 v4 s o h
    exact evC (chs := c_Re_tokenEnd) (cuts := cu_Re_tokenEnd) (G := fun pc ls st σ => if pc = 23 then hd_Re_tokenEnd_23 (fun k0 v2 v3 v4 s => f_Re_tokenEnd_23 n k0 v2 v3 v4 s) ls st σ else none) hX.2.1 hX.2.2 (F := F_Re_tokenEnd _) (fs_Re_tokenEnd hX _) (rt_I rfl) oc_Re_tokenEnd (by
    intro pc ls st σ o h
    rcases ite_s h with ⟨rfl, h⟩ | ⟨_, h⟩
    · exact hs_Re_tokenEnd_23 ih _ _ _ _ h
    cases h) 184 23 _ _ _ _ h
set_option maxRecDepth 100000 in
theorem s_Re_tokenEnd {X : CXT} (hX : XC X) : ∀ (k0 : Nat) (v1 : Int32) (s : Mem) (o : Int32 × Mem), f_Re_tokenEnd k0 v1 s = some o → BSnd X 3 77 (ovI o) 0 (entL [.inr (.inr (5, k0)), .inl v1]) [] s := by
  intro k0 v1 s o h
  rw [f_Re_tokenEnd_eq] at h
  exact evC (chs := c_Re_tokenEnd) (cuts := cu_Re_tokenEnd) (G := fun pc ls st σ => if pc = 23 then hd_Re_tokenEnd_23 (fun k0 v2 v3 v4 s => f_Re_tokenEnd_23 FU k0 v2 v3 v4 s) ls st σ else none) hX.2.1 hX.2.2 (F := F_Re_tokenEnd _) (fs_Re_tokenEnd hX _) (rt_I rfl) oc_Re_tokenEnd (by
    intro pc ls st σ o h
    rcases ite_s h with ⟨rfl, h⟩ | ⟨_, h⟩
    · exact hs_Re_tokenEnd_23 (s_Re_tokenEnd_23 hX FU) _ _ _ _ h
    cases h) 184 0 _ _ _ _ h
theorem ok_Re_tokenEnd {X : CXT} (hX : XC X) : SemOK X 3 77 sm_Re_tokenEnd := by
  intro O av σ K o h
  unfold sm_Re_tokenEnd at h
  split at h
  · obtain ⟨r, hf, h⟩ := Option.bind_eq_some_iff.mp h
    exact ⟨ovI r, fun ht => sp_of hX.1 (by decide) (List.mem_range.mpr (by decide)) (by decide +kernel) ht (Nat.le_of_ble_eq_true rfl) (s_Re_tokenEnd hX _ _ _ _ hf), trivial, h⟩
  · cases h
noncomputable def b_Re_isBlank (v0 : Int32) (s : Mem) : Option (Bool × Mem) :=
  cif (v0 = ((32 : Int32))) (
    some (true, s)) (
    cif (v0 = ((10 : Int32))) (
      some (true, s)) (
      some (false, s)))
noncomputable def f_Re_isBlank : Int32 → Mem → Option (Bool × Mem) := Classical.choose (⟨b_Re_isBlank, rfl⟩ : ∃ f : Int32 → Mem → Option (Bool × Mem), f = b_Re_isBlank)
theorem f_Re_isBlank_eq : f_Re_isBlank = b_Re_isBlank := Classical.choose_spec (⟨b_Re_isBlank, rfl⟩ : ∃ f : Int32 → Mem → Option (Bool × Mem), f = b_Re_isBlank)
noncomputable def sm_Re_isBlank (O : Type) (av : List AV) (σ : Mem) (K : AV → Mem → Option O) : Option O := match av with
  | [.inl v0] => (f_Re_isBlank v0 σ).bind fun r => K (.inl (b2i r.1)) r.2
  | _ => none
def c_Re_isBlank : List (List CE) := [[(0, .iload_n 0, 1, 0, 0, 0), (1, .bipush 32, 2, 32, 0, 0), (3, .if_icmp .eq 9, 3, 12, 0, 0), (6, .iload_n 0, 1, 0, 0, 0), (7, .bipush 10, 2, 10, 0, 0), (9, .if_icmp .ne 7, 3, 16, 0, 0), (12, .iconst 1, 1, 1, 0, 0), (13, .goto 4, 3, 17, 0, 0)], [(16, .iconst 0, 1, 0, 0, 0), (17, .ireturn, 1, 0, 0, 0)]]
set_option maxRecDepth 100000 in
theorem oc_Re_isBlank : okC 81 c_Re_isBlank = true := by decide +kernel
def cu_Re_isBlank : List (Nat × List Bool) := []
noncomputable def F_Re_isBlank (O : Type) (a : Nat) (av : List AV) (σ : Mem) (K : AV → Mem → Option O) : Option O := none
theorem fs_Re_isBlank {X : CXT} (hX : XC X) (O : Type) : FS X 1 (F_Re_isBlank O) := by
  intro a av σ K o h
  cases h
set_option maxRecDepth 100000 in
theorem s_Re_isBlank {X : CXT} (hX : XC X) : ∀ (v0 : Int32) (s : Mem) (o : Bool × Mem), f_Re_isBlank v0 s = some o → BSnd X 1 81 (ovZ o) 0 (entL [.inl v0]) [] s := by
  intro v0 s o h
  rw [f_Re_isBlank_eq] at h
  exact evC (chs := c_Re_isBlank) (cuts := cu_Re_isBlank) (G := fun pc ls st σ => none) hX.2.1 hX.2.2 (F := F_Re_isBlank _) (fs_Re_isBlank hX _) (rt_Z rfl) oc_Re_isBlank (by
    intro pc ls st σ o h
    cases h) 80 0 _ _ _ _ h
theorem ok_Re_isBlank {X : CXT} (hX : XC X) : SemOK X 1 81 sm_Re_isBlank := by
  intro O av σ K o h
  unfold sm_Re_isBlank at h
  split at h
  · obtain ⟨r, hf, h⟩ := Option.bind_eq_some_iff.mp h
    exact ⟨ovZ r, fun ht => sp_of hX.1 (by decide) (List.mem_range.mpr (by decide)) (by decide +kernel) ht (Nat.le_of_ble_eq_true rfl) (s_Re_isBlank hX _ _ _ hf), trivial, h⟩
  · cases h
noncomputable def b_St_coder (k0 : Nat) (s : Mem) : Option (Int32 × Mem) :=
  cif (((1 : Int32)) = 0) (
    lf (rN .byte ((1 : Int32))) s) (
    lf (rN .byte ((0 : Int32))) s)
noncomputable def f_St_coder : Nat → Mem → Option (Int32 × Mem) := Classical.choose (⟨b_St_coder, rfl⟩ : ∃ f : Nat → Mem → Option (Int32 × Mem), f = b_St_coder)
theorem f_St_coder_eq : f_St_coder = b_St_coder := Classical.choose_spec (⟨b_St_coder, rfl⟩ : ∃ f : Nat → Mem → Option (Int32 × Mem), f = b_St_coder)
noncomputable def sm_St_coder (O : Type) (av : List AV) (σ : Mem) (K : AV → Mem → Option O) : Option O := match av with
  | [.inr (.inr (151, k0))] => (f_St_coder k0 σ).bind fun r => K (.inl r.1) r.2
  | _ => none
def c_St_coder : List (List CE) := [[(0, .getstatic 38, 3, 0, 1, 1), (3, .ifCond .eq 10, 3, 13, 0, 0), (6, .aload_n 0, 1, 0, 0, 0), (7, .getfield 15, 3, 151, 1, 0), (10, .goto 4, 3, 14, 0, 0), (13, .iconst 1, 1, 1, 0, 0), (14, .ireturn, 1, 0, 0, 0)]]
set_option maxRecDepth 100000 in
theorem oc_St_coder : okC 85 c_St_coder = true := by decide +kernel
def cu_St_coder : List (Nat × List Bool) := []
noncomputable def F_St_coder (O : Type) (a : Nat) (av : List AV) (σ : Mem) (K : AV → Mem → Option O) : Option O := none
theorem fs_St_coder {X : CXT} (hX : XJ X) (O : Type) : FS X 1 (F_St_coder O) := by
  intro a av σ K o h
  cases h
set_option maxRecDepth 100000 in
theorem s_St_coder {X : CXT} (hX : XJ X) : ∀ (k0 : Nat) (s : Mem) (o : Int32 × Mem), f_St_coder k0 s = some o → BSnd X 1 85 (ovI o) 0 (entL [.inr (.inr (151, k0))]) [] s := by
  intro k0 s o h
  rw [f_St_coder_eq] at h
  exact evC (chs := c_St_coder) (cuts := cu_St_coder) (G := fun pc ls st σ => none) rfl hX.2 (F := F_St_coder _) (fs_St_coder hX _) (rt_N (ty := .byte) rfl (fun x h => by have e : narrow .byte (.int x) = .int (vp_nar .byte x) := rfl; rw [h] at e; exact e)) oc_St_coder (by
    intro pc ls st σ o h
    cases h) 68 0 _ _ _ _ h
theorem ok_St_coder {X : CXT} (hX : XJ X) : SemOK X 1 85 sm_St_coder := by
  intro O av σ K o h
  unfold sm_St_coder at h
  split at h
  · obtain ⟨r, hf, h⟩ := Option.bind_eq_some_iff.mp h
    exact ⟨ovI r, fun ht => sp_of hX.1 (by decide) (List.mem_range.mpr (by decide)) (by decide +kernel) ht (Nat.le_of_ble_eq_true rfl) (s_St_coder hX _ _ _ hf), trivial, h⟩
  · cases h
noncomputable def b_St_length (k0 : Nat) (s : Mem) : Option (Int32 × Mem) :=
  (f_St_coder k0 s).bind fun r1 =>
  some ((Int32.ofNat (ext0 (k0 + 1000)).1) >>> (r1.1 &&& 31), r1.2)
noncomputable def f_St_length : Nat → Mem → Option (Int32 × Mem) := Classical.choose (⟨b_St_length, rfl⟩ : ∃ f : Nat → Mem → Option (Int32 × Mem), f = b_St_length)
theorem f_St_length_eq : f_St_length = b_St_length := Classical.choose_spec (⟨b_St_length, rfl⟩ : ∃ f : Nat → Mem → Option (Int32 × Mem), f = b_St_length)
noncomputable def sm_St_length (O : Type) (av : List AV) (σ : Mem) (K : AV → Mem → Option O) : Option O := match av with
  | [.inr (.inr (151, k0))] => (f_St_length k0 σ).bind fun r => K (.inl r.1) r.2
  | _ => none
def c_St_length : List (List CE) := [[(0, .aload_n 0, 1, 0, 0, 0), (1, .getfield 9, 3, 151, 0, 0), (4, .arraylength, 1, 0, 0, 0), (5, .aload_n 0, 1, 0, 0, 0), (6, .invokevirtual 335, 3, 85, 1, 303), (9, .ishr, 1, 0, 0, 0), (10, .ireturn, 1, 0, 0, 0)]]
set_option maxRecDepth 100000 in
theorem oc_St_length : okC 84 c_St_length = true := by decide +kernel
def cu_St_length : List (Nat × List Bool) := []
noncomputable def F_St_length (O : Type) (a : Nat) (av : List AV) (σ : Mem) (K : AV → Mem → Option O) : Option O := if a = 85 then sm_St_coder O av σ K else none
theorem fs_St_length {X : CXT} (hX : XJ X) (O : Type) : FS X 2 (F_St_length O) := by
  intro a av σ K o h
  unfold F_St_length at h
  rcases ite_s h with ⟨rfl, h⟩ | ⟨_, h⟩
  · obtain ⟨r, h1, h2, h3⟩ := ok_St_coder hX _ _ _ _ _ h
    exact ⟨r, fun ht => ⟨1, by decide, h1 ht⟩, h2, h3⟩
  cases h
set_option maxRecDepth 100000 in
theorem s_St_length {X : CXT} (hX : XJ X) : ∀ (k0 : Nat) (s : Mem) (o : Int32 × Mem), f_St_length k0 s = some o → BSnd X 2 84 (ovI o) 0 (entL [.inr (.inr (151, k0))]) [] s := by
  intro k0 s o h
  rw [f_St_length_eq] at h
  exact evC (chs := c_St_length) (cuts := cu_St_length) (G := fun pc ls st σ => none) rfl hX.2 (F := F_St_length _) (fs_St_length hX _) (rt_I rfl) oc_St_length (by
    intro pc ls st σ o h
    cases h) 68 0 _ _ _ _ h
theorem ok_St_length {X : CXT} (hX : XJ X) : SemOK X 2 84 sm_St_length := by
  intro O av σ K o h
  unfold sm_St_length at h
  split at h
  · obtain ⟨r, hf, h⟩ := Option.bind_eq_some_iff.mp h
    exact ⟨ovI r, fun ht => sp_of hX.1 (by decide) (List.mem_range.mpr (by decide)) (by decide +kernel) ht (Nat.le_of_ble_eq_true rfl) (s_St_length hX _ _ _ hf), trivial, h⟩
  · cases h
noncomputable def b_St_isLatin1 (k0 : Nat) (s : Mem) : Option (Bool × Mem) :=
  cif (((1 : Int32)) = 0) (
    some (false, s)) (
    cif (((0 : Int32)) = 0) (
      some (true, s)) (
      some (false, s)))
noncomputable def f_St_isLatin1 : Nat → Mem → Option (Bool × Mem) := Classical.choose (⟨b_St_isLatin1, rfl⟩ : ∃ f : Nat → Mem → Option (Bool × Mem), f = b_St_isLatin1)
theorem f_St_isLatin1_eq : f_St_isLatin1 = b_St_isLatin1 := Classical.choose_spec (⟨b_St_isLatin1, rfl⟩ : ∃ f : Nat → Mem → Option (Bool × Mem), f = b_St_isLatin1)
noncomputable def sm_St_isLatin1 (O : Type) (av : List AV) (σ : Mem) (K : AV → Mem → Option O) : Option O := match av with
  | [.inr (.inr (151, k0))] => (f_St_isLatin1 k0 σ).bind fun r => K (.inl (b2i r.1)) r.2
  | _ => none
def c_St_isLatin1 : List (List CE) := [[(0, .getstatic 38, 3, 0, 1, 1), (3, .ifCond .eq 14, 3, 17, 0, 0), (6, .aload_n 0, 1, 0, 0, 0), (7, .getfield 15, 3, 151, 1, 0), (10, .ifCond .ne 7, 3, 17, 0, 0), (13, .iconst 1, 1, 1, 0, 0), (14, .goto 4, 3, 18, 0, 0)], [(17, .iconst 0, 1, 0, 0, 0), (18, .ireturn, 1, 0, 0, 0)]]
set_option maxRecDepth 100000 in
theorem oc_St_isLatin1 : okC 87 c_St_isLatin1 = true := by decide +kernel
def cu_St_isLatin1 : List (Nat × List Bool) := []
noncomputable def F_St_isLatin1 (O : Type) (a : Nat) (av : List AV) (σ : Mem) (K : AV → Mem → Option O) : Option O := none
theorem fs_St_isLatin1 {X : CXT} (hX : XJ X) (O : Type) : FS X 1 (F_St_isLatin1 O) := by
  intro a av σ K o h
  cases h
set_option maxRecDepth 100000 in
theorem s_St_isLatin1 {X : CXT} (hX : XJ X) : ∀ (k0 : Nat) (s : Mem) (o : Bool × Mem), f_St_isLatin1 k0 s = some o → BSnd X 1 87 (ovZ o) 0 (entL [.inr (.inr (151, k0))]) [] s := by
  intro k0 s o h
  rw [f_St_isLatin1_eq] at h
  exact evC (chs := c_St_isLatin1) (cuts := cu_St_isLatin1) (G := fun pc ls st σ => none) rfl hX.2 (F := F_St_isLatin1 _) (fs_St_isLatin1 hX _) (rt_Z rfl) oc_St_isLatin1 (by
    intro pc ls st σ o h
    cases h) 76 0 _ _ _ _ h
theorem ok_St_isLatin1 {X : CXT} (hX : XJ X) : SemOK X 1 87 sm_St_isLatin1 := by
  intro O av σ K o h
  unfold sm_St_isLatin1 at h
  split at h
  · obtain ⟨r, hf, h⟩ := Option.bind_eq_some_iff.mp h
    exact ⟨ovZ r, fun ht => sp_of hX.1 (by decide) (List.mem_range.mpr (by decide)) (by decide +kernel) ht (Nat.le_of_ble_eq_true rfl) (s_St_isLatin1 hX _ _ _ hf), trivial, h⟩
  · cases h
noncomputable def b_Pr_checkIndex (v0 : Int32) (v1 : Int32) (k2 : Nat) (s : Mem) : Option (Int32 × Mem) :=
  cif (v0 < 0) (
    none) (
    cif (v0 < v1) (
      some (v0, s)) (
      none))
noncomputable def f_Pr_checkIndex : Int32 → Int32 → Nat → Mem → Option (Int32 × Mem) := Classical.choose (⟨b_Pr_checkIndex, rfl⟩ : ∃ f : Int32 → Int32 → Nat → Mem → Option (Int32 × Mem), f = b_Pr_checkIndex)
theorem f_Pr_checkIndex_eq : f_Pr_checkIndex = b_Pr_checkIndex := Classical.choose_spec (⟨b_Pr_checkIndex, rfl⟩ : ∃ f : Int32 → Int32 → Nat → Mem → Option (Int32 × Mem), f = b_Pr_checkIndex)
noncomputable def sm_Pr_checkIndex (O : Type) (av : List AV) (σ : Mem) (K : AV → Mem → Option O) : Option O := match av with
  | [.inl v0, .inl v1, .inr (.inr (153, k2))] => (f_Pr_checkIndex v0 v1 k2 σ).bind fun r => K (.inl r.1) r.2
  | _ => none
def c_Pr_checkIndex : List (List CE) := [[(0, .iload_n 0, 1, 0, 0, 0), (1, .ifCond .lt 8, 3, 9, 0, 0), (4, .iload_n 0, 1, 0, 0, 0), (5, .iload_n 1, 1, 0, 0, 0), (6, .if_icmp .lt 10, 3, 16, 0, 0), (9, .aload_n 2, 1, 0, 0, 0), (10, .iload_n 0, 1, 0, 0, 0), (11, .iload_n 1, 1, 0, 0, 0)], [(16, .iload_n 0, 1, 0, 0, 0), (17, .ireturn, 1, 0, 0, 0)]]
set_option maxRecDepth 100000 in
theorem oc_Pr_checkIndex : okC 90 c_Pr_checkIndex = true := by decide +kernel
def cu_Pr_checkIndex : List (Nat × List Bool) := []
noncomputable def F_Pr_checkIndex (O : Type) (a : Nat) (av : List AV) (σ : Mem) (K : AV → Mem → Option O) : Option O := none
theorem fs_Pr_checkIndex {X : CXT} (hX : XJ X) (O : Type) : FS X 1 (F_Pr_checkIndex O) := by
  intro a av σ K o h
  cases h
set_option maxRecDepth 100000 in
theorem s_Pr_checkIndex {X : CXT} (hX : XJ X) : ∀ (v0 : Int32) (v1 : Int32) (k2 : Nat) (s : Mem) (o : Int32 × Mem), f_Pr_checkIndex v0 v1 k2 s = some o → BSnd X 1 90 (ovI o) 0 (entL [.inl v0, .inl v1, .inr (.inr (153, k2))]) [] s := by
  intro v0 v1 k2 s o h
  rw [f_Pr_checkIndex_eq] at h
  exact evC (chs := c_Pr_checkIndex) (cuts := cu_Pr_checkIndex) (G := fun pc ls st σ => none) rfl hX.2 (F := F_Pr_checkIndex _) (fs_Pr_checkIndex hX _) (rt_I rfl) oc_Pr_checkIndex (by
    intro pc ls st σ o h
    cases h) 88 0 _ _ _ _ h
theorem ok_Pr_checkIndex {X : CXT} (hX : XJ X) : SemOK X 1 90 sm_Pr_checkIndex := by
  intro O av σ K o h
  unfold sm_Pr_checkIndex at h
  split at h
  · obtain ⟨r, hf, h⟩ := Option.bind_eq_some_iff.mp h
    exact ⟨ovI r, fun ht => sp_of hX.1 (by decide) (List.mem_range.mpr (by decide)) (by decide +kernel) ht (Nat.le_of_ble_eq_true rfl) (s_Pr_checkIndex hX _ _ _ _ _ hf), trivial, h⟩
  · cases h
noncomputable def b_St_checkIndex (v0 : Int32) (v1 : Int32) (s : Mem) : Option (Mem) :=
  (f_Pr_checkIndex v0 v1 0 s).bind fun r1 =>
  some r1.2
noncomputable def f_St_checkIndex : Int32 → Int32 → Mem → Option (Mem) := Classical.choose (⟨b_St_checkIndex, rfl⟩ : ∃ f : Int32 → Int32 → Mem → Option (Mem), f = b_St_checkIndex)
theorem f_St_checkIndex_eq : f_St_checkIndex = b_St_checkIndex := Classical.choose_spec (⟨b_St_checkIndex, rfl⟩ : ∃ f : Int32 → Int32 → Mem → Option (Mem), f = b_St_checkIndex)
noncomputable def sm_St_checkIndex (O : Type) (av : List AV) (σ : Mem) (K : AV → Mem → Option O) : Option O := match av with
  | [.inl v0, .inl v1] => (f_St_checkIndex v0 v1 σ).bind fun r => K (.inl 0) r
  | _ => none
def c_St_checkIndex : List (List CE) := [[(0, .iload_n 0, 1, 0, 0, 0), (1, .iload_n 1, 1, 0, 0, 0), (2, .getstatic 1053, 3, 0, 0, 2), (5, .invokestatic 1059, 3, 90, 3, 1), (8, .pop, 1, 0, 0, 0), (9, .return_, 1, 0, 0, 0)]]
set_option maxRecDepth 100000 in
theorem oc_St_checkIndex : okC 89 c_St_checkIndex = true := by decide +kernel
def cu_St_checkIndex : List (Nat × List Bool) := []
noncomputable def F_St_checkIndex (O : Type) (a : Nat) (av : List AV) (σ : Mem) (K : AV → Mem → Option O) : Option O := if a = 90 then sm_Pr_checkIndex O av σ K else none
theorem fs_St_checkIndex {X : CXT} (hX : XJ X) (O : Type) : FS X 2 (F_St_checkIndex O) := by
  intro a av σ K o h
  unfold F_St_checkIndex at h
  rcases ite_s h with ⟨rfl, h⟩ | ⟨_, h⟩
  · obtain ⟨r, h1, h2, h3⟩ := ok_Pr_checkIndex hX _ _ _ _ _ h
    exact ⟨r, fun ht => ⟨1, by decide, h1 ht⟩, h2, h3⟩
  cases h
set_option maxRecDepth 100000 in
theorem s_St_checkIndex {X : CXT} (hX : XJ X) : ∀ (v0 : Int32) (v1 : Int32) (s : Mem) (o : Mem), f_St_checkIndex v0 v1 s = some o → BSnd X 2 89 (ovV o) 0 (entL [.inl v0, .inl v1]) [] s := by
  intro v0 v1 s o h
  rw [f_St_checkIndex_eq] at h
  exact evC (chs := c_St_checkIndex) (cuts := cu_St_checkIndex) (G := fun pc ls st σ => none) rfl hX.2 (F := F_St_checkIndex _) (fs_St_checkIndex hX _) (rt_V rfl) oc_St_checkIndex (by
    intro pc ls st σ o h
    cases h) 64 0 _ _ _ _ h
theorem ok_St_checkIndex {X : CXT} (hX : XJ X) : SemOK X 2 89 sm_St_checkIndex := by
  intro O av σ K o h
  unfold sm_St_checkIndex at h
  split at h
  · obtain ⟨r, hf, h⟩ := Option.bind_eq_some_iff.mp h
    exact ⟨ovV r, fun ht => sp_of hX.1 (by decide) (List.mem_range.mpr (by decide)) (by decide +kernel) ht (Nat.le_of_ble_eq_true rfl) (s_St_checkIndex hX _ _ _ _ hf), trivial, h⟩
  · cases h
noncomputable def b_Sl_charAt (k0 : Nat) (v1 : Int32) (s : Mem) : Option (Int32 × Mem) :=
  (f_St_checkIndex v1 (Int32.ofNat (ext0 (k0 + 1000)).1) s).bind fun r1 =>
  gd (inb v1 (ext0 (k0 + 1000)).1) <|
  lf (rN .char (((((ext0 (k0 + 1000)).2 (ix v1)) &&& ((255 : Int32))).toUInt32 % 65536).toInt32)) r1
noncomputable def f_Sl_charAt : Nat → Int32 → Mem → Option (Int32 × Mem) := Classical.choose (⟨b_Sl_charAt, rfl⟩ : ∃ f : Nat → Int32 → Mem → Option (Int32 × Mem), f = b_Sl_charAt)
theorem f_Sl_charAt_eq : f_Sl_charAt = b_Sl_charAt := Classical.choose_spec (⟨b_Sl_charAt, rfl⟩ : ∃ f : Nat → Int32 → Mem → Option (Int32 × Mem), f = b_Sl_charAt)
noncomputable def sm_Sl_charAt (O : Type) (av : List AV) (σ : Mem) (K : AV → Mem → Option O) : Option O := match av with
  | [.inr (.inr (152, k0)), .inl v1] => (f_Sl_charAt k0 v1 σ).bind fun r => K (.inl r.1) r.2
  | _ => none
def c_Sl_charAt : List (List CE) := [[(0, .iload_n 1, 1, 0, 0, 0), (1, .aload_n 0, 1, 0, 0, 0), (2, .arraylength, 1, 0, 0, 0), (3, .invokestatic 9, 3, 89, 2, 0), (6, .aload_n 0, 1, 0, 0, 0), (7, .iload_n 1, 1, 0, 0, 0), (8, .baload, 1, 0, 0, 0), (9, .sipush 255, 3, 255, 0, 0), (12, .iand, 1, 0, 0, 0), (13, .i2c, 1, 0, 0, 0), (14, .ireturn, 1, 0, 0, 0)]]
set_option maxRecDepth 100000 in
theorem oc_Sl_charAt : okC 88 c_Sl_charAt = true := by decide +kernel
def cu_Sl_charAt : List (Nat × List Bool) := []
noncomputable def F_Sl_charAt (O : Type) (a : Nat) (av : List AV) (σ : Mem) (K : AV → Mem → Option O) : Option O := if a = 89 then sm_St_checkIndex O av σ K else none
theorem fs_Sl_charAt {X : CXT} (hX : XJ X) (O : Type) : FS X 3 (F_Sl_charAt O) := by
  intro a av σ K o h
  unfold F_Sl_charAt at h
  rcases ite_s h with ⟨rfl, h⟩ | ⟨_, h⟩
  · obtain ⟨r, h1, h2, h3⟩ := ok_St_checkIndex hX _ _ _ _ _ h
    exact ⟨r, fun ht => ⟨2, by decide, h1 ht⟩, h2, h3⟩
  cases h
set_option maxRecDepth 100000 in
theorem s_Sl_charAt {X : CXT} (hX : XJ X) : ∀ (k0 : Nat) (v1 : Int32) (s : Mem) (o : Int32 × Mem), f_Sl_charAt k0 v1 s = some o → BSnd X 3 88 (ovI o) 0 (entL [.inr (.inr (152, k0)), .inl v1]) [] s := by
  intro k0 v1 s o h
  rw [f_Sl_charAt_eq] at h
  exact evC (chs := c_Sl_charAt) (cuts := cu_Sl_charAt) (G := fun pc ls st σ => none) rfl hX.2 (F := F_Sl_charAt _) (fs_Sl_charAt hX _) (rt_N (ty := .char) rfl (fun x h => by have e : narrow .char (.int x) = .int (vp_nar .char x) := rfl; rw [h] at e; exact e)) oc_Sl_charAt (by
    intro pc ls st σ o h
    cases h) 84 0 _ _ _ _ h
theorem ok_Sl_charAt {X : CXT} (hX : XJ X) : SemOK X 3 88 sm_Sl_charAt := by
  intro O av σ K o h
  unfold sm_Sl_charAt at h
  split at h
  · obtain ⟨r, hf, h⟩ := Option.bind_eq_some_iff.mp h
    exact ⟨ovI r, fun ht => sp_of hX.1 (by decide) (List.mem_range.mpr (by decide)) (by decide +kernel) ht (Nat.le_of_ble_eq_true rfl) (s_Sl_charAt hX _ _ _ _ hf), trivial, h⟩
  · cases h
noncomputable def b_St_charAt (k0 : Nat) (v1 : Int32) (s : Mem) : Option (Int32 × Mem) :=
  (f_St_isLatin1 k0 s).bind fun r1 =>
  cif ((b2i r1.1) = 0) (
    none) (
    (f_Sl_charAt k0 v1 r1.2).bind fun r2 =>
    lf (rN .char r2.1) r2.2)
noncomputable def f_St_charAt : Nat → Int32 → Mem → Option (Int32 × Mem) := Classical.choose (⟨b_St_charAt, rfl⟩ : ∃ f : Nat → Int32 → Mem → Option (Int32 × Mem), f = b_St_charAt)
theorem f_St_charAt_eq : f_St_charAt = b_St_charAt := Classical.choose_spec (⟨b_St_charAt, rfl⟩ : ∃ f : Nat → Int32 → Mem → Option (Int32 × Mem), f = b_St_charAt)
noncomputable def sm_St_charAt (O : Type) (av : List AV) (σ : Mem) (K : AV → Mem → Option O) : Option O := match av with
  | [.inr (.inr (151, k0)), .inl v1] => (f_St_charAt k0 v1 σ).bind fun r => K (.inl r.1) r.2
  | _ => none
def c_St_charAt : List (List CE) := [[(0, .aload_n 0, 1, 0, 0, 0), (1, .invokevirtual 492, 3, 87, 1, 303), (4, .ifCond .eq 12, 3, 16, 0, 0), (7, .aload_n 0, 1, 0, 0, 0), (8, .getfield 9, 3, 151, 0, 0), (11, .iload_n 1, 1, 0, 0, 0), (12, .invokestatic 495, 3, 88, 2, 1), (15, .ireturn, 1, 0, 0, 0)], [(16, .aload_n 0, 1, 0, 0, 0), (17, .getfield 9, 3, 151, 0, 0), (20, .iload_n 1, 1, 0, 0, 0)]]
set_option maxRecDepth 100000 in
theorem oc_St_charAt : okC 86 c_St_charAt = true := by decide +kernel
def cu_St_charAt : List (Nat × List Bool) := []
noncomputable def F_St_charAt (O : Type) (a : Nat) (av : List AV) (σ : Mem) (K : AV → Mem → Option O) : Option O := if a = 87 then sm_St_isLatin1 O av σ K else if a = 88 then sm_Sl_charAt O av σ K else none
theorem fs_St_charAt {X : CXT} (hX : XJ X) (O : Type) : FS X 4 (F_St_charAt O) := by
  intro a av σ K o h
  unfold F_St_charAt at h
  rcases ite_s h with ⟨rfl, h⟩ | ⟨_, h⟩
  · obtain ⟨r, h1, h2, h3⟩ := ok_St_isLatin1 hX _ _ _ _ _ h
    exact ⟨r, fun ht => ⟨1, by decide, h1 ht⟩, h2, h3⟩
  rcases ite_s h with ⟨rfl, h⟩ | ⟨_, h⟩
  · obtain ⟨r, h1, h2, h3⟩ := ok_Sl_charAt hX _ _ _ _ _ h
    exact ⟨r, fun ht => ⟨3, by decide, h1 ht⟩, h2, h3⟩
  cases h
set_option maxRecDepth 100000 in
theorem s_St_charAt {X : CXT} (hX : XJ X) : ∀ (k0 : Nat) (v1 : Int32) (s : Mem) (o : Int32 × Mem), f_St_charAt k0 v1 s = some o → BSnd X 4 86 (ovI o) 0 (entL [.inr (.inr (151, k0)), .inl v1]) [] s := by
  intro k0 v1 s o h
  rw [f_St_charAt_eq] at h
  exact evC (chs := c_St_charAt) (cuts := cu_St_charAt) (G := fun pc ls st σ => none) rfl hX.2 (F := F_St_charAt _) (fs_St_charAt hX _) (rt_N (ty := .char) rfl (fun x h => by have e : narrow .char (.int x) = .int (vp_nar .char x) := rfl; rw [h] at e; exact e)) oc_St_charAt (by
    intro pc ls st σ o h
    cases h) 92 0 _ _ _ _ h
theorem ok_St_charAt {X : CXT} (hX : XJ X) : SemOK X 4 86 sm_St_charAt := by
  intro O av σ K o h
  unfold sm_St_charAt at h
  split at h
  · obtain ⟨r, hf, h⟩ := Option.bind_eq_some_iff.mp h
    exact ⟨ovI r, fun ht => sp_of hX.1 (by decide) (List.mem_range.mpr (by decide)) (by decide +kernel) ht (Nat.le_of_ble_eq_true rfl) (s_St_charAt hX _ _ _ _ hf), trivial, h⟩
  · cases h
noncomputable def f_Re_isSame_15 : Nat → Nat → Int32 → Int32 → Int32 → Int32 → Mem → Option (Bool × Mem)
  | 0, _, _, _, _, _, _ => none
  | n + 1, k0, v1, v3, v4, v5, s =>
    cif ((v4 - v3) ≤ v5) (
      some (true, s)) (
      (f_St_charAt 17 (v1 + v5) s).bind fun r1 =>
      (f_Re_byteAt k0 (v3 + v5) r1.2).bind fun r2 =>
      cif (r1.1 = r2.1) (
        f_Re_isSame_15 n k0 v1 v3 v4 (v5 + (1 : Int32)) r2.2) (
        some (false, r2.2)))
noncomputable def b_Re_isSame (k0 : Nat) (v1 : Int32) (v2 : Int32) (v3 : Int32) (v4 : Int32) (s : Mem) : Option (Bool × Mem) :=
  cif ((v2 - v1) = (v4 - v3)) (
    f_Re_isSame_15 FU k0 v1 v3 v4 ((0 : Int32)) s) (
    some (false, s))
noncomputable def f_Re_isSame : Nat → Int32 → Int32 → Int32 → Int32 → Mem → Option (Bool × Mem) := Classical.choose (⟨b_Re_isSame, rfl⟩ : ∃ f : Nat → Int32 → Int32 → Int32 → Int32 → Mem → Option (Bool × Mem), f = b_Re_isSame)
theorem f_Re_isSame_eq : f_Re_isSame = b_Re_isSame := Classical.choose_spec (⟨b_Re_isSame, rfl⟩ : ∃ f : Nat → Int32 → Int32 → Int32 → Int32 → Mem → Option (Bool × Mem), f = b_Re_isSame)
noncomputable def sm_Re_isSame (O : Type) (av : List AV) (σ : Mem) (K : AV → Mem → Option O) : Option O := match av with
  | [.inr (.inr (5, k0)), .inl v1, .inl v2, .inl v3, .inl v4] => (f_Re_isSame k0 v1 v2 v3 v4 σ).bind fun r => K (.inl (b2i r.1)) r.2
  | _ => none
def c_Re_isSame : List (List CE) := [[(0, .iload_n 2, 1, 0, 0, 0), (1, .iload_n 1, 1, 0, 0, 0), (2, .isub, 1, 0, 0, 0), (3, .iload 4, 2, 0, 0, 0), (5, .iload_n 3, 1, 0, 0, 0), (6, .isub, 1, 0, 0, 0), (7, .if_icmp .eq 5, 3, 12, 0, 0), (10, .iconst 0, 1, 0, 0, 0), (11, .ireturn, 1, 0, 0, 0), (12, .iconst 0, 1, 0, 0, 0), (13, .istore 5, 2, 0, 0, 0), (15, .iload 5, 2, 0, 0, 0)], [(17, .iload 4, 2, 0, 0, 0), (19, .iload_n 3, 1, 0, 0, 0), (20, .isub, 1, 0, 0, 0), (21, .if_icmp .ge 31, 3, 52, 0, 0), (24, .ldc 103, 2, 17, 0, 1), (26, .iload_n 1, 1, 0, 0, 0), (27, .iload 5, 2, 0, 0, 0), (29, .iadd, 1, 0, 0, 0), (30, .invokevirtual 108, 3, 86, 2, 303)], [(33, .aload_n 0, 1, 0, 0, 0), (34, .iload_n 3, 1, 0, 0, 0), (35, .iload 5, 2, 0, 0, 0), (37, .iadd, 1, 0, 0, 0), (38, .invokevirtual 71, 3, 78, 2, 11), (41, .if_icmp .eq 5, 3, 46, 0, 0), (44, .iconst 0, 1, 0, 0, 0), (45, .ireturn, 1, 0, 0, 0), (46, .iinc 5 1, 3, 1, 0, 0)], [(49, .goto (-34), 3, 15, 0, 0), (52, .iconst 1, 1, 1, 0, 0), (53, .ireturn, 1, 0, 0, 0)]]
set_option maxRecDepth 100000 in
theorem oc_Re_isSame : okC 95 c_Re_isSame = true := by decide +kernel
def cu_Re_isSame : List (Nat × List Bool) := [(15, [true, true, false, true, true, true])]
noncomputable def F_Re_isSame (O : Type) (a : Nat) (av : List AV) (σ : Mem) (K : AV → Mem → Option O) : Option O := if a = 78 then sm_Re_byteAt O av σ K else if a = 86 then sm_St_charAt O av σ K else none
theorem fs_Re_isSame {X : CXT} (hX : XC X) (O : Type) : FS X 5 (F_Re_isSame O) := by
  intro a av σ K o h
  unfold F_Re_isSame at h
  rcases ite_s h with ⟨rfl, h⟩ | ⟨_, h⟩
  · obtain ⟨r, h1, h2, h3⟩ := ok_Re_byteAt hX _ _ _ _ _ h
    exact ⟨r, fun ht => ⟨2, by decide, h1 ht⟩, h2, h3⟩
  rcases ite_s h with ⟨rfl, h⟩ | ⟨_, h⟩
  · obtain ⟨r, h1, h2, h3⟩ := ok_St_charAt hX.j _ _ _ _ _ h
    exact ⟨r, fun ht => ⟨4, by decide, h1 ht⟩, h2, h3⟩
  cases h
def hd_Re_isSame_15 {O : Type} (g : Nat → Int32 → Int32 → Int32 → Int32 → Mem → Option O) (ls : OL) (st : List AV) (σ : Mem) : Option O := match ls, st with
  | [some (.inr (.inr (5, k0))), some (.inl v1), none, some (.inl v3), some (.inl v4), some (.inl v5)], [] => g k0 v1 v3 v4 v5 σ
  | _, _ => none
theorem hs_Re_isSame_15 {X : CXT} {g : Nat → Int32 → Int32 → Int32 → Int32 → Mem → Option (Bool × Mem)} (hg : ∀ (k0 : Nat) (v1 : Int32) (v3 : Int32) (v4 : Int32) (v5 : Int32) (s : Mem) (o : Bool × Mem), g k0 v1 v3 v4 v5 s = some o → BSnd X 5 95 (ovZ o) 15 [some (.inr (.inr (5, k0))), some (.inl v1), none, some (.inl v3), some (.inl v4), some (.inl v5)] [] s) : ∀ ls st σ o, hd_Re_isSame_15 g ls st σ = some o → BSnd X 5 95 (ovZ o) 15 ls st σ := by
  intro ls st σ o h
  unfold hd_Re_isSame_15 at h
  split at h
  · exact hg _ _ _ _ _ _ _ h
  · cases h
set_option maxRecDepth 100000 in
theorem s_Re_isSame_15 {X : CXT} (hX : XC X) : ∀ n : Nat, ∀ (k0 : Nat) (v1 : Int32) (v3 : Int32) (v4 : Int32) (v5 : Int32) (s : Mem) (o : Bool × Mem), f_Re_isSame_15 n k0 v1 v3 v4 v5 s = some o → BSnd X 5 95 (ovZ o) 15 [some (.inr (.inr (5, k0))), some (.inl v1), none, some (.inl v3), some (.inl v4), some (.inl v5)] [] s := by
  intro n
  induction n with
  | zero => intro k0 v1 v3 v4 v5 s o h; cases h
  | succ n ih =>
    intro k0 v1 v3 v4 v5 s o h
    exact evC (chs := c_Re_isSame) (cuts := cu_Re_isSame) (G := fun pc ls st σ => if pc = 15 then hd_Re_isSame_15 (fun k0 v1 v3 v4 v5 s => f_Re_isSame_15 n k0 v1 v3 v4 v5 s) ls st σ else none) hX.2.1 hX.2.2 (F := F_Re_isSame _) (fs_Re_isSame hX _) (rt_Z rfl) oc_Re_isSame (by
    intro pc ls st σ o h
    rcases ite_s h with ⟨rfl, h⟩ | ⟨_, h⟩
    · exact hs_Re_isSame_15 ih _ _ _ _ h
    cases h) 172 15 _ _ _ _ h
set_option maxRecDepth 100000 in
theorem s_Re_isSame {X : CXT} (hX : XC X) : ∀ (k0 : Nat) (v1 : Int32) (v2 : Int32) (v3 : Int32) (v4 : Int32) (s : Mem) (o : Bool × Mem), f_Re_isSame k0 v1 v2 v3 v4 s = some o → BSnd X 5 95 (ovZ o) 0 (entL [.inr (.inr (5, k0)), .inl v1, .inl v2, .inl v3, .inl v4]) [] s := by
  intro k0 v1 v2 v3 v4 s o h
  rw [f_Re_isSame_eq] at h
  exact evC (chs := c_Re_isSame) (cuts := cu_Re_isSame) (G := fun pc ls st σ => if pc = 15 then hd_Re_isSame_15 (fun k0 v1 v3 v4 v5 s => f_Re_isSame_15 FU k0 v1 v3 v4 v5 s) ls st σ else none) hX.2.1 hX.2.2 (F := F_Re_isSame _) (fs_Re_isSame hX _) (rt_Z rfl) oc_Re_isSame (by
    intro pc ls st σ o h
    rcases ite_s h with ⟨rfl, h⟩ | ⟨_, h⟩
    · exact hs_Re_isSame_15 (s_Re_isSame_15 hX FU) _ _ _ _ h
    cases h) 172 0 _ _ _ _ h
theorem ok_Re_isSame {X : CXT} (hX : XC X) : SemOK X 5 95 sm_Re_isSame := by
  intro O av σ K o h
  unfold sm_Re_isSame at h
  split at h
  · obtain ⟨r, hf, h⟩ := Option.bind_eq_some_iff.mp h
    exact ⟨ovZ r, fun ht => sp_of hX.1 (by decide) (List.mem_range.mpr (by decide)) (by decide +kernel) ht (Nat.le_of_ble_eq_true rfl) (s_Re_isSame hX _ _ _ _ _ _ _ hf), trivial, h⟩
  · cases h
noncomputable def f_Re_keyword_40 (KH : Nat → Int32 → Int32 → Int32 → Int32 → Int32 → Mem → Option (Int32 × Mem)) (k0 : Nat) (v1 : Int32) (v2 : Int32) (v3 : Int32) (v4 : Int32) (v5 : Int32) (s : Mem) : Option (Int32 × Mem) :=
  (f_Re_isSame k0 v4 v5 v1 v2 s).bind fun r1 =>
  cif ((b2i r1.1) = 0) (
    let x2 : Int32 := v5 + ((1 : Int32))
    KH k0 v1 v2 (v3 + (1 : Int32)) x2 (v5 + (1 : Int32)) r1.2) (
    some (((1000 : Int32)) + v3, r1.2))
noncomputable def f_Re_keyword_8 : Nat → Nat → Int32 → Int32 → Int32 → Int32 → Int32 → Mem → Option (Int32 × Mem)
  | 0, _, _, _, _, _, _, _ => none
  | n + 1, k0, v1, v2, v3, v4, v5, s =>
    (f_St_length 17 s).bind fun r1 =>
    cif (r1.1 < v5) (
      some ((257 : Int32), r1.2)) (
      (f_St_length 17 r1.2).bind fun r2 =>
      cif (v5 = r2.1) (
        f_Re_keyword_40 (fun k0 v1 v2 v3 v4 v5 s => f_Re_keyword_8 n k0 v1 v2 v3 v4 v5 s) k0 v1 v2 v3 v4 v5 r2.2) (
        (f_St_charAt 17 v5 r2.2).bind fun r3 =>
        cif (r3.1 = ((32 : Int32))) (
          f_Re_keyword_40 (fun k0 v1 v2 v3 v4 v5 s => f_Re_keyword_8 n k0 v1 v2 v3 v4 v5 s) k0 v1 v2 v3 v4 v5 r3.2) (
          f_Re_keyword_8 n k0 v1 v2 v3 v4 (v5 + (1 : Int32)) r3.2)))
noncomputable def b_Re_keyword (k0 : Nat) (v1 : Int32) (v2 : Int32) (s : Mem) : Option (Int32 × Mem) :=
  f_Re_keyword_8 FU k0 v1 v2 ((0 : Int32)) ((0 : Int32)) ((0 : Int32)) s
noncomputable def f_Re_keyword : Nat → Int32 → Int32 → Mem → Option (Int32 × Mem) := Classical.choose (⟨b_Re_keyword, rfl⟩ : ∃ f : Nat → Int32 → Int32 → Mem → Option (Int32 × Mem), f = b_Re_keyword)
theorem f_Re_keyword_eq : f_Re_keyword = b_Re_keyword := Classical.choose_spec (⟨b_Re_keyword, rfl⟩ : ∃ f : Nat → Int32 → Int32 → Mem → Option (Int32 × Mem), f = b_Re_keyword)
noncomputable def sm_Re_keyword (O : Type) (av : List AV) (σ : Mem) (K : AV → Mem → Option O) : Option O := match av with
  | [.inr (.inr (5, k0)), .inl v1, .inl v2] => (f_Re_keyword k0 v1 v2 σ).bind fun r => K (.inl r.1) r.2
  | _ => none
def c_Re_keyword : List (List CE) := [[(0, .iconst 0, 1, 0, 0, 0), (1, .istore_n 3, 1, 0, 0, 0), (2, .iconst 0, 1, 0, 0, 0), (3, .istore 4, 2, 0, 0, 0), (5, .iconst 0, 1, 0, 0, 0), (6, .istore 5, 2, 0, 0, 0), (8, .iload 5, 2, 0, 0, 0), (10, .ldc 103, 2, 17, 0, 1), (12, .invokevirtual 105, 3, 84, 1, 303), (15, .if_icmp .gt 59, 3, 74, 0, 0)], [(18, .iload 5, 2, 0, 0, 0), (20, .ldc 103, 2, 17, 0, 1), (22, .invokevirtual 105, 3, 84, 1, 303), (25, .if_icmp .eq 15, 3, 40, 0, 0), (28, .ldc 103, 2, 17, 0, 1), (30, .iload 5, 2, 0, 0, 0)], [(32, .invokevirtual 108, 3, 86, 2, 303), (35, .bipush 32, 2, 32, 0, 0), (37, .if_icmp .ne 31, 3, 68, 0, 0), (40, .aload_n 0, 1, 0, 0, 0), (41, .iload 4, 2, 0, 0, 0), (43, .iload 5, 2, 0, 0, 0), (45, .iload_n 1, 1, 0, 0, 0), (46, .iload_n 2, 1, 0, 0, 0), (47, .invokevirtual 111, 3, 95, 5, 11)], [(50, .ifCond .eq 9, 3, 59, 0, 0), (53, .sipush 1000, 3, 1000, 0, 0), (56, .iload_n 3, 1, 0, 0, 0), (57, .iadd, 1, 0, 0, 0), (58, .ireturn, 1, 0, 0, 0), (59, .iinc 3 1, 3, 1, 0, 0), (62, .iload 5, 2, 0, 0, 0)], [(64, .iconst 1, 1, 1, 0, 0), (65, .iadd, 1, 0, 0, 0), (66, .istore 4, 2, 0, 0, 0), (68, .iinc 5 1, 3, 1, 0, 0), (71, .goto (-63), 3, 8, 0, 0), (74, .sipush 257, 3, 257, 0, 0), (77, .ireturn, 1, 0, 0, 0)]]
set_option maxRecDepth 100000 in
theorem oc_Re_keyword : okC 83 c_Re_keyword = true := by decide +kernel
def cu_Re_keyword : List (Nat × List Bool) := [(40, [true, true, true, true, true, true]), (8, [true, true, true, true, true, true])]
noncomputable def F_Re_keyword (O : Type) (a : Nat) (av : List AV) (σ : Mem) (K : AV → Mem → Option O) : Option O := if a = 84 then sm_St_length O av σ K else if a = 86 then sm_St_charAt O av σ K else if a = 95 then sm_Re_isSame O av σ K else none
theorem fs_Re_keyword {X : CXT} (hX : XC X) (O : Type) : FS X 6 (F_Re_keyword O) := by
  intro a av σ K o h
  unfold F_Re_keyword at h
  rcases ite_s h with ⟨rfl, h⟩ | ⟨_, h⟩
  · obtain ⟨r, h1, h2, h3⟩ := ok_St_length hX.j _ _ _ _ _ h
    exact ⟨r, fun ht => ⟨2, by decide, h1 ht⟩, h2, h3⟩
  rcases ite_s h with ⟨rfl, h⟩ | ⟨_, h⟩
  · obtain ⟨r, h1, h2, h3⟩ := ok_St_charAt hX.j _ _ _ _ _ h
    exact ⟨r, fun ht => ⟨4, by decide, h1 ht⟩, h2, h3⟩
  rcases ite_s h with ⟨rfl, h⟩ | ⟨_, h⟩
  · obtain ⟨r, h1, h2, h3⟩ := ok_Re_isSame hX _ _ _ _ _ h
    exact ⟨r, fun ht => ⟨5, by decide, h1 ht⟩, h2, h3⟩
  cases h
def hd_Re_keyword_40 {O : Type} (g : Nat → Int32 → Int32 → Int32 → Int32 → Int32 → Mem → Option O) (ls : OL) (st : List AV) (σ : Mem) : Option O := match ls, st with
  | [some (.inr (.inr (5, k0))), some (.inl v1), some (.inl v2), some (.inl v3), some (.inl v4), some (.inl v5)], [] => g k0 v1 v2 v3 v4 v5 σ
  | _, _ => none
theorem hs_Re_keyword_40 {X : CXT} {g : Nat → Int32 → Int32 → Int32 → Int32 → Int32 → Mem → Option (Int32 × Mem)} (hg : ∀ (k0 : Nat) (v1 : Int32) (v2 : Int32) (v3 : Int32) (v4 : Int32) (v5 : Int32) (s : Mem) (o : Int32 × Mem), g k0 v1 v2 v3 v4 v5 s = some o → BSnd X 6 83 (ovI o) 40 [some (.inr (.inr (5, k0))), some (.inl v1), some (.inl v2), some (.inl v3), some (.inl v4), some (.inl v5)] [] s) : ∀ ls st σ o, hd_Re_keyword_40 g ls st σ = some o → BSnd X 6 83 (ovI o) 40 ls st σ := by
  intro ls st σ o h
  unfold hd_Re_keyword_40 at h
  split at h
  · exact hg _ _ _ _ _ _ _ _ h
  · cases h
def hd_Re_keyword_8 {O : Type} (g : Nat → Int32 → Int32 → Int32 → Int32 → Int32 → Mem → Option O) (ls : OL) (st : List AV) (σ : Mem) : Option O := match ls, st with
  | [some (.inr (.inr (5, k0))), some (.inl v1), some (.inl v2), some (.inl v3), some (.inl v4), some (.inl v5)], [] => g k0 v1 v2 v3 v4 v5 σ
  | _, _ => none
theorem hs_Re_keyword_8 {X : CXT} {g : Nat → Int32 → Int32 → Int32 → Int32 → Int32 → Mem → Option (Int32 × Mem)} (hg : ∀ (k0 : Nat) (v1 : Int32) (v2 : Int32) (v3 : Int32) (v4 : Int32) (v5 : Int32) (s : Mem) (o : Int32 × Mem), g k0 v1 v2 v3 v4 v5 s = some o → BSnd X 6 83 (ovI o) 8 [some (.inr (.inr (5, k0))), some (.inl v1), some (.inl v2), some (.inl v3), some (.inl v4), some (.inl v5)] [] s) : ∀ ls st σ o, hd_Re_keyword_8 g ls st σ = some o → BSnd X 6 83 (ovI o) 8 ls st σ := by
  intro ls st σ o h
  unfold hd_Re_keyword_8 at h
  split at h
  · exact hg _ _ _ _ _ _ _ _ h
  · cases h
set_option maxRecDepth 100000 in
theorem s_Re_keyword_40 {X : CXT} (hX : XC X) {KH : Nat → Int32 → Int32 → Int32 → Int32 → Int32 → Mem → Option (Int32 × Mem)} (hKH : ∀ (k0 : Nat) (v1 : Int32) (v2 : Int32) (v3 : Int32) (v4 : Int32) (v5 : Int32) (s : Mem) (o : Int32 × Mem), KH k0 v1 v2 v3 v4 v5 s = some o → BSnd X 6 83 (ovI o) 8 [some (.inr (.inr (5, k0))), some (.inl v1), some (.inl v2), some (.inl v3), some (.inl v4), some (.inl v5)] [] s) : ∀ (k0 : Nat) (v1 : Int32) (v2 : Int32) (v3 : Int32) (v4 : Int32) (v5 : Int32) (s : Mem) (o : Int32 × Mem), f_Re_keyword_40 KH k0 v1 v2 v3 v4 v5 s = some o → BSnd X 6 83 (ovI o) 40 [some (.inr (.inr (5, k0))), some (.inl v1), some (.inl v2), some (.inl v3), some (.inl v4), some (.inl v5)] [] s := by
  intro k0 v1 v2 v3 v4 v5 s o h
  exact evC (chs := c_Re_keyword) (cuts := cu_Re_keyword) (G := fun pc ls st σ => if pc = 8 then hd_Re_keyword_8 (fun k0 v1 v2 v3 v4 v5 s => KH k0 v1 v2 v3 v4 v5 s) ls st σ else none) hX.2.1 hX.2.2 (F := F_Re_keyword _) (fs_Re_keyword hX _) (rt_I rfl) oc_Re_keyword (by
    intro pc ls st σ o h
    rcases ite_s h with ⟨rfl, h⟩ | ⟨_, h⟩
    · exact hs_Re_keyword_8 hKH _ _ _ _ h
    cases h) 196 40 _ _ _ _ h
set_option maxRecDepth 100000 in
theorem s_Re_keyword_8 {X : CXT} (hX : XC X) : ∀ n : Nat, ∀ (k0 : Nat) (v1 : Int32) (v2 : Int32) (v3 : Int32) (v4 : Int32) (v5 : Int32) (s : Mem) (o : Int32 × Mem), f_Re_keyword_8 n k0 v1 v2 v3 v4 v5 s = some o → BSnd X 6 83 (ovI o) 8 [some (.inr (.inr (5, k0))), some (.inl v1), some (.inl v2), some (.inl v3), some (.inl v4), some (.inl v5)] [] s := by
  intro n
  induction n with
  | zero => intro k0 v1 v2 v3 v4 v5 s o h; cases h
  | succ n ih =>
    intro k0 v1 v2 v3 v4 v5 s o h
    exact evC (chs := c_Re_keyword) (cuts := cu_Re_keyword) (G := fun pc ls st σ => if pc = 40 then hd_Re_keyword_40 (fun k0 v1 v2 v3 v4 v5 s => f_Re_keyword_40 (fun k0 v1 v2 v3 v4 v5 s => f_Re_keyword_8 n k0 v1 v2 v3 v4 v5 s) k0 v1 v2 v3 v4 v5 s) ls st σ else if pc = 8 then hd_Re_keyword_8 (fun k0 v1 v2 v3 v4 v5 s => f_Re_keyword_8 n k0 v1 v2 v3 v4 v5 s) ls st σ else none) hX.2.1 hX.2.2 (F := F_Re_keyword _) (fs_Re_keyword hX _) (rt_I rfl) oc_Re_keyword (by
    intro pc ls st σ o h
    rcases ite_s h with ⟨rfl, h⟩ | ⟨_, h⟩
    · exact hs_Re_keyword_40 (s_Re_keyword_40 hX ih) _ _ _ _ h
    rcases ite_s h with ⟨rfl, h⟩ | ⟨_, h⟩
    · exact hs_Re_keyword_8 ih _ _ _ _ h
    cases h) 196 8 _ _ _ _ h
set_option maxRecDepth 100000 in
theorem s_Re_keyword {X : CXT} (hX : XC X) : ∀ (k0 : Nat) (v1 : Int32) (v2 : Int32) (s : Mem) (o : Int32 × Mem), f_Re_keyword k0 v1 v2 s = some o → BSnd X 6 83 (ovI o) 0 (entL [.inr (.inr (5, k0)), .inl v1, .inl v2]) [] s := by
  intro k0 v1 v2 s o h
  rw [f_Re_keyword_eq] at h
  exact evC (chs := c_Re_keyword) (cuts := cu_Re_keyword) (G := fun pc ls st σ => if pc = 8 then hd_Re_keyword_8 (fun k0 v1 v2 v3 v4 v5 s => f_Re_keyword_8 FU k0 v1 v2 v3 v4 v5 s) ls st σ else none) hX.2.1 hX.2.2 (F := F_Re_keyword _) (fs_Re_keyword hX _) (rt_I rfl) oc_Re_keyword (by
    intro pc ls st σ o h
    rcases ite_s h with ⟨rfl, h⟩ | ⟨_, h⟩
    · exact hs_Re_keyword_8 (s_Re_keyword_8 hX FU) _ _ _ _ h
    cases h) 196 0 _ _ _ _ h
theorem ok_Re_keyword {X : CXT} (hX : XC X) : SemOK X 6 83 sm_Re_keyword := by
  intro O av σ K o h
  unfold sm_Re_keyword at h
  split at h
  · obtain ⟨r, hf, h⟩ := Option.bind_eq_some_iff.mp h
    exact ⟨ovI r, fun ht => sp_of hX.1 (by decide) (List.mem_range.mpr (by decide)) (by decide +kernel) ht (Nat.le_of_ble_eq_true rfl) (s_Re_keyword hX _ _ _ _ _ hf), trivial, h⟩
  · cases h
noncomputable def f_Re_number_5 : Nat → Nat → Int32 → Int32 → Int32 → Mem → Option (Int32 × Mem)
  | 0, _, _, _, _, _ => none
  | n + 1, k0, v2, v3, v4, s =>
    cif (v2 ≤ v4) (
      some (v3, s)) (
      (f_Re_byteAt k0 v4 s).bind fun r1 =>
      let x2 : Int32 := ((((10 : Int32)) * v3) + r1.1) - ((48 : Int32))
      f_Re_number_5 n k0 v2 x2 (v4 + (1 : Int32)) r1.2)
noncomputable def b_Re_number (k0 : Nat) (v1 : Int32) (v2 : Int32) (s : Mem) : Option (Int32 × Mem) :=
  f_Re_number_5 FU k0 v2 ((0 : Int32)) v1 s
noncomputable def f_Re_number : Nat → Int32 → Int32 → Mem → Option (Int32 × Mem) := Classical.choose (⟨b_Re_number, rfl⟩ : ∃ f : Nat → Int32 → Int32 → Mem → Option (Int32 × Mem), f = b_Re_number)
theorem f_Re_number_eq : f_Re_number = b_Re_number := Classical.choose_spec (⟨b_Re_number, rfl⟩ : ∃ f : Nat → Int32 → Int32 → Mem → Option (Int32 × Mem), f = b_Re_number)
noncomputable def sm_Re_number (O : Type) (av : List AV) (σ : Mem) (K : AV → Mem → Option O) : Option O := match av with
  | [.inr (.inr (5, k0)), .inl v1, .inl v2] => (f_Re_number k0 v1 v2 σ).bind fun r => K (.inl r.1) r.2
  | _ => none
def c_Re_number : List (List CE) := [[(0, .iconst 0, 1, 0, 0, 0), (1, .istore_n 3, 1, 0, 0, 0), (2, .iload_n 1, 1, 0, 0, 0), (3, .istore 4, 2, 0, 0, 0), (5, .iload 4, 2, 0, 0, 0), (7, .iload_n 2, 1, 0, 0, 0), (8, .if_icmp .ge 24, 3, 32, 0, 0), (11, .bipush 10, 2, 10, 0, 0), (13, .iload_n 3, 1, 0, 0, 0), (14, .imul, 1, 0, 0, 0), (15, .aload_n 0, 1, 0, 0, 0)], [(16, .iload 4, 2, 0, 0, 0), (18, .invokevirtual 71, 3, 78, 2, 11), (21, .iadd, 1, 0, 0, 0), (22, .bipush 48, 2, 48, 0, 0), (24, .isub, 1, 0, 0, 0), (25, .istore_n 3, 1, 0, 0, 0), (26, .iinc 4 1, 3, 1, 0, 0), (29, .goto (-24), 3, 5, 0, 0)], [(32, .iload_n 3, 1, 0, 0, 0), (33, .ireturn, 1, 0, 0, 0)]]
set_option maxRecDepth 100000 in
theorem oc_Re_number : okC 96 c_Re_number = true := by decide +kernel
def cu_Re_number : List (Nat × List Bool) := [(5, [true, false, true, true, true])]
noncomputable def F_Re_number (O : Type) (a : Nat) (av : List AV) (σ : Mem) (K : AV → Mem → Option O) : Option O := if a = 78 then sm_Re_byteAt O av σ K else none
theorem fs_Re_number {X : CXT} (hX : XC X) (O : Type) : FS X 3 (F_Re_number O) := by
  intro a av σ K o h
  unfold F_Re_number at h
  rcases ite_s h with ⟨rfl, h⟩ | ⟨_, h⟩
  · obtain ⟨r, h1, h2, h3⟩ := ok_Re_byteAt hX _ _ _ _ _ h
    exact ⟨r, fun ht => ⟨2, by decide, h1 ht⟩, h2, h3⟩
  cases h
def hd_Re_number_5 {O : Type} (g : Nat → Int32 → Int32 → Int32 → Mem → Option O) (ls : OL) (st : List AV) (σ : Mem) : Option O := match ls, st with
  | [some (.inr (.inr (5, k0))), none, some (.inl v2), some (.inl v3), some (.inl v4)], [] => g k0 v2 v3 v4 σ
  | _, _ => none
theorem hs_Re_number_5 {X : CXT} {g : Nat → Int32 → Int32 → Int32 → Mem → Option (Int32 × Mem)} (hg : ∀ (k0 : Nat) (v2 : Int32) (v3 : Int32) (v4 : Int32) (s : Mem) (o : Int32 × Mem), g k0 v2 v3 v4 s = some o → BSnd X 3 96 (ovI o) 5 [some (.inr (.inr (5, k0))), none, some (.inl v2), some (.inl v3), some (.inl v4)] [] s) : ∀ ls st σ o, hd_Re_number_5 g ls st σ = some o → BSnd X 3 96 (ovI o) 5 ls st σ := by
  intro ls st σ o h
  unfold hd_Re_number_5 at h
  split at h
  · exact hg _ _ _ _ _ _ h
  · cases h
set_option maxRecDepth 100000 in
theorem s_Re_number_5 {X : CXT} (hX : XC X) : ∀ n : Nat, ∀ (k0 : Nat) (v2 : Int32) (v3 : Int32) (v4 : Int32) (s : Mem) (o : Int32 × Mem), f_Re_number_5 n k0 v2 v3 v4 s = some o → BSnd X 3 96 (ovI o) 5 [some (.inr (.inr (5, k0))), none, some (.inl v2), some (.inl v3), some (.inl v4)] [] s := by
  intro n
  induction n with
  | zero => intro k0 v2 v3 v4 s o h; cases h
  | succ n ih =>
    intro k0 v2 v3 v4 s o h
    exact evC (chs := c_Re_number) (cuts := cu_Re_number) (G := fun pc ls st σ => if pc = 5 then hd_Re_number_5 (fun k0 v2 v3 v4 s => f_Re_number_5 n k0 v2 v3 v4 s) ls st σ else none) hX.2.1 hX.2.2 (F := F_Re_number _) (fs_Re_number hX _) (rt_I rfl) oc_Re_number (by
    intro pc ls st σ o h
    rcases ite_s h with ⟨rfl, h⟩ | ⟨_, h⟩
    · exact hs_Re_number_5 ih _ _ _ _ h
    cases h) 124 5 _ _ _ _ h
set_option maxRecDepth 100000 in
theorem s_Re_number {X : CXT} (hX : XC X) : ∀ (k0 : Nat) (v1 : Int32) (v2 : Int32) (s : Mem) (o : Int32 × Mem), f_Re_number k0 v1 v2 s = some o → BSnd X 3 96 (ovI o) 0 (entL [.inr (.inr (5, k0)), .inl v1, .inl v2]) [] s := by
  intro k0 v1 v2 s o h
  rw [f_Re_number_eq] at h
  exact evC (chs := c_Re_number) (cuts := cu_Re_number) (G := fun pc ls st σ => if pc = 5 then hd_Re_number_5 (fun k0 v2 v3 v4 s => f_Re_number_5 FU k0 v2 v3 v4 s) ls st σ else none) hX.2.1 hX.2.2 (F := F_Re_number _) (fs_Re_number hX _) (rt_I rfl) oc_Re_number (by
    intro pc ls st σ o h
    rcases ite_s h with ⟨rfl, h⟩ | ⟨_, h⟩
    · exact hs_Re_number_5 (s_Re_number_5 hX FU) _ _ _ _ h
    cases h) 124 0 _ _ _ _ h
theorem ok_Re_number {X : CXT} (hX : XC X) : SemOK X 3 96 sm_Re_number := by
  intro O av σ K o h
  unfold sm_Re_number at h
  split at h
  · obtain ⟨r, hf, h⟩ := Option.bind_eq_some_iff.mp h
    exact ⟨ovI r, fun ht => sp_of hX.1 (by decide) (List.mem_range.mpr (by decide)) (by decide +kernel) ht (Nat.le_of_ble_eq_true rfl) (s_Re_number hX _ _ _ _ _ hf), trivial, h⟩
  · cases h
noncomputable def b_Sl_canEncode (v0 : Int32) (s : Mem) : Option (Bool × Mem) :=
  cif (v0 < 0) (
    some (false, s)) (
    cif (((255 : Int32)) < v0) (
      some (false, s)) (
      some (true, s)))
noncomputable def f_Sl_canEncode : Int32 → Mem → Option (Bool × Mem) := Classical.choose (⟨b_Sl_canEncode, rfl⟩ : ∃ f : Int32 → Mem → Option (Bool × Mem), f = b_Sl_canEncode)
theorem f_Sl_canEncode_eq : f_Sl_canEncode = b_Sl_canEncode := Classical.choose_spec (⟨b_Sl_canEncode, rfl⟩ : ∃ f : Int32 → Mem → Option (Bool × Mem), f = b_Sl_canEncode)
noncomputable def sm_Sl_canEncode (O : Type) (av : List AV) (σ : Mem) (K : AV → Mem → Option O) : Option O := match av with
  | [.inl v0] => (f_Sl_canEncode v0 σ).bind fun r => K (.inl (b2i r.1)) r.2
  | _ => none
def c_Sl_canEncode : List (List CE) := [[(0, .iload_n 0, 1, 0, 0, 0), (1, .ifCond .lt 14, 3, 15, 0, 0), (4, .iload_n 0, 1, 0, 0, 0), (5, .sipush 255, 3, 255, 0, 0), (8, .if_icmp .gt 7, 3, 15, 0, 0), (11, .iconst 1, 1, 1, 0, 0), (12, .goto 4, 3, 16, 0, 0), (15, .iconst 0, 1, 0, 0, 0)], [(16, .ireturn, 1, 0, 0, 0)]]
set_option maxRecDepth 100000 in
theorem oc_Sl_canEncode : okC 100 c_Sl_canEncode = true := by decide +kernel
def cu_Sl_canEncode : List (Nat × List Bool) := []
noncomputable def F_Sl_canEncode (O : Type) (a : Nat) (av : List AV) (σ : Mem) (K : AV → Mem → Option O) : Option O := none
theorem fs_Sl_canEncode {X : CXT} (hX : XJ X) (O : Type) : FS X 1 (F_Sl_canEncode O) := by
  intro a av σ K o h
  cases h
set_option maxRecDepth 100000 in
theorem s_Sl_canEncode {X : CXT} (hX : XJ X) : ∀ (v0 : Int32) (s : Mem) (o : Bool × Mem), f_Sl_canEncode v0 s = some o → BSnd X 1 100 (ovZ o) 0 (entL [.inl v0]) [] s := by
  intro v0 s o h
  rw [f_Sl_canEncode_eq] at h
  exact evC (chs := c_Sl_canEncode) (cuts := cu_Sl_canEncode) (G := fun pc ls st σ => none) rfl hX.2 (F := F_Sl_canEncode _) (fs_Sl_canEncode hX _) (rt_Z rfl) oc_Sl_canEncode (by
    intro pc ls st σ o h
    cases h) 76 0 _ _ _ _ h
theorem ok_Sl_canEncode {X : CXT} (hX : XJ X) : SemOK X 1 100 sm_Sl_canEncode := by
  intro O av σ K o h
  unfold sm_Sl_canEncode at h
  split at h
  · obtain ⟨r, hf, h⟩ := Option.bind_eq_some_iff.mp h
    exact ⟨ovZ r, fun ht => sp_of hX.1 (by decide) (List.mem_range.mpr (by decide)) (by decide +kernel) ht (Nat.le_of_ble_eq_true rfl) (s_Sl_canEncode hX _ _ _ hf), trivial, h⟩
  · cases h
noncomputable def f_Sl_indexOfChar_7 : Nat → Nat → Int32 → Int32 → Int32 → Mem → Option (Int32 × Mem)
  | 0, _, _, _, _, _ => none
  | n + 1, k0, v3, v4, v5, s =>
    cif (v3 ≤ v5) (
      some ((-1 : Int32), s)) (
      gd (inb v5 (ext0 (k0 + 1000)).1) <|
      cif (((ext0 (k0 + 1000)).2 (ix v5)) = v4) (
        some (v5, s)) (
        f_Sl_indexOfChar_7 n k0 v3 v4 (v5 + (1 : Int32)) s))
noncomputable def b_Sl_indexOfChar (k0 : Nat) (v1 : Int32) (v2 : Int32) (v3 : Int32) (s : Mem) : Option (Int32 × Mem) :=
  f_Sl_indexOfChar_7 FU k0 v3 v1.toInt8.toInt32 v2 s
noncomputable def f_Sl_indexOfChar : Nat → Int32 → Int32 → Int32 → Mem → Option (Int32 × Mem) := Classical.choose (⟨b_Sl_indexOfChar, rfl⟩ : ∃ f : Nat → Int32 → Int32 → Int32 → Mem → Option (Int32 × Mem), f = b_Sl_indexOfChar)
theorem f_Sl_indexOfChar_eq : f_Sl_indexOfChar = b_Sl_indexOfChar := Classical.choose_spec (⟨b_Sl_indexOfChar, rfl⟩ : ∃ f : Nat → Int32 → Int32 → Int32 → Mem → Option (Int32 × Mem), f = b_Sl_indexOfChar)
noncomputable def sm_Sl_indexOfChar (O : Type) (av : List AV) (σ : Mem) (K : AV → Mem → Option O) : Option O := match av with
  | [.inr (.inr (152, k0)), .inl v1, .inl v2, .inl v3] => (f_Sl_indexOfChar k0 v1 v2 v3 σ).bind fun r => K (.inl r.1) r.2
  | _ => none
def c_Sl_indexOfChar : List (List CE) := [[(0, .iload_n 1, 1, 0, 0, 0), (1, .i2b, 1, 0, 0, 0), (2, .istore 4, 2, 0, 0, 0), (4, .iload_n 2, 1, 0, 0, 0), (5, .istore 5, 2, 0, 0, 0), (7, .iload 5, 2, 0, 0, 0), (9, .iload_n 3, 1, 0, 0, 0), (10, .if_icmp .ge 21, 3, 31, 0, 0), (13, .aload_n 0, 1, 0, 0, 0), (14, .iload 5, 2, 0, 0, 0)], [(16, .baload, 1, 0, 0, 0), (17, .iload 4, 2, 0, 0, 0), (19, .if_icmp .ne 6, 3, 25, 0, 0), (22, .iload 5, 2, 0, 0, 0), (24, .ireturn, 1, 0, 0, 0), (25, .iinc 5 1, 3, 1, 0, 0), (28, .goto (-21), 3, 7, 0, 0), (31, .iconst (-1), 1, 1, 0, 1)], [(32, .ireturn, 1, 0, 0, 0)]]
set_option maxRecDepth 100000 in
theorem oc_Sl_indexOfChar : okC 101 c_Sl_indexOfChar = true := by decide +kernel
def cu_Sl_indexOfChar : List (Nat × List Bool) := [(7, [true, false, false, true, true, true])]
noncomputable def F_Sl_indexOfChar (O : Type) (a : Nat) (av : List AV) (σ : Mem) (K : AV → Mem → Option O) : Option O := none
theorem fs_Sl_indexOfChar {X : CXT} (hX : XJ X) (O : Type) : FS X 1 (F_Sl_indexOfChar O) := by
  intro a av σ K o h
  cases h
def hd_Sl_indexOfChar_7 {O : Type} (g : Nat → Int32 → Int32 → Int32 → Mem → Option O) (ls : OL) (st : List AV) (σ : Mem) : Option O := match ls, st with
  | [some (.inr (.inr (152, k0))), none, none, some (.inl v3), some (.inl v4), some (.inl v5)], [] => g k0 v3 v4 v5 σ
  | _, _ => none
theorem hs_Sl_indexOfChar_7 {X : CXT} {g : Nat → Int32 → Int32 → Int32 → Mem → Option (Int32 × Mem)} (hg : ∀ (k0 : Nat) (v3 : Int32) (v4 : Int32) (v5 : Int32) (s : Mem) (o : Int32 × Mem), g k0 v3 v4 v5 s = some o → BSnd X 1 101 (ovI o) 7 [some (.inr (.inr (152, k0))), none, none, some (.inl v3), some (.inl v4), some (.inl v5)] [] s) : ∀ ls st σ o, hd_Sl_indexOfChar_7 g ls st σ = some o → BSnd X 1 101 (ovI o) 7 ls st σ := by
  intro ls st σ o h
  unfold hd_Sl_indexOfChar_7 at h
  split at h
  · exact hg _ _ _ _ _ _ h
  · cases h
set_option maxRecDepth 100000 in
theorem s_Sl_indexOfChar_7 {X : CXT} (hX : XJ X) : ∀ n : Nat, ∀ (k0 : Nat) (v3 : Int32) (v4 : Int32) (v5 : Int32) (s : Mem) (o : Int32 × Mem), f_Sl_indexOfChar_7 n k0 v3 v4 v5 s = some o → BSnd X 1 101 (ovI o) 7 [some (.inr (.inr (152, k0))), none, none, some (.inl v3), some (.inl v4), some (.inl v5)] [] s := by
  intro n
  induction n with
  | zero => intro k0 v3 v4 v5 s o h; cases h
  | succ n ih =>
    intro k0 v3 v4 v5 s o h
    exact evC (chs := c_Sl_indexOfChar) (cuts := cu_Sl_indexOfChar) (G := fun pc ls st σ => if pc = 7 then hd_Sl_indexOfChar_7 (fun k0 v3 v4 v5 s => f_Sl_indexOfChar_7 n k0 v3 v4 v5 s) ls st σ else none) rfl hX.2 (F := F_Sl_indexOfChar _) (fs_Sl_indexOfChar hX _) (rt_I rfl) oc_Sl_indexOfChar (by
    intro pc ls st σ o h
    rcases ite_s h with ⟨rfl, h⟩ | ⟨_, h⟩
    · exact hs_Sl_indexOfChar_7 ih _ _ _ _ h
    cases h) 116 7 _ _ _ _ h
set_option maxRecDepth 100000 in
theorem s_Sl_indexOfChar {X : CXT} (hX : XJ X) : ∀ (k0 : Nat) (v1 : Int32) (v2 : Int32) (v3 : Int32) (s : Mem) (o : Int32 × Mem), f_Sl_indexOfChar k0 v1 v2 v3 s = some o → BSnd X 1 101 (ovI o) 0 (entL [.inr (.inr (152, k0)), .inl v1, .inl v2, .inl v3]) [] s := by
  intro k0 v1 v2 v3 s o h
  rw [f_Sl_indexOfChar_eq] at h
  exact evC (chs := c_Sl_indexOfChar) (cuts := cu_Sl_indexOfChar) (G := fun pc ls st σ => if pc = 7 then hd_Sl_indexOfChar_7 (fun k0 v3 v4 v5 s => f_Sl_indexOfChar_7 FU k0 v3 v4 v5 s) ls st σ else none) rfl hX.2 (F := F_Sl_indexOfChar _) (fs_Sl_indexOfChar hX _) (rt_I rfl) oc_Sl_indexOfChar (by
    intro pc ls st σ o h
    rcases ite_s h with ⟨rfl, h⟩ | ⟨_, h⟩
    · exact hs_Sl_indexOfChar_7 (s_Sl_indexOfChar_7 hX FU) _ _ _ _ h
    cases h) 116 0 _ _ _ _ h
theorem ok_Sl_indexOfChar {X : CXT} (hX : XJ X) : SemOK X 1 101 sm_Sl_indexOfChar := by
  intro O av σ K o h
  unfold sm_Sl_indexOfChar at h
  split at h
  · obtain ⟨r, hf, h⟩ := Option.bind_eq_some_iff.mp h
    exact ⟨ovI r, fun ht => sp_of hX.1 (by decide) (List.mem_range.mpr (by decide)) (by decide +kernel) ht (Nat.le_of_ble_eq_true rfl) (s_Sl_indexOfChar hX _ _ _ _ _ _ hf), trivial, h⟩
  · cases h
noncomputable def b_Sl_indexOf (k0 : Nat) (v1 : Int32) (v2 : Int32) (v3 : Int32) (s : Mem) : Option (Int32 × Mem) :=
  (f_Sl_canEncode v1 s).bind fun r1 =>
  cif ((b2i r1.1) = 0) (
    some ((-1 : Int32), r1.2)) (
    let x2 : Int32 := imx v2 ((0 : Int32))
    let x3 : Int32 := imn v3 (Int32.ofNat (ext0 (k0 + 1000)).1)
    cif (x2 < x3) (
      (f_Sl_indexOfChar k0 v1 x2 x3 r1.2).bind fun r4 =>
      some (r4.1, r4.2)) (
      some ((-1 : Int32), r1.2)))
noncomputable def f_Sl_indexOf : Nat → Int32 → Int32 → Int32 → Mem → Option (Int32 × Mem) := Classical.choose (⟨b_Sl_indexOf, rfl⟩ : ∃ f : Nat → Int32 → Int32 → Int32 → Mem → Option (Int32 × Mem), f = b_Sl_indexOf)
theorem f_Sl_indexOf_eq : f_Sl_indexOf = b_Sl_indexOf := Classical.choose_spec (⟨b_Sl_indexOf, rfl⟩ : ∃ f : Nat → Int32 → Int32 → Int32 → Mem → Option (Int32 × Mem), f = b_Sl_indexOf)
noncomputable def sm_Sl_indexOf (O : Type) (av : List AV) (σ : Mem) (K : AV → Mem → Option O) : Option O := match av with
  | [.inr (.inr (152, k0)), .inl v1, .inl v2, .inl v3] => (f_Sl_indexOf k0 v1 v2 v3 σ).bind fun r => K (.inl r.1) r.2
  | _ => none
def c_Sl_indexOf : List (List CE) := [[(0, .iload_n 1, 1, 0, 0, 0), (1, .invokestatic 88, 3, 100, 1, 1), (4, .ifCond .ne 5, 3, 9, 0, 0), (7, .iconst (-1), 1, 1, 0, 1), (8, .ireturn, 1, 0, 0, 0), (9, .iload_n 2, 1, 0, 0, 0), (10, .iconst 0, 1, 0, 0, 0), (11, .invokestatic 92, 3, 7, 2, 2), (14, .istore_n 2, 1, 0, 0, 0), (15, .iload_n 3, 1, 0, 0, 0)], [(16, .aload_n 0, 1, 0, 0, 0), (17, .arraylength, 1, 0, 0, 0), (18, .invokestatic 38, 3, 32, 2, 3), (21, .istore_n 3, 1, 0, 0, 0), (22, .iload_n 2, 1, 0, 0, 0), (23, .iload_n 3, 1, 0, 0, 0), (24, .if_icmp .lt 5, 3, 29, 0, 0), (27, .iconst (-1), 1, 1, 0, 1), (28, .ireturn, 1, 0, 0, 0), (29, .aload_n 0, 1, 0, 0, 0), (30, .iload_n 1, 1, 0, 0, 0), (31, .iload_n 2, 1, 0, 0, 0)], [(32, .iload_n 3, 1, 0, 0, 0), (33, .invokestatic 95, 3, 101, 4, 1), (36, .ireturn, 1, 0, 0, 0)]]
set_option maxRecDepth 100000 in
theorem oc_Sl_indexOf : okC 99 c_Sl_indexOf = true := by decide +kernel
def cu_Sl_indexOf : List (Nat × List Bool) := []
noncomputable def F_Sl_indexOf (O : Type) (a : Nat) (av : List AV) (σ : Mem) (K : AV → Mem → Option O) : Option O := if a = 100 then sm_Sl_canEncode O av σ K else if a = 101 then sm_Sl_indexOfChar O av σ K else none
theorem fs_Sl_indexOf {X : CXT} (hX : XJ X) (O : Type) : FS X 2 (F_Sl_indexOf O) := by
  intro a av σ K o h
  unfold F_Sl_indexOf at h
  rcases ite_s h with ⟨rfl, h⟩ | ⟨_, h⟩
  · obtain ⟨r, h1, h2, h3⟩ := ok_Sl_canEncode hX _ _ _ _ _ h
    exact ⟨r, fun ht => ⟨1, by decide, h1 ht⟩, h2, h3⟩
  rcases ite_s h with ⟨rfl, h⟩ | ⟨_, h⟩
  · obtain ⟨r, h1, h2, h3⟩ := ok_Sl_indexOfChar hX _ _ _ _ _ h
    exact ⟨r, fun ht => ⟨1, by decide, h1 ht⟩, h2, h3⟩
  cases h
set_option maxRecDepth 100000 in
theorem s_Sl_indexOf {X : CXT} (hX : XJ X) : ∀ (k0 : Nat) (v1 : Int32) (v2 : Int32) (v3 : Int32) (s : Mem) (o : Int32 × Mem), f_Sl_indexOf k0 v1 v2 v3 s = some o → BSnd X 2 99 (ovI o) 0 (entL [.inr (.inr (152, k0)), .inl v1, .inl v2, .inl v3]) [] s := by
  intro k0 v1 v2 v3 s o h
  rw [f_Sl_indexOf_eq] at h
  exact evC (chs := c_Sl_indexOf) (cuts := cu_Sl_indexOf) (G := fun pc ls st σ => none) rfl hX.2 (F := F_Sl_indexOf _) (fs_Sl_indexOf hX _) (rt_I rfl) oc_Sl_indexOf (by
    intro pc ls st σ o h
    cases h) 140 0 _ _ _ _ h
theorem ok_Sl_indexOf {X : CXT} (hX : XJ X) : SemOK X 2 99 sm_Sl_indexOf := by
  intro O av σ K o h
  unfold sm_Sl_indexOf at h
  split at h
  · obtain ⟨r, hf, h⟩ := Option.bind_eq_some_iff.mp h
    exact ⟨ovI r, fun ht => sp_of hX.1 (by decide) (List.mem_range.mpr (by decide)) (by decide +kernel) ht (Nat.le_of_ble_eq_true rfl) (s_Sl_indexOf hX _ _ _ _ _ _ hf), trivial, h⟩
  · cases h
noncomputable def b_St_indexOf_1 (k0 : Nat) (v1 : Int32) (v2 : Int32) (s : Mem) : Option (Int32 × Mem) :=
  (f_St_isLatin1 k0 s).bind fun r1 =>
  cif ((b2i r1.1) = 0) (
    (f_St_length k0 r1.2).bind fun r2 =>
    none) (
    (f_St_length k0 r1.2).bind fun r3 =>
    (f_Sl_indexOf k0 v1 v2 r3.1 r3.2).bind fun r4 =>
    some (r4.1, r4.2))
noncomputable def f_St_indexOf_1 : Nat → Int32 → Int32 → Mem → Option (Int32 × Mem) := Classical.choose (⟨b_St_indexOf_1, rfl⟩ : ∃ f : Nat → Int32 → Int32 → Mem → Option (Int32 × Mem), f = b_St_indexOf_1)
theorem f_St_indexOf_1_eq : f_St_indexOf_1 = b_St_indexOf_1 := Classical.choose_spec (⟨b_St_indexOf_1, rfl⟩ : ∃ f : Nat → Int32 → Int32 → Mem → Option (Int32 × Mem), f = b_St_indexOf_1)
noncomputable def sm_St_indexOf_1 (O : Type) (av : List AV) (σ : Mem) (K : AV → Mem → Option O) : Option O := match av with
  | [.inr (.inr (151, k0)), .inl v1, .inl v2] => (f_St_indexOf_1 k0 v1 v2 σ).bind fun r => K (.inl r.1) r.2
  | _ => none
def c_St_indexOf_1 : List (List CE) := [[(0, .aload_n 0, 1, 0, 0, 0), (1, .invokevirtual 492, 3, 87, 1, 303), (4, .ifCond .eq 19, 3, 23, 0, 0), (7, .aload_n 0, 1, 0, 0, 0), (8, .getfield 9, 3, 151, 0, 0), (11, .iload_n 1, 1, 0, 0, 0), (12, .iload_n 2, 1, 0, 0, 0), (13, .aload_n 0, 1, 0, 0, 0), (14, .invokevirtual 505, 3, 84, 1, 303)], [(17, .invokestatic 637, 3, 99, 4, 1), (20, .goto 16, 3, 36, 0, 0), (23, .aload_n 0, 1, 0, 0, 0), (24, .getfield 9, 3, 151, 0, 0), (27, .iload_n 1, 1, 0, 0, 0), (28, .iload_n 2, 1, 0, 0, 0), (29, .aload_n 0, 1, 0, 0, 0), (30, .invokevirtual 505, 3, 84, 1, 303)], [(36, .ireturn, 1, 0, 0, 0)]]
set_option maxRecDepth 100000 in
theorem oc_St_indexOf_1 : okC 98 c_St_indexOf_1 = true := by decide +kernel
def cu_St_indexOf_1 : List (Nat × List Bool) := []
noncomputable def F_St_indexOf_1 (O : Type) (a : Nat) (av : List AV) (σ : Mem) (K : AV → Mem → Option O) : Option O := if a = 84 then sm_St_length O av σ K else if a = 87 then sm_St_isLatin1 O av σ K else if a = 99 then sm_Sl_indexOf O av σ K else none
theorem fs_St_indexOf_1 {X : CXT} (hX : XJ X) (O : Type) : FS X 3 (F_St_indexOf_1 O) := by
  intro a av σ K o h
  unfold F_St_indexOf_1 at h
  rcases ite_s h with ⟨rfl, h⟩ | ⟨_, h⟩
  · obtain ⟨r, h1, h2, h3⟩ := ok_St_length hX _ _ _ _ _ h
    exact ⟨r, fun ht => ⟨2, by decide, h1 ht⟩, h2, h3⟩
  rcases ite_s h with ⟨rfl, h⟩ | ⟨_, h⟩
  · obtain ⟨r, h1, h2, h3⟩ := ok_St_isLatin1 hX _ _ _ _ _ h
    exact ⟨r, fun ht => ⟨1, by decide, h1 ht⟩, h2, h3⟩
  rcases ite_s h with ⟨rfl, h⟩ | ⟨_, h⟩
  · obtain ⟨r, h1, h2, h3⟩ := ok_Sl_indexOf hX _ _ _ _ _ h
    exact ⟨r, fun ht => ⟨2, by decide, h1 ht⟩, h2, h3⟩
  cases h
set_option maxRecDepth 100000 in
theorem s_St_indexOf_1 {X : CXT} (hX : XJ X) : ∀ (k0 : Nat) (v1 : Int32) (v2 : Int32) (s : Mem) (o : Int32 × Mem), f_St_indexOf_1 k0 v1 v2 s = some o → BSnd X 3 98 (ovI o) 0 (entL [.inr (.inr (151, k0)), .inl v1, .inl v2]) [] s := by
  intro k0 v1 v2 s o h
  rw [f_St_indexOf_1_eq] at h
  exact evC (chs := c_St_indexOf_1) (cuts := cu_St_indexOf_1) (G := fun pc ls st σ => none) rfl hX.2 (F := F_St_indexOf_1 _) (fs_St_indexOf_1 hX _) (rt_I rfl) oc_St_indexOf_1 (by
    intro pc ls st σ o h
    cases h) 116 0 _ _ _ _ h
theorem ok_St_indexOf_1 {X : CXT} (hX : XJ X) : SemOK X 3 98 sm_St_indexOf_1 := by
  intro O av σ K o h
  unfold sm_St_indexOf_1 at h
  split at h
  · obtain ⟨r, hf, h⟩ := Option.bind_eq_some_iff.mp h
    exact ⟨ovI r, fun ht => sp_of hX.1 (by decide) (List.mem_range.mpr (by decide)) (by decide +kernel) ht (Nat.le_of_ble_eq_true rfl) (s_St_indexOf_1 hX _ _ _ _ _ hf), trivial, h⟩
  · cases h
noncomputable def b_St_indexOf_0 (k0 : Nat) (v1 : Int32) (s : Mem) : Option (Int32 × Mem) :=
  (f_St_indexOf_1 k0 v1 ((0 : Int32)) s).bind fun r1 =>
  some (r1.1, r1.2)
noncomputable def f_St_indexOf_0 : Nat → Int32 → Mem → Option (Int32 × Mem) := Classical.choose (⟨b_St_indexOf_0, rfl⟩ : ∃ f : Nat → Int32 → Mem → Option (Int32 × Mem), f = b_St_indexOf_0)
theorem f_St_indexOf_0_eq : f_St_indexOf_0 = b_St_indexOf_0 := Classical.choose_spec (⟨b_St_indexOf_0, rfl⟩ : ∃ f : Nat → Int32 → Mem → Option (Int32 × Mem), f = b_St_indexOf_0)
noncomputable def sm_St_indexOf_0 (O : Type) (av : List AV) (σ : Mem) (K : AV → Mem → Option O) : Option O := match av with
  | [.inr (.inr (151, k0)), .inl v1] => (f_St_indexOf_0 k0 v1 σ).bind fun r => K (.inl r.1) r.2
  | _ => none
def c_St_indexOf_0 : List (List CE) := [[(0, .aload_n 0, 1, 0, 0, 0), (1, .iload_n 1, 1, 0, 0, 0), (2, .iconst 0, 1, 0, 0, 0), (3, .invokevirtual 633, 3, 98, 3, 303), (6, .ireturn, 1, 0, 0, 0)]]
set_option maxRecDepth 100000 in
theorem oc_St_indexOf_0 : okC 97 c_St_indexOf_0 = true := by decide +kernel
def cu_St_indexOf_0 : List (Nat × List Bool) := []
noncomputable def F_St_indexOf_0 (O : Type) (a : Nat) (av : List AV) (σ : Mem) (K : AV → Mem → Option O) : Option O := if a = 98 then sm_St_indexOf_1 O av σ K else none
theorem fs_St_indexOf_0 {X : CXT} (hX : XJ X) (O : Type) : FS X 4 (F_St_indexOf_0 O) := by
  intro a av σ K o h
  unfold F_St_indexOf_0 at h
  rcases ite_s h with ⟨rfl, h⟩ | ⟨_, h⟩
  · obtain ⟨r, h1, h2, h3⟩ := ok_St_indexOf_1 hX _ _ _ _ _ h
    exact ⟨r, fun ht => ⟨3, by decide, h1 ht⟩, h2, h3⟩
  cases h
set_option maxRecDepth 100000 in
theorem s_St_indexOf_0 {X : CXT} (hX : XJ X) : ∀ (k0 : Nat) (v1 : Int32) (s : Mem) (o : Int32 × Mem), f_St_indexOf_0 k0 v1 s = some o → BSnd X 4 97 (ovI o) 0 (entL [.inr (.inr (151, k0)), .inl v1]) [] s := by
  intro k0 v1 s o h
  rw [f_St_indexOf_0_eq] at h
  exact evC (chs := c_St_indexOf_0) (cuts := cu_St_indexOf_0) (G := fun pc ls st σ => none) rfl hX.2 (F := F_St_indexOf_0 _) (fs_St_indexOf_0 hX _) (rt_I rfl) oc_St_indexOf_0 (by
    intro pc ls st σ o h
    cases h) 60 0 _ _ _ _ h
theorem ok_St_indexOf_0 {X : CXT} (hX : XJ X) : SemOK X 4 97 sm_St_indexOf_0 := by
  intro O av σ K o h
  unfold sm_St_indexOf_0 at h
  split at h
  · obtain ⟨r, hf, h⟩ := Option.bind_eq_some_iff.mp h
    exact ⟨ovI r, fun ht => sp_of hX.1 (by decide) (List.mem_range.mpr (by decide)) (by decide +kernel) ht (Nat.le_of_ble_eq_true rfl) (s_St_indexOf_0 hX _ _ _ _ hf), trivial, h⟩
  · cases h
noncomputable def f_Re_addToken_85 (k0 : Nat) (v1 : Int32) (v4 : Int32) (v5 : Int32) (s : Mem) : Option (Mem) :=
  gd (inb (rI s k0 8) (lenC (k0 + 2))) <|
  let s1 : Mem := wI s (k0 + 2) (ix (rI s k0 8)) v4
  gd (inb (rI s1 k0 8) (lenC (k0 + 3))) <|
  let s2 : Mem := wI s1 (k0 + 3) (ix (rI s1 k0 8)) v5
  gd (inb (rI s2 k0 8) (lenC (k0 + 4))) <|
  let s3 : Mem := wI s2 (k0 + 4) (ix (rI s2 k0 8)) v1
  let s4 : Mem := wI s3 k0 8 ((rI s3 k0 8) + ((1 : Int32)))
  some s4
noncomputable def f_Re_addToken_73 (k0 : Nat) (v1 : Int32) (v3 : Int32) (v4 : Int32) (v5 : Int32) (s : Mem) : Option (Mem) :=
  (f_St_indexOf_0 0 v3 s).bind fun r1 =>
  cif (r1.1 < 0) (
    f_Re_addToken_85 k0 v1 v4 v5 r1.2) (
    f_Re_addToken_85 k0 v1 v3 v5 r1.2)
noncomputable def b_Re_addToken (k0 : Nat) (v1 : Int32) (v2 : Int32) (s : Mem) : Option (Mem) :=
  cif ((rI s k0 8) < ((400 : Int32))) (
    (f_Re_byteAt k0 v1 s).bind fun r1 =>
    (f_Re_isLetter r1.1 r1.2).bind fun r2 =>
    cif ((b2i r2.1) = 0) (
      (f_Re_isDigit r1.1 r2.2).bind fun r3 =>
      cif ((b2i r3.1) = 0) (
        f_Re_addToken_73 k0 v1 r1.1 ((257 : Int32)) ((0 : Int32)) r3.2) (
        cif (((4 : Int32)) < (v2 - v1)) (
          f_Re_addToken_73 k0 v1 r1.1 ((257 : Int32)) ((0 : Int32)) r3.2) (
          (f_Re_number k0 v1 v2 r3.2).bind fun r4 =>
          f_Re_addToken_85 k0 v1 ((256 : Int32)) r4.1 r4.2))) (
      (f_Re_keyword k0 v1 v2 r2.2).bind fun r5 =>
      f_Re_addToken_85 k0 v1 r5.1 ((0 : Int32)) r5.2)) (
    some s)
noncomputable def f_Re_addToken : Nat → Int32 → Int32 → Mem → Option (Mem) := Classical.choose (⟨b_Re_addToken, rfl⟩ : ∃ f : Nat → Int32 → Int32 → Mem → Option (Mem), f = b_Re_addToken)
theorem f_Re_addToken_eq : f_Re_addToken = b_Re_addToken := Classical.choose_spec (⟨b_Re_addToken, rfl⟩ : ∃ f : Nat → Int32 → Int32 → Mem → Option (Mem), f = b_Re_addToken)
noncomputable def sm_Re_addToken (O : Type) (av : List AV) (σ : Mem) (K : AV → Mem → Option O) : Option O := match av with
  | [.inr (.inr (5, k0)), .inl v1, .inl v2] => (f_Re_addToken k0 v1 v2 σ).bind fun r => K (.inl 0) r
  | _ => none
def c_Re_addToken : List (List CE) := [[(0, .aload_n 0, 1, 0, 0, 0), (1, .getfield 48, 3, 5, 8, 0), (4, .sipush 400, 3, 400, 0, 0), (7, .if_icmp .lt 4, 3, 11, 0, 0), (10, .return_, 1, 0, 0, 0), (11, .aload_n 0, 1, 0, 0, 0), (12, .iload_n 1, 1, 0, 0, 0), (13, .invokevirtual 71, 3, 78, 2, 11)], [(16, .istore_n 3, 1, 0, 0, 0), (17, .sipush 257, 3, 257, 0, 0), (20, .istore 4, 2, 0, 0, 0), (22, .iconst 0, 1, 0, 0, 0), (23, .istore 5, 2, 0, 0, 0), (25, .iload_n 3, 1, 0, 0, 0), (26, .invokestatic 83, 3, 79, 1, 1), (29, .ifCond .eq 14, 3, 43, 0, 0)], [(32, .aload_n 0, 1, 0, 0, 0), (33, .iload_n 1, 1, 0, 0, 0), (34, .iload_n 2, 1, 0, 0, 0), (35, .invokevirtual 89, 3, 83, 3, 11), (38, .istore 4, 2, 0, 0, 0), (40, .goto 45, 3, 85, 0, 0), (43, .iload_n 3, 1, 0, 0, 0), (44, .invokestatic 86, 3, 80, 1, 1), (47, .ifCond .eq 26, 3, 73, 0, 0)], [(50, .iload_n 2, 1, 0, 0, 0), (51, .iload_n 1, 1, 0, 0, 0), (52, .isub, 1, 0, 0, 0), (53, .iconst 4, 1, 4, 0, 0), (54, .if_icmp .gt 19, 3, 73, 0, 0), (57, .sipush 256, 3, 256, 0, 0), (60, .istore 4, 2, 0, 0, 0), (62, .aload_n 0, 1, 0, 0, 0), (63, .iload_n 1, 1, 0, 0, 0)], [(64, .iload_n 2, 1, 0, 0, 0), (65, .invokevirtual 93, 3, 96, 3, 11), (68, .istore 5, 2, 0, 0, 0), (70, .goto 15, 3, 85, 0, 0), (73, .ldc 96, 2, 0, 0, 1), (75, .iload_n 3, 1, 0, 0, 0), (76, .invokevirtual 98, 3, 97, 2, 303), (79, .ifCond .lt 6, 3, 85, 0, 0)], [(82, .iload_n 3, 1, 0, 0, 0), (83, .istore 4, 2, 0, 0, 0), (85, .aload_n 0, 1, 0, 0, 0), (86, .getfield 15, 3, 5, 1, 0), (89, .aload_n 0, 1, 0, 0, 0), (90, .getfield 48, 3, 5, 8, 0), (93, .iload 4, 2, 0, 0, 0), (95, .iastore, 1, 0, 0, 0)], [(96, .aload_n 0, 1, 0, 0, 0), (97, .getfield 19, 3, 5, 2, 0), (100, .aload_n 0, 1, 0, 0, 0), (101, .getfield 48, 3, 5, 8, 0), (104, .iload 5, 2, 0, 0, 0), (106, .iastore, 1, 0, 0, 0), (107, .aload_n 0, 1, 0, 0, 0), (108, .getfield 22, 3, 5, 3, 0), (111, .aload_n 0, 1, 0, 0, 0)], [(112, .getfield 48, 3, 5, 8, 0), (115, .iload_n 1, 1, 0, 0, 0), (116, .iastore, 1, 0, 0, 0), (117, .aload_n 0, 1, 0, 0, 0), (118, .dup, 1, 0, 0, 0), (119, .getfield 48, 3, 5, 8, 0), (122, .iconst 1, 1, 1, 0, 0), (123, .iadd, 1, 0, 0, 0), (124, .putfield 48, 3, 5, 8, 0), (127, .return_, 1, 0, 0, 0)]]
set_option maxRecDepth 100000 in
theorem oc_Re_addToken : okC 82 c_Re_addToken = true := by decide +kernel
def cu_Re_addToken : List (Nat × List Bool) := [(85, [true, true, false, false, true, true]), (73, [true, true, false, true, true, true])]
noncomputable def F_Re_addToken (O : Type) (a : Nat) (av : List AV) (σ : Mem) (K : AV → Mem → Option O) : Option O := if a = 78 then sm_Re_byteAt O av σ K else if a = 79 then sm_Re_isLetter O av σ K else if a = 80 then sm_Re_isDigit O av σ K else if a = 83 then sm_Re_keyword O av σ K else if a = 96 then sm_Re_number O av σ K else if a = 97 then sm_St_indexOf_0 O av σ K else none
theorem fs_Re_addToken {X : CXT} (hX : XC X) (O : Type) : FS X 7 (F_Re_addToken O) := by
  intro a av σ K o h
  unfold F_Re_addToken at h
  rcases ite_s h with ⟨rfl, h⟩ | ⟨_, h⟩
  · obtain ⟨r, h1, h2, h3⟩ := ok_Re_byteAt hX _ _ _ _ _ h
    exact ⟨r, fun ht => ⟨2, by decide, h1 ht⟩, h2, h3⟩
  rcases ite_s h with ⟨rfl, h⟩ | ⟨_, h⟩
  · obtain ⟨r, h1, h2, h3⟩ := ok_Re_isLetter hX _ _ _ _ _ h
    exact ⟨r, fun ht => ⟨1, by decide, h1 ht⟩, h2, h3⟩
  rcases ite_s h with ⟨rfl, h⟩ | ⟨_, h⟩
  · obtain ⟨r, h1, h2, h3⟩ := ok_Re_isDigit hX _ _ _ _ _ h
    exact ⟨r, fun ht => ⟨1, by decide, h1 ht⟩, h2, h3⟩
  rcases ite_s h with ⟨rfl, h⟩ | ⟨_, h⟩
  · obtain ⟨r, h1, h2, h3⟩ := ok_Re_keyword hX _ _ _ _ _ h
    exact ⟨r, fun ht => ⟨6, by decide, h1 ht⟩, h2, h3⟩
  rcases ite_s h with ⟨rfl, h⟩ | ⟨_, h⟩
  · obtain ⟨r, h1, h2, h3⟩ := ok_Re_number hX _ _ _ _ _ h
    exact ⟨r, fun ht => ⟨3, by decide, h1 ht⟩, h2, h3⟩
  rcases ite_s h with ⟨rfl, h⟩ | ⟨_, h⟩
  · obtain ⟨r, h1, h2, h3⟩ := ok_St_indexOf_0 hX.j _ _ _ _ _ h
    exact ⟨r, fun ht => ⟨4, by decide, h1 ht⟩, h2, h3⟩
  cases h
def hd_Re_addToken_85 {O : Type} (g : Nat → Int32 → Int32 → Int32 → Mem → Option O) (ls : OL) (st : List AV) (σ : Mem) : Option O := match ls, st with
  | [some (.inr (.inr (5, k0))), some (.inl v1), none, none, some (.inl v4), some (.inl v5)], [] => g k0 v1 v4 v5 σ
  | _, _ => none
theorem hs_Re_addToken_85 {X : CXT} {g : Nat → Int32 → Int32 → Int32 → Mem → Option (Mem)} (hg : ∀ (k0 : Nat) (v1 : Int32) (v4 : Int32) (v5 : Int32) (s : Mem) (o : Mem), g k0 v1 v4 v5 s = some o → BSnd X 7 82 (ovV o) 85 [some (.inr (.inr (5, k0))), some (.inl v1), none, none, some (.inl v4), some (.inl v5)] [] s) : ∀ ls st σ o, hd_Re_addToken_85 g ls st σ = some o → BSnd X 7 82 (ovV o) 85 ls st σ := by
  intro ls st σ o h
  unfold hd_Re_addToken_85 at h
  split at h
  · exact hg _ _ _ _ _ _ h
  · cases h
def hd_Re_addToken_73 {O : Type} (g : Nat → Int32 → Int32 → Int32 → Int32 → Mem → Option O) (ls : OL) (st : List AV) (σ : Mem) : Option O := match ls, st with
  | [some (.inr (.inr (5, k0))), some (.inl v1), none, some (.inl v3), some (.inl v4), some (.inl v5)], [] => g k0 v1 v3 v4 v5 σ
  | _, _ => none
theorem hs_Re_addToken_73 {X : CXT} {g : Nat → Int32 → Int32 → Int32 → Int32 → Mem → Option (Mem)} (hg : ∀ (k0 : Nat) (v1 : Int32) (v3 : Int32) (v4 : Int32) (v5 : Int32) (s : Mem) (o : Mem), g k0 v1 v3 v4 v5 s = some o → BSnd X 7 82 (ovV o) 73 [some (.inr (.inr (5, k0))), some (.inl v1), none, some (.inl v3), some (.inl v4), some (.inl v5)] [] s) : ∀ ls st σ o, hd_Re_addToken_73 g ls st σ = some o → BSnd X 7 82 (ovV o) 73 ls st σ := by
  intro ls st σ o h
  unfold hd_Re_addToken_73 at h
  split at h
  · exact hg _ _ _ _ _ _ _ h
  · cases h
set_option maxRecDepth 100000 in
theorem s_Re_addToken_85 {X : CXT} (hX : XC X) : ∀ (k0 : Nat) (v1 : Int32) (v4 : Int32) (v5 : Int32) (s : Mem) (o : Mem), f_Re_addToken_85 k0 v1 v4 v5 s = some o → BSnd X 7 82 (ovV o) 85 [some (.inr (.inr (5, k0))), some (.inl v1), none, none, some (.inl v4), some (.inl v5)] [] s := by
  intro k0 v1 v4 v5 s o h
  exact evC (chs := c_Re_addToken) (cuts := cu_Re_addToken) (G := fun pc ls st σ => none) hX.2.1 hX.2.2 (F := F_Re_addToken _) (fs_Re_addToken hX _) (rt_V rfl) oc_Re_addToken (by
    intro pc ls st σ o h
    cases h) 316 85 _ _ _ _ h
set_option maxRecDepth 100000 in
theorem s_Re_addToken_73 {X : CXT} (hX : XC X) : ∀ (k0 : Nat) (v1 : Int32) (v3 : Int32) (v4 : Int32) (v5 : Int32) (s : Mem) (o : Mem), f_Re_addToken_73 k0 v1 v3 v4 v5 s = some o → BSnd X 7 82 (ovV o) 73 [some (.inr (.inr (5, k0))), some (.inl v1), none, some (.inl v3), some (.inl v4), some (.inl v5)] [] s := by
  intro k0 v1 v3 v4 v5 s o h
  exact evC (chs := c_Re_addToken) (cuts := cu_Re_addToken) (G := fun pc ls st σ => if pc = 85 then hd_Re_addToken_85 (fun k0 v1 v4 v5 s => f_Re_addToken_85 k0 v1 v4 v5 s) ls st σ else none) hX.2.1 hX.2.2 (F := F_Re_addToken _) (fs_Re_addToken hX _) (rt_V rfl) oc_Re_addToken (by
    intro pc ls st σ o h
    rcases ite_s h with ⟨rfl, h⟩ | ⟨_, h⟩
    · exact hs_Re_addToken_85 (s_Re_addToken_85 hX) _ _ _ _ h
    cases h) 316 73 _ _ _ _ h
set_option maxRecDepth 100000 in
theorem s_Re_addToken {X : CXT} (hX : XC X) : ∀ (k0 : Nat) (v1 : Int32) (v2 : Int32) (s : Mem) (o : Mem), f_Re_addToken k0 v1 v2 s = some o → BSnd X 7 82 (ovV o) 0 (entL [.inr (.inr (5, k0)), .inl v1, .inl v2]) [] s := by
  intro k0 v1 v2 s o h
  rw [f_Re_addToken_eq] at h
  exact evC (chs := c_Re_addToken) (cuts := cu_Re_addToken) (G := fun pc ls st σ => if pc = 85 then hd_Re_addToken_85 (fun k0 v1 v4 v5 s => f_Re_addToken_85 k0 v1 v4 v5 s) ls st σ else if pc = 73 then hd_Re_addToken_73 (fun k0 v1 v3 v4 v5 s => f_Re_addToken_73 k0 v1 v3 v4 v5 s) ls st σ else none) hX.2.1 hX.2.2 (F := F_Re_addToken _) (fs_Re_addToken hX _) (rt_V rfl) oc_Re_addToken (by
    intro pc ls st σ o h
    rcases ite_s h with ⟨rfl, h⟩ | ⟨_, h⟩
    · exact hs_Re_addToken_85 (s_Re_addToken_85 hX) _ _ _ _ h
    rcases ite_s h with ⟨rfl, h⟩ | ⟨_, h⟩
    · exact hs_Re_addToken_73 (s_Re_addToken_73 hX) _ _ _ _ h
    cases h) 316 0 _ _ _ _ h
theorem ok_Re_addToken {X : CXT} (hX : XC X) : SemOK X 7 82 sm_Re_addToken := by
  intro O av σ K o h
  unfold sm_Re_addToken at h
  split at h
  · obtain ⟨r, hf, h⟩ := Option.bind_eq_some_iff.mp h
    exact ⟨ovV r, fun ht => sp_of hX.1 (by decide) (List.mem_range.mpr (by decide)) (by decide +kernel) ht (Nat.le_of_ble_eq_true rfl) (s_Re_addToken hX _ _ _ _ _ hf), trivial, h⟩
  · cases h
