noncomputable def b_Ke_forget (k0 : Nat) (s : Mem) : Option (Mem) :=
  let s1 : Mem := wI s k0 2 ((0 : Int32))
  some s1
noncomputable def f_Ke_forget : Nat → Mem → Option (Mem) := Classical.choose (⟨b_Ke_forget, rfl⟩ : ∃ f : Nat → Mem → Option (Mem), f = b_Ke_forget)
theorem f_Ke_forget_eq : f_Ke_forget = b_Ke_forget := Classical.choose_spec (⟨b_Ke_forget, rfl⟩ : ∃ f : Nat → Mem → Option (Mem), f = b_Ke_forget)
noncomputable def sm_Ke_forget (O : Type) (av : List AV) (σ : Mem) (K : AV → Mem → Option O) : Option O := match av with
  | [.inr (.inr (1, k0))] => (f_Ke_forget k0 σ).bind fun r => K (.inl 0) r
  | _ => none
def c_Ke_forget : List (List CE) := [[(0, .aload_n 0, 1, 0, 0, 0), (1, .iconst 0, 1, 0, 0, 0), (2, .putfield 21, 3, 1, 2, 0), (5, .return_, 1, 0, 0, 0)]]
set_option maxRecDepth 100000 in
theorem oc_Ke_forget : okC 15 c_Ke_forget = true := by decide +kernel
def cu_Ke_forget : List (Nat × List Bool) := []
noncomputable def F_Ke_forget (O : Type) (a : Nat) (av : List AV) (σ : Mem) (K : AV → Mem → Option O) : Option O := none
theorem fs_Ke_forget {X : CXT} (hX : XC X) (O : Type) : FS X 1 (F_Ke_forget O) := by
  intro a av σ K o h
  cases h
set_option maxRecDepth 100000 in
theorem s_Ke_forget {X : CXT} (hX : XC X) : ∀ (k0 : Nat) (s : Mem) (o : Mem), f_Ke_forget k0 s = some o → BSnd X 1 15 (ovV o) 0 (entL [.inr (.inr (1, k0))]) [] s := by
  intro k0 s o h
  rw [f_Ke_forget_eq] at h
  exact evC (chs := c_Ke_forget) (cuts := cu_Ke_forget) (G := fun pc ls st σ => none) hX.2.1 hX.2.2 (F := F_Ke_forget _) (fs_Ke_forget hX _) (rt_V rfl) oc_Ke_forget (by
    intro pc ls st σ o h
    cases h) 56 0 _ _ _ _ h
theorem ok_Ke_forget {X : CXT} (hX : XC X) : SemOK X 1 15 sm_Ke_forget := by
  intro O av σ K o h
  unfold sm_Ke_forget at h
  split at h
  · obtain ⟨r, hf, h⟩ := Option.bind_eq_some_iff.mp h
    exact ⟨ovV r, fun ht => sp_of hX.1 (by decide) (List.mem_range.mpr (by decide)) (by decide +kernel) ht (Nat.le_of_ble_eq_true rfl) (s_Ke_forget hX _ _ _ hf), trivial, h⟩
  · cases h
noncomputable def b_P_state (k0 : Nat) (v1 : Int32) (s : Mem) : Option (Int32 × Mem) :=
  let x1 : Int32 := rI s (k0 + 2) 5
  let s2 : Mem := wI s (k0 + 2) 5 v1
  (f_Ke_forget (k0 + 128) s2).bind fun r3 =>
  some (x1, r3)
noncomputable def f_P_state : Nat → Int32 → Mem → Option (Int32 × Mem) := Classical.choose (⟨b_P_state, rfl⟩ : ∃ f : Nat → Int32 → Mem → Option (Int32 × Mem), f = b_P_state)
theorem f_P_state_eq : f_P_state = b_P_state := Classical.choose_spec (⟨b_P_state, rfl⟩ : ∃ f : Nat → Int32 → Mem → Option (Int32 × Mem), f = b_P_state)
noncomputable def sm_P_state (O : Type) (av : List AV) (σ : Mem) (K : AV → Mem → Option O) : Option O := match av with
  | [.inr (.inr (11, k0)), .inl v1] => (f_P_state k0 v1 σ).bind fun r => K (.inl r.1) r.2
  | _ => none
def c_P_state : List (List CE) := [[(0, .aload_n 0, 1, 0, 0, 0), (1, .getfield 10, 3, 11, 0, 0), (4, .getfield 70, 3, 10, 0, 0), (7, .getfield 73, 3, 4, 5, 0), (10, .istore_n 2, 1, 0, 0, 0), (11, .aload_n 0, 1, 0, 0, 0), (12, .getfield 10, 3, 11, 0, 0), (15, .getfield 70, 3, 10, 0, 0)], [(18, .iload_n 1, 1, 0, 0, 0), (19, .putfield 73, 3, 4, 5, 0), (22, .aload_n 0, 1, 0, 0, 0), (23, .getfield 48, 3, 11, 4, 0), (26, .invokevirtual 77, 3, 15, 1, 2), (29, .iload_n 2, 1, 0, 0, 0), (30, .ireturn, 1, 0, 0, 0)]]
set_option maxRecDepth 100000 in
theorem oc_P_state : okC 14 c_P_state = true := by decide +kernel
def cu_P_state : List (Nat × List Bool) := []
noncomputable def F_P_state (O : Type) (a : Nat) (av : List AV) (σ : Mem) (K : AV → Mem → Option O) : Option O := if a = 15 then sm_Ke_forget O av σ K else none
theorem fs_P_state {X : CXT} (hX : XC X) (O : Type) : FS X 2 (F_P_state O) := by
  intro a av σ K o h
  unfold F_P_state at h
  rcases ite_s h with ⟨rfl, h⟩ | ⟨_, h⟩
  · obtain ⟨r, h1, h2, h3⟩ := ok_Ke_forget hX _ _ _ _ _ h
    exact ⟨r, fun ht => ⟨1, by decide, h1 ht⟩, h2, h3⟩
  cases h
set_option maxRecDepth 100000 in
theorem s_P_state {X : CXT} (hX : XC X) : ∀ (k0 : Nat) (v1 : Int32) (s : Mem) (o : Int32 × Mem), f_P_state k0 v1 s = some o → BSnd X 2 14 (ovI o) 0 (entL [.inr (.inr (11, k0)), .inl v1]) [] s := by
  intro k0 v1 s o h
  rw [f_P_state_eq] at h
  exact evC (chs := c_P_state) (cuts := cu_P_state) (G := fun pc ls st σ => none) hX.2.1 hX.2.2 (F := F_P_state _) (fs_P_state hX _) (rt_I rfl) oc_P_state (by
    intro pc ls st σ o h
    cases h) 100 0 _ _ _ _ h
theorem ok_P_state {X : CXT} (hX : XC X) : SemOK X 2 14 sm_P_state := by
  intro O av σ K o h
  unfold sm_P_state at h
  split at h
  · obtain ⟨r, hf, h⟩ := Option.bind_eq_some_iff.mp h
    exact ⟨ovI r, fun ht => sp_of hX.1 (by decide) (List.mem_range.mpr (by decide)) (by decide +kernel) ht (Nat.le_of_ble_eq_true rfl) (s_P_state hX _ _ _ _ hf), trivial, h⟩
  · cases h
noncomputable def b_P_within (v0 : Int32) (v1 : Int32) (v2 : Int32) (s : Mem) : Option (Bool × Mem) :=
  cif (v0 < v1) (
    some (false, s)) (
    cif (v2 < v0) (
      some (false, s)) (
      some (true, s)))
noncomputable def f_P_within : Int32 → Int32 → Int32 → Mem → Option (Bool × Mem) := Classical.choose (⟨b_P_within, rfl⟩ : ∃ f : Int32 → Int32 → Int32 → Mem → Option (Bool × Mem), f = b_P_within)
theorem f_P_within_eq : f_P_within = b_P_within := Classical.choose_spec (⟨b_P_within, rfl⟩ : ∃ f : Int32 → Int32 → Int32 → Mem → Option (Bool × Mem), f = b_P_within)
noncomputable def sm_P_within (O : Type) (av : List AV) (σ : Mem) (K : AV → Mem → Option O) : Option O := match av with
  | [.inl v0, .inl v1, .inl v2] => (f_P_within v0 v1 v2 σ).bind fun r => K (.inl (b2i r.1)) r.2
  | _ => none
def c_P_within : List (List CE) := [[(0, .iload_n 0, 1, 0, 0, 0), (1, .iload_n 1, 1, 0, 0, 0), (2, .if_icmp .lt 12, 3, 14, 0, 0), (5, .iload_n 0, 1, 0, 0, 0), (6, .iload_n 2, 1, 0, 0, 0), (7, .if_icmp .gt 7, 3, 14, 0, 0), (10, .iconst 1, 1, 1, 0, 0), (11, .goto 4, 3, 15, 0, 0), (14, .iconst 0, 1, 0, 0, 0), (15, .ireturn, 1, 0, 0, 0)]]
set_option maxRecDepth 100000 in
theorem oc_P_within : okC 17 c_P_within = true := by decide +kernel
def cu_P_within : List (Nat × List Bool) := []
noncomputable def F_P_within (O : Type) (a : Nat) (av : List AV) (σ : Mem) (K : AV → Mem → Option O) : Option O := none
theorem fs_P_within {X : CXT} (hX : XC X) (O : Type) : FS X 1 (F_P_within O) := by
  intro a av σ K o h
  cases h
set_option maxRecDepth 100000 in
theorem s_P_within {X : CXT} (hX : XC X) : ∀ (v0 : Int32) (v1 : Int32) (v2 : Int32) (s : Mem) (o : Bool × Mem), f_P_within v0 v1 v2 s = some o → BSnd X 1 17 (ovZ o) 0 (entL [.inl v0, .inl v1, .inl v2]) [] s := by
  intro v0 v1 v2 s o h
  rw [f_P_within_eq] at h
  exact evC (chs := c_P_within) (cuts := cu_P_within) (G := fun pc ls st σ => none) hX.2.1 hX.2.2 (F := F_P_within _) (fs_P_within hX _) (rt_Z rfl) oc_P_within (by
    intro pc ls st σ o h
    cases h) 80 0 _ _ _ _ h
theorem ok_P_within {X : CXT} (hX : XC X) : SemOK X 1 17 sm_P_within := by
  intro O av σ K o h
  unfold sm_P_within at h
  split at h
  · obtain ⟨r, hf, h⟩ := Option.bind_eq_some_iff.mp h
    exact ⟨ovZ r, fun ht => sp_of hX.1 (by decide) (List.mem_range.mpr (by decide)) (by decide +kernel) ht (Nat.le_of_ble_eq_true rfl) (s_P_within hX _ _ _ _ _ hf), trivial, h⟩
  · cases h
noncomputable def b_To_addWalker (k0 : Nat) (v1 : Int32) (v2 : Int32) (v3 : Int32) (s : Mem) : Option (Int32 × Mem) :=
  (f_P_within (rI s k0 7) ((0 : Int32)) ((11 : Int32)) s).bind fun r1 =>
  cif ((b2i r1.1) = 0) (
    some ((-1 : Int32), r1.2)) (
    gd (inb (rI r1.2 k0 7) (lenC (k0 + 1))) <|
    let s2 : Mem := wI r1.2 (k0 + 1) (ix (rI r1.2 k0 7)) v1
    gd (inb (rI s2 k0 7) (lenC (k0 + 2))) <|
    let s3 : Mem := wI s2 (k0 + 2) (ix (rI s2 k0 7)) v2
    gd (inb (rI s3 k0 7) (lenC (k0 + 3))) <|
    let s4 : Mem := wI s3 (k0 + 3) (ix (rI s3 k0 7)) v3
    let s5 : Mem := wI s4 k0 7 ((rI s4 k0 7) + ((1 : Int32)))
    some ((rI s5 k0 7) - ((1 : Int32)), s5))
noncomputable def f_To_addWalker : Nat → Int32 → Int32 → Int32 → Mem → Option (Int32 × Mem) := Classical.choose (⟨b_To_addWalker, rfl⟩ : ∃ f : Nat → Int32 → Int32 → Int32 → Mem → Option (Int32 × Mem), f = b_To_addWalker)
theorem f_To_addWalker_eq : f_To_addWalker = b_To_addWalker := Classical.choose_spec (⟨b_To_addWalker, rfl⟩ : ∃ f : Nat → Int32 → Int32 → Int32 → Mem → Option (Int32 × Mem), f = b_To_addWalker)
noncomputable def sm_To_addWalker (O : Type) (av : List AV) (σ : Mem) (K : AV → Mem → Option O) : Option O := match av with
  | [.inr (.inr (8, k0)), .inl v1, .inl v2, .inl v3] => (f_To_addWalker k0 v1 v2 v3 σ).bind fun r => K (.inl r.1) r.2
  | _ => none
def c_To_addWalker : List (List CE) := [[(0, .aload_n 0, 1, 0, 0, 0), (1, .getfield 43, 3, 8, 7, 0), (4, .iconst 0, 1, 0, 0, 0), (5, .bipush 11, 2, 11, 0, 0), (7, .invokestatic 60, 3, 17, 3, 1), (10, .ifCond .ne 5, 3, 15, 0, 0), (13, .iconst (-1), 1, 1, 0, 1), (14, .ireturn, 1, 0, 0, 0), (15, .aload_n 0, 1, 0, 0, 0)], [(16, .getfield 9, 3, 8, 0, 0), (19, .aload_n 0, 1, 0, 0, 0), (20, .getfield 43, 3, 8, 7, 0), (23, .iload_n 1, 1, 0, 0, 0), (24, .iastore, 1, 0, 0, 0), (25, .aload_n 0, 1, 0, 0, 0), (26, .getfield 15, 3, 8, 1, 0), (29, .aload_n 0, 1, 0, 0, 0), (30, .getfield 43, 3, 8, 7, 0)], [(33, .iload_n 2, 1, 0, 0, 0), (34, .iastore, 1, 0, 0, 0), (35, .aload_n 0, 1, 0, 0, 0), (36, .getfield 18, 3, 8, 2, 0), (39, .aload_n 0, 1, 0, 0, 0), (40, .getfield 43, 3, 8, 7, 0), (43, .iload_n 3, 1, 0, 0, 0), (44, .iastore, 1, 0, 0, 0), (45, .aload_n 0, 1, 0, 0, 0), (46, .dup, 1, 0, 0, 0), (47, .getfield 43, 3, 8, 7, 0)], [(50, .iconst 1, 1, 1, 0, 0), (51, .iadd, 1, 0, 0, 0), (52, .putfield 43, 3, 8, 7, 0), (55, .aload_n 0, 1, 0, 0, 0), (56, .getfield 43, 3, 8, 7, 0), (59, .iconst 1, 1, 1, 0, 0), (60, .isub, 1, 0, 0, 0), (61, .ireturn, 1, 0, 0, 0)]]
set_option maxRecDepth 100000 in
theorem oc_To_addWalker : okC 18 c_To_addWalker = true := by decide +kernel
def cu_To_addWalker : List (Nat × List Bool) := []
noncomputable def F_To_addWalker (O : Type) (a : Nat) (av : List AV) (σ : Mem) (K : AV → Mem → Option O) : Option O := if a = 17 then sm_P_within O av σ K else none
theorem fs_To_addWalker {X : CXT} (hX : XC X) (O : Type) : FS X 2 (F_To_addWalker O) := by
  intro a av σ K o h
  unfold F_To_addWalker at h
  rcases ite_s h with ⟨rfl, h⟩ | ⟨_, h⟩
  · obtain ⟨r, h1, h2, h3⟩ := ok_P_within hX _ _ _ _ _ h
    exact ⟨r, fun ht => ⟨1, by decide, h1 ht⟩, h2, h3⟩
  cases h
set_option maxRecDepth 100000 in
theorem s_To_addWalker {X : CXT} (hX : XC X) : ∀ (k0 : Nat) (v1 : Int32) (v2 : Int32) (v3 : Int32) (s : Mem) (o : Int32 × Mem), f_To_addWalker k0 v1 v2 v3 s = some o → BSnd X 2 18 (ovI o) 0 (entL [.inr (.inr (8, k0)), .inl v1, .inl v2, .inl v3]) [] s := by
  intro k0 v1 v2 v3 s o h
  rw [f_To_addWalker_eq] at h
  exact evC (chs := c_To_addWalker) (cuts := cu_To_addWalker) (G := fun pc ls st σ => none) hX.2.1 hX.2.2 (F := F_To_addWalker _) (fs_To_addWalker hX _) (rt_I rfl) oc_To_addWalker (by
    intro pc ls st σ o h
    cases h) 188 0 _ _ _ _ h
theorem ok_To_addWalker {X : CXT} (hX : XC X) : SemOK X 2 18 sm_To_addWalker := by
  intro O av σ K o h
  unfold sm_To_addWalker at h
  split at h
  · obtain ⟨r, hf, h⟩ := Option.bind_eq_some_iff.mp h
    exact ⟨ovI r, fun ht => sp_of hX.1 (by decide) (List.mem_range.mpr (by decide)) (by decide +kernel) ht (Nat.le_of_ble_eq_true rfl) (s_To_addWalker hX _ _ _ _ _ _ hf), trivial, h⟩
  · cases h
noncomputable def f_P_walker_37 (k0 : Nat) (v1 : Int32) (v2 : Int32) (v3 : Int32) (v4 : Int32) (s : Mem) : Option (Int32 × Mem) :=
  cif (v4 = 0) (
    cif (((-1 : Int32)) = ((-1 : Int32))) (
      some ((-1 : Int32), s)) (
      (f_Ke_forget (k0 + 128) s).bind fun r1 =>
      some ((-1 : Int32), r1))) (
    (f_To_addWalker (k0 + 7) v1 v2 v3 s).bind fun r2 =>
    cif (r2.1 = ((-1 : Int32))) (
      some (r2.1, r2.2)) (
      (f_Ke_forget (k0 + 128) r2.2).bind fun r3 =>
      some (r2.1, r3)))
noncomputable def f_P_walker_34 (k0 : Nat) (v1 : Int32) (v2 : Int32) (v3 : Int32) (s : Mem) : Option (Int32 × Mem) :=
  f_P_walker_37 k0 v1 v2 v3 ((0 : Int32)) s
noncomputable def b_P_walker (k0 : Nat) (v1 : Int32) (v2 : Int32) (v3 : Int32) (s : Mem) : Option (Int32 × Mem) :=
  (f_P_within v1 ((1 : Int32)) ((9 : Int32)) s).bind fun r1 =>
  cif ((b2i r1.1) = 0) (
    f_P_walker_34 k0 v1 v2 v3 r1.2) (
    (f_P_within v2 ((1 : Int32)) ((30 : Int32)) r1.2).bind fun r2 =>
    cif ((b2i r2.1) = 0) (
      f_P_walker_34 k0 v1 v2 v3 r2.2) (
      (f_P_within v3 ((0 : Int32)) ((9 : Int32)) r2.2).bind fun r3 =>
      cif ((b2i r3.1) = 0) (
        f_P_walker_34 k0 v1 v2 v3 r3.2) (
        f_P_walker_37 k0 v1 v2 v3 ((1 : Int32)) r3.2)))
noncomputable def f_P_walker : Nat → Int32 → Int32 → Int32 → Mem → Option (Int32 × Mem) := Classical.choose (⟨b_P_walker, rfl⟩ : ∃ f : Nat → Int32 → Int32 → Int32 → Mem → Option (Int32 × Mem), f = b_P_walker)
theorem f_P_walker_eq : f_P_walker = b_P_walker := Classical.choose_spec (⟨b_P_walker, rfl⟩ : ∃ f : Nat → Int32 → Int32 → Int32 → Mem → Option (Int32 × Mem), f = b_P_walker)
noncomputable def sm_P_walker (O : Type) (av : List AV) (σ : Mem) (K : AV → Mem → Option O) : Option O := match av with
  | [.inr (.inr (11, k0)), .inl v1, .inl v2, .inl v3] => (f_P_walker k0 v1 v2 v3 σ).bind fun r => K (.inl r.1) r.2
  | _ => none
def c_P_walker : List (List CE) := [[(0, .iload_n 1, 1, 0, 0, 0), (1, .iconst 1, 1, 1, 0, 0), (2, .bipush 9, 2, 9, 0, 0), (4, .invokestatic 80, 3, 17, 3, 1), (7, .ifCond .eq 27, 3, 34, 0, 0), (10, .iload_n 2, 1, 0, 0, 0), (11, .iconst 1, 1, 1, 0, 0), (12, .bipush 30, 2, 30, 0, 0), (14, .invokestatic 80, 3, 17, 3, 1)], [(17, .ifCond .eq 17, 3, 34, 0, 0), (20, .iload_n 3, 1, 0, 0, 0), (21, .iconst 0, 1, 0, 0, 0), (22, .bipush 9, 2, 9, 0, 0), (24, .invokestatic 80, 3, 17, 3, 1), (27, .ifCond .eq 7, 3, 34, 0, 0), (30, .iconst 1, 1, 1, 0, 0), (31, .goto 4, 3, 35, 0, 0)], [(34, .iconst 0, 1, 0, 0, 0), (35, .istore 4, 2, 0, 0, 0), (37, .iload 4, 2, 0, 0, 0), (39, .ifCond .eq 19, 3, 58, 0, 0), (42, .aload_n 0, 1, 0, 0, 0), (43, .getfield 10, 3, 11, 0, 0), (46, .getfield 30, 3, 10, 1, 0)], [(49, .iload_n 1, 1, 0, 0, 0), (50, .iload_n 2, 1, 0, 0, 0), (51, .iload_n 3, 1, 0, 0, 0), (52, .invokevirtual 84, 3, 18, 4, 17), (55, .goto 4, 3, 59, 0, 0), (58, .iconst (-1), 1, 1, 0, 1), (59, .istore 5, 2, 0, 0, 0), (61, .iload 5, 2, 0, 0, 0), (63, .iconst (-1), 1, 1, 0, 1)], [(64, .if_icmp .eq 10, 3, 74, 0, 0), (67, .aload_n 0, 1, 0, 0, 0), (68, .getfield 48, 3, 11, 4, 0), (71, .invokevirtual 77, 3, 15, 1, 2), (74, .iload 5, 2, 0, 0, 0), (76, .ireturn, 1, 0, 0, 0)]]
set_option maxRecDepth 100000 in
theorem oc_P_walker : okC 16 c_P_walker = true := by decide +kernel
def cu_P_walker : List (Nat × List Bool) := [(37, [true, true, true, true, true]), (34, [true, true, true, true])]
noncomputable def F_P_walker (O : Type) (a : Nat) (av : List AV) (σ : Mem) (K : AV → Mem → Option O) : Option O := if a = 15 then sm_Ke_forget O av σ K else if a = 17 then sm_P_within O av σ K else if a = 18 then sm_To_addWalker O av σ K else none
theorem fs_P_walker {X : CXT} (hX : XC X) (O : Type) : FS X 3 (F_P_walker O) := by
  intro a av σ K o h
  unfold F_P_walker at h
  rcases ite_s h with ⟨rfl, h⟩ | ⟨_, h⟩
  · obtain ⟨r, h1, h2, h3⟩ := ok_Ke_forget hX _ _ _ _ _ h
    exact ⟨r, fun ht => ⟨1, by decide, h1 ht⟩, h2, h3⟩
  rcases ite_s h with ⟨rfl, h⟩ | ⟨_, h⟩
  · obtain ⟨r, h1, h2, h3⟩ := ok_P_within hX _ _ _ _ _ h
    exact ⟨r, fun ht => ⟨1, by decide, h1 ht⟩, h2, h3⟩
  rcases ite_s h with ⟨rfl, h⟩ | ⟨_, h⟩
  · obtain ⟨r, h1, h2, h3⟩ := ok_To_addWalker hX _ _ _ _ _ h
    exact ⟨r, fun ht => ⟨2, by decide, h1 ht⟩, h2, h3⟩
  cases h
def hd_P_walker_37 {O : Type} (g : Nat → Int32 → Int32 → Int32 → Int32 → Mem → Option O) (ls : OL) (st : List AV) (σ : Mem) : Option O := match ls, st with
  | [some (.inr (.inr (11, k0))), some (.inl v1), some (.inl v2), some (.inl v3), some (.inl v4)], [] => g k0 v1 v2 v3 v4 σ
  | _, _ => none
theorem hs_P_walker_37 {X : CXT} {g : Nat → Int32 → Int32 → Int32 → Int32 → Mem → Option (Int32 × Mem)} (hg : ∀ (k0 : Nat) (v1 : Int32) (v2 : Int32) (v3 : Int32) (v4 : Int32) (s : Mem) (o : Int32 × Mem), g k0 v1 v2 v3 v4 s = some o → BSnd X 3 16 (ovI o) 37 [some (.inr (.inr (11, k0))), some (.inl v1), some (.inl v2), some (.inl v3), some (.inl v4)] [] s) : ∀ ls st σ o, hd_P_walker_37 g ls st σ = some o → BSnd X 3 16 (ovI o) 37 ls st σ := by
  intro ls st σ o h
  unfold hd_P_walker_37 at h
  split at h
  · exact hg _ _ _ _ _ _ _ h
  · cases h
def hd_P_walker_34 {O : Type} (g : Nat → Int32 → Int32 → Int32 → Mem → Option O) (ls : OL) (st : List AV) (σ : Mem) : Option O := match ls, st with
  | [some (.inr (.inr (11, k0))), some (.inl v1), some (.inl v2), some (.inl v3)], [] => g k0 v1 v2 v3 σ
  | _, _ => none
theorem hs_P_walker_34 {X : CXT} {g : Nat → Int32 → Int32 → Int32 → Mem → Option (Int32 × Mem)} (hg : ∀ (k0 : Nat) (v1 : Int32) (v2 : Int32) (v3 : Int32) (s : Mem) (o : Int32 × Mem), g k0 v1 v2 v3 s = some o → BSnd X 3 16 (ovI o) 34 [some (.inr (.inr (11, k0))), some (.inl v1), some (.inl v2), some (.inl v3)] [] s) : ∀ ls st σ o, hd_P_walker_34 g ls st σ = some o → BSnd X 3 16 (ovI o) 34 ls st σ := by
  intro ls st σ o h
  unfold hd_P_walker_34 at h
  split at h
  · exact hg _ _ _ _ _ _ h
  · cases h
set_option maxRecDepth 100000 in
theorem s_P_walker_37 {X : CXT} (hX : XC X) : ∀ (k0 : Nat) (v1 : Int32) (v2 : Int32) (v3 : Int32) (v4 : Int32) (s : Mem) (o : Int32 × Mem), f_P_walker_37 k0 v1 v2 v3 v4 s = some o → BSnd X 3 16 (ovI o) 37 [some (.inr (.inr (11, k0))), some (.inl v1), some (.inl v2), some (.inl v3), some (.inl v4)] [] s := by
  intro k0 v1 v2 v3 v4 s o h
  exact evC (chs := c_P_walker) (cuts := cu_P_walker) (G := fun pc ls st σ => none) hX.2.1 hX.2.2 (F := F_P_walker _) (fs_P_walker hX _) (rt_I rfl) oc_P_walker (by
    intro pc ls st σ o h
    cases h) 196 37 _ _ _ _ h
set_option maxRecDepth 100000 in
theorem s_P_walker_34 {X : CXT} (hX : XC X) : ∀ (k0 : Nat) (v1 : Int32) (v2 : Int32) (v3 : Int32) (s : Mem) (o : Int32 × Mem), f_P_walker_34 k0 v1 v2 v3 s = some o → BSnd X 3 16 (ovI o) 34 [some (.inr (.inr (11, k0))), some (.inl v1), some (.inl v2), some (.inl v3)] [] s := by
  intro k0 v1 v2 v3 s o h
  exact evC (chs := c_P_walker) (cuts := cu_P_walker) (G := fun pc ls st σ => if pc = 37 then hd_P_walker_37 (fun k0 v1 v2 v3 v4 s => f_P_walker_37 k0 v1 v2 v3 v4 s) ls st σ else none) hX.2.1 hX.2.2 (F := F_P_walker _) (fs_P_walker hX _) (rt_I rfl) oc_P_walker (by
    intro pc ls st σ o h
    rcases ite_s h with ⟨rfl, h⟩ | ⟨_, h⟩
    · exact hs_P_walker_37 (s_P_walker_37 hX) _ _ _ _ h
    cases h) 196 34 _ _ _ _ h
set_option maxRecDepth 100000 in
theorem s_P_walker {X : CXT} (hX : XC X) : ∀ (k0 : Nat) (v1 : Int32) (v2 : Int32) (v3 : Int32) (s : Mem) (o : Int32 × Mem), f_P_walker k0 v1 v2 v3 s = some o → BSnd X 3 16 (ovI o) 0 (entL [.inr (.inr (11, k0)), .inl v1, .inl v2, .inl v3]) [] s := by
  intro k0 v1 v2 v3 s o h
  rw [f_P_walker_eq] at h
  exact evC (chs := c_P_walker) (cuts := cu_P_walker) (G := fun pc ls st σ => if pc = 37 then hd_P_walker_37 (fun k0 v1 v2 v3 v4 s => f_P_walker_37 k0 v1 v2 v3 v4 s) ls st σ else if pc = 34 then hd_P_walker_34 (fun k0 v1 v2 v3 s => f_P_walker_34 k0 v1 v2 v3 s) ls st σ else none) hX.2.1 hX.2.2 (F := F_P_walker _) (fs_P_walker hX _) (rt_I rfl) oc_P_walker (by
    intro pc ls st σ o h
    rcases ite_s h with ⟨rfl, h⟩ | ⟨_, h⟩
    · exact hs_P_walker_37 (s_P_walker_37 hX) _ _ _ _ h
    rcases ite_s h with ⟨rfl, h⟩ | ⟨_, h⟩
    · exact hs_P_walker_34 (s_P_walker_34 hX) _ _ _ _ h
    cases h) 196 0 _ _ _ _ h
theorem ok_P_walker {X : CXT} (hX : XC X) : SemOK X 3 16 sm_P_walker := by
  intro O av σ K o h
  unfold sm_P_walker at h
  split at h
  · obtain ⟨r, hf, h⟩ := Option.bind_eq_some_iff.mp h
    exact ⟨ovI r, fun ht => sp_of hX.1 (by decide) (List.mem_range.mpr (by decide)) (by decide +kernel) ht (Nat.le_of_ble_eq_true rfl) (s_P_walker hX _ _ _ _ _ _ hf), trivial, h⟩
  · cases h
noncomputable def b_To_tellWind (k0 : Nat) (v1 : Int32) (s : Mem) : Option (Bool × Mem) :=
  (f_P_within v1 ((0 : Int32)) ((9 : Int32)) s).bind fun r1 =>
  let x2 : Int32 := b2i r1.1
  cif (x2 = 0) (
    let s3 : Mem := wI r1.2 k0 8 (rI r1.2 k0 8)
    lf (rB x2) s3) (
    let s4 : Mem := wI r1.2 k0 8 v1
    lf (rB x2) s4)
noncomputable def f_To_tellWind : Nat → Int32 → Mem → Option (Bool × Mem) := Classical.choose (⟨b_To_tellWind, rfl⟩ : ∃ f : Nat → Int32 → Mem → Option (Bool × Mem), f = b_To_tellWind)
theorem f_To_tellWind_eq : f_To_tellWind = b_To_tellWind := Classical.choose_spec (⟨b_To_tellWind, rfl⟩ : ∃ f : Nat → Int32 → Mem → Option (Bool × Mem), f = b_To_tellWind)
noncomputable def sm_To_tellWind (O : Type) (av : List AV) (σ : Mem) (K : AV → Mem → Option O) : Option O := match av with
  | [.inr (.inr (8, k0)), .inl v1] => (f_To_tellWind k0 v1 σ).bind fun r => K (.inl (b2i r.1)) r.2
  | _ => none
def c_To_tellWind : List (List CE) := [[(0, .iload_n 1, 1, 0, 0, 0), (1, .iconst 0, 1, 0, 0, 0), (2, .bipush 9, 2, 9, 0, 0), (4, .invokestatic 60, 3, 17, 3, 1), (7, .istore_n 2, 1, 0, 0, 0), (8, .aload_n 0, 1, 0, 0, 0), (9, .iload_n 2, 1, 0, 0, 0), (10, .ifCond .eq 7, 3, 17, 0, 0), (13, .iload_n 1, 1, 0, 0, 0), (14, .goto 7, 3, 21, 0, 0)], [(17, .aload_n 0, 1, 0, 0, 0), (18, .getfield 47, 3, 8, 8, 0), (21, .putfield 47, 3, 8, 8, 0), (24, .iload_n 2, 1, 0, 0, 0), (25, .ireturn, 1, 0, 0, 0)]]
set_option maxRecDepth 100000 in
theorem oc_To_tellWind : okC 20 c_To_tellWind = true := by decide +kernel
def cu_To_tellWind : List (Nat × List Bool) := []
noncomputable def F_To_tellWind (O : Type) (a : Nat) (av : List AV) (σ : Mem) (K : AV → Mem → Option O) : Option O := if a = 17 then sm_P_within O av σ K else none
theorem fs_To_tellWind {X : CXT} (hX : XC X) (O : Type) : FS X 2 (F_To_tellWind O) := by
  intro a av σ K o h
  unfold F_To_tellWind at h
  rcases ite_s h with ⟨rfl, h⟩ | ⟨_, h⟩
  · obtain ⟨r, h1, h2, h3⟩ := ok_P_within hX _ _ _ _ _ h
    exact ⟨r, fun ht => ⟨1, by decide, h1 ht⟩, h2, h3⟩
  cases h
set_option maxRecDepth 100000 in
theorem s_To_tellWind {X : CXT} (hX : XC X) : ∀ (k0 : Nat) (v1 : Int32) (s : Mem) (o : Bool × Mem), f_To_tellWind k0 v1 s = some o → BSnd X 2 20 (ovZ o) 0 (entL [.inr (.inr (8, k0)), .inl v1]) [] s := by
  intro k0 v1 s o h
  rw [f_To_tellWind_eq] at h
  exact evC (chs := c_To_tellWind) (cuts := cu_To_tellWind) (G := fun pc ls st σ => none) hX.2.1 hX.2.2 (F := F_To_tellWind _) (fs_To_tellWind hX _) (rt_Z rfl) oc_To_tellWind (by
    intro pc ls st σ o h
    cases h) 100 0 _ _ _ _ h
theorem ok_To_tellWind {X : CXT} (hX : XC X) : SemOK X 2 20 sm_To_tellWind := by
  intro O av σ K o h
  unfold sm_To_tellWind at h
  split at h
  · obtain ⟨r, hf, h⟩ := Option.bind_eq_some_iff.mp h
    exact ⟨ovZ r, fun ht => sp_of hX.1 (by decide) (List.mem_range.mpr (by decide)) (by decide +kernel) ht (Nat.le_of_ble_eq_true rfl) (s_To_tellWind hX _ _ _ _ hf), trivial, h⟩
  · cases h
noncomputable def f_Pi_tellLength_20 : Nat → Nat → Int32 → Mem → Option (Bool × Mem)
  | 0, _, _, _ => none
  | n + 1, k0, v2, s =>
    cif (((200 : Int32)) ≤ v2) (
      some (true, s)) (
      gd (inb v2 (lenC (k0 + 1))) <|
      let s1 : Mem := wI s (k0 + 1) (ix v2) (vp_nar .boolean ((0 : Int32)))
      f_Pi_tellLength_20 n k0 (v2 + (1 : Int32)) s1)
noncomputable def b_Pi_tellLength (k0 : Nat) (v1 : Int32) (s : Mem) : Option (Bool × Mem) :=
  (f_P_within v1 ((0 : Int32)) ((200 : Int32)) s).bind fun r1 =>
  cif ((b2i r1.1) = 0) (
    some (false, r1.2)) (
    let s2 : Mem := wI r1.2 k0 6 v1
    f_Pi_tellLength_20 FU k0 v1 s2)
noncomputable def f_Pi_tellLength : Nat → Int32 → Mem → Option (Bool × Mem) := Classical.choose (⟨b_Pi_tellLength, rfl⟩ : ∃ f : Nat → Int32 → Mem → Option (Bool × Mem), f = b_Pi_tellLength)
theorem f_Pi_tellLength_eq : f_Pi_tellLength = b_Pi_tellLength := Classical.choose_spec (⟨b_Pi_tellLength, rfl⟩ : ∃ f : Nat → Int32 → Mem → Option (Bool × Mem), f = b_Pi_tellLength)
noncomputable def sm_Pi_tellLength (O : Type) (av : List AV) (σ : Mem) (K : AV → Mem → Option O) : Option O := match av with
  | [.inr (.inr (4, k0)), .inl v1] => (f_Pi_tellLength k0 v1 σ).bind fun r => K (.inl (b2i r.1)) r.2
  | _ => none
def c_Pi_tellLength : List (List CE) := [[(0, .iload_n 1, 1, 0, 0, 0), (1, .iconst 0, 1, 0, 0, 0), (2, .sipush 200, 3, 200, 0, 0), (5, .invokestatic 50, 3, 17, 3, 1), (8, .ifCond .ne 5, 3, 13, 0, 0), (11, .iconst 0, 1, 0, 0, 0), (12, .ireturn, 1, 0, 0, 0), (13, .aload_n 0, 1, 0, 0, 0), (14, .iload_n 1, 1, 0, 0, 0), (15, .putfield 29, 3, 4, 6, 0)], [(18, .iload_n 1, 1, 0, 0, 0), (19, .istore_n 2, 1, 0, 0, 0), (20, .iload_n 2, 1, 0, 0, 0), (21, .sipush 200, 3, 200, 0, 0), (24, .if_icmp .ge 16, 3, 40, 0, 0), (27, .aload_n 0, 1, 0, 0, 0), (28, .getfield 9, 3, 4, 1, 0), (31, .iload_n 2, 1, 0, 0, 0)], [(32, .iconst 0, 1, 0, 0, 0), (33, .bastore, 1, 0, 0, 0), (34, .iinc 2 1, 3, 1, 0, 0), (37, .goto (-17), 3, 20, 0, 0), (40, .iconst 1, 1, 1, 0, 0), (41, .ireturn, 1, 0, 0, 0)]]
set_option maxRecDepth 100000 in
theorem oc_Pi_tellLength : okC 21 c_Pi_tellLength = true := by decide +kernel
def cu_Pi_tellLength : List (Nat × List Bool) := [(20, [true, false, true])]
noncomputable def F_Pi_tellLength (O : Type) (a : Nat) (av : List AV) (σ : Mem) (K : AV → Mem → Option O) : Option O := if a = 17 then sm_P_within O av σ K else none
theorem fs_Pi_tellLength {X : CXT} (hX : XC X) (O : Type) : FS X 2 (F_Pi_tellLength O) := by
  intro a av σ K o h
  unfold F_Pi_tellLength at h
  rcases ite_s h with ⟨rfl, h⟩ | ⟨_, h⟩
  · obtain ⟨r, h1, h2, h3⟩ := ok_P_within hX _ _ _ _ _ h
    exact ⟨r, fun ht => ⟨1, by decide, h1 ht⟩, h2, h3⟩
  cases h
def hd_Pi_tellLength_20 {O : Type} (g : Nat → Int32 → Mem → Option O) (ls : OL) (st : List AV) (σ : Mem) : Option O := match ls, st with
  | [some (.inr (.inr (4, k0))), none, some (.inl v2)], [] => g k0 v2 σ
  | _, _ => none
theorem hs_Pi_tellLength_20 {X : CXT} {g : Nat → Int32 → Mem → Option (Bool × Mem)} (hg : ∀ (k0 : Nat) (v2 : Int32) (s : Mem) (o : Bool × Mem), g k0 v2 s = some o → BSnd X 2 21 (ovZ o) 20 [some (.inr (.inr (4, k0))), none, some (.inl v2)] [] s) : ∀ ls st σ o, hd_Pi_tellLength_20 g ls st σ = some o → BSnd X 2 21 (ovZ o) 20 ls st σ := by
  intro ls st σ o h
  unfold hd_Pi_tellLength_20 at h
  split at h
  · exact hg _ _ _ _ h
  · cases h
set_option maxRecDepth 100000 in
theorem s_Pi_tellLength_20 {X : CXT} (hX : XC X) : ∀ n : Nat, ∀ (k0 : Nat) (v2 : Int32) (s : Mem) (o : Bool × Mem), f_Pi_tellLength_20 n k0 v2 s = some o → BSnd X 2 21 (ovZ o) 20 [some (.inr (.inr (4, k0))), none, some (.inl v2)] [] s := by
  intro n
  induction n with
  | zero => intro k0 v2 s o h; cases h
  | succ n ih =>
    intro k0 v2 s o h
    exact evC (chs := c_Pi_tellLength) (cuts := cu_Pi_tellLength) (G := fun pc ls st σ => if pc = 20 then hd_Pi_tellLength_20 (fun k0 v2 s => f_Pi_tellLength_20 n k0 v2 s) ls st σ else none) hX.2.1 hX.2.2 (F := F_Pi_tellLength _) (fs_Pi_tellLength hX _) (rt_Z rfl) oc_Pi_tellLength (by
    intro pc ls st σ o h
    rcases ite_s h with ⟨rfl, h⟩ | ⟨_, h⟩
    · exact hs_Pi_tellLength_20 ih _ _ _ _ h
    cases h) 136 20 _ _ _ _ h
set_option maxRecDepth 100000 in
theorem s_Pi_tellLength {X : CXT} (hX : XC X) : ∀ (k0 : Nat) (v1 : Int32) (s : Mem) (o : Bool × Mem), f_Pi_tellLength k0 v1 s = some o → BSnd X 2 21 (ovZ o) 0 (entL [.inr (.inr (4, k0)), .inl v1]) [] s := by
  intro k0 v1 s o h
  rw [f_Pi_tellLength_eq] at h
  exact evC (chs := c_Pi_tellLength) (cuts := cu_Pi_tellLength) (G := fun pc ls st σ => if pc = 20 then hd_Pi_tellLength_20 (fun k0 v2 s => f_Pi_tellLength_20 FU k0 v2 s) ls st σ else none) hX.2.1 hX.2.2 (F := F_Pi_tellLength _) (fs_Pi_tellLength hX _) (rt_Z rfl) oc_Pi_tellLength (by
    intro pc ls st σ o h
    rcases ite_s h with ⟨rfl, h⟩ | ⟨_, h⟩
    · exact hs_Pi_tellLength_20 (s_Pi_tellLength_20 hX FU) _ _ _ _ h
    cases h) 136 0 _ _ _ _ h
theorem ok_Pi_tellLength {X : CXT} (hX : XC X) : SemOK X 2 21 sm_Pi_tellLength := by
  intro O av σ K o h
  unfold sm_Pi_tellLength at h
  split at h
  · obtain ⟨r, hf, h⟩ := Option.bind_eq_some_iff.mp h
    exact ⟨ovZ r, fun ht => sp_of hX.1 (by decide) (List.mem_range.mpr (by decide)) (by decide +kernel) ht (Nat.le_of_ble_eq_true rfl) (s_Pi_tellLength hX _ _ _ _ hf), trivial, h⟩
  · cases h
noncomputable def b_To_isWalker (k0 : Nat) (v1 : Int32) (s : Mem) : Option (Bool × Mem) :=
  cif (v1 < 0) (
    some (false, s)) (
    cif ((rI s k0 7) ≤ v1) (
      some (false, s)) (
      cif (((12 : Int32)) ≤ v1) (
        some (false, s)) (
        some (true, s))))
noncomputable def f_To_isWalker : Nat → Int32 → Mem → Option (Bool × Mem) := Classical.choose (⟨b_To_isWalker, rfl⟩ : ∃ f : Nat → Int32 → Mem → Option (Bool × Mem), f = b_To_isWalker)
theorem f_To_isWalker_eq : f_To_isWalker = b_To_isWalker := Classical.choose_spec (⟨b_To_isWalker, rfl⟩ : ∃ f : Nat → Int32 → Mem → Option (Bool × Mem), f = b_To_isWalker)
noncomputable def sm_To_isWalker (O : Type) (av : List AV) (σ : Mem) (K : AV → Mem → Option O) : Option O := match av with
  | [.inr (.inr (8, k0)), .inl v1] => (f_To_isWalker k0 v1 σ).bind fun r => K (.inl (b2i r.1)) r.2
  | _ => none
def c_To_isWalker : List (List CE) := [[(0, .iload_n 1, 1, 0, 0, 0), (1, .ifCond .lt 21, 3, 22, 0, 0), (4, .iload_n 1, 1, 0, 0, 0), (5, .aload_n 0, 1, 0, 0, 0), (6, .getfield 43, 3, 8, 7, 0), (9, .if_icmp .ge 13, 3, 22, 0, 0), (12, .iload_n 1, 1, 0, 0, 0), (13, .bipush 12, 2, 12, 0, 0), (15, .if_icmp .ge 7, 3, 22, 0, 0)], [(18, .iconst 1, 1, 1, 0, 0), (19, .goto 4, 3, 23, 0, 0), (22, .iconst 0, 1, 0, 0, 0), (23, .ireturn, 1, 0, 0, 0)]]
set_option maxRecDepth 100000 in
theorem oc_To_isWalker : okC 22 c_To_isWalker = true := by decide +kernel
def cu_To_isWalker : List (Nat × List Bool) := []
noncomputable def F_To_isWalker (O : Type) (a : Nat) (av : List AV) (σ : Mem) (K : AV → Mem → Option O) : Option O := none
theorem fs_To_isWalker {X : CXT} (hX : XC X) (O : Type) : FS X 1 (F_To_isWalker O) := by
  intro a av σ K o h
  cases h
set_option maxRecDepth 100000 in
theorem s_To_isWalker {X : CXT} (hX : XC X) : ∀ (k0 : Nat) (v1 : Int32) (s : Mem) (o : Bool × Mem), f_To_isWalker k0 v1 s = some o → BSnd X 1 22 (ovZ o) 0 (entL [.inr (.inr (8, k0)), .inl v1]) [] s := by
  intro k0 v1 s o h
  rw [f_To_isWalker_eq] at h
  exact evC (chs := c_To_isWalker) (cuts := cu_To_isWalker) (G := fun pc ls st σ => none) hX.2.1 hX.2.2 (F := F_To_isWalker _) (fs_To_isWalker hX _) (rt_Z rfl) oc_To_isWalker (by
    intro pc ls st σ o h
    cases h) 92 0 _ _ _ _ h
theorem ok_To_isWalker {X : CXT} (hX : XC X) : SemOK X 1 22 sm_To_isWalker := by
  intro O av σ K o h
  unfold sm_To_isWalker at h
  split at h
  · obtain ⟨r, hf, h⟩ := Option.bind_eq_some_iff.mp h
    exact ⟨ovZ r, fun ht => sp_of hX.1 (by decide) (List.mem_range.mpr (by decide)) (by decide +kernel) ht (Nat.le_of_ble_eq_true rfl) (s_To_isWalker hX _ _ _ _ hf), trivial, h⟩
  · cases h
noncomputable def b_Pi_isOnPier (k0 : Nat) (v1 : Int32) (s : Mem) : Option (Bool × Mem) :=
  (f_P_within v1 ((0 : Int32)) ((11 : Int32)) s).bind fun r1 =>
  cif ((b2i r1.1) = 0) (
    some (false, r1.2)) (
    gd (inb v1 (lenC (k0 + 2))) <|
    cif ((rI r1.2 (k0 + 2) (ix v1)) = ((-1 : Int32))) (
      some (false, r1.2)) (
      some (true, r1.2)))
noncomputable def f_Pi_isOnPier : Nat → Int32 → Mem → Option (Bool × Mem) := Classical.choose (⟨b_Pi_isOnPier, rfl⟩ : ∃ f : Nat → Int32 → Mem → Option (Bool × Mem), f = b_Pi_isOnPier)
theorem f_Pi_isOnPier_eq : f_Pi_isOnPier = b_Pi_isOnPier := Classical.choose_spec (⟨b_Pi_isOnPier, rfl⟩ : ∃ f : Nat → Int32 → Mem → Option (Bool × Mem), f = b_Pi_isOnPier)
noncomputable def sm_Pi_isOnPier (O : Type) (av : List AV) (σ : Mem) (K : AV → Mem → Option O) : Option O := match av with
  | [.inr (.inr (4, k0)), .inl v1] => (f_Pi_isOnPier k0 v1 σ).bind fun r => K (.inl (b2i r.1)) r.2
  | _ => none
def c_Pi_isOnPier : List (List CE) := [[(0, .iload_n 1, 1, 0, 0, 0), (1, .iconst 0, 1, 0, 0, 0), (2, .bipush 11, 2, 11, 0, 0), (4, .invokestatic 50, 3, 17, 3, 1), (7, .ifCond .eq 17, 3, 24, 0, 0), (10, .aload_n 0, 1, 0, 0, 0), (11, .getfield 15, 3, 4, 2, 0), (14, .iload_n 1, 1, 0, 0, 0), (15, .iaload, 1, 0, 0, 0)], [(16, .iconst (-1), 1, 1, 0, 1), (17, .if_icmp .eq 7, 3, 24, 0, 0), (20, .iconst 1, 1, 1, 0, 0), (21, .goto 4, 3, 25, 0, 0), (24, .iconst 0, 1, 0, 0, 0), (25, .ireturn, 1, 0, 0, 0)]]
set_option maxRecDepth 100000 in
theorem oc_Pi_isOnPier : okC 23 c_Pi_isOnPier = true := by decide +kernel
def cu_Pi_isOnPier : List (Nat × List Bool) := []
noncomputable def F_Pi_isOnPier (O : Type) (a : Nat) (av : List AV) (σ : Mem) (K : AV → Mem → Option O) : Option O := if a = 17 then sm_P_within O av σ K else none
theorem fs_Pi_isOnPier {X : CXT} (hX : XC X) (O : Type) : FS X 2 (F_Pi_isOnPier O) := by
  intro a av σ K o h
  unfold F_Pi_isOnPier at h
  rcases ite_s h with ⟨rfl, h⟩ | ⟨_, h⟩
  · obtain ⟨r, h1, h2, h3⟩ := ok_P_within hX _ _ _ _ _ h
    exact ⟨r, fun ht => ⟨1, by decide, h1 ht⟩, h2, h3⟩
  cases h
set_option maxRecDepth 100000 in
theorem s_Pi_isOnPier {X : CXT} (hX : XC X) : ∀ (k0 : Nat) (v1 : Int32) (s : Mem) (o : Bool × Mem), f_Pi_isOnPier k0 v1 s = some o → BSnd X 2 23 (ovZ o) 0 (entL [.inr (.inr (4, k0)), .inl v1]) [] s := by
  intro k0 v1 s o h
  rw [f_Pi_isOnPier_eq] at h
  exact evC (chs := c_Pi_isOnPier) (cuts := cu_Pi_isOnPier) (G := fun pc ls st σ => none) hX.2.1 hX.2.2 (F := F_Pi_isOnPier _) (fs_Pi_isOnPier hX _) (rt_Z rfl) oc_Pi_isOnPier (by
    intro pc ls st σ o h
    cases h) 100 0 _ _ _ _ h
theorem ok_Pi_isOnPier {X : CXT} (hX : XC X) : SemOK X 2 23 sm_Pi_isOnPier := by
  intro O av σ K o h
  unfold sm_Pi_isOnPier at h
  split at h
  · obtain ⟨r, hf, h⟩ := Option.bind_eq_some_iff.mp h
    exact ⟨ovZ r, fun ht => sp_of hX.1 (by decide) (List.mem_range.mpr (by decide)) (by decide +kernel) ht (Nat.le_of_ble_eq_true rfl) (s_Pi_isOnPier hX _ _ _ _ hf), trivial, h⟩
  · cases h
noncomputable def f_To_tellWalker_26 (k0 : Nat) (v1 : Int32) (v2 : Int32) (v3 : Int32) (v4 : Int32) (v5 : Int32) (s : Mem) : Option (Bool × Mem) :=
  (f_To_isWalker k0 v2 s).bind fun r1 =>
  cif ((b2i r1.1) = 0) (
    some (false, r1.2)) (
    (f_P_within v3 v4 v5 r1.2).bind fun r2 =>
    cif ((b2i r2.1) = 0) (
      some (false, r2.2)) (
      cif (v1 = ((2 : Int32))) (
        gd (inb v2 (lenC (k0 + 1))) <|
        let s3 : Mem := wI r2.2 (k0 + 1) (ix v2) v3
        some (true, s3)) (
        cif (v1 = ((3 : Int32))) (
          gd (inb v2 (lenC (k0 + 2))) <|
          let s4 : Mem := wI r2.2 (k0 + 2) (ix v2) v3
          some (true, s4)) (
          gd (inb v2 (lenC (k0 + 3))) <|
          let s5 : Mem := wI r2.2 (k0 + 3) (ix v2) v3
          some (true, s5)))))
noncomputable def f_To_tellWalker_12 (k0 : Nat) (v1 : Int32) (v2 : Int32) (v3 : Int32) (v4 : Int32) (s : Mem) : Option (Bool × Mem) :=
  cif (v1 = ((3 : Int32))) (
    f_To_tellWalker_26 k0 v1 v2 v3 v4 ((30 : Int32)) s) (
    f_To_tellWalker_26 k0 v1 v2 v3 v4 ((9 : Int32)) s)
noncomputable def b_To_tellWalker (k0 : Nat) (v1 : Int32) (v2 : Int32) (v3 : Int32) (s : Mem) : Option (Bool × Mem) :=
  cif (v1 = ((4 : Int32))) (
    f_To_tellWalker_12 k0 v1 v2 v3 ((0 : Int32)) s) (
    f_To_tellWalker_12 k0 v1 v2 v3 ((1 : Int32)) s)
noncomputable def f_To_tellWalker : Nat → Int32 → Int32 → Int32 → Mem → Option (Bool × Mem) := Classical.choose (⟨b_To_tellWalker, rfl⟩ : ∃ f : Nat → Int32 → Int32 → Int32 → Mem → Option (Bool × Mem), f = b_To_tellWalker)
theorem f_To_tellWalker_eq : f_To_tellWalker = b_To_tellWalker := Classical.choose_spec (⟨b_To_tellWalker, rfl⟩ : ∃ f : Nat → Int32 → Int32 → Int32 → Mem → Option (Bool × Mem), f = b_To_tellWalker)
noncomputable def sm_To_tellWalker (O : Type) (av : List AV) (σ : Mem) (K : AV → Mem → Option O) : Option O := match av with
  | [.inr (.inr (8, k0)), .inl v1, .inl v2, .inl v3] => (f_To_tellWalker k0 v1 v2 v3 σ).bind fun r => K (.inl (b2i r.1)) r.2
  | _ => none
def c_To_tellWalker : List (List CE) := [[(0, .iload_n 1, 1, 0, 0, 0), (1, .iconst 4, 1, 4, 0, 0), (2, .if_icmp .ne 7, 3, 9, 0, 0), (5, .iconst 0, 1, 0, 0, 0), (6, .goto 4, 3, 10, 0, 0), (9, .iconst 1, 1, 1, 0, 0), (10, .istore 4, 2, 0, 0, 0), (12, .iload_n 1, 1, 0, 0, 0), (13, .iconst 3, 1, 3, 0, 0), (14, .if_icmp .ne 8, 3, 22, 0, 0)], [(17, .bipush 30, 2, 30, 0, 0), (19, .goto 5, 3, 24, 0, 0), (22, .bipush 9, 2, 9, 0, 0), (24, .istore 5, 2, 0, 0, 0), (26, .aload_n 0, 1, 0, 0, 0), (27, .iload_n 2, 1, 0, 0, 0), (28, .invokevirtual 64, 3, 22, 2, 17), (31, .ifCond .eq 14, 3, 45, 0, 0)], [(34, .iload_n 3, 1, 0, 0, 0), (35, .iload 4, 2, 0, 0, 0), (37, .iload 5, 2, 0, 0, 0), (39, .invokestatic 60, 3, 17, 3, 1), (42, .ifCond .ne 5, 3, 47, 0, 0), (45, .iconst 0, 1, 0, 0, 0), (46, .ireturn, 1, 0, 0, 0), (47, .iload_n 1, 1, 0, 0, 0)], [(48, .iconst 2, 1, 2, 0, 0), (49, .if_icmp .ne 13, 3, 62, 0, 0), (52, .aload_n 0, 1, 0, 0, 0), (53, .getfield 9, 3, 8, 0, 0), (56, .iload_n 2, 1, 0, 0, 0), (57, .iload_n 3, 1, 0, 0, 0), (58, .iastore, 1, 0, 0, 0), (59, .goto 25, 3, 84, 0, 0), (62, .iload_n 1, 1, 0, 0, 0), (63, .iconst 3, 1, 3, 0, 0)], [(64, .if_icmp .ne 13, 3, 77, 0, 0), (67, .aload_n 0, 1, 0, 0, 0), (68, .getfield 15, 3, 8, 1, 0), (71, .iload_n 2, 1, 0, 0, 0), (72, .iload_n 3, 1, 0, 0, 0), (73, .iastore, 1, 0, 0, 0), (74, .goto 10, 3, 84, 0, 0), (77, .aload_n 0, 1, 0, 0, 0), (78, .getfield 18, 3, 8, 2, 0)], [(81, .iload_n 2, 1, 0, 0, 0), (82, .iload_n 3, 1, 0, 0, 0), (83, .iastore, 1, 0, 0, 0), (84, .iconst 1, 1, 1, 0, 0), (85, .ireturn, 1, 0, 0, 0)]]
set_option maxRecDepth 100000 in
theorem oc_To_tellWalker : okC 24 c_To_tellWalker = true := by decide +kernel
def cu_To_tellWalker : List (Nat × List Bool) := [(26, [true, true, true, true, true, true]), (12, [true, true, true, true, true])]
noncomputable def F_To_tellWalker (O : Type) (a : Nat) (av : List AV) (σ : Mem) (K : AV → Mem → Option O) : Option O := if a = 17 then sm_P_within O av σ K else if a = 22 then sm_To_isWalker O av σ K else none
theorem fs_To_tellWalker {X : CXT} (hX : XC X) (O : Type) : FS X 2 (F_To_tellWalker O) := by
  intro a av σ K o h
  unfold F_To_tellWalker at h
  rcases ite_s h with ⟨rfl, h⟩ | ⟨_, h⟩
  · obtain ⟨r, h1, h2, h3⟩ := ok_P_within hX _ _ _ _ _ h
    exact ⟨r, fun ht => ⟨1, by decide, h1 ht⟩, h2, h3⟩
  rcases ite_s h with ⟨rfl, h⟩ | ⟨_, h⟩
  · obtain ⟨r, h1, h2, h3⟩ := ok_To_isWalker hX _ _ _ _ _ h
    exact ⟨r, fun ht => ⟨1, by decide, h1 ht⟩, h2, h3⟩
  cases h
def hd_To_tellWalker_26 {O : Type} (g : Nat → Int32 → Int32 → Int32 → Int32 → Int32 → Mem → Option O) (ls : OL) (st : List AV) (σ : Mem) : Option O := match ls, st with
  | [some (.inr (.inr (8, k0))), some (.inl v1), some (.inl v2), some (.inl v3), some (.inl v4), some (.inl v5)], [] => g k0 v1 v2 v3 v4 v5 σ
  | _, _ => none
theorem hs_To_tellWalker_26 {X : CXT} {g : Nat → Int32 → Int32 → Int32 → Int32 → Int32 → Mem → Option (Bool × Mem)} (hg : ∀ (k0 : Nat) (v1 : Int32) (v2 : Int32) (v3 : Int32) (v4 : Int32) (v5 : Int32) (s : Mem) (o : Bool × Mem), g k0 v1 v2 v3 v4 v5 s = some o → BSnd X 2 24 (ovZ o) 26 [some (.inr (.inr (8, k0))), some (.inl v1), some (.inl v2), some (.inl v3), some (.inl v4), some (.inl v5)] [] s) : ∀ ls st σ o, hd_To_tellWalker_26 g ls st σ = some o → BSnd X 2 24 (ovZ o) 26 ls st σ := by
  intro ls st σ o h
  unfold hd_To_tellWalker_26 at h
  split at h
  · exact hg _ _ _ _ _ _ _ _ h
  · cases h
def hd_To_tellWalker_12 {O : Type} (g : Nat → Int32 → Int32 → Int32 → Int32 → Mem → Option O) (ls : OL) (st : List AV) (σ : Mem) : Option O := match ls, st with
  | [some (.inr (.inr (8, k0))), some (.inl v1), some (.inl v2), some (.inl v3), some (.inl v4)], [] => g k0 v1 v2 v3 v4 σ
  | _, _ => none
theorem hs_To_tellWalker_12 {X : CXT} {g : Nat → Int32 → Int32 → Int32 → Int32 → Mem → Option (Bool × Mem)} (hg : ∀ (k0 : Nat) (v1 : Int32) (v2 : Int32) (v3 : Int32) (v4 : Int32) (s : Mem) (o : Bool × Mem), g k0 v1 v2 v3 v4 s = some o → BSnd X 2 24 (ovZ o) 12 [some (.inr (.inr (8, k0))), some (.inl v1), some (.inl v2), some (.inl v3), some (.inl v4)] [] s) : ∀ ls st σ o, hd_To_tellWalker_12 g ls st σ = some o → BSnd X 2 24 (ovZ o) 12 ls st σ := by
  intro ls st σ o h
  unfold hd_To_tellWalker_12 at h
  split at h
  · exact hg _ _ _ _ _ _ _ h
  · cases h
set_option maxRecDepth 100000 in
theorem s_To_tellWalker_26 {X : CXT} (hX : XC X) : ∀ (k0 : Nat) (v1 : Int32) (v2 : Int32) (v3 : Int32) (v4 : Int32) (v5 : Int32) (s : Mem) (o : Bool × Mem), f_To_tellWalker_26 k0 v1 v2 v3 v4 v5 s = some o → BSnd X 2 24 (ovZ o) 26 [some (.inr (.inr (8, k0))), some (.inl v1), some (.inl v2), some (.inl v3), some (.inl v4), some (.inl v5)] [] s := by
  intro k0 v1 v2 v3 v4 v5 s o h
  exact evC (chs := c_To_tellWalker) (cuts := cu_To_tellWalker) (G := fun pc ls st σ => none) hX.2.1 hX.2.2 (F := F_To_tellWalker _) (fs_To_tellWalker hX _) (rt_Z rfl) oc_To_tellWalker (by
    intro pc ls st σ o h
    cases h) 240 26 _ _ _ _ h
set_option maxRecDepth 100000 in
theorem s_To_tellWalker_12 {X : CXT} (hX : XC X) : ∀ (k0 : Nat) (v1 : Int32) (v2 : Int32) (v3 : Int32) (v4 : Int32) (s : Mem) (o : Bool × Mem), f_To_tellWalker_12 k0 v1 v2 v3 v4 s = some o → BSnd X 2 24 (ovZ o) 12 [some (.inr (.inr (8, k0))), some (.inl v1), some (.inl v2), some (.inl v3), some (.inl v4)] [] s := by
  intro k0 v1 v2 v3 v4 s o h
  exact evC (chs := c_To_tellWalker) (cuts := cu_To_tellWalker) (G := fun pc ls st σ => if pc = 26 then hd_To_tellWalker_26 (fun k0 v1 v2 v3 v4 v5 s => f_To_tellWalker_26 k0 v1 v2 v3 v4 v5 s) ls st σ else none) hX.2.1 hX.2.2 (F := F_To_tellWalker _) (fs_To_tellWalker hX _) (rt_Z rfl) oc_To_tellWalker (by
    intro pc ls st σ o h
    rcases ite_s h with ⟨rfl, h⟩ | ⟨_, h⟩
    · exact hs_To_tellWalker_26 (s_To_tellWalker_26 hX) _ _ _ _ h
    cases h) 240 12 _ _ _ _ h
set_option maxRecDepth 100000 in
theorem s_To_tellWalker {X : CXT} (hX : XC X) : ∀ (k0 : Nat) (v1 : Int32) (v2 : Int32) (v3 : Int32) (s : Mem) (o : Bool × Mem), f_To_tellWalker k0 v1 v2 v3 s = some o → BSnd X 2 24 (ovZ o) 0 (entL [.inr (.inr (8, k0)), .inl v1, .inl v2, .inl v3]) [] s := by
  intro k0 v1 v2 v3 s o h
  rw [f_To_tellWalker_eq] at h
  exact evC (chs := c_To_tellWalker) (cuts := cu_To_tellWalker) (G := fun pc ls st σ => if pc = 12 then hd_To_tellWalker_12 (fun k0 v1 v2 v3 v4 s => f_To_tellWalker_12 k0 v1 v2 v3 v4 s) ls st σ else none) hX.2.1 hX.2.2 (F := F_To_tellWalker _) (fs_To_tellWalker hX _) (rt_Z rfl) oc_To_tellWalker (by
    intro pc ls st σ o h
    rcases ite_s h with ⟨rfl, h⟩ | ⟨_, h⟩
    · exact hs_To_tellWalker_12 (s_To_tellWalker_12 hX) _ _ _ _ h
    cases h) 240 0 _ _ _ _ h
theorem ok_To_tellWalker {X : CXT} (hX : XC X) : SemOK X 2 24 sm_To_tellWalker := by
  intro O av σ K o h
  unfold sm_To_tellWalker at h
  split at h
  · obtain ⟨r, hf, h⟩ := Option.bind_eq_some_iff.mp h
    exact ⟨ovZ r, fun ht => sp_of hX.1 (by decide) (List.mem_range.mpr (by decide)) (by decide +kernel) ht (Nat.le_of_ble_eq_true rfl) (s_To_tellWalker hX _ _ _ _ _ _ hf), trivial, h⟩
  · cases h
noncomputable def b_P_isPart (v0 : Int32) (s : Mem) : Option (Bool × Mem) :=
  (f_P_within v0 ((0 : Int32)) ((9 : Int32)) s).bind fun r1 =>
  lf (rB (b2i r1.1)) r1.2
noncomputable def f_P_isPart : Int32 → Mem → Option (Bool × Mem) := Classical.choose (⟨b_P_isPart, rfl⟩ : ∃ f : Int32 → Mem → Option (Bool × Mem), f = b_P_isPart)
theorem f_P_isPart_eq : f_P_isPart = b_P_isPart := Classical.choose_spec (⟨b_P_isPart, rfl⟩ : ∃ f : Int32 → Mem → Option (Bool × Mem), f = b_P_isPart)
noncomputable def sm_P_isPart (O : Type) (av : List AV) (σ : Mem) (K : AV → Mem → Option O) : Option O := match av with
  | [.inl v0] => (f_P_isPart v0 σ).bind fun r => K (.inl (b2i r.1)) r.2
  | _ => none
def c_P_isPart : List (List CE) := [[(0, .iload_n 0, 1, 0, 0, 0), (1, .iconst 0, 1, 0, 0, 0), (2, .bipush 9, 2, 9, 0, 0), (4, .invokestatic 80, 3, 17, 3, 1), (7, .ireturn, 1, 0, 0, 0)]]
set_option maxRecDepth 100000 in
theorem oc_P_isPart : okC 26 c_P_isPart = true := by decide +kernel
def cu_P_isPart : List (Nat × List Bool) := []
noncomputable def F_P_isPart (O : Type) (a : Nat) (av : List AV) (σ : Mem) (K : AV → Mem → Option O) : Option O := if a = 17 then sm_P_within O av σ K else none
theorem fs_P_isPart {X : CXT} (hX : XC X) (O : Type) : FS X 2 (F_P_isPart O) := by
  intro a av σ K o h
  unfold F_P_isPart at h
  rcases ite_s h with ⟨rfl, h⟩ | ⟨_, h⟩
  · obtain ⟨r, h1, h2, h3⟩ := ok_P_within hX _ _ _ _ _ h
    exact ⟨r, fun ht => ⟨1, by decide, h1 ht⟩, h2, h3⟩
  cases h
set_option maxRecDepth 100000 in
theorem s_P_isPart {X : CXT} (hX : XC X) : ∀ (v0 : Int32) (s : Mem) (o : Bool × Mem), f_P_isPart v0 s = some o → BSnd X 2 26 (ovZ o) 0 (entL [.inl v0]) [] s := by
  intro v0 s o h
  rw [f_P_isPart_eq] at h
  exact evC (chs := c_P_isPart) (cuts := cu_P_isPart) (G := fun pc ls st σ => none) hX.2.1 hX.2.2 (F := F_P_isPart _) (fs_P_isPart hX _) (rt_Z rfl) oc_P_isPart (by
    intro pc ls st σ o h
    cases h) 60 0 _ _ _ _ h
theorem ok_P_isPart {X : CXT} (hX : XC X) : SemOK X 2 26 sm_P_isPart := by
  intro O av σ K o h
  unfold sm_P_isPart at h
  split at h
  · obtain ⟨r, hf, h⟩ := Option.bind_eq_some_iff.mp h
    exact ⟨ovZ r, fun ht => sp_of hX.1 (by decide) (List.mem_range.mpr (by decide)) (by decide +kernel) ht (Nat.le_of_ble_eq_true rfl) (s_P_isPart hX _ _ _ hf), trivial, h⟩
  · cases h
noncomputable def b_To_tellStrong (k0 : Nat) (v1 : Int32) (v2 : Int32) (s : Mem) : Option (Bool × Mem) :=
  (f_P_isPart v1 s).bind fun r1 =>
  cif ((b2i r1.1) = 0) (
    some (false, r1.2)) (
    (f_P_within v2 ((0 : Int32)) ((1 : Int32)) r1.2).bind fun r2 =>
    cif ((b2i r2.1) = 0) (
      some (false, r2.2)) (
      let x3 : Int32 := ((1 : Int32)) <<< (v1 &&& 31)
      cif (v2 = ((1 : Int32))) (
        let s4 : Mem := wI r2.2 k0 9 ((rI r2.2 k0 9) ||| x3)
        some (true, s4)) (
        let s5 : Mem := wI r2.2 k0 9 ((rI r2.2 k0 9) &&& (x3 ^^^ ((-1 : Int32))))
        some (true, s5))))
noncomputable def f_To_tellStrong : Nat → Int32 → Int32 → Mem → Option (Bool × Mem) := Classical.choose (⟨b_To_tellStrong, rfl⟩ : ∃ f : Nat → Int32 → Int32 → Mem → Option (Bool × Mem), f = b_To_tellStrong)
theorem f_To_tellStrong_eq : f_To_tellStrong = b_To_tellStrong := Classical.choose_spec (⟨b_To_tellStrong, rfl⟩ : ∃ f : Nat → Int32 → Int32 → Mem → Option (Bool × Mem), f = b_To_tellStrong)
noncomputable def sm_To_tellStrong (O : Type) (av : List AV) (σ : Mem) (K : AV → Mem → Option O) : Option O := match av with
  | [.inr (.inr (8, k0)), .inl v1, .inl v2] => (f_To_tellStrong k0 v1 v2 σ).bind fun r => K (.inl (b2i r.1)) r.2
  | _ => none
def c_To_tellStrong : List (List CE) := [[(0, .iload_n 1, 1, 0, 0, 0), (1, .invokestatic 68, 3, 26, 1, 1), (4, .ifCond .eq 12, 3, 16, 0, 0), (7, .iload_n 2, 1, 0, 0, 0), (8, .iconst 0, 1, 0, 0, 0), (9, .iconst 1, 1, 1, 0, 0), (10, .invokestatic 60, 3, 17, 3, 1), (13, .ifCond .ne 5, 3, 18, 0, 0)], [(16, .iconst 0, 1, 0, 0, 0), (17, .ireturn, 1, 0, 0, 0), (18, .iconst 1, 1, 1, 0, 0), (19, .iload_n 1, 1, 0, 0, 0), (20, .ishl, 1, 0, 0, 0), (21, .istore_n 3, 1, 0, 0, 0), (22, .aload_n 0, 1, 0, 0, 0), (23, .iload_n 2, 1, 0, 0, 0), (24, .iconst 1, 1, 1, 0, 0), (25, .if_icmp .ne 12, 3, 37, 0, 0), (28, .aload_n 0, 1, 0, 0, 0), (29, .getfield 50, 3, 8, 9, 0)], [(32, .iload_n 3, 1, 0, 0, 0), (33, .ior, 1, 0, 0, 0), (34, .goto 11, 3, 45, 0, 0), (37, .aload_n 0, 1, 0, 0, 0), (38, .getfield 50, 3, 8, 9, 0), (41, .iload_n 3, 1, 0, 0, 0), (42, .iconst (-1), 1, 1, 0, 1), (43, .ixor, 1, 0, 0, 0), (44, .iand, 1, 0, 0, 0), (45, .putfield 50, 3, 8, 9, 0)], [(48, .iconst 1, 1, 1, 0, 0), (49, .ireturn, 1, 0, 0, 0)]]
set_option maxRecDepth 100000 in
theorem oc_To_tellStrong : okC 25 c_To_tellStrong = true := by decide +kernel
def cu_To_tellStrong : List (Nat × List Bool) := []
noncomputable def F_To_tellStrong (O : Type) (a : Nat) (av : List AV) (σ : Mem) (K : AV → Mem → Option O) : Option O := if a = 17 then sm_P_within O av σ K else if a = 26 then sm_P_isPart O av σ K else none
theorem fs_To_tellStrong {X : CXT} (hX : XC X) (O : Type) : FS X 3 (F_To_tellStrong O) := by
  intro a av σ K o h
  unfold F_To_tellStrong at h
  rcases ite_s h with ⟨rfl, h⟩ | ⟨_, h⟩
  · obtain ⟨r, h1, h2, h3⟩ := ok_P_within hX _ _ _ _ _ h
    exact ⟨r, fun ht => ⟨1, by decide, h1 ht⟩, h2, h3⟩
  rcases ite_s h with ⟨rfl, h⟩ | ⟨_, h⟩
  · obtain ⟨r, h1, h2, h3⟩ := ok_P_isPart hX _ _ _ _ _ h
    exact ⟨r, fun ht => ⟨2, by decide, h1 ht⟩, h2, h3⟩
  cases h
set_option maxRecDepth 100000 in
theorem s_To_tellStrong {X : CXT} (hX : XC X) : ∀ (k0 : Nat) (v1 : Int32) (v2 : Int32) (s : Mem) (o : Bool × Mem), f_To_tellStrong k0 v1 v2 s = some o → BSnd X 3 25 (ovZ o) 0 (entL [.inr (.inr (8, k0)), .inl v1, .inl v2]) [] s := by
  intro k0 v1 v2 s o h
  rw [f_To_tellStrong_eq] at h
  exact evC (chs := c_To_tellStrong) (cuts := cu_To_tellStrong) (G := fun pc ls st σ => none) hX.2.1 hX.2.2 (F := F_To_tellStrong _) (fs_To_tellStrong hX _) (rt_Z rfl) oc_To_tellStrong (by
    intro pc ls st σ o h
    cases h) 168 0 _ _ _ _ h
theorem ok_To_tellStrong {X : CXT} (hX : XC X) : SemOK X 3 25 sm_To_tellStrong := by
  intro O av σ K o h
  unfold sm_To_tellStrong at h
  split at h
  · obtain ⟨r, hf, h⟩ := Option.bind_eq_some_iff.mp h
    exact ⟨ovZ r, fun ht => sp_of hX.1 (by decide) (List.mem_range.mpr (by decide)) (by decide +kernel) ht (Nat.le_of_ble_eq_true rfl) (s_To_tellStrong hX _ _ _ _ _ hf), trivial, h⟩
  · cases h
noncomputable def b_P_set (k0 : Nat) (v1 : Int32) (v2 : Int32) (v3 : Int32) (s : Mem) : Option (Bool × Mem) :=
  cif (v1 = (0 : Int32)) (
    (f_To_tellWind (k0 + 7) v3 s).bind fun r1 =>
    let x2 : Int32 := b2i r1.1
    cif (x2 = 0) (
      lf (rB x2) r1.2) (
      (f_Ke_forget (k0 + 128) r1.2).bind fun r3 =>
      lf (rB x2) r3)) (
    cif (v1 = (1 : Int32)) (
      (f_Pi_tellLength (k0 + 2) v3 s).bind fun r4 =>
      let x5 : Int32 := b2i r4.1
      cif (x5 = 0) (
        lf (rB x5) r4.2) (
        (f_Ke_forget (k0 + 128) r4.2).bind fun r6 =>
        lf (rB x5) r6)) (
      cif (v1 = (2 : Int32)) (
        (f_To_isWalker (k0 + 7) v2 s).bind fun r7 =>
        cif ((b2i r7.1) = 0) (
          cif (((0 : Int32)) = 0) (
            some (false, r7.2)) (
            (f_Ke_forget (k0 + 128) r7.2).bind fun r8 =>
            some (false, r8))) (
          (f_Pi_isOnPier (k0 + 2) v2 r7.2).bind fun r9 =>
          cif ((b2i r9.1) = 0) (
            (f_To_tellWalker (k0 + 7) v1 v2 v3 r9.2).bind fun r10 =>
            cif ((b2i r10.1) = 0) (
              cif (((0 : Int32)) = 0) (
                some (false, r10.2)) (
                (f_Ke_forget (k0 + 128) r10.2).bind fun r11 =>
                some (false, r11))) (
              cif (((1 : Int32)) = 0) (
                some (true, r10.2)) (
                (f_Ke_forget (k0 + 128) r10.2).bind fun r12 =>
                some (true, r12)))) (
            cif (((0 : Int32)) = 0) (
              some (false, r9.2)) (
              (f_Ke_forget (k0 + 128) r9.2).bind fun r13 =>
              some (false, r13))))) (
        cif (v1 = (3 : Int32)) (
          (f_To_isWalker (k0 + 7) v2 s).bind fun r14 =>
          cif ((b2i r14.1) = 0) (
            cif (((0 : Int32)) = 0) (
              some (false, r14.2)) (
              (f_Ke_forget (k0 + 128) r14.2).bind fun r15 =>
              some (false, r15))) (
            (f_Pi_isOnPier (k0 + 2) v2 r14.2).bind fun r16 =>
            cif ((b2i r16.1) = 0) (
              (f_To_tellWalker (k0 + 7) v1 v2 v3 r16.2).bind fun r17 =>
              cif ((b2i r17.1) = 0) (
                cif (((0 : Int32)) = 0) (
                  some (false, r17.2)) (
                  (f_Ke_forget (k0 + 128) r17.2).bind fun r18 =>
                  some (false, r18))) (
                cif (((1 : Int32)) = 0) (
                  some (true, r17.2)) (
                  (f_Ke_forget (k0 + 128) r17.2).bind fun r19 =>
                  some (true, r19)))) (
              cif (((0 : Int32)) = 0) (
                some (false, r16.2)) (
                (f_Ke_forget (k0 + 128) r16.2).bind fun r20 =>
                some (false, r20))))) (
          cif (v1 = (4 : Int32)) (
            (f_To_isWalker (k0 + 7) v2 s).bind fun r21 =>
            cif ((b2i r21.1) = 0) (
              cif (((0 : Int32)) = 0) (
                some (false, r21.2)) (
                (f_Ke_forget (k0 + 128) r21.2).bind fun r22 =>
                some (false, r22))) (
              (f_Pi_isOnPier (k0 + 2) v2 r21.2).bind fun r23 =>
              cif ((b2i r23.1) = 0) (
                (f_To_tellWalker (k0 + 7) v1 v2 v3 r23.2).bind fun r24 =>
                cif ((b2i r24.1) = 0) (
                  cif (((0 : Int32)) = 0) (
                    some (false, r24.2)) (
                    (f_Ke_forget (k0 + 128) r24.2).bind fun r25 =>
                    some (false, r25))) (
                  cif (((1 : Int32)) = 0) (
                    some (true, r24.2)) (
                    (f_Ke_forget (k0 + 128) r24.2).bind fun r26 =>
                    some (true, r26)))) (
                cif (((0 : Int32)) = 0) (
                  some (false, r23.2)) (
                  (f_Ke_forget (k0 + 128) r23.2).bind fun r27 =>
                  some (false, r27))))) (
            cif (v1 = (5 : Int32)) (
              (f_To_tellStrong (k0 + 7) v2 v3 s).bind fun r28 =>
              let x29 : Int32 := b2i r28.1
              cif (x29 = 0) (
                lf (rB x29) r28.2) (
                (f_Ke_forget (k0 + 128) r28.2).bind fun r30 =>
                lf (rB x29) r30)) (
              cif (((0 : Int32)) = 0) (
                some (false, s)) (
                (f_Ke_forget (k0 + 128) s).bind fun r31 =>
                some (false, r31))))))))
noncomputable def f_P_set : Nat → Int32 → Int32 → Int32 → Mem → Option (Bool × Mem) := Classical.choose (⟨b_P_set, rfl⟩ : ∃ f : Nat → Int32 → Int32 → Int32 → Mem → Option (Bool × Mem), f = b_P_set)
theorem f_P_set_eq : f_P_set = b_P_set := Classical.choose_spec (⟨b_P_set, rfl⟩ : ∃ f : Nat → Int32 → Int32 → Int32 → Mem → Option (Bool × Mem), f = b_P_set)
noncomputable def sm_P_set (O : Type) (av : List AV) (σ : Mem) (K : AV → Mem → Option O) : Option O := match av with
  | [.inr (.inr (11, k0)), .inl v1, .inl v2, .inl v3] => (f_P_set k0 v1 v2 v3 σ).bind fun r => K (.inl (b2i r.1)) r.2
  | _ => none
def c_P_set : List (List CE) := [[(0, .iload_n 1, 1, 0, 0, 0), (1, .tableswitch 142 0 5 #[39, 55, 71, 71, 71, 125], 39, 0, 0, 0)], [], [(40, .aload_n 0, 1, 0, 0, 0), (41, .getfield 10, 3, 11, 0, 0), (44, .getfield 30, 3, 10, 1, 0), (47, .iload_n 3, 1, 0, 0, 0)], [(48, .invokevirtual 90, 3, 20, 2, 17), (51, .istore 4, 2, 0, 0, 0), (53, .goto 93, 3, 146, 0, 0), (56, .aload_n 0, 1, 0, 0, 0), (57, .getfield 10, 3, 11, 0, 0), (60, .getfield 70, 3, 10, 0, 0), (63, .iload_n 3, 1, 0, 0, 0)], [(64, .invokevirtual 94, 3, 21, 2, 9), (67, .istore 4, 2, 0, 0, 0), (69, .goto 77, 3, 146, 0, 0), (72, .aload_n 0, 1, 0, 0, 0), (73, .getfield 10, 3, 11, 0, 0), (76, .getfield 30, 3, 10, 1, 0), (79, .iload_n 2, 1, 0, 0, 0)], [(80, .invokevirtual 97, 3, 22, 2, 17), (83, .ifCond .eq 37, 3, 120, 0, 0), (86, .aload_n 0, 1, 0, 0, 0), (87, .getfield 10, 3, 11, 0, 0), (90, .getfield 70, 3, 10, 0, 0), (93, .iload_n 2, 1, 0, 0, 0), (94, .invokevirtual 100, 3, 23, 2, 9)], [(97, .ifCond .ne 23, 3, 120, 0, 0), (100, .aload_n 0, 1, 0, 0, 0), (101, .getfield 10, 3, 11, 0, 0), (104, .getfield 30, 3, 10, 1, 0), (107, .iload_n 1, 1, 0, 0, 0), (108, .iload_n 2, 1, 0, 0, 0), (109, .iload_n 3, 1, 0, 0, 0), (110, .invokevirtual 103, 3, 24, 4, 17)], [(113, .ifCond .eq 7, 3, 120, 0, 0), (116, .iconst 1, 1, 1, 0, 0), (117, .goto 4, 3, 121, 0, 0), (120, .iconst 0, 1, 0, 0, 0), (121, .istore 4, 2, 0, 0, 0), (123, .goto 23, 3, 146, 0, 0), (126, .aload_n 0, 1, 0, 0, 0), (127, .getfield 10, 3, 11, 0, 0)], [(130, .getfield 30, 3, 10, 1, 0), (133, .iload_n 2, 1, 0, 0, 0), (134, .iload_n 3, 1, 0, 0, 0), (135, .invokevirtual 106, 3, 25, 3, 17), (138, .istore 4, 2, 0, 0, 0), (140, .goto 6, 3, 146, 0, 0), (143, .iconst 0, 1, 0, 0, 0)], [(144, .istore 4, 2, 0, 0, 0), (146, .iload 4, 2, 0, 0, 0), (148, .ifCond .eq 10, 3, 158, 0, 0), (151, .aload_n 0, 1, 0, 0, 0), (152, .getfield 48, 3, 11, 4, 0), (155, .invokevirtual 77, 3, 15, 1, 2), (158, .iload 4, 2, 0, 0, 0)], [(160, .ireturn, 1, 0, 0, 0)]]
set_option maxRecDepth 100000 in
theorem oc_P_set : okC 19 c_P_set = true := by decide +kernel
def cu_P_set : List (Nat × List Bool) := []
noncomputable def F_P_set (O : Type) (a : Nat) (av : List AV) (σ : Mem) (K : AV → Mem → Option O) : Option O := if a = 15 then sm_Ke_forget O av σ K else if a = 20 then sm_To_tellWind O av σ K else if a = 21 then sm_Pi_tellLength O av σ K else if a = 22 then sm_To_isWalker O av σ K else if a = 23 then sm_Pi_isOnPier O av σ K else if a = 24 then sm_To_tellWalker O av σ K else if a = 25 then sm_To_tellStrong O av σ K else none
theorem fs_P_set {X : CXT} (hX : XC X) (O : Type) : FS X 4 (F_P_set O) := by
  intro a av σ K o h
  unfold F_P_set at h
  rcases ite_s h with ⟨rfl, h⟩ | ⟨_, h⟩
  · obtain ⟨r, h1, h2, h3⟩ := ok_Ke_forget hX _ _ _ _ _ h
    exact ⟨r, fun ht => ⟨1, by decide, h1 ht⟩, h2, h3⟩
  rcases ite_s h with ⟨rfl, h⟩ | ⟨_, h⟩
  · obtain ⟨r, h1, h2, h3⟩ := ok_To_tellWind hX _ _ _ _ _ h
    exact ⟨r, fun ht => ⟨2, by decide, h1 ht⟩, h2, h3⟩
  rcases ite_s h with ⟨rfl, h⟩ | ⟨_, h⟩
  · obtain ⟨r, h1, h2, h3⟩ := ok_Pi_tellLength hX _ _ _ _ _ h
    exact ⟨r, fun ht => ⟨2, by decide, h1 ht⟩, h2, h3⟩
  rcases ite_s h with ⟨rfl, h⟩ | ⟨_, h⟩
  · obtain ⟨r, h1, h2, h3⟩ := ok_To_isWalker hX _ _ _ _ _ h
    exact ⟨r, fun ht => ⟨1, by decide, h1 ht⟩, h2, h3⟩
  rcases ite_s h with ⟨rfl, h⟩ | ⟨_, h⟩
  · obtain ⟨r, h1, h2, h3⟩ := ok_Pi_isOnPier hX _ _ _ _ _ h
    exact ⟨r, fun ht => ⟨2, by decide, h1 ht⟩, h2, h3⟩
  rcases ite_s h with ⟨rfl, h⟩ | ⟨_, h⟩
  · obtain ⟨r, h1, h2, h3⟩ := ok_To_tellWalker hX _ _ _ _ _ h
    exact ⟨r, fun ht => ⟨2, by decide, h1 ht⟩, h2, h3⟩
  rcases ite_s h with ⟨rfl, h⟩ | ⟨_, h⟩
  · obtain ⟨r, h1, h2, h3⟩ := ok_To_tellStrong hX _ _ _ _ _ h
    exact ⟨r, fun ht => ⟨3, by decide, h1 ht⟩, h2, h3⟩
  cases h
set_option maxRecDepth 100000 in
theorem s_P_set {X : CXT} (hX : XC X) : ∀ (k0 : Nat) (v1 : Int32) (v2 : Int32) (v3 : Int32) (s : Mem) (o : Bool × Mem), f_P_set k0 v1 v2 v3 s = some o → BSnd X 4 19 (ovZ o) 0 (entL [.inr (.inr (11, k0)), .inl v1, .inl v2, .inl v3]) [] s := by
  intro k0 v1 v2 v3 s o h
  rw [f_P_set_eq] at h
  exact evC (chs := c_P_set) (cuts := cu_P_set) (G := fun pc ls st σ => none) hX.2.1 hX.2.2 (F := F_P_set _) (fs_P_set hX _) (rt_Z rfl) oc_P_set (by
    intro pc ls st σ o h
    cases h) 272 0 _ _ _ _ h
theorem ok_P_set {X : CXT} (hX : XC X) : SemOK X 4 19 sm_P_set := by
  intro O av σ K o h
  unfold sm_P_set at h
  split at h
  · obtain ⟨r, hf, h⟩ := Option.bind_eq_some_iff.mp h
    exact ⟨ovZ r, fun ht => sp_of hX.1 (by decide) (List.mem_range.mpr (by decide)) (by decide +kernel) ht (Nat.le_of_ble_eq_true rfl) (s_P_set hX _ _ _ _ _ _ hf), trivial, h⟩
  · cases h
noncomputable def b_P_isDeed (v0 : Int32) (v1 : Int32) (s : Mem) : Option (Bool × Mem) :=
  (f_P_within v0 ((0 : Int32)) ((5 : Int32)) s).bind fun r1 =>
  cif ((b2i r1.1) = 0) (
    some (false, r1.2)) (
    (f_P_within v1 ((0 : Int32)) ((99 : Int32)) r1.2).bind fun r2 =>
    cif ((b2i r2.1) = 0) (
      some (false, r2.2)) (
      some (true, r2.2)))
noncomputable def f_P_isDeed : Int32 → Int32 → Mem → Option (Bool × Mem) := Classical.choose (⟨b_P_isDeed, rfl⟩ : ∃ f : Int32 → Int32 → Mem → Option (Bool × Mem), f = b_P_isDeed)
theorem f_P_isDeed_eq : f_P_isDeed = b_P_isDeed := Classical.choose_spec (⟨b_P_isDeed, rfl⟩ : ∃ f : Int32 → Int32 → Mem → Option (Bool × Mem), f = b_P_isDeed)
noncomputable def sm_P_isDeed (O : Type) (av : List AV) (σ : Mem) (K : AV → Mem → Option O) : Option O := match av with
  | [.inl v0, .inl v1] => (f_P_isDeed v0 v1 σ).bind fun r => K (.inl (b2i r.1)) r.2
  | _ => none
def c_P_isDeed : List (List CE) := [[(0, .iload_n 0, 1, 0, 0, 0), (1, .iconst 0, 1, 0, 0, 0), (2, .iconst 5, 1, 5, 0, 0), (3, .invokestatic 80, 3, 17, 3, 1), (6, .ifCond .eq 17, 3, 23, 0, 0), (9, .iload_n 1, 1, 0, 0, 0), (10, .iconst 0, 1, 0, 0, 0), (11, .bipush 99, 2, 99, 0, 0), (13, .invokestatic 80, 3, 17, 3, 1)], [(16, .ifCond .eq 7, 3, 23, 0, 0), (19, .iconst 1, 1, 1, 0, 0), (20, .goto 4, 3, 24, 0, 0), (23, .iconst 0, 1, 0, 0, 0), (24, .ireturn, 1, 0, 0, 0)]]
set_option maxRecDepth 100000 in
theorem oc_P_isDeed : okC 28 c_P_isDeed = true := by decide +kernel
def cu_P_isDeed : List (Nat × List Bool) := []
noncomputable def F_P_isDeed (O : Type) (a : Nat) (av : List AV) (σ : Mem) (K : AV → Mem → Option O) : Option O := if a = 17 then sm_P_within O av σ K else none
theorem fs_P_isDeed {X : CXT} (hX : XC X) (O : Type) : FS X 2 (F_P_isDeed O) := by
  intro a av σ K o h
  unfold F_P_isDeed at h
  rcases ite_s h with ⟨rfl, h⟩ | ⟨_, h⟩
  · obtain ⟨r, h1, h2, h3⟩ := ok_P_within hX _ _ _ _ _ h
    exact ⟨r, fun ht => ⟨1, by decide, h1 ht⟩, h2, h3⟩
  cases h
set_option maxRecDepth 100000 in
theorem s_P_isDeed {X : CXT} (hX : XC X) : ∀ (v0 : Int32) (v1 : Int32) (s : Mem) (o : Bool × Mem), f_P_isDeed v0 v1 s = some o → BSnd X 2 28 (ovZ o) 0 (entL [.inl v0, .inl v1]) [] s := by
  intro v0 v1 s o h
  rw [f_P_isDeed_eq] at h
  exact evC (chs := c_P_isDeed) (cuts := cu_P_isDeed) (G := fun pc ls st σ => none) hX.2.1 hX.2.2 (F := F_P_isDeed _) (fs_P_isDeed hX _) (rt_Z rfl) oc_P_isDeed (by
    intro pc ls st σ o h
    cases h) 96 0 _ _ _ _ h
theorem ok_P_isDeed {X : CXT} (hX : XC X) : SemOK X 2 28 sm_P_isDeed := by
  intro O av σ K o h
  unfold sm_P_isDeed at h
  split at h
  · obtain ⟨r, hf, h⟩ := Option.bind_eq_some_iff.mp h
    exact ⟨ovZ r, fun ht => sp_of hX.1 (by decide) (List.mem_range.mpr (by decide)) (by decide +kernel) ht (Nat.le_of_ble_eq_true rfl) (s_P_isDeed hX _ _ _ _ hf), trivial, h⟩
  · cases h
noncomputable def b_Ma_floorMod (v0 : Int32) (v1 : Int32) (s : Mem) : Option (Int32 × Mem) :=
  if v1 = 0 then none else
  let x1 : Int32 := v0 - v0 / v1 * v1
  cif (0 ≤ (v0 ^^^ v1)) (
    some (x1, s)) (
    cif (x1 = 0) (
      some (x1, s)) (
      some (x1 + v1, s)))
noncomputable def f_Ma_floorMod : Int32 → Int32 → Mem → Option (Int32 × Mem) := Classical.choose (⟨b_Ma_floorMod, rfl⟩ : ∃ f : Int32 → Int32 → Mem → Option (Int32 × Mem), f = b_Ma_floorMod)
theorem f_Ma_floorMod_eq : f_Ma_floorMod = b_Ma_floorMod := Classical.choose_spec (⟨b_Ma_floorMod, rfl⟩ : ∃ f : Int32 → Int32 → Mem → Option (Int32 × Mem), f = b_Ma_floorMod)
noncomputable def sm_Ma_floorMod (O : Type) (av : List AV) (σ : Mem) (K : AV → Mem → Option O) : Option O := match av with
  | [.inl v0, .inl v1] => (f_Ma_floorMod v0 v1 σ).bind fun r => K (.inl r.1) r.2
  | _ => none
def c_Ma_floorMod : List (List CE) := [[(0, .iload_n 0, 1, 0, 0, 0), (1, .iload_n 1, 1, 0, 0, 0), (2, .irem, 1, 0, 0, 0), (3, .istore_n 2, 1, 0, 0, 0), (4, .iload_n 0, 1, 0, 0, 0), (5, .iload_n 1, 1, 0, 0, 0), (6, .ixor, 1, 0, 0, 0), (7, .ifCond .ge 11, 3, 18, 0, 0), (10, .iload_n 2, 1, 0, 0, 0), (11, .ifCond .eq 7, 3, 18, 0, 0), (14, .iload_n 2, 1, 0, 0, 0), (15, .iload_n 1, 1, 0, 0, 0)], [(16, .iadd, 1, 0, 0, 0), (17, .ireturn, 1, 0, 0, 0), (18, .iload_n 2, 1, 0, 0, 0), (19, .ireturn, 1, 0, 0, 0)]]
set_option maxRecDepth 100000 in
theorem oc_Ma_floorMod : okC 30 c_Ma_floorMod = true := by decide +kernel
def cu_Ma_floorMod : List (Nat × List Bool) := []
noncomputable def F_Ma_floorMod (O : Type) (a : Nat) (av : List AV) (σ : Mem) (K : AV → Mem → Option O) : Option O := none
theorem fs_Ma_floorMod {X : CXT} (hX : XJ X) (O : Type) : FS X 1 (F_Ma_floorMod O) := by
  intro a av σ K o h
  cases h
set_option maxRecDepth 100000 in
theorem s_Ma_floorMod {X : CXT} (hX : XJ X) : ∀ (v0 : Int32) (v1 : Int32) (s : Mem) (o : Int32 × Mem), f_Ma_floorMod v0 v1 s = some o → BSnd X 1 30 (ovI o) 0 (entL [.inl v0, .inl v1]) [] s := by
  intro v0 v1 s o h
  rw [f_Ma_floorMod_eq] at h
  exact evC (chs := c_Ma_floorMod) (cuts := cu_Ma_floorMod) (G := fun pc ls st σ => none) rfl hX.2 (F := F_Ma_floorMod _) (fs_Ma_floorMod hX _) (rt_I rfl) oc_Ma_floorMod (by
    intro pc ls st σ o h
    cases h) 104 0 _ _ _ _ h
theorem ok_Ma_floorMod {X : CXT} (hX : XJ X) : SemOK X 1 30 sm_Ma_floorMod := by
  intro O av σ K o h
  unfold sm_Ma_floorMod at h
  split at h
  · obtain ⟨r, hf, h⟩ := Option.bind_eq_some_iff.mp h
    exact ⟨ovI r, fun ht => sp_of hX.1 (by decide) (List.mem_range.mpr (by decide)) (by decide +kernel) ht (Nat.le_of_ble_eq_true rfl) (s_Ma_floorMod hX _ _ _ _ hf), trivial, h⟩
  · cases h
noncomputable def f_Pi_copyFrom_2 (K27 : Nat → Nat → Mem → Option (Mem)) : Nat → Nat → Nat → Int32 → Mem → Option (Mem)
  | 0, _, _, _, _ => none
  | n + 1, k0, k1, v2, s =>
    cif (((200 : Int32)) ≤ v2) (
      K27 k0 k1 s) (
      gd (inb v2 (lenC (k1 + 1))) <|
      gd (inb v2 (lenC (k0 + 1))) <|
      let s1 : Mem := wI s (k0 + 1) (ix v2) (vp_nar .boolean (rI s (k1 + 1) (ix v2)))
      f_Pi_copyFrom_2 K27 n k0 k1 (v2 + (1 : Int32)) s1)
noncomputable def f_Pi_copyFrom_29 (K77 : Nat → Nat → Mem → Option (Mem)) : Nat → Nat → Nat → Int32 → Mem → Option (Mem)
  | 0, _, _, _, _ => none
  | n + 1, k0, k1, v2, s =>
    cif (((12 : Int32)) ≤ v2) (
      K77 k0 k1 s) (
      gd (inb v2 (lenC (k1 + 2))) <|
      gd (inb v2 (lenC (k0 + 2))) <|
      let s1 : Mem := wI s (k0 + 2) (ix v2) (rI s (k1 + 2) (ix v2))
      gd (inb v2 (lenC (k1 + 3))) <|
      gd (inb v2 (lenC (k0 + 3))) <|
      let s2 : Mem := wI s1 (k0 + 3) (ix v2) (vp_nar .boolean (rI s1 (k1 + 3) (ix v2)))
      gd (inb v2 (lenC (k1 + 4))) <|
      gd (inb v2 (lenC (k0 + 4))) <|
      let s3 : Mem := wI s2 (k0 + 4) (ix v2) (rI s2 (k1 + 4) (ix v2))
      f_Pi_copyFrom_29 K77 n k0 k1 (v2 + (1 : Int32)) s3)
noncomputable def f_Pi_copyFrom_77 (k0 : Nat) (k1 : Nat) (s : Mem) : Option (Mem) :=
  let s1 : Mem := wI s k0 5 (rI s k1 5)
  let s2 : Mem := wI s1 k0 6 (rI s1 k1 6)
  let s3 : Mem := wI s2 k0 7 (rI s2 k1 7)
  let s4 : Mem := wI s3 k0 8 (rI s3 k1 8)
  let s5 : Mem := wI s4 k0 9 (rI s4 k1 9)
  let s6 : Mem := wI s5 k0 10 (rI s5 k1 10)
  some s6
noncomputable def f_Pi_copyFrom_27 (k0 : Nat) (k1 : Nat) (s : Mem) : Option (Mem) :=
  f_Pi_copyFrom_29 (fun k0 k1 s => f_Pi_copyFrom_77 k0 k1 s) FU k0 k1 ((0 : Int32)) s
noncomputable def b_Pi_copyFrom (k0 : Nat) (k1 : Nat) (s : Mem) : Option (Mem) :=
  f_Pi_copyFrom_2 (fun k0 k1 s => f_Pi_copyFrom_27 k0 k1 s) FU k0 k1 ((0 : Int32)) s
noncomputable def f_Pi_copyFrom : Nat → Nat → Mem → Option (Mem) := Classical.choose (⟨b_Pi_copyFrom, rfl⟩ : ∃ f : Nat → Nat → Mem → Option (Mem), f = b_Pi_copyFrom)
theorem f_Pi_copyFrom_eq : f_Pi_copyFrom = b_Pi_copyFrom := Classical.choose_spec (⟨b_Pi_copyFrom, rfl⟩ : ∃ f : Nat → Nat → Mem → Option (Mem), f = b_Pi_copyFrom)
noncomputable def sm_Pi_copyFrom (O : Type) (av : List AV) (σ : Mem) (K : AV → Mem → Option O) : Option O := match av with
  | [.inr (.inr (4, k0)), .inr (.inr (4, k1))] => (f_Pi_copyFrom k0 k1 σ).bind fun r => K (.inl 0) r
  | _ => none
def c_Pi_copyFrom : List (List CE) := [[(0, .iconst 0, 1, 0, 0, 0), (1, .istore_n 2, 1, 0, 0, 0), (2, .iload_n 2, 1, 0, 0, 0), (3, .sipush 200, 3, 200, 0, 0), (6, .if_icmp .ge 21, 3, 27, 0, 0), (9, .aload_n 0, 1, 0, 0, 0), (10, .getfield 9, 3, 4, 1, 0), (13, .iload_n 2, 1, 0, 0, 0), (14, .aload_n 1, 1, 0, 0, 0), (15, .getfield 9, 3, 4, 1, 0)], [(18, .iload_n 2, 1, 0, 0, 0), (19, .baload, 1, 0, 0, 0), (20, .bastore, 1, 0, 0, 0), (21, .iinc 2 1, 3, 1, 0, 0), (24, .goto (-22), 3, 2, 0, 0), (27, .iconst 0, 1, 0, 0, 0), (28, .istore_n 2, 1, 0, 0, 0), (29, .iload_n 2, 1, 0, 0, 0), (30, .bipush 12, 2, 12, 0, 0)], [(32, .if_icmp .ge 45, 3, 77, 0, 0), (35, .aload_n 0, 1, 0, 0, 0), (36, .getfield 15, 3, 4, 2, 0), (39, .iload_n 2, 1, 0, 0, 0), (40, .aload_n 1, 1, 0, 0, 0), (41, .getfield 15, 3, 4, 2, 0), (44, .iload_n 2, 1, 0, 0, 0), (45, .iaload, 1, 0, 0, 0), (46, .iastore, 1, 0, 0, 0), (47, .aload_n 0, 1, 0, 0, 0)], [(48, .getfield 19, 3, 4, 3, 0), (51, .iload_n 2, 1, 0, 0, 0), (52, .aload_n 1, 1, 0, 0, 0), (53, .getfield 19, 3, 4, 3, 0), (56, .iload_n 2, 1, 0, 0, 0), (57, .baload, 1, 0, 0, 0), (58, .bastore, 1, 0, 0, 0), (59, .aload_n 0, 1, 0, 0, 0), (60, .getfield 22, 3, 4, 4, 0), (63, .iload_n 2, 1, 0, 0, 0)], [(64, .aload_n 1, 1, 0, 0, 0), (65, .getfield 22, 3, 4, 4, 0), (68, .iload_n 2, 1, 0, 0, 0), (69, .iaload, 1, 0, 0, 0), (70, .iastore, 1, 0, 0, 0), (71, .iinc 2 1, 3, 1, 0, 0), (74, .goto (-45), 3, 29, 0, 0), (77, .aload_n 0, 1, 0, 0, 0), (78, .aload_n 1, 1, 0, 0, 0), (79, .getfield 25, 3, 4, 5, 0)], [(82, .putfield 25, 3, 4, 5, 0), (85, .aload_n 0, 1, 0, 0, 0), (86, .aload_n 1, 1, 0, 0, 0), (87, .getfield 29, 3, 4, 6, 0), (90, .putfield 29, 3, 4, 6, 0), (93, .aload_n 0, 1, 0, 0, 0), (94, .aload_n 1, 1, 0, 0, 0), (95, .getfield 32, 3, 4, 7, 0)], [(98, .putfield 32, 3, 4, 7, 0), (101, .aload_n 0, 1, 0, 0, 0), (102, .aload_n 1, 1, 0, 0, 0), (103, .getfield 35, 3, 4, 8, 0), (106, .putfield 35, 3, 4, 8, 0), (109, .aload_n 0, 1, 0, 0, 0), (110, .aload_n 1, 1, 0, 0, 0), (111, .getfield 38, 3, 4, 9, 0)], [(114, .putfield 38, 3, 4, 9, 0), (117, .aload_n 0, 1, 0, 0, 0), (118, .aload_n 1, 1, 0, 0, 0), (119, .getfield 41, 3, 4, 10, 0), (122, .putfield 41, 3, 4, 10, 0), (125, .return_, 1, 0, 0, 0)]]
set_option maxRecDepth 100000 in
theorem oc_Pi_copyFrom : okC 31 c_Pi_copyFrom = true := by decide +kernel
def cu_Pi_copyFrom : List (Nat × List Bool) := [(2, [true, true, true]), (29, [true, true, true]), (77, [true, true]), (27, [true, true])]
noncomputable def F_Pi_copyFrom (O : Type) (a : Nat) (av : List AV) (σ : Mem) (K : AV → Mem → Option O) : Option O := none
theorem fs_Pi_copyFrom {X : CXT} (hX : XC X) (O : Type) : FS X 1 (F_Pi_copyFrom O) := by
  intro a av σ K o h
  cases h
def hd_Pi_copyFrom_2 {O : Type} (g : Nat → Nat → Int32 → Mem → Option O) (ls : OL) (st : List AV) (σ : Mem) : Option O := match ls, st with
  | [some (.inr (.inr (4, k0))), some (.inr (.inr (4, k1))), some (.inl v2)], [] => g k0 k1 v2 σ
  | _, _ => none
theorem hs_Pi_copyFrom_2 {X : CXT} {g : Nat → Nat → Int32 → Mem → Option (Mem)} (hg : ∀ (k0 : Nat) (k1 : Nat) (v2 : Int32) (s : Mem) (o : Mem), g k0 k1 v2 s = some o → BSnd X 1 31 (ovV o) 2 [some (.inr (.inr (4, k0))), some (.inr (.inr (4, k1))), some (.inl v2)] [] s) : ∀ ls st σ o, hd_Pi_copyFrom_2 g ls st σ = some o → BSnd X 1 31 (ovV o) 2 ls st σ := by
  intro ls st σ o h
  unfold hd_Pi_copyFrom_2 at h
  split at h
  · exact hg _ _ _ _ _ h
  · cases h
def hd_Pi_copyFrom_29 {O : Type} (g : Nat → Nat → Int32 → Mem → Option O) (ls : OL) (st : List AV) (σ : Mem) : Option O := match ls, st with
  | [some (.inr (.inr (4, k0))), some (.inr (.inr (4, k1))), some (.inl v2)], [] => g k0 k1 v2 σ
  | _, _ => none
theorem hs_Pi_copyFrom_29 {X : CXT} {g : Nat → Nat → Int32 → Mem → Option (Mem)} (hg : ∀ (k0 : Nat) (k1 : Nat) (v2 : Int32) (s : Mem) (o : Mem), g k0 k1 v2 s = some o → BSnd X 1 31 (ovV o) 29 [some (.inr (.inr (4, k0))), some (.inr (.inr (4, k1))), some (.inl v2)] [] s) : ∀ ls st σ o, hd_Pi_copyFrom_29 g ls st σ = some o → BSnd X 1 31 (ovV o) 29 ls st σ := by
  intro ls st σ o h
  unfold hd_Pi_copyFrom_29 at h
  split at h
  · exact hg _ _ _ _ _ h
  · cases h
def hd_Pi_copyFrom_77 {O : Type} (g : Nat → Nat → Mem → Option O) (ls : OL) (st : List AV) (σ : Mem) : Option O := match ls, st with
  | [some (.inr (.inr (4, k0))), some (.inr (.inr (4, k1)))], [] => g k0 k1 σ
  | _, _ => none
theorem hs_Pi_copyFrom_77 {X : CXT} {g : Nat → Nat → Mem → Option (Mem)} (hg : ∀ (k0 : Nat) (k1 : Nat) (s : Mem) (o : Mem), g k0 k1 s = some o → BSnd X 1 31 (ovV o) 77 [some (.inr (.inr (4, k0))), some (.inr (.inr (4, k1)))] [] s) : ∀ ls st σ o, hd_Pi_copyFrom_77 g ls st σ = some o → BSnd X 1 31 (ovV o) 77 ls st σ := by
  intro ls st σ o h
  unfold hd_Pi_copyFrom_77 at h
  split at h
  · exact hg _ _ _ _ h
  · cases h
def hd_Pi_copyFrom_27 {O : Type} (g : Nat → Nat → Mem → Option O) (ls : OL) (st : List AV) (σ : Mem) : Option O := match ls, st with
  | [some (.inr (.inr (4, k0))), some (.inr (.inr (4, k1)))], [] => g k0 k1 σ
  | _, _ => none
theorem hs_Pi_copyFrom_27 {X : CXT} {g : Nat → Nat → Mem → Option (Mem)} (hg : ∀ (k0 : Nat) (k1 : Nat) (s : Mem) (o : Mem), g k0 k1 s = some o → BSnd X 1 31 (ovV o) 27 [some (.inr (.inr (4, k0))), some (.inr (.inr (4, k1)))] [] s) : ∀ ls st σ o, hd_Pi_copyFrom_27 g ls st σ = some o → BSnd X 1 31 (ovV o) 27 ls st σ := by
  intro ls st σ o h
  unfold hd_Pi_copyFrom_27 at h
  split at h
  · exact hg _ _ _ _ h
  · cases h
set_option maxRecDepth 100000 in
theorem s_Pi_copyFrom_2 {X : CXT} (hX : XC X) {K27 : Nat → Nat → Mem → Option (Mem)} (hK27 : ∀ (k0 : Nat) (k1 : Nat) (s : Mem) (o : Mem), K27 k0 k1 s = some o → BSnd X 1 31 (ovV o) 27 [some (.inr (.inr (4, k0))), some (.inr (.inr (4, k1)))] [] s) : ∀ n : Nat, ∀ (k0 : Nat) (k1 : Nat) (v2 : Int32) (s : Mem) (o : Mem), f_Pi_copyFrom_2 K27 n k0 k1 v2 s = some o → BSnd X 1 31 (ovV o) 2 [some (.inr (.inr (4, k0))), some (.inr (.inr (4, k1))), some (.inl v2)] [] s := by
  intro n
  induction n with
  | zero => intro k0 k1 v2 s o h; cases h
  | succ n ih =>
    intro k0 k1 v2 s o h
    exact evC (chs := c_Pi_copyFrom) (cuts := cu_Pi_copyFrom) (G := fun pc ls st σ => if pc = 2 then hd_Pi_copyFrom_2 (fun k0 k1 v2 s => f_Pi_copyFrom_2 K27 n k0 k1 v2 s) ls st σ else if pc = 27 then hd_Pi_copyFrom_27 (fun k0 k1 s => K27 k0 k1 s) ls st σ else none) hX.2.1 hX.2.2 (F := F_Pi_copyFrom _) (fs_Pi_copyFrom hX _) (rt_V rfl) oc_Pi_copyFrom (by
    intro pc ls st σ o h
    rcases ite_s h with ⟨rfl, h⟩ | ⟨_, h⟩
    · exact hs_Pi_copyFrom_2 ih _ _ _ _ h
    rcases ite_s h with ⟨rfl, h⟩ | ⟨_, h⟩
    · exact hs_Pi_copyFrom_27 hK27 _ _ _ _ h
    cases h) 324 2 _ _ _ _ h
set_option maxRecDepth 100000 in
theorem s_Pi_copyFrom_29 {X : CXT} (hX : XC X) {K77 : Nat → Nat → Mem → Option (Mem)} (hK77 : ∀ (k0 : Nat) (k1 : Nat) (s : Mem) (o : Mem), K77 k0 k1 s = some o → BSnd X 1 31 (ovV o) 77 [some (.inr (.inr (4, k0))), some (.inr (.inr (4, k1)))] [] s) : ∀ n : Nat, ∀ (k0 : Nat) (k1 : Nat) (v2 : Int32) (s : Mem) (o : Mem), f_Pi_copyFrom_29 K77 n k0 k1 v2 s = some o → BSnd X 1 31 (ovV o) 29 [some (.inr (.inr (4, k0))), some (.inr (.inr (4, k1))), some (.inl v2)] [] s := by
  intro n
  induction n with
  | zero => intro k0 k1 v2 s o h; cases h
  | succ n ih =>
    intro k0 k1 v2 s o h
    exact evC (chs := c_Pi_copyFrom) (cuts := cu_Pi_copyFrom) (G := fun pc ls st σ => if pc = 29 then hd_Pi_copyFrom_29 (fun k0 k1 v2 s => f_Pi_copyFrom_29 K77 n k0 k1 v2 s) ls st σ else if pc = 77 then hd_Pi_copyFrom_77 (fun k0 k1 s => K77 k0 k1 s) ls st σ else none) hX.2.1 hX.2.2 (F := F_Pi_copyFrom _) (fs_Pi_copyFrom hX _) (rt_V rfl) oc_Pi_copyFrom (by
    intro pc ls st σ o h
    rcases ite_s h with ⟨rfl, h⟩ | ⟨_, h⟩
    · exact hs_Pi_copyFrom_29 ih _ _ _ _ h
    rcases ite_s h with ⟨rfl, h⟩ | ⟨_, h⟩
    · exact hs_Pi_copyFrom_77 hK77 _ _ _ _ h
    cases h) 324 29 _ _ _ _ h
set_option maxRecDepth 100000 in
theorem s_Pi_copyFrom_77 {X : CXT} (hX : XC X) : ∀ (k0 : Nat) (k1 : Nat) (s : Mem) (o : Mem), f_Pi_copyFrom_77 k0 k1 s = some o → BSnd X 1 31 (ovV o) 77 [some (.inr (.inr (4, k0))), some (.inr (.inr (4, k1)))] [] s := by
  intro k0 k1 s o h
  exact evC (chs := c_Pi_copyFrom) (cuts := cu_Pi_copyFrom) (G := fun pc ls st σ => none) hX.2.1 hX.2.2 (F := F_Pi_copyFrom _) (fs_Pi_copyFrom hX _) (rt_V rfl) oc_Pi_copyFrom (by
    intro pc ls st σ o h
    cases h) 324 77 _ _ _ _ h
set_option maxRecDepth 100000 in
theorem s_Pi_copyFrom_27 {X : CXT} (hX : XC X) : ∀ (k0 : Nat) (k1 : Nat) (s : Mem) (o : Mem), f_Pi_copyFrom_27 k0 k1 s = some o → BSnd X 1 31 (ovV o) 27 [some (.inr (.inr (4, k0))), some (.inr (.inr (4, k1)))] [] s := by
  intro k0 k1 s o h
  exact evC (chs := c_Pi_copyFrom) (cuts := cu_Pi_copyFrom) (G := fun pc ls st σ => if pc = 29 then hd_Pi_copyFrom_29 (fun k0 k1 v2 s => f_Pi_copyFrom_29 (fun k0 k1 s => f_Pi_copyFrom_77 k0 k1 s) FU k0 k1 v2 s) ls st σ else if pc = 77 then hd_Pi_copyFrom_77 (fun k0 k1 s => f_Pi_copyFrom_77 k0 k1 s) ls st σ else none) hX.2.1 hX.2.2 (F := F_Pi_copyFrom _) (fs_Pi_copyFrom hX _) (rt_V rfl) oc_Pi_copyFrom (by
    intro pc ls st σ o h
    rcases ite_s h with ⟨rfl, h⟩ | ⟨_, h⟩
    · exact hs_Pi_copyFrom_29 (s_Pi_copyFrom_29 hX (s_Pi_copyFrom_77 hX) FU) _ _ _ _ h
    rcases ite_s h with ⟨rfl, h⟩ | ⟨_, h⟩
    · exact hs_Pi_copyFrom_77 (s_Pi_copyFrom_77 hX) _ _ _ _ h
    cases h) 324 27 _ _ _ _ h
set_option maxRecDepth 100000 in
theorem s_Pi_copyFrom {X : CXT} (hX : XC X) : ∀ (k0 : Nat) (k1 : Nat) (s : Mem) (o : Mem), f_Pi_copyFrom k0 k1 s = some o → BSnd X 1 31 (ovV o) 0 (entL [.inr (.inr (4, k0)), .inr (.inr (4, k1))]) [] s := by
  intro k0 k1 s o h
  rw [f_Pi_copyFrom_eq] at h
  exact evC (chs := c_Pi_copyFrom) (cuts := cu_Pi_copyFrom) (G := fun pc ls st σ => if pc = 2 then hd_Pi_copyFrom_2 (fun k0 k1 v2 s => f_Pi_copyFrom_2 (fun k0 k1 s => f_Pi_copyFrom_27 k0 k1 s) FU k0 k1 v2 s) ls st σ else if pc = 27 then hd_Pi_copyFrom_27 (fun k0 k1 s => f_Pi_copyFrom_27 k0 k1 s) ls st σ else none) hX.2.1 hX.2.2 (F := F_Pi_copyFrom _) (fs_Pi_copyFrom hX _) (rt_V rfl) oc_Pi_copyFrom (by
    intro pc ls st σ o h
    rcases ite_s h with ⟨rfl, h⟩ | ⟨_, h⟩
    · exact hs_Pi_copyFrom_2 (s_Pi_copyFrom_2 hX (s_Pi_copyFrom_27 hX) FU) _ _ _ _ h
    rcases ite_s h with ⟨rfl, h⟩ | ⟨_, h⟩
    · exact hs_Pi_copyFrom_27 (s_Pi_copyFrom_27 hX) _ _ _ _ h
    cases h) 324 0 _ _ _ _ h
theorem ok_Pi_copyFrom {X : CXT} (hX : XC X) : SemOK X 1 31 sm_Pi_copyFrom := by
  intro O av σ K o h
  unfold sm_Pi_copyFrom at h
  split at h
  · obtain ⟨r, hf, h⟩ := Option.bind_eq_some_iff.mp h
    exact ⟨ovV r, fun ht => sp_of hX.1 (by decide) (List.mem_range.mpr (by decide)) (by decide +kernel) ht (Nat.le_of_ble_eq_true rfl) (s_Pi_copyFrom hX _ _ _ _ hf), trivial, h⟩
  · cases h
noncomputable def b_Ke_keep (k0 : Nat) (k1 : Nat) (s : Mem) : Option (Mem) :=
  (f_Ma_floorMod ((rI s k0 1) + ((1 : Int32))) ((6 : Int32)) s).bind fun r1 =>
  let s2 : Mem := wI r1.2 k0 1 r1.1
  gd (inb (rI s2 k0 1) (lenC (k0 + 1))) <|
  (f_Pi_copyFrom (k0 + 1 + 1 + 5 * ix (rI s2 k0 1)) k1 s2).bind fun r3 =>
  let s4 : Mem := wI r3 k0 2 (imn ((6 : Int32)) ((rI r3 k0 2) + ((1 : Int32))))
  some s4
noncomputable def f_Ke_keep : Nat → Nat → Mem → Option (Mem) := Classical.choose (⟨b_Ke_keep, rfl⟩ : ∃ f : Nat → Nat → Mem → Option (Mem), f = b_Ke_keep)
theorem f_Ke_keep_eq : f_Ke_keep = b_Ke_keep := Classical.choose_spec (⟨b_Ke_keep, rfl⟩ : ∃ f : Nat → Nat → Mem → Option (Mem), f = b_Ke_keep)
noncomputable def sm_Ke_keep (O : Type) (av : List AV) (σ : Mem) (K : AV → Mem → Option O) : Option O := match av with
  | [.inr (.inr (1, k0)), .inr (.inr (4, k1))] => (f_Ke_keep k0 k1 σ).bind fun r => K (.inl 0) r
  | _ => none
def c_Ke_keep : List (List CE) := [[(0, .aload_n 0, 1, 0, 0, 0), (1, .aload_n 0, 1, 0, 0, 0), (2, .getfield 17, 3, 1, 1, 0), (5, .iconst 1, 1, 1, 0, 0), (6, .iadd, 1, 0, 0, 0), (7, .bipush 6, 2, 6, 0, 0), (9, .invokestatic 27, 3, 30, 2, 1), (12, .putfield 17, 3, 1, 1, 0), (15, .aload_n 0, 1, 0, 0, 0)], [(16, .getfield 11, 3, 1, 0, 0), (19, .aload_n 0, 1, 0, 0, 0), (20, .getfield 17, 3, 1, 1, 0), (23, .aaload, 1, 0, 0, 0), (24, .astore_n 2, 1, 0, 0, 0), (25, .aload_n 2, 1, 0, 0, 0), (26, .ifnull 8, 3, 34, 0, 0), (29, .aload_n 2, 1, 0, 0, 0), (30, .aload_n 1, 1, 0, 0, 0), (31, .invokevirtual 33, 3, 31, 2, 8)], [(34, .aload_n 0, 1, 0, 0, 0), (35, .bipush 6, 2, 6, 0, 0), (37, .aload_n 0, 1, 0, 0, 0), (38, .getfield 21, 3, 1, 2, 0), (41, .iconst 1, 1, 1, 0, 0), (42, .iadd, 1, 0, 0, 0), (43, .invokestatic 37, 3, 32, 2, 3), (46, .putfield 21, 3, 1, 2, 0)], [(49, .return_, 1, 0, 0, 0)]]
set_option maxRecDepth 100000 in
theorem oc_Ke_keep : okC 29 c_Ke_keep = true := by decide +kernel
def cu_Ke_keep : List (Nat × List Bool) := []
noncomputable def F_Ke_keep (O : Type) (a : Nat) (av : List AV) (σ : Mem) (K : AV → Mem → Option O) : Option O := if a = 30 then sm_Ma_floorMod O av σ K else if a = 31 then sm_Pi_copyFrom O av σ K else none
theorem fs_Ke_keep {X : CXT} (hX : XC X) (O : Type) : FS X 2 (F_Ke_keep O) := by
  intro a av σ K o h
  unfold F_Ke_keep at h
  rcases ite_s h with ⟨rfl, h⟩ | ⟨_, h⟩
  · obtain ⟨r, h1, h2, h3⟩ := ok_Ma_floorMod hX.j _ _ _ _ _ h
    exact ⟨r, fun ht => ⟨1, by decide, h1 ht⟩, h2, h3⟩
  rcases ite_s h with ⟨rfl, h⟩ | ⟨_, h⟩
  · obtain ⟨r, h1, h2, h3⟩ := ok_Pi_copyFrom hX _ _ _ _ _ h
    exact ⟨r, fun ht => ⟨1, by decide, h1 ht⟩, h2, h3⟩
  cases h
set_option maxRecDepth 100000 in
theorem s_Ke_keep {X : CXT} (hX : XC X) : ∀ (k0 : Nat) (k1 : Nat) (s : Mem) (o : Mem), f_Ke_keep k0 k1 s = some o → BSnd X 2 29 (ovV o) 0 (entL [.inr (.inr (1, k0)), .inr (.inr (4, k1))]) [] s := by
  intro k0 k1 s o h
  rw [f_Ke_keep_eq] at h
  exact evC (chs := c_Ke_keep) (cuts := cu_Ke_keep) (G := fun pc ls st σ => none) hX.2.1 hX.2.2 (F := F_Ke_keep _) (fs_Ke_keep hX _) (rt_V rfl) oc_Ke_keep (by
    intro pc ls st σ o h
    cases h) 152 0 _ _ _ _ h
theorem ok_Ke_keep {X : CXT} (hX : XC X) : SemOK X 2 29 sm_Ke_keep := by
  intro O av σ K o h
  unfold sm_Ke_keep at h
  split at h
  · obtain ⟨r, hf, h⟩ := Option.bind_eq_some_iff.mp h
    exact ⟨ovV r, fun ht => sp_of hX.1 (by decide) (List.mem_range.mpr (by decide)) (by decide +kernel) ht (Nat.le_of_ble_eq_true rfl) (s_Ke_keep hX _ _ _ _ hf), trivial, h⟩
  · cases h
noncomputable def f_Co_ask_2 (K21 : Nat → Nat → Mem → Option (Mem)) : Nat → Nat → Nat → Int32 → Mem → Option (Mem)
  | 0, _, _, _, _ => none
  | n + 1, k0, k1, v2, s =>
    cif (((10 : Int32)) ≤ v2) (
      K21 k0 k1 s) (
      gd (inb v2 (lenC (k0 + 1))) <|
      let s1 : Mem := wI s (k0 + 1) (ix v2) ((0 : Int32))
      f_Co_ask_2 K21 n k0 k1 (v2 + (1 : Int32)) s1)
noncomputable def f_Co_ask_21 (k0 : Nat) (k1 : Nat) (s : Mem) : Option (Mem) :=
  gd (inb ((2 : Int32)) (lenC (k0 + 1))) <|
  let s1 : Mem := wI s (k0 + 1) (ix ((2 : Int32))) (rI s k1 6)
  gd (inb ((7 : Int32)) (lenC (k0 + 1))) <|
  let s2 : Mem := wI s1 (k0 + 1) (ix ((7 : Int32))) (rI s1 (k0 - 119) 8)
  some s2
noncomputable def b_Co_ask (k0 : Nat) (k1 : Nat) (s : Mem) : Option (Mem) :=
  f_Co_ask_2 (fun k0 k1 s => f_Co_ask_21 k0 k1 s) FU k0 k1 ((0 : Int32)) s
noncomputable def f_Co_ask : Nat → Nat → Mem → Option (Mem) := Classical.choose (⟨b_Co_ask, rfl⟩ : ∃ f : Nat → Nat → Mem → Option (Mem), f = b_Co_ask)
theorem f_Co_ask_eq : f_Co_ask = b_Co_ask := Classical.choose_spec (⟨b_Co_ask, rfl⟩ : ∃ f : Nat → Nat → Mem → Option (Mem), f = b_Co_ask)
noncomputable def sm_Co_ask (O : Type) (av : List AV) (σ : Mem) (K : AV → Mem → Option O) : Option O := match av with
  | [.inr (.inr (0, k0)), .inr (.inr (4, k1))] => (f_Co_ask k0 k1 σ).bind fun r => K (.inl 0) r
  | _ => none
def c_Co_ask : List (List CE) := [[(0, .iconst 0, 1, 0, 0, 0), (1, .istore_n 2, 1, 0, 0, 0), (2, .iload_n 2, 1, 0, 0, 0), (3, .bipush 10, 2, 10, 0, 0), (5, .if_icmp .ge 16, 3, 21, 0, 0), (8, .aload_n 0, 1, 0, 0, 0), (9, .getfield 9, 3, 0, 2, 0), (12, .iload_n 2, 1, 0, 0, 0), (13, .iconst 0, 1, 0, 0, 0), (14, .iastore, 1, 0, 0, 0), (15, .iinc 2 1, 3, 1, 0, 0)], [(18, .goto (-16), 3, 2, 0, 0), (21, .aload_n 0, 1, 0, 0, 0), (22, .getfield 9, 3, 0, 2, 0), (25, .iconst 2, 1, 2, 0, 0), (26, .aload_n 1, 1, 0, 0, 0), (27, .getfield 23, 3, 4, 6, 0), (30, .iastore, 1, 0, 0, 0), (31, .aload_n 0, 1, 0, 0, 0)], [(32, .getfield 9, 3, 0, 2, 0), (35, .bipush 7, 2, 7, 0, 0), (37, .aload_n 0, 1, 0, 0, 0), (38, .getfield 15, 3, 0, 0, 0), (41, .getfield 29, 3, 8, 8, 0), (44, .iastore, 1, 0, 0, 0), (45, .return_, 1, 0, 0, 0)]]
set_option maxRecDepth 100000 in
theorem oc_Co_ask : okC 35 c_Co_ask = true := by decide +kernel
def cu_Co_ask : List (Nat × List Bool) := [(2, [true, true, true]), (21, [true, true])]
noncomputable def F_Co_ask (O : Type) (a : Nat) (av : List AV) (σ : Mem) (K : AV → Mem → Option O) : Option O := none
theorem fs_Co_ask {X : CXT} (hX : XC X) (O : Type) : FS X 1 (F_Co_ask O) := by
  intro a av σ K o h
  cases h
def hd_Co_ask_2 {O : Type} (g : Nat → Nat → Int32 → Mem → Option O) (ls : OL) (st : List AV) (σ : Mem) : Option O := match ls, st with
  | [some (.inr (.inr (0, k0))), some (.inr (.inr (4, k1))), some (.inl v2)], [] => g k0 k1 v2 σ
  | _, _ => none
theorem hs_Co_ask_2 {X : CXT} {g : Nat → Nat → Int32 → Mem → Option (Mem)} (hg : ∀ (k0 : Nat) (k1 : Nat) (v2 : Int32) (s : Mem) (o : Mem), g k0 k1 v2 s = some o → BSnd X 1 35 (ovV o) 2 [some (.inr (.inr (0, k0))), some (.inr (.inr (4, k1))), some (.inl v2)] [] s) : ∀ ls st σ o, hd_Co_ask_2 g ls st σ = some o → BSnd X 1 35 (ovV o) 2 ls st σ := by
  intro ls st σ o h
  unfold hd_Co_ask_2 at h
  split at h
  · exact hg _ _ _ _ _ h
  · cases h
def hd_Co_ask_21 {O : Type} (g : Nat → Nat → Mem → Option O) (ls : OL) (st : List AV) (σ : Mem) : Option O := match ls, st with
  | [some (.inr (.inr (0, k0))), some (.inr (.inr (4, k1)))], [] => g k0 k1 σ
  | _, _ => none
theorem hs_Co_ask_21 {X : CXT} {g : Nat → Nat → Mem → Option (Mem)} (hg : ∀ (k0 : Nat) (k1 : Nat) (s : Mem) (o : Mem), g k0 k1 s = some o → BSnd X 1 35 (ovV o) 21 [some (.inr (.inr (0, k0))), some (.inr (.inr (4, k1)))] [] s) : ∀ ls st σ o, hd_Co_ask_21 g ls st σ = some o → BSnd X 1 35 (ovV o) 21 ls st σ := by
  intro ls st σ o h
  unfold hd_Co_ask_21 at h
  split at h
  · exact hg _ _ _ _ h
  · cases h
set_option maxRecDepth 100000 in
theorem s_Co_ask_2 {X : CXT} (hX : XC X) {K21 : Nat → Nat → Mem → Option (Mem)} (hK21 : ∀ (k0 : Nat) (k1 : Nat) (s : Mem) (o : Mem), K21 k0 k1 s = some o → BSnd X 1 35 (ovV o) 21 [some (.inr (.inr (0, k0))), some (.inr (.inr (4, k1)))] [] s) : ∀ n : Nat, ∀ (k0 : Nat) (k1 : Nat) (v2 : Int32) (s : Mem) (o : Mem), f_Co_ask_2 K21 n k0 k1 v2 s = some o → BSnd X 1 35 (ovV o) 2 [some (.inr (.inr (0, k0))), some (.inr (.inr (4, k1))), some (.inl v2)] [] s := by
  intro n
  induction n with
  | zero => intro k0 k1 v2 s o h; cases h
  | succ n ih =>
    intro k0 k1 v2 s o h
    exact evC (chs := c_Co_ask) (cuts := cu_Co_ask) (G := fun pc ls st σ => if pc = 2 then hd_Co_ask_2 (fun k0 k1 v2 s => f_Co_ask_2 K21 n k0 k1 v2 s) ls st σ else if pc = 21 then hd_Co_ask_21 (fun k0 k1 s => K21 k0 k1 s) ls st σ else none) hX.2.1 hX.2.2 (F := F_Co_ask _) (fs_Co_ask hX _) (rt_V rfl) oc_Co_ask (by
    intro pc ls st σ o h
    rcases ite_s h with ⟨rfl, h⟩ | ⟨_, h⟩
    · exact hs_Co_ask_2 ih _ _ _ _ h
    rcases ite_s h with ⟨rfl, h⟩ | ⟨_, h⟩
    · exact hs_Co_ask_21 hK21 _ _ _ _ h
    cases h) 144 2 _ _ _ _ h
set_option maxRecDepth 100000 in
theorem s_Co_ask_21 {X : CXT} (hX : XC X) : ∀ (k0 : Nat) (k1 : Nat) (s : Mem) (o : Mem), f_Co_ask_21 k0 k1 s = some o → BSnd X 1 35 (ovV o) 21 [some (.inr (.inr (0, k0))), some (.inr (.inr (4, k1)))] [] s := by
  intro k0 k1 s o h
  exact evC (chs := c_Co_ask) (cuts := cu_Co_ask) (G := fun pc ls st σ => none) hX.2.1 hX.2.2 (F := F_Co_ask _) (fs_Co_ask hX _) (rt_V rfl) oc_Co_ask (by
    intro pc ls st σ o h
    cases h) 144 21 _ _ _ _ h
set_option maxRecDepth 100000 in
theorem s_Co_ask {X : CXT} (hX : XC X) : ∀ (k0 : Nat) (k1 : Nat) (s : Mem) (o : Mem), f_Co_ask k0 k1 s = some o → BSnd X 1 35 (ovV o) 0 (entL [.inr (.inr (0, k0)), .inr (.inr (4, k1))]) [] s := by
  intro k0 k1 s o h
  rw [f_Co_ask_eq] at h
  exact evC (chs := c_Co_ask) (cuts := cu_Co_ask) (G := fun pc ls st σ => if pc = 2 then hd_Co_ask_2 (fun k0 k1 v2 s => f_Co_ask_2 (fun k0 k1 s => f_Co_ask_21 k0 k1 s) FU k0 k1 v2 s) ls st σ else if pc = 21 then hd_Co_ask_21 (fun k0 k1 s => f_Co_ask_21 k0 k1 s) ls st σ else none) hX.2.1 hX.2.2 (F := F_Co_ask _) (fs_Co_ask hX _) (rt_V rfl) oc_Co_ask (by
    intro pc ls st σ o h
    rcases ite_s h with ⟨rfl, h⟩ | ⟨_, h⟩
    · exact hs_Co_ask_2 (s_Co_ask_2 hX (s_Co_ask_21 hX) FU) _ _ _ _ h
    rcases ite_s h with ⟨rfl, h⟩ | ⟨_, h⟩
    · exact hs_Co_ask_21 (s_Co_ask_21 hX) _ _ _ _ h
    cases h) 144 0 _ _ _ _ h
theorem ok_Co_ask {X : CXT} (hX : XC X) : SemOK X 1 35 sm_Co_ask := by
  intro O av σ K o h
  unfold sm_Co_ask at h
  split at h
  · obtain ⟨r, hf, h⟩ := Option.bind_eq_some_iff.mp h
    exact ⟨ovV r, fun ht => sp_of hX.1 (by decide) (List.mem_range.mpr (by decide)) (by decide +kernel) ht (Nat.le_of_ble_eq_true rfl) (s_Co_ask hX _ _ _ _ hf), trivial, h⟩
  · cases h
noncomputable def b_La_valueOf (v0 : Int32) (k1 : Nat) (s : Mem) : Option (Int32 × Mem) :=
  let x1 : Int32 := v0 - ((10000 : Int32))
  cif (0 ≤ x1) (
    cif ((Int32.ofNat (lenC k1)) ≤ x1) (
      some ((0 : Int32), s)) (
      gd (inb x1 (lenC k1)) <|
      some (rI s k1 (ix x1), s))) (
    some (v0, s))
noncomputable def f_La_valueOf : Int32 → Nat → Mem → Option (Int32 × Mem) := Classical.choose (⟨b_La_valueOf, rfl⟩ : ∃ f : Int32 → Nat → Mem → Option (Int32 × Mem), f = b_La_valueOf)
theorem f_La_valueOf_eq : f_La_valueOf = b_La_valueOf := Classical.choose_spec (⟨b_La_valueOf, rfl⟩ : ∃ f : Int32 → Nat → Mem → Option (Int32 × Mem), f = b_La_valueOf)
noncomputable def sm_La_valueOf (O : Type) (av : List AV) (σ : Mem) (K : AV → Mem → Option O) : Option O := match av with
  | [.inl v0, .inr (.inr (100, k1))] => (f_La_valueOf v0 k1 σ).bind fun r => K (.inl r.1) r.2
  | _ => none
def c_La_valueOf : List (List CE) := [[(0, .iload_n 0, 1, 0, 0, 0), (1, .sipush 10000, 3, 10000, 0, 0), (4, .isub, 1, 0, 0, 0), (5, .istore_n 2, 1, 0, 0, 0), (6, .iload_n 2, 1, 0, 0, 0), (7, .ifCond .ge 5, 3, 12, 0, 0), (10, .iload_n 0, 1, 0, 0, 0), (11, .ireturn, 1, 0, 0, 0), (12, .iload_n 2, 1, 0, 0, 0), (13, .aload_n 1, 1, 0, 0, 0), (14, .arraylength, 1, 0, 0, 0), (15, .if_icmp .ge 9, 3, 24, 0, 0)], [(18, .aload_n 1, 1, 0, 0, 0), (19, .iload_n 2, 1, 0, 0, 0), (20, .iaload, 1, 0, 0, 0), (21, .goto 4, 3, 25, 0, 0), (24, .iconst 0, 1, 0, 0, 0), (25, .ireturn, 1, 0, 0, 0)]]
set_option maxRecDepth 100000 in
theorem oc_La_valueOf : okC 38 c_La_valueOf = true := by decide +kernel
def cu_La_valueOf : List (Nat × List Bool) := []
noncomputable def F_La_valueOf (O : Type) (a : Nat) (av : List AV) (σ : Mem) (K : AV → Mem → Option O) : Option O := none
theorem fs_La_valueOf {X : CXT} (hX : XC X) (O : Type) : FS X 1 (F_La_valueOf O) := by
  intro a av σ K o h
  cases h
set_option maxRecDepth 100000 in
theorem s_La_valueOf {X : CXT} (hX : XC X) : ∀ (v0 : Int32) (k1 : Nat) (s : Mem) (o : Int32 × Mem), f_La_valueOf v0 k1 s = some o → BSnd X 1 38 (ovI o) 0 (entL [.inl v0, .inr (.inr (100, k1))]) [] s := by
  intro v0 k1 s o h
  rw [f_La_valueOf_eq] at h
  exact evC (chs := c_La_valueOf) (cuts := cu_La_valueOf) (G := fun pc ls st σ => none) hX.2.1 hX.2.2 (F := F_La_valueOf _) (fs_La_valueOf hX _) (rt_I rfl) oc_La_valueOf (by
    intro pc ls st σ o h
    cases h) 112 0 _ _ _ _ h
theorem ok_La_valueOf {X : CXT} (hX : XC X) : SemOK X 1 38 sm_La_valueOf := by
  intro O av σ K o h
  unfold sm_La_valueOf at h
  split at h
  · obtain ⟨r, hf, h⟩ := Option.bind_eq_some_iff.mp h
    exact ⟨ovI r, fun ht => sp_of hX.1 (by decide) (List.mem_range.mpr (by decide)) (by decide +kernel) ht (Nat.le_of_ble_eq_true rfl) (s_La_valueOf hX _ _ _ _ hf), trivial, h⟩
  · cases h
noncomputable def b_La_joined (v0 : Int32) (v1 : Int32) (v2 : Int32) (s : Mem) : Option (Int32 × Mem) :=
  cif (v0 = (-9 : Int32)) (
    some (v1 ||| v2, s)) (
    cif (v0 = (-8 : Int32)) (
      some (v1 &&& v2, s)) (
      cif (v0 = (-7 : Int32)) (
        cif (v1 ≤ v2) (
          some ((0 : Int32), s)) (
          some ((1 : Int32), s))) (
        cif (v0 = (-6 : Int32)) (
          cif (v1 = v2) (
            some ((1 : Int32), s)) (
            some ((0 : Int32), s))) (
          cif (v0 = (-5 : Int32)) (
            cif (v2 ≤ v1) (
              some ((0 : Int32), s)) (
              some ((1 : Int32), s))) (
            cif (v0 = (-4 : Int32)) (
              cif (v2 = 0) (
                some ((0 : Int32), s)) (
                if v2 = 0 then none else
                some (v1 / v2, s))) (
              cif (v0 = (-3 : Int32)) (
                some (v1 * v2, s)) (
                cif (v0 = (-2 : Int32)) (
                  some (v1 - v2, s)) (
                  cif (v0 = (-1 : Int32)) (
                    some (v1 + v2, s)) (
                    some ((0 : Int32), s))))))))))
noncomputable def f_La_joined : Int32 → Int32 → Int32 → Mem → Option (Int32 × Mem) := Classical.choose (⟨b_La_joined, rfl⟩ : ∃ f : Int32 → Int32 → Int32 → Mem → Option (Int32 × Mem), f = b_La_joined)
theorem f_La_joined_eq : f_La_joined = b_La_joined := Classical.choose_spec (⟨b_La_joined, rfl⟩ : ∃ f : Int32 → Int32 → Int32 → Mem → Option (Int32 × Mem), f = b_La_joined)
noncomputable def sm_La_joined (O : Type) (av : List AV) (σ : Mem) (K : AV → Mem → Option O) : Option O := match av with
  | [.inl v0, .inl v1, .inl v2] => (f_La_joined v0 v1 v2 σ).bind fun r => K (.inl r.1) r.2
  | _ => none
def c_La_joined : List (List CE) := [[(0, .iload_n 0, 1, 0, 0, 0), (1, .tableswitch 116 (-9) (-1) #[112, 108, 97, 86, 75, 63, 59, 55, 51], 51, 0, 0, 0)], [], [], [(52, .iload_n 1, 1, 0, 0, 0), (53, .iload_n 2, 1, 0, 0, 0), (54, .iadd, 1, 0, 0, 0), (55, .ireturn, 1, 0, 0, 0), (56, .iload_n 1, 1, 0, 0, 0), (57, .iload_n 2, 1, 0, 0, 0), (58, .isub, 1, 0, 0, 0), (59, .ireturn, 1, 0, 0, 0), (60, .iload_n 1, 1, 0, 0, 0), (61, .iload_n 2, 1, 0, 0, 0), (62, .imul, 1, 0, 0, 0), (63, .ireturn, 1, 0, 0, 0)], [(64, .iload_n 2, 1, 0, 0, 0), (65, .ifCond .ne 7, 3, 72, 0, 0), (68, .iconst 0, 1, 0, 0, 0), (69, .goto 6, 3, 75, 0, 0), (72, .iload_n 1, 1, 0, 0, 0), (73, .iload_n 2, 1, 0, 0, 0), (74, .idiv, 1, 0, 0, 0), (75, .ireturn, 1, 0, 0, 0), (76, .iload_n 1, 1, 0, 0, 0), (77, .iload_n 2, 1, 0, 0, 0), (78, .if_icmp .ge 7, 3, 85, 0, 0)], [(81, .iconst 1, 1, 1, 0, 0), (82, .goto 4, 3, 86, 0, 0), (85, .iconst 0, 1, 0, 0, 0), (86, .ireturn, 1, 0, 0, 0), (87, .iload_n 1, 1, 0, 0, 0), (88, .iload_n 2, 1, 0, 0, 0), (89, .if_icmp .ne 7, 3, 96, 0, 0), (92, .iconst 1, 1, 1, 0, 0), (93, .goto 4, 3, 97, 0, 0)], [(96, .iconst 0, 1, 0, 0, 0), (97, .ireturn, 1, 0, 0, 0), (98, .iload_n 1, 1, 0, 0, 0), (99, .iload_n 2, 1, 0, 0, 0), (100, .if_icmp .le 7, 3, 107, 0, 0), (103, .iconst 1, 1, 1, 0, 0), (104, .goto 4, 3, 108, 0, 0), (107, .iconst 0, 1, 0, 0, 0), (108, .ireturn, 1, 0, 0, 0), (109, .iload_n 1, 1, 0, 0, 0), (110, .iload_n 2, 1, 0, 0, 0), (111, .iand, 1, 0, 0, 0)], [(112, .ireturn, 1, 0, 0, 0), (113, .iload_n 1, 1, 0, 0, 0), (114, .iload_n 2, 1, 0, 0, 0), (115, .ior, 1, 0, 0, 0), (116, .ireturn, 1, 0, 0, 0), (117, .iconst 0, 1, 0, 0, 0), (118, .ireturn, 1, 0, 0, 0)]]
set_option maxRecDepth 100000 in
theorem oc_La_joined : okC 39 c_La_joined = true := by decide +kernel
def cu_La_joined : List (Nat × List Bool) := []
noncomputable def F_La_joined (O : Type) (a : Nat) (av : List AV) (σ : Mem) (K : AV → Mem → Option O) : Option O := none
theorem fs_La_joined {X : CXT} (hX : XC X) (O : Type) : FS X 1 (F_La_joined O) := by
  intro a av σ K o h
  cases h
set_option maxRecDepth 100000 in
theorem s_La_joined {X : CXT} (hX : XC X) : ∀ (v0 : Int32) (v1 : Int32) (v2 : Int32) (s : Mem) (o : Int32 × Mem), f_La_joined v0 v1 v2 s = some o → BSnd X 1 39 (ovI o) 0 (entL [.inl v0, .inl v1, .inl v2]) [] s := by
  intro v0 v1 v2 s o h
  rw [f_La_joined_eq] at h
  exact evC (chs := c_La_joined) (cuts := cu_La_joined) (G := fun pc ls st σ => none) hX.2.1 hX.2.2 (F := F_La_joined _) (fs_La_joined hX _) (rt_I rfl) oc_La_joined (by
    intro pc ls st σ o h
    cases h) 252 0 _ _ _ _ h
theorem ok_La_joined {X : CXT} (hX : XC X) : SemOK X 1 39 sm_La_joined := by
  intro O av σ K o h
  unfold sm_La_joined at h
  split at h
  · obtain ⟨r, hf, h⟩ := Option.bind_eq_some_iff.mp h
    exact ⟨ovI r, fun ht => sp_of hX.1 (by decide) (List.mem_range.mpr (by decide)) (by decide +kernel) ht (Nat.le_of_ble_eq_true rfl) (s_La_joined hX _ _ _ _ _ hf), trivial, h⟩
  · cases h
noncomputable def f_La_worked_10 (K147 : Nat → Int32 → Mem → Option (Int32 × Mem)) : Nat → Nat → Int32 → Nat → Int32 → Int32 → Mem → Option (Int32 × Mem)
  | 0, _, _, _, _, _, _ => none
  | n + 1, k0, v2, k3, v4, v5, s =>
    cif (v2 ≤ v5) (
      K147 k0 v4 s) (
      cif ((Int32.ofNat (lenC (k0 + 5))) ≤ v5) (
        K147 k0 v4 s) (
        gd (inb v5 (lenC (k0 + 5))) <|
        let x1 : Int32 := rI s (k0 + 5) (ix v5)
        cif (x1 < 0) (
          cif (x1 = ((-10 : Int32))) (
            cif (v4 < ((1 : Int32))) (
              f_La_worked_10 K147 n k0 v2 k3 v4 (v5 + (1 : Int32)) s) (
              gd (inb (v4 - ((1 : Int32))) (lenC (k0 + 6))) <|
              gd (inb (v4 - ((1 : Int32))) (lenC (k0 + 6))) <|
              let s2 : Mem := wI s (k0 + 6) (ix (v4 - ((1 : Int32)))) (((1 : Int32)) - (rI s (k0 + 6) (ix (v4 - ((1 : Int32))))))
              f_La_worked_10 K147 n k0 v2 k3 v4 (v5 + (1 : Int32)) s2)) (
            cif (v4 < ((2 : Int32))) (
              f_La_worked_10 K147 n k0 v2 k3 v4 (v5 + (1 : Int32)) s) (
              gd (inb ((v4 - (1 : Int32)) - ((1 : Int32))) (lenC (k0 + 6))) <|
              gd (inb (v4 - (1 : Int32)) (lenC (k0 + 6))) <|
              (f_La_joined x1 (rI s (k0 + 6) (ix ((v4 - (1 : Int32)) - ((1 : Int32))))) (rI s (k0 + 6) (ix (v4 - (1 : Int32)))) s).bind fun r3 =>
              gd (inb ((v4 - (1 : Int32)) - ((1 : Int32))) (lenC (k0 + 6))) <|
              let s4 : Mem := wI r3.2 (k0 + 6) (ix ((v4 - (1 : Int32)) - ((1 : Int32)))) r3.1
              f_La_worked_10 K147 n k0 v2 k3 (v4 - (1 : Int32)) (v5 + (1 : Int32)) s4))) (
          cif (((64 : Int32)) ≤ v4) (
            f_La_worked_10 K147 n k0 v2 k3 v4 (v5 + (1 : Int32)) s) (
            (f_La_valueOf x1 k3 s).bind fun r5 =>
            gd (inb v4 (lenC (k0 + 6))) <|
            let s6 : Mem := wI r5.2 (k0 + 6) (ix v4) r5.1
            f_La_worked_10 K147 n k0 v2 k3 (v4 + (1 : Int32)) (v5 + (1 : Int32)) s6))))
noncomputable def f_La_worked_147 (k0 : Nat) (v4 : Int32) (s : Mem) : Option (Int32 × Mem) :=
  cif (v4 ≤ 0) (
    some ((0 : Int32), s)) (
    gd (inb ((0 : Int32)) (lenC (k0 + 6))) <|
    some (rI s (k0 + 6) (ix ((0 : Int32))), s))
noncomputable def b_La_worked (k0 : Nat) (v1 : Int32) (v2 : Int32) (k3 : Nat) (s : Mem) : Option (Int32 × Mem) :=
  let x1 : Int32 := imx ((0 : Int32)) v1
  f_La_worked_10 (fun k0 v4 s => f_La_worked_147 k0 v4 s) FU k0 v2 k3 ((0 : Int32)) x1 s
noncomputable def f_La_worked : Nat → Int32 → Int32 → Nat → Mem → Option (Int32 × Mem) := Classical.choose (⟨b_La_worked, rfl⟩ : ∃ f : Nat → Int32 → Int32 → Nat → Mem → Option (Int32 × Mem), f = b_La_worked)
theorem f_La_worked_eq : f_La_worked = b_La_worked := Classical.choose_spec (⟨b_La_worked, rfl⟩ : ∃ f : Nat → Int32 → Int32 → Nat → Mem → Option (Int32 × Mem), f = b_La_worked)
noncomputable def sm_La_worked (O : Type) (av : List AV) (σ : Mem) (K : AV → Mem → Option O) : Option O := match av with
  | [.inr (.inr (2, k0)), .inl v1, .inl v2, .inr (.inr (100, k3))] => (f_La_worked k0 v1 v2 k3 σ).bind fun r => K (.inl r.1) r.2
  | _ => none
def c_La_worked : List (List CE) := [[(0, .iconst 0, 1, 0, 0, 0), (1, .istore 4, 2, 0, 0, 0), (3, .iconst 0, 1, 0, 0, 0), (4, .iload_n 1, 1, 0, 0, 0), (5, .invokestatic 51, 3, 7, 2, 2), (8, .istore 5, 2, 0, 0, 0), (10, .iload 5, 2, 0, 0, 0), (12, .iload_n 2, 1, 0, 0, 0), (13, .if_icmp .ge 134, 3, 147, 0, 0)], [(16, .iload 5, 2, 0, 0, 0), (18, .aload_n 0, 1, 0, 0, 0), (19, .getfield 24, 3, 2, 4, 0), (22, .arraylength, 1, 0, 0, 0), (23, .if_icmp .ge 124, 3, 147, 0, 0), (26, .aload_n 0, 1, 0, 0, 0), (27, .getfield 24, 3, 2, 4, 0), (30, .iload 5, 2, 0, 0, 0)], [(32, .iaload, 1, 0, 0, 0), (33, .istore 6, 2, 0, 0, 0), (35, .iload 6, 2, 0, 0, 0), (37, .ifCond .lt 29, 3, 66, 0, 0), (40, .iload 4, 2, 0, 0, 0), (42, .bipush 64, 2, 64, 0, 0), (44, .if_icmp .ge 97, 3, 141, 0, 0), (47, .aload_n 0, 1, 0, 0, 0)], [(48, .getfield 27, 3, 2, 5, 0), (51, .iload 4, 2, 0, 0, 0), (53, .iload 6, 2, 0, 0, 0), (55, .aload_n 3, 1, 0, 0, 0), (56, .invokestatic 54, 3, 38, 2, 1), (59, .iastore, 1, 0, 0, 0), (60, .iinc 4 1, 3, 1, 0, 0), (63, .goto 78, 3, 141, 0, 0)], [(66, .iload 6, 2, 0, 0, 0), (68, .bipush (-10), 2, 10, 0, 1), (70, .if_icmp .ne 32, 3, 102, 0, 0), (73, .iload 4, 2, 0, 0, 0), (75, .iconst 1, 1, 1, 0, 0), (76, .if_icmp .lt 65, 3, 141, 0, 0), (79, .aload_n 0, 1, 0, 0, 0)], [(80, .getfield 27, 3, 2, 5, 0), (83, .iload 4, 2, 0, 0, 0), (85, .iconst 1, 1, 1, 0, 0), (86, .isub, 1, 0, 0, 0), (87, .iconst 1, 1, 1, 0, 0), (88, .aload_n 0, 1, 0, 0, 0), (89, .getfield 27, 3, 2, 5, 0), (92, .iload 4, 2, 0, 0, 0), (94, .iconst 1, 1, 1, 0, 0), (95, .isub, 1, 0, 0, 0)], [(96, .iaload, 1, 0, 0, 0), (97, .isub, 1, 0, 0, 0), (98, .iastore, 1, 0, 0, 0), (99, .goto 42, 3, 141, 0, 0), (102, .iload 4, 2, 0, 0, 0), (104, .iconst 2, 1, 2, 0, 0), (105, .if_icmp .lt 36, 3, 141, 0, 0), (108, .iinc 4 (-1), 3, 1, 0, 1), (111, .aload_n 0, 1, 0, 0, 0)], [(112, .getfield 27, 3, 2, 5, 0), (115, .iload 4, 2, 0, 0, 0), (117, .iconst 1, 1, 1, 0, 0), (118, .isub, 1, 0, 0, 0), (119, .iload 6, 2, 0, 0, 0), (121, .aload_n 0, 1, 0, 0, 0), (122, .getfield 27, 3, 2, 5, 0), (125, .iload 4, 2, 0, 0, 0), (127, .iconst 1, 1, 1, 0, 0)], [(128, .isub, 1, 0, 0, 0), (129, .iaload, 1, 0, 0, 0), (130, .aload_n 0, 1, 0, 0, 0), (131, .getfield 27, 3, 2, 5, 0), (134, .iload 4, 2, 0, 0, 0), (136, .iaload, 1, 0, 0, 0), (137, .invokestatic 58, 3, 39, 3, 1), (140, .iastore, 1, 0, 0, 0), (141, .iinc 5 1, 3, 1, 0, 0)], [(144, .goto (-134), 3, 10, 0, 0), (147, .iload 4, 2, 0, 0, 0), (149, .ifCond .le 12, 3, 161, 0, 0), (152, .aload_n 0, 1, 0, 0, 0), (153, .getfield 27, 3, 2, 5, 0), (156, .iconst 0, 1, 0, 0, 0), (157, .iaload, 1, 0, 0, 0), (158, .goto 4, 3, 162, 0, 0)], [(161, .iconst 0, 1, 0, 0, 0), (162, .ireturn, 1, 0, 0, 0)]]
set_option maxRecDepth 100000 in
theorem oc_La_worked : okC 37 c_La_worked = true := by decide +kernel
def cu_La_worked : List (Nat × List Bool) := [(10, [true, false, true, true, true, true]), (147, [true, false, false, false, true])]
noncomputable def F_La_worked (O : Type) (a : Nat) (av : List AV) (σ : Mem) (K : AV → Mem → Option O) : Option O := if a = 38 then sm_La_valueOf O av σ K else if a = 39 then sm_La_joined O av σ K else none
theorem fs_La_worked {X : CXT} (hX : XC X) (O : Type) : FS X 2 (F_La_worked O) := by
  intro a av σ K o h
  unfold F_La_worked at h
  rcases ite_s h with ⟨rfl, h⟩ | ⟨_, h⟩
  · obtain ⟨r, h1, h2, h3⟩ := ok_La_valueOf hX _ _ _ _ _ h
    exact ⟨r, fun ht => ⟨1, by decide, h1 ht⟩, h2, h3⟩
  rcases ite_s h with ⟨rfl, h⟩ | ⟨_, h⟩
  · obtain ⟨r, h1, h2, h3⟩ := ok_La_joined hX _ _ _ _ _ h
    exact ⟨r, fun ht => ⟨1, by decide, h1 ht⟩, h2, h3⟩
  cases h
def hd_La_worked_10 {O : Type} (g : Nat → Int32 → Nat → Int32 → Int32 → Mem → Option O) (ls : OL) (st : List AV) (σ : Mem) : Option O := match ls, st with
  | [some (.inr (.inr (2, k0))), none, some (.inl v2), some (.inr (.inr (100, k3))), some (.inl v4), some (.inl v5)], [] => g k0 v2 k3 v4 v5 σ
  | _, _ => none
theorem hs_La_worked_10 {X : CXT} {g : Nat → Int32 → Nat → Int32 → Int32 → Mem → Option (Int32 × Mem)} (hg : ∀ (k0 : Nat) (v2 : Int32) (k3 : Nat) (v4 : Int32) (v5 : Int32) (s : Mem) (o : Int32 × Mem), g k0 v2 k3 v4 v5 s = some o → BSnd X 2 37 (ovI o) 10 [some (.inr (.inr (2, k0))), none, some (.inl v2), some (.inr (.inr (100, k3))), some (.inl v4), some (.inl v5)] [] s) : ∀ ls st σ o, hd_La_worked_10 g ls st σ = some o → BSnd X 2 37 (ovI o) 10 ls st σ := by
  intro ls st σ o h
  unfold hd_La_worked_10 at h
  split at h
  · exact hg _ _ _ _ _ _ _ h
  · cases h
def hd_La_worked_147 {O : Type} (g : Nat → Int32 → Mem → Option O) (ls : OL) (st : List AV) (σ : Mem) : Option O := match ls, st with
  | [some (.inr (.inr (2, k0))), none, none, none, some (.inl v4)], [] => g k0 v4 σ
  | _, _ => none
theorem hs_La_worked_147 {X : CXT} {g : Nat → Int32 → Mem → Option (Int32 × Mem)} (hg : ∀ (k0 : Nat) (v4 : Int32) (s : Mem) (o : Int32 × Mem), g k0 v4 s = some o → BSnd X 2 37 (ovI o) 147 [some (.inr (.inr (2, k0))), none, none, none, some (.inl v4)] [] s) : ∀ ls st σ o, hd_La_worked_147 g ls st σ = some o → BSnd X 2 37 (ovI o) 147 ls st σ := by
  intro ls st σ o h
  unfold hd_La_worked_147 at h
  split at h
  · exact hg _ _ _ _ h
  · cases h
set_option maxRecDepth 100000 in
theorem s_La_worked_10 {X : CXT} (hX : XC X) {K147 : Nat → Int32 → Mem → Option (Int32 × Mem)} (hK147 : ∀ (k0 : Nat) (v4 : Int32) (s : Mem) (o : Int32 × Mem), K147 k0 v4 s = some o → BSnd X 2 37 (ovI o) 147 [some (.inr (.inr (2, k0))), none, none, none, some (.inl v4)] [] s) : ∀ n : Nat, ∀ (k0 : Nat) (v2 : Int32) (k3 : Nat) (v4 : Int32) (v5 : Int32) (s : Mem) (o : Int32 × Mem), f_La_worked_10 K147 n k0 v2 k3 v4 v5 s = some o → BSnd X 2 37 (ovI o) 10 [some (.inr (.inr (2, k0))), none, some (.inl v2), some (.inr (.inr (100, k3))), some (.inl v4), some (.inl v5)] [] s := by
  intro n
  induction n with
  | zero => intro k0 v2 k3 v4 v5 s o h; cases h
  | succ n ih =>
    intro k0 v2 k3 v4 v5 s o h
    exact evC (chs := c_La_worked) (cuts := cu_La_worked) (G := fun pc ls st σ => if pc = 10 then hd_La_worked_10 (fun k0 v2 k3 v4 v5 s => f_La_worked_10 K147 n k0 v2 k3 v4 v5 s) ls st σ else if pc = 147 then hd_La_worked_147 (fun k0 v4 s => K147 k0 v4 s) ls st σ else none) hX.2.1 hX.2.2 (F := F_La_worked _) (fs_La_worked hX _) (rt_I rfl) oc_La_worked (by
    intro pc ls st σ o h
    rcases ite_s h with ⟨rfl, h⟩ | ⟨_, h⟩
    · exact hs_La_worked_10 ih _ _ _ _ h
    rcases ite_s h with ⟨rfl, h⟩ | ⟨_, h⟩
    · exact hs_La_worked_147 hK147 _ _ _ _ h
    cases h) 388 10 _ _ _ _ h
set_option maxRecDepth 100000 in
theorem s_La_worked_147 {X : CXT} (hX : XC X) : ∀ (k0 : Nat) (v4 : Int32) (s : Mem) (o : Int32 × Mem), f_La_worked_147 k0 v4 s = some o → BSnd X 2 37 (ovI o) 147 [some (.inr (.inr (2, k0))), none, none, none, some (.inl v4)] [] s := by
  intro k0 v4 s o h
  exact evC (chs := c_La_worked) (cuts := cu_La_worked) (G := fun pc ls st σ => none) hX.2.1 hX.2.2 (F := F_La_worked _) (fs_La_worked hX _) (rt_I rfl) oc_La_worked (by
    intro pc ls st σ o h
    cases h) 388 147 _ _ _ _ h
set_option maxRecDepth 100000 in
theorem s_La_worked {X : CXT} (hX : XC X) : ∀ (k0 : Nat) (v1 : Int32) (v2 : Int32) (k3 : Nat) (s : Mem) (o : Int32 × Mem), f_La_worked k0 v1 v2 k3 s = some o → BSnd X 2 37 (ovI o) 0 (entL [.inr (.inr (2, k0)), .inl v1, .inl v2, .inr (.inr (100, k3))]) [] s := by
  intro k0 v1 v2 k3 s o h
  rw [f_La_worked_eq] at h
  exact evC (chs := c_La_worked) (cuts := cu_La_worked) (G := fun pc ls st σ => if pc = 10 then hd_La_worked_10 (fun k0 v2 k3 v4 v5 s => f_La_worked_10 (fun k0 v4 s => f_La_worked_147 k0 v4 s) FU k0 v2 k3 v4 v5 s) ls st σ else if pc = 147 then hd_La_worked_147 (fun k0 v4 s => f_La_worked_147 k0 v4 s) ls st σ else none) hX.2.1 hX.2.2 (F := F_La_worked _) (fs_La_worked hX _) (rt_I rfl) oc_La_worked (by
    intro pc ls st σ o h
    rcases ite_s h with ⟨rfl, h⟩ | ⟨_, h⟩
    · exact hs_La_worked_10 (s_La_worked_10 hX (s_La_worked_147 hX) FU) _ _ _ _ h
    rcases ite_s h with ⟨rfl, h⟩ | ⟨_, h⟩
    · exact hs_La_worked_147 (s_La_worked_147 hX) _ _ _ _ h
    cases h) 388 0 _ _ _ _ h
theorem ok_La_worked {X : CXT} (hX : XC X) : SemOK X 2 37 sm_La_worked := by
  intro O av σ K o h
  unfold sm_La_worked at h
  split at h
  · obtain ⟨r, hf, h⟩ := Option.bind_eq_some_iff.mp h
    exact ⟨ovI r, fun ht => sp_of hX.1 (by decide) (List.mem_range.mpr (by decide)) (by decide +kernel) ht (Nat.le_of_ble_eq_true rfl) (s_La_worked hX _ _ _ _ _ _ hf), trivial, h⟩
  · cases h
noncomputable def f_La_tells_46 (KH : Nat → Int32 → Nat → Int32 → Int32 → Int32 → Mem → Option (Int32 × Mem)) (K84 : Nat → Nat → Int32 → Int32 → Mem → Option (Int32 × Mem)) (k0 : Nat) (v1 : Int32) (k2 : Nat) (v4 : Int32) (v5 : Int32) (v6 : Int32) (v7 : Int32) (s : Mem) : Option (Int32 × Mem) :=
  gd (inb v6 (lenC (k0 + 1))) <|
  cif ((rI s (k0 + 1) (ix v6)) = v1) (
    cif (v7 = 0) (
      K84 k0 k2 v4 v6 s) (
      gd (inb v6 (lenC (k0 + 3))) <|
      gd (inb v6 (lenC (k0 + 4))) <|
      (f_La_worked k0 (rI s (k0 + 3) (ix v6)) (rI s (k0 + 4) (ix v6)) k2 s).bind fun r1 =>
      cif (r1.1 = 0) (
        KH k0 v1 k2 v4 v5 (v6 + (1 : Int32)) r1.2) (
        K84 k0 k2 v4 v6 r1.2))) (
    KH k0 v1 k2 v4 v5 (v6 + (1 : Int32)) s)
noncomputable def f_La_tells_6 (K84 : Nat → Nat → Int32 → Int32 → Mem → Option (Int32 × Mem)) : Nat → Nat → Int32 → Nat → Int32 → Int32 → Int32 → Mem → Option (Int32 × Mem)
  | 0, _, _, _, _, _, _, _ => none
  | n + 1, k0, v1, k2, v4, v5, v6, s =>
    cif ((rI s k0 7) ≤ v6) (
      some (imx ((0 : Int32)) (imn v4 v5), s)) (
      cif (((16 : Int32)) ≤ v6) (
        some (imx ((0 : Int32)) (imn v4 v5), s)) (
        gd (inb v6 (lenC (k0 + 3))) <|
        gd (inb v6 (lenC (k0 + 4))) <|
        cif ((rI s (k0 + 4) (ix v6)) ≤ (rI s (k0 + 3) (ix v6))) (
          f_La_tells_46 (fun k0 v1 k2 v4 v5 v6 s => f_La_tells_6 K84 n k0 v1 k2 v4 v5 v6 s) K84 k0 v1 k2 v4 v5 v6 ((0 : Int32)) s) (
          f_La_tells_46 (fun k0 v1 k2 v4 v5 v6 s => f_La_tells_6 K84 n k0 v1 k2 v4 v5 v6 s) K84 k0 v1 k2 v4 v5 v6 ((1 : Int32)) s)))
noncomputable def f_La_tells_84 (k0 : Nat) (k2 : Nat) (v4 : Int32) (v6 : Int32) (s : Mem) : Option (Int32 × Mem) :=
  gd (inb v6 (lenC (k0 + 2))) <|
  gd (inb v6 (lenC (k0 + 3))) <|
  (f_La_worked k0 (rI s (k0 + 2) (ix v6)) (rI s (k0 + 3) (ix v6)) k2 s).bind fun r1 =>
  some (imx ((0 : Int32)) (imn v4 r1.1), r1.2)
noncomputable def b_La_tells (k0 : Nat) (v1 : Int32) (k2 : Nat) (v3 : Int32) (v4 : Int32) (s : Mem) : Option (Int32 × Mem) :=
  f_La_tells_6 (fun k0 k2 v4 v6 s => f_La_tells_84 k0 k2 v4 v6 s) FU k0 v1 k2 v4 v3 ((0 : Int32)) s
noncomputable def f_La_tells : Nat → Int32 → Nat → Int32 → Int32 → Mem → Option (Int32 × Mem) := Classical.choose (⟨b_La_tells, rfl⟩ : ∃ f : Nat → Int32 → Nat → Int32 → Int32 → Mem → Option (Int32 × Mem), f = b_La_tells)
theorem f_La_tells_eq : f_La_tells = b_La_tells := Classical.choose_spec (⟨b_La_tells, rfl⟩ : ∃ f : Nat → Int32 → Nat → Int32 → Int32 → Mem → Option (Int32 × Mem), f = b_La_tells)
noncomputable def sm_La_tells (O : Type) (av : List AV) (σ : Mem) (K : AV → Mem → Option O) : Option O := match av with
  | [.inr (.inr (2, k0)), .inl v1, .inr (.inr (100, k2)), .inl v3, .inl v4] => (f_La_tells k0 v1 k2 v3 v4 σ).bind fun r => K (.inl r.1) r.2
  | _ => none
def c_La_tells : List (List CE) := [[(0, .iload_n 3, 1, 0, 0, 0), (1, .istore 5, 2, 0, 0, 0), (3, .iconst 0, 1, 0, 0, 0), (4, .istore 6, 2, 0, 0, 0), (6, .iload 6, 2, 0, 0, 0), (8, .aload_n 0, 1, 0, 0, 0), (9, .getfield 34, 3, 2, 7, 0), (12, .if_icmp .ge 102, 3, 114, 0, 0), (15, .iload 6, 2, 0, 0, 0)], [(17, .bipush 16, 2, 16, 0, 0), (19, .if_icmp .ge 95, 3, 114, 0, 0), (22, .aload_n 0, 1, 0, 0, 0), (23, .getfield 18, 3, 2, 2, 0), (26, .iload 6, 2, 0, 0, 0), (28, .iaload, 1, 0, 0, 0), (29, .aload_n 0, 1, 0, 0, 0), (30, .getfield 21, 3, 2, 3, 0)], [(33, .iload 6, 2, 0, 0, 0), (35, .iaload, 1, 0, 0, 0), (36, .if_icmp .ge 7, 3, 43, 0, 0), (39, .iconst 1, 1, 1, 0, 0), (40, .goto 4, 3, 44, 0, 0), (43, .iconst 0, 1, 0, 0, 0), (44, .istore 7, 2, 0, 0, 0), (46, .aload_n 0, 1, 0, 0, 0), (47, .getfield 9, 3, 2, 0, 0)], [(50, .iload 6, 2, 0, 0, 0), (52, .iaload, 1, 0, 0, 0), (53, .iload_n 1, 1, 0, 0, 0), (54, .if_icmp .ne 54, 3, 108, 0, 0), (57, .iload 7, 2, 0, 0, 0), (59, .ifCond .eq 25, 3, 84, 0, 0), (62, .aload_n 0, 1, 0, 0, 0), (63, .aload_n 0, 1, 0, 0, 0)], [(64, .getfield 18, 3, 2, 2, 0), (67, .iload 6, 2, 0, 0, 0), (69, .iaload, 1, 0, 0, 0), (70, .aload_n 0, 1, 0, 0, 0), (71, .getfield 21, 3, 2, 3, 0), (74, .iload 6, 2, 0, 0, 0), (76, .iaload, 1, 0, 0, 0), (77, .aload_n 2, 1, 0, 0, 0), (78, .invokevirtual 41, 3, 37, 4, 5)], [(81, .ifCond .eq 27, 3, 108, 0, 0), (84, .aload_n 0, 1, 0, 0, 0), (85, .aload_n 0, 1, 0, 0, 0), (86, .getfield 15, 3, 2, 1, 0), (89, .iload 6, 2, 0, 0, 0), (91, .iaload, 1, 0, 0, 0), (92, .aload_n 0, 1, 0, 0, 0), (93, .getfield 18, 3, 2, 2, 0)], [(96, .iload 6, 2, 0, 0, 0), (98, .iaload, 1, 0, 0, 0), (99, .aload_n 2, 1, 0, 0, 0), (100, .invokevirtual 41, 3, 37, 4, 5), (103, .istore 5, 2, 0, 0, 0), (105, .goto 9, 3, 114, 0, 0), (108, .iinc 6 1, 3, 1, 0, 0), (111, .goto (-105), 3, 6, 0, 0)], [(114, .iconst 0, 1, 0, 0, 0), (115, .iload 4, 2, 0, 0, 0), (117, .iload 5, 2, 0, 0, 0), (119, .invokestatic 45, 3, 32, 2, 3), (122, .invokestatic 51, 3, 7, 2, 2), (125, .ireturn, 1, 0, 0, 0)]]
set_option maxRecDepth 100000 in
theorem oc_La_tells : okC 36 c_La_tells = true := by decide +kernel
def cu_La_tells : List (Nat × List Bool) := [(46, [true, true, true, false, true, true, true, true]), (6, [true, true, true, false, true, true, true]), (84, [true, false, true, false, true, false, true])]
noncomputable def F_La_tells (O : Type) (a : Nat) (av : List AV) (σ : Mem) (K : AV → Mem → Option O) : Option O := if a = 37 then sm_La_worked O av σ K else none
theorem fs_La_tells {X : CXT} (hX : XC X) (O : Type) : FS X 3 (F_La_tells O) := by
  intro a av σ K o h
  unfold F_La_tells at h
  rcases ite_s h with ⟨rfl, h⟩ | ⟨_, h⟩
  · obtain ⟨r, h1, h2, h3⟩ := ok_La_worked hX _ _ _ _ _ h
    exact ⟨r, fun ht => ⟨2, by decide, h1 ht⟩, h2, h3⟩
  cases h
def hd_La_tells_46 {O : Type} (g : Nat → Int32 → Nat → Int32 → Int32 → Int32 → Int32 → Mem → Option O) (ls : OL) (st : List AV) (σ : Mem) : Option O := match ls, st with
  | [some (.inr (.inr (2, k0))), some (.inl v1), some (.inr (.inr (100, k2))), none, some (.inl v4), some (.inl v5), some (.inl v6), some (.inl v7)], [] => g k0 v1 k2 v4 v5 v6 v7 σ
  | _, _ => none
theorem hs_La_tells_46 {X : CXT} {g : Nat → Int32 → Nat → Int32 → Int32 → Int32 → Int32 → Mem → Option (Int32 × Mem)} (hg : ∀ (k0 : Nat) (v1 : Int32) (k2 : Nat) (v4 : Int32) (v5 : Int32) (v6 : Int32) (v7 : Int32) (s : Mem) (o : Int32 × Mem), g k0 v1 k2 v4 v5 v6 v7 s = some o → BSnd X 3 36 (ovI o) 46 [some (.inr (.inr (2, k0))), some (.inl v1), some (.inr (.inr (100, k2))), none, some (.inl v4), some (.inl v5), some (.inl v6), some (.inl v7)] [] s) : ∀ ls st σ o, hd_La_tells_46 g ls st σ = some o → BSnd X 3 36 (ovI o) 46 ls st σ := by
  intro ls st σ o h
  unfold hd_La_tells_46 at h
  split at h
  · exact hg _ _ _ _ _ _ _ _ _ h
  · cases h
def hd_La_tells_6 {O : Type} (g : Nat → Int32 → Nat → Int32 → Int32 → Int32 → Mem → Option O) (ls : OL) (st : List AV) (σ : Mem) : Option O := match ls, st with
  | [some (.inr (.inr (2, k0))), some (.inl v1), some (.inr (.inr (100, k2))), none, some (.inl v4), some (.inl v5), some (.inl v6)], [] => g k0 v1 k2 v4 v5 v6 σ
  | _, _ => none
theorem hs_La_tells_6 {X : CXT} {g : Nat → Int32 → Nat → Int32 → Int32 → Int32 → Mem → Option (Int32 × Mem)} (hg : ∀ (k0 : Nat) (v1 : Int32) (k2 : Nat) (v4 : Int32) (v5 : Int32) (v6 : Int32) (s : Mem) (o : Int32 × Mem), g k0 v1 k2 v4 v5 v6 s = some o → BSnd X 3 36 (ovI o) 6 [some (.inr (.inr (2, k0))), some (.inl v1), some (.inr (.inr (100, k2))), none, some (.inl v4), some (.inl v5), some (.inl v6)] [] s) : ∀ ls st σ o, hd_La_tells_6 g ls st σ = some o → BSnd X 3 36 (ovI o) 6 ls st σ := by
  intro ls st σ o h
  unfold hd_La_tells_6 at h
  split at h
  · exact hg _ _ _ _ _ _ _ _ h
  · cases h
def hd_La_tells_84 {O : Type} (g : Nat → Nat → Int32 → Int32 → Mem → Option O) (ls : OL) (st : List AV) (σ : Mem) : Option O := match ls, st with
  | [some (.inr (.inr (2, k0))), none, some (.inr (.inr (100, k2))), none, some (.inl v4), none, some (.inl v6)], [] => g k0 k2 v4 v6 σ
  | _, _ => none
theorem hs_La_tells_84 {X : CXT} {g : Nat → Nat → Int32 → Int32 → Mem → Option (Int32 × Mem)} (hg : ∀ (k0 : Nat) (k2 : Nat) (v4 : Int32) (v6 : Int32) (s : Mem) (o : Int32 × Mem), g k0 k2 v4 v6 s = some o → BSnd X 3 36 (ovI o) 84 [some (.inr (.inr (2, k0))), none, some (.inr (.inr (100, k2))), none, some (.inl v4), none, some (.inl v6)] [] s) : ∀ ls st σ o, hd_La_tells_84 g ls st σ = some o → BSnd X 3 36 (ovI o) 84 ls st σ := by
  intro ls st σ o h
  unfold hd_La_tells_84 at h
  split at h
  · exact hg _ _ _ _ _ _ h
  · cases h
set_option maxRecDepth 100000 in
theorem s_La_tells_46 {X : CXT} (hX : XC X) {KH : Nat → Int32 → Nat → Int32 → Int32 → Int32 → Mem → Option (Int32 × Mem)} {K84 : Nat → Nat → Int32 → Int32 → Mem → Option (Int32 × Mem)} (hKH : ∀ (k0 : Nat) (v1 : Int32) (k2 : Nat) (v4 : Int32) (v5 : Int32) (v6 : Int32) (s : Mem) (o : Int32 × Mem), KH k0 v1 k2 v4 v5 v6 s = some o → BSnd X 3 36 (ovI o) 6 [some (.inr (.inr (2, k0))), some (.inl v1), some (.inr (.inr (100, k2))), none, some (.inl v4), some (.inl v5), some (.inl v6)] [] s) (hK84 : ∀ (k0 : Nat) (k2 : Nat) (v4 : Int32) (v6 : Int32) (s : Mem) (o : Int32 × Mem), K84 k0 k2 v4 v6 s = some o → BSnd X 3 36 (ovI o) 84 [some (.inr (.inr (2, k0))), none, some (.inr (.inr (100, k2))), none, some (.inl v4), none, some (.inl v6)] [] s) : ∀ (k0 : Nat) (v1 : Int32) (k2 : Nat) (v4 : Int32) (v5 : Int32) (v6 : Int32) (v7 : Int32) (s : Mem) (o : Int32 × Mem), f_La_tells_46 KH K84 k0 v1 k2 v4 v5 v6 v7 s = some o → BSnd X 3 36 (ovI o) 46 [some (.inr (.inr (2, k0))), some (.inl v1), some (.inr (.inr (100, k2))), none, some (.inl v4), some (.inl v5), some (.inl v6), some (.inl v7)] [] s := by
  intro k0 v1 k2 v4 v5 v6 v7 s o h
  exact evC (chs := c_La_tells) (cuts := cu_La_tells) (G := fun pc ls st σ => if pc = 6 then hd_La_tells_6 (fun k0 v1 k2 v4 v5 v6 s => KH k0 v1 k2 v4 v5 v6 s) ls st σ else if pc = 84 then hd_La_tells_84 (fun k0 k2 v4 v6 s => K84 k0 k2 v4 v6 s) ls st σ else none) hX.2.1 hX.2.2 (F := F_La_tells _) (fs_La_tells hX _) (rt_I rfl) oc_La_tells (by
    intro pc ls st σ o h
    rcases ite_s h with ⟨rfl, h⟩ | ⟨_, h⟩
    · exact hs_La_tells_6 hKH _ _ _ _ h
    rcases ite_s h with ⟨rfl, h⟩ | ⟨_, h⟩
    · exact hs_La_tells_84 hK84 _ _ _ _ h
    cases h) 300 46 _ _ _ _ h
set_option maxRecDepth 100000 in
theorem s_La_tells_6 {X : CXT} (hX : XC X) {K84 : Nat → Nat → Int32 → Int32 → Mem → Option (Int32 × Mem)} (hK84 : ∀ (k0 : Nat) (k2 : Nat) (v4 : Int32) (v6 : Int32) (s : Mem) (o : Int32 × Mem), K84 k0 k2 v4 v6 s = some o → BSnd X 3 36 (ovI o) 84 [some (.inr (.inr (2, k0))), none, some (.inr (.inr (100, k2))), none, some (.inl v4), none, some (.inl v6)] [] s) : ∀ n : Nat, ∀ (k0 : Nat) (v1 : Int32) (k2 : Nat) (v4 : Int32) (v5 : Int32) (v6 : Int32) (s : Mem) (o : Int32 × Mem), f_La_tells_6 K84 n k0 v1 k2 v4 v5 v6 s = some o → BSnd X 3 36 (ovI o) 6 [some (.inr (.inr (2, k0))), some (.inl v1), some (.inr (.inr (100, k2))), none, some (.inl v4), some (.inl v5), some (.inl v6)] [] s := by
  intro n
  induction n with
  | zero => intro k0 v1 k2 v4 v5 v6 s o h; cases h
  | succ n ih =>
    intro k0 v1 k2 v4 v5 v6 s o h
    exact evC (chs := c_La_tells) (cuts := cu_La_tells) (G := fun pc ls st σ => if pc = 46 then hd_La_tells_46 (fun k0 v1 k2 v4 v5 v6 v7 s => f_La_tells_46 (fun k0 v1 k2 v4 v5 v6 s => f_La_tells_6 K84 n k0 v1 k2 v4 v5 v6 s) K84 k0 v1 k2 v4 v5 v6 v7 s) ls st σ else if pc = 6 then hd_La_tells_6 (fun k0 v1 k2 v4 v5 v6 s => f_La_tells_6 K84 n k0 v1 k2 v4 v5 v6 s) ls st σ else if pc = 84 then hd_La_tells_84 (fun k0 k2 v4 v6 s => K84 k0 k2 v4 v6 s) ls st σ else none) hX.2.1 hX.2.2 (F := F_La_tells _) (fs_La_tells hX _) (rt_I rfl) oc_La_tells (by
    intro pc ls st σ o h
    rcases ite_s h with ⟨rfl, h⟩ | ⟨_, h⟩
    · exact hs_La_tells_46 (s_La_tells_46 hX ih hK84) _ _ _ _ h
    rcases ite_s h with ⟨rfl, h⟩ | ⟨_, h⟩
    · exact hs_La_tells_6 ih _ _ _ _ h
    rcases ite_s h with ⟨rfl, h⟩ | ⟨_, h⟩
    · exact hs_La_tells_84 hK84 _ _ _ _ h
    cases h) 300 6 _ _ _ _ h
set_option maxRecDepth 100000 in
theorem s_La_tells_84 {X : CXT} (hX : XC X) : ∀ (k0 : Nat) (k2 : Nat) (v4 : Int32) (v6 : Int32) (s : Mem) (o : Int32 × Mem), f_La_tells_84 k0 k2 v4 v6 s = some o → BSnd X 3 36 (ovI o) 84 [some (.inr (.inr (2, k0))), none, some (.inr (.inr (100, k2))), none, some (.inl v4), none, some (.inl v6)] [] s := by
  intro k0 k2 v4 v6 s o h
  exact evC (chs := c_La_tells) (cuts := cu_La_tells) (G := fun pc ls st σ => none) hX.2.1 hX.2.2 (F := F_La_tells _) (fs_La_tells hX _) (rt_I rfl) oc_La_tells (by
    intro pc ls st σ o h
    cases h) 300 84 _ _ _ _ h
set_option maxRecDepth 100000 in
theorem s_La_tells {X : CXT} (hX : XC X) : ∀ (k0 : Nat) (v1 : Int32) (k2 : Nat) (v3 : Int32) (v4 : Int32) (s : Mem) (o : Int32 × Mem), f_La_tells k0 v1 k2 v3 v4 s = some o → BSnd X 3 36 (ovI o) 0 (entL [.inr (.inr (2, k0)), .inl v1, .inr (.inr (100, k2)), .inl v3, .inl v4]) [] s := by
  intro k0 v1 k2 v3 v4 s o h
  rw [f_La_tells_eq] at h
  exact evC (chs := c_La_tells) (cuts := cu_La_tells) (G := fun pc ls st σ => if pc = 6 then hd_La_tells_6 (fun k0 v1 k2 v4 v5 v6 s => f_La_tells_6 (fun k0 k2 v4 v6 s => f_La_tells_84 k0 k2 v4 v6 s) FU k0 v1 k2 v4 v5 v6 s) ls st σ else if pc = 84 then hd_La_tells_84 (fun k0 k2 v4 v6 s => f_La_tells_84 k0 k2 v4 v6 s) ls st σ else none) hX.2.1 hX.2.2 (F := F_La_tells _) (fs_La_tells hX _) (rt_I rfl) oc_La_tells (by
    intro pc ls st σ o h
    rcases ite_s h with ⟨rfl, h⟩ | ⟨_, h⟩
    · exact hs_La_tells_6 (s_La_tells_6 hX (s_La_tells_84 hX) FU) _ _ _ _ h
    rcases ite_s h with ⟨rfl, h⟩ | ⟨_, h⟩
    · exact hs_La_tells_84 (s_La_tells_84 hX) _ _ _ _ h
    cases h) 300 0 _ _ _ _ h
theorem ok_La_tells {X : CXT} (hX : XC X) : SemOK X 3 36 sm_La_tells := by
  intro O av σ K o h
  unfold sm_La_tells at h
  split at h
  · obtain ⟨r, hf, h⟩ := Option.bind_eq_some_iff.mp h
    exact ⟨ovI r, fun ht => sp_of hX.1 (by decide) (List.mem_range.mpr (by decide)) (by decide +kernel) ht (Nat.le_of_ble_eq_true rfl) (s_La_tells hX _ _ _ _ _ _ _ hf), trivial, h⟩
  · cases h
noncomputable def b_Co_shameOf (k0 : Nat) (k1 : Nat) (v2 : Int32) (v3 : Int32) (s : Mem) : Option (Int32 × Mem) :=
  (f_Co_ask k0 k1 s).bind fun r1 =>
  gd (inb ((0 : Int32)) (lenC (k0 + 1))) <|
  let s2 : Mem := wI r1 (k0 + 1) (ix ((0 : Int32))) v2
  gd (inb ((1 : Int32)) (lenC (k0 + 1))) <|
  let s3 : Mem := wI s2 (k0 + 1) (ix ((1 : Int32))) v3
  gd (inb ((8 : Int32)) (lenC (k0 + 1))) <|
  let s4 : Mem := wI s3 (k0 + 1) (ix ((8 : Int32))) (rI s3 k1 7)
  (f_La_tells ((k0 - 119) + 4) ((0 : Int32)) (k0 + 1) ((v3 / ((9 : Int32))) + ((1 : Int32))) ((20 : Int32)) s4).bind fun r5 =>
  some (r5.1, r5.2)
noncomputable def f_Co_shameOf : Nat → Nat → Int32 → Int32 → Mem → Option (Int32 × Mem) := Classical.choose (⟨b_Co_shameOf, rfl⟩ : ∃ f : Nat → Nat → Int32 → Int32 → Mem → Option (Int32 × Mem), f = b_Co_shameOf)
theorem f_Co_shameOf_eq : f_Co_shameOf = b_Co_shameOf := Classical.choose_spec (⟨b_Co_shameOf, rfl⟩ : ∃ f : Nat → Nat → Int32 → Int32 → Mem → Option (Int32 × Mem), f = b_Co_shameOf)
noncomputable def sm_Co_shameOf (O : Type) (av : List AV) (σ : Mem) (K : AV → Mem → Option O) : Option O := match av with
  | [.inr (.inr (0, k0)), .inr (.inr (4, k1)), .inl v2, .inl v3] => (f_Co_shameOf k0 k1 v2 v3 σ).bind fun r => K (.inl r.1) r.2
  | _ => none
def c_Co_shameOf : List (List CE) := [[(0, .aload_n 0, 1, 0, 0, 0), (1, .aload_n 1, 1, 0, 0, 0), (2, .invokevirtual 34, 3, 35, 2, 0), (5, .aload_n 0, 1, 0, 0, 0), (6, .getfield 9, 3, 0, 2, 0), (9, .iconst 0, 1, 0, 0, 0), (10, .iload_n 2, 1, 0, 0, 0), (11, .iastore, 1, 0, 0, 0), (12, .aload_n 0, 1, 0, 0, 0), (13, .getfield 9, 3, 0, 2, 0)], [(16, .iconst 1, 1, 1, 0, 0), (17, .iload_n 3, 1, 0, 0, 0), (18, .iastore, 1, 0, 0, 0), (19, .aload_n 0, 1, 0, 0, 0), (20, .getfield 9, 3, 0, 2, 0), (23, .bipush 8, 2, 8, 0, 0), (25, .aload_n 1, 1, 0, 0, 0), (26, .getfield 38, 3, 4, 7, 0), (29, .iastore, 1, 0, 0, 0), (30, .aload_n 0, 1, 0, 0, 0), (31, .getfield 15, 3, 0, 0, 0)], [(34, .getfield 41, 3, 8, 3, 0), (37, .iconst 0, 1, 0, 0, 0), (38, .aload_n 0, 1, 0, 0, 0), (39, .getfield 9, 3, 0, 2, 0), (42, .iload_n 3, 1, 0, 0, 0), (43, .bipush 9, 2, 9, 0, 0), (45, .idiv, 1, 0, 0, 0), (46, .iconst 1, 1, 1, 0, 0), (47, .iadd, 1, 0, 0, 0)], [(48, .bipush 20, 2, 20, 0, 0), (50, .invokevirtual 45, 3, 36, 5, 5), (53, .ireturn, 1, 0, 0, 0)]]
set_option maxRecDepth 100000 in
theorem oc_Co_shameOf : okC 34 c_Co_shameOf = true := by decide +kernel
def cu_Co_shameOf : List (Nat × List Bool) := []
noncomputable def F_Co_shameOf (O : Type) (a : Nat) (av : List AV) (σ : Mem) (K : AV → Mem → Option O) : Option O := if a = 35 then sm_Co_ask O av σ K else if a = 36 then sm_La_tells O av σ K else none
theorem fs_Co_shameOf {X : CXT} (hX : XC X) (O : Type) : FS X 4 (F_Co_shameOf O) := by
  intro a av σ K o h
  unfold F_Co_shameOf at h
  rcases ite_s h with ⟨rfl, h⟩ | ⟨_, h⟩
  · obtain ⟨r, h1, h2, h3⟩ := ok_Co_ask hX _ _ _ _ _ h
    exact ⟨r, fun ht => ⟨1, by decide, h1 ht⟩, h2, h3⟩
  rcases ite_s h with ⟨rfl, h⟩ | ⟨_, h⟩
  · obtain ⟨r, h1, h2, h3⟩ := ok_La_tells hX _ _ _ _ _ h
    exact ⟨r, fun ht => ⟨3, by decide, h1 ht⟩, h2, h3⟩
  cases h
set_option maxRecDepth 100000 in
theorem s_Co_shameOf {X : CXT} (hX : XC X) : ∀ (k0 : Nat) (k1 : Nat) (v2 : Int32) (v3 : Int32) (s : Mem) (o : Int32 × Mem), f_Co_shameOf k0 k1 v2 v3 s = some o → BSnd X 4 34 (ovI o) 0 (entL [.inr (.inr (0, k0)), .inr (.inr (4, k1)), .inl v2, .inl v3]) [] s := by
  intro k0 k1 v2 v3 s o h
  rw [f_Co_shameOf_eq] at h
  exact evC (chs := c_Co_shameOf) (cuts := cu_Co_shameOf) (G := fun pc ls st σ => none) hX.2.1 hX.2.2 (F := F_Co_shameOf _) (fs_Co_shameOf hX _) (rt_I rfl) oc_Co_shameOf (by
    intro pc ls st σ o h
    cases h) 172 0 _ _ _ _ h
theorem ok_Co_shameOf {X : CXT} (hX : XC X) : SemOK X 4 34 sm_Co_shameOf := by
  intro O av σ K o h
  unfold sm_Co_shameOf at h
  split at h
  · obtain ⟨r, hf, h⟩ := Option.bind_eq_some_iff.mp h
    exact ⟨ovI r, fun ht => sp_of hX.1 (by decide) (List.mem_range.mpr (by decide)) (by decide +kernel) ht (Nat.le_of_ble_eq_true rfl) (s_Co_shameOf hX _ _ _ _ _ _ hf), trivial, h⟩
  · cases h
noncomputable def b_Lo_write (k0 : Nat) (k1 : Nat) (v2 : Int32) (v3 : Int32) (v4 : Int32) (s : Mem) : Option (Mem) :=
  cif ((rI s k1 0) = 0) (
    (f_P_within (rI s k1 10) ((0 : Int32)) ((149 : Int32)) s).bind fun r1 =>
    cif ((b2i r1.1) = 0) (
      some r1.2) (
      let x2 : Int32 := (rI r1.2 k1 10) * ((4 : Int32))
      gd (inb x2 (lenC (k0 + 1))) <|
      let s3 : Mem := wI r1.2 (k0 + 1) (ix x2) (rI r1.2 k1 7)
      gd (inb (x2 + ((1 : Int32))) (lenC (k0 + 1))) <|
      let s4 : Mem := wI s3 (k0 + 1) (ix (x2 + ((1 : Int32)))) v2
      gd (inb (x2 + ((2 : Int32))) (lenC (k0 + 1))) <|
      let s5 : Mem := wI s4 (k0 + 1) (ix (x2 + ((2 : Int32)))) v3
      gd (inb (x2 + ((3 : Int32))) (lenC (k0 + 1))) <|
      let s6 : Mem := wI s5 (k0 + 1) (ix (x2 + ((3 : Int32)))) v4
      let s7 : Mem := wI s6 k1 10 ((rI s6 k1 10) + ((1 : Int32)))
      some s7)) (
    some s)
noncomputable def f_Lo_write : Nat → Nat → Int32 → Int32 → Int32 → Mem → Option (Mem) := Classical.choose (⟨b_Lo_write, rfl⟩ : ∃ f : Nat → Nat → Int32 → Int32 → Int32 → Mem → Option (Mem), f = b_Lo_write)
theorem f_Lo_write_eq : f_Lo_write = b_Lo_write := Classical.choose_spec (⟨b_Lo_write, rfl⟩ : ∃ f : Nat → Nat → Int32 → Int32 → Int32 → Mem → Option (Mem), f = b_Lo_write)
noncomputable def sm_Lo_write (O : Type) (av : List AV) (σ : Mem) (K : AV → Mem → Option O) : Option O := match av with
  | [.inr (.inr (3, k0)), .inr (.inr (4, k1)), .inl v2, .inl v3, .inl v4] => (f_Lo_write k0 k1 v2 v3 v4 σ).bind fun r => K (.inl 0) r
  | _ => none
def c_Lo_write : List (List CE) := [[(0, .aload_n 1, 1, 0, 0, 0), (1, .getfield 15, 3, 4, 0, 0), (4, .ifCond .ne 17, 3, 21, 0, 0), (7, .aload_n 1, 1, 0, 0, 0), (8, .getfield 21, 3, 4, 10, 0), (11, .iconst 0, 1, 0, 0, 0), (12, .sipush 149, 3, 149, 0, 0), (15, .invokestatic 25, 3, 17, 3, 1)], [(18, .ifCond .ne 4, 3, 22, 0, 0), (21, .return_, 1, 0, 0, 0), (22, .aload_n 1, 1, 0, 0, 0), (23, .getfield 21, 3, 4, 10, 0), (26, .iconst 4, 1, 4, 0, 0), (27, .imul, 1, 0, 0, 0), (28, .istore 5, 2, 0, 0, 0), (30, .aload_n 0, 1, 0, 0, 0), (31, .getfield 11, 3, 3, 0, 0)], [(34, .iload 5, 2, 0, 0, 0), (36, .aload_n 1, 1, 0, 0, 0), (37, .getfield 29, 3, 4, 7, 0), (40, .iastore, 1, 0, 0, 0), (41, .aload_n 0, 1, 0, 0, 0), (42, .getfield 11, 3, 3, 0, 0), (45, .iload 5, 2, 0, 0, 0), (47, .iconst 1, 1, 1, 0, 0)], [(48, .iadd, 1, 0, 0, 0), (49, .iload_n 2, 1, 0, 0, 0), (50, .iastore, 1, 0, 0, 0), (51, .aload_n 0, 1, 0, 0, 0), (52, .getfield 11, 3, 3, 0, 0), (55, .iload 5, 2, 0, 0, 0), (57, .iconst 2, 1, 2, 0, 0), (58, .iadd, 1, 0, 0, 0), (59, .iload_n 3, 1, 0, 0, 0), (60, .iastore, 1, 0, 0, 0), (61, .aload_n 0, 1, 0, 0, 0), (62, .getfield 11, 3, 3, 0, 0)], [(65, .iload 5, 2, 0, 0, 0), (67, .iconst 3, 1, 3, 0, 0), (68, .iadd, 1, 0, 0, 0), (69, .iload 4, 2, 0, 0, 0), (71, .iastore, 1, 0, 0, 0), (72, .aload_n 1, 1, 0, 0, 0), (73, .dup, 1, 0, 0, 0), (74, .getfield 21, 3, 4, 10, 0), (77, .iconst 1, 1, 1, 0, 0), (78, .iadd, 1, 0, 0, 0), (79, .putfield 21, 3, 4, 10, 0)], [(82, .return_, 1, 0, 0, 0)]]
set_option maxRecDepth 100000 in
theorem oc_Lo_write : okC 40 c_Lo_write = true := by decide +kernel
def cu_Lo_write : List (Nat × List Bool) := []
noncomputable def F_Lo_write (O : Type) (a : Nat) (av : List AV) (σ : Mem) (K : AV → Mem → Option O) : Option O := if a = 17 then sm_P_within O av σ K else none
theorem fs_Lo_write {X : CXT} (hX : XC X) (O : Type) : FS X 2 (F_Lo_write O) := by
  intro a av σ K o h
  unfold F_Lo_write at h
  rcases ite_s h with ⟨rfl, h⟩ | ⟨_, h⟩
  · obtain ⟨r, h1, h2, h3⟩ := ok_P_within hX _ _ _ _ _ h
    exact ⟨r, fun ht => ⟨1, by decide, h1 ht⟩, h2, h3⟩
  cases h
set_option maxRecDepth 100000 in
theorem s_Lo_write {X : CXT} (hX : XC X) : ∀ (k0 : Nat) (k1 : Nat) (v2 : Int32) (v3 : Int32) (v4 : Int32) (s : Mem) (o : Mem), f_Lo_write k0 k1 v2 v3 v4 s = some o → BSnd X 2 40 (ovV o) 0 (entL [.inr (.inr (3, k0)), .inr (.inr (4, k1)), .inl v2, .inl v3, .inl v4]) [] s := by
  intro k0 k1 v2 v3 v4 s o h
  rw [f_Lo_write_eq] at h
  exact evC (chs := c_Lo_write) (cuts := cu_Lo_write) (G := fun pc ls st σ => none) hX.2.1 hX.2.2 (F := F_Lo_write _) (fs_Lo_write hX _) (rt_V rfl) oc_Lo_write (by
    intro pc ls st σ o h
    cases h) 236 0 _ _ _ _ h
theorem ok_Lo_write {X : CXT} (hX : XC X) : SemOK X 2 40 sm_Lo_write := by
  intro O av σ K o h
  unfold sm_Lo_write at h
  split at h
  · obtain ⟨r, hf, h⟩ := Option.bind_eq_some_iff.mp h
    exact ⟨ovV r, fun ht => sp_of hX.1 (by decide) (List.mem_range.mpr (by decide)) (by decide +kernel) ht (Nat.le_of_ble_eq_true rfl) (s_Lo_write hX _ _ _ _ _ _ _ hf), trivial, h⟩
  · cases h
noncomputable def b_Co_build (k0 : Nat) (k1 : Nat) (v2 : Int32) (v3 : Int32) (s : Mem) : Option (Int32 × Mem) :=
  let x1 : Int32 := rI s k1 6
  (f_Co_shameOf k0 k1 v2 v3 s).bind fun r2 =>
  let s3 : Mem := wI r2.2 k1 6 (imn ((200 : Int32)) (x1 + r2.1))
  (f_Lo_write (k0 - 67) k1 ((0 : Int32)) v2 ((rI s3 k1 6) - x1) s3).bind fun r4 =>
  some ((rI r4 k1 6) - x1, r4)
noncomputable def f_Co_build : Nat → Nat → Int32 → Int32 → Mem → Option (Int32 × Mem) := Classical.choose (⟨b_Co_build, rfl⟩ : ∃ f : Nat → Nat → Int32 → Int32 → Mem → Option (Int32 × Mem), f = b_Co_build)
theorem f_Co_build_eq : f_Co_build = b_Co_build := Classical.choose_spec (⟨b_Co_build, rfl⟩ : ∃ f : Nat → Nat → Int32 → Int32 → Mem → Option (Int32 × Mem), f = b_Co_build)
noncomputable def sm_Co_build (O : Type) (av : List AV) (σ : Mem) (K : AV → Mem → Option O) : Option O := match av with
  | [.inr (.inr (0, k0)), .inr (.inr (4, k1)), .inl v2, .inl v3] => (f_Co_build k0 k1 v2 v3 σ).bind fun r => K (.inl r.1) r.2
  | _ => none
def c_Co_build : List (List CE) := [[(0, .aload_n 1, 1, 0, 0, 0), (1, .getfield 23, 3, 4, 6, 0), (4, .istore 4, 2, 0, 0, 0), (6, .aload_n 1, 1, 0, 0, 0), (7, .sipush 200, 3, 200, 0, 0), (10, .iload 4, 2, 0, 0, 0), (12, .aload_n 0, 1, 0, 0, 0), (13, .aload_n 1, 1, 0, 0, 0), (14, .iload_n 2, 1, 0, 0, 0), (15, .iload_n 3, 1, 0, 0, 0)], [(16, .invokevirtual 76, 3, 34, 4, 1), (19, .iadd, 1, 0, 0, 0), (20, .invokestatic 80, 3, 32, 2, 3), (23, .putfield 23, 3, 4, 6, 0), (26, .aload_n 0, 1, 0, 0, 0), (27, .getfield 19, 3, 0, 1, 0), (30, .aload_n 1, 1, 0, 0, 0), (31, .iconst 0, 1, 0, 0, 0)], [(32, .iload_n 2, 1, 0, 0, 0), (33, .aload_n 1, 1, 0, 0, 0), (34, .getfield 23, 3, 4, 6, 0), (37, .iload 4, 2, 0, 0, 0), (39, .isub, 1, 0, 0, 0), (40, .invokevirtual 83, 3, 40, 5, 6), (43, .aload_n 1, 1, 0, 0, 0), (44, .getfield 23, 3, 4, 6, 0), (47, .iload 4, 2, 0, 0, 0)], [(49, .isub, 1, 0, 0, 0), (50, .ireturn, 1, 0, 0, 0)]]
set_option maxRecDepth 100000 in
theorem oc_Co_build : okC 33 c_Co_build = true := by decide +kernel
def cu_Co_build : List (Nat × List Bool) := []
noncomputable def F_Co_build (O : Type) (a : Nat) (av : List AV) (σ : Mem) (K : AV → Mem → Option O) : Option O := if a = 34 then sm_Co_shameOf O av σ K else if a = 40 then sm_Lo_write O av σ K else none
theorem fs_Co_build {X : CXT} (hX : XC X) (O : Type) : FS X 5 (F_Co_build O) := by
  intro a av σ K o h
  unfold F_Co_build at h
  rcases ite_s h with ⟨rfl, h⟩ | ⟨_, h⟩
  · obtain ⟨r, h1, h2, h3⟩ := ok_Co_shameOf hX _ _ _ _ _ h
    exact ⟨r, fun ht => ⟨4, by decide, h1 ht⟩, h2, h3⟩
  rcases ite_s h with ⟨rfl, h⟩ | ⟨_, h⟩
  · obtain ⟨r, h1, h2, h3⟩ := ok_Lo_write hX _ _ _ _ _ h
    exact ⟨r, fun ht => ⟨2, by decide, h1 ht⟩, h2, h3⟩
  cases h
set_option maxRecDepth 100000 in
theorem s_Co_build {X : CXT} (hX : XC X) : ∀ (k0 : Nat) (k1 : Nat) (v2 : Int32) (v3 : Int32) (s : Mem) (o : Int32 × Mem), f_Co_build k0 k1 v2 v3 s = some o → BSnd X 5 33 (ovI o) 0 (entL [.inr (.inr (0, k0)), .inr (.inr (4, k1)), .inl v2, .inl v3]) [] s := by
  intro k0 k1 v2 v3 s o h
  rw [f_Co_build_eq] at h
  exact evC (chs := c_Co_build) (cuts := cu_Co_build) (G := fun pc ls st σ => none) hX.2.1 hX.2.2 (F := F_Co_build _) (fs_Co_build hX _) (rt_I rfl) oc_Co_build (by
    intro pc ls st σ o h
    cases h) 156 0 _ _ _ _ h
theorem ok_Co_build {X : CXT} (hX : XC X) : SemOK X 5 33 sm_Co_build := by
  intro O av σ K o h
  unfold sm_Co_build at h
  split at h
  · obtain ⟨r, hf, h⟩ := Option.bind_eq_some_iff.mp h
    exact ⟨ovI r, fun ht => sp_of hX.1 (by decide) (List.mem_range.mpr (by decide)) (by decide +kernel) ht (Nat.le_of_ble_eq_true rfl) (s_Co_build hX _ _ _ _ _ _ hf), trivial, h⟩
  · cases h
noncomputable def b_P_owns (k0 : Nat) (v1 : Int32) (v2 : Int32) (s : Mem) : Option (Int32 × Mem) :=
  (f_P_isDeed v1 v2 s).bind fun r1 =>
  cif ((b2i r1.1) = 0) (
    some ((-1 : Int32), r1.2)) (
    (f_Ke_keep (k0 + 128) (k0 + 2) r1.2).bind fun r2 =>
    (f_Co_build (k0 + 126) (k0 + 2) v1 v2 r2).bind fun r3 =>
    some (r3.1, r3.2))
noncomputable def f_P_owns : Nat → Int32 → Int32 → Mem → Option (Int32 × Mem) := Classical.choose (⟨b_P_owns, rfl⟩ : ∃ f : Nat → Int32 → Int32 → Mem → Option (Int32 × Mem), f = b_P_owns)
theorem f_P_owns_eq : f_P_owns = b_P_owns := Classical.choose_spec (⟨b_P_owns, rfl⟩ : ∃ f : Nat → Int32 → Int32 → Mem → Option (Int32 × Mem), f = b_P_owns)
noncomputable def sm_P_owns (O : Type) (av : List AV) (σ : Mem) (K : AV → Mem → Option O) : Option O := match av with
  | [.inr (.inr (11, k0)), .inl v1, .inl v2] => (f_P_owns k0 v1 v2 σ).bind fun r => K (.inl r.1) r.2
  | _ => none
def c_P_owns : List (List CE) := [[(0, .iload_n 1, 1, 0, 0, 0), (1, .iload_n 2, 1, 0, 0, 0), (2, .invokestatic 110, 3, 28, 2, 1), (5, .ifCond .ne 5, 3, 10, 0, 0), (8, .iconst (-1), 1, 1, 0, 1), (9, .ireturn, 1, 0, 0, 0), (10, .aload_n 0, 1, 0, 0, 0), (11, .getfield 48, 3, 11, 4, 0), (14, .aload_n 0, 1, 0, 0, 0), (15, .getfield 10, 3, 11, 0, 0)], [(18, .getfield 70, 3, 10, 0, 0), (21, .invokevirtual 113, 3, 29, 2, 2), (24, .aload_n 0, 1, 0, 0, 0), (25, .getfield 41, 3, 11, 3, 0), (28, .aload_n 0, 1, 0, 0, 0), (29, .getfield 10, 3, 11, 0, 0)], [(32, .getfield 70, 3, 10, 0, 0), (35, .iload_n 1, 1, 0, 0, 0), (36, .iload_n 2, 1, 0, 0, 0), (37, .invokevirtual 117, 3, 33, 4, 1), (40, .ireturn, 1, 0, 0, 0)]]
set_option maxRecDepth 100000 in
theorem oc_P_owns : okC 27 c_P_owns = true := by decide +kernel
def cu_P_owns : List (Nat × List Bool) := []
noncomputable def F_P_owns (O : Type) (a : Nat) (av : List AV) (σ : Mem) (K : AV → Mem → Option O) : Option O := if a = 28 then sm_P_isDeed O av σ K else if a = 29 then sm_Ke_keep O av σ K else if a = 33 then sm_Co_build O av σ K else none
theorem fs_P_owns {X : CXT} (hX : XC X) (O : Type) : FS X 6 (F_P_owns O) := by
  intro a av σ K o h
  unfold F_P_owns at h
  rcases ite_s h with ⟨rfl, h⟩ | ⟨_, h⟩
  · obtain ⟨r, h1, h2, h3⟩ := ok_P_isDeed hX _ _ _ _ _ h
    exact ⟨r, fun ht => ⟨2, by decide, h1 ht⟩, h2, h3⟩
  rcases ite_s h with ⟨rfl, h⟩ | ⟨_, h⟩
  · obtain ⟨r, h1, h2, h3⟩ := ok_Ke_keep hX _ _ _ _ _ h
    exact ⟨r, fun ht => ⟨2, by decide, h1 ht⟩, h2, h3⟩
  rcases ite_s h with ⟨rfl, h⟩ | ⟨_, h⟩
  · obtain ⟨r, h1, h2, h3⟩ := ok_Co_build hX _ _ _ _ _ h
    exact ⟨r, fun ht => ⟨5, by decide, h1 ht⟩, h2, h3⟩
  cases h
set_option maxRecDepth 100000 in
theorem s_P_owns {X : CXT} (hX : XC X) : ∀ (k0 : Nat) (v1 : Int32) (v2 : Int32) (s : Mem) (o : Int32 × Mem), f_P_owns k0 v1 v2 s = some o → BSnd X 6 27 (ovI o) 0 (entL [.inr (.inr (11, k0)), .inl v1, .inl v2]) [] s := by
  intro k0 v1 v2 s o h
  rw [f_P_owns_eq] at h
  exact evC (chs := c_P_owns) (cuts := cu_P_owns) (G := fun pc ls st σ => none) hX.2.1 hX.2.2 (F := F_P_owns _) (fs_P_owns hX _) (rt_I rfl) oc_P_owns (by
    intro pc ls st σ o h
    cases h) 124 0 _ _ _ _ h
theorem ok_P_owns {X : CXT} (hX : XC X) : SemOK X 6 27 sm_P_owns := by
  intro O av σ K o h
  unfold sm_P_owns at h
  split at h
  · obtain ⟨r, hf, h⟩ := Option.bind_eq_some_iff.mp h
    exact ⟨ovI r, fun ht => sp_of hX.1 (by decide) (List.mem_range.mpr (by decide)) (by decide +kernel) ht (Nat.le_of_ble_eq_true rfl) (s_P_owns hX _ _ _ _ _ hf), trivial, h⟩
  · cases h
noncomputable def b_P_isMile (v0 : Int32) (s : Mem) : Option (Bool × Mem) :=
  (f_P_within v0 ((0 : Int32)) ((199 : Int32)) s).bind fun r1 =>
  lf (rB (b2i r1.1)) r1.2
noncomputable def f_P_isMile : Int32 → Mem → Option (Bool × Mem) := Classical.choose (⟨b_P_isMile, rfl⟩ : ∃ f : Int32 → Mem → Option (Bool × Mem), f = b_P_isMile)
theorem f_P_isMile_eq : f_P_isMile = b_P_isMile := Classical.choose_spec (⟨b_P_isMile, rfl⟩ : ∃ f : Int32 → Mem → Option (Bool × Mem), f = b_P_isMile)
noncomputable def sm_P_isMile (O : Type) (av : List AV) (σ : Mem) (K : AV → Mem → Option O) : Option O := match av with
  | [.inl v0] => (f_P_isMile v0 σ).bind fun r => K (.inl (b2i r.1)) r.2
  | _ => none
def c_P_isMile : List (List CE) := [[(0, .iload_n 0, 1, 0, 0, 0), (1, .iconst 0, 1, 0, 0, 0), (2, .sipush 199, 3, 199, 0, 0), (5, .invokestatic 80, 3, 17, 3, 1), (8, .ireturn, 1, 0, 0, 0)]]
set_option maxRecDepth 100000 in
theorem oc_P_isMile : okC 44 c_P_isMile = true := by decide +kernel
def cu_P_isMile : List (Nat × List Bool) := []
noncomputable def F_P_isMile (O : Type) (a : Nat) (av : List AV) (σ : Mem) (K : AV → Mem → Option O) : Option O := if a = 17 then sm_P_within O av σ K else none
theorem fs_P_isMile {X : CXT} (hX : XC X) (O : Type) : FS X 2 (F_P_isMile O) := by
  intro a av σ K o h
  unfold F_P_isMile at h
  rcases ite_s h with ⟨rfl, h⟩ | ⟨_, h⟩
  · obtain ⟨r, h1, h2, h3⟩ := ok_P_within hX _ _ _ _ _ h
    exact ⟨r, fun ht => ⟨1, by decide, h1 ht⟩, h2, h3⟩
  cases h
set_option maxRecDepth 100000 in
theorem s_P_isMile {X : CXT} (hX : XC X) : ∀ (v0 : Int32) (s : Mem) (o : Bool × Mem), f_P_isMile v0 s = some o → BSnd X 2 44 (ovZ o) 0 (entL [.inl v0]) [] s := by
  intro v0 s o h
  rw [f_P_isMile_eq] at h
  exact evC (chs := c_P_isMile) (cuts := cu_P_isMile) (G := fun pc ls st σ => none) hX.2.1 hX.2.2 (F := F_P_isMile _) (fs_P_isMile hX _) (rt_Z rfl) oc_P_isMile (by
    intro pc ls st σ o h
    cases h) 60 0 _ _ _ _ h
theorem ok_P_isMile {X : CXT} (hX : XC X) : SemOK X 2 44 sm_P_isMile := by
  intro O av σ K o h
  unfold sm_P_isMile at h
  split at h
  · obtain ⟨r, hf, h⟩ := Option.bind_eq_some_iff.mp h
    exact ⟨ovZ r, fun ht => sp_of hX.1 (by decide) (List.mem_range.mpr (by decide)) (by decide +kernel) ht (Nat.le_of_ble_eq_true rfl) (s_P_isMile hX _ _ _ hf), trivial, h⟩
  · cases h
noncomputable def b_Pi_isWhole (k0 : Nat) (v1 : Int32) (s : Mem) : Option (Bool × Mem) :=
  (f_P_isMile v1 s).bind fun r1 =>
  cif ((b2i r1.1) = 0) (
    some (false, r1.2)) (
    cif ((rI r1.2 k0 6) ≤ v1) (
      some (false, r1.2)) (
      gd (inb v1 (lenC (k0 + 1))) <|
      cif ((rI r1.2 (k0 + 1) (ix v1)) = 0) (
        some (true, r1.2)) (
        some (false, r1.2))))
noncomputable def f_Pi_isWhole : Nat → Int32 → Mem → Option (Bool × Mem) := Classical.choose (⟨b_Pi_isWhole, rfl⟩ : ∃ f : Nat → Int32 → Mem → Option (Bool × Mem), f = b_Pi_isWhole)
theorem f_Pi_isWhole_eq : f_Pi_isWhole = b_Pi_isWhole := Classical.choose_spec (⟨b_Pi_isWhole, rfl⟩ : ∃ f : Nat → Int32 → Mem → Option (Bool × Mem), f = b_Pi_isWhole)
noncomputable def sm_Pi_isWhole (O : Type) (av : List AV) (σ : Mem) (K : AV → Mem → Option O) : Option O := match av with
  | [.inr (.inr (4, k0)), .inl v1] => (f_Pi_isWhole k0 v1 σ).bind fun r => K (.inl (b2i r.1)) r.2
  | _ => none
def c_Pi_isWhole : List (List CE) := [[(0, .iload_n 1, 1, 0, 0, 0), (1, .invokestatic 54, 3, 44, 1, 1), (4, .ifCond .eq 24, 3, 28, 0, 0), (7, .iload_n 1, 1, 0, 0, 0), (8, .aload_n 0, 1, 0, 0, 0), (9, .getfield 29, 3, 4, 6, 0), (12, .if_icmp .ge 16, 3, 28, 0, 0), (15, .aload_n 0, 1, 0, 0, 0)], [(16, .getfield 9, 3, 4, 1, 0), (19, .iload_n 1, 1, 0, 0, 0), (20, .baload, 1, 0, 0, 0), (21, .ifCond .ne 7, 3, 28, 0, 0), (24, .iconst 1, 1, 1, 0, 0), (25, .goto 4, 3, 29, 0, 0), (28, .iconst 0, 1, 0, 0, 0), (29, .ireturn, 1, 0, 0, 0)]]
set_option maxRecDepth 100000 in
theorem oc_Pi_isWhole : okC 43 c_Pi_isWhole = true := by decide +kernel
def cu_Pi_isWhole : List (Nat × List Bool) := []
noncomputable def F_Pi_isWhole (O : Type) (a : Nat) (av : List AV) (σ : Mem) (K : AV → Mem → Option O) : Option O := if a = 44 then sm_P_isMile O av σ K else none
theorem fs_Pi_isWhole {X : CXT} (hX : XC X) (O : Type) : FS X 3 (F_Pi_isWhole O) := by
  intro a av σ K o h
  unfold F_Pi_isWhole at h
  rcases ite_s h with ⟨rfl, h⟩ | ⟨_, h⟩
  · obtain ⟨r, h1, h2, h3⟩ := ok_P_isMile hX _ _ _ _ _ h
    exact ⟨r, fun ht => ⟨2, by decide, h1 ht⟩, h2, h3⟩
  cases h
set_option maxRecDepth 100000 in
theorem s_Pi_isWhole {X : CXT} (hX : XC X) : ∀ (k0 : Nat) (v1 : Int32) (s : Mem) (o : Bool × Mem), f_Pi_isWhole k0 v1 s = some o → BSnd X 3 43 (ovZ o) 0 (entL [.inr (.inr (4, k0)), .inl v1]) [] s := by
  intro k0 v1 s o h
  rw [f_Pi_isWhole_eq] at h
  exact evC (chs := c_Pi_isWhole) (cuts := cu_Pi_isWhole) (G := fun pc ls st σ => none) hX.2.1 hX.2.2 (F := F_Pi_isWhole _) (fs_Pi_isWhole hX _) (rt_Z rfl) oc_Pi_isWhole (by
    intro pc ls st σ o h
    cases h) 104 0 _ _ _ _ h
theorem ok_Pi_isWhole {X : CXT} (hX : XC X) : SemOK X 3 43 sm_Pi_isWhole := by
  intro O av σ K o h
  unfold sm_Pi_isWhole at h
  split at h
  · obtain ⟨r, hf, h⟩ := Option.bind_eq_some_iff.mp h
    exact ⟨ovZ r, fun ht => sp_of hX.1 (by decide) (List.mem_range.mpr (by decide)) (by decide +kernel) ht (Nat.le_of_ble_eq_true rfl) (s_Pi_isWhole hX _ _ _ _ hf), trivial, h⟩
  · cases h
noncomputable def b_Pi_isBroken (k0 : Nat) (v1 : Int32) (s : Mem) : Option (Bool × Mem) :=
  (f_P_isMile v1 s).bind fun r1 =>
  cif ((b2i r1.1) = 0) (
    some (false, r1.2)) (
    gd (inb v1 (lenC (k0 + 1))) <|
    cif ((rI r1.2 (k0 + 1) (ix v1)) = 0) (
      some (false, r1.2)) (
      some (true, r1.2)))
noncomputable def f_Pi_isBroken : Nat → Int32 → Mem → Option (Bool × Mem) := Classical.choose (⟨b_Pi_isBroken, rfl⟩ : ∃ f : Nat → Int32 → Mem → Option (Bool × Mem), f = b_Pi_isBroken)
theorem f_Pi_isBroken_eq : f_Pi_isBroken = b_Pi_isBroken := Classical.choose_spec (⟨b_Pi_isBroken, rfl⟩ : ∃ f : Nat → Int32 → Mem → Option (Bool × Mem), f = b_Pi_isBroken)
noncomputable def sm_Pi_isBroken (O : Type) (av : List AV) (σ : Mem) (K : AV → Mem → Option O) : Option O := match av with
  | [.inr (.inr (4, k0)), .inl v1] => (f_Pi_isBroken k0 v1 σ).bind fun r => K (.inl (b2i r.1)) r.2
  | _ => none
def c_Pi_isBroken : List (List CE) := [[(0, .iload_n 1, 1, 0, 0, 0), (1, .invokestatic 54, 3, 44, 1, 1), (4, .ifCond .eq 16, 3, 20, 0, 0), (7, .aload_n 0, 1, 0, 0, 0), (8, .getfield 9, 3, 4, 1, 0), (11, .iload_n 1, 1, 0, 0, 0), (12, .baload, 1, 0, 0, 0), (13, .ifCond .eq 7, 3, 20, 0, 0)], [(16, .iconst 1, 1, 1, 0, 0), (17, .goto 4, 3, 21, 0, 0), (20, .iconst 0, 1, 0, 0, 0), (21, .ireturn, 1, 0, 0, 0)]]
set_option maxRecDepth 100000 in
theorem oc_Pi_isBroken : okC 45 c_Pi_isBroken = true := by decide +kernel
def cu_Pi_isBroken : List (Nat × List Bool) := []
noncomputable def F_Pi_isBroken (O : Type) (a : Nat) (av : List AV) (σ : Mem) (K : AV → Mem → Option O) : Option O := if a = 44 then sm_P_isMile O av σ K else none
theorem fs_Pi_isBroken {X : CXT} (hX : XC X) (O : Type) : FS X 3 (F_Pi_isBroken O) := by
  intro a av σ K o h
  unfold F_Pi_isBroken at h
  rcases ite_s h with ⟨rfl, h⟩ | ⟨_, h⟩
  · obtain ⟨r, h1, h2, h3⟩ := ok_P_isMile hX _ _ _ _ _ h
    exact ⟨r, fun ht => ⟨2, by decide, h1 ht⟩, h2, h3⟩
  cases h
set_option maxRecDepth 100000 in
theorem s_Pi_isBroken {X : CXT} (hX : XC X) : ∀ (k0 : Nat) (v1 : Int32) (s : Mem) (o : Bool × Mem), f_Pi_isBroken k0 v1 s = some o → BSnd X 3 45 (ovZ o) 0 (entL [.inr (.inr (4, k0)), .inl v1]) [] s := by
  intro k0 v1 s o h
  rw [f_Pi_isBroken_eq] at h
  exact evC (chs := c_Pi_isBroken) (cuts := cu_Pi_isBroken) (G := fun pc ls st σ => none) hX.2.1 hX.2.2 (F := F_Pi_isBroken _) (fs_Pi_isBroken hX _) (rt_Z rfl) oc_Pi_isBroken (by
    intro pc ls st σ o h
    cases h) 88 0 _ _ _ _ h
theorem ok_Pi_isBroken {X : CXT} (hX : XC X) : SemOK X 3 45 sm_Pi_isBroken := by
  intro O av σ K o h
  unfold sm_Pi_isBroken at h
  split at h
  · obtain ⟨r, hf, h⟩ := Option.bind_eq_some_iff.mp h
    exact ⟨ovZ r, fun ht => sp_of hX.1 (by decide) (List.mem_range.mpr (by decide)) (by decide +kernel) ht (Nat.le_of_ble_eq_true rfl) (s_Pi_isBroken hX _ _ _ _ hf), trivial, h⟩
  · cases h
noncomputable def b_Co_canSetOff (k0 : Nat) (k1 : Nat) (v2 : Int32) (s : Mem) : Option (Bool × Mem) :=
  (f_To_isWalker (k0 - 119) v2 s).bind fun r1 =>
  cif ((b2i r1.1) = 0) (
    some (false, r1.2)) (
    (f_Pi_isOnPier k1 v2 r1.2).bind fun r2 =>
    cif ((b2i r2.1) = 0) (
      (f_Pi_isWhole k1 ((0 : Int32)) r2.2).bind fun r3 =>
      cif ((b2i r3.1) = 0) (
        some (false, r3.2)) (
        some (true, r3.2))) (
      some (false, r2.2)))
noncomputable def f_Co_canSetOff : Nat → Nat → Int32 → Mem → Option (Bool × Mem) := Classical.choose (⟨b_Co_canSetOff, rfl⟩ : ∃ f : Nat → Nat → Int32 → Mem → Option (Bool × Mem), f = b_Co_canSetOff)
theorem f_Co_canSetOff_eq : f_Co_canSetOff = b_Co_canSetOff := Classical.choose_spec (⟨b_Co_canSetOff, rfl⟩ : ∃ f : Nat → Nat → Int32 → Mem → Option (Bool × Mem), f = b_Co_canSetOff)
noncomputable def sm_Co_canSetOff (O : Type) (av : List AV) (σ : Mem) (K : AV → Mem → Option O) : Option O := match av with
  | [.inr (.inr (0, k0)), .inr (.inr (4, k1)), .inl v2] => (f_Co_canSetOff k0 k1 v2 σ).bind fun r => K (.inl (b2i r.1)) r.2
  | _ => none
def c_Co_canSetOff : List (List CE) := [[(0, .aload_n 0, 1, 0, 0, 0), (1, .getfield 15, 3, 0, 0, 0), (4, .iload_n 2, 1, 0, 0, 0), (5, .invokevirtual 51, 3, 22, 2, 17), (8, .ifCond .eq 23, 3, 31, 0, 0), (11, .aload_n 1, 1, 0, 0, 0), (12, .iload_n 2, 1, 0, 0, 0), (13, .invokevirtual 152, 3, 23, 2, 9)], [(16, .ifCond .ne 15, 3, 31, 0, 0), (19, .aload_n 1, 1, 0, 0, 0), (20, .iconst 0, 1, 0, 0, 0), (21, .invokevirtual 119, 3, 43, 2, 9), (24, .ifCond .eq 7, 3, 31, 0, 0), (27, .iconst 1, 1, 1, 0, 0), (28, .goto 4, 3, 32, 0, 0), (31, .iconst 0, 1, 0, 0, 0)], [(32, .ireturn, 1, 0, 0, 0)]]
set_option maxRecDepth 100000 in
theorem oc_Co_canSetOff : okC 46 c_Co_canSetOff = true := by decide +kernel
def cu_Co_canSetOff : List (Nat × List Bool) := []
noncomputable def F_Co_canSetOff (O : Type) (a : Nat) (av : List AV) (σ : Mem) (K : AV → Mem → Option O) : Option O := if a = 22 then sm_To_isWalker O av σ K else if a = 23 then sm_Pi_isOnPier O av σ K else if a = 43 then sm_Pi_isWhole O av σ K else none
theorem fs_Co_canSetOff {X : CXT} (hX : XC X) (O : Type) : FS X 4 (F_Co_canSetOff O) := by
  intro a av σ K o h
  unfold F_Co_canSetOff at h
  rcases ite_s h with ⟨rfl, h⟩ | ⟨_, h⟩
  · obtain ⟨r, h1, h2, h3⟩ := ok_To_isWalker hX _ _ _ _ _ h
    exact ⟨r, fun ht => ⟨1, by decide, h1 ht⟩, h2, h3⟩
  rcases ite_s h with ⟨rfl, h⟩ | ⟨_, h⟩
  · obtain ⟨r, h1, h2, h3⟩ := ok_Pi_isOnPier hX _ _ _ _ _ h
    exact ⟨r, fun ht => ⟨2, by decide, h1 ht⟩, h2, h3⟩
  rcases ite_s h with ⟨rfl, h⟩ | ⟨_, h⟩
  · obtain ⟨r, h1, h2, h3⟩ := ok_Pi_isWhole hX _ _ _ _ _ h
    exact ⟨r, fun ht => ⟨3, by decide, h1 ht⟩, h2, h3⟩
  cases h
set_option maxRecDepth 100000 in
theorem s_Co_canSetOff {X : CXT} (hX : XC X) : ∀ (k0 : Nat) (k1 : Nat) (v2 : Int32) (s : Mem) (o : Bool × Mem), f_Co_canSetOff k0 k1 v2 s = some o → BSnd X 4 46 (ovZ o) 0 (entL [.inr (.inr (0, k0)), .inr (.inr (4, k1)), .inl v2]) [] s := by
  intro k0 k1 v2 s o h
  rw [f_Co_canSetOff_eq] at h
  exact evC (chs := c_Co_canSetOff) (cuts := cu_Co_canSetOff) (G := fun pc ls st σ => none) hX.2.1 hX.2.2 (F := F_Co_canSetOff _) (fs_Co_canSetOff hX _) (rt_Z rfl) oc_Co_canSetOff (by
    intro pc ls st σ o h
    cases h) 108 0 _ _ _ _ h
theorem ok_Co_canSetOff {X : CXT} (hX : XC X) : SemOK X 4 46 sm_Co_canSetOff := by
  intro O av σ K o h
  unfold sm_Co_canSetOff at h
  split at h
  · obtain ⟨r, hf, h⟩ := Option.bind_eq_some_iff.mp h
    exact ⟨ovZ r, fun ht => sp_of hX.1 (by decide) (List.mem_range.mpr (by decide)) (by decide +kernel) ht (Nat.le_of_ble_eq_true rfl) (s_Co_canSetOff hX _ _ _ _ _ hf), trivial, h⟩
  · cases h
noncomputable def b_P_canAct (k0 : Nat) (v1 : Int32) (v2 : Int32) (s : Mem) : Option (Bool × Mem) :=
  cif (v1 = (0 : Int32)) (
    (f_Pi_isWhole (k0 + 2) v2 s).bind fun r1 =>
    lf (rB (b2i r1.1)) r1.2) (
    cif (v1 = (1 : Int32)) (
      (f_Pi_isBroken (k0 + 2) v2 s).bind fun r2 =>
      lf (rB (b2i r2.1)) r2.2) (
      cif (v1 = (2 : Int32)) (
        (f_Co_canSetOff (k0 + 126) (k0 + 2) v2 s).bind fun r3 =>
        lf (rB (b2i r3.1)) r3.2) (
        some (false, s))))
noncomputable def f_P_canAct : Nat → Int32 → Int32 → Mem → Option (Bool × Mem) := Classical.choose (⟨b_P_canAct, rfl⟩ : ∃ f : Nat → Int32 → Int32 → Mem → Option (Bool × Mem), f = b_P_canAct)
theorem f_P_canAct_eq : f_P_canAct = b_P_canAct := Classical.choose_spec (⟨b_P_canAct, rfl⟩ : ∃ f : Nat → Int32 → Int32 → Mem → Option (Bool × Mem), f = b_P_canAct)
noncomputable def sm_P_canAct (O : Type) (av : List AV) (σ : Mem) (K : AV → Mem → Option O) : Option O := match av with
  | [.inr (.inr (11, k0)), .inl v1, .inl v2] => (f_P_canAct k0 v1 v2 σ).bind fun r => K (.inl (b2i r.1)) r.2
  | _ => none
def c_P_canAct : List (List CE) := [[(0, .iload_n 1, 1, 0, 0, 0), (1, .tableswitch 67 0 2 #[27, 39, 51], 27, 0, 0, 0)], [(28, .aload_n 0, 1, 0, 0, 0), (29, .getfield 10, 3, 11, 0, 0)], [(32, .getfield 70, 3, 10, 0, 0), (35, .iload_n 2, 1, 0, 0, 0), (36, .invokevirtual 134, 3, 43, 2, 9), (39, .ireturn, 1, 0, 0, 0), (40, .aload_n 0, 1, 0, 0, 0), (41, .getfield 10, 3, 11, 0, 0), (44, .getfield 70, 3, 10, 0, 0), (47, .iload_n 2, 1, 0, 0, 0)], [(48, .invokevirtual 137, 3, 45, 2, 9), (51, .ireturn, 1, 0, 0, 0), (52, .aload_n 0, 1, 0, 0, 0), (53, .getfield 41, 3, 11, 3, 0), (56, .aload_n 0, 1, 0, 0, 0), (57, .getfield 10, 3, 11, 0, 0), (60, .getfield 70, 3, 10, 0, 0), (63, .iload_n 2, 1, 0, 0, 0)], [(64, .invokevirtual 140, 3, 46, 3, 1), (67, .ireturn, 1, 0, 0, 0), (68, .iconst 0, 1, 0, 0, 0), (69, .ireturn, 1, 0, 0, 0)]]
set_option maxRecDepth 100000 in
theorem oc_P_canAct : okC 42 c_P_canAct = true := by decide +kernel
def cu_P_canAct : List (Nat × List Bool) := []
noncomputable def F_P_canAct (O : Type) (a : Nat) (av : List AV) (σ : Mem) (K : AV → Mem → Option O) : Option O := if a = 43 then sm_Pi_isWhole O av σ K else if a = 45 then sm_Pi_isBroken O av σ K else if a = 46 then sm_Co_canSetOff O av σ K else none
theorem fs_P_canAct {X : CXT} (hX : XC X) (O : Type) : FS X 5 (F_P_canAct O) := by
  intro a av σ K o h
  unfold F_P_canAct at h
  rcases ite_s h with ⟨rfl, h⟩ | ⟨_, h⟩
  · obtain ⟨r, h1, h2, h3⟩ := ok_Pi_isWhole hX _ _ _ _ _ h
    exact ⟨r, fun ht => ⟨3, by decide, h1 ht⟩, h2, h3⟩
  rcases ite_s h with ⟨rfl, h⟩ | ⟨_, h⟩
  · obtain ⟨r, h1, h2, h3⟩ := ok_Pi_isBroken hX _ _ _ _ _ h
    exact ⟨r, fun ht => ⟨3, by decide, h1 ht⟩, h2, h3⟩
  rcases ite_s h with ⟨rfl, h⟩ | ⟨_, h⟩
  · obtain ⟨r, h1, h2, h3⟩ := ok_Co_canSetOff hX _ _ _ _ _ h
    exact ⟨r, fun ht => ⟨4, by decide, h1 ht⟩, h2, h3⟩
  cases h
set_option maxRecDepth 100000 in
theorem s_P_canAct {X : CXT} (hX : XC X) : ∀ (k0 : Nat) (v1 : Int32) (v2 : Int32) (s : Mem) (o : Bool × Mem), f_P_canAct k0 v1 v2 s = some o → BSnd X 5 42 (ovZ o) 0 (entL [.inr (.inr (11, k0)), .inl v1, .inl v2]) [] s := by
  intro k0 v1 v2 s o h
  rw [f_P_canAct_eq] at h
  exact evC (chs := c_P_canAct) (cuts := cu_P_canAct) (G := fun pc ls st σ => none) hX.2.1 hX.2.2 (F := F_P_canAct _) (fs_P_canAct hX _) (rt_Z rfl) oc_P_canAct (by
    intro pc ls st σ o h
    cases h) 136 0 _ _ _ _ h
theorem ok_P_canAct {X : CXT} (hX : XC X) : SemOK X 5 42 sm_P_canAct := by
  intro O av σ K o h
  unfold sm_P_canAct at h
  split at h
  · obtain ⟨r, hf, h⟩ := Option.bind_eq_some_iff.mp h
    exact ⟨ovZ r, fun ht => sp_of hX.1 (by decide) (List.mem_range.mpr (by decide)) (by decide +kernel) ht (Nat.le_of_ble_eq_true rfl) (s_P_canAct hX _ _ _ _ _ hf), trivial, h⟩
  · cases h
noncomputable def b_Pi_mark (k0 : Nat) (v1 : Int32) (v2 : Int32) (s : Mem) : Option (Mem) :=
  (f_P_isMile v1 s).bind fun r1 =>
  cif ((b2i r1.1) = 0) (
    some r1.2) (
    gd (inb v1 (lenC (k0 + 1))) <|
    let s2 : Mem := wI r1.2 (k0 + 1) (ix v1) (vp_nar .boolean v2)
    some s2)
noncomputable def f_Pi_mark : Nat → Int32 → Int32 → Mem → Option (Mem) := Classical.choose (⟨b_Pi_mark, rfl⟩ : ∃ f : Nat → Int32 → Int32 → Mem → Option (Mem), f = b_Pi_mark)
theorem f_Pi_mark_eq : f_Pi_mark = b_Pi_mark := Classical.choose_spec (⟨b_Pi_mark, rfl⟩ : ∃ f : Nat → Int32 → Int32 → Mem → Option (Mem), f = b_Pi_mark)
noncomputable def sm_Pi_mark (O : Type) (av : List AV) (σ : Mem) (K : AV → Mem → Option O) : Option O := match av with
  | [.inr (.inr (4, k0)), .inl v1, .inl v2] => (f_Pi_mark k0 v1 v2 σ).bind fun r => K (.inl 0) r
  | _ => none
def c_Pi_mark : List (List CE) := [[(0, .iload_n 1, 1, 0, 0, 0), (1, .invokestatic 54, 3, 44, 1, 1), (4, .ifCond .eq 10, 3, 14, 0, 0), (7, .aload_n 0, 1, 0, 0, 0), (8, .getfield 9, 3, 4, 1, 0), (11, .iload_n 1, 1, 0, 0, 0), (12, .iload_n 2, 1, 0, 0, 0), (13, .bastore, 1, 0, 0, 0), (14, .return_, 1, 0, 0, 0)]]
set_option maxRecDepth 100000 in
theorem oc_Pi_mark : okC 48 c_Pi_mark = true := by decide +kernel
def cu_Pi_mark : List (Nat × List Bool) := []
noncomputable def F_Pi_mark (O : Type) (a : Nat) (av : List AV) (σ : Mem) (K : AV → Mem → Option O) : Option O := if a = 44 then sm_P_isMile O av σ K else none
theorem fs_Pi_mark {X : CXT} (hX : XC X) (O : Type) : FS X 3 (F_Pi_mark O) := by
  intro a av σ K o h
  unfold F_Pi_mark at h
  rcases ite_s h with ⟨rfl, h⟩ | ⟨_, h⟩
  · obtain ⟨r, h1, h2, h3⟩ := ok_P_isMile hX _ _ _ _ _ h
    exact ⟨r, fun ht => ⟨2, by decide, h1 ht⟩, h2, h3⟩
  cases h
set_option maxRecDepth 100000 in
theorem s_Pi_mark {X : CXT} (hX : XC X) : ∀ (k0 : Nat) (v1 : Int32) (v2 : Int32) (s : Mem) (o : Mem), f_Pi_mark k0 v1 v2 s = some o → BSnd X 3 48 (ovV o) 0 (entL [.inr (.inr (4, k0)), .inl v1, .inl v2]) [] s := by
  intro k0 v1 v2 s o h
  rw [f_Pi_mark_eq] at h
  exact evC (chs := c_Pi_mark) (cuts := cu_Pi_mark) (G := fun pc ls st σ => none) hX.2.1 hX.2.2 (F := F_Pi_mark _) (fs_Pi_mark hX _) (rt_V rfl) oc_Pi_mark (by
    intro pc ls st σ o h
    cases h) 76 0 _ _ _ _ h
theorem ok_Pi_mark {X : CXT} (hX : XC X) : SemOK X 3 48 sm_Pi_mark := by
  intro O av σ K o h
  unfold sm_Pi_mark at h
  split at h
  · obtain ⟨r, hf, h⟩ := Option.bind_eq_some_iff.mp h
    exact ⟨ovV r, fun ht => sp_of hX.1 (by decide) (List.mem_range.mpr (by decide)) (by decide +kernel) ht (Nat.le_of_ble_eq_true rfl) (s_Pi_mark hX _ _ _ _ _ hf), trivial, h⟩
  · cases h
noncomputable def b_Co_breakMile (k0 : Nat) (k1 : Nat) (v2 : Int32) (s : Mem) : Option (Mem) :=
  (f_Pi_mark k1 v2 ((1 : Int32)) s).bind fun r1 =>
  (f_Lo_write (k0 - 67) k1 ((1 : Int32)) v2 (rI r1 k1 6) r1).bind fun r2 =>
  some r2
noncomputable def f_Co_breakMile : Nat → Nat → Int32 → Mem → Option (Mem) := Classical.choose (⟨b_Co_breakMile, rfl⟩ : ∃ f : Nat → Nat → Int32 → Mem → Option (Mem), f = b_Co_breakMile)
theorem f_Co_breakMile_eq : f_Co_breakMile = b_Co_breakMile := Classical.choose_spec (⟨b_Co_breakMile, rfl⟩ : ∃ f : Nat → Nat → Int32 → Mem → Option (Mem), f = b_Co_breakMile)
noncomputable def sm_Co_breakMile (O : Type) (av : List AV) (σ : Mem) (K : AV → Mem → Option O) : Option O := match av with
  | [.inr (.inr (0, k0)), .inr (.inr (4, k1)), .inl v2] => (f_Co_breakMile k0 k1 v2 σ).bind fun r => K (.inl 0) r
  | _ => none
def c_Co_breakMile : List (List CE) := [[(0, .aload_n 1, 1, 0, 0, 0), (1, .iload_n 2, 1, 0, 0, 0), (2, .iconst 1, 1, 1, 0, 0), (3, .invokevirtual 89, 3, 48, 3, 8), (6, .aload_n 0, 1, 0, 0, 0), (7, .getfield 19, 3, 0, 1, 0), (10, .aload_n 1, 1, 0, 0, 0), (11, .iconst 1, 1, 1, 0, 0), (12, .iload_n 2, 1, 0, 0, 0), (13, .aload_n 1, 1, 0, 0, 0), (14, .getfield 23, 3, 4, 6, 0)], [(17, .invokevirtual 83, 3, 40, 5, 6), (20, .return_, 1, 0, 0, 0)]]
set_option maxRecDepth 100000 in
theorem oc_Co_breakMile : okC 47 c_Co_breakMile = true := by decide +kernel
def cu_Co_breakMile : List (Nat × List Bool) := []
noncomputable def F_Co_breakMile (O : Type) (a : Nat) (av : List AV) (σ : Mem) (K : AV → Mem → Option O) : Option O := if a = 40 then sm_Lo_write O av σ K else if a = 48 then sm_Pi_mark O av σ K else none
theorem fs_Co_breakMile {X : CXT} (hX : XC X) (O : Type) : FS X 4 (F_Co_breakMile O) := by
  intro a av σ K o h
  unfold F_Co_breakMile at h
  rcases ite_s h with ⟨rfl, h⟩ | ⟨_, h⟩
  · obtain ⟨r, h1, h2, h3⟩ := ok_Lo_write hX _ _ _ _ _ h
    exact ⟨r, fun ht => ⟨2, by decide, h1 ht⟩, h2, h3⟩
  rcases ite_s h with ⟨rfl, h⟩ | ⟨_, h⟩
  · obtain ⟨r, h1, h2, h3⟩ := ok_Pi_mark hX _ _ _ _ _ h
    exact ⟨r, fun ht => ⟨3, by decide, h1 ht⟩, h2, h3⟩
  cases h
set_option maxRecDepth 100000 in
theorem s_Co_breakMile {X : CXT} (hX : XC X) : ∀ (k0 : Nat) (k1 : Nat) (v2 : Int32) (s : Mem) (o : Mem), f_Co_breakMile k0 k1 v2 s = some o → BSnd X 4 47 (ovV o) 0 (entL [.inr (.inr (0, k0)), .inr (.inr (4, k1)), .inl v2]) [] s := by
  intro k0 k1 v2 s o h
  rw [f_Co_breakMile_eq] at h
  exact evC (chs := c_Co_breakMile) (cuts := cu_Co_breakMile) (G := fun pc ls st σ => none) hX.2.1 hX.2.2 (F := F_Co_breakMile _) (fs_Co_breakMile hX _) (rt_V rfl) oc_Co_breakMile (by
    intro pc ls st σ o h
    cases h) 92 0 _ _ _ _ h
theorem ok_Co_breakMile {X : CXT} (hX : XC X) : SemOK X 4 47 sm_Co_breakMile := by
  intro O av σ K o h
  unfold sm_Co_breakMile at h
  split at h
  · obtain ⟨r, hf, h⟩ := Option.bind_eq_some_iff.mp h
    exact ⟨ovV r, fun ht => sp_of hX.1 (by decide) (List.mem_range.mpr (by decide)) (by decide +kernel) ht (Nat.le_of_ble_eq_true rfl) (s_Co_breakMile hX _ _ _ _ _ hf), trivial, h⟩
  · cases h
noncomputable def b_Co_mendMile (k0 : Nat) (k1 : Nat) (v2 : Int32) (s : Mem) : Option (Mem) :=
  (f_Pi_mark k1 v2 ((0 : Int32)) s).bind fun r1 =>
  (f_Lo_write (k0 - 67) k1 ((2 : Int32)) v2 (rI r1 k1 6) r1).bind fun r2 =>
  some r2
noncomputable def f_Co_mendMile : Nat → Nat → Int32 → Mem → Option (Mem) := Classical.choose (⟨b_Co_mendMile, rfl⟩ : ∃ f : Nat → Nat → Int32 → Mem → Option (Mem), f = b_Co_mendMile)
theorem f_Co_mendMile_eq : f_Co_mendMile = b_Co_mendMile := Classical.choose_spec (⟨b_Co_mendMile, rfl⟩ : ∃ f : Nat → Nat → Int32 → Mem → Option (Mem), f = b_Co_mendMile)
noncomputable def sm_Co_mendMile (O : Type) (av : List AV) (σ : Mem) (K : AV → Mem → Option O) : Option O := match av with
  | [.inr (.inr (0, k0)), .inr (.inr (4, k1)), .inl v2] => (f_Co_mendMile k0 k1 v2 σ).bind fun r => K (.inl 0) r
  | _ => none
def c_Co_mendMile : List (List CE) := [[(0, .aload_n 1, 1, 0, 0, 0), (1, .iload_n 2, 1, 0, 0, 0), (2, .iconst 0, 1, 0, 0, 0), (3, .invokevirtual 89, 3, 48, 3, 8), (6, .aload_n 0, 1, 0, 0, 0), (7, .getfield 19, 3, 0, 1, 0), (10, .aload_n 1, 1, 0, 0, 0), (11, .iconst 2, 1, 2, 0, 0), (12, .iload_n 2, 1, 0, 0, 0), (13, .aload_n 1, 1, 0, 0, 0), (14, .getfield 23, 3, 4, 6, 0)], [(17, .invokevirtual 83, 3, 40, 5, 6), (20, .return_, 1, 0, 0, 0)]]
set_option maxRecDepth 100000 in
theorem oc_Co_mendMile : okC 49 c_Co_mendMile = true := by decide +kernel
def cu_Co_mendMile : List (Nat × List Bool) := []
noncomputable def F_Co_mendMile (O : Type) (a : Nat) (av : List AV) (σ : Mem) (K : AV → Mem → Option O) : Option O := if a = 40 then sm_Lo_write O av σ K else if a = 48 then sm_Pi_mark O av σ K else none
theorem fs_Co_mendMile {X : CXT} (hX : XC X) (O : Type) : FS X 4 (F_Co_mendMile O) := by
  intro a av σ K o h
  unfold F_Co_mendMile at h
  rcases ite_s h with ⟨rfl, h⟩ | ⟨_, h⟩
  · obtain ⟨r, h1, h2, h3⟩ := ok_Lo_write hX _ _ _ _ _ h
    exact ⟨r, fun ht => ⟨2, by decide, h1 ht⟩, h2, h3⟩
  rcases ite_s h with ⟨rfl, h⟩ | ⟨_, h⟩
  · obtain ⟨r, h1, h2, h3⟩ := ok_Pi_mark hX _ _ _ _ _ h
    exact ⟨r, fun ht => ⟨3, by decide, h1 ht⟩, h2, h3⟩
  cases h
set_option maxRecDepth 100000 in
theorem s_Co_mendMile {X : CXT} (hX : XC X) : ∀ (k0 : Nat) (k1 : Nat) (v2 : Int32) (s : Mem) (o : Mem), f_Co_mendMile k0 k1 v2 s = some o → BSnd X 4 49 (ovV o) 0 (entL [.inr (.inr (0, k0)), .inr (.inr (4, k1)), .inl v2]) [] s := by
  intro k0 k1 v2 s o h
  rw [f_Co_mendMile_eq] at h
  exact evC (chs := c_Co_mendMile) (cuts := cu_Co_mendMile) (G := fun pc ls st σ => none) hX.2.1 hX.2.2 (F := F_Co_mendMile _) (fs_Co_mendMile hX _) (rt_V rfl) oc_Co_mendMile (by
    intro pc ls st σ o h
    cases h) 92 0 _ _ _ _ h
theorem ok_Co_mendMile {X : CXT} (hX : XC X) : SemOK X 4 49 sm_Co_mendMile := by
  intro O av σ K o h
  unfold sm_Co_mendMile at h
  split at h
  · obtain ⟨r, hf, h⟩ := Option.bind_eq_some_iff.mp h
    exact ⟨ovV r, fun ht => sp_of hX.1 (by decide) (List.mem_range.mpr (by decide)) (by decide +kernel) ht (Nat.le_of_ble_eq_true rfl) (s_Co_mendMile hX _ _ _ _ _ hf), trivial, h⟩
  · cases h
noncomputable def b_Pi_start (k0 : Nat) (v1 : Int32) (v2 : Int32) (s : Mem) : Option (Mem) :=
  (f_P_within v1 ((0 : Int32)) ((11 : Int32)) s).bind fun r1 =>
  cif ((b2i r1.1) = 0) (
    some r1.2) (
    gd (inb v1 (lenC (k0 + 2))) <|
    let s2 : Mem := wI r1.2 (k0 + 2) (ix v1) ((0 : Int32))
    gd (inb v1 (lenC (k0 + 3))) <|
    let s3 : Mem := wI s2 (k0 + 3) (ix v1) (vp_nar .boolean ((1 : Int32)))
    gd (inb v1 (lenC (k0 + 4))) <|
    let s4 : Mem := wI s3 (k0 + 4) (ix v1) v2
    some s4)
noncomputable def f_Pi_start : Nat → Int32 → Int32 → Mem → Option (Mem) := Classical.choose (⟨b_Pi_start, rfl⟩ : ∃ f : Nat → Int32 → Int32 → Mem → Option (Mem), f = b_Pi_start)
theorem f_Pi_start_eq : f_Pi_start = b_Pi_start := Classical.choose_spec (⟨b_Pi_start, rfl⟩ : ∃ f : Nat → Int32 → Int32 → Mem → Option (Mem), f = b_Pi_start)
noncomputable def sm_Pi_start (O : Type) (av : List AV) (σ : Mem) (K : AV → Mem → Option O) : Option O := match av with
  | [.inr (.inr (4, k0)), .inl v1, .inl v2] => (f_Pi_start k0 v1 v2 σ).bind fun r => K (.inl 0) r
  | _ => none
def c_Pi_start : List (List CE) := [[(0, .iload_n 1, 1, 0, 0, 0), (1, .iconst 0, 1, 0, 0, 0), (2, .bipush 11, 2, 11, 0, 0), (4, .invokestatic 50, 3, 17, 3, 1), (7, .ifCond .eq 24, 3, 31, 0, 0), (10, .aload_n 0, 1, 0, 0, 0), (11, .getfield 15, 3, 4, 2, 0), (14, .iload_n 1, 1, 0, 0, 0), (15, .iconst 0, 1, 0, 0, 0)], [(16, .iastore, 1, 0, 0, 0), (17, .aload_n 0, 1, 0, 0, 0), (18, .getfield 19, 3, 4, 3, 0), (21, .iload_n 1, 1, 0, 0, 0), (22, .iconst 1, 1, 1, 0, 0), (23, .bastore, 1, 0, 0, 0), (24, .aload_n 0, 1, 0, 0, 0), (25, .getfield 22, 3, 4, 4, 0), (28, .iload_n 1, 1, 0, 0, 0), (29, .iload_n 2, 1, 0, 0, 0), (30, .iastore, 1, 0, 0, 0), (31, .return_, 1, 0, 0, 0)]]
set_option maxRecDepth 100000 in
theorem oc_Pi_start : okC 51 c_Pi_start = true := by decide +kernel
def cu_Pi_start : List (Nat × List Bool) := []
noncomputable def F_Pi_start (O : Type) (a : Nat) (av : List AV) (σ : Mem) (K : AV → Mem → Option O) : Option O := if a = 17 then sm_P_within O av σ K else none
theorem fs_Pi_start {X : CXT} (hX : XC X) (O : Type) : FS X 2 (F_Pi_start O) := by
  intro a av σ K o h
  unfold F_Pi_start at h
  rcases ite_s h with ⟨rfl, h⟩ | ⟨_, h⟩
  · obtain ⟨r, h1, h2, h3⟩ := ok_P_within hX _ _ _ _ _ h
    exact ⟨r, fun ht => ⟨1, by decide, h1 ht⟩, h2, h3⟩
  cases h
set_option maxRecDepth 100000 in
theorem s_Pi_start {X : CXT} (hX : XC X) : ∀ (k0 : Nat) (v1 : Int32) (v2 : Int32) (s : Mem) (o : Mem), f_Pi_start k0 v1 v2 s = some o → BSnd X 2 51 (ovV o) 0 (entL [.inr (.inr (4, k0)), .inl v1, .inl v2]) [] s := by
  intro k0 v1 v2 s o h
  rw [f_Pi_start_eq] at h
  exact evC (chs := c_Pi_start) (cuts := cu_Pi_start) (G := fun pc ls st σ => none) hX.2.1 hX.2.2 (F := F_Pi_start _) (fs_Pi_start hX _) (rt_V rfl) oc_Pi_start (by
    intro pc ls st σ o h
    cases h) 124 0 _ _ _ _ h
theorem ok_Pi_start {X : CXT} (hX : XC X) : SemOK X 2 51 sm_Pi_start := by
  intro O av σ K o h
  unfold sm_Pi_start at h
  split at h
  · obtain ⟨r, hf, h⟩ := Option.bind_eq_some_iff.mp h
    exact ⟨ovV r, fun ht => sp_of hX.1 (by decide) (List.mem_range.mpr (by decide)) (by decide +kernel) ht (Nat.le_of_ble_eq_true rfl) (s_Pi_start hX _ _ _ _ _ hf), trivial, h⟩
  · cases h
noncomputable def b_Co_sendOff (k0 : Nat) (k1 : Nat) (v2 : Int32) (s : Mem) : Option (Mem) :=
  (f_Co_canSetOff k0 k1 v2 s).bind fun r1 =>
  cif ((b2i r1.1) = 0) (
    some r1.2) (
    gd (inb v2 (lenC ((k0 - 119) + 2))) <|
    (f_Pi_start k1 v2 (rI r1.2 ((k0 - 119) + 2) (ix v2)) r1.2).bind fun r2 =>
    (f_Lo_write (k0 - 67) k1 ((3 : Int32)) v2 (rI r2 k1 8) r2).bind fun r3 =>
    some r3)
noncomputable def f_Co_sendOff : Nat → Nat → Int32 → Mem → Option (Mem) := Classical.choose (⟨b_Co_sendOff, rfl⟩ : ∃ f : Nat → Nat → Int32 → Mem → Option (Mem), f = b_Co_sendOff)
theorem f_Co_sendOff_eq : f_Co_sendOff = b_Co_sendOff := Classical.choose_spec (⟨b_Co_sendOff, rfl⟩ : ∃ f : Nat → Nat → Int32 → Mem → Option (Mem), f = b_Co_sendOff)
noncomputable def sm_Co_sendOff (O : Type) (av : List AV) (σ : Mem) (K : AV → Mem → Option O) : Option O := match av with
  | [.inr (.inr (0, k0)), .inr (.inr (4, k1)), .inl v2] => (f_Co_sendOff k0 k1 v2 σ).bind fun r => K (.inl 0) r
  | _ => none
def c_Co_sendOff : List (List CE) := [[(0, .aload_n 0, 1, 0, 0, 0), (1, .aload_n 1, 1, 0, 0, 0), (2, .iload_n 2, 1, 0, 0, 0), (3, .invokevirtual 155, 3, 46, 3, 1), (6, .ifCond .eq 31, 3, 37, 0, 0), (9, .aload_n 1, 1, 0, 0, 0), (10, .iload_n 2, 1, 0, 0, 0), (11, .aload_n 0, 1, 0, 0, 0), (12, .getfield 15, 3, 0, 0, 0), (15, .getfield 158, 3, 8, 1, 0)], [(18, .iload_n 2, 1, 0, 0, 0), (19, .iaload, 1, 0, 0, 0), (20, .invokevirtual 161, 3, 51, 3, 8), (23, .aload_n 0, 1, 0, 0, 0), (24, .getfield 19, 3, 0, 1, 0), (27, .aload_n 1, 1, 0, 0, 0), (28, .iconst 3, 1, 3, 0, 0), (29, .iload_n 2, 1, 0, 0, 0), (30, .aload_n 1, 1, 0, 0, 0), (31, .getfield 139, 3, 4, 8, 0)], [(34, .invokevirtual 83, 3, 40, 5, 6), (37, .return_, 1, 0, 0, 0)]]
set_option maxRecDepth 100000 in
theorem oc_Co_sendOff : okC 50 c_Co_sendOff = true := by decide +kernel
def cu_Co_sendOff : List (Nat × List Bool) := []
noncomputable def F_Co_sendOff (O : Type) (a : Nat) (av : List AV) (σ : Mem) (K : AV → Mem → Option O) : Option O := if a = 40 then sm_Lo_write O av σ K else if a = 46 then sm_Co_canSetOff O av σ K else if a = 51 then sm_Pi_start O av σ K else none
theorem fs_Co_sendOff {X : CXT} (hX : XC X) (O : Type) : FS X 5 (F_Co_sendOff O) := by
  intro a av σ K o h
  unfold F_Co_sendOff at h
  rcases ite_s h with ⟨rfl, h⟩ | ⟨_, h⟩
  · obtain ⟨r, h1, h2, h3⟩ := ok_Lo_write hX _ _ _ _ _ h
    exact ⟨r, fun ht => ⟨2, by decide, h1 ht⟩, h2, h3⟩
  rcases ite_s h with ⟨rfl, h⟩ | ⟨_, h⟩
  · obtain ⟨r, h1, h2, h3⟩ := ok_Co_canSetOff hX _ _ _ _ _ h
    exact ⟨r, fun ht => ⟨4, by decide, h1 ht⟩, h2, h3⟩
  rcases ite_s h with ⟨rfl, h⟩ | ⟨_, h⟩
  · obtain ⟨r, h1, h2, h3⟩ := ok_Pi_start hX _ _ _ _ _ h
    exact ⟨r, fun ht => ⟨2, by decide, h1 ht⟩, h2, h3⟩
  cases h
set_option maxRecDepth 100000 in
theorem s_Co_sendOff {X : CXT} (hX : XC X) : ∀ (k0 : Nat) (k1 : Nat) (v2 : Int32) (s : Mem) (o : Mem), f_Co_sendOff k0 k1 v2 s = some o → BSnd X 5 50 (ovV o) 0 (entL [.inr (.inr (0, k0)), .inr (.inr (4, k1)), .inl v2]) [] s := by
  intro k0 k1 v2 s o h
  rw [f_Co_sendOff_eq] at h
  exact evC (chs := c_Co_sendOff) (cuts := cu_Co_sendOff) (G := fun pc ls st σ => none) hX.2.1 hX.2.2 (F := F_Co_sendOff _) (fs_Co_sendOff hX _) (rt_V rfl) oc_Co_sendOff (by
    intro pc ls st σ o h
    cases h) 128 0 _ _ _ _ h
theorem ok_Co_sendOff {X : CXT} (hX : XC X) : SemOK X 5 50 sm_Co_sendOff := by
  intro O av σ K o h
  unfold sm_Co_sendOff at h
  split at h
  · obtain ⟨r, hf, h⟩ := Option.bind_eq_some_iff.mp h
    exact ⟨ovV r, fun ht => sp_of hX.1 (by decide) (List.mem_range.mpr (by decide)) (by decide +kernel) ht (Nat.le_of_ble_eq_true rfl) (s_Co_sendOff hX _ _ _ _ _ hf), trivial, h⟩
  · cases h
noncomputable def b_P_act (k0 : Nat) (v1 : Int32) (v2 : Int32) (s : Mem) : Option (Bool × Mem) :=
  (f_P_canAct k0 v1 v2 s).bind fun r1 =>
  cif ((b2i r1.1) = 0) (
    some (false, r1.2)) (
    (f_Ke_keep (k0 + 128) (k0 + 2) r1.2).bind fun r2 =>
    cif (v1 = (0 : Int32)) (
      (f_Co_breakMile (k0 + 126) (k0 + 2) v2 r2).bind fun r3 =>
      some (true, r3)) (
      cif (v1 = (1 : Int32)) (
        (f_Co_mendMile (k0 + 126) (k0 + 2) v2 r2).bind fun r4 =>
        some (true, r4)) (
        (f_Co_sendOff (k0 + 126) (k0 + 2) v2 r2).bind fun r5 =>
        some (true, r5))))
noncomputable def f_P_act : Nat → Int32 → Int32 → Mem → Option (Bool × Mem) := Classical.choose (⟨b_P_act, rfl⟩ : ∃ f : Nat → Int32 → Int32 → Mem → Option (Bool × Mem), f = b_P_act)
theorem f_P_act_eq : f_P_act = b_P_act := Classical.choose_spec (⟨b_P_act, rfl⟩ : ∃ f : Nat → Int32 → Int32 → Mem → Option (Bool × Mem), f = b_P_act)
noncomputable def sm_P_act (O : Type) (av : List AV) (σ : Mem) (K : AV → Mem → Option O) : Option O := match av with
  | [.inr (.inr (11, k0)), .inl v1, .inl v2] => (f_P_act k0 v1 v2 σ).bind fun r => K (.inl (b2i r.1)) r.2
  | _ => none
def c_P_act : List (List CE) := [[(0, .aload_n 0, 1, 0, 0, 0), (1, .iload_n 1, 1, 0, 0, 0), (2, .iload_n 2, 1, 0, 0, 0), (3, .invokevirtual 121, 3, 42, 3, 23), (6, .ifCond .ne 5, 3, 11, 0, 0), (9, .iconst 0, 1, 0, 0, 0), (10, .ireturn, 1, 0, 0, 0), (11, .aload_n 0, 1, 0, 0, 0), (12, .getfield 48, 3, 11, 4, 0), (15, .aload_n 0, 1, 0, 0, 0)], [(16, .getfield 10, 3, 11, 0, 0), (19, .getfield 70, 3, 10, 0, 0), (22, .invokevirtual 113, 3, 29, 2, 2), (25, .iload_n 1, 1, 0, 0, 0), (26, .lookupswitch 62 #[(0, 26), (1, 44)], 26, 0, 0, 0)], [], [(52, .aload_n 0, 1, 0, 0, 0), (53, .getfield 41, 3, 11, 3, 0), (56, .aload_n 0, 1, 0, 0, 0), (57, .getfield 10, 3, 11, 0, 0), (60, .getfield 70, 3, 10, 0, 0), (63, .iload_n 2, 1, 0, 0, 0)], [(64, .invokevirtual 124, 3, 47, 3, 0), (67, .goto 36, 3, 103, 0, 0), (70, .aload_n 0, 1, 0, 0, 0), (71, .getfield 41, 3, 11, 3, 0), (74, .aload_n 0, 1, 0, 0, 0), (75, .getfield 10, 3, 11, 0, 0), (78, .getfield 70, 3, 10, 0, 0)], [(81, .iload_n 2, 1, 0, 0, 0), (82, .invokevirtual 128, 3, 49, 3, 0), (85, .goto 18, 3, 103, 0, 0), (88, .aload_n 0, 1, 0, 0, 0), (89, .getfield 41, 3, 11, 3, 0), (92, .aload_n 0, 1, 0, 0, 0), (93, .getfield 10, 3, 11, 0, 0)], [(96, .getfield 70, 3, 10, 0, 0), (99, .iload_n 2, 1, 0, 0, 0), (100, .invokevirtual 131, 3, 50, 3, 0), (103, .iconst 1, 1, 1, 0, 0), (104, .ireturn, 1, 0, 0, 0)]]
set_option maxRecDepth 100000 in
theorem oc_P_act : okC 41 c_P_act = true := by decide +kernel
def cu_P_act : List (Nat × List Bool) := []
noncomputable def F_P_act (O : Type) (a : Nat) (av : List AV) (σ : Mem) (K : AV → Mem → Option O) : Option O := if a = 29 then sm_Ke_keep O av σ K else if a = 42 then sm_P_canAct O av σ K else if a = 47 then sm_Co_breakMile O av σ K else if a = 49 then sm_Co_mendMile O av σ K else if a = 50 then sm_Co_sendOff O av σ K else none
theorem fs_P_act {X : CXT} (hX : XC X) (O : Type) : FS X 6 (F_P_act O) := by
  intro a av σ K o h
  unfold F_P_act at h
  rcases ite_s h with ⟨rfl, h⟩ | ⟨_, h⟩
  · obtain ⟨r, h1, h2, h3⟩ := ok_Ke_keep hX _ _ _ _ _ h
    exact ⟨r, fun ht => ⟨2, by decide, h1 ht⟩, h2, h3⟩
  rcases ite_s h with ⟨rfl, h⟩ | ⟨_, h⟩
  · obtain ⟨r, h1, h2, h3⟩ := ok_P_canAct hX _ _ _ _ _ h
    exact ⟨r, fun ht => ⟨5, by decide, h1 ht⟩, h2, h3⟩
  rcases ite_s h with ⟨rfl, h⟩ | ⟨_, h⟩
  · obtain ⟨r, h1, h2, h3⟩ := ok_Co_breakMile hX _ _ _ _ _ h
    exact ⟨r, fun ht => ⟨4, by decide, h1 ht⟩, h2, h3⟩
  rcases ite_s h with ⟨rfl, h⟩ | ⟨_, h⟩
  · obtain ⟨r, h1, h2, h3⟩ := ok_Co_mendMile hX _ _ _ _ _ h
    exact ⟨r, fun ht => ⟨4, by decide, h1 ht⟩, h2, h3⟩
  rcases ite_s h with ⟨rfl, h⟩ | ⟨_, h⟩
  · obtain ⟨r, h1, h2, h3⟩ := ok_Co_sendOff hX _ _ _ _ _ h
    exact ⟨r, fun ht => ⟨5, by decide, h1 ht⟩, h2, h3⟩
  cases h
set_option maxRecDepth 100000 in
theorem s_P_act {X : CXT} (hX : XC X) : ∀ (k0 : Nat) (v1 : Int32) (v2 : Int32) (s : Mem) (o : Bool × Mem), f_P_act k0 v1 v2 s = some o → BSnd X 6 41 (ovZ o) 0 (entL [.inr (.inr (11, k0)), .inl v1, .inl v2]) [] s := by
  intro k0 v1 v2 s o h
  rw [f_P_act_eq] at h
  exact evC (chs := c_P_act) (cuts := cu_P_act) (G := fun pc ls st σ => none) hX.2.1 hX.2.2 (F := F_P_act _) (fs_P_act hX _) (rt_Z rfl) oc_P_act (by
    intro pc ls st σ o h
    cases h) 200 0 _ _ _ _ h
theorem ok_P_act {X : CXT} (hX : XC X) : SemOK X 6 41 sm_P_act := by
  intro O av σ K o h
  unfold sm_P_act at h
  split at h
  · obtain ⟨r, hf, h⟩ := Option.bind_eq_some_iff.mp h
    exact ⟨ovZ r, fun ht => sp_of hX.1 (by decide) (List.mem_range.mpr (by decide)) (by decide +kernel) ht (Nat.le_of_ble_eq_true rfl) (s_P_act hX _ _ _ _ _ hf), trivial, h⟩
  · cases h
noncomputable def b_Ro_first (k0 : Nat) (v1 : Int32) (s : Mem) : Option (Int32 × Mem) :=
  (f_P_within v1 ((0 : Int32)) ((rI s k0 3) - ((1 : Int32))) s).bind fun r1 =>
  cif ((b2i r1.1) = 0) (
    some ((0 : Int32), r1.2)) (
    gd (inb v1 (lenC (k0 + 1))) <|
    some (rI r1.2 (k0 + 1) (ix v1), r1.2))
noncomputable def f_Ro_first : Nat → Int32 → Mem → Option (Int32 × Mem) := Classical.choose (⟨b_Ro_first, rfl⟩ : ∃ f : Nat → Int32 → Mem → Option (Int32 × Mem), f = b_Ro_first)
theorem f_Ro_first_eq : f_Ro_first = b_Ro_first := Classical.choose_spec (⟨b_Ro_first, rfl⟩ : ∃ f : Nat → Int32 → Mem → Option (Int32 × Mem), f = b_Ro_first)
noncomputable def sm_Ro_first (O : Type) (av : List AV) (σ : Mem) (K : AV → Mem → Option O) : Option O := match av with
  | [.inr (.inr (6, k0)), .inl v1] => (f_Ro_first k0 v1 σ).bind fun r => K (.inl r.1) r.2
  | _ => none
def c_Ro_first : List (List CE) := [[(0, .iload_n 1, 1, 0, 0, 0), (1, .iconst 0, 1, 0, 0, 0), (2, .aload_n 0, 1, 0, 0, 0), (3, .getfield 9, 3, 6, 3, 0), (6, .iconst 1, 1, 1, 0, 0), (7, .isub, 1, 0, 0, 0), (8, .invokestatic 35, 3, 17, 3, 1), (11, .ifCond .eq 12, 3, 23, 0, 0), (14, .aload_n 0, 1, 0, 0, 0), (15, .getfield 21, 3, 6, 0, 0)], [(18, .iload_n 1, 1, 0, 0, 0), (19, .iaload, 1, 0, 0, 0), (20, .goto 4, 3, 24, 0, 0), (23, .iconst 0, 1, 0, 0, 0), (24, .ireturn, 1, 0, 0, 0)]]
set_option maxRecDepth 100000 in
theorem oc_Ro_first : okC 54 c_Ro_first = true := by decide +kernel
def cu_Ro_first : List (Nat × List Bool) := []
noncomputable def F_Ro_first (O : Type) (a : Nat) (av : List AV) (σ : Mem) (K : AV → Mem → Option O) : Option O := if a = 17 then sm_P_within O av σ K else none
theorem fs_Ro_first {X : CXT} (hX : XC X) (O : Type) : FS X 2 (F_Ro_first O) := by
  intro a av σ K o h
  unfold F_Ro_first at h
  rcases ite_s h with ⟨rfl, h⟩ | ⟨_, h⟩
  · obtain ⟨r, h1, h2, h3⟩ := ok_P_within hX _ _ _ _ _ h
    exact ⟨r, fun ht => ⟨1, by decide, h1 ht⟩, h2, h3⟩
  cases h
set_option maxRecDepth 100000 in
theorem s_Ro_first {X : CXT} (hX : XC X) : ∀ (k0 : Nat) (v1 : Int32) (s : Mem) (o : Int32 × Mem), f_Ro_first k0 v1 s = some o → BSnd X 2 54 (ovI o) 0 (entL [.inr (.inr (6, k0)), .inl v1]) [] s := by
  intro k0 v1 s o h
  rw [f_Ro_first_eq] at h
  exact evC (chs := c_Ro_first) (cuts := cu_Ro_first) (G := fun pc ls st σ => none) hX.2.1 hX.2.2 (F := F_Ro_first _) (fs_Ro_first hX _) (rt_I rfl) oc_Ro_first (by
    intro pc ls st σ o h
    cases h) 100 0 _ _ _ _ h
theorem ok_Ro_first {X : CXT} (hX : XC X) : SemOK X 2 54 sm_Ro_first := by
  intro O av σ K o h
  unfold sm_Ro_first at h
  split at h
  · obtain ⟨r, hf, h⟩ := Option.bind_eq_some_iff.mp h
    exact ⟨ovI r, fun ht => sp_of hX.1 (by decide) (List.mem_range.mpr (by decide)) (by decide +kernel) ht (Nat.le_of_ble_eq_true rfl) (s_Ro_first hX _ _ _ _ hf), trivial, h⟩
  · cases h
noncomputable def b_Ro_second (k0 : Nat) (v1 : Int32) (s : Mem) : Option (Int32 × Mem) :=
  (f_P_within v1 ((0 : Int32)) ((rI s k0 3) - ((1 : Int32))) s).bind fun r1 =>
  cif ((b2i r1.1) = 0) (
    some ((0 : Int32), r1.2)) (
    gd (inb v1 (lenC (k0 + 2))) <|
    some (rI r1.2 (k0 + 2) (ix v1), r1.2))
noncomputable def f_Ro_second : Nat → Int32 → Mem → Option (Int32 × Mem) := Classical.choose (⟨b_Ro_second, rfl⟩ : ∃ f : Nat → Int32 → Mem → Option (Int32 × Mem), f = b_Ro_second)
theorem f_Ro_second_eq : f_Ro_second = b_Ro_second := Classical.choose_spec (⟨b_Ro_second, rfl⟩ : ∃ f : Nat → Int32 → Mem → Option (Int32 × Mem), f = b_Ro_second)
noncomputable def sm_Ro_second (O : Type) (av : List AV) (σ : Mem) (K : AV → Mem → Option O) : Option O := match av with
  | [.inr (.inr (6, k0)), .inl v1] => (f_Ro_second k0 v1 σ).bind fun r => K (.inl r.1) r.2
  | _ => none
def c_Ro_second : List (List CE) := [[(0, .iload_n 1, 1, 0, 0, 0), (1, .iconst 0, 1, 0, 0, 0), (2, .aload_n 0, 1, 0, 0, 0), (3, .getfield 9, 3, 6, 3, 0), (6, .iconst 1, 1, 1, 0, 0), (7, .isub, 1, 0, 0, 0), (8, .invokestatic 35, 3, 17, 3, 1), (11, .ifCond .eq 12, 3, 23, 0, 0), (14, .aload_n 0, 1, 0, 0, 0), (15, .getfield 25, 3, 6, 1, 0)], [(18, .iload_n 1, 1, 0, 0, 0), (19, .iaload, 1, 0, 0, 0), (20, .goto 4, 3, 24, 0, 0), (23, .iconst 0, 1, 0, 0, 0), (24, .ireturn, 1, 0, 0, 0)]]
set_option maxRecDepth 100000 in
theorem oc_Ro_second : okC 55 c_Ro_second = true := by decide +kernel
def cu_Ro_second : List (Nat × List Bool) := []
noncomputable def F_Ro_second (O : Type) (a : Nat) (av : List AV) (σ : Mem) (K : AV → Mem → Option O) : Option O := if a = 17 then sm_P_within O av σ K else none
theorem fs_Ro_second {X : CXT} (hX : XC X) (O : Type) : FS X 2 (F_Ro_second O) := by
  intro a av σ K o h
  unfold F_Ro_second at h
  rcases ite_s h with ⟨rfl, h⟩ | ⟨_, h⟩
  · obtain ⟨r, h1, h2, h3⟩ := ok_P_within hX _ _ _ _ _ h
    exact ⟨r, fun ht => ⟨1, by decide, h1 ht⟩, h2, h3⟩
  cases h
set_option maxRecDepth 100000 in
theorem s_Ro_second {X : CXT} (hX : XC X) : ∀ (k0 : Nat) (v1 : Int32) (s : Mem) (o : Int32 × Mem), f_Ro_second k0 v1 s = some o → BSnd X 2 55 (ovI o) 0 (entL [.inr (.inr (6, k0)), .inl v1]) [] s := by
  intro k0 v1 s o h
  rw [f_Ro_second_eq] at h
  exact evC (chs := c_Ro_second) (cuts := cu_Ro_second) (G := fun pc ls st σ => none) hX.2.1 hX.2.2 (F := F_Ro_second _) (fs_Ro_second hX _) (rt_I rfl) oc_Ro_second (by
    intro pc ls st σ o h
    cases h) 100 0 _ _ _ _ h
theorem ok_Ro_second {X : CXT} (hX : XC X) : SemOK X 2 55 sm_Ro_second := by
  intro O av σ K o h
  unfold sm_Ro_second at h
  split at h
  · obtain ⟨r, hf, h⟩ := Option.bind_eq_some_iff.mp h
    exact ⟨ovI r, fun ht => sp_of hX.1 (by decide) (List.mem_range.mpr (by decide)) (by decide +kernel) ht (Nat.le_of_ble_eq_true rfl) (s_Ro_second hX _ _ _ _ hf), trivial, h⟩
  · cases h
noncomputable def b_Ro_third (k0 : Nat) (v1 : Int32) (s : Mem) : Option (Int32 × Mem) :=
  (f_P_within v1 ((0 : Int32)) ((rI s k0 3) - ((1 : Int32))) s).bind fun r1 =>
  cif ((b2i r1.1) = 0) (
    some ((0 : Int32), r1.2)) (
    gd (inb v1 (lenC (k0 + 3))) <|
    some (rI r1.2 (k0 + 3) (ix v1), r1.2))
noncomputable def f_Ro_third : Nat → Int32 → Mem → Option (Int32 × Mem) := Classical.choose (⟨b_Ro_third, rfl⟩ : ∃ f : Nat → Int32 → Mem → Option (Int32 × Mem), f = b_Ro_third)
theorem f_Ro_third_eq : f_Ro_third = b_Ro_third := Classical.choose_spec (⟨b_Ro_third, rfl⟩ : ∃ f : Nat → Int32 → Mem → Option (Int32 × Mem), f = b_Ro_third)
noncomputable def sm_Ro_third (O : Type) (av : List AV) (σ : Mem) (K : AV → Mem → Option O) : Option O := match av with
  | [.inr (.inr (6, k0)), .inl v1] => (f_Ro_third k0 v1 σ).bind fun r => K (.inl r.1) r.2
  | _ => none
def c_Ro_third : List (List CE) := [[(0, .iload_n 1, 1, 0, 0, 0), (1, .iconst 0, 1, 0, 0, 0), (2, .aload_n 0, 1, 0, 0, 0), (3, .getfield 9, 3, 6, 3, 0), (6, .iconst 1, 1, 1, 0, 0), (7, .isub, 1, 0, 0, 0), (8, .invokestatic 35, 3, 17, 3, 1), (11, .ifCond .eq 12, 3, 23, 0, 0), (14, .aload_n 0, 1, 0, 0, 0), (15, .getfield 28, 3, 6, 2, 0)], [(18, .iload_n 1, 1, 0, 0, 0), (19, .iaload, 1, 0, 0, 0), (20, .goto 4, 3, 24, 0, 0), (23, .iconst 0, 1, 0, 0, 0), (24, .ireturn, 1, 0, 0, 0)]]
set_option maxRecDepth 100000 in
theorem oc_Ro_third : okC 56 c_Ro_third = true := by decide +kernel
def cu_Ro_third : List (Nat × List Bool) := []
noncomputable def F_Ro_third (O : Type) (a : Nat) (av : List AV) (σ : Mem) (K : AV → Mem → Option O) : Option O := if a = 17 then sm_P_within O av σ K else none
theorem fs_Ro_third {X : CXT} (hX : XC X) (O : Type) : FS X 2 (F_Ro_third O) := by
  intro a av σ K o h
  unfold F_Ro_third at h
  rcases ite_s h with ⟨rfl, h⟩ | ⟨_, h⟩
  · obtain ⟨r, h1, h2, h3⟩ := ok_P_within hX _ _ _ _ _ h
    exact ⟨r, fun ht => ⟨1, by decide, h1 ht⟩, h2, h3⟩
  cases h
set_option maxRecDepth 100000 in
theorem s_Ro_third {X : CXT} (hX : XC X) : ∀ (k0 : Nat) (v1 : Int32) (s : Mem) (o : Int32 × Mem), f_Ro_third k0 v1 s = some o → BSnd X 2 56 (ovI o) 0 (entL [.inr (.inr (6, k0)), .inl v1]) [] s := by
  intro k0 v1 s o h
  rw [f_Ro_third_eq] at h
  exact evC (chs := c_Ro_third) (cuts := cu_Ro_third) (G := fun pc ls st σ => none) hX.2.1 hX.2.2 (F := F_Ro_third _) (fs_Ro_third hX _) (rt_I rfl) oc_Ro_third (by
    intro pc ls st σ o h
    cases h) 100 0 _ _ _ _ h
theorem ok_Ro_third {X : CXT} (hX : XC X) : SemOK X 2 56 sm_Ro_third := by
  intro O av σ K o h
  unfold sm_Ro_third at h
  split at h
  · obtain ⟨r, hf, h⟩ := Option.bind_eq_some_iff.mp h
    exact ⟨ovI r, fun ht => sp_of hX.1 (by decide) (List.mem_range.mpr (by decide)) (by decide +kernel) ht (Nat.le_of_ble_eq_true rfl) (s_Ro_third hX _ _ _ _ hf), trivial, h⟩
  · cases h
