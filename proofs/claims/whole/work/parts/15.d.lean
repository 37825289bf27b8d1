noncomputable def b_M_isWalker (k0 : Nat) (v1 : Int32) (s : Mem) : Option (Bool × Mem) :=
  gd (inb ((49 : Int32)) (lenM (k0 + 1))) <|
  (f_M_isIn v1 ((0 : Int32)) ((rI s (k0 + 1) (ix ((49 : Int32)))) - ((1 : Int32))) s).bind fun r1 =>
  lf (rB (b2i r1.1)) r1.2
noncomputable def f_M_isWalker : Nat → Int32 → Mem → Option (Bool × Mem) := Classical.choose (⟨b_M_isWalker, rfl⟩ : ∃ f : Nat → Int32 → Mem → Option (Bool × Mem), f = b_M_isWalker)
theorem f_M_isWalker_eq : f_M_isWalker = b_M_isWalker := Classical.choose_spec (⟨b_M_isWalker, rfl⟩ : ∃ f : Nat → Int32 → Mem → Option (Bool × Mem), f = b_M_isWalker)
noncomputable def sm_M_isWalker (O : Type) (av : List AV) (σ : Mem) (K : AV → Mem → Option O) : Option O := match av with
  | [.inr (.inr (12, k0)), .inl v1] => (f_M_isWalker k0 v1 σ).bind fun r => K (.inl (b2i r.1)) r.2
  | _ => none
def c_M_isWalker : List (List CE) := [[(0, .iload_n 1, 1, 0, 0, 0), (1, .iconst 0, 1, 0, 0, 0), (2, .aload_n 0, 1, 0, 0, 0), (3, .getfield 7, 3, 12, 0, 0), (6, .bipush 49, 2, 49, 0, 0), (8, .iaload, 1, 0, 0, 0), (9, .iconst 1, 1, 1, 0, 0), (10, .isub, 1, 0, 0, 0), (11, .invokestatic 60, 3, 230, 3, 1), (14, .ireturn, 1, 0, 0, 0)]]
set_option maxRecDepth 100000 in
theorem oc_M_isWalker : okC 233 c_M_isWalker = true := by decide +kernel
def cu_M_isWalker : List (Nat × List Bool) := []
noncomputable def F_M_isWalker (O : Type) (a : Nat) (av : List AV) (σ : Mem) (K : AV → Mem → Option O) : Option O := if a = 230 then sm_M_isIn O av σ K else none
theorem fs_M_isWalker {X : CXT} (hX : XM X) (O : Type) : FS X 2 (F_M_isWalker O) := by
  intro a av σ K o h
  unfold F_M_isWalker at h
  rcases ite_s h with ⟨rfl, h⟩ | ⟨_, h⟩
  · obtain ⟨r, h1, h2, h3⟩ := ok_M_isIn hX _ _ _ _ _ h
    exact ⟨r, fun ht => ⟨1, by decide, h1 ht⟩, h2, h3⟩
  cases h
set_option maxRecDepth 100000 in
theorem s_M_isWalker {X : CXT} (hX : XM X) : ∀ (k0 : Nat) (v1 : Int32) (s : Mem) (o : Bool × Mem), f_M_isWalker k0 v1 s = some o → BSnd X 2 233 (ovZ o) 0 (entL [.inr (.inr (12, k0)), .inl v1]) [] s := by
  intro k0 v1 s o h
  rw [f_M_isWalker_eq] at h
  exact evC (chs := c_M_isWalker) (cuts := cu_M_isWalker) (G := fun pc ls st σ => none) hX.2.1 hX.2.2 (F := F_M_isWalker _) (fs_M_isWalker hX _) (rt_Z rfl) oc_M_isWalker (by
    intro pc ls st σ o h
    cases h) 80 0 _ _ _ _ h
theorem ok_M_isWalker {X : CXT} (hX : XM X) : SemOK X 2 233 sm_M_isWalker := by
  intro O av σ K o h
  unfold sm_M_isWalker at h
  split at h
  · obtain ⟨r, hf, h⟩ := Option.bind_eq_some_iff.mp h
    exact ⟨ovZ r, fun ht => sp_of hX.1 (by decide) (List.mem_range.mpr (by decide)) (by decide +kernel) ht (Nat.le_of_ble_eq_true rfl) (s_M_isWalker hX _ _ _ _ hf), trivial, h⟩
  · cases h
noncomputable def b_M_isAshore (k0 : Nat) (v1 : Int32) (s : Mem) : Option (Bool × Mem) :=
  gd (inb (((13 : Int32)) + v1) (lenM (k0 + 1))) <|
  cif ((rI s (k0 + 1) (ix (((13 : Int32)) + v1))) = ((-1 : Int32))) (
    some (true, s)) (
    some (false, s))
noncomputable def f_M_isAshore : Nat → Int32 → Mem → Option (Bool × Mem) := Classical.choose (⟨b_M_isAshore, rfl⟩ : ∃ f : Nat → Int32 → Mem → Option (Bool × Mem), f = b_M_isAshore)
theorem f_M_isAshore_eq : f_M_isAshore = b_M_isAshore := Classical.choose_spec (⟨b_M_isAshore, rfl⟩ : ∃ f : Nat → Int32 → Mem → Option (Bool × Mem), f = b_M_isAshore)
noncomputable def sm_M_isAshore (O : Type) (av : List AV) (σ : Mem) (K : AV → Mem → Option O) : Option O := match av with
  | [.inr (.inr (12, k0)), .inl v1] => (f_M_isAshore k0 v1 σ).bind fun r => K (.inl (b2i r.1)) r.2
  | _ => none
def c_M_isAshore : List (List CE) := [[(0, .aload_n 0, 1, 0, 0, 0), (1, .getfield 7, 3, 12, 0, 0), (4, .bipush 13, 2, 13, 0, 0), (6, .iload_n 1, 1, 0, 0, 0), (7, .iadd, 1, 0, 0, 0), (8, .iaload, 1, 0, 0, 0), (9, .iconst (-1), 1, 1, 0, 1), (10, .if_icmp .ne 7, 3, 17, 0, 0), (13, .iconst 1, 1, 1, 0, 0), (14, .goto 4, 3, 18, 0, 0)], [(17, .iconst 0, 1, 0, 0, 0), (18, .ireturn, 1, 0, 0, 0)]]
set_option maxRecDepth 100000 in
theorem oc_M_isAshore : okC 234 c_M_isAshore = true := by decide +kernel
def cu_M_isAshore : List (Nat × List Bool) := []
noncomputable def F_M_isAshore (O : Type) (a : Nat) (av : List AV) (σ : Mem) (K : AV → Mem → Option O) : Option O := none
theorem fs_M_isAshore {X : CXT} (hX : XM X) (O : Type) : FS X 1 (F_M_isAshore O) := by
  intro a av σ K o h
  cases h
set_option maxRecDepth 100000 in
theorem s_M_isAshore {X : CXT} (hX : XM X) : ∀ (k0 : Nat) (v1 : Int32) (s : Mem) (o : Bool × Mem), f_M_isAshore k0 v1 s = some o → BSnd X 1 234 (ovZ o) 0 (entL [.inr (.inr (12, k0)), .inl v1]) [] s := by
  intro k0 v1 s o h
  rw [f_M_isAshore_eq] at h
  exact evC (chs := c_M_isAshore) (cuts := cu_M_isAshore) (G := fun pc ls st σ => none) hX.2.1 hX.2.2 (F := F_M_isAshore _) (fs_M_isAshore hX _) (rt_Z rfl) oc_M_isAshore (by
    intro pc ls st σ o h
    cases h) 88 0 _ _ _ _ h
theorem ok_M_isAshore {X : CXT} (hX : XM X) : SemOK X 1 234 sm_M_isAshore := by
  intro O av σ K o h
  unfold sm_M_isAshore at h
  split at h
  · obtain ⟨r, hf, h⟩ := Option.bind_eq_some_iff.mp h
    exact ⟨ovZ r, fun ht => sp_of hX.1 (by decide) (List.mem_range.mpr (by decide)) (by decide +kernel) ht (Nat.le_of_ble_eq_true rfl) (s_M_isAshore hX _ _ _ _ hf), trivial, h⟩
  · cases h
noncomputable def b_M_canSet (k0 : Nat) (v1 : Int32) (v2 : Int32) (v3 : Int32) (s : Mem) : Option (Bool × Mem) :=
  cif (v1 = (0 : Int32)) (
    (f_M_isIn v3 ((0 : Int32)) ((9 : Int32)) s).bind fun r1 =>
    lf (rB (b2i r1.1)) r1.2) (
    cif (v1 = (1 : Int32)) (
      (f_M_isIn v3 ((0 : Int32)) ((200 : Int32)) s).bind fun r2 =>
      lf (rB (b2i r2.1)) r2.2) (
      cif (v1 = (5 : Int32)) (
        (f_M_isIn v2 ((0 : Int32)) ((9 : Int32)) s).bind fun r3 =>
        cif ((b2i r3.1) = 0) (
          some (false, r3.2)) (
          (f_M_isIn v3 ((0 : Int32)) ((1 : Int32)) r3.2).bind fun r4 =>
          cif ((b2i r4.1) = 0) (
            some (false, r4.2)) (
            some (true, r4.2)))) (
        (f_M_isIn v1 ((2 : Int32)) ((4 : Int32)) s).bind fun r5 =>
        cif ((b2i r5.1) = 0) (
          some (false, r5.2)) (
          (f_M_isWalker k0 v2 r5.2).bind fun r6 =>
          cif ((b2i r6.1) = 0) (
            some (false, r6.2)) (
            (f_M_isAshore k0 v2 r6.2).bind fun r7 =>
            cif ((b2i r7.1) = 0) (
              some (false, r7.2)) (
              cif (v1 = ((2 : Int32))) (
                (f_M_isIn v3 ((1 : Int32)) ((9 : Int32)) r7.2).bind fun r8 =>
                lf (rB (b2i r8.1)) r8.2) (
                cif (v1 = ((3 : Int32))) (
                  (f_M_isIn v3 ((1 : Int32)) ((30 : Int32)) r7.2).bind fun r9 =>
                  lf (rB (b2i r9.1)) r9.2) (
                  (f_M_isIn v3 ((0 : Int32)) ((9 : Int32)) r7.2).bind fun r10 =>
                  lf (rB (b2i r10.1)) r10.2))))))))
noncomputable def f_M_canSet : Nat → Int32 → Int32 → Int32 → Mem → Option (Bool × Mem) := Classical.choose (⟨b_M_canSet, rfl⟩ : ∃ f : Nat → Int32 → Int32 → Int32 → Mem → Option (Bool × Mem), f = b_M_canSet)
theorem f_M_canSet_eq : f_M_canSet = b_M_canSet := Classical.choose_spec (⟨b_M_canSet, rfl⟩ : ∃ f : Nat → Int32 → Int32 → Int32 → Mem → Option (Bool × Mem), f = b_M_canSet)
noncomputable def sm_M_canSet (O : Type) (av : List AV) (σ : Mem) (K : AV → Mem → Option O) : Option O := match av with
  | [.inr (.inr (12, k0)), .inl v1, .inl v2, .inl v3] => (f_M_canSet k0 v1 v2 v3 σ).bind fun r => K (.inl (b2i r.1)) r.2
  | _ => none
def c_M_canSet : List (List CE) := [[(0, .iload_n 1, 1, 0, 0, 0), (1, .lookupswitch 77 #[(0, 35), (1, 43), (5, 52)], 35, 0, 0, 0)], [], [(36, .iload_n 3, 1, 0, 0, 0), (37, .iconst 0, 1, 0, 0, 0), (38, .bipush 9, 2, 9, 0, 0), (40, .invokestatic 60, 3, 230, 3, 1), (43, .ireturn, 1, 0, 0, 0), (44, .iload_n 3, 1, 0, 0, 0), (45, .iconst 0, 1, 0, 0, 0), (46, .sipush 200, 3, 200, 0, 0)], [(49, .invokestatic 60, 3, 230, 3, 1), (52, .ireturn, 1, 0, 0, 0), (53, .iload_n 2, 1, 0, 0, 0), (54, .iconst 0, 1, 0, 0, 0), (55, .bipush 9, 2, 9, 0, 0), (57, .invokestatic 60, 3, 230, 3, 1), (60, .ifCond .eq 16, 3, 76, 0, 0), (63, .iload_n 3, 1, 0, 0, 0)], [(64, .iconst 0, 1, 0, 0, 0), (65, .iconst 1, 1, 1, 0, 0), (66, .invokestatic 60, 3, 230, 3, 1), (69, .ifCond .eq 7, 3, 76, 0, 0), (72, .iconst 1, 1, 1, 0, 0), (73, .goto 4, 3, 77, 0, 0), (76, .iconst 0, 1, 0, 0, 0), (77, .ireturn, 1, 0, 0, 0), (78, .iload_n 1, 1, 0, 0, 0), (79, .iconst 2, 1, 2, 0, 0)], [(80, .iconst 4, 1, 4, 0, 0), (81, .invokestatic 60, 3, 230, 3, 1), (84, .ifCond .eq 19, 3, 103, 0, 0), (87, .aload_n 0, 1, 0, 0, 0), (88, .iload_n 2, 1, 0, 0, 0), (89, .invokevirtual 76, 3, 233, 2, 25), (92, .ifCond .eq 11, 3, 103, 0, 0), (95, .aload_n 0, 1, 0, 0, 0)], [(96, .iload_n 2, 1, 0, 0, 0), (97, .invokevirtual 80, 3, 234, 2, 25), (100, .ifCond .ne 5, 3, 105, 0, 0), (103, .iconst 0, 1, 0, 0, 0), (104, .ireturn, 1, 0, 0, 0), (105, .iload_n 1, 1, 0, 0, 0), (106, .iconst 2, 1, 2, 0, 0), (107, .if_icmp .ne 13, 3, 120, 0, 0), (110, .iload_n 3, 1, 0, 0, 0), (111, .iconst 1, 1, 1, 0, 0)], [(112, .bipush 9, 2, 9, 0, 0), (114, .invokestatic 60, 3, 230, 3, 1), (117, .goto 25, 3, 142, 0, 0), (120, .iload_n 1, 1, 0, 0, 0), (121, .iconst 3, 1, 3, 0, 0), (122, .if_icmp .ne 13, 3, 135, 0, 0), (125, .iload_n 3, 1, 0, 0, 0), (126, .iconst 1, 1, 1, 0, 0), (127, .bipush 30, 2, 30, 0, 0)], [(129, .invokestatic 60, 3, 230, 3, 1), (132, .goto 10, 3, 142, 0, 0), (135, .iload_n 3, 1, 0, 0, 0), (136, .iconst 0, 1, 0, 0, 0), (137, .bipush 9, 2, 9, 0, 0), (139, .invokestatic 60, 3, 230, 3, 1), (142, .ireturn, 1, 0, 0, 0)]]
set_option maxRecDepth 100000 in
theorem oc_M_canSet : okC 232 c_M_canSet = true := by decide +kernel
def cu_M_canSet : List (Nat × List Bool) := []
noncomputable def F_M_canSet (O : Type) (a : Nat) (av : List AV) (σ : Mem) (K : AV → Mem → Option O) : Option O := if a = 230 then sm_M_isIn O av σ K else if a = 233 then sm_M_isWalker O av σ K else if a = 234 then sm_M_isAshore O av σ K else none
theorem fs_M_canSet {X : CXT} (hX : XM X) (O : Type) : FS X 3 (F_M_canSet O) := by
  intro a av σ K o h
  unfold F_M_canSet at h
  rcases ite_s h with ⟨rfl, h⟩ | ⟨_, h⟩
  · obtain ⟨r, h1, h2, h3⟩ := ok_M_isIn hX _ _ _ _ _ h
    exact ⟨r, fun ht => ⟨1, by decide, h1 ht⟩, h2, h3⟩
  rcases ite_s h with ⟨rfl, h⟩ | ⟨_, h⟩
  · obtain ⟨r, h1, h2, h3⟩ := ok_M_isWalker hX _ _ _ _ _ h
    exact ⟨r, fun ht => ⟨2, by decide, h1 ht⟩, h2, h3⟩
  rcases ite_s h with ⟨rfl, h⟩ | ⟨_, h⟩
  · obtain ⟨r, h1, h2, h3⟩ := ok_M_isAshore hX _ _ _ _ _ h
    exact ⟨r, fun ht => ⟨1, by decide, h1 ht⟩, h2, h3⟩
  cases h
set_option maxRecDepth 100000 in
theorem s_M_canSet {X : CXT} (hX : XM X) : ∀ (k0 : Nat) (v1 : Int32) (v2 : Int32) (v3 : Int32) (s : Mem) (o : Bool × Mem), f_M_canSet k0 v1 v2 v3 s = some o → BSnd X 3 232 (ovZ o) 0 (entL [.inr (.inr (12, k0)), .inl v1, .inl v2, .inl v3]) [] s := by
  intro k0 v1 v2 v3 s o h
  rw [f_M_canSet_eq] at h
  exact evC (chs := c_M_canSet) (cuts := cu_M_canSet) (G := fun pc ls st σ => none) hX.2.1 hX.2.2 (F := F_M_canSet _) (fs_M_canSet hX _) (rt_Z rfl) oc_M_canSet (by
    intro pc ls st σ o h
    cases h) 288 0 _ _ _ _ h
theorem ok_M_canSet {X : CXT} (hX : XM X) : SemOK X 3 232 sm_M_canSet := by
  intro O av σ K o h
  unfold sm_M_canSet at h
  split at h
  · obtain ⟨r, hf, h⟩ := Option.bind_eq_some_iff.mp h
    exact ⟨ovZ r, fun ht => sp_of hX.1 (by decide) (List.mem_range.mpr (by decide)) (by decide +kernel) ht (Nat.le_of_ble_eq_true rfl) (s_M_canSet hX _ _ _ _ _ _ hf), trivial, h⟩
  · cases h
noncomputable def b_M_breaks (k0 : Nat) (v1 : Int32) (v2 : Int32) (s : Mem) : Option (Mem) :=
  cif (v2 = 0) (
    gd (inb (((6 : Int32)) + (v1 / ((30 : Int32)))) (lenM (k0 + 1))) <|
    gd (inb (((6 : Int32)) + (v1 / ((30 : Int32)))) (lenM (k0 + 1))) <|
    let s1 : Mem := wI s (k0 + 1) (ix (((6 : Int32)) + (v1 / ((30 : Int32))))) ((rI s (k0 + 1) (ix (((6 : Int32)) + (v1 / ((30 : Int32)))))) &&& ((((1 : Int32)) <<< ((v1 - v1 / ((30 : Int32)) * ((30 : Int32))) &&& 31)) ^^^ ((-1 : Int32))))
    some s1) (
    gd (inb (((6 : Int32)) + (v1 / ((30 : Int32)))) (lenM (k0 + 1))) <|
    gd (inb (((6 : Int32)) + (v1 / ((30 : Int32)))) (lenM (k0 + 1))) <|
    let s2 : Mem := wI s (k0 + 1) (ix (((6 : Int32)) + (v1 / ((30 : Int32))))) ((rI s (k0 + 1) (ix (((6 : Int32)) + (v1 / ((30 : Int32)))))) ||| (((1 : Int32)) <<< ((v1 - v1 / ((30 : Int32)) * ((30 : Int32))) &&& 31)))
    some s2)
noncomputable def f_M_breaks : Nat → Int32 → Int32 → Mem → Option (Mem) := Classical.choose (⟨b_M_breaks, rfl⟩ : ∃ f : Nat → Int32 → Int32 → Mem → Option (Mem), f = b_M_breaks)
theorem f_M_breaks_eq : f_M_breaks = b_M_breaks := Classical.choose_spec (⟨b_M_breaks, rfl⟩ : ∃ f : Nat → Int32 → Int32 → Mem → Option (Mem), f = b_M_breaks)
noncomputable def sm_M_breaks (O : Type) (av : List AV) (σ : Mem) (K : AV → Mem → Option O) : Option O := match av with
  | [.inr (.inr (12, k0)), .inl v1, .inl v2] => (f_M_breaks k0 v1 v2 σ).bind fun r => K (.inl 0) r
  | _ => none
def c_M_breaks : List (List CE) := [[(0, .aload_n 0, 1, 0, 0, 0), (1, .getfield 7, 3, 12, 0, 0), (4, .bipush 6, 2, 6, 0, 0), (6, .iload_n 1, 1, 0, 0, 0), (7, .bipush 30, 2, 30, 0, 0), (9, .idiv, 1, 0, 0, 0), (10, .iadd, 1, 0, 0, 0), (11, .iload_n 2, 1, 0, 0, 0), (12, .ifCond .eq 25, 3, 37, 0, 0), (15, .aload_n 0, 1, 0, 0, 0)], [(16, .getfield 7, 3, 12, 0, 0), (19, .bipush 6, 2, 6, 0, 0), (21, .iload_n 1, 1, 0, 0, 0), (22, .bipush 30, 2, 30, 0, 0), (24, .idiv, 1, 0, 0, 0), (25, .iadd, 1, 0, 0, 0), (26, .iaload, 1, 0, 0, 0), (27, .iconst 1, 1, 1, 0, 0), (28, .iload_n 1, 1, 0, 0, 0), (29, .bipush 30, 2, 30, 0, 0), (31, .irem, 1, 0, 0, 0)], [(32, .ishl, 1, 0, 0, 0), (33, .ior, 1, 0, 0, 0), (34, .goto 24, 3, 58, 0, 0), (37, .aload_n 0, 1, 0, 0, 0), (38, .getfield 7, 3, 12, 0, 0), (41, .bipush 6, 2, 6, 0, 0), (43, .iload_n 1, 1, 0, 0, 0), (44, .bipush 30, 2, 30, 0, 0), (46, .idiv, 1, 0, 0, 0), (47, .iadd, 1, 0, 0, 0)], [(48, .iaload, 1, 0, 0, 0), (49, .iconst 1, 1, 1, 0, 0), (50, .iload_n 1, 1, 0, 0, 0), (51, .bipush 30, 2, 30, 0, 0), (53, .irem, 1, 0, 0, 0), (54, .ishl, 1, 0, 0, 0), (55, .iconst (-1), 1, 1, 0, 1), (56, .ixor, 1, 0, 0, 0), (57, .iand, 1, 0, 0, 0), (58, .iastore, 1, 0, 0, 0), (59, .return_, 1, 0, 0, 0)]]
set_option maxRecDepth 100000 in
theorem oc_M_breaks : okC 236 c_M_breaks = true := by decide +kernel
def cu_M_breaks : List (Nat × List Bool) := []
noncomputable def F_M_breaks (O : Type) (a : Nat) (av : List AV) (σ : Mem) (K : AV → Mem → Option O) : Option O := none
theorem fs_M_breaks {X : CXT} (hX : XM X) (O : Type) : FS X 1 (F_M_breaks O) := by
  intro a av σ K o h
  cases h
set_option maxRecDepth 100000 in
theorem s_M_breaks {X : CXT} (hX : XM X) : ∀ (k0 : Nat) (v1 : Int32) (v2 : Int32) (s : Mem) (o : Mem), f_M_breaks k0 v1 v2 s = some o → BSnd X 1 236 (ovV o) 0 (entL [.inr (.inr (12, k0)), .inl v1, .inl v2]) [] s := by
  intro k0 v1 v2 s o h
  rw [f_M_breaks_eq] at h
  exact evC (chs := c_M_breaks) (cuts := cu_M_breaks) (G := fun pc ls st σ => none) hX.2.1 hX.2.2 (F := F_M_breaks _) (fs_M_breaks hX _) (rt_V rfl) oc_M_breaks (by
    intro pc ls st σ o h
    cases h) 208 0 _ _ _ _ h
theorem ok_M_breaks {X : CXT} (hX : XM X) : SemOK X 1 236 sm_M_breaks := by
  intro O av σ K o h
  unfold sm_M_breaks at h
  split at h
  · obtain ⟨r, hf, h⟩ := Option.bind_eq_some_iff.mp h
    exact ⟨ovV r, fun ht => sp_of hX.1 (by decide) (List.mem_range.mpr (by decide)) (by decide +kernel) ht (Nat.le_of_ble_eq_true rfl) (s_M_breaks hX _ _ _ _ _ hf), trivial, h⟩
  · cases h
noncomputable def f_M_setsLong_9 : Nat → Nat → Int32 → Mem → Option (Mem)
  | 0, _, _, _ => none
  | n + 1, k0, v2, s =>
    cif (((200 : Int32)) ≤ v2) (
      some s) (
      (f_M_breaks k0 v2 ((0 : Int32)) s).bind fun r1 =>
      f_M_setsLong_9 n k0 (v2 + (1 : Int32)) r1)
noncomputable def b_M_setsLong (k0 : Nat) (v1 : Int32) (s : Mem) : Option (Mem) :=
  gd (inb ((0 : Int32)) (lenM (k0 + 1))) <|
  let s1 : Mem := wI s (k0 + 1) (ix ((0 : Int32))) v1
  f_M_setsLong_9 FU k0 v1 s1
noncomputable def f_M_setsLong : Nat → Int32 → Mem → Option (Mem) := Classical.choose (⟨b_M_setsLong, rfl⟩ : ∃ f : Nat → Int32 → Mem → Option (Mem), f = b_M_setsLong)
theorem f_M_setsLong_eq : f_M_setsLong = b_M_setsLong := Classical.choose_spec (⟨b_M_setsLong, rfl⟩ : ∃ f : Nat → Int32 → Mem → Option (Mem), f = b_M_setsLong)
noncomputable def sm_M_setsLong (O : Type) (av : List AV) (σ : Mem) (K : AV → Mem → Option O) : Option O := match av with
  | [.inr (.inr (12, k0)), .inl v1] => (f_M_setsLong k0 v1 σ).bind fun r => K (.inl 0) r
  | _ => none
def c_M_setsLong : List (List CE) := [[(0, .aload_n 0, 1, 0, 0, 0), (1, .getfield 7, 3, 12, 0, 0), (4, .iconst 0, 1, 0, 0, 0), (5, .iload_n 1, 1, 0, 0, 0), (6, .iastore, 1, 0, 0, 0), (7, .iload_n 1, 1, 0, 0, 0), (8, .istore_n 2, 1, 0, 0, 0), (9, .iload_n 2, 1, 0, 0, 0), (10, .sipush 200, 3, 200, 0, 0), (13, .if_icmp .ge 15, 3, 28, 0, 0)], [(16, .aload_n 0, 1, 0, 0, 0), (17, .iload_n 2, 1, 0, 0, 0), (18, .iconst 0, 1, 0, 0, 0), (19, .invokevirtual 72, 3, 236, 3, 24), (22, .iinc 2 1, 3, 1, 0, 0), (25, .goto (-16), 3, 9, 0, 0), (28, .return_, 1, 0, 0, 0)]]
set_option maxRecDepth 100000 in
theorem oc_M_setsLong : okC 235 c_M_setsLong = true := by decide +kernel
def cu_M_setsLong : List (Nat × List Bool) := [(9, [true, false, true])]
noncomputable def F_M_setsLong (O : Type) (a : Nat) (av : List AV) (σ : Mem) (K : AV → Mem → Option O) : Option O := if a = 236 then sm_M_breaks O av σ K else none
theorem fs_M_setsLong {X : CXT} (hX : XM X) (O : Type) : FS X 2 (F_M_setsLong O) := by
  intro a av σ K o h
  unfold F_M_setsLong at h
  rcases ite_s h with ⟨rfl, h⟩ | ⟨_, h⟩
  · obtain ⟨r, h1, h2, h3⟩ := ok_M_breaks hX _ _ _ _ _ h
    exact ⟨r, fun ht => ⟨1, by decide, h1 ht⟩, h2, h3⟩
  cases h
def hd_M_setsLong_9 {O : Type} (g : Nat → Int32 → Mem → Option O) (ls : OL) (st : List AV) (σ : Mem) : Option O := match ls, st with
  | [some (.inr (.inr (12, k0))), none, some (.inl v2)], [] => g k0 v2 σ
  | _, _ => none
theorem hs_M_setsLong_9 {X : CXT} {g : Nat → Int32 → Mem → Option (Mem)} (hg : ∀ (k0 : Nat) (v2 : Int32) (s : Mem) (o : Mem), g k0 v2 s = some o → BSnd X 2 235 (ovV o) 9 [some (.inr (.inr (12, k0))), none, some (.inl v2)] [] s) : ∀ ls st σ o, hd_M_setsLong_9 g ls st σ = some o → BSnd X 2 235 (ovV o) 9 ls st σ := by
  intro ls st σ o h
  unfold hd_M_setsLong_9 at h
  split at h
  · exact hg _ _ _ _ h
  · cases h
set_option maxRecDepth 100000 in
theorem s_M_setsLong_9 {X : CXT} (hX : XM X) : ∀ n : Nat, ∀ (k0 : Nat) (v2 : Int32) (s : Mem) (o : Mem), f_M_setsLong_9 n k0 v2 s = some o → BSnd X 2 235 (ovV o) 9 [some (.inr (.inr (12, k0))), none, some (.inl v2)] [] s := by
  intro n
  induction n with
  | zero => intro k0 v2 s o h; cases h
  | succ n ih =>
    intro k0 v2 s o h
    exact evC (chs := c_M_setsLong) (cuts := cu_M_setsLong) (G := fun pc ls st σ => if pc = 9 then hd_M_setsLong_9 (fun k0 v2 s => f_M_setsLong_9 n k0 v2 s) ls st σ else none) hX.2.1 hX.2.2 (F := F_M_setsLong _) (fs_M_setsLong hX _) (rt_V rfl) oc_M_setsLong (by
    intro pc ls st σ o h
    rcases ite_s h with ⟨rfl, h⟩ | ⟨_, h⟩
    · exact hs_M_setsLong_9 ih _ _ _ _ h
    cases h) 108 9 _ _ _ _ h
set_option maxRecDepth 100000 in
theorem s_M_setsLong {X : CXT} (hX : XM X) : ∀ (k0 : Nat) (v1 : Int32) (s : Mem) (o : Mem), f_M_setsLong k0 v1 s = some o → BSnd X 2 235 (ovV o) 0 (entL [.inr (.inr (12, k0)), .inl v1]) [] s := by
  intro k0 v1 s o h
  rw [f_M_setsLong_eq] at h
  exact evC (chs := c_M_setsLong) (cuts := cu_M_setsLong) (G := fun pc ls st σ => if pc = 9 then hd_M_setsLong_9 (fun k0 v2 s => f_M_setsLong_9 FU k0 v2 s) ls st σ else none) hX.2.1 hX.2.2 (F := F_M_setsLong _) (fs_M_setsLong hX _) (rt_V rfl) oc_M_setsLong (by
    intro pc ls st σ o h
    rcases ite_s h with ⟨rfl, h⟩ | ⟨_, h⟩
    · exact hs_M_setsLong_9 (s_M_setsLong_9 hX FU) _ _ _ _ h
    cases h) 108 0 _ _ _ _ h
theorem ok_M_setsLong {X : CXT} (hX : XM X) : SemOK X 2 235 sm_M_setsLong := by
  intro O av σ K o h
  unfold sm_M_setsLong at h
  split at h
  · obtain ⟨r, hf, h⟩ := Option.bind_eq_some_iff.mp h
    exact ⟨ovV r, fun ht => sp_of hX.1 (by decide) (List.mem_range.mpr (by decide)) (by decide +kernel) ht (Nat.le_of_ble_eq_true rfl) (s_M_setsLong hX _ _ _ _ hf), trivial, h⟩
  · cases h
noncomputable def b_M_set (k0 : Nat) (v1 : Int32) (v2 : Int32) (v3 : Int32) (s : Mem) : Option (Bool × Mem) :=
  (f_M_canSet k0 v1 v2 v3 s).bind fun r1 =>
  cif ((b2i r1.1) = 0) (
    some (false, r1.2)) (
    cif (v1 = (0 : Int32)) (
      gd (inb ((50 : Int32)) (lenM (k0 + 1))) <|
      let s2 : Mem := wI r1.2 (k0 + 1) (ix ((50 : Int32))) v3
      (f_M_forgets k0 s2).bind fun r3 =>
      some (true, r3)) (
      cif (v1 = (1 : Int32)) (
        (f_M_setsLong k0 v3 r1.2).bind fun r4 =>
        (f_M_forgets k0 r4).bind fun r5 =>
        some (true, r5)) (
        cif (v1 = (5 : Int32)) (
          cif (v3 = ((1 : Int32))) (
            gd (inb ((51 : Int32)) (lenM (k0 + 1))) <|
            gd (inb ((51 : Int32)) (lenM (k0 + 1))) <|
            let s6 : Mem := wI r1.2 (k0 + 1) (ix ((51 : Int32))) ((rI r1.2 (k0 + 1) (ix ((51 : Int32)))) ||| (((1 : Int32)) <<< (v2 &&& 31)))
            (f_M_forgets k0 s6).bind fun r7 =>
            some (true, r7)) (
            gd (inb ((51 : Int32)) (lenM (k0 + 1))) <|
            gd (inb ((51 : Int32)) (lenM (k0 + 1))) <|
            let s8 : Mem := wI r1.2 (k0 + 1) (ix ((51 : Int32))) ((rI r1.2 (k0 + 1) (ix ((51 : Int32)))) &&& ((((1 : Int32)) <<< (v2 &&& 31)) ^^^ ((-1 : Int32))))
            (f_M_forgets k0 s8).bind fun r9 =>
            some (true, r9))) (
          gd (inb ((((62 : Int32)) + (((12 : Int32)) * (v1 - ((2 : Int32))))) + v2) (lenM (k0 + 1))) <|
          let s10 : Mem := wI r1.2 (k0 + 1) (ix ((((62 : Int32)) + (((12 : Int32)) * (v1 - ((2 : Int32))))) + v2)) v3
          (f_M_forgets k0 s10).bind fun r11 =>
          some (true, r11)))))
noncomputable def f_M_set : Nat → Int32 → Int32 → Int32 → Mem → Option (Bool × Mem) := Classical.choose (⟨b_M_set, rfl⟩ : ∃ f : Nat → Int32 → Int32 → Int32 → Mem → Option (Bool × Mem), f = b_M_set)
theorem f_M_set_eq : f_M_set = b_M_set := Classical.choose_spec (⟨b_M_set, rfl⟩ : ∃ f : Nat → Int32 → Int32 → Int32 → Mem → Option (Bool × Mem), f = b_M_set)
noncomputable def sm_M_set (O : Type) (av : List AV) (σ : Mem) (K : AV → Mem → Option O) : Option O := match av with
  | [.inr (.inr (12, k0)), .inl v1, .inl v2, .inl v3] => (f_M_set k0 v1 v2 v3 σ).bind fun r => K (.inl (b2i r.1)) r.2
  | _ => none
def c_M_set : List (List CE) := [[(0, .aload_n 0, 1, 0, 0, 0), (1, .iload_n 1, 1, 0, 0, 0), (2, .iload_n 2, 1, 0, 0, 0), (3, .iload_n 3, 1, 0, 0, 0), (4, .invokevirtual 83, 3, 232, 4, 25), (7, .ifCond .ne 5, 3, 12, 0, 0), (10, .iconst 0, 1, 0, 0, 0), (11, .ireturn, 1, 0, 0, 0), (12, .iload_n 1, 1, 0, 0, 0), (13, .lookupswitch 96 #[(0, 35), (1, 46), (5, 54)], 35, 0, 0, 0)], [], [], [(48, .aload_n 0, 1, 0, 0, 0), (49, .getfield 7, 3, 12, 0, 0), (52, .bipush 50, 2, 50, 0, 0), (54, .iload_n 3, 1, 0, 0, 0), (55, .iastore, 1, 0, 0, 0), (56, .goto 70, 3, 126, 0, 0), (59, .aload_n 0, 1, 0, 0, 0), (60, .iload_n 3, 1, 0, 0, 0), (61, .invokevirtual 86, 3, 235, 2, 24)], [(64, .goto 62, 3, 126, 0, 0), (67, .aload_n 0, 1, 0, 0, 0), (68, .getfield 7, 3, 12, 0, 0), (71, .bipush 51, 2, 51, 0, 0), (73, .iload_n 3, 1, 0, 0, 0), (74, .iconst 1, 1, 1, 0, 0), (75, .if_icmp .ne 17, 3, 92, 0, 0), (78, .aload_n 0, 1, 0, 0, 0), (79, .getfield 7, 3, 12, 0, 0)], [(82, .bipush 51, 2, 51, 0, 0), (84, .iaload, 1, 0, 0, 0), (85, .iconst 1, 1, 1, 0, 0), (86, .iload_n 2, 1, 0, 0, 0), (87, .ishl, 1, 0, 0, 0), (88, .ior, 1, 0, 0, 0), (89, .goto 16, 3, 105, 0, 0), (92, .aload_n 0, 1, 0, 0, 0), (93, .getfield 7, 3, 12, 0, 0)], [(96, .bipush 51, 2, 51, 0, 0), (98, .iaload, 1, 0, 0, 0), (99, .iconst 1, 1, 1, 0, 0), (100, .iload_n 2, 1, 0, 0, 0), (101, .ishl, 1, 0, 0, 0), (102, .iconst (-1), 1, 1, 0, 1), (103, .ixor, 1, 0, 0, 0), (104, .iand, 1, 0, 0, 0), (105, .iastore, 1, 0, 0, 0), (106, .goto 20, 3, 126, 0, 0), (109, .aload_n 0, 1, 0, 0, 0), (110, .getfield 7, 3, 12, 0, 0)], [(113, .bipush 62, 2, 62, 0, 0), (115, .bipush 12, 2, 12, 0, 0), (117, .iload_n 1, 1, 0, 0, 0), (118, .iconst 2, 1, 2, 0, 0), (119, .isub, 1, 0, 0, 0), (120, .imul, 1, 0, 0, 0), (121, .iadd, 1, 0, 0, 0), (122, .iload_n 2, 1, 0, 0, 0), (123, .iadd, 1, 0, 0, 0), (124, .iload_n 3, 1, 0, 0, 0), (125, .iastore, 1, 0, 0, 0), (126, .aload_n 0, 1, 0, 0, 0), (127, .invokevirtual 67, 3, 228, 1, 24)], [(130, .iconst 1, 1, 1, 0, 0), (131, .ireturn, 1, 0, 0, 0)]]
set_option maxRecDepth 100000 in
theorem oc_M_set : okC 231 c_M_set = true := by decide +kernel
def cu_M_set : List (Nat × List Bool) := []
noncomputable def F_M_set (O : Type) (a : Nat) (av : List AV) (σ : Mem) (K : AV → Mem → Option O) : Option O := if a = 228 then sm_M_forgets O av σ K else if a = 232 then sm_M_canSet O av σ K else if a = 235 then sm_M_setsLong O av σ K else none
theorem fs_M_set {X : CXT} (hX : XM X) (O : Type) : FS X 4 (F_M_set O) := by
  intro a av σ K o h
  unfold F_M_set at h
  rcases ite_s h with ⟨rfl, h⟩ | ⟨_, h⟩
  · obtain ⟨r, h1, h2, h3⟩ := ok_M_forgets hX _ _ _ _ _ h
    exact ⟨r, fun ht => ⟨1, by decide, h1 ht⟩, h2, h3⟩
  rcases ite_s h with ⟨rfl, h⟩ | ⟨_, h⟩
  · obtain ⟨r, h1, h2, h3⟩ := ok_M_canSet hX _ _ _ _ _ h
    exact ⟨r, fun ht => ⟨3, by decide, h1 ht⟩, h2, h3⟩
  rcases ite_s h with ⟨rfl, h⟩ | ⟨_, h⟩
  · obtain ⟨r, h1, h2, h3⟩ := ok_M_setsLong hX _ _ _ _ _ h
    exact ⟨r, fun ht => ⟨2, by decide, h1 ht⟩, h2, h3⟩
  cases h
set_option maxRecDepth 100000 in
theorem s_M_set {X : CXT} (hX : XM X) : ∀ (k0 : Nat) (v1 : Int32) (v2 : Int32) (v3 : Int32) (s : Mem) (o : Bool × Mem), f_M_set k0 v1 v2 v3 s = some o → BSnd X 4 231 (ovZ o) 0 (entL [.inr (.inr (12, k0)), .inl v1, .inl v2, .inl v3]) [] s := by
  intro k0 v1 v2 v3 s o h
  rw [f_M_set_eq] at h
  exact evC (chs := c_M_set) (cuts := cu_M_set) (G := fun pc ls st σ => none) hX.2.1 hX.2.2 (F := F_M_set _) (fs_M_set hX _) (rt_Z rfl) oc_M_set (by
    intro pc ls st σ o h
    cases h) 296 0 _ _ _ _ h
theorem ok_M_set {X : CXT} (hX : XM X) : SemOK X 4 231 sm_M_set := by
  intro O av σ K o h
  unfold sm_M_set at h
  split at h
  · obtain ⟨r, hf, h⟩ := Option.bind_eq_some_iff.mp h
    exact ⟨ovZ r, fun ht => sp_of hX.1 (by decide) (List.mem_range.mpr (by decide)) (by decide +kernel) ht (Nat.le_of_ble_eq_true rfl) (s_M_set hX _ _ _ _ _ _ hf), trivial, h⟩
  · cases h
noncomputable def f_M_feed_73 (KH : Nat → Int32 → Int32 → Int32 → Int32 → Int32 → Int32 → Mem → Option (Int32 × Mem)) (k0 : Nat) (v1 : Int32) (v2 : Int32) (v3 : Int32) (v4 : Int32) (v5 : Int32) (v6 : Int32) (v7 : Int32) (s : Mem) : Option (Int32 × Mem) :=
  gd (inb (rI s k0 16) (lenM (k0 + 8))) <|
  let s1 : Mem := wI s (k0 + 8) (ix (rI s k0 16)) ((v7 >>> ((((24 : Int32)) - (((8 : Int32)) * (v6 - v6 / ((4 : Int32)) * ((4 : Int32))))) &&& 31)) &&& ((255 : Int32)))
  let s2 : Mem := wI s1 k0 16 ((rI s1 k0 16) + ((1 : Int32)))
  KH k0 v1 v2 v3 v4 v5 (v6 + (1 : Int32)) s2
noncomputable def f_M_feed_18 : Nat → Nat → Int32 → Int32 → Int32 → Int32 → Int32 → Int32 → Mem → Option (Int32 × Mem)
  | 0, _, _, _, _, _, _, _, _ => none
  | n + 1, k0, v1, v2, v3, v4, v5, v6, s =>
    cif (((20 : Int32)) ≤ v6) (
      some (rI s k0 16, s)) (
      cif (((4 : Int32)) ≤ v6) (
        cif (((8 : Int32)) ≤ v6) (
          cif (((12 : Int32)) ≤ v6) (
            cif (((16 : Int32)) ≤ v6) (
              f_M_feed_73 (fun k0 v1 v2 v3 v4 v5 v6 s => f_M_feed_18 n k0 v1 v2 v3 v4 v5 v6 s) k0 v1 v2 v3 v4 v5 v6 v5 s) (
              f_M_feed_73 (fun k0 v1 v2 v3 v4 v5 v6 s => f_M_feed_18 n k0 v1 v2 v3 v4 v5 v6 s) k0 v1 v2 v3 v4 v5 v6 v4 s)) (
            f_M_feed_73 (fun k0 v1 v2 v3 v4 v5 v6 s => f_M_feed_18 n k0 v1 v2 v3 v4 v5 v6 s) k0 v1 v2 v3 v4 v5 v6 v3 s)) (
          f_M_feed_73 (fun k0 v1 v2 v3 v4 v5 v6 s => f_M_feed_18 n k0 v1 v2 v3 v4 v5 v6 s) k0 v1 v2 v3 v4 v5 v6 v2 s)) (
        f_M_feed_73 (fun k0 v1 v2 v3 v4 v5 v6 s => f_M_feed_18 n k0 v1 v2 v3 v4 v5 v6 s) k0 v1 v2 v3 v4 v5 v6 v1 s))
noncomputable def b_M_feed (k0 : Nat) (v1 : Int32) (v2 : Int32) (v3 : Int32) (v4 : Int32) (v5 : Int32) (s : Mem) : Option (Int32 × Mem) :=
  cif (((rI s k0 16) + ((20 : Int32))) ≤ ((400 : Int32))) (
    f_M_feed_18 FU k0 v1 v2 v3 v4 v5 ((0 : Int32)) s) (
    some ((-1 : Int32), s))
noncomputable def f_M_feed : Nat → Int32 → Int32 → Int32 → Int32 → Int32 → Mem → Option (Int32 × Mem) := Classical.choose (⟨b_M_feed, rfl⟩ : ∃ f : Nat → Int32 → Int32 → Int32 → Int32 → Int32 → Mem → Option (Int32 × Mem), f = b_M_feed)
theorem f_M_feed_eq : f_M_feed = b_M_feed := Classical.choose_spec (⟨b_M_feed, rfl⟩ : ∃ f : Nat → Int32 → Int32 → Int32 → Int32 → Int32 → Mem → Option (Int32 × Mem), f = b_M_feed)
noncomputable def sm_M_feed (O : Type) (av : List AV) (σ : Mem) (K : AV → Mem → Option O) : Option O := match av with
  | [.inr (.inr (12, k0)), .inl v1, .inl v2, .inl v3, .inl v4, .inl v5] => (f_M_feed k0 v1 v2 v3 v4 v5 σ).bind fun r => K (.inl r.1) r.2
  | _ => none
def c_M_feed : List (List CE) := [[(0, .aload_n 0, 1, 0, 0, 0), (1, .getfield 90, 3, 12, 16, 0), (4, .bipush 20, 2, 20, 0, 0), (6, .iadd, 1, 0, 0, 0), (7, .sipush 400, 3, 400, 0, 0), (10, .if_icmp .le 5, 3, 15, 0, 0), (13, .iconst (-1), 1, 1, 0, 1), (14, .ireturn, 1, 0, 0, 0), (15, .iconst 0, 1, 0, 0, 0)], [(16, .istore 6, 2, 0, 0, 0), (18, .iload 6, 2, 0, 0, 0), (20, .bipush 20, 2, 20, 0, 0), (22, .if_icmp .ge 93, 3, 115, 0, 0), (25, .iload 6, 2, 0, 0, 0), (27, .iconst 4, 1, 4, 0, 0), (28, .if_icmp .ge 7, 3, 35, 0, 0), (31, .iload_n 1, 1, 0, 0, 0)], [(32, .goto 39, 3, 71, 0, 0), (35, .iload 6, 2, 0, 0, 0), (37, .bipush 8, 2, 8, 0, 0), (39, .if_icmp .ge 7, 3, 46, 0, 0), (42, .iload_n 2, 1, 0, 0, 0), (43, .goto 28, 3, 71, 0, 0), (46, .iload 6, 2, 0, 0, 0)], [(48, .bipush 12, 2, 12, 0, 0), (50, .if_icmp .ge 7, 3, 57, 0, 0), (53, .iload_n 3, 1, 0, 0, 0), (54, .goto 17, 3, 71, 0, 0), (57, .iload 6, 2, 0, 0, 0), (59, .bipush 16, 2, 16, 0, 0), (61, .if_icmp .ge 8, 3, 69, 0, 0)], [(64, .iload 4, 2, 0, 0, 0), (66, .goto 5, 3, 71, 0, 0), (69, .iload 5, 2, 0, 0, 0), (71, .istore 7, 2, 0, 0, 0), (73, .aload_n 0, 1, 0, 0, 0), (74, .getfield 31, 3, 12, 9, 0), (77, .aload_n 0, 1, 0, 0, 0), (78, .getfield 90, 3, 12, 16, 0)], [(81, .iload 7, 2, 0, 0, 0), (83, .bipush 24, 2, 24, 0, 0), (85, .bipush 8, 2, 8, 0, 0), (87, .iload 6, 2, 0, 0, 0), (89, .iconst 4, 1, 4, 0, 0), (90, .irem, 1, 0, 0, 0), (91, .imul, 1, 0, 0, 0), (92, .isub, 1, 0, 0, 0), (93, .ishr, 1, 0, 0, 0), (94, .sipush 255, 3, 255, 0, 0)], [(97, .iand, 1, 0, 0, 0), (98, .iastore, 1, 0, 0, 0), (99, .aload_n 0, 1, 0, 0, 0), (100, .dup, 1, 0, 0, 0), (101, .getfield 90, 3, 12, 16, 0), (104, .iconst 1, 1, 1, 0, 0), (105, .iadd, 1, 0, 0, 0), (106, .putfield 90, 3, 12, 16, 0), (109, .iinc 6 1, 3, 1, 0, 0)], [(112, .goto (-94), 3, 18, 0, 0), (115, .aload_n 0, 1, 0, 0, 0), (116, .getfield 90, 3, 12, 16, 0), (119, .ireturn, 1, 0, 0, 0)]]
set_option maxRecDepth 100000 in
theorem oc_M_feed : okC 237 c_M_feed = true := by decide +kernel
def cu_M_feed : List (Nat × List Bool) := [(73, [true, true, true, true, true, true, true, true]), (18, [true, true, true, true, true, true, true])]
noncomputable def F_M_feed (O : Type) (a : Nat) (av : List AV) (σ : Mem) (K : AV → Mem → Option O) : Option O := none
theorem fs_M_feed {X : CXT} (hX : XM X) (O : Type) : FS X 1 (F_M_feed O) := by
  intro a av σ K o h
  cases h
def hd_M_feed_73 {O : Type} (g : Nat → Int32 → Int32 → Int32 → Int32 → Int32 → Int32 → Int32 → Mem → Option O) (ls : OL) (st : List AV) (σ : Mem) : Option O := match ls, st with
  | [some (.inr (.inr (12, k0))), some (.inl v1), some (.inl v2), some (.inl v3), some (.inl v4), some (.inl v5), some (.inl v6), some (.inl v7)], [] => g k0 v1 v2 v3 v4 v5 v6 v7 σ
  | _, _ => none
theorem hs_M_feed_73 {X : CXT} {g : Nat → Int32 → Int32 → Int32 → Int32 → Int32 → Int32 → Int32 → Mem → Option (Int32 × Mem)} (hg : ∀ (k0 : Nat) (v1 : Int32) (v2 : Int32) (v3 : Int32) (v4 : Int32) (v5 : Int32) (v6 : Int32) (v7 : Int32) (s : Mem) (o : Int32 × Mem), g k0 v1 v2 v3 v4 v5 v6 v7 s = some o → BSnd X 1 237 (ovI o) 73 [some (.inr (.inr (12, k0))), some (.inl v1), some (.inl v2), some (.inl v3), some (.inl v4), some (.inl v5), some (.inl v6), some (.inl v7)] [] s) : ∀ ls st σ o, hd_M_feed_73 g ls st σ = some o → BSnd X 1 237 (ovI o) 73 ls st σ := by
  intro ls st σ o h
  unfold hd_M_feed_73 at h
  split at h
  · exact hg _ _ _ _ _ _ _ _ _ _ h
  · cases h
def hd_M_feed_18 {O : Type} (g : Nat → Int32 → Int32 → Int32 → Int32 → Int32 → Int32 → Mem → Option O) (ls : OL) (st : List AV) (σ : Mem) : Option O := match ls, st with
  | [some (.inr (.inr (12, k0))), some (.inl v1), some (.inl v2), some (.inl v3), some (.inl v4), some (.inl v5), some (.inl v6)], [] => g k0 v1 v2 v3 v4 v5 v6 σ
  | _, _ => none
theorem hs_M_feed_18 {X : CXT} {g : Nat → Int32 → Int32 → Int32 → Int32 → Int32 → Int32 → Mem → Option (Int32 × Mem)} (hg : ∀ (k0 : Nat) (v1 : Int32) (v2 : Int32) (v3 : Int32) (v4 : Int32) (v5 : Int32) (v6 : Int32) (s : Mem) (o : Int32 × Mem), g k0 v1 v2 v3 v4 v5 v6 s = some o → BSnd X 1 237 (ovI o) 18 [some (.inr (.inr (12, k0))), some (.inl v1), some (.inl v2), some (.inl v3), some (.inl v4), some (.inl v5), some (.inl v6)] [] s) : ∀ ls st σ o, hd_M_feed_18 g ls st σ = some o → BSnd X 1 237 (ovI o) 18 ls st σ := by
  intro ls st σ o h
  unfold hd_M_feed_18 at h
  split at h
  · exact hg _ _ _ _ _ _ _ _ _ h
  · cases h
set_option maxRecDepth 100000 in
theorem s_M_feed_73 {X : CXT} (hX : XM X) {KH : Nat → Int32 → Int32 → Int32 → Int32 → Int32 → Int32 → Mem → Option (Int32 × Mem)} (hKH : ∀ (k0 : Nat) (v1 : Int32) (v2 : Int32) (v3 : Int32) (v4 : Int32) (v5 : Int32) (v6 : Int32) (s : Mem) (o : Int32 × Mem), KH k0 v1 v2 v3 v4 v5 v6 s = some o → BSnd X 1 237 (ovI o) 18 [some (.inr (.inr (12, k0))), some (.inl v1), some (.inl v2), some (.inl v3), some (.inl v4), some (.inl v5), some (.inl v6)] [] s) : ∀ (k0 : Nat) (v1 : Int32) (v2 : Int32) (v3 : Int32) (v4 : Int32) (v5 : Int32) (v6 : Int32) (v7 : Int32) (s : Mem) (o : Int32 × Mem), f_M_feed_73 KH k0 v1 v2 v3 v4 v5 v6 v7 s = some o → BSnd X 1 237 (ovI o) 73 [some (.inr (.inr (12, k0))), some (.inl v1), some (.inl v2), some (.inl v3), some (.inl v4), some (.inl v5), some (.inl v6), some (.inl v7)] [] s := by
  intro k0 v1 v2 v3 v4 v5 v6 v7 s o h
  exact evC (chs := c_M_feed) (cuts := cu_M_feed) (G := fun pc ls st σ => if pc = 18 then hd_M_feed_18 (fun k0 v1 v2 v3 v4 v5 v6 s => KH k0 v1 v2 v3 v4 v5 v6 s) ls st σ else none) hX.2.1 hX.2.2 (F := F_M_feed _) (fs_M_feed hX _) (rt_I rfl) oc_M_feed (by
    intro pc ls st σ o h
    rcases ite_s h with ⟨rfl, h⟩ | ⟨_, h⟩
    · exact hs_M_feed_18 hKH _ _ _ _ h
    cases h) 288 73 _ _ _ _ h
set_option maxRecDepth 100000 in
theorem s_M_feed_18 {X : CXT} (hX : XM X) : ∀ n : Nat, ∀ (k0 : Nat) (v1 : Int32) (v2 : Int32) (v3 : Int32) (v4 : Int32) (v5 : Int32) (v6 : Int32) (s : Mem) (o : Int32 × Mem), f_M_feed_18 n k0 v1 v2 v3 v4 v5 v6 s = some o → BSnd X 1 237 (ovI o) 18 [some (.inr (.inr (12, k0))), some (.inl v1), some (.inl v2), some (.inl v3), some (.inl v4), some (.inl v5), some (.inl v6)] [] s := by
  intro n
  induction n with
  | zero => intro k0 v1 v2 v3 v4 v5 v6 s o h; cases h
  | succ n ih =>
    intro k0 v1 v2 v3 v4 v5 v6 s o h
    exact evC (chs := c_M_feed) (cuts := cu_M_feed) (G := fun pc ls st σ => if pc = 73 then hd_M_feed_73 (fun k0 v1 v2 v3 v4 v5 v6 v7 s => f_M_feed_73 (fun k0 v1 v2 v3 v4 v5 v6 s => f_M_feed_18 n k0 v1 v2 v3 v4 v5 v6 s) k0 v1 v2 v3 v4 v5 v6 v7 s) ls st σ else if pc = 18 then hd_M_feed_18 (fun k0 v1 v2 v3 v4 v5 v6 s => f_M_feed_18 n k0 v1 v2 v3 v4 v5 v6 s) ls st σ else none) hX.2.1 hX.2.2 (F := F_M_feed _) (fs_M_feed hX _) (rt_I rfl) oc_M_feed (by
    intro pc ls st σ o h
    rcases ite_s h with ⟨rfl, h⟩ | ⟨_, h⟩
    · exact hs_M_feed_73 (s_M_feed_73 hX ih) _ _ _ _ h
    rcases ite_s h with ⟨rfl, h⟩ | ⟨_, h⟩
    · exact hs_M_feed_18 ih _ _ _ _ h
    cases h) 288 18 _ _ _ _ h
set_option maxRecDepth 100000 in
theorem s_M_feed {X : CXT} (hX : XM X) : ∀ (k0 : Nat) (v1 : Int32) (v2 : Int32) (v3 : Int32) (v4 : Int32) (v5 : Int32) (s : Mem) (o : Int32 × Mem), f_M_feed k0 v1 v2 v3 v4 v5 s = some o → BSnd X 1 237 (ovI o) 0 (entL [.inr (.inr (12, k0)), .inl v1, .inl v2, .inl v3, .inl v4, .inl v5]) [] s := by
  intro k0 v1 v2 v3 v4 v5 s o h
  rw [f_M_feed_eq] at h
  exact evC (chs := c_M_feed) (cuts := cu_M_feed) (G := fun pc ls st σ => if pc = 18 then hd_M_feed_18 (fun k0 v1 v2 v3 v4 v5 v6 s => f_M_feed_18 FU k0 v1 v2 v3 v4 v5 v6 s) ls st σ else none) hX.2.1 hX.2.2 (F := F_M_feed _) (fs_M_feed hX _) (rt_I rfl) oc_M_feed (by
    intro pc ls st σ o h
    rcases ite_s h with ⟨rfl, h⟩ | ⟨_, h⟩
    · exact hs_M_feed_18 (s_M_feed_18 hX FU) _ _ _ _ h
    cases h) 288 0 _ _ _ _ h
theorem ok_M_feed {X : CXT} (hX : XM X) : SemOK X 1 237 sm_M_feed := by
  intro O av σ K o h
  unfold sm_M_feed at h
  split at h
  · obtain ⟨r, hf, h⟩ := Option.bind_eq_some_iff.mp h
    exact ⟨ovI r, fun ht => sp_of hX.1 (by decide) (List.mem_range.mpr (by decide)) (by decide +kernel) ht (Nat.le_of_ble_eq_true rfl) (s_M_feed hX _ _ _ _ _ _ _ _ hf), trivial, h⟩
  · cases h
noncomputable def b_M_end (k0 : Nat) (v1 : Int32) (s : Mem) : Option (Bool × Mem) :=
  (f_M_isIn v1 ((0 : Int32)) (rI s k0 16) s).bind fun r1 =>
  cif ((b2i r1.1) = 0) (
    some (false, r1.2)) (
    let s2 : Mem := wI r1.2 k0 16 v1
    some (true, s2))
noncomputable def f_M_end : Nat → Int32 → Mem → Option (Bool × Mem) := Classical.choose (⟨b_M_end, rfl⟩ : ∃ f : Nat → Int32 → Mem → Option (Bool × Mem), f = b_M_end)
theorem f_M_end_eq : f_M_end = b_M_end := Classical.choose_spec (⟨b_M_end, rfl⟩ : ∃ f : Nat → Int32 → Mem → Option (Bool × Mem), f = b_M_end)
noncomputable def sm_M_end (O : Type) (av : List AV) (σ : Mem) (K : AV → Mem → Option O) : Option O := match av with
  | [.inr (.inr (12, k0)), .inl v1] => (f_M_end k0 v1 σ).bind fun r => K (.inl (b2i r.1)) r.2
  | _ => none
def c_M_end : List (List CE) := [[(0, .iload_n 1, 1, 0, 0, 0), (1, .iconst 0, 1, 0, 0, 0), (2, .aload_n 0, 1, 0, 0, 0), (3, .getfield 90, 3, 12, 16, 0), (6, .invokestatic 60, 3, 230, 3, 1), (9, .ifCond .ne 5, 3, 14, 0, 0), (12, .iconst 0, 1, 0, 0, 0), (13, .ireturn, 1, 0, 0, 0), (14, .aload_n 0, 1, 0, 0, 0), (15, .iload_n 1, 1, 0, 0, 0)], [(16, .putfield 90, 3, 12, 16, 0), (19, .iconst 1, 1, 1, 0, 0), (20, .ireturn, 1, 0, 0, 0)]]
set_option maxRecDepth 100000 in
theorem oc_M_end : okC 238 c_M_end = true := by decide +kernel
def cu_M_end : List (Nat × List Bool) := []
noncomputable def F_M_end (O : Type) (a : Nat) (av : List AV) (σ : Mem) (K : AV → Mem → Option O) : Option O := if a = 230 then sm_M_isIn O av σ K else none
theorem fs_M_end {X : CXT} (hX : XM X) (O : Type) : FS X 2 (F_M_end O) := by
  intro a av σ K o h
  unfold F_M_end at h
  rcases ite_s h with ⟨rfl, h⟩ | ⟨_, h⟩
  · obtain ⟨r, h1, h2, h3⟩ := ok_M_isIn hX _ _ _ _ _ h
    exact ⟨r, fun ht => ⟨1, by decide, h1 ht⟩, h2, h3⟩
  cases h
set_option maxRecDepth 100000 in
theorem s_M_end {X : CXT} (hX : XM X) : ∀ (k0 : Nat) (v1 : Int32) (s : Mem) (o : Bool × Mem), f_M_end k0 v1 s = some o → BSnd X 2 238 (ovZ o) 0 (entL [.inr (.inr (12, k0)), .inl v1]) [] s := by
  intro k0 v1 s o h
  rw [f_M_end_eq] at h
  exact evC (chs := c_M_end) (cuts := cu_M_end) (G := fun pc ls st σ => none) hX.2.1 hX.2.2 (F := F_M_end _) (fs_M_end hX _) (rt_Z rfl) oc_M_end (by
    intro pc ls st σ o h
    cases h) 92 0 _ _ _ _ h
theorem ok_M_end {X : CXT} (hX : XM X) : SemOK X 2 238 sm_M_end := by
  intro O av σ K o h
  unfold sm_M_end at h
  split at h
  · obtain ⟨r, hf, h⟩ := Option.bind_eq_some_iff.mp h
    exact ⟨ovZ r, fun ht => sp_of hX.1 (by decide) (List.mem_range.mpr (by decide)) (by decide +kernel) ht (Nat.le_of_ble_eq_true rfl) (s_M_end hX _ _ _ _ hf), trivial, h⟩
  · cases h
noncomputable def b_M_see (k0 : Nat) (v1 : Int32) (s : Mem) : Option (Int32 × Mem) :=
  cif ((rI s k0 16) ≤ v1) (
    some ((-1 : Int32), s)) (
    gd (inb v1 (lenM (k0 + 8))) <|
    some (rI s (k0 + 8) (ix v1), s))
noncomputable def f_M_see : Nat → Int32 → Mem → Option (Int32 × Mem) := Classical.choose (⟨b_M_see, rfl⟩ : ∃ f : Nat → Int32 → Mem → Option (Int32 × Mem), f = b_M_see)
theorem f_M_see_eq : f_M_see = b_M_see := Classical.choose_spec (⟨b_M_see, rfl⟩ : ∃ f : Nat → Int32 → Mem → Option (Int32 × Mem), f = b_M_see)
noncomputable def sm_M_see (O : Type) (av : List AV) (σ : Mem) (K : AV → Mem → Option O) : Option O := match av with
  | [.inr (.inr (12, k0)), .inl v1] => (f_M_see k0 v1 σ).bind fun r => K (.inl r.1) r.2
  | _ => none
def c_M_see : List (List CE) := [[(0, .iload_n 1, 1, 0, 0, 0), (1, .aload_n 0, 1, 0, 0, 0), (2, .getfield 90, 3, 12, 16, 0), (5, .if_icmp .ge 12, 3, 17, 0, 0), (8, .aload_n 0, 1, 0, 0, 0), (9, .getfield 31, 3, 12, 9, 0), (12, .iload_n 1, 1, 0, 0, 0), (13, .iaload, 1, 0, 0, 0), (14, .goto 4, 3, 18, 0, 0)], [(17, .iconst (-1), 1, 1, 0, 1), (18, .ireturn, 1, 0, 0, 0)]]
set_option maxRecDepth 100000 in
theorem oc_M_see : okC 241 c_M_see = true := by decide +kernel
def cu_M_see : List (Nat × List Bool) := []
noncomputable def F_M_see (O : Type) (a : Nat) (av : List AV) (σ : Mem) (K : AV → Mem → Option O) : Option O := none
theorem fs_M_see {X : CXT} (hX : XM X) (O : Type) : FS X 1 (F_M_see O) := by
  intro a av σ K o h
  cases h
set_option maxRecDepth 100000 in
theorem s_M_see {X : CXT} (hX : XM X) : ∀ (k0 : Nat) (v1 : Int32) (s : Mem) (o : Int32 × Mem), f_M_see k0 v1 s = some o → BSnd X 1 241 (ovI o) 0 (entL [.inr (.inr (12, k0)), .inl v1]) [] s := by
  intro k0 v1 s o h
  rw [f_M_see_eq] at h
  exact evC (chs := c_M_see) (cuts := cu_M_see) (G := fun pc ls st σ => none) hX.2.1 hX.2.2 (F := F_M_see _) (fs_M_see hX _) (rt_I rfl) oc_M_see (by
    intro pc ls st σ o h
    cases h) 84 0 _ _ _ _ h
theorem ok_M_see {X : CXT} (hX : XM X) : SemOK X 1 241 sm_M_see := by
  intro O av σ K o h
  unfold sm_M_see at h
  split at h
  · obtain ⟨r, hf, h⟩ := Option.bind_eq_some_iff.mp h
    exact ⟨ovI r, fun ht => sp_of hX.1 (by decide) (List.mem_range.mpr (by decide)) (by decide +kernel) ht (Nat.le_of_ble_eq_true rfl) (s_M_see hX _ _ _ _ hf), trivial, h⟩
  · cases h
noncomputable def b_M_isLetter (v0 : Int32) (s : Mem) : Option (Bool × Mem) :=
  (f_M_isIn v0 ((97 : Int32)) ((122 : Int32)) s).bind fun r1 =>
  cif ((b2i r1.1) = 0) (
    (f_M_isIn v0 ((65 : Int32)) ((90 : Int32)) r1.2).bind fun r2 =>
    cif ((b2i r2.1) = 0) (
      some (false, r2.2)) (
      some (true, r2.2))) (
    some (true, r1.2))
noncomputable def f_M_isLetter : Int32 → Mem → Option (Bool × Mem) := Classical.choose (⟨b_M_isLetter, rfl⟩ : ∃ f : Int32 → Mem → Option (Bool × Mem), f = b_M_isLetter)
theorem f_M_isLetter_eq : f_M_isLetter = b_M_isLetter := Classical.choose_spec (⟨b_M_isLetter, rfl⟩ : ∃ f : Int32 → Mem → Option (Bool × Mem), f = b_M_isLetter)
noncomputable def sm_M_isLetter (O : Type) (av : List AV) (σ : Mem) (K : AV → Mem → Option O) : Option O := match av with
  | [.inl v0] => (f_M_isLetter v0 σ).bind fun r => K (.inl (b2i r.1)) r.2
  | _ => none
def c_M_isLetter : List (List CE) := [[(0, .iload_n 0, 1, 0, 0, 0), (1, .bipush 97, 2, 97, 0, 0), (3, .bipush 122, 2, 122, 0, 0), (5, .invokestatic 60, 3, 230, 3, 1), (8, .ifCond .ne 14, 3, 22, 0, 0), (11, .iload_n 0, 1, 0, 0, 0), (12, .bipush 65, 2, 65, 0, 0), (14, .bipush 90, 2, 90, 0, 0)], [(16, .invokestatic 60, 3, 230, 3, 1), (19, .ifCond .eq 7, 3, 26, 0, 0), (22, .iconst 1, 1, 1, 0, 0), (23, .goto 4, 3, 27, 0, 0), (26, .iconst 0, 1, 0, 0, 0), (27, .ireturn, 1, 0, 0, 0)]]
set_option maxRecDepth 100000 in
theorem oc_M_isLetter : okC 242 c_M_isLetter = true := by decide +kernel
def cu_M_isLetter : List (Nat × List Bool) := []
noncomputable def F_M_isLetter (O : Type) (a : Nat) (av : List AV) (σ : Mem) (K : AV → Mem → Option O) : Option O := if a = 230 then sm_M_isIn O av σ K else none
theorem fs_M_isLetter {X : CXT} (hX : XM X) (O : Type) : FS X 2 (F_M_isLetter O) := by
  intro a av σ K o h
  unfold F_M_isLetter at h
  rcases ite_s h with ⟨rfl, h⟩ | ⟨_, h⟩
  · obtain ⟨r, h1, h2, h3⟩ := ok_M_isIn hX _ _ _ _ _ h
    exact ⟨r, fun ht => ⟨1, by decide, h1 ht⟩, h2, h3⟩
  cases h
set_option maxRecDepth 100000 in
theorem s_M_isLetter {X : CXT} (hX : XM X) : ∀ (v0 : Int32) (s : Mem) (o : Bool × Mem), f_M_isLetter v0 s = some o → BSnd X 2 242 (ovZ o) 0 (entL [.inl v0]) [] s := by
  intro v0 s o h
  rw [f_M_isLetter_eq] at h
  exact evC (chs := c_M_isLetter) (cuts := cu_M_isLetter) (G := fun pc ls st σ => none) hX.2.1 hX.2.2 (F := F_M_isLetter _) (fs_M_isLetter hX _) (rt_Z rfl) oc_M_isLetter (by
    intro pc ls st σ o h
    cases h) 96 0 _ _ _ _ h
theorem ok_M_isLetter {X : CXT} (hX : XM X) : SemOK X 2 242 sm_M_isLetter := by
  intro O av σ K o h
  unfold sm_M_isLetter at h
  split at h
  · obtain ⟨r, hf, h⟩ := Option.bind_eq_some_iff.mp h
    exact ⟨ovZ r, fun ht => sp_of hX.1 (by decide) (List.mem_range.mpr (by decide)) (by decide +kernel) ht (Nat.le_of_ble_eq_true rfl) (s_M_isLetter hX _ _ _ hf), trivial, h⟩
  · cases h
noncomputable def f_M_is_24 : Nat → Nat → Nat → Int32 → Int32 → Mem → Option (Bool × Mem)
  | 0, _, _, _, _, _ => none
  | n + 1, k0, k1, v2, v3, s =>
    (f_St_length k1 s).bind fun r1 =>
    cif (r1.1 ≤ v3) (
      lf (rB v2) r1.2) (
      cif (v2 = 0) (
        lf (rB v2) r1.2) (
        gd (inb ((rI r1.2 k0 19) + v3) (lenM (k0 + 8))) <|
        (f_St_charAt k1 v3 r1.2).bind fun r2 =>
        cif ((rI r1.2 (k0 + 8) (ix ((rI r1.2 k0 19) + v3))) = r2.1) (
          f_M_is_24 n k0 k1 ((1 : Int32)) (v3 + (1 : Int32)) r2.2) (
          f_M_is_24 n k0 k1 ((0 : Int32)) (v3 + (1 : Int32)) r2.2)))
noncomputable def b_M_is (k0 : Nat) (k1 : Nat) (s : Mem) : Option (Bool × Mem) :=
  (f_St_length k1 s).bind fun r1 =>
  cif (((rI s k0 17) - (rI s k0 19)) = r1.1) (
    f_M_is_24 FU k0 k1 ((1 : Int32)) ((0 : Int32)) r1.2) (
    f_M_is_24 FU k0 k1 ((0 : Int32)) ((0 : Int32)) r1.2)
noncomputable def f_M_is : Nat → Nat → Mem → Option (Bool × Mem) := Classical.choose (⟨b_M_is, rfl⟩ : ∃ f : Nat → Nat → Mem → Option (Bool × Mem), f = b_M_is)
theorem f_M_is_eq : f_M_is = b_M_is := Classical.choose_spec (⟨b_M_is, rfl⟩ : ∃ f : Nat → Nat → Mem → Option (Bool × Mem), f = b_M_is)
noncomputable def sm_M_is (O : Type) (av : List AV) (σ : Mem) (K : AV → Mem → Option O) : Option O := match av with
  | [.inr (.inr (12, k0)), .inr (.inr (151, k1))] => (f_M_is k0 k1 σ).bind fun r => K (.inl (b2i r.1)) r.2
  | _ => none
def c_M_is : List (List CE) := [[(0, .aload_n 0, 1, 0, 0, 0), (1, .getfield 93, 3, 12, 17, 0), (4, .aload_n 0, 1, 0, 0, 0), (5, .getfield 96, 3, 12, 19, 0), (8, .isub, 1, 0, 0, 0), (9, .aload_n 1, 1, 0, 0, 0), (10, .invokevirtual 99, 3, 84, 1, 303), (13, .if_icmp .ne 7, 3, 20, 0, 0)], [(16, .iconst 1, 1, 1, 0, 0), (17, .goto 4, 3, 21, 0, 0), (20, .iconst 0, 1, 0, 0, 0), (21, .istore_n 2, 1, 0, 0, 0), (22, .iconst 0, 1, 0, 0, 0), (23, .istore_n 3, 1, 0, 0, 0), (24, .iload_n 3, 1, 0, 0, 0), (25, .aload_n 1, 1, 0, 0, 0), (26, .invokevirtual 99, 3, 84, 1, 303), (29, .if_icmp .ge 38, 3, 67, 0, 0)], [(32, .iload_n 2, 1, 0, 0, 0), (33, .ifCond .eq 34, 3, 67, 0, 0), (36, .aload_n 0, 1, 0, 0, 0), (37, .getfield 31, 3, 12, 9, 0), (40, .aload_n 0, 1, 0, 0, 0), (41, .getfield 96, 3, 12, 19, 0), (44, .iload_n 3, 1, 0, 0, 0), (45, .iadd, 1, 0, 0, 0), (46, .iaload, 1, 0, 0, 0), (47, .aload_n 1, 1, 0, 0, 0)], [(48, .iload_n 3, 1, 0, 0, 0), (49, .invokevirtual 105, 3, 86, 2, 303), (52, .if_icmp .ne 7, 3, 59, 0, 0), (55, .iconst 1, 1, 1, 0, 0), (56, .goto 4, 3, 60, 0, 0), (59, .iconst 0, 1, 0, 0, 0), (60, .istore_n 2, 1, 0, 0, 0), (61, .iinc 3 1, 3, 1, 0, 0)], [(64, .goto (-40), 3, 24, 0, 0), (67, .iload_n 2, 1, 0, 0, 0), (68, .ireturn, 1, 0, 0, 0)]]
set_option maxRecDepth 100000 in
theorem oc_M_is : okC 245 c_M_is = true := by decide +kernel
def cu_M_is : List (Nat × List Bool) := [(24, [true, true, true, true])]
noncomputable def F_M_is (O : Type) (a : Nat) (av : List AV) (σ : Mem) (K : AV → Mem → Option O) : Option O := if a = 84 then sm_St_length O av σ K else if a = 86 then sm_St_charAt O av σ K else none
theorem fs_M_is {X : CXT} (hX : XM X) (O : Type) : FS X 5 (F_M_is O) := by
  intro a av σ K o h
  unfold F_M_is at h
  rcases ite_s h with ⟨rfl, h⟩ | ⟨_, h⟩
  · obtain ⟨r, h1, h2, h3⟩ := ok_St_length hX.j _ _ _ _ _ h
    exact ⟨r, fun ht => ⟨2, by decide, h1 ht⟩, h2, h3⟩
  rcases ite_s h with ⟨rfl, h⟩ | ⟨_, h⟩
  · obtain ⟨r, h1, h2, h3⟩ := ok_St_charAt hX.j _ _ _ _ _ h
    exact ⟨r, fun ht => ⟨4, by decide, h1 ht⟩, h2, h3⟩
  cases h
def hd_M_is_24 {O : Type} (g : Nat → Nat → Int32 → Int32 → Mem → Option O) (ls : OL) (st : List AV) (σ : Mem) : Option O := match ls, st with
  | [some (.inr (.inr (12, k0))), some (.inr (.inr (151, k1))), some (.inl v2), some (.inl v3)], [] => g k0 k1 v2 v3 σ
  | _, _ => none
theorem hs_M_is_24 {X : CXT} {g : Nat → Nat → Int32 → Int32 → Mem → Option (Bool × Mem)} (hg : ∀ (k0 : Nat) (k1 : Nat) (v2 : Int32) (v3 : Int32) (s : Mem) (o : Bool × Mem), g k0 k1 v2 v3 s = some o → BSnd X 5 245 (ovZ o) 24 [some (.inr (.inr (12, k0))), some (.inr (.inr (151, k1))), some (.inl v2), some (.inl v3)] [] s) : ∀ ls st σ o, hd_M_is_24 g ls st σ = some o → BSnd X 5 245 (ovZ o) 24 ls st σ := by
  intro ls st σ o h
  unfold hd_M_is_24 at h
  split at h
  · exact hg _ _ _ _ _ _ h
  · cases h
set_option maxRecDepth 100000 in
theorem s_M_is_24 {X : CXT} (hX : XM X) : ∀ n : Nat, ∀ (k0 : Nat) (k1 : Nat) (v2 : Int32) (v3 : Int32) (s : Mem) (o : Bool × Mem), f_M_is_24 n k0 k1 v2 v3 s = some o → BSnd X 5 245 (ovZ o) 24 [some (.inr (.inr (12, k0))), some (.inr (.inr (151, k1))), some (.inl v2), some (.inl v3)] [] s := by
  intro n
  induction n with
  | zero => intro k0 k1 v2 v3 s o h; cases h
  | succ n ih =>
    intro k0 k1 v2 v3 s o h
    exact evC (chs := c_M_is) (cuts := cu_M_is) (G := fun pc ls st σ => if pc = 24 then hd_M_is_24 (fun k0 k1 v2 v3 s => f_M_is_24 n k0 k1 v2 v3 s) ls st σ else none) hX.2.1 hX.2.2 (F := F_M_is _) (fs_M_is hX _) (rt_Z rfl) oc_M_is (by
    intro pc ls st σ o h
    rcases ite_s h with ⟨rfl, h⟩ | ⟨_, h⟩
    · exact hs_M_is_24 ih _ _ _ _ h
    cases h) 196 24 _ _ _ _ h
set_option maxRecDepth 100000 in
theorem s_M_is {X : CXT} (hX : XM X) : ∀ (k0 : Nat) (k1 : Nat) (s : Mem) (o : Bool × Mem), f_M_is k0 k1 s = some o → BSnd X 5 245 (ovZ o) 0 (entL [.inr (.inr (12, k0)), .inr (.inr (151, k1))]) [] s := by
  intro k0 k1 s o h
  rw [f_M_is_eq] at h
  exact evC (chs := c_M_is) (cuts := cu_M_is) (G := fun pc ls st σ => if pc = 24 then hd_M_is_24 (fun k0 k1 v2 v3 s => f_M_is_24 FU k0 k1 v2 v3 s) ls st σ else none) hX.2.1 hX.2.2 (F := F_M_is _) (fs_M_is hX _) (rt_Z rfl) oc_M_is (by
    intro pc ls st σ o h
    rcases ite_s h with ⟨rfl, h⟩ | ⟨_, h⟩
    · exact hs_M_is_24 (s_M_is_24 hX FU) _ _ _ _ h
    cases h) 196 0 _ _ _ _ h
theorem ok_M_is {X : CXT} (hX : XM X) : SemOK X 5 245 sm_M_is := by
  intro O av σ K o h
  unfold sm_M_is at h
  split at h
  · obtain ⟨r, hf, h⟩ := Option.bind_eq_some_iff.mp h
    exact ⟨ovZ r, fun ht => sp_of hX.1 (by decide) (List.mem_range.mpr (by decide)) (by decide +kernel) ht (Nat.le_of_ble_eq_true rfl) (s_M_is hX _ _ _ _ hf), trivial, h⟩
  · cases h
noncomputable def b_M_asked (k0 : Nat) (s : Mem) : Option (Int32 × Mem) :=
  (f_M_is k0 4 s).bind fun r1 =>
  cif ((b2i r1.1) = 0) (
    (f_M_is k0 2 r1.2).bind fun r2 =>
    cif ((b2i r2.1) = 0) (
      (f_M_is k0 9 r2.2).bind fun r3 =>
      cif ((b2i r3.1) = 0) (
        (f_M_is k0 15 r3.2).bind fun r4 =>
        cif ((b2i r4.1) = 0) (
          (f_M_is k0 11 r4.2).bind fun r5 =>
          cif ((b2i r5.1) = 0) (
            (f_M_is k0 8 r5.2).bind fun r6 =>
            cif ((b2i r6.1) = 0) (
              (f_M_is k0 10 r6.2).bind fun r7 =>
              cif ((b2i r7.1) = 0) (
                (f_M_is k0 22 r7.2).bind fun r8 =>
                cif ((b2i r8.1) = 0) (
                  (f_M_is k0 23 r8.2).bind fun r9 =>
                  cif ((b2i r9.1) = 0) (
                    (f_M_is k0 19 r9.2).bind fun r10 =>
                    cif ((b2i r10.1) = 0) (
                      some ((1 : Int32), r10.2)) (
                      some ((50 : Int32), r10.2))) (
                    some ((49 : Int32), r9.2))) (
                  some ((48 : Int32), r8.2))) (
                some ((47 : Int32), r7.2))) (
              some ((46 : Int32), r6.2))) (
            some ((45 : Int32), r5.2))) (
          some ((44 : Int32), r4.2))) (
        some ((43 : Int32), r3.2))) (
      some ((42 : Int32), r2.2))) (
    some ((41 : Int32), r1.2))
noncomputable def f_M_asked : Nat → Mem → Option (Int32 × Mem) := Classical.choose (⟨b_M_asked, rfl⟩ : ∃ f : Nat → Mem → Option (Int32 × Mem), f = b_M_asked)
theorem f_M_asked_eq : f_M_asked = b_M_asked := Classical.choose_spec (⟨b_M_asked, rfl⟩ : ∃ f : Nat → Mem → Option (Int32 × Mem), f = b_M_asked)
noncomputable def sm_M_asked (O : Type) (av : List AV) (σ : Mem) (K : AV → Mem → Option O) : Option O := match av with
  | [.inr (.inr (12, k0))] => (f_M_asked k0 σ).bind fun r => K (.inl r.1) r.2
  | _ => none
def c_M_asked : List (List CE) := [[(0, .aload_n 0, 1, 0, 0, 0), (1, .ldc 109, 2, 4, 0, 1), (3, .invokevirtual 111, 3, 245, 2, 25), (6, .ifCond .eq 6, 3, 12, 0, 0), (9, .bipush 41, 2, 41, 0, 0), (11, .ireturn, 1, 0, 0, 0), (12, .aload_n 0, 1, 0, 0, 0), (13, .ldc 115, 2, 2, 0, 1), (15, .invokevirtual 111, 3, 245, 2, 25)], [(18, .ifCond .eq 6, 3, 24, 0, 0), (21, .bipush 42, 2, 42, 0, 0), (23, .ireturn, 1, 0, 0, 0), (24, .aload_n 0, 1, 0, 0, 0), (25, .ldc 117, 2, 9, 0, 1), (27, .invokevirtual 111, 3, 245, 2, 25), (30, .ifCond .eq 6, 3, 36, 0, 0)], [(33, .bipush 43, 2, 43, 0, 0), (35, .ireturn, 1, 0, 0, 0), (36, .aload_n 0, 1, 0, 0, 0), (37, .ldc 119, 2, 15, 0, 1), (39, .invokevirtual 111, 3, 245, 2, 25), (42, .ifCond .eq 6, 3, 48, 0, 0), (45, .bipush 44, 2, 44, 0, 0), (47, .ireturn, 1, 0, 0, 0)], [(48, .aload_n 0, 1, 0, 0, 0), (49, .ldc 121, 2, 11, 0, 1), (51, .invokevirtual 111, 3, 245, 2, 25), (54, .ifCond .eq 6, 3, 60, 0, 0), (57, .bipush 45, 2, 45, 0, 0), (59, .ireturn, 1, 0, 0, 0), (60, .aload_n 0, 1, 0, 0, 0), (61, .ldc 123, 2, 8, 0, 1), (63, .invokevirtual 111, 3, 245, 2, 25)], [(66, .ifCond .eq 6, 3, 72, 0, 0), (69, .bipush 46, 2, 46, 0, 0), (71, .ireturn, 1, 0, 0, 0), (72, .aload_n 0, 1, 0, 0, 0), (73, .ldc 125, 2, 10, 0, 1), (75, .invokevirtual 111, 3, 245, 2, 25), (78, .ifCond .eq 6, 3, 84, 0, 0)], [(81, .bipush 47, 2, 47, 0, 0), (83, .ireturn, 1, 0, 0, 0), (84, .aload_n 0, 1, 0, 0, 0), (85, .ldc 127, 2, 22, 0, 1), (87, .invokevirtual 111, 3, 245, 2, 25), (90, .ifCond .eq 6, 3, 96, 0, 0), (93, .bipush 48, 2, 48, 0, 0), (95, .ireturn, 1, 0, 0, 0)], [(96, .aload_n 0, 1, 0, 0, 0), (97, .ldc 129, 2, 23, 0, 1), (99, .invokevirtual 111, 3, 245, 2, 25), (102, .ifCond .eq 6, 3, 108, 0, 0), (105, .bipush 49, 2, 49, 0, 0), (107, .ireturn, 1, 0, 0, 0), (108, .aload_n 0, 1, 0, 0, 0), (109, .ldc 131, 2, 19, 0, 1), (111, .invokevirtual 111, 3, 245, 2, 25)], [(114, .ifCond .eq 8, 3, 122, 0, 0), (117, .bipush 50, 2, 50, 0, 0), (119, .goto 4, 3, 123, 0, 0), (122, .iconst 1, 1, 1, 0, 0), (123, .ireturn, 1, 0, 0, 0)]]
set_option maxRecDepth 100000 in
theorem oc_M_asked : okC 246 c_M_asked = true := by decide +kernel
def cu_M_asked : List (Nat × List Bool) := []
noncomputable def F_M_asked (O : Type) (a : Nat) (av : List AV) (σ : Mem) (K : AV → Mem → Option O) : Option O := if a = 245 then sm_M_is O av σ K else none
theorem fs_M_asked {X : CXT} (hX : XM X) (O : Type) : FS X 6 (F_M_asked O) := by
  intro a av σ K o h
  unfold F_M_asked at h
  rcases ite_s h with ⟨rfl, h⟩ | ⟨_, h⟩
  · obtain ⟨r, h1, h2, h3⟩ := ok_M_is hX _ _ _ _ _ h
    exact ⟨r, fun ht => ⟨5, by decide, h1 ht⟩, h2, h3⟩
  cases h
set_option maxRecDepth 100000 in
theorem s_M_asked {X : CXT} (hX : XM X) : ∀ (k0 : Nat) (s : Mem) (o : Int32 × Mem), f_M_asked k0 s = some o → BSnd X 6 246 (ovI o) 0 (entL [.inr (.inr (12, k0))]) [] s := by
  intro k0 s o h
  rw [f_M_asked_eq] at h
  exact evC (chs := c_M_asked) (cuts := cu_M_asked) (G := fun pc ls st σ => none) hX.2.1 hX.2.2 (F := F_M_asked _) (fs_M_asked hX _) (rt_I rfl) oc_M_asked (by
    intro pc ls st σ o h
    cases h) 288 0 _ _ _ _ h
theorem ok_M_asked {X : CXT} (hX : XM X) : SemOK X 6 246 sm_M_asked := by
  intro O av σ K o h
  unfold sm_M_asked at h
  split at h
  · obtain ⟨r, hf, h⟩ := Option.bind_eq_some_iff.mp h
    exact ⟨ovI r, fun ht => sp_of hX.1 (by decide) (List.mem_range.mpr (by decide)) (by decide +kernel) ht (Nat.le_of_ble_eq_true rfl) (s_M_asked hX _ _ _ hf), trivial, h⟩
  · cases h
noncomputable def b_M_lawWord (k0 : Nat) (s : Mem) : Option (Int32 × Mem) :=
  (f_M_is k0 21 s).bind fun r1 =>
  cif ((b2i r1.1) = 0) (
    (f_M_is k0 14 r1.2).bind fun r2 =>
    cif ((b2i r2.1) = 0) (
      (f_M_is k0 1 r2.2).bind fun r3 =>
      cif ((b2i r3.1) = 0) (
        (f_M_is k0 12 r3.2).bind fun r4 =>
        cif ((b2i r4.1) = 0) (
          (f_M_is k0 16 r4.2).bind fun r5 =>
          cif ((b2i r5.1) = 0) (
            (f_M_is k0 20 r5.2).bind fun r6 =>
            cif ((b2i r6.1) = 0) (
              (f_M_is k0 18 r6.2).bind fun r7 =>
              cif ((b2i r7.1) = 0) (
                (f_M_asked k0 r7.2).bind fun r8 =>
                some (r8.1, r8.2)) (
                some ((22 : Int32), r7.2))) (
              some ((21 : Int32), r6.2))) (
            some ((20 : Int32), r5.2))) (
          some ((6 : Int32), r4.2))) (
        some ((5 : Int32), r3.2))) (
      some ((4 : Int32), r2.2))) (
    some ((3 : Int32), r1.2))
noncomputable def f_M_lawWord : Nat → Mem → Option (Int32 × Mem) := Classical.choose (⟨b_M_lawWord, rfl⟩ : ∃ f : Nat → Mem → Option (Int32 × Mem), f = b_M_lawWord)
theorem f_M_lawWord_eq : f_M_lawWord = b_M_lawWord := Classical.choose_spec (⟨b_M_lawWord, rfl⟩ : ∃ f : Nat → Mem → Option (Int32 × Mem), f = b_M_lawWord)
noncomputable def sm_M_lawWord (O : Type) (av : List AV) (σ : Mem) (K : AV → Mem → Option O) : Option O := match av with
  | [.inr (.inr (12, k0))] => (f_M_lawWord k0 σ).bind fun r => K (.inl r.1) r.2
  | _ => none
def c_M_lawWord : List (List CE) := [[(0, .aload_n 0, 1, 0, 0, 0), (1, .ldc 133, 2, 21, 0, 1), (3, .invokevirtual 111, 3, 245, 2, 25), (6, .ifCond .eq 5, 3, 11, 0, 0), (9, .iconst 3, 1, 3, 0, 0), (10, .ireturn, 1, 0, 0, 0), (11, .aload_n 0, 1, 0, 0, 0), (12, .ldc 135, 2, 14, 0, 1), (14, .invokevirtual 111, 3, 245, 2, 25)], [(17, .ifCond .eq 5, 3, 22, 0, 0), (20, .iconst 4, 1, 4, 0, 0), (21, .ireturn, 1, 0, 0, 0), (22, .aload_n 0, 1, 0, 0, 0), (23, .ldc 137, 2, 1, 0, 1), (25, .invokevirtual 111, 3, 245, 2, 25), (28, .ifCond .eq 5, 3, 33, 0, 0), (31, .iconst 5, 1, 5, 0, 0)], [(32, .ireturn, 1, 0, 0, 0), (33, .aload_n 0, 1, 0, 0, 0), (34, .ldc 139, 2, 12, 0, 1), (36, .invokevirtual 111, 3, 245, 2, 25), (39, .ifCond .eq 6, 3, 45, 0, 0), (42, .bipush 6, 2, 6, 0, 0), (44, .ireturn, 1, 0, 0, 0), (45, .aload_n 0, 1, 0, 0, 0), (46, .ldc 141, 2, 16, 0, 1)], [(48, .invokevirtual 111, 3, 245, 2, 25), (51, .ifCond .eq 6, 3, 57, 0, 0), (54, .bipush 20, 2, 20, 0, 0), (56, .ireturn, 1, 0, 0, 0), (57, .aload_n 0, 1, 0, 0, 0), (58, .ldc 143, 2, 20, 0, 1), (60, .invokevirtual 111, 3, 245, 2, 25), (63, .ifCond .eq 6, 3, 69, 0, 0)], [(66, .bipush 21, 2, 21, 0, 0), (68, .ireturn, 1, 0, 0, 0), (69, .aload_n 0, 1, 0, 0, 0), (70, .ldc 145, 2, 18, 0, 1), (72, .invokevirtual 111, 3, 245, 2, 25), (75, .ifCond .eq 8, 3, 83, 0, 0), (78, .bipush 22, 2, 22, 0, 0)], [(80, .goto 7, 3, 87, 0, 0), (83, .aload_n 0, 1, 0, 0, 0), (84, .invokevirtual 147, 3, 246, 1, 25), (87, .ireturn, 1, 0, 0, 0)]]
set_option maxRecDepth 100000 in
theorem oc_M_lawWord : okC 244 c_M_lawWord = true := by decide +kernel
def cu_M_lawWord : List (Nat × List Bool) := []
noncomputable def F_M_lawWord (O : Type) (a : Nat) (av : List AV) (σ : Mem) (K : AV → Mem → Option O) : Option O := if a = 245 then sm_M_is O av σ K else if a = 246 then sm_M_asked O av σ K else none
theorem fs_M_lawWord {X : CXT} (hX : XM X) (O : Type) : FS X 7 (F_M_lawWord O) := by
  intro a av σ K o h
  unfold F_M_lawWord at h
  rcases ite_s h with ⟨rfl, h⟩ | ⟨_, h⟩
  · obtain ⟨r, h1, h2, h3⟩ := ok_M_is hX _ _ _ _ _ h
    exact ⟨r, fun ht => ⟨5, by decide, h1 ht⟩, h2, h3⟩
  rcases ite_s h with ⟨rfl, h⟩ | ⟨_, h⟩
  · obtain ⟨r, h1, h2, h3⟩ := ok_M_asked hX _ _ _ _ _ h
    exact ⟨r, fun ht => ⟨6, by decide, h1 ht⟩, h2, h3⟩
  cases h
set_option maxRecDepth 100000 in
theorem s_M_lawWord {X : CXT} (hX : XM X) : ∀ (k0 : Nat) (s : Mem) (o : Int32 × Mem), f_M_lawWord k0 s = some o → BSnd X 7 244 (ovI o) 0 (entL [.inr (.inr (12, k0))]) [] s := by
  intro k0 s o h
  rw [f_M_lawWord_eq] at h
  exact evC (chs := c_M_lawWord) (cuts := cu_M_lawWord) (G := fun pc ls st σ => none) hX.2.1 hX.2.2 (F := F_M_lawWord _) (fs_M_lawWord hX _) (rt_I rfl) oc_M_lawWord (by
    intro pc ls st σ o h
    cases h) 220 0 _ _ _ _ h
theorem ok_M_lawWord {X : CXT} (hX : XM X) : SemOK X 7 244 sm_M_lawWord := by
  intro O av σ K o h
  unfold sm_M_lawWord at h
  split at h
  · obtain ⟨r, hf, h⟩ := Option.bind_eq_some_iff.mp h
    exact ⟨ovI r, fun ht => sp_of hX.1 (by decide) (List.mem_range.mpr (by decide)) (by decide +kernel) ht (Nat.le_of_ble_eq_true rfl) (s_M_lawWord hX _ _ _ hf), trivial, h⟩
  · cases h
noncomputable def b_M_word (k0 : Nat) (s : Mem) : Option (Int32 × Mem) :=
  cif ((rI s k0 12) = (0 : Int32)) (
    (f_M_lawWord k0 s).bind fun r1 =>
    some (r1.1, r1.2)) (
    cif ((rI s k0 12) = (1 : Int32)) (
      (f_M_is k0 5 s).bind fun r2 =>
      cif ((b2i r2.1) = 0) (
        (f_M_is k0 4 r2.2).bind fun r3 =>
        cif ((b2i r3.1) = 0) (
          (f_M_is k0 2 r3.2).bind fun r4 =>
          cif ((b2i r4.1) = 0) (
            some ((1 : Int32), r4.2)) (
            some ((9 : Int32), r4.2))) (
          some ((8 : Int32), r3.2))) (
        some ((7 : Int32), r2.2))) (
      cif ((rI s k0 12) = (2 : Int32)) (
        (f_M_is k0 6 s).bind fun r5 =>
        cif ((b2i r5.1) = 0) (
          (f_M_is k0 3 r5.2).bind fun r6 =>
          cif ((b2i r6.1) = 0) (
            (f_M_is k0 7 r6.2).bind fun r7 =>
            cif ((b2i r7.1) = 0) (
              some ((1 : Int32), r7.2)) (
              some ((12 : Int32), r7.2))) (
            some ((11 : Int32), r6.2))) (
          some ((10 : Int32), r5.2))) (
        (f_M_is k0 13 s).bind fun r8 =>
        cif ((b2i r8.1) = 0) (
          some ((1 : Int32), r8.2)) (
          some ((13 : Int32), r8.2)))))
noncomputable def f_M_word : Nat → Mem → Option (Int32 × Mem) := Classical.choose (⟨b_M_word, rfl⟩ : ∃ f : Nat → Mem → Option (Int32 × Mem), f = b_M_word)
theorem f_M_word_eq : f_M_word = b_M_word := Classical.choose_spec (⟨b_M_word, rfl⟩ : ∃ f : Nat → Mem → Option (Int32 × Mem), f = b_M_word)
noncomputable def sm_M_word (O : Type) (av : List AV) (σ : Mem) (K : AV → Mem → Option O) : Option O := match av with
  | [.inr (.inr (12, k0))] => (f_M_word k0 σ).bind fun r => K (.inl r.1) r.2
  | _ => none
def c_M_word : List (List CE) := [[(0, .aload_n 0, 1, 0, 0, 0), (1, .getfield 150, 3, 12, 12, 0), (4, .tableswitch 121 0 2 #[28, 33, 77], 28, 0, 0, 0)], [], [(32, .aload_n 0, 1, 0, 0, 0), (33, .invokevirtual 153, 3, 244, 1, 25), (36, .ireturn, 1, 0, 0, 0), (37, .aload_n 0, 1, 0, 0, 0), (38, .ldc 156, 2, 5, 0, 1), (40, .invokevirtual 111, 3, 245, 2, 25), (43, .ifCond .eq 8, 3, 51, 0, 0), (46, .bipush 7, 2, 7, 0, 0)], [(48, .goto 32, 3, 80, 0, 0), (51, .aload_n 0, 1, 0, 0, 0), (52, .ldc 109, 2, 4, 0, 1), (54, .invokevirtual 111, 3, 245, 2, 25), (57, .ifCond .eq 8, 3, 65, 0, 0), (60, .bipush 8, 2, 8, 0, 0), (62, .goto 18, 3, 80, 0, 0)], [(65, .aload_n 0, 1, 0, 0, 0), (66, .ldc 115, 2, 2, 0, 1), (68, .invokevirtual 111, 3, 245, 2, 25), (71, .ifCond .eq 8, 3, 79, 0, 0), (74, .bipush 9, 2, 9, 0, 0), (76, .goto 4, 3, 80, 0, 0), (79, .iconst 1, 1, 1, 0, 0)], [(80, .ireturn, 1, 0, 0, 0), (81, .aload_n 0, 1, 0, 0, 0), (82, .ldc 158, 2, 6, 0, 1), (84, .invokevirtual 111, 3, 245, 2, 25), (87, .ifCond .eq 8, 3, 95, 0, 0), (90, .bipush 10, 2, 10, 0, 0), (92, .goto 32, 3, 124, 0, 0), (95, .aload_n 0, 1, 0, 0, 0)], [(96, .ldc 160, 2, 3, 0, 1), (98, .invokevirtual 111, 3, 245, 2, 25), (101, .ifCond .eq 8, 3, 109, 0, 0), (104, .bipush 11, 2, 11, 0, 0), (106, .goto 18, 3, 124, 0, 0), (109, .aload_n 0, 1, 0, 0, 0), (110, .ldc 162, 2, 7, 0, 1)], [(112, .invokevirtual 111, 3, 245, 2, 25), (115, .ifCond .eq 8, 3, 123, 0, 0), (118, .bipush 12, 2, 12, 0, 0), (120, .goto 4, 3, 124, 0, 0), (123, .iconst 1, 1, 1, 0, 0), (124, .ireturn, 1, 0, 0, 0), (125, .aload_n 0, 1, 0, 0, 0), (126, .ldc 164, 2, 13, 0, 1)], [(128, .invokevirtual 111, 3, 245, 2, 25), (131, .ifCond .eq 8, 3, 139, 0, 0), (134, .bipush 13, 2, 13, 0, 0), (136, .goto 4, 3, 140, 0, 0), (139, .iconst 1, 1, 1, 0, 0), (140, .ireturn, 1, 0, 0, 0)]]
set_option maxRecDepth 100000 in
theorem oc_M_word : okC 243 c_M_word = true := by decide +kernel
def cu_M_word : List (Nat × List Bool) := []
noncomputable def F_M_word (O : Type) (a : Nat) (av : List AV) (σ : Mem) (K : AV → Mem → Option O) : Option O := if a = 244 then sm_M_lawWord O av σ K else if a = 245 then sm_M_is O av σ K else none
theorem fs_M_word {X : CXT} (hX : XM X) (O : Type) : FS X 8 (F_M_word O) := by
  intro a av σ K o h
  unfold F_M_word at h
  rcases ite_s h with ⟨rfl, h⟩ | ⟨_, h⟩
  · obtain ⟨r, h1, h2, h3⟩ := ok_M_lawWord hX _ _ _ _ _ h
    exact ⟨r, fun ht => ⟨7, by decide, h1 ht⟩, h2, h3⟩
  rcases ite_s h with ⟨rfl, h⟩ | ⟨_, h⟩
  · obtain ⟨r, h1, h2, h3⟩ := ok_M_is hX _ _ _ _ _ h
    exact ⟨r, fun ht => ⟨5, by decide, h1 ht⟩, h2, h3⟩
  cases h
set_option maxRecDepth 100000 in
theorem s_M_word {X : CXT} (hX : XM X) : ∀ (k0 : Nat) (s : Mem) (o : Int32 × Mem), f_M_word k0 s = some o → BSnd X 8 243 (ovI o) 0 (entL [.inr (.inr (12, k0))]) [] s := by
  intro k0 s o h
  rw [f_M_word_eq] at h
  exact evC (chs := c_M_word) (cuts := cu_M_word) (G := fun pc ls st σ => none) hX.2.1 hX.2.2 (F := F_M_word _) (fs_M_word hX _) (rt_I rfl) oc_M_word (by
    intro pc ls st σ o h
    cases h) 256 0 _ _ _ _ h
theorem ok_M_word {X : CXT} (hX : XM X) : SemOK X 8 243 sm_M_word := by
  intro O av σ K o h
  unfold sm_M_word at h
  split at h
  · obtain ⟨r, hf, h⟩ := Option.bind_eq_some_iff.mp h
    exact ⟨ovI r, fun ht => sp_of hX.1 (by decide) (List.mem_range.mpr (by decide)) (by decide +kernel) ht (Nat.le_of_ble_eq_true rfl) (s_M_word hX _ _ _ hf), trivial, h⟩
  · cases h
noncomputable def b_M_isDigit (v0 : Int32) (s : Mem) : Option (Bool × Mem) :=
  (f_M_isIn v0 ((48 : Int32)) ((57 : Int32)) s).bind fun r1 =>
  lf (rB (b2i r1.1)) r1.2
noncomputable def f_M_isDigit : Int32 → Mem → Option (Bool × Mem) := Classical.choose (⟨b_M_isDigit, rfl⟩ : ∃ f : Int32 → Mem → Option (Bool × Mem), f = b_M_isDigit)
theorem f_M_isDigit_eq : f_M_isDigit = b_M_isDigit := Classical.choose_spec (⟨b_M_isDigit, rfl⟩ : ∃ f : Int32 → Mem → Option (Bool × Mem), f = b_M_isDigit)
noncomputable def sm_M_isDigit (O : Type) (av : List AV) (σ : Mem) (K : AV → Mem → Option O) : Option O := match av with
  | [.inl v0] => (f_M_isDigit v0 σ).bind fun r => K (.inl (b2i r.1)) r.2
  | _ => none
def c_M_isDigit : List (List CE) := [[(0, .iload_n 0, 1, 0, 0, 0), (1, .bipush 48, 2, 48, 0, 0), (3, .bipush 57, 2, 57, 0, 0), (5, .invokestatic 60, 3, 230, 3, 1), (8, .ireturn, 1, 0, 0, 0)]]
set_option maxRecDepth 100000 in
theorem oc_M_isDigit : okC 247 c_M_isDigit = true := by decide +kernel
def cu_M_isDigit : List (Nat × List Bool) := []
noncomputable def F_M_isDigit (O : Type) (a : Nat) (av : List AV) (σ : Mem) (K : AV → Mem → Option O) : Option O := if a = 230 then sm_M_isIn O av σ K else none
theorem fs_M_isDigit {X : CXT} (hX : XM X) (O : Type) : FS X 2 (F_M_isDigit O) := by
  intro a av σ K o h
  unfold F_M_isDigit at h
  rcases ite_s h with ⟨rfl, h⟩ | ⟨_, h⟩
  · obtain ⟨r, h1, h2, h3⟩ := ok_M_isIn hX _ _ _ _ _ h
    exact ⟨r, fun ht => ⟨1, by decide, h1 ht⟩, h2, h3⟩
  cases h
set_option maxRecDepth 100000 in
theorem s_M_isDigit {X : CXT} (hX : XM X) : ∀ (v0 : Int32) (s : Mem) (o : Bool × Mem), f_M_isDigit v0 s = some o → BSnd X 2 247 (ovZ o) 0 (entL [.inl v0]) [] s := by
  intro v0 s o h
  rw [f_M_isDigit_eq] at h
  exact evC (chs := c_M_isDigit) (cuts := cu_M_isDigit) (G := fun pc ls st σ => none) hX.2.1 hX.2.2 (F := F_M_isDigit _) (fs_M_isDigit hX _) (rt_Z rfl) oc_M_isDigit (by
    intro pc ls st σ o h
    cases h) 60 0 _ _ _ _ h
theorem ok_M_isDigit {X : CXT} (hX : XM X) : SemOK X 2 247 sm_M_isDigit := by
  intro O av σ K o h
  unfold sm_M_isDigit at h
  split at h
  · obtain ⟨r, hf, h⟩ := Option.bind_eq_some_iff.mp h
    exact ⟨ovZ r, fun ht => sp_of hX.1 (by decide) (List.mem_range.mpr (by decide)) (by decide +kernel) ht (Nat.le_of_ble_eq_true rfl) (s_M_isDigit hX _ _ _ hf), trivial, h⟩
  · cases h
noncomputable def f_M_next0_0 (K39 : Nat → Mem → Option (Mem)) : Nat → Nat → Mem → Option (Mem)
  | 0, _, _ => none
  | n + 1, k0, s =>
    (f_M_see k0 (rI s k0 17) s).bind fun r1 =>
    cif (r1.1 = ((32 : Int32))) (
      let s2 : Mem := wI r1.2 k0 17 ((rI r1.2 k0 17) + ((1 : Int32)))
      f_M_next0_0 K39 n k0 s2) (
      (f_M_see k0 (rI r1.2 k0 17) r1.2).bind fun r3 =>
      cif (r3.1 = ((10 : Int32))) (
        let s4 : Mem := wI r3.2 k0 17 ((rI r3.2 k0 17) + ((1 : Int32)))
        f_M_next0_0 K39 n k0 s4) (
        K39 k0 r3.2))
noncomputable def f_M_next0_76 : Nat → Nat → Mem → Option (Mem)
  | 0, _, _ => none
  | n + 1, k0, s =>
    (f_M_see k0 (rI s k0 17) s).bind fun r1 =>
    (f_M_isLetter r1.1 r1.2).bind fun r2 =>
    cif ((b2i r2.1) = 0) (
      (f_M_word k0 r2.2).bind fun r3 =>
      let s4 : Mem := wI r3.2 k0 18 r3.1
      some s4) (
      let s5 : Mem := wI r2.2 k0 17 ((rI r2.2 k0 17) + ((1 : Int32)))
      f_M_next0_76 n k0 s5)
noncomputable def f_M_next0_126 (K189 : Nat → Mem → Option (Mem)) : Nat → Nat → Mem → Option (Mem)
  | 0, _, _ => none
  | n + 1, k0, s =>
    (f_M_see k0 (rI s k0 17) s).bind fun r1 =>
    (f_M_isDigit r1.1 r1.2).bind fun r2 =>
    cif ((b2i r2.1) = 0) (
      K189 k0 r2.2) (
      cif (((rI r2.2 k0 19) + ((4 : Int32))) ≤ (rI r2.2 k0 17)) (
        let s3 : Mem := wI r2.2 k0 17 ((rI r2.2 k0 17) + ((1 : Int32)))
        f_M_next0_126 K189 n k0 s3) (
        (f_M_see k0 (rI r2.2 k0 17) r2.2).bind fun r4 =>
        let s5 : Mem := wI r4.2 k0 20 (((((10 : Int32)) * (rI r2.2 k0 20)) + r4.1) - ((48 : Int32)))
        let s6 : Mem := wI s5 k0 17 ((rI s5 k0 17) + ((1 : Int32)))
        f_M_next0_126 K189 n k0 s6))
noncomputable def f_M_next0_189 (k0 : Nat) (s : Mem) : Option (Mem) :=
  cif (((5 : Int32)) ≤ ((rI s k0 17) - (rI s k0 19))) (
    let s1 : Mem := wI s k0 18 ((1 : Int32))
    some s1) (
    let s2 : Mem := wI s k0 18 ((2 : Int32))
    some s2)
noncomputable def f_M_next0_284 (k0 : Nat) (v1 : Int32) (s : Mem) : Option (Mem) :=
  cif (((1 : Int32)) = 0) (
    let s1 : Mem := wI s k0 18 ((1 : Int32))
    some s1) (
    let s2 : Mem := wI s k0 18 (((100 : Int32)) + v1)
    some s2)
noncomputable def f_M_next0_39 (k0 : Nat) (s : Mem) : Option (Mem) :=
  let s1 : Mem := wI s k0 19 (rI s k0 17)
  (f_M_see k0 (rI s1 k0 17) s1).bind fun r2 =>
  cif (r2.1 = ((-1 : Int32))) (
    let s3 : Mem := wI r2.2 k0 18 ((0 : Int32))
    some s3) (
    (f_M_isLetter r2.1 r2.2).bind fun r4 =>
    cif ((b2i r4.1) = 0) (
      (f_M_isDigit r2.1 r4.2).bind fun r5 =>
      cif ((b2i r5.1) = 0) (
        let s6 : Mem := wI r5.2 k0 17 ((rI r5.2 k0 17) + ((1 : Int32)))
        cif (r2.1 = ((59 : Int32))) (
          f_M_next0_284 k0 r2.1 s6) (
          cif (r2.1 = ((43 : Int32))) (
            f_M_next0_284 k0 r2.1 s6) (
            cif (r2.1 = ((45 : Int32))) (
              f_M_next0_284 k0 r2.1 s6) (
              cif (r2.1 = ((42 : Int32))) (
                f_M_next0_284 k0 r2.1 s6) (
                cif (r2.1 = ((47 : Int32))) (
                  f_M_next0_284 k0 r2.1 s6) (
                  cif (r2.1 = ((40 : Int32))) (
                    f_M_next0_284 k0 r2.1 s6) (
                    cif (r2.1 = ((41 : Int32))) (
                      f_M_next0_284 k0 r2.1 s6) (
                      cif (r2.1 = ((60 : Int32))) (
                        f_M_next0_284 k0 r2.1 s6) (
                        cif (r2.1 = ((61 : Int32))) (
                          f_M_next0_284 k0 r2.1 s6) (
                          cif (r2.1 = ((62 : Int32))) (
                            f_M_next0_284 k0 r2.1 s6) (
                            cif (((0 : Int32)) = 0) (
                              let s7 : Mem := wI s6 k0 18 ((1 : Int32))
                              some s7) (
                              let s8 : Mem := wI s6 k0 18 (((100 : Int32)) + r2.1)
                              some s8)))))))))))) (
        let s9 : Mem := wI r5.2 k0 20 ((0 : Int32))
        f_M_next0_126 (fun k0 s => f_M_next0_189 k0 s) FU k0 s9)) (
      f_M_next0_76 FU k0 r4.2))
noncomputable def b_M_next0 (k0 : Nat) (s : Mem) : Option (Mem) :=
  (f_M_see k0 (rI s k0 17) s).bind fun r1 =>
  cif (r1.1 = ((32 : Int32))) (
    let s2 : Mem := wI r1.2 k0 17 ((rI r1.2 k0 17) + ((1 : Int32)))
    f_M_next0_0 (fun k0 s => f_M_next0_39 k0 s) FU k0 s2) (
    (f_M_see k0 (rI r1.2 k0 17) r1.2).bind fun r3 =>
    cif (r3.1 = ((10 : Int32))) (
      let s4 : Mem := wI r3.2 k0 17 ((rI r3.2 k0 17) + ((1 : Int32)))
      f_M_next0_0 (fun k0 s => f_M_next0_39 k0 s) FU k0 s4) (
      f_M_next0_39 k0 r3.2))
noncomputable def f_M_next0 : Nat → Mem → Option (Mem) := Classical.choose (⟨b_M_next0, rfl⟩ : ∃ f : Nat → Mem → Option (Mem), f = b_M_next0)
theorem f_M_next0_eq : f_M_next0 = b_M_next0 := Classical.choose_spec (⟨b_M_next0, rfl⟩ : ∃ f : Nat → Mem → Option (Mem), f = b_M_next0)
noncomputable def sm_M_next0 (O : Type) (av : List AV) (σ : Mem) (K : AV → Mem → Option O) : Option O := match av with
  | [.inr (.inr (12, k0))] => (f_M_next0 k0 σ).bind fun r => K (.inl 0) r
  | _ => none
def c_M_next0 : List (List CE) := [[(0, .aload_n 0, 1, 0, 0, 0), (1, .aload_n 0, 1, 0, 0, 0), (2, .getfield 93, 3, 12, 17, 0), (5, .invokevirtual 166, 3, 241, 2, 25), (8, .bipush 32, 2, 32, 0, 0), (10, .if_icmp .eq 16, 3, 26, 0, 0), (13, .aload_n 0, 1, 0, 0, 0), (14, .aload_n 0, 1, 0, 0, 0), (15, .getfield 93, 3, 12, 17, 0)], [(18, .invokevirtual 166, 3, 241, 2, 25), (21, .bipush 10, 2, 10, 0, 0), (23, .if_icmp .ne 16, 3, 39, 0, 0), (26, .aload_n 0, 1, 0, 0, 0), (27, .dup, 1, 0, 0, 0), (28, .getfield 93, 3, 12, 17, 0), (31, .iconst 1, 1, 1, 0, 0)], [(32, .iadd, 1, 0, 0, 0), (33, .putfield 93, 3, 12, 17, 0), (36, .goto (-36), 3, 0, 0, 0), (39, .aload_n 0, 1, 0, 0, 0), (40, .aload_n 0, 1, 0, 0, 0), (41, .getfield 93, 3, 12, 17, 0), (44, .putfield 96, 3, 12, 19, 0), (47, .aload_n 0, 1, 0, 0, 0)], [(48, .aload_n 0, 1, 0, 0, 0), (49, .getfield 93, 3, 12, 17, 0), (52, .invokevirtual 166, 3, 241, 2, 25), (55, .istore_n 1, 1, 0, 0, 0), (56, .iload_n 1, 1, 0, 0, 0), (57, .iconst (-1), 1, 1, 0, 1), (58, .if_icmp .ne 11, 3, 69, 0, 0), (61, .aload_n 0, 1, 0, 0, 0), (62, .iconst 0, 1, 0, 0, 0), (63, .putfield 170, 3, 12, 18, 0)], [(66, .goto 240, 3, 306, 0, 0), (69, .iload_n 1, 1, 0, 0, 0), (70, .invokestatic 173, 3, 242, 1, 1), (73, .ifCond .eq 41, 3, 114, 0, 0), (76, .aload_n 0, 1, 0, 0, 0), (77, .aload_n 0, 1, 0, 0, 0), (78, .getfield 93, 3, 12, 17, 0)], [(81, .invokevirtual 166, 3, 241, 2, 25), (84, .invokestatic 173, 3, 242, 1, 1), (87, .ifCond .eq 16, 3, 103, 0, 0), (90, .aload_n 0, 1, 0, 0, 0), (91, .dup, 1, 0, 0, 0), (92, .getfield 93, 3, 12, 17, 0), (95, .iconst 1, 1, 1, 0, 0)], [(96, .iadd, 1, 0, 0, 0), (97, .putfield 93, 3, 12, 17, 0), (100, .goto (-24), 3, 76, 0, 0), (103, .aload_n 0, 1, 0, 0, 0), (104, .aload_n 0, 1, 0, 0, 0), (105, .invokevirtual 176, 3, 243, 1, 25), (108, .putfield 170, 3, 12, 18, 0), (111, .goto 195, 3, 306, 0, 0)], [(114, .iload_n 1, 1, 0, 0, 0), (115, .invokestatic 179, 3, 247, 1, 1), (118, .ifCond .eq 96, 3, 214, 0, 0), (121, .aload_n 0, 1, 0, 0, 0), (122, .iconst 0, 1, 0, 0, 0), (123, .putfield 182, 3, 12, 20, 0), (126, .aload_n 0, 1, 0, 0, 0), (127, .aload_n 0, 1, 0, 0, 0)], [(128, .getfield 93, 3, 12, 17, 0), (131, .invokevirtual 166, 3, 241, 2, 25), (134, .invokestatic 179, 3, 247, 1, 1), (137, .ifCond .eq 52, 3, 189, 0, 0), (140, .aload_n 0, 1, 0, 0, 0), (141, .getfield 93, 3, 12, 17, 0)], [(144, .aload_n 0, 1, 0, 0, 0), (145, .getfield 96, 3, 12, 19, 0), (148, .iconst 4, 1, 4, 0, 0), (149, .iadd, 1, 0, 0, 0), (150, .if_icmp .ge 26, 3, 176, 0, 0), (153, .aload_n 0, 1, 0, 0, 0), (154, .bipush 10, 2, 10, 0, 0), (156, .aload_n 0, 1, 0, 0, 0), (157, .getfield 182, 3, 12, 20, 0)], [(160, .imul, 1, 0, 0, 0), (161, .aload_n 0, 1, 0, 0, 0), (162, .aload_n 0, 1, 0, 0, 0), (163, .getfield 93, 3, 12, 17, 0), (166, .invokevirtual 166, 3, 241, 2, 25), (169, .iadd, 1, 0, 0, 0), (170, .bipush 48, 2, 48, 0, 0), (172, .isub, 1, 0, 0, 0), (173, .putfield 182, 3, 12, 20, 0)], [(176, .aload_n 0, 1, 0, 0, 0), (177, .dup, 1, 0, 0, 0), (178, .getfield 93, 3, 12, 17, 0), (181, .iconst 1, 1, 1, 0, 0), (182, .iadd, 1, 0, 0, 0), (183, .putfield 93, 3, 12, 17, 0), (186, .goto (-60), 3, 126, 0, 0), (189, .aload_n 0, 1, 0, 0, 0), (190, .aload_n 0, 1, 0, 0, 0), (191, .getfield 93, 3, 12, 17, 0)], [(194, .aload_n 0, 1, 0, 0, 0), (195, .getfield 96, 3, 12, 19, 0), (198, .isub, 1, 0, 0, 0), (199, .iconst 5, 1, 5, 0, 0), (200, .if_icmp .ge 7, 3, 207, 0, 0), (203, .iconst 2, 1, 2, 0, 0), (204, .goto 4, 3, 208, 0, 0), (207, .iconst 1, 1, 1, 0, 0)], [(208, .putfield 170, 3, 12, 18, 0), (211, .goto 95, 3, 306, 0, 0), (214, .aload_n 0, 1, 0, 0, 0), (215, .dup, 1, 0, 0, 0), (216, .getfield 93, 3, 12, 17, 0), (219, .iconst 1, 1, 1, 0, 0), (220, .iadd, 1, 0, 0, 0), (221, .putfield 93, 3, 12, 17, 0)], [(224, .iload_n 1, 1, 0, 0, 0), (225, .bipush 59, 2, 59, 0, 0), (227, .if_icmp .eq 57, 3, 284, 0, 0), (230, .iload_n 1, 1, 0, 0, 0), (231, .bipush 43, 2, 43, 0, 0), (233, .if_icmp .eq 51, 3, 284, 0, 0), (236, .iload_n 1, 1, 0, 0, 0), (237, .bipush 45, 2, 45, 0, 0), (239, .if_icmp .eq 45, 3, 284, 0, 0)], [(242, .iload_n 1, 1, 0, 0, 0), (243, .bipush 42, 2, 42, 0, 0), (245, .if_icmp .eq 39, 3, 284, 0, 0), (248, .iload_n 1, 1, 0, 0, 0), (249, .bipush 47, 2, 47, 0, 0), (251, .if_icmp .eq 33, 3, 284, 0, 0), (254, .iload_n 1, 1, 0, 0, 0), (255, .bipush 40, 2, 40, 0, 0)], [(257, .if_icmp .eq 27, 3, 284, 0, 0), (260, .iload_n 1, 1, 0, 0, 0), (261, .bipush 41, 2, 41, 0, 0), (263, .if_icmp .eq 21, 3, 284, 0, 0), (266, .iload_n 1, 1, 0, 0, 0), (267, .bipush 60, 2, 60, 0, 0), (269, .if_icmp .eq 15, 3, 284, 0, 0)], [(272, .iload_n 1, 1, 0, 0, 0), (273, .bipush 61, 2, 61, 0, 0), (275, .if_icmp .eq 9, 3, 284, 0, 0), (278, .iload_n 1, 1, 0, 0, 0), (279, .bipush 62, 2, 62, 0, 0), (281, .if_icmp .ne 7, 3, 288, 0, 0), (284, .iconst 1, 1, 1, 0, 0), (285, .goto 4, 3, 289, 0, 0)], [(288, .iconst 0, 1, 0, 0, 0), (289, .istore_n 2, 1, 0, 0, 0), (290, .aload_n 0, 1, 0, 0, 0), (291, .iload_n 2, 1, 0, 0, 0), (292, .ifCond .eq 10, 3, 302, 0, 0), (295, .bipush 100, 2, 100, 0, 0), (297, .iload_n 1, 1, 0, 0, 0), (298, .iadd, 1, 0, 0, 0), (299, .goto 4, 3, 303, 0, 0), (302, .iconst 1, 1, 1, 0, 0), (303, .putfield 170, 3, 12, 18, 0)], [(306, .return_, 1, 0, 0, 0)]]
set_option maxRecDepth 100000 in
theorem oc_M_next0 : okC 240 c_M_next0 = true := by decide +kernel
def cu_M_next0 : List (Nat × List Bool) := [(0, [true]), (76, [true]), (126, [true]), (189, [true]), (284, [true, true]), (39, [true])]
noncomputable def F_M_next0 (O : Type) (a : Nat) (av : List AV) (σ : Mem) (K : AV → Mem → Option O) : Option O := if a = 241 then sm_M_see O av σ K else if a = 242 then sm_M_isLetter O av σ K else if a = 243 then sm_M_word O av σ K else if a = 247 then sm_M_isDigit O av σ K else none
theorem fs_M_next0 {X : CXT} (hX : XM X) (O : Type) : FS X 9 (F_M_next0 O) := by
  intro a av σ K o h
  unfold F_M_next0 at h
  rcases ite_s h with ⟨rfl, h⟩ | ⟨_, h⟩
  · obtain ⟨r, h1, h2, h3⟩ := ok_M_see hX _ _ _ _ _ h
    exact ⟨r, fun ht => ⟨1, by decide, h1 ht⟩, h2, h3⟩
  rcases ite_s h with ⟨rfl, h⟩ | ⟨_, h⟩
  · obtain ⟨r, h1, h2, h3⟩ := ok_M_isLetter hX _ _ _ _ _ h
    exact ⟨r, fun ht => ⟨2, by decide, h1 ht⟩, h2, h3⟩
  rcases ite_s h with ⟨rfl, h⟩ | ⟨_, h⟩
  · obtain ⟨r, h1, h2, h3⟩ := ok_M_word hX _ _ _ _ _ h
    exact ⟨r, fun ht => ⟨8, by decide, h1 ht⟩, h2, h3⟩
  rcases ite_s h with ⟨rfl, h⟩ | ⟨_, h⟩
  · obtain ⟨r, h1, h2, h3⟩ := ok_M_isDigit hX _ _ _ _ _ h
    exact ⟨r, fun ht => ⟨2, by decide, h1 ht⟩, h2, h3⟩
  cases h
def hd_M_next0_0 {O : Type} (g : Nat → Mem → Option O) (ls : OL) (st : List AV) (σ : Mem) : Option O := match ls, st with
  | [some (.inr (.inr (12, k0)))], [] => g k0 σ
  | _, _ => none
theorem hs_M_next0_0 {X : CXT} {g : Nat → Mem → Option (Mem)} (hg : ∀ (k0 : Nat) (s : Mem) (o : Mem), g k0 s = some o → BSnd X 9 240 (ovV o) 0 [some (.inr (.inr (12, k0)))] [] s) : ∀ ls st σ o, hd_M_next0_0 g ls st σ = some o → BSnd X 9 240 (ovV o) 0 ls st σ := by
  intro ls st σ o h
  unfold hd_M_next0_0 at h
  split at h
  · exact hg _ _ _ h
  · cases h
def hd_M_next0_76 {O : Type} (g : Nat → Mem → Option O) (ls : OL) (st : List AV) (σ : Mem) : Option O := match ls, st with
  | [some (.inr (.inr (12, k0)))], [] => g k0 σ
  | _, _ => none
theorem hs_M_next0_76 {X : CXT} {g : Nat → Mem → Option (Mem)} (hg : ∀ (k0 : Nat) (s : Mem) (o : Mem), g k0 s = some o → BSnd X 9 240 (ovV o) 76 [some (.inr (.inr (12, k0)))] [] s) : ∀ ls st σ o, hd_M_next0_76 g ls st σ = some o → BSnd X 9 240 (ovV o) 76 ls st σ := by
  intro ls st σ o h
  unfold hd_M_next0_76 at h
  split at h
  · exact hg _ _ _ h
  · cases h
def hd_M_next0_126 {O : Type} (g : Nat → Mem → Option O) (ls : OL) (st : List AV) (σ : Mem) : Option O := match ls, st with
  | [some (.inr (.inr (12, k0)))], [] => g k0 σ
  | _, _ => none
theorem hs_M_next0_126 {X : CXT} {g : Nat → Mem → Option (Mem)} (hg : ∀ (k0 : Nat) (s : Mem) (o : Mem), g k0 s = some o → BSnd X 9 240 (ovV o) 126 [some (.inr (.inr (12, k0)))] [] s) : ∀ ls st σ o, hd_M_next0_126 g ls st σ = some o → BSnd X 9 240 (ovV o) 126 ls st σ := by
  intro ls st σ o h
  unfold hd_M_next0_126 at h
  split at h
  · exact hg _ _ _ h
  · cases h
def hd_M_next0_189 {O : Type} (g : Nat → Mem → Option O) (ls : OL) (st : List AV) (σ : Mem) : Option O := match ls, st with
  | [some (.inr (.inr (12, k0)))], [] => g k0 σ
  | _, _ => none
theorem hs_M_next0_189 {X : CXT} {g : Nat → Mem → Option (Mem)} (hg : ∀ (k0 : Nat) (s : Mem) (o : Mem), g k0 s = some o → BSnd X 9 240 (ovV o) 189 [some (.inr (.inr (12, k0)))] [] s) : ∀ ls st σ o, hd_M_next0_189 g ls st σ = some o → BSnd X 9 240 (ovV o) 189 ls st σ := by
  intro ls st σ o h
  unfold hd_M_next0_189 at h
  split at h
  · exact hg _ _ _ h
  · cases h
def hd_M_next0_284 {O : Type} (g : Nat → Int32 → Mem → Option O) (ls : OL) (st : List AV) (σ : Mem) : Option O := match ls, st with
  | [some (.inr (.inr (12, k0))), some (.inl v1)], [] => g k0 v1 σ
  | _, _ => none
theorem hs_M_next0_284 {X : CXT} {g : Nat → Int32 → Mem → Option (Mem)} (hg : ∀ (k0 : Nat) (v1 : Int32) (s : Mem) (o : Mem), g k0 v1 s = some o → BSnd X 9 240 (ovV o) 284 [some (.inr (.inr (12, k0))), some (.inl v1)] [] s) : ∀ ls st σ o, hd_M_next0_284 g ls st σ = some o → BSnd X 9 240 (ovV o) 284 ls st σ := by
  intro ls st σ o h
  unfold hd_M_next0_284 at h
  split at h
  · exact hg _ _ _ _ h
  · cases h
def hd_M_next0_39 {O : Type} (g : Nat → Mem → Option O) (ls : OL) (st : List AV) (σ : Mem) : Option O := match ls, st with
  | [some (.inr (.inr (12, k0)))], [] => g k0 σ
  | _, _ => none
theorem hs_M_next0_39 {X : CXT} {g : Nat → Mem → Option (Mem)} (hg : ∀ (k0 : Nat) (s : Mem) (o : Mem), g k0 s = some o → BSnd X 9 240 (ovV o) 39 [some (.inr (.inr (12, k0)))] [] s) : ∀ ls st σ o, hd_M_next0_39 g ls st σ = some o → BSnd X 9 240 (ovV o) 39 ls st σ := by
  intro ls st σ o h
  unfold hd_M_next0_39 at h
  split at h
  · exact hg _ _ _ h
  · cases h
set_option maxRecDepth 100000 in
theorem s_M_next0_0 {X : CXT} (hX : XM X) {K39 : Nat → Mem → Option (Mem)} (hK39 : ∀ (k0 : Nat) (s : Mem) (o : Mem), K39 k0 s = some o → BSnd X 9 240 (ovV o) 39 [some (.inr (.inr (12, k0)))] [] s) : ∀ n : Nat, ∀ (k0 : Nat) (s : Mem) (o : Mem), f_M_next0_0 K39 n k0 s = some o → BSnd X 9 240 (ovV o) 0 [some (.inr (.inr (12, k0)))] [] s := by
  intro n
  induction n with
  | zero => intro k0 s o h; cases h
  | succ n ih =>
    intro k0 s o h
    exact evC (chs := c_M_next0) (cuts := cu_M_next0) (G := fun pc ls st σ => if pc = 0 then hd_M_next0_0 (fun k0 s => f_M_next0_0 K39 n k0 s) ls st σ else if pc = 39 then hd_M_next0_39 (fun k0 s => K39 k0 s) ls st σ else none) hX.2.1 hX.2.2 (F := F_M_next0 _) (fs_M_next0 hX _) (rt_V rfl) oc_M_next0 (by
    intro pc ls st σ o h
    rcases ite_s h with ⟨rfl, h⟩ | ⟨_, h⟩
    · exact hs_M_next0_0 ih _ _ _ _ h
    rcases ite_s h with ⟨rfl, h⟩ | ⟨_, h⟩
    · exact hs_M_next0_39 hK39 _ _ _ _ h
    cases h) 672 0 _ _ _ _ h
set_option maxRecDepth 100000 in
theorem s_M_next0_76 {X : CXT} (hX : XM X) : ∀ n : Nat, ∀ (k0 : Nat) (s : Mem) (o : Mem), f_M_next0_76 n k0 s = some o → BSnd X 9 240 (ovV o) 76 [some (.inr (.inr (12, k0)))] [] s := by
  intro n
  induction n with
  | zero => intro k0 s o h; cases h
  | succ n ih =>
    intro k0 s o h
    exact evC (chs := c_M_next0) (cuts := cu_M_next0) (G := fun pc ls st σ => if pc = 76 then hd_M_next0_76 (fun k0 s => f_M_next0_76 n k0 s) ls st σ else none) hX.2.1 hX.2.2 (F := F_M_next0 _) (fs_M_next0 hX _) (rt_V rfl) oc_M_next0 (by
    intro pc ls st σ o h
    rcases ite_s h with ⟨rfl, h⟩ | ⟨_, h⟩
    · exact hs_M_next0_76 ih _ _ _ _ h
    cases h) 672 76 _ _ _ _ h
set_option maxRecDepth 100000 in
theorem s_M_next0_126 {X : CXT} (hX : XM X) {K189 : Nat → Mem → Option (Mem)} (hK189 : ∀ (k0 : Nat) (s : Mem) (o : Mem), K189 k0 s = some o → BSnd X 9 240 (ovV o) 189 [some (.inr (.inr (12, k0)))] [] s) : ∀ n : Nat, ∀ (k0 : Nat) (s : Mem) (o : Mem), f_M_next0_126 K189 n k0 s = some o → BSnd X 9 240 (ovV o) 126 [some (.inr (.inr (12, k0)))] [] s := by
  intro n
  induction n with
  | zero => intro k0 s o h; cases h
  | succ n ih =>
    intro k0 s o h
    exact evC (chs := c_M_next0) (cuts := cu_M_next0) (G := fun pc ls st σ => if pc = 126 then hd_M_next0_126 (fun k0 s => f_M_next0_126 K189 n k0 s) ls st σ else if pc = 189 then hd_M_next0_189 (fun k0 s => K189 k0 s) ls st σ else none) hX.2.1 hX.2.2 (F := F_M_next0 _) (fs_M_next0 hX _) (rt_V rfl) oc_M_next0 (by
    intro pc ls st σ o h
    rcases ite_s h with ⟨rfl, h⟩ | ⟨_, h⟩
    · exact hs_M_next0_126 ih _ _ _ _ h
    rcases ite_s h with ⟨rfl, h⟩ | ⟨_, h⟩
    · exact hs_M_next0_189 hK189 _ _ _ _ h
    cases h) 672 126 _ _ _ _ h
set_option maxRecDepth 100000 in
theorem s_M_next0_189 {X : CXT} (hX : XM X) : ∀ (k0 : Nat) (s : Mem) (o : Mem), f_M_next0_189 k0 s = some o → BSnd X 9 240 (ovV o) 189 [some (.inr (.inr (12, k0)))] [] s := by
  intro k0 s o h
  exact evC (chs := c_M_next0) (cuts := cu_M_next0) (G := fun pc ls st σ => none) hX.2.1 hX.2.2 (F := F_M_next0 _) (fs_M_next0 hX _) (rt_V rfl) oc_M_next0 (by
    intro pc ls st σ o h
    cases h) 672 189 _ _ _ _ h
set_option maxRecDepth 100000 in
theorem s_M_next0_284 {X : CXT} (hX : XM X) : ∀ (k0 : Nat) (v1 : Int32) (s : Mem) (o : Mem), f_M_next0_284 k0 v1 s = some o → BSnd X 9 240 (ovV o) 284 [some (.inr (.inr (12, k0))), some (.inl v1)] [] s := by
  intro k0 v1 s o h
  exact evC (chs := c_M_next0) (cuts := cu_M_next0) (G := fun pc ls st σ => none) hX.2.1 hX.2.2 (F := F_M_next0 _) (fs_M_next0 hX _) (rt_V rfl) oc_M_next0 (by
    intro pc ls st σ o h
    cases h) 672 284 _ _ _ _ h
set_option maxRecDepth 100000 in
theorem s_M_next0_39 {X : CXT} (hX : XM X) : ∀ (k0 : Nat) (s : Mem) (o : Mem), f_M_next0_39 k0 s = some o → BSnd X 9 240 (ovV o) 39 [some (.inr (.inr (12, k0)))] [] s := by
  intro k0 s o h
  exact evC (chs := c_M_next0) (cuts := cu_M_next0) (G := fun pc ls st σ => if pc = 76 then hd_M_next0_76 (fun k0 s => f_M_next0_76 FU k0 s) ls st σ else if pc = 126 then hd_M_next0_126 (fun k0 s => f_M_next0_126 (fun k0 s => f_M_next0_189 k0 s) FU k0 s) ls st σ else if pc = 189 then hd_M_next0_189 (fun k0 s => f_M_next0_189 k0 s) ls st σ else if pc = 284 then hd_M_next0_284 (fun k0 v1 s => f_M_next0_284 k0 v1 s) ls st σ else none) hX.2.1 hX.2.2 (F := F_M_next0 _) (fs_M_next0 hX _) (rt_V rfl) oc_M_next0 (by
    intro pc ls st σ o h
    rcases ite_s h with ⟨rfl, h⟩ | ⟨_, h⟩
    · exact hs_M_next0_76 (s_M_next0_76 hX FU) _ _ _ _ h
    rcases ite_s h with ⟨rfl, h⟩ | ⟨_, h⟩
    · exact hs_M_next0_126 (s_M_next0_126 hX (s_M_next0_189 hX) FU) _ _ _ _ h
    rcases ite_s h with ⟨rfl, h⟩ | ⟨_, h⟩
    · exact hs_M_next0_189 (s_M_next0_189 hX) _ _ _ _ h
    rcases ite_s h with ⟨rfl, h⟩ | ⟨_, h⟩
    · exact hs_M_next0_284 (s_M_next0_284 hX) _ _ _ _ h
    cases h) 672 39 _ _ _ _ h
set_option maxRecDepth 100000 in
theorem s_M_next0 {X : CXT} (hX : XM X) : ∀ (k0 : Nat) (s : Mem) (o : Mem), f_M_next0 k0 s = some o → BSnd X 9 240 (ovV o) 0 (entL [.inr (.inr (12, k0))]) [] s := by
  intro k0 s o h
  rw [f_M_next0_eq] at h
  exact evC (chs := c_M_next0) (cuts := cu_M_next0) (G := fun pc ls st σ => if pc = 0 then hd_M_next0_0 (fun k0 s => f_M_next0_0 (fun k0 s => f_M_next0_39 k0 s) FU k0 s) ls st σ else if pc = 39 then hd_M_next0_39 (fun k0 s => f_M_next0_39 k0 s) ls st σ else none) hX.2.1 hX.2.2 (F := F_M_next0 _) (fs_M_next0 hX _) (rt_V rfl) oc_M_next0 (by
    intro pc ls st σ o h
    rcases ite_s h with ⟨rfl, h⟩ | ⟨_, h⟩
    · exact hs_M_next0_0 (s_M_next0_0 hX (s_M_next0_39 hX) FU) _ _ _ _ h
    rcases ite_s h with ⟨rfl, h⟩ | ⟨_, h⟩
    · exact hs_M_next0_39 (s_M_next0_39 hX) _ _ _ _ h
    cases h) 672 0 _ _ _ _ h
theorem ok_M_next0 {X : CXT} (hX : XM X) : SemOK X 9 240 sm_M_next0 := by
  intro O av σ K o h
  unfold sm_M_next0 at h
  split at h
  · obtain ⟨r, hf, h⟩ := Option.bind_eq_some_iff.mp h
    exact ⟨ovV r, fun ht => sp_of hX.1 (by decide) (List.mem_range.mpr (by decide)) (by decide +kernel) ht (Nat.le_of_ble_eq_true rfl) (s_M_next0 hX _ _ _ hf), trivial, h⟩
  · cases h
noncomputable def b_M_bad (k0 : Nat) (v1 : Int32) (s : Mem) : Option (Bool × Mem) :=
  let s1 : Mem := wI s k0 21 v1
  let s2 : Mem := wI s1 k0 22 (rI s1 k0 19)
  some (false, s2)
noncomputable def f_M_bad : Nat → Int32 → Mem → Option (Bool × Mem) := Classical.choose (⟨b_M_bad, rfl⟩ : ∃ f : Nat → Int32 → Mem → Option (Bool × Mem), f = b_M_bad)
theorem f_M_bad_eq : f_M_bad = b_M_bad := Classical.choose_spec (⟨b_M_bad, rfl⟩ : ∃ f : Nat → Int32 → Mem → Option (Bool × Mem), f = b_M_bad)
noncomputable def sm_M_bad (O : Type) (av : List AV) (σ : Mem) (K : AV → Mem → Option O) : Option O := match av with
  | [.inr (.inr (12, k0)), .inl v1] => (f_M_bad k0 v1 σ).bind fun r => K (.inl (b2i r.1)) r.2
  | _ => none
def c_M_bad : List (List CE) := [[(0, .aload_n 0, 1, 0, 0, 0), (1, .iload_n 1, 1, 0, 0, 0), (2, .putfield 185, 3, 12, 21, 0), (5, .aload_n 0, 1, 0, 0, 0), (6, .aload_n 0, 1, 0, 0, 0), (7, .getfield 96, 3, 12, 19, 0), (10, .putfield 188, 3, 12, 22, 0), (13, .iconst 0, 1, 0, 0, 0), (14, .ireturn, 1, 0, 0, 0)]]
set_option maxRecDepth 100000 in
theorem oc_M_bad : okC 250 c_M_bad = true := by decide +kernel
def cu_M_bad : List (Nat × List Bool) := []
noncomputable def F_M_bad (O : Type) (a : Nat) (av : List AV) (σ : Mem) (K : AV → Mem → Option O) : Option O := none
theorem fs_M_bad {X : CXT} (hX : XM X) (O : Type) : FS X 1 (F_M_bad O) := by
  intro a av σ K o h
  cases h
set_option maxRecDepth 100000 in
theorem s_M_bad {X : CXT} (hX : XM X) : ∀ (k0 : Nat) (v1 : Int32) (s : Mem) (o : Bool × Mem), f_M_bad k0 v1 s = some o → BSnd X 1 250 (ovZ o) 0 (entL [.inr (.inr (12, k0)), .inl v1]) [] s := by
  intro k0 v1 s o h
  rw [f_M_bad_eq] at h
  exact evC (chs := c_M_bad) (cuts := cu_M_bad) (G := fun pc ls st σ => none) hX.2.1 hX.2.2 (F := F_M_bad _) (fs_M_bad hX _) (rt_Z rfl) oc_M_bad (by
    intro pc ls st σ o h
    cases h) 76 0 _ _ _ _ h
theorem ok_M_bad {X : CXT} (hX : XM X) : SemOK X 1 250 sm_M_bad := by
  intro O av σ K o h
  unfold sm_M_bad at h
  split at h
  · obtain ⟨r, hf, h⟩ := Option.bind_eq_some_iff.mp h
    exact ⟨ovZ r, fun ht => sp_of hX.1 (by decide) (List.mem_range.mpr (by decide)) (by decide +kernel) ht (Nat.le_of_ble_eq_true rfl) (s_M_bad hX _ _ _ _ hf), trivial, h⟩
  · cases h
noncomputable def b_M_lay (k0 : Nat) (v1 : Int32) (v2 : Int32) (s : Mem) : Option (Mem) :=
  gd (inb (((2 : Int32)) * (rI s k0 14)) (lenM (k0 + 6))) <|
  let s1 : Mem := wI s (k0 + 6) (ix (((2 : Int32)) * (rI s k0 14))) v1
  gd (inb ((((2 : Int32)) * (rI s1 k0 14)) + ((1 : Int32))) (lenM (k0 + 6))) <|
  let s2 : Mem := wI s1 (k0 + 6) (ix ((((2 : Int32)) * (rI s1 k0 14)) + ((1 : Int32)))) v2
  let s3 : Mem := wI s2 k0 14 ((rI s2 k0 14) + ((1 : Int32)))
  some s3
noncomputable def f_M_lay : Nat → Int32 → Int32 → Mem → Option (Mem) := Classical.choose (⟨b_M_lay, rfl⟩ : ∃ f : Nat → Int32 → Int32 → Mem → Option (Mem), f = b_M_lay)
theorem f_M_lay_eq : f_M_lay = b_M_lay := Classical.choose_spec (⟨b_M_lay, rfl⟩ : ∃ f : Nat → Int32 → Int32 → Mem → Option (Mem), f = b_M_lay)
noncomputable def sm_M_lay (O : Type) (av : List AV) (σ : Mem) (K : AV → Mem → Option O) : Option O := match av with
  | [.inr (.inr (12, k0)), .inl v1, .inl v2] => (f_M_lay k0 v1 v2 σ).bind fun r => K (.inl 0) r
  | _ => none
def c_M_lay : List (List CE) := [[(0, .aload_n 0, 1, 0, 0, 0), (1, .getfield 25, 3, 12, 7, 0), (4, .iconst 2, 1, 2, 0, 0), (5, .aload_n 0, 1, 0, 0, 0), (6, .getfield 196, 3, 12, 14, 0), (9, .imul, 1, 0, 0, 0), (10, .iload_n 1, 1, 0, 0, 0), (11, .iastore, 1, 0, 0, 0), (12, .aload_n 0, 1, 0, 0, 0), (13, .getfield 25, 3, 12, 7, 0)], [(16, .iconst 2, 1, 2, 0, 0), (17, .aload_n 0, 1, 0, 0, 0), (18, .getfield 196, 3, 12, 14, 0), (21, .imul, 1, 0, 0, 0), (22, .iconst 1, 1, 1, 0, 0), (23, .iadd, 1, 0, 0, 0), (24, .iload_n 2, 1, 0, 0, 0), (25, .iastore, 1, 0, 0, 0), (26, .aload_n 0, 1, 0, 0, 0), (27, .dup, 1, 0, 0, 0), (28, .getfield 196, 3, 12, 14, 0), (31, .iconst 1, 1, 1, 0, 0)], [(32, .iadd, 1, 0, 0, 0), (33, .putfield 196, 3, 12, 14, 0), (36, .return_, 1, 0, 0, 0)]]
set_option maxRecDepth 100000 in
theorem oc_M_lay : okC 254 c_M_lay = true := by decide +kernel
def cu_M_lay : List (Nat × List Bool) := []
noncomputable def F_M_lay (O : Type) (a : Nat) (av : List AV) (σ : Mem) (K : AV → Mem → Option O) : Option O := none
theorem fs_M_lay {X : CXT} (hX : XM X) (O : Type) : FS X 1 (F_M_lay O) := by
  intro a av σ K o h
  cases h
set_option maxRecDepth 100000 in
theorem s_M_lay {X : CXT} (hX : XM X) : ∀ (k0 : Nat) (v1 : Int32) (v2 : Int32) (s : Mem) (o : Mem), f_M_lay k0 v1 v2 s = some o → BSnd X 1 254 (ovV o) 0 (entL [.inr (.inr (12, k0)), .inl v1, .inl v2]) [] s := by
  intro k0 v1 v2 s o h
  rw [f_M_lay_eq] at h
  exact evC (chs := c_M_lay) (cuts := cu_M_lay) (G := fun pc ls st σ => none) hX.2.1 hX.2.2 (F := F_M_lay _) (fs_M_lay hX _) (rt_V rfl) oc_M_lay (by
    intro pc ls st σ o h
    cases h) 140 0 _ _ _ _ h
theorem ok_M_lay {X : CXT} (hX : XM X) : SemOK X 1 254 sm_M_lay := by
  intro O av σ K o h
  unfold sm_M_lay at h
  split at h
  · obtain ⟨r, hf, h⟩ := Option.bind_eq_some_iff.mp h
    exact ⟨ovV r, fun ht => sp_of hX.1 (by decide) (List.mem_range.mpr (by decide)) (by decide +kernel) ht (Nat.le_of_ble_eq_true rfl) (s_M_lay hX _ _ _ _ _ hf), trivial, h⟩
  · cases h
noncomputable def f_M_unit_30 (k0 : Nat) (v1 : Int32) (s : Mem) : Option (Bool × Mem) :=
  cif (v1 = 0) (
    (f_M_lay k0 ((0 : Int32)) (rI s k0 20) s).bind fun r1 =>
    (f_M_next0 k0 r1).bind fun r2 =>
    some (true, r2)) (
    (f_M_lay k0 ((rI s k0 18) - ((40 : Int32))) (rI s k0 20) s).bind fun r3 =>
    (f_M_next0 k0 r3).bind fun r4 =>
    some (true, r4))
noncomputable def b_M_unit (k0 : Nat) (s : Mem) : Option (Bool × Mem) :=
  (f_M_isIn (rI s k0 18) ((41 : Int32)) ((50 : Int32)) s).bind fun r1 =>
  let x2 : Int32 := b2i r1.1
  cif ((rI r1.2 k0 18) = ((2 : Int32))) (
    f_M_unit_30 k0 x2 r1.2) (
    cif (x2 = 0) (
      (f_M_bad k0 ((1 : Int32)) r1.2).bind fun r3 =>
      lf (rB (b2i r3.1)) r3.2) (
      f_M_unit_30 k0 x2 r1.2))
noncomputable def f_M_unit : Nat → Mem → Option (Bool × Mem) := Classical.choose (⟨b_M_unit, rfl⟩ : ∃ f : Nat → Mem → Option (Bool × Mem), f = b_M_unit)
theorem f_M_unit_eq : f_M_unit = b_M_unit := Classical.choose_spec (⟨b_M_unit, rfl⟩ : ∃ f : Nat → Mem → Option (Bool × Mem), f = b_M_unit)
noncomputable def sm_M_unit (O : Type) (av : List AV) (σ : Mem) (K : AV → Mem → Option O) : Option O := match av with
  | [.inr (.inr (12, k0))] => (f_M_unit k0 σ).bind fun r => K (.inl (b2i r.1)) r.2
  | _ => none
def c_M_unit : List (List CE) := [[(0, .aload_n 0, 1, 0, 0, 0), (1, .getfield 170, 3, 12, 18, 0), (4, .bipush 41, 2, 41, 0, 0), (6, .bipush 50, 2, 50, 0, 0), (8, .invokestatic 60, 3, 230, 3, 1), (11, .istore_n 1, 1, 0, 0, 0), (12, .aload_n 0, 1, 0, 0, 0), (13, .getfield 170, 3, 12, 18, 0)], [(16, .iconst 2, 1, 2, 0, 0), (17, .if_icmp .eq 13, 3, 30, 0, 0), (20, .iload_n 1, 1, 0, 0, 0), (21, .ifCond .ne 9, 3, 30, 0, 0), (24, .aload_n 0, 1, 0, 0, 0), (25, .iconst 1, 1, 1, 0, 0), (26, .invokevirtual 191, 3, 250, 2, 25), (29, .ireturn, 1, 0, 0, 0), (30, .aload_n 0, 1, 0, 0, 0), (31, .iload_n 1, 1, 0, 0, 0)], [(32, .ifCond .eq 13, 3, 45, 0, 0), (35, .aload_n 0, 1, 0, 0, 0), (36, .getfield 170, 3, 12, 18, 0), (39, .bipush 40, 2, 40, 0, 0), (41, .isub, 1, 0, 0, 0), (42, .goto 4, 3, 46, 0, 0), (45, .iconst 0, 1, 0, 0, 0), (46, .aload_n 0, 1, 0, 0, 0), (47, .getfield 182, 3, 12, 20, 0)], [(50, .invokevirtual 206, 3, 254, 3, 24), (53, .aload_n 0, 1, 0, 0, 0), (54, .invokevirtual 193, 3, 240, 1, 24), (57, .iconst 1, 1, 1, 0, 0), (58, .ireturn, 1, 0, 0, 0)]]
set_option maxRecDepth 100000 in
theorem oc_M_unit : okC 253 c_M_unit = true := by decide +kernel
def cu_M_unit : List (Nat × List Bool) := [(30, [true, true])]
noncomputable def F_M_unit (O : Type) (a : Nat) (av : List AV) (σ : Mem) (K : AV → Mem → Option O) : Option O := if a = 230 then sm_M_isIn O av σ K else if a = 240 then sm_M_next0 O av σ K else if a = 250 then sm_M_bad O av σ K else if a = 254 then sm_M_lay O av σ K else none
theorem fs_M_unit {X : CXT} (hX : XM X) (O : Type) : FS X 10 (F_M_unit O) := by
  intro a av σ K o h
  unfold F_M_unit at h
  rcases ite_s h with ⟨rfl, h⟩ | ⟨_, h⟩
  · obtain ⟨r, h1, h2, h3⟩ := ok_M_isIn hX _ _ _ _ _ h
    exact ⟨r, fun ht => ⟨1, by decide, h1 ht⟩, h2, h3⟩
  rcases ite_s h with ⟨rfl, h⟩ | ⟨_, h⟩
  · obtain ⟨r, h1, h2, h3⟩ := ok_M_next0 hX _ _ _ _ _ h
    exact ⟨r, fun ht => ⟨9, by decide, h1 ht⟩, h2, h3⟩
  rcases ite_s h with ⟨rfl, h⟩ | ⟨_, h⟩
  · obtain ⟨r, h1, h2, h3⟩ := ok_M_bad hX _ _ _ _ _ h
    exact ⟨r, fun ht => ⟨1, by decide, h1 ht⟩, h2, h3⟩
  rcases ite_s h with ⟨rfl, h⟩ | ⟨_, h⟩
  · obtain ⟨r, h1, h2, h3⟩ := ok_M_lay hX _ _ _ _ _ h
    exact ⟨r, fun ht => ⟨1, by decide, h1 ht⟩, h2, h3⟩
  cases h
def hd_M_unit_30 {O : Type} (g : Nat → Int32 → Mem → Option O) (ls : OL) (st : List AV) (σ : Mem) : Option O := match ls, st with
  | [some (.inr (.inr (12, k0))), some (.inl v1)], [] => g k0 v1 σ
  | _, _ => none
theorem hs_M_unit_30 {X : CXT} {g : Nat → Int32 → Mem → Option (Bool × Mem)} (hg : ∀ (k0 : Nat) (v1 : Int32) (s : Mem) (o : Bool × Mem), g k0 v1 s = some o → BSnd X 10 253 (ovZ o) 30 [some (.inr (.inr (12, k0))), some (.inl v1)] [] s) : ∀ ls st σ o, hd_M_unit_30 g ls st σ = some o → BSnd X 10 253 (ovZ o) 30 ls st σ := by
  intro ls st σ o h
  unfold hd_M_unit_30 at h
  split at h
  · exact hg _ _ _ _ h
  · cases h
set_option maxRecDepth 100000 in
theorem s_M_unit_30 {X : CXT} (hX : XM X) : ∀ (k0 : Nat) (v1 : Int32) (s : Mem) (o : Bool × Mem), f_M_unit_30 k0 v1 s = some o → BSnd X 10 253 (ovZ o) 30 [some (.inr (.inr (12, k0))), some (.inl v1)] [] s := by
  intro k0 v1 s o h
  exact evC (chs := c_M_unit) (cuts := cu_M_unit) (G := fun pc ls st σ => none) hX.2.1 hX.2.2 (F := F_M_unit _) (fs_M_unit hX _) (rt_Z rfl) oc_M_unit (by
    intro pc ls st σ o h
    cases h) 168 30 _ _ _ _ h
set_option maxRecDepth 100000 in
theorem s_M_unit {X : CXT} (hX : XM X) : ∀ (k0 : Nat) (s : Mem) (o : Bool × Mem), f_M_unit k0 s = some o → BSnd X 10 253 (ovZ o) 0 (entL [.inr (.inr (12, k0))]) [] s := by
  intro k0 s o h
  rw [f_M_unit_eq] at h
  exact evC (chs := c_M_unit) (cuts := cu_M_unit) (G := fun pc ls st σ => if pc = 30 then hd_M_unit_30 (fun k0 v1 s => f_M_unit_30 k0 v1 s) ls st σ else none) hX.2.1 hX.2.2 (F := F_M_unit _) (fs_M_unit hX _) (rt_Z rfl) oc_M_unit (by
    intro pc ls st σ o h
    rcases ite_s h with ⟨rfl, h⟩ | ⟨_, h⟩
    · exact hs_M_unit_30 (s_M_unit_30 hX) _ _ _ _ h
    cases h) 168 0 _ _ _ _ h
theorem ok_M_unit {X : CXT} (hX : XM X) : SemOK X 10 253 sm_M_unit := by
  intro O av σ K o h
  unfold sm_M_unit at h
  split at h
  · obtain ⟨r, hf, h⟩ := Option.bind_eq_some_iff.mp h
    exact ⟨ovZ r, fun ht => sp_of hX.1 (by decide) (List.mem_range.mpr (by decide)) (by decide +kernel) ht (Nat.le_of_ble_eq_true rfl) (s_M_unit hX _ _ _ hf), trivial, h⟩
  · cases h
noncomputable def f_M_product_45 (KH : Nat → Mem → Option (Bool × Mem)) (k0 : Nat) (v1 : Int32) (s : Mem) : Option (Bool × Mem) :=
  (f_M_next0 k0 s).bind fun r1 =>
  cif (v1 = 0) (
    (f_M_unit k0 r1).bind fun r2 =>
    cif ((b2i r2.1) = 0) (
      some (false, r2.2)) (
      (f_M_lay k0 ((25 : Int32)) ((0 : Int32)) r2.2).bind fun r3 =>
      KH k0 r3)) (
    let x4 : Int32 := rI r1 k0 20
    cif ((rI r1 k0 18) = ((2 : Int32))) (
      cif (x4 = 0) (
        (f_M_bad k0 ((2 : Int32)) r1).bind fun r5 =>
        lf (rB (b2i r5.1)) r5.2) (
        (f_M_next0 k0 r1).bind fun r6 =>
        (f_M_lay k0 ((26 : Int32)) x4 r6).bind fun r7 =>
        KH k0 r7)) (
      (f_M_bad k0 ((1 : Int32)) r1).bind fun r8 =>
      lf (rB (b2i r8.1)) r8.2))
noncomputable def f_M_product_29 (KH : Nat → Mem → Option (Bool × Mem)) (k0 : Nat) (s : Mem) : Option (Bool × Mem) :=
  cif ((rI s k0 18) = ((147 : Int32))) (
    f_M_product_45 (KH) k0 ((1 : Int32)) s) (
    f_M_product_45 (KH) k0 ((0 : Int32)) s)
noncomputable def f_M_product_9 : Nat → Nat → Mem → Option (Bool × Mem)
  | 0, _, _ => none
  | n + 1, k0, s =>
    cif ((rI s k0 18) = ((142 : Int32))) (
      f_M_product_29 (fun k0 s => f_M_product_9 n k0 s) k0 s) (
      cif ((rI s k0 18) = ((147 : Int32))) (
        f_M_product_29 (fun k0 s => f_M_product_9 n k0 s) k0 s) (
        some (true, s)))
noncomputable def b_M_product (k0 : Nat) (s : Mem) : Option (Bool × Mem) :=
  (f_M_unit k0 s).bind fun r1 =>
  cif ((b2i r1.1) = 0) (
    some (false, r1.2)) (
    f_M_product_9 FU k0 r1.2)
noncomputable def f_M_product : Nat → Mem → Option (Bool × Mem) := Classical.choose (⟨b_M_product, rfl⟩ : ∃ f : Nat → Mem → Option (Bool × Mem), f = b_M_product)
theorem f_M_product_eq : f_M_product = b_M_product := Classical.choose_spec (⟨b_M_product, rfl⟩ : ∃ f : Nat → Mem → Option (Bool × Mem), f = b_M_product)
noncomputable def sm_M_product (O : Type) (av : List AV) (σ : Mem) (K : AV → Mem → Option O) : Option O := match av with
  | [.inr (.inr (12, k0))] => (f_M_product k0 σ).bind fun r => K (.inl (b2i r.1)) r.2
  | _ => none
def c_M_product : List (List CE) := [[(0, .aload_n 0, 1, 0, 0, 0), (1, .invokevirtual 210, 3, 253, 1, 25), (4, .ifCond .ne 5, 3, 9, 0, 0), (7, .iconst 0, 1, 0, 0, 0), (8, .ireturn, 1, 0, 0, 0), (9, .aload_n 0, 1, 0, 0, 0), (10, .getfield 170, 3, 12, 18, 0), (13, .sipush 142, 3, 142, 0, 0)], [(16, .if_icmp .eq 13, 3, 29, 0, 0), (19, .aload_n 0, 1, 0, 0, 0), (20, .getfield 170, 3, 12, 18, 0), (23, .sipush 147, 3, 147, 0, 0), (26, .if_icmp .ne 89, 3, 115, 0, 0), (29, .aload_n 0, 1, 0, 0, 0), (30, .getfield 170, 3, 12, 18, 0)], [(33, .sipush 147, 3, 147, 0, 0), (36, .if_icmp .ne 7, 3, 43, 0, 0), (39, .iconst 1, 1, 1, 0, 0), (40, .goto 4, 3, 44, 0, 0), (43, .iconst 0, 1, 0, 0, 0), (44, .istore_n 1, 1, 0, 0, 0), (45, .aload_n 0, 1, 0, 0, 0), (46, .invokevirtual 193, 3, 240, 1, 24)], [(49, .iload_n 1, 1, 0, 0, 0), (50, .ifCond .eq 46, 3, 96, 0, 0), (53, .aload_n 0, 1, 0, 0, 0), (54, .getfield 182, 3, 12, 20, 0), (57, .istore_n 2, 1, 0, 0, 0), (58, .aload_n 0, 1, 0, 0, 0), (59, .getfield 170, 3, 12, 18, 0), (62, .iconst 2, 1, 2, 0, 0), (63, .if_icmp .eq 9, 3, 72, 0, 0)], [(66, .aload_n 0, 1, 0, 0, 0), (67, .iconst 1, 1, 1, 0, 0), (68, .invokevirtual 191, 3, 250, 2, 25), (71, .ireturn, 1, 0, 0, 0), (72, .iload_n 2, 1, 0, 0, 0), (73, .ifCond .ne 9, 3, 82, 0, 0), (76, .aload_n 0, 1, 0, 0, 0), (77, .iconst 2, 1, 2, 0, 0), (78, .invokevirtual 191, 3, 250, 2, 25)], [(81, .ireturn, 1, 0, 0, 0), (82, .aload_n 0, 1, 0, 0, 0), (83, .invokevirtual 193, 3, 240, 1, 24), (86, .aload_n 0, 1, 0, 0, 0), (87, .bipush 26, 2, 26, 0, 0), (89, .iload_n 2, 1, 0, 0, 0), (90, .invokevirtual 206, 3, 254, 3, 24), (93, .goto 19, 3, 112, 0, 0)], [(96, .aload_n 0, 1, 0, 0, 0), (97, .invokevirtual 210, 3, 253, 1, 25), (100, .ifCond .ne 5, 3, 105, 0, 0), (103, .iconst 0, 1, 0, 0, 0), (104, .ireturn, 1, 0, 0, 0), (105, .aload_n 0, 1, 0, 0, 0), (106, .bipush 25, 2, 25, 0, 0), (108, .iconst 0, 1, 0, 0, 0), (109, .invokevirtual 206, 3, 254, 3, 24)], [(112, .goto (-103), 3, 9, 0, 0), (115, .iconst 1, 1, 1, 0, 0), (116, .ireturn, 1, 0, 0, 0)]]
set_option maxRecDepth 100000 in
theorem oc_M_product : okC 252 c_M_product = true := by decide +kernel
def cu_M_product : List (Nat × List Bool) := [(45, [true, true]), (29, [true]), (9, [true])]
noncomputable def F_M_product (O : Type) (a : Nat) (av : List AV) (σ : Mem) (K : AV → Mem → Option O) : Option O := if a = 240 then sm_M_next0 O av σ K else if a = 250 then sm_M_bad O av σ K else if a = 253 then sm_M_unit O av σ K else if a = 254 then sm_M_lay O av σ K else none
theorem fs_M_product {X : CXT} (hX : XM X) (O : Type) : FS X 11 (F_M_product O) := by
  intro a av σ K o h
  unfold F_M_product at h
  rcases ite_s h with ⟨rfl, h⟩ | ⟨_, h⟩
  · obtain ⟨r, h1, h2, h3⟩ := ok_M_next0 hX _ _ _ _ _ h
    exact ⟨r, fun ht => ⟨9, by decide, h1 ht⟩, h2, h3⟩
  rcases ite_s h with ⟨rfl, h⟩ | ⟨_, h⟩
  · obtain ⟨r, h1, h2, h3⟩ := ok_M_bad hX _ _ _ _ _ h
    exact ⟨r, fun ht => ⟨1, by decide, h1 ht⟩, h2, h3⟩
  rcases ite_s h with ⟨rfl, h⟩ | ⟨_, h⟩
  · obtain ⟨r, h1, h2, h3⟩ := ok_M_unit hX _ _ _ _ _ h
    exact ⟨r, fun ht => ⟨10, by decide, h1 ht⟩, h2, h3⟩
  rcases ite_s h with ⟨rfl, h⟩ | ⟨_, h⟩
  · obtain ⟨r, h1, h2, h3⟩ := ok_M_lay hX _ _ _ _ _ h
    exact ⟨r, fun ht => ⟨1, by decide, h1 ht⟩, h2, h3⟩
  cases h
def hd_M_product_45 {O : Type} (g : Nat → Int32 → Mem → Option O) (ls : OL) (st : List AV) (σ : Mem) : Option O := match ls, st with
  | [some (.inr (.inr (12, k0))), some (.inl v1)], [] => g k0 v1 σ
  | _, _ => none
theorem hs_M_product_45 {X : CXT} {g : Nat → Int32 → Mem → Option (Bool × Mem)} (hg : ∀ (k0 : Nat) (v1 : Int32) (s : Mem) (o : Bool × Mem), g k0 v1 s = some o → BSnd X 11 252 (ovZ o) 45 [some (.inr (.inr (12, k0))), some (.inl v1)] [] s) : ∀ ls st σ o, hd_M_product_45 g ls st σ = some o → BSnd X 11 252 (ovZ o) 45 ls st σ := by
  intro ls st σ o h
  unfold hd_M_product_45 at h
  split at h
  · exact hg _ _ _ _ h
  · cases h
def hd_M_product_29 {O : Type} (g : Nat → Mem → Option O) (ls : OL) (st : List AV) (σ : Mem) : Option O := match ls, st with
  | [some (.inr (.inr (12, k0)))], [] => g k0 σ
  | _, _ => none
theorem hs_M_product_29 {X : CXT} {g : Nat → Mem → Option (Bool × Mem)} (hg : ∀ (k0 : Nat) (s : Mem) (o : Bool × Mem), g k0 s = some o → BSnd X 11 252 (ovZ o) 29 [some (.inr (.inr (12, k0)))] [] s) : ∀ ls st σ o, hd_M_product_29 g ls st σ = some o → BSnd X 11 252 (ovZ o) 29 ls st σ := by
  intro ls st σ o h
  unfold hd_M_product_29 at h
  split at h
  · exact hg _ _ _ h
  · cases h
def hd_M_product_9 {O : Type} (g : Nat → Mem → Option O) (ls : OL) (st : List AV) (σ : Mem) : Option O := match ls, st with
  | [some (.inr (.inr (12, k0)))], [] => g k0 σ
  | _, _ => none
theorem hs_M_product_9 {X : CXT} {g : Nat → Mem → Option (Bool × Mem)} (hg : ∀ (k0 : Nat) (s : Mem) (o : Bool × Mem), g k0 s = some o → BSnd X 11 252 (ovZ o) 9 [some (.inr (.inr (12, k0)))] [] s) : ∀ ls st σ o, hd_M_product_9 g ls st σ = some o → BSnd X 11 252 (ovZ o) 9 ls st σ := by
  intro ls st σ o h
  unfold hd_M_product_9 at h
  split at h
  · exact hg _ _ _ h
  · cases h
set_option maxRecDepth 100000 in
theorem s_M_product_45 {X : CXT} (hX : XM X) {KH : Nat → Mem → Option (Bool × Mem)} (hKH : ∀ (k0 : Nat) (s : Mem) (o : Bool × Mem), KH k0 s = some o → BSnd X 11 252 (ovZ o) 9 [some (.inr (.inr (12, k0)))] [] s) : ∀ (k0 : Nat) (v1 : Int32) (s : Mem) (o : Bool × Mem), f_M_product_45 KH k0 v1 s = some o → BSnd X 11 252 (ovZ o) 45 [some (.inr (.inr (12, k0))), some (.inl v1)] [] s := by
  intro k0 v1 s o h
  exact evC (chs := c_M_product) (cuts := cu_M_product) (G := fun pc ls st σ => if pc = 9 then hd_M_product_9 (fun k0 s => KH k0 s) ls st σ else none) hX.2.1 hX.2.2 (F := F_M_product _) (fs_M_product hX _) (rt_Z rfl) oc_M_product (by
    intro pc ls st σ o h
    rcases ite_s h with ⟨rfl, h⟩ | ⟨_, h⟩
    · exact hs_M_product_9 hKH _ _ _ _ h
    cases h) 284 45 _ _ _ _ h
set_option maxRecDepth 100000 in
theorem s_M_product_29 {X : CXT} (hX : XM X) {KH : Nat → Mem → Option (Bool × Mem)} (hKH : ∀ (k0 : Nat) (s : Mem) (o : Bool × Mem), KH k0 s = some o → BSnd X 11 252 (ovZ o) 9 [some (.inr (.inr (12, k0)))] [] s) : ∀ (k0 : Nat) (s : Mem) (o : Bool × Mem), f_M_product_29 KH k0 s = some o → BSnd X 11 252 (ovZ o) 29 [some (.inr (.inr (12, k0)))] [] s := by
  intro k0 s o h
  exact evC (chs := c_M_product) (cuts := cu_M_product) (G := fun pc ls st σ => if pc = 45 then hd_M_product_45 (fun k0 v1 s => f_M_product_45 (KH) k0 v1 s) ls st σ else if pc = 9 then hd_M_product_9 (fun k0 s => KH k0 s) ls st σ else none) hX.2.1 hX.2.2 (F := F_M_product _) (fs_M_product hX _) (rt_Z rfl) oc_M_product (by
    intro pc ls st σ o h
    rcases ite_s h with ⟨rfl, h⟩ | ⟨_, h⟩
    · exact hs_M_product_45 (s_M_product_45 hX hKH) _ _ _ _ h
    rcases ite_s h with ⟨rfl, h⟩ | ⟨_, h⟩
    · exact hs_M_product_9 hKH _ _ _ _ h
    cases h) 284 29 _ _ _ _ h
set_option maxRecDepth 100000 in
theorem s_M_product_9 {X : CXT} (hX : XM X) : ∀ n : Nat, ∀ (k0 : Nat) (s : Mem) (o : Bool × Mem), f_M_product_9 n k0 s = some o → BSnd X 11 252 (ovZ o) 9 [some (.inr (.inr (12, k0)))] [] s := by
  intro n
  induction n with
  | zero => intro k0 s o h; cases h
  | succ n ih =>
    intro k0 s o h
    exact evC (chs := c_M_product) (cuts := cu_M_product) (G := fun pc ls st σ => if pc = 29 then hd_M_product_29 (fun k0 s => f_M_product_29 (fun k0 s => f_M_product_9 n k0 s) k0 s) ls st σ else if pc = 9 then hd_M_product_9 (fun k0 s => f_M_product_9 n k0 s) ls st σ else none) hX.2.1 hX.2.2 (F := F_M_product _) (fs_M_product hX _) (rt_Z rfl) oc_M_product (by
    intro pc ls st σ o h
    rcases ite_s h with ⟨rfl, h⟩ | ⟨_, h⟩
    · exact hs_M_product_29 (s_M_product_29 hX ih) _ _ _ _ h
    rcases ite_s h with ⟨rfl, h⟩ | ⟨_, h⟩
    · exact hs_M_product_9 ih _ _ _ _ h
    cases h) 284 9 _ _ _ _ h
set_option maxRecDepth 100000 in
theorem s_M_product {X : CXT} (hX : XM X) : ∀ (k0 : Nat) (s : Mem) (o : Bool × Mem), f_M_product k0 s = some o → BSnd X 11 252 (ovZ o) 0 (entL [.inr (.inr (12, k0))]) [] s := by
  intro k0 s o h
  rw [f_M_product_eq] at h
  exact evC (chs := c_M_product) (cuts := cu_M_product) (G := fun pc ls st σ => if pc = 9 then hd_M_product_9 (fun k0 s => f_M_product_9 FU k0 s) ls st σ else none) hX.2.1 hX.2.2 (F := F_M_product _) (fs_M_product hX _) (rt_Z rfl) oc_M_product (by
    intro pc ls st σ o h
    rcases ite_s h with ⟨rfl, h⟩ | ⟨_, h⟩
    · exact hs_M_product_9 (s_M_product_9 hX FU) _ _ _ _ h
    cases h) 284 0 _ _ _ _ h
theorem ok_M_product {X : CXT} (hX : XM X) : SemOK X 11 252 sm_M_product := by
  intro O av σ K o h
  unfold sm_M_product at h
  split at h
  · obtain ⟨r, hf, h⟩ := Option.bind_eq_some_iff.mp h
    exact ⟨ovZ r, fun ht => sp_of hX.1 (by decide) (List.mem_range.mpr (by decide)) (by decide +kernel) ht (Nat.le_of_ble_eq_true rfl) (s_M_product hX _ _ _ hf), trivial, h⟩
  · cases h
noncomputable def f_M_sumUp_29 (KH : Nat → Mem → Option (Bool × Mem)) (k0 : Nat) (s : Mem) : Option (Bool × Mem) :=
  cif ((rI s k0 18) = ((143 : Int32))) (
    (f_M_next0 k0 s).bind fun r1 =>
    (f_M_product k0 r1).bind fun r2 =>
    cif ((b2i r2.1) = 0) (
      some (false, r2.2)) (
      (f_M_lay k0 ((23 : Int32)) ((0 : Int32)) r2.2).bind fun r3 =>
      KH k0 r3)) (
    (f_M_next0 k0 s).bind fun r4 =>
    (f_M_product k0 r4).bind fun r5 =>
    cif ((b2i r5.1) = 0) (
      some (false, r5.2)) (
      (f_M_lay k0 ((24 : Int32)) ((0 : Int32)) r5.2).bind fun r6 =>
      KH k0 r6))
noncomputable def f_M_sumUp_9 : Nat → Nat → Mem → Option (Bool × Mem)
  | 0, _, _ => none
  | n + 1, k0, s =>
    cif ((rI s k0 18) = ((143 : Int32))) (
      f_M_sumUp_29 (fun k0 s => f_M_sumUp_9 n k0 s) k0 s) (
      cif ((rI s k0 18) = ((145 : Int32))) (
        f_M_sumUp_29 (fun k0 s => f_M_sumUp_9 n k0 s) k0 s) (
        some (true, s)))
noncomputable def b_M_sumUp (k0 : Nat) (s : Mem) : Option (Bool × Mem) :=
  (f_M_product k0 s).bind fun r1 =>
  cif ((b2i r1.1) = 0) (
    some (false, r1.2)) (
    f_M_sumUp_9 FU k0 r1.2)
noncomputable def f_M_sumUp : Nat → Mem → Option (Bool × Mem) := Classical.choose (⟨b_M_sumUp, rfl⟩ : ∃ f : Nat → Mem → Option (Bool × Mem), f = b_M_sumUp)
theorem f_M_sumUp_eq : f_M_sumUp = b_M_sumUp := Classical.choose_spec (⟨b_M_sumUp, rfl⟩ : ∃ f : Nat → Mem → Option (Bool × Mem), f = b_M_sumUp)
noncomputable def sm_M_sumUp (O : Type) (av : List AV) (σ : Mem) (K : AV → Mem → Option O) : Option O := match av with
  | [.inr (.inr (12, k0))] => (f_M_sumUp k0 σ).bind fun r => K (.inl (b2i r.1)) r.2
  | _ => none
def c_M_sumUp : List (List CE) := [[(0, .aload_n 0, 1, 0, 0, 0), (1, .invokevirtual 202, 3, 252, 1, 25), (4, .ifCond .ne 5, 3, 9, 0, 0), (7, .iconst 0, 1, 0, 0, 0), (8, .ireturn, 1, 0, 0, 0), (9, .aload_n 0, 1, 0, 0, 0), (10, .getfield 170, 3, 12, 18, 0), (13, .sipush 143, 3, 143, 0, 0)], [(16, .if_icmp .eq 13, 3, 29, 0, 0), (19, .aload_n 0, 1, 0, 0, 0), (20, .getfield 170, 3, 12, 18, 0), (23, .sipush 145, 3, 145, 0, 0), (26, .if_icmp .ne 43, 3, 69, 0, 0), (29, .aload_n 0, 1, 0, 0, 0), (30, .getfield 170, 3, 12, 18, 0)], [(33, .sipush 143, 3, 143, 0, 0), (36, .if_icmp .ne 8, 3, 44, 0, 0), (39, .bipush 23, 2, 23, 0, 0), (41, .goto 5, 3, 46, 0, 0), (44, .bipush 24, 2, 24, 0, 0), (46, .istore_n 1, 1, 0, 0, 0), (47, .aload_n 0, 1, 0, 0, 0)], [(48, .invokevirtual 193, 3, 240, 1, 24), (51, .aload_n 0, 1, 0, 0, 0), (52, .invokevirtual 202, 3, 252, 1, 25), (55, .ifCond .ne 5, 3, 60, 0, 0), (58, .iconst 0, 1, 0, 0, 0), (59, .ireturn, 1, 0, 0, 0), (60, .aload_n 0, 1, 0, 0, 0), (61, .iload_n 1, 1, 0, 0, 0), (62, .iconst 0, 1, 0, 0, 0), (63, .invokevirtual 206, 3, 254, 3, 24)], [(66, .goto (-57), 3, 9, 0, 0), (69, .iconst 1, 1, 1, 0, 0), (70, .ireturn, 1, 0, 0, 0)]]
set_option maxRecDepth 100000 in
theorem oc_M_sumUp : okC 251 c_M_sumUp = true := by decide +kernel
def cu_M_sumUp : List (Nat × List Bool) := [(29, [true]), (9, [true])]
noncomputable def F_M_sumUp (O : Type) (a : Nat) (av : List AV) (σ : Mem) (K : AV → Mem → Option O) : Option O := if a = 240 then sm_M_next0 O av σ K else if a = 252 then sm_M_product O av σ K else if a = 254 then sm_M_lay O av σ K else none
theorem fs_M_sumUp {X : CXT} (hX : XM X) (O : Type) : FS X 12 (F_M_sumUp O) := by
  intro a av σ K o h
  unfold F_M_sumUp at h
  rcases ite_s h with ⟨rfl, h⟩ | ⟨_, h⟩
  · obtain ⟨r, h1, h2, h3⟩ := ok_M_next0 hX _ _ _ _ _ h
    exact ⟨r, fun ht => ⟨9, by decide, h1 ht⟩, h2, h3⟩
  rcases ite_s h with ⟨rfl, h⟩ | ⟨_, h⟩
  · obtain ⟨r, h1, h2, h3⟩ := ok_M_product hX _ _ _ _ _ h
    exact ⟨r, fun ht => ⟨11, by decide, h1 ht⟩, h2, h3⟩
  rcases ite_s h with ⟨rfl, h⟩ | ⟨_, h⟩
  · obtain ⟨r, h1, h2, h3⟩ := ok_M_lay hX _ _ _ _ _ h
    exact ⟨r, fun ht => ⟨1, by decide, h1 ht⟩, h2, h3⟩
  cases h
def hd_M_sumUp_29 {O : Type} (g : Nat → Mem → Option O) (ls : OL) (st : List AV) (σ : Mem) : Option O := match ls, st with
  | [some (.inr (.inr (12, k0)))], [] => g k0 σ
  | _, _ => none
theorem hs_M_sumUp_29 {X : CXT} {g : Nat → Mem → Option (Bool × Mem)} (hg : ∀ (k0 : Nat) (s : Mem) (o : Bool × Mem), g k0 s = some o → BSnd X 12 251 (ovZ o) 29 [some (.inr (.inr (12, k0)))] [] s) : ∀ ls st σ o, hd_M_sumUp_29 g ls st σ = some o → BSnd X 12 251 (ovZ o) 29 ls st σ := by
  intro ls st σ o h
  unfold hd_M_sumUp_29 at h
  split at h
  · exact hg _ _ _ h
  · cases h
def hd_M_sumUp_9 {O : Type} (g : Nat → Mem → Option O) (ls : OL) (st : List AV) (σ : Mem) : Option O := match ls, st with
  | [some (.inr (.inr (12, k0)))], [] => g k0 σ
  | _, _ => none
theorem hs_M_sumUp_9 {X : CXT} {g : Nat → Mem → Option (Bool × Mem)} (hg : ∀ (k0 : Nat) (s : Mem) (o : Bool × Mem), g k0 s = some o → BSnd X 12 251 (ovZ o) 9 [some (.inr (.inr (12, k0)))] [] s) : ∀ ls st σ o, hd_M_sumUp_9 g ls st σ = some o → BSnd X 12 251 (ovZ o) 9 ls st σ := by
  intro ls st σ o h
  unfold hd_M_sumUp_9 at h
  split at h
  · exact hg _ _ _ h
  · cases h
set_option maxRecDepth 100000 in
theorem s_M_sumUp_29 {X : CXT} (hX : XM X) {KH : Nat → Mem → Option (Bool × Mem)} (hKH : ∀ (k0 : Nat) (s : Mem) (o : Bool × Mem), KH k0 s = some o → BSnd X 12 251 (ovZ o) 9 [some (.inr (.inr (12, k0)))] [] s) : ∀ (k0 : Nat) (s : Mem) (o : Bool × Mem), f_M_sumUp_29 KH k0 s = some o → BSnd X 12 251 (ovZ o) 29 [some (.inr (.inr (12, k0)))] [] s := by
  intro k0 s o h
  exact evC (chs := c_M_sumUp) (cuts := cu_M_sumUp) (G := fun pc ls st σ => if pc = 9 then hd_M_sumUp_9 (fun k0 s => KH k0 s) ls st σ else none) hX.2.1 hX.2.2 (F := F_M_sumUp _) (fs_M_sumUp hX _) (rt_Z rfl) oc_M_sumUp (by
    intro pc ls st σ o h
    rcases ite_s h with ⟨rfl, h⟩ | ⟨_, h⟩
    · exact hs_M_sumUp_9 hKH _ _ _ _ h
    cases h) 180 29 _ _ _ _ h
set_option maxRecDepth 100000 in
theorem s_M_sumUp_9 {X : CXT} (hX : XM X) : ∀ n : Nat, ∀ (k0 : Nat) (s : Mem) (o : Bool × Mem), f_M_sumUp_9 n k0 s = some o → BSnd X 12 251 (ovZ o) 9 [some (.inr (.inr (12, k0)))] [] s := by
  intro n
  induction n with
  | zero => intro k0 s o h; cases h
  | succ n ih =>
    intro k0 s o h
    exact evC (chs := c_M_sumUp) (cuts := cu_M_sumUp) (G := fun pc ls st σ => if pc = 29 then hd_M_sumUp_29 (fun k0 s => f_M_sumUp_29 (fun k0 s => f_M_sumUp_9 n k0 s) k0 s) ls st σ else if pc = 9 then hd_M_sumUp_9 (fun k0 s => f_M_sumUp_9 n k0 s) ls st σ else none) hX.2.1 hX.2.2 (F := F_M_sumUp _) (fs_M_sumUp hX _) (rt_Z rfl) oc_M_sumUp (by
    intro pc ls st σ o h
    rcases ite_s h with ⟨rfl, h⟩ | ⟨_, h⟩
    · exact hs_M_sumUp_29 (s_M_sumUp_29 hX ih) _ _ _ _ h
    rcases ite_s h with ⟨rfl, h⟩ | ⟨_, h⟩
    · exact hs_M_sumUp_9 ih _ _ _ _ h
    cases h) 180 9 _ _ _ _ h
set_option maxRecDepth 100000 in
theorem s_M_sumUp {X : CXT} (hX : XM X) : ∀ (k0 : Nat) (s : Mem) (o : Bool × Mem), f_M_sumUp k0 s = some o → BSnd X 12 251 (ovZ o) 0 (entL [.inr (.inr (12, k0))]) [] s := by
  intro k0 s o h
  rw [f_M_sumUp_eq] at h
  exact evC (chs := c_M_sumUp) (cuts := cu_M_sumUp) (G := fun pc ls st σ => if pc = 9 then hd_M_sumUp_9 (fun k0 s => f_M_sumUp_9 FU k0 s) ls st σ else none) hX.2.1 hX.2.2 (F := F_M_sumUp _) (fs_M_sumUp hX _) (rt_Z rfl) oc_M_sumUp (by
    intro pc ls st σ o h
    rcases ite_s h with ⟨rfl, h⟩ | ⟨_, h⟩
    · exact hs_M_sumUp_9 (s_M_sumUp_9 hX FU) _ _ _ _ h
    cases h) 180 0 _ _ _ _ h
theorem ok_M_sumUp {X : CXT} (hX : XM X) : SemOK X 12 251 sm_M_sumUp := by
  intro O av σ K o h
  unfold sm_M_sumUp at h
  split at h
  · obtain ⟨r, hf, h⟩ := Option.bind_eq_some_iff.mp h
    exact ⟨ovZ r, fun ht => sp_of hX.1 (by decide) (List.mem_range.mpr (by decide)) (by decide +kernel) ht (Nat.le_of_ble_eq_true rfl) (s_M_sumUp hX _ _ _ hf), trivial, h⟩
  · cases h
noncomputable def b_M_opens (k0 : Nat) (s : Mem) : Option (Bool × Mem) :=
  cif ((rI s k0 24) = ((8 : Int32))) (
    (f_M_bad k0 ((3 : Int32)) s).bind fun r1 =>
    lf (rB (b2i r1.1)) r1.2) (
    let s2 : Mem := wI s k0 24 ((rI s k0 24) + ((1 : Int32)))
    (f_M_next0 k0 s2).bind fun r3 =>
    some (true, r3))
noncomputable def f_M_opens : Nat → Mem → Option (Bool × Mem) := Classical.choose (⟨b_M_opens, rfl⟩ : ∃ f : Nat → Mem → Option (Bool × Mem), f = b_M_opens)
theorem f_M_opens_eq : f_M_opens = b_M_opens := Classical.choose_spec (⟨b_M_opens, rfl⟩ : ∃ f : Nat → Mem → Option (Bool × Mem), f = b_M_opens)
noncomputable def sm_M_opens (O : Type) (av : List AV) (σ : Mem) (K : AV → Mem → Option O) : Option O := match av with
  | [.inr (.inr (12, k0))] => (f_M_opens k0 σ).bind fun r => K (.inl (b2i r.1)) r.2
  | _ => none
def c_M_opens : List (List CE) := [[(0, .aload_n 0, 1, 0, 0, 0), (1, .getfield 199, 3, 12, 24, 0), (4, .bipush 8, 2, 8, 0, 0), (6, .if_icmp .ne 9, 3, 15, 0, 0), (9, .aload_n 0, 1, 0, 0, 0), (10, .iconst 3, 1, 3, 0, 0), (11, .invokevirtual 191, 3, 250, 2, 25), (14, .ireturn, 1, 0, 0, 0), (15, .aload_n 0, 1, 0, 0, 0)], [(16, .dup, 1, 0, 0, 0), (17, .getfield 199, 3, 12, 24, 0), (20, .iconst 1, 1, 1, 0, 0), (21, .iadd, 1, 0, 0, 0), (22, .putfield 199, 3, 12, 24, 0), (25, .aload_n 0, 1, 0, 0, 0), (26, .invokevirtual 193, 3, 240, 1, 24), (29, .iconst 1, 1, 1, 0, 0), (30, .ireturn, 1, 0, 0, 0)]]
set_option maxRecDepth 100000 in
theorem oc_M_opens : okC 258 c_M_opens = true := by decide +kernel
def cu_M_opens : List (Nat × List Bool) := []
noncomputable def F_M_opens (O : Type) (a : Nat) (av : List AV) (σ : Mem) (K : AV → Mem → Option O) : Option O := if a = 240 then sm_M_next0 O av σ K else if a = 250 then sm_M_bad O av σ K else none
theorem fs_M_opens {X : CXT} (hX : XM X) (O : Type) : FS X 10 (F_M_opens O) := by
  intro a av σ K o h
  unfold F_M_opens at h
  rcases ite_s h with ⟨rfl, h⟩ | ⟨_, h⟩
  · obtain ⟨r, h1, h2, h3⟩ := ok_M_next0 hX _ _ _ _ _ h
    exact ⟨r, fun ht => ⟨9, by decide, h1 ht⟩, h2, h3⟩
  rcases ite_s h with ⟨rfl, h⟩ | ⟨_, h⟩
  · obtain ⟨r, h1, h2, h3⟩ := ok_M_bad hX _ _ _ _ _ h
    exact ⟨r, fun ht => ⟨1, by decide, h1 ht⟩, h2, h3⟩
  cases h
set_option maxRecDepth 100000 in
theorem s_M_opens {X : CXT} (hX : XM X) : ∀ (k0 : Nat) (s : Mem) (o : Bool × Mem), f_M_opens k0 s = some o → BSnd X 10 258 (ovZ o) 0 (entL [.inr (.inr (12, k0))]) [] s := by
  intro k0 s o h
  rw [f_M_opens_eq] at h
  exact evC (chs := c_M_opens) (cuts := cu_M_opens) (G := fun pc ls st σ => none) hX.2.1 hX.2.2 (F := F_M_opens _) (fs_M_opens hX _) (rt_Z rfl) oc_M_opens (by
    intro pc ls st σ o h
    cases h) 112 0 _ _ _ _ h
theorem ok_M_opens {X : CXT} (hX : XM X) : SemOK X 10 258 sm_M_opens := by
  intro O av σ K o h
  unfold sm_M_opens at h
  split at h
  · obtain ⟨r, hf, h⟩ := Option.bind_eq_some_iff.mp h
    exact ⟨ovZ r, fun ht => sp_of hX.1 (by decide) (List.mem_range.mpr (by decide)) (by decide +kernel) ht (Nat.le_of_ble_eq_true rfl) (s_M_opens hX _ _ _ hf), trivial, h⟩
  · cases h
noncomputable def b_M_need (k0 : Nat) (v1 : Int32) (s : Mem) : Option (Bool × Mem) :=
  cif ((rI s k0 18) = v1) (
    (f_M_next0 k0 s).bind fun r1 =>
    some (true, r1)) (
    (f_M_bad k0 ((1 : Int32)) s).bind fun r2 =>
    lf (rB (b2i r2.1)) r2.2)
noncomputable def f_M_need : Nat → Int32 → Mem → Option (Bool × Mem) := Classical.choose (⟨b_M_need, rfl⟩ : ∃ f : Nat → Int32 → Mem → Option (Bool × Mem), f = b_M_need)
theorem f_M_need_eq : f_M_need = b_M_need := Classical.choose_spec (⟨b_M_need, rfl⟩ : ∃ f : Nat → Int32 → Mem → Option (Bool × Mem), f = b_M_need)
noncomputable def sm_M_need (O : Type) (av : List AV) (σ : Mem) (K : AV → Mem → Option O) : Option O := match av with
  | [.inr (.inr (12, k0)), .inl v1] => (f_M_need k0 v1 σ).bind fun r => K (.inl (b2i r.1)) r.2
  | _ => none
def c_M_need : List (List CE) := [[(0, .aload_n 0, 1, 0, 0, 0), (1, .getfield 170, 3, 12, 18, 0), (4, .iload_n 1, 1, 0, 0, 0), (5, .if_icmp .eq 9, 3, 14, 0, 0), (8, .aload_n 0, 1, 0, 0, 0), (9, .iconst 1, 1, 1, 0, 0), (10, .invokevirtual 191, 3, 250, 2, 25), (13, .ireturn, 1, 0, 0, 0), (14, .aload_n 0, 1, 0, 0, 0), (15, .invokevirtual 193, 3, 240, 1, 24)], [(18, .iconst 1, 1, 1, 0, 0), (19, .ireturn, 1, 0, 0, 0)]]
set_option maxRecDepth 100000 in
theorem oc_M_need : okC 259 c_M_need = true := by decide +kernel
def cu_M_need : List (Nat × List Bool) := []
noncomputable def F_M_need (O : Type) (a : Nat) (av : List AV) (σ : Mem) (K : AV → Mem → Option O) : Option O := if a = 240 then sm_M_next0 O av σ K else if a = 250 then sm_M_bad O av σ K else none
theorem fs_M_need {X : CXT} (hX : XM X) (O : Type) : FS X 10 (F_M_need O) := by
  intro a av σ K o h
  unfold F_M_need at h
  rcases ite_s h with ⟨rfl, h⟩ | ⟨_, h⟩
  · obtain ⟨r, h1, h2, h3⟩ := ok_M_next0 hX _ _ _ _ _ h
    exact ⟨r, fun ht => ⟨9, by decide, h1 ht⟩, h2, h3⟩
  rcases ite_s h with ⟨rfl, h⟩ | ⟨_, h⟩
  · obtain ⟨r, h1, h2, h3⟩ := ok_M_bad hX _ _ _ _ _ h
    exact ⟨r, fun ht => ⟨1, by decide, h1 ht⟩, h2, h3⟩
  cases h
set_option maxRecDepth 100000 in
theorem s_M_need {X : CXT} (hX : XM X) : ∀ (k0 : Nat) (v1 : Int32) (s : Mem) (o : Bool × Mem), f_M_need k0 v1 s = some o → BSnd X 10 259 (ovZ o) 0 (entL [.inr (.inr (12, k0)), .inl v1]) [] s := by
  intro k0 v1 s o h
  rw [f_M_need_eq] at h
  exact evC (chs := c_M_need) (cuts := cu_M_need) (G := fun pc ls st σ => none) hX.2.1 hX.2.2 (F := F_M_need _) (fs_M_need hX _) (rt_Z rfl) oc_M_need (by
    intro pc ls st σ o h
    cases h) 88 0 _ _ _ _ h
theorem ok_M_need {X : CXT} (hX : XM X) : SemOK X 10 259 sm_M_need := by
  intro O av σ K o h
  unfold sm_M_need at h
  split at h
  · obtain ⟨r, hf, h⟩ := Option.bind_eq_some_iff.mp h
    exact ⟨ovZ r, fun ht => sp_of hX.1 (by decide) (List.mem_range.mpr (by decide)) (by decide +kernel) ht (Nat.le_of_ble_eq_true rfl) (s_M_need hX _ _ _ _ hf), trivial, h⟩
  · cases h
noncomputable def rm_M_any (R_M_any : Nat → Mem → Option (Bool × Mem)) (O : Type) (av : List AV) (σ : Mem) (K : AV → Mem → Option O) : Option O := match av with
  | [.inr (.inr (12, k0))] => (R_M_any k0 σ).bind fun r => K (.inl (b2i r.1)) r.2
  | _ => none
theorem okr_M_any {X : CXT} (hX : XM X) {d : Nat} (hd : 1 ≤ d) {R_M_any : Nat → Mem → Option (Bool × Mem)} (hR : ∀ (k0 : Nat) (s : Mem) (o : Bool × Mem), R_M_any k0 s = some o → BSnd X d 255 (ovZ o) 0 (entL [.inr (.inr (12, k0))]) [] s) : SemOK X d 255 (rm_M_any R_M_any) := by
  intro O av σ K o h
  unfold rm_M_any at h
  split at h
  · obtain ⟨r, hf, h⟩ := Option.bind_eq_some_iff.mp h
    exact ⟨ovZ r, fun ht => sp_of hX.1 hd (List.mem_range.mpr (by decide)) (by decide +kernel) ht (Nat.le_of_ble_eq_true rfl) (hR _ _ _ hf), trivial, h⟩
  · cases h
noncomputable def rm_M_every (R_M_every : Nat → Mem → Option (Bool × Mem)) (O : Type) (av : List AV) (σ : Mem) (K : AV → Mem → Option O) : Option O := match av with
  | [.inr (.inr (12, k0))] => (R_M_every k0 σ).bind fun r => K (.inl (b2i r.1)) r.2
  | _ => none
theorem okr_M_every {X : CXT} (hX : XM X) {d : Nat} (hd : 1 ≤ d) {R_M_every : Nat → Mem → Option (Bool × Mem)} (hR : ∀ (k0 : Nat) (s : Mem) (o : Bool × Mem), R_M_every k0 s = some o → BSnd X d 256 (ovZ o) 0 (entL [.inr (.inr (12, k0))]) [] s) : SemOK X d 256 (rm_M_every R_M_every) := by
  intro O av σ K o h
  unfold rm_M_every at h
  split at h
  · obtain ⟨r, hf, h⟩ := Option.bind_eq_some_iff.mp h
    exact ⟨ovZ r, fun ht => sp_of hX.1 hd (List.mem_range.mpr (by decide)) (by decide +kernel) ht (Nat.le_of_ble_eq_true rfl) (hR _ _ _ hf), trivial, h⟩
  · cases h
noncomputable def rm_M_oneTest (R_M_oneTest : Nat → Mem → Option (Bool × Mem)) (O : Type) (av : List AV) (σ : Mem) (K : AV → Mem → Option O) : Option O := match av with
  | [.inr (.inr (12, k0))] => (R_M_oneTest k0 σ).bind fun r => K (.inl (b2i r.1)) r.2
  | _ => none
theorem okr_M_oneTest {X : CXT} (hX : XM X) {d : Nat} (hd : 1 ≤ d) {R_M_oneTest : Nat → Mem → Option (Bool × Mem)} (hR : ∀ (k0 : Nat) (s : Mem) (o : Bool × Mem), R_M_oneTest k0 s = some o → BSnd X d 257 (ovZ o) 0 (entL [.inr (.inr (12, k0))]) [] s) : SemOK X d 257 (rm_M_oneTest R_M_oneTest) := by
  intro O av σ K o h
  unfold rm_M_oneTest at h
  split at h
  · obtain ⟨r, hf, h⟩ := Option.bind_eq_some_iff.mp h
    exact ⟨ovZ r, fun ht => sp_of hX.1 hd (List.mem_range.mpr (by decide)) (by decide +kernel) ht (Nat.le_of_ble_eq_true rfl) (hR _ _ _ hf), trivial, h⟩
  · cases h
noncomputable def f_M_any_9 (R_M_any : Nat → Mem → Option (Bool × Mem)) (R_M_every : Nat → Mem → Option (Bool × Mem)) (R_M_oneTest : Nat → Mem → Option (Bool × Mem)) : Nat → Nat → Mem → Option (Bool × Mem)
  | 0, _, _ => none
  | n + 1, k0, s =>
    cif ((rI s k0 18) = ((4 : Int32))) (
      (f_M_next0 k0 s).bind fun r1 =>
      (R_M_every k0 r1).bind fun r2 =>
      cif ((b2i r2.1) = 0) (
        some (false, r2.2)) (
        (f_M_lay k0 ((32 : Int32)) ((0 : Int32)) r2.2).bind fun r3 =>
        f_M_any_9 R_M_any R_M_every R_M_oneTest n k0 r3)) (
      some (true, s))
noncomputable def b_M_any (R_M_any : Nat → Mem → Option (Bool × Mem)) (R_M_every : Nat → Mem → Option (Bool × Mem)) (R_M_oneTest : Nat → Mem → Option (Bool × Mem)) (k0 : Nat) (s : Mem) : Option (Bool × Mem) :=
  (R_M_every k0 s).bind fun r1 =>
  cif ((b2i r1.1) = 0) (
    some (false, r1.2)) (
    f_M_any_9 R_M_any R_M_every R_M_oneTest FU k0 r1.2)
def c_M_any : List (List CE) := [[(0, .aload_n 0, 1, 0, 0, 0), (1, .invokevirtual 213, 3, 256, 1, 25), (4, .ifCond .ne 5, 3, 9, 0, 0), (7, .iconst 0, 1, 0, 0, 0), (8, .ireturn, 1, 0, 0, 0), (9, .aload_n 0, 1, 0, 0, 0), (10, .getfield 170, 3, 12, 18, 0), (13, .iconst 4, 1, 4, 0, 0), (14, .if_icmp .ne 26, 3, 40, 0, 0)], [(17, .aload_n 0, 1, 0, 0, 0), (18, .invokevirtual 193, 3, 240, 1, 24), (21, .aload_n 0, 1, 0, 0, 0), (22, .invokevirtual 213, 3, 256, 1, 25), (25, .ifCond .ne 5, 3, 30, 0, 0), (28, .iconst 0, 1, 0, 0, 0), (29, .ireturn, 1, 0, 0, 0), (30, .aload_n 0, 1, 0, 0, 0), (31, .bipush 32, 2, 32, 0, 0)], [(33, .iconst 0, 1, 0, 0, 0), (34, .invokevirtual 206, 3, 254, 3, 24), (37, .goto (-28), 3, 9, 0, 0), (40, .iconst 1, 1, 1, 0, 0), (41, .ireturn, 1, 0, 0, 0)]]
set_option maxRecDepth 100000 in
theorem oc_M_any : okC 255 c_M_any = true := by decide +kernel
def cu_M_any : List (Nat × List Bool) := [(9, [true])]
noncomputable def F_M_any (R_M_any : Nat → Mem → Option (Bool × Mem)) (R_M_every : Nat → Mem → Option (Bool × Mem)) (R_M_oneTest : Nat → Mem → Option (Bool × Mem)) (O : Type) (a : Nat) (av : List AV) (σ : Mem) (K : AV → Mem → Option O) : Option O := if a = 240 then sm_M_next0 O av σ K else if a = 254 then sm_M_lay O av σ K else if a = 256 then rm_M_every R_M_every O av σ K else none
theorem fs_M_any {X : CXT} (hX : XM X) {d : Nat} (hd : 13 ≤ d) {R_M_any : Nat → Mem → Option (Bool × Mem)} (hR_M_any : ∀ (k0 : Nat) (s : Mem) (o : Bool × Mem), R_M_any k0 s = some o → BSnd X d 255 (ovZ o) 0 (entL [.inr (.inr (12, k0))]) [] s) {R_M_every : Nat → Mem → Option (Bool × Mem)} (hR_M_every : ∀ (k0 : Nat) (s : Mem) (o : Bool × Mem), R_M_every k0 s = some o → BSnd X d 256 (ovZ o) 0 (entL [.inr (.inr (12, k0))]) [] s) {R_M_oneTest : Nat → Mem → Option (Bool × Mem)} (hR_M_oneTest : ∀ (k0 : Nat) (s : Mem) (o : Bool × Mem), R_M_oneTest k0 s = some o → BSnd X d 257 (ovZ o) 0 (entL [.inr (.inr (12, k0))]) [] s) (O : Type) : FS X (d + 1) (F_M_any R_M_any R_M_every R_M_oneTest O) := by
  intro a av σ K o h
  unfold F_M_any at h
  rcases ite_s h with ⟨rfl, h⟩ | ⟨_, h⟩
  · obtain ⟨r, h1, h2, h3⟩ := ok_M_next0 hX _ _ _ _ _ h
    exact ⟨r, fun ht => ⟨9, by omega, h1 ht⟩, h2, h3⟩
  rcases ite_s h with ⟨rfl, h⟩ | ⟨_, h⟩
  · obtain ⟨r, h1, h2, h3⟩ := ok_M_lay hX _ _ _ _ _ h
    exact ⟨r, fun ht => ⟨1, by omega, h1 ht⟩, h2, h3⟩
  rcases ite_s h with ⟨rfl, h⟩ | ⟨_, h⟩
  · obtain ⟨r, h1, h2, h3⟩ := okr_M_every hX (Nat.le_trans (by decide) hd) hR_M_every _ _ _ _ _ h
    exact ⟨r, fun ht => ⟨d, Nat.le_refl _, h1 ht⟩, h2, h3⟩
  cases h
def hd_M_any_9 {O : Type} (g : Nat → Mem → Option O) (ls : OL) (st : List AV) (σ : Mem) : Option O := match ls, st with
  | [some (.inr (.inr (12, k0)))], [] => g k0 σ
  | _, _ => none
theorem hs_M_any_9 {X : CXT} {d : Nat} {g : Nat → Mem → Option (Bool × Mem)} (hg : ∀ (k0 : Nat) (s : Mem) (o : Bool × Mem), g k0 s = some o → BSnd X (d + 1) 255 (ovZ o) 9 [some (.inr (.inr (12, k0)))] [] s) : ∀ ls st σ o, hd_M_any_9 g ls st σ = some o → BSnd X (d + 1) 255 (ovZ o) 9 ls st σ := by
  intro ls st σ o h
  unfold hd_M_any_9 at h
  split at h
  · exact hg _ _ _ h
  · cases h
set_option maxRecDepth 100000 in
theorem s_M_any_9 {X : CXT} (hX : XM X) {d : Nat} (hd : 13 ≤ d) {R_M_any : Nat → Mem → Option (Bool × Mem)} (hR_M_any : ∀ (k0 : Nat) (s : Mem) (o : Bool × Mem), R_M_any k0 s = some o → BSnd X d 255 (ovZ o) 0 (entL [.inr (.inr (12, k0))]) [] s) {R_M_every : Nat → Mem → Option (Bool × Mem)} (hR_M_every : ∀ (k0 : Nat) (s : Mem) (o : Bool × Mem), R_M_every k0 s = some o → BSnd X d 256 (ovZ o) 0 (entL [.inr (.inr (12, k0))]) [] s) {R_M_oneTest : Nat → Mem → Option (Bool × Mem)} (hR_M_oneTest : ∀ (k0 : Nat) (s : Mem) (o : Bool × Mem), R_M_oneTest k0 s = some o → BSnd X d 257 (ovZ o) 0 (entL [.inr (.inr (12, k0))]) [] s) : ∀ n : Nat, ∀ (k0 : Nat) (s : Mem) (o : Bool × Mem), f_M_any_9 R_M_any R_M_every R_M_oneTest n k0 s = some o → BSnd X (d + 1) 255 (ovZ o) 9 [some (.inr (.inr (12, k0)))] [] s := by
  intro n
  induction n with
  | zero => intro k0 s o h; cases h
  | succ n ih =>
    intro k0 s o h
    exact evC (chs := c_M_any) (cuts := cu_M_any) (G := fun pc ls st σ => if pc = 9 then hd_M_any_9 (fun k0 s => f_M_any_9 R_M_any R_M_every R_M_oneTest n k0 s) ls st σ else none) hX.2.1 hX.2.2 (F := F_M_any R_M_any R_M_every R_M_oneTest _) (fs_M_any hX hd hR_M_any hR_M_every hR_M_oneTest _) (rt_Z rfl) oc_M_any (by
    intro pc ls st σ o h
    rcases ite_s h with ⟨rfl, h⟩ | ⟨_, h⟩
    · exact hs_M_any_9 ih _ _ _ _ h
    cases h) 132 9 _ _ _ _ h
set_option maxRecDepth 100000 in
theorem s_M_any {X : CXT} (hX : XM X) {d : Nat} (hd : 13 ≤ d) {R_M_any : Nat → Mem → Option (Bool × Mem)} (hR_M_any : ∀ (k0 : Nat) (s : Mem) (o : Bool × Mem), R_M_any k0 s = some o → BSnd X d 255 (ovZ o) 0 (entL [.inr (.inr (12, k0))]) [] s) {R_M_every : Nat → Mem → Option (Bool × Mem)} (hR_M_every : ∀ (k0 : Nat) (s : Mem) (o : Bool × Mem), R_M_every k0 s = some o → BSnd X d 256 (ovZ o) 0 (entL [.inr (.inr (12, k0))]) [] s) {R_M_oneTest : Nat → Mem → Option (Bool × Mem)} (hR_M_oneTest : ∀ (k0 : Nat) (s : Mem) (o : Bool × Mem), R_M_oneTest k0 s = some o → BSnd X d 257 (ovZ o) 0 (entL [.inr (.inr (12, k0))]) [] s) : ∀ (k0 : Nat) (s : Mem) (o : Bool × Mem), b_M_any R_M_any R_M_every R_M_oneTest  k0 s = some o → BSnd X (d + 1) 255 (ovZ o) 0 (entL [.inr (.inr (12, k0))]) [] s := by
  intro k0 s o h
  exact evC (chs := c_M_any) (cuts := cu_M_any) (G := fun pc ls st σ => if pc = 9 then hd_M_any_9 (fun k0 s => f_M_any_9 R_M_any R_M_every R_M_oneTest FU k0 s) ls st σ else none) hX.2.1 hX.2.2 (F := F_M_any R_M_any R_M_every R_M_oneTest _) (fs_M_any hX hd hR_M_any hR_M_every hR_M_oneTest _) (rt_Z rfl) oc_M_any (by
    intro pc ls st σ o h
    rcases ite_s h with ⟨rfl, h⟩ | ⟨_, h⟩
    · exact hs_M_any_9 (s_M_any_9 hX hd hR_M_any hR_M_every hR_M_oneTest FU) _ _ _ _ h
    cases h) 132 0 _ _ _ _ h
noncomputable def f_M_every_9 (R_M_any : Nat → Mem → Option (Bool × Mem)) (R_M_every : Nat → Mem → Option (Bool × Mem)) (R_M_oneTest : Nat → Mem → Option (Bool × Mem)) : Nat → Nat → Mem → Option (Bool × Mem)
  | 0, _, _ => none
  | n + 1, k0, s =>
    cif ((rI s k0 18) = ((5 : Int32))) (
      (f_M_next0 k0 s).bind fun r1 =>
      (R_M_oneTest k0 r1).bind fun r2 =>
      cif ((b2i r2.1) = 0) (
        some (false, r2.2)) (
        (f_M_lay k0 ((31 : Int32)) ((0 : Int32)) r2.2).bind fun r3 =>
        f_M_every_9 R_M_any R_M_every R_M_oneTest n k0 r3)) (
      some (true, s))
noncomputable def b_M_every (R_M_any : Nat → Mem → Option (Bool × Mem)) (R_M_every : Nat → Mem → Option (Bool × Mem)) (R_M_oneTest : Nat → Mem → Option (Bool × Mem)) (k0 : Nat) (s : Mem) : Option (Bool × Mem) :=
  (R_M_oneTest k0 s).bind fun r1 =>
  cif ((b2i r1.1) = 0) (
    some (false, r1.2)) (
    f_M_every_9 R_M_any R_M_every R_M_oneTest FU k0 r1.2)
def c_M_every : List (List CE) := [[(0, .aload_n 0, 1, 0, 0, 0), (1, .invokevirtual 216, 3, 257, 1, 25), (4, .ifCond .ne 5, 3, 9, 0, 0), (7, .iconst 0, 1, 0, 0, 0), (8, .ireturn, 1, 0, 0, 0), (9, .aload_n 0, 1, 0, 0, 0), (10, .getfield 170, 3, 12, 18, 0), (13, .iconst 5, 1, 5, 0, 0), (14, .if_icmp .ne 26, 3, 40, 0, 0)], [(17, .aload_n 0, 1, 0, 0, 0), (18, .invokevirtual 193, 3, 240, 1, 24), (21, .aload_n 0, 1, 0, 0, 0), (22, .invokevirtual 216, 3, 257, 1, 25), (25, .ifCond .ne 5, 3, 30, 0, 0), (28, .iconst 0, 1, 0, 0, 0), (29, .ireturn, 1, 0, 0, 0), (30, .aload_n 0, 1, 0, 0, 0), (31, .bipush 31, 2, 31, 0, 0)], [(33, .iconst 0, 1, 0, 0, 0), (34, .invokevirtual 206, 3, 254, 3, 24), (37, .goto (-28), 3, 9, 0, 0), (40, .iconst 1, 1, 1, 0, 0), (41, .ireturn, 1, 0, 0, 0)]]
set_option maxRecDepth 100000 in
theorem oc_M_every : okC 256 c_M_every = true := by decide +kernel
def cu_M_every : List (Nat × List Bool) := [(9, [true])]
noncomputable def F_M_every (R_M_any : Nat → Mem → Option (Bool × Mem)) (R_M_every : Nat → Mem → Option (Bool × Mem)) (R_M_oneTest : Nat → Mem → Option (Bool × Mem)) (O : Type) (a : Nat) (av : List AV) (σ : Mem) (K : AV → Mem → Option O) : Option O := if a = 240 then sm_M_next0 O av σ K else if a = 254 then sm_M_lay O av σ K else if a = 257 then rm_M_oneTest R_M_oneTest O av σ K else none
theorem fs_M_every {X : CXT} (hX : XM X) {d : Nat} (hd : 13 ≤ d) {R_M_any : Nat → Mem → Option (Bool × Mem)} (hR_M_any : ∀ (k0 : Nat) (s : Mem) (o : Bool × Mem), R_M_any k0 s = some o → BSnd X d 255 (ovZ o) 0 (entL [.inr (.inr (12, k0))]) [] s) {R_M_every : Nat → Mem → Option (Bool × Mem)} (hR_M_every : ∀ (k0 : Nat) (s : Mem) (o : Bool × Mem), R_M_every k0 s = some o → BSnd X d 256 (ovZ o) 0 (entL [.inr (.inr (12, k0))]) [] s) {R_M_oneTest : Nat → Mem → Option (Bool × Mem)} (hR_M_oneTest : ∀ (k0 : Nat) (s : Mem) (o : Bool × Mem), R_M_oneTest k0 s = some o → BSnd X d 257 (ovZ o) 0 (entL [.inr (.inr (12, k0))]) [] s) (O : Type) : FS X (d + 1) (F_M_every R_M_any R_M_every R_M_oneTest O) := by
  intro a av σ K o h
  unfold F_M_every at h
  rcases ite_s h with ⟨rfl, h⟩ | ⟨_, h⟩
  · obtain ⟨r, h1, h2, h3⟩ := ok_M_next0 hX _ _ _ _ _ h
    exact ⟨r, fun ht => ⟨9, by omega, h1 ht⟩, h2, h3⟩
  rcases ite_s h with ⟨rfl, h⟩ | ⟨_, h⟩
  · obtain ⟨r, h1, h2, h3⟩ := ok_M_lay hX _ _ _ _ _ h
    exact ⟨r, fun ht => ⟨1, by omega, h1 ht⟩, h2, h3⟩
  rcases ite_s h with ⟨rfl, h⟩ | ⟨_, h⟩
  · obtain ⟨r, h1, h2, h3⟩ := okr_M_oneTest hX (Nat.le_trans (by decide) hd) hR_M_oneTest _ _ _ _ _ h
    exact ⟨r, fun ht => ⟨d, Nat.le_refl _, h1 ht⟩, h2, h3⟩
  cases h
def hd_M_every_9 {O : Type} (g : Nat → Mem → Option O) (ls : OL) (st : List AV) (σ : Mem) : Option O := match ls, st with
  | [some (.inr (.inr (12, k0)))], [] => g k0 σ
  | _, _ => none
theorem hs_M_every_9 {X : CXT} {d : Nat} {g : Nat → Mem → Option (Bool × Mem)} (hg : ∀ (k0 : Nat) (s : Mem) (o : Bool × Mem), g k0 s = some o → BSnd X (d + 1) 256 (ovZ o) 9 [some (.inr (.inr (12, k0)))] [] s) : ∀ ls st σ o, hd_M_every_9 g ls st σ = some o → BSnd X (d + 1) 256 (ovZ o) 9 ls st σ := by
  intro ls st σ o h
  unfold hd_M_every_9 at h
  split at h
  · exact hg _ _ _ h
  · cases h
set_option maxRecDepth 100000 in
theorem s_M_every_9 {X : CXT} (hX : XM X) {d : Nat} (hd : 13 ≤ d) {R_M_any : Nat → Mem → Option (Bool × Mem)} (hR_M_any : ∀ (k0 : Nat) (s : Mem) (o : Bool × Mem), R_M_any k0 s = some o → BSnd X d 255 (ovZ o) 0 (entL [.inr (.inr (12, k0))]) [] s) {R_M_every : Nat → Mem → Option (Bool × Mem)} (hR_M_every : ∀ (k0 : Nat) (s : Mem) (o : Bool × Mem), R_M_every k0 s = some o → BSnd X d 256 (ovZ o) 0 (entL [.inr (.inr (12, k0))]) [] s) {R_M_oneTest : Nat → Mem → Option (Bool × Mem)} (hR_M_oneTest : ∀ (k0 : Nat) (s : Mem) (o : Bool × Mem), R_M_oneTest k0 s = some o → BSnd X d 257 (ovZ o) 0 (entL [.inr (.inr (12, k0))]) [] s) : ∀ n : Nat, ∀ (k0 : Nat) (s : Mem) (o : Bool × Mem), f_M_every_9 R_M_any R_M_every R_M_oneTest n k0 s = some o → BSnd X (d + 1) 256 (ovZ o) 9 [some (.inr (.inr (12, k0)))] [] s := by
  intro n
  induction n with
  | zero => intro k0 s o h; cases h
  | succ n ih =>
    intro k0 s o h
    exact evC (chs := c_M_every) (cuts := cu_M_every) (G := fun pc ls st σ => if pc = 9 then hd_M_every_9 (fun k0 s => f_M_every_9 R_M_any R_M_every R_M_oneTest n k0 s) ls st σ else none) hX.2.1 hX.2.2 (F := F_M_every R_M_any R_M_every R_M_oneTest _) (fs_M_every hX hd hR_M_any hR_M_every hR_M_oneTest _) (rt_Z rfl) oc_M_every (by
    intro pc ls st σ o h
    rcases ite_s h with ⟨rfl, h⟩ | ⟨_, h⟩
    · exact hs_M_every_9 ih _ _ _ _ h
    cases h) 132 9 _ _ _ _ h
set_option maxRecDepth 100000 in
theorem s_M_every {X : CXT} (hX : XM X) {d : Nat} (hd : 13 ≤ d) {R_M_any : Nat → Mem → Option (Bool × Mem)} (hR_M_any : ∀ (k0 : Nat) (s : Mem) (o : Bool × Mem), R_M_any k0 s = some o → BSnd X d 255 (ovZ o) 0 (entL [.inr (.inr (12, k0))]) [] s) {R_M_every : Nat → Mem → Option (Bool × Mem)} (hR_M_every : ∀ (k0 : Nat) (s : Mem) (o : Bool × Mem), R_M_every k0 s = some o → BSnd X d 256 (ovZ o) 0 (entL [.inr (.inr (12, k0))]) [] s) {R_M_oneTest : Nat → Mem → Option (Bool × Mem)} (hR_M_oneTest : ∀ (k0 : Nat) (s : Mem) (o : Bool × Mem), R_M_oneTest k0 s = some o → BSnd X d 257 (ovZ o) 0 (entL [.inr (.inr (12, k0))]) [] s) : ∀ (k0 : Nat) (s : Mem) (o : Bool × Mem), b_M_every R_M_any R_M_every R_M_oneTest  k0 s = some o → BSnd X (d + 1) 256 (ovZ o) 0 (entL [.inr (.inr (12, k0))]) [] s := by
  intro k0 s o h
  exact evC (chs := c_M_every) (cuts := cu_M_every) (G := fun pc ls st σ => if pc = 9 then hd_M_every_9 (fun k0 s => f_M_every_9 R_M_any R_M_every R_M_oneTest FU k0 s) ls st σ else none) hX.2.1 hX.2.2 (F := F_M_every R_M_any R_M_every R_M_oneTest _) (fs_M_every hX hd hR_M_any hR_M_every hR_M_oneTest _) (rt_Z rfl) oc_M_every (by
    intro pc ls st σ o h
    rcases ite_s h with ⟨rfl, h⟩ | ⟨_, h⟩
    · exact hs_M_every_9 (s_M_every_9 hX hd hR_M_any hR_M_every hR_M_oneTest FU) _ _ _ _ h
    cases h) 132 0 _ _ _ _ h
noncomputable def f_M_oneTest_148 (R_M_any : Nat → Mem → Option (Bool × Mem)) (R_M_every : Nat → Mem → Option (Bool × Mem)) (R_M_oneTest : Nat → Mem → Option (Bool × Mem)) (k0 : Nat) (v1 : Int32) (s : Mem) : Option (Bool × Mem) :=
  cif (v1 = ((-1 : Int32))) (
    (f_M_bad k0 ((1 : Int32)) s).bind fun r1 =>
    lf (rB (b2i r1.1)) r1.2) (
    (f_M_next0 k0 s).bind fun r2 =>
    (f_M_sumUp k0 r2).bind fun r3 =>
    cif ((b2i r3.1) = 0) (
      some (false, r3.2)) (
      (f_M_lay k0 v1 ((0 : Int32)) r3.2).bind fun r4 =>
      some (true, r4)))
noncomputable def b_M_oneTest (R_M_any : Nat → Mem → Option (Bool × Mem)) (R_M_every : Nat → Mem → Option (Bool × Mem)) (R_M_oneTest : Nat → Mem → Option (Bool × Mem)) (k0 : Nat) (s : Mem) : Option (Bool × Mem) :=
  cif ((rI s k0 18) = ((6 : Int32))) (
    (f_M_opens k0 s).bind fun r1 =>
    cif ((b2i r1.1) = 0) (
      some (false, r1.2)) (
      (R_M_oneTest k0 r1.2).bind fun r2 =>
      cif ((b2i r2.1) = 0) (
        some (false, r2.2)) (
        let s3 : Mem := wI r2.2 k0 24 ((rI r2.2 k0 24) - ((1 : Int32)))
        (f_M_lay k0 ((30 : Int32)) ((0 : Int32)) s3).bind fun r4 =>
        some (true, r4)))) (
    cif ((rI s k0 18) = ((140 : Int32))) (
      (f_M_opens k0 s).bind fun r5 =>
      cif ((b2i r5.1) = 0) (
        some (false, r5.2)) (
        (R_M_any k0 r5.2).bind fun r6 =>
        cif ((b2i r6.1) = 0) (
          some (false, r6.2)) (
          (f_M_need k0 ((141 : Int32)) r6.2).bind fun r7 =>
          cif ((b2i r7.1) = 0) (
            some (false, r7.2)) (
            let s8 : Mem := wI r7.2 k0 24 ((rI r7.2 k0 24) - ((1 : Int32)))
            some (true, s8))))) (
      (f_M_sumUp k0 s).bind fun r9 =>
      cif ((b2i r9.1) = 0) (
        some (false, r9.2)) (
        cif ((rI r9.2 k0 18) = ((160 : Int32))) (
          f_M_oneTest_148 R_M_any R_M_every R_M_oneTest k0 ((27 : Int32)) r9.2) (
          cif ((rI r9.2 k0 18) = ((161 : Int32))) (
            f_M_oneTest_148 R_M_any R_M_every R_M_oneTest k0 ((28 : Int32)) r9.2) (
            cif ((rI r9.2 k0 18) = ((162 : Int32))) (
              f_M_oneTest_148 R_M_any R_M_every R_M_oneTest k0 ((29 : Int32)) r9.2) (
              f_M_oneTest_148 R_M_any R_M_every R_M_oneTest k0 ((-1 : Int32)) r9.2))))))
def c_M_oneTest : List (List CE) := [[(0, .aload_n 0, 1, 0, 0, 0), (1, .getfield 170, 3, 12, 18, 0), (4, .bipush 6, 2, 6, 0, 0), (6, .if_icmp .ne 38, 3, 44, 0, 0), (9, .aload_n 0, 1, 0, 0, 0), (10, .invokevirtual 219, 3, 258, 1, 25), (13, .ifCond .eq 10, 3, 23, 0, 0)], [(16, .aload_n 0, 1, 0, 0, 0), (17, .invokevirtual 216, 3, 257, 1, 25), (20, .ifCond .ne 5, 3, 25, 0, 0), (23, .iconst 0, 1, 0, 0, 0), (24, .ireturn, 1, 0, 0, 0), (25, .aload_n 0, 1, 0, 0, 0), (26, .dup, 1, 0, 0, 0), (27, .getfield 199, 3, 12, 24, 0), (30, .iconst 1, 1, 1, 0, 0), (31, .isub, 1, 0, 0, 0)], [(32, .putfield 199, 3, 12, 24, 0), (35, .aload_n 0, 1, 0, 0, 0), (36, .bipush 30, 2, 30, 0, 0), (38, .iconst 0, 1, 0, 0, 0), (39, .invokevirtual 206, 3, 254, 3, 24), (42, .iconst 1, 1, 1, 0, 0), (43, .ireturn, 1, 0, 0, 0), (44, .aload_n 0, 1, 0, 0, 0), (45, .getfield 170, 3, 12, 18, 0)], [(48, .sipush 140, 3, 140, 0, 0), (51, .if_icmp .ne 41, 3, 92, 0, 0), (54, .aload_n 0, 1, 0, 0, 0), (55, .invokevirtual 219, 3, 258, 1, 25), (58, .ifCond .eq 20, 3, 78, 0, 0), (61, .aload_n 0, 1, 0, 0, 0), (62, .invokevirtual 222, 3, 255, 1, 25)], [(65, .ifCond .eq 13, 3, 78, 0, 0), (68, .aload_n 0, 1, 0, 0, 0), (69, .sipush 141, 3, 141, 0, 0), (72, .invokevirtual 225, 3, 259, 2, 25), (75, .ifCond .ne 5, 3, 80, 0, 0), (78, .iconst 0, 1, 0, 0, 0), (79, .ireturn, 1, 0, 0, 0)], [(80, .aload_n 0, 1, 0, 0, 0), (81, .dup, 1, 0, 0, 0), (82, .getfield 199, 3, 12, 24, 0), (85, .iconst 1, 1, 1, 0, 0), (86, .isub, 1, 0, 0, 0), (87, .putfield 199, 3, 12, 24, 0), (90, .iconst 1, 1, 1, 0, 0), (91, .ireturn, 1, 0, 0, 0), (92, .aload_n 0, 1, 0, 0, 0), (93, .invokevirtual 228, 3, 251, 1, 25)], [(96, .ifCond .ne 5, 3, 101, 0, 0), (99, .iconst 0, 1, 0, 0, 0), (100, .ireturn, 1, 0, 0, 0), (101, .aload_n 0, 1, 0, 0, 0), (102, .getfield 170, 3, 12, 18, 0), (105, .sipush 160, 3, 160, 0, 0), (108, .if_icmp .ne 8, 3, 116, 0, 0), (111, .bipush 27, 2, 27, 0, 0)], [(113, .goto 34, 3, 147, 0, 0), (116, .aload_n 0, 1, 0, 0, 0), (117, .getfield 170, 3, 12, 18, 0), (120, .sipush 161, 3, 161, 0, 0), (123, .if_icmp .ne 8, 3, 131, 0, 0), (126, .bipush 28, 2, 28, 0, 0)], [(128, .goto 19, 3, 147, 0, 0), (131, .aload_n 0, 1, 0, 0, 0), (132, .getfield 170, 3, 12, 18, 0), (135, .sipush 162, 3, 162, 0, 0), (138, .if_icmp .ne 8, 3, 146, 0, 0), (141, .bipush 29, 2, 29, 0, 0), (143, .goto 4, 3, 147, 0, 0)], [(146, .iconst (-1), 1, 1, 0, 1), (147, .istore_n 1, 1, 0, 0, 0), (148, .iload_n 1, 1, 0, 0, 0), (149, .iconst (-1), 1, 1, 0, 1), (150, .if_icmp .ne 9, 3, 159, 0, 0), (153, .aload_n 0, 1, 0, 0, 0), (154, .iconst 1, 1, 1, 0, 0), (155, .invokevirtual 191, 3, 250, 2, 25), (158, .ireturn, 1, 0, 0, 0), (159, .aload_n 0, 1, 0, 0, 0)], [(160, .invokevirtual 193, 3, 240, 1, 24), (163, .aload_n 0, 1, 0, 0, 0), (164, .invokevirtual 228, 3, 251, 1, 25), (167, .ifCond .ne 5, 3, 172, 0, 0), (170, .iconst 0, 1, 0, 0, 0), (171, .ireturn, 1, 0, 0, 0), (172, .aload_n 0, 1, 0, 0, 0), (173, .iload_n 1, 1, 0, 0, 0), (174, .iconst 0, 1, 0, 0, 0), (175, .invokevirtual 206, 3, 254, 3, 24)], [(178, .iconst 1, 1, 1, 0, 0), (179, .ireturn, 1, 0, 0, 0)]]
set_option maxRecDepth 100000 in
theorem oc_M_oneTest : okC 257 c_M_oneTest = true := by decide +kernel
def cu_M_oneTest : List (Nat × List Bool) := [(148, [true, true])]
noncomputable def F_M_oneTest (R_M_any : Nat → Mem → Option (Bool × Mem)) (R_M_every : Nat → Mem → Option (Bool × Mem)) (R_M_oneTest : Nat → Mem → Option (Bool × Mem)) (O : Type) (a : Nat) (av : List AV) (σ : Mem) (K : AV → Mem → Option O) : Option O := if a = 240 then sm_M_next0 O av σ K else if a = 250 then sm_M_bad O av σ K else if a = 251 then sm_M_sumUp O av σ K else if a = 254 then sm_M_lay O av σ K else if a = 255 then rm_M_any R_M_any O av σ K else if a = 257 then rm_M_oneTest R_M_oneTest O av σ K else if a = 258 then sm_M_opens O av σ K else if a = 259 then sm_M_need O av σ K else none
theorem fs_M_oneTest {X : CXT} (hX : XM X) {d : Nat} (hd : 13 ≤ d) {R_M_any : Nat → Mem → Option (Bool × Mem)} (hR_M_any : ∀ (k0 : Nat) (s : Mem) (o : Bool × Mem), R_M_any k0 s = some o → BSnd X d 255 (ovZ o) 0 (entL [.inr (.inr (12, k0))]) [] s) {R_M_every : Nat → Mem → Option (Bool × Mem)} (hR_M_every : ∀ (k0 : Nat) (s : Mem) (o : Bool × Mem), R_M_every k0 s = some o → BSnd X d 256 (ovZ o) 0 (entL [.inr (.inr (12, k0))]) [] s) {R_M_oneTest : Nat → Mem → Option (Bool × Mem)} (hR_M_oneTest : ∀ (k0 : Nat) (s : Mem) (o : Bool × Mem), R_M_oneTest k0 s = some o → BSnd X d 257 (ovZ o) 0 (entL [.inr (.inr (12, k0))]) [] s) (O : Type) : FS X (d + 1) (F_M_oneTest R_M_any R_M_every R_M_oneTest O) := by
  intro a av σ K o h
  unfold F_M_oneTest at h
  rcases ite_s h with ⟨rfl, h⟩ | ⟨_, h⟩
  · obtain ⟨r, h1, h2, h3⟩ := ok_M_next0 hX _ _ _ _ _ h
    exact ⟨r, fun ht => ⟨9, by omega, h1 ht⟩, h2, h3⟩
  rcases ite_s h with ⟨rfl, h⟩ | ⟨_, h⟩
  · obtain ⟨r, h1, h2, h3⟩ := ok_M_bad hX _ _ _ _ _ h
    exact ⟨r, fun ht => ⟨1, by omega, h1 ht⟩, h2, h3⟩
  rcases ite_s h with ⟨rfl, h⟩ | ⟨_, h⟩
  · obtain ⟨r, h1, h2, h3⟩ := ok_M_sumUp hX _ _ _ _ _ h
    exact ⟨r, fun ht => ⟨12, by omega, h1 ht⟩, h2, h3⟩
  rcases ite_s h with ⟨rfl, h⟩ | ⟨_, h⟩
  · obtain ⟨r, h1, h2, h3⟩ := ok_M_lay hX _ _ _ _ _ h
    exact ⟨r, fun ht => ⟨1, by omega, h1 ht⟩, h2, h3⟩
  rcases ite_s h with ⟨rfl, h⟩ | ⟨_, h⟩
  · obtain ⟨r, h1, h2, h3⟩ := okr_M_any hX (Nat.le_trans (by decide) hd) hR_M_any _ _ _ _ _ h
    exact ⟨r, fun ht => ⟨d, Nat.le_refl _, h1 ht⟩, h2, h3⟩
  rcases ite_s h with ⟨rfl, h⟩ | ⟨_, h⟩
  · obtain ⟨r, h1, h2, h3⟩ := okr_M_oneTest hX (Nat.le_trans (by decide) hd) hR_M_oneTest _ _ _ _ _ h
    exact ⟨r, fun ht => ⟨d, Nat.le_refl _, h1 ht⟩, h2, h3⟩
  rcases ite_s h with ⟨rfl, h⟩ | ⟨_, h⟩
  · obtain ⟨r, h1, h2, h3⟩ := ok_M_opens hX _ _ _ _ _ h
    exact ⟨r, fun ht => ⟨10, by omega, h1 ht⟩, h2, h3⟩
  rcases ite_s h with ⟨rfl, h⟩ | ⟨_, h⟩
  · obtain ⟨r, h1, h2, h3⟩ := ok_M_need hX _ _ _ _ _ h
    exact ⟨r, fun ht => ⟨10, by omega, h1 ht⟩, h2, h3⟩
  cases h
def hd_M_oneTest_148 {O : Type} (g : Nat → Int32 → Mem → Option O) (ls : OL) (st : List AV) (σ : Mem) : Option O := match ls, st with
  | [some (.inr (.inr (12, k0))), some (.inl v1)], [] => g k0 v1 σ
  | _, _ => none
theorem hs_M_oneTest_148 {X : CXT} {d : Nat} {g : Nat → Int32 → Mem → Option (Bool × Mem)} (hg : ∀ (k0 : Nat) (v1 : Int32) (s : Mem) (o : Bool × Mem), g k0 v1 s = some o → BSnd X (d + 1) 257 (ovZ o) 148 [some (.inr (.inr (12, k0))), some (.inl v1)] [] s) : ∀ ls st σ o, hd_M_oneTest_148 g ls st σ = some o → BSnd X (d + 1) 257 (ovZ o) 148 ls st σ := by
  intro ls st σ o h
  unfold hd_M_oneTest_148 at h
  split at h
  · exact hg _ _ _ _ h
  · cases h
set_option maxRecDepth 100000 in
theorem s_M_oneTest_148 {X : CXT} (hX : XM X) {d : Nat} (hd : 13 ≤ d) {R_M_any : Nat → Mem → Option (Bool × Mem)} (hR_M_any : ∀ (k0 : Nat) (s : Mem) (o : Bool × Mem), R_M_any k0 s = some o → BSnd X d 255 (ovZ o) 0 (entL [.inr (.inr (12, k0))]) [] s) {R_M_every : Nat → Mem → Option (Bool × Mem)} (hR_M_every : ∀ (k0 : Nat) (s : Mem) (o : Bool × Mem), R_M_every k0 s = some o → BSnd X d 256 (ovZ o) 0 (entL [.inr (.inr (12, k0))]) [] s) {R_M_oneTest : Nat → Mem → Option (Bool × Mem)} (hR_M_oneTest : ∀ (k0 : Nat) (s : Mem) (o : Bool × Mem), R_M_oneTest k0 s = some o → BSnd X d 257 (ovZ o) 0 (entL [.inr (.inr (12, k0))]) [] s) : ∀ (k0 : Nat) (v1 : Int32) (s : Mem) (o : Bool × Mem), f_M_oneTest_148 R_M_any R_M_every R_M_oneTest k0 v1 s = some o → BSnd X (d + 1) 257 (ovZ o) 148 [some (.inr (.inr (12, k0))), some (.inl v1)] [] s := by
  intro k0 v1 s o h
  exact evC (chs := c_M_oneTest) (cuts := cu_M_oneTest) (G := fun pc ls st σ => none) hX.2.1 hX.2.2 (F := F_M_oneTest R_M_any R_M_every R_M_oneTest _) (fs_M_oneTest hX hd hR_M_any hR_M_every hR_M_oneTest _) (rt_Z rfl) oc_M_oneTest (by
    intro pc ls st σ o h
    cases h) 412 148 _ _ _ _ h
set_option maxRecDepth 100000 in
theorem s_M_oneTest {X : CXT} (hX : XM X) {d : Nat} (hd : 13 ≤ d) {R_M_any : Nat → Mem → Option (Bool × Mem)} (hR_M_any : ∀ (k0 : Nat) (s : Mem) (o : Bool × Mem), R_M_any k0 s = some o → BSnd X d 255 (ovZ o) 0 (entL [.inr (.inr (12, k0))]) [] s) {R_M_every : Nat → Mem → Option (Bool × Mem)} (hR_M_every : ∀ (k0 : Nat) (s : Mem) (o : Bool × Mem), R_M_every k0 s = some o → BSnd X d 256 (ovZ o) 0 (entL [.inr (.inr (12, k0))]) [] s) {R_M_oneTest : Nat → Mem → Option (Bool × Mem)} (hR_M_oneTest : ∀ (k0 : Nat) (s : Mem) (o : Bool × Mem), R_M_oneTest k0 s = some o → BSnd X d 257 (ovZ o) 0 (entL [.inr (.inr (12, k0))]) [] s) : ∀ (k0 : Nat) (s : Mem) (o : Bool × Mem), b_M_oneTest R_M_any R_M_every R_M_oneTest  k0 s = some o → BSnd X (d + 1) 257 (ovZ o) 0 (entL [.inr (.inr (12, k0))]) [] s := by
  intro k0 s o h
  exact evC (chs := c_M_oneTest) (cuts := cu_M_oneTest) (G := fun pc ls st σ => if pc = 148 then hd_M_oneTest_148 (fun k0 v1 s => f_M_oneTest_148 R_M_any R_M_every R_M_oneTest k0 v1 s) ls st σ else none) hX.2.1 hX.2.2 (F := F_M_oneTest R_M_any R_M_every R_M_oneTest _) (fs_M_oneTest hX hd hR_M_any hR_M_every hR_M_oneTest _) (rt_Z rfl) oc_M_oneTest (by
    intro pc ls st σ o h
    rcases ite_s h with ⟨rfl, h⟩ | ⟨_, h⟩
    · exact hs_M_oneTest_148 (s_M_oneTest_148 hX hd hR_M_any hR_M_every hR_M_oneTest) _ _ _ _ h
    cases h) 412 0 _ _ _ _ h
noncomputable def g_M_any : Nat → (Nat → Mem → Option (Bool × Mem)) × (Nat → Mem → Option (Bool × Mem)) × (Nat → Mem → Option (Bool × Mem))
  | 0 => (fun _ _ => none, fun _ _ => none, fun _ _ => none)
  | n + 1 => (b_M_any (g_M_any n).1 (g_M_any n).2.1 (g_M_any n).2.2, b_M_every (g_M_any n).1 (g_M_any n).2.1 (g_M_any n).2.2, b_M_oneTest (g_M_any n).1 (g_M_any n).2.1 (g_M_any n).2.2)
theorem gs_M_any {X : CXT} (hX : XM X) : ∀ n : Nat, (∀ (k0 : Nat) (s : Mem) (o : Bool × Mem), (g_M_any n).1 k0 s = some o → BSnd X (13 + n) 255 (ovZ o) 0 (entL [.inr (.inr (12, k0))]) [] s) ∧ (∀ (k0 : Nat) (s : Mem) (o : Bool × Mem), (g_M_any n).2.1 k0 s = some o → BSnd X (13 + n) 256 (ovZ o) 0 (entL [.inr (.inr (12, k0))]) [] s) ∧ (∀ (k0 : Nat) (s : Mem) (o : Bool × Mem), (g_M_any n).2.2 k0 s = some o → BSnd X (13 + n) 257 (ovZ o) 0 (entL [.inr (.inr (12, k0))]) [] s) := by
  intro n
  induction n with
  | zero => exact ⟨(fun _ _ _ h => by cases h), (fun _ _ _ h => by cases h), fun _ _ _ h => by cases h⟩
  | succ n ih => exact ⟨s_M_any hX (Nat.le_add_right _ _) ih.1 ih.2.1 ih.2.2, s_M_every hX (Nat.le_add_right _ _) ih.1 ih.2.1 ih.2.2, s_M_oneTest hX (Nat.le_add_right _ _) ih.1 ih.2.1 ih.2.2⟩
noncomputable def f_M_any : Nat → Mem → Option (Bool × Mem) := Classical.choose (⟨(g_M_any 40).1, rfl⟩ : ∃ f : Nat → Mem → Option (Bool × Mem), f = (g_M_any 40).1)
theorem f_M_any_eq : f_M_any = (g_M_any 40).1 := Classical.choose_spec (⟨(g_M_any 40).1, rfl⟩ : ∃ f : Nat → Mem → Option (Bool × Mem), f = (g_M_any 40).1)
noncomputable def sm_M_any (O : Type) (av : List AV) (σ : Mem) (K : AV → Mem → Option O) : Option O := match av with
  | [.inr (.inr (12, k0))] => (f_M_any k0 σ).bind fun r => K (.inl (b2i r.1)) r.2
  | _ => none
theorem ok_M_any {X : CXT} (hX : XM X) : SemOK X 53 255 sm_M_any := by
  intro O av σ K o h
  unfold sm_M_any at h
  split at h
  · obtain ⟨r, hf, h⟩ := Option.bind_eq_some_iff.mp h
    rw [f_M_any_eq] at hf
    exact ⟨ovZ r, fun ht => sp_of hX.1 (by decide) (List.mem_range.mpr (by decide)) (by decide +kernel) ht (Nat.le_of_ble_eq_true rfl) ((gs_M_any hX 40).1 _ _ _ hf), trivial, h⟩
  · cases h
noncomputable def f_M_every : Nat → Mem → Option (Bool × Mem) := Classical.choose (⟨(g_M_any 40).2.1, rfl⟩ : ∃ f : Nat → Mem → Option (Bool × Mem), f = (g_M_any 40).2.1)
theorem f_M_every_eq : f_M_every = (g_M_any 40).2.1 := Classical.choose_spec (⟨(g_M_any 40).2.1, rfl⟩ : ∃ f : Nat → Mem → Option (Bool × Mem), f = (g_M_any 40).2.1)
noncomputable def sm_M_every (O : Type) (av : List AV) (σ : Mem) (K : AV → Mem → Option O) : Option O := match av with
  | [.inr (.inr (12, k0))] => (f_M_every k0 σ).bind fun r => K (.inl (b2i r.1)) r.2
  | _ => none
theorem ok_M_every {X : CXT} (hX : XM X) : SemOK X 53 256 sm_M_every := by
  intro O av σ K o h
  unfold sm_M_every at h
  split at h
  · obtain ⟨r, hf, h⟩ := Option.bind_eq_some_iff.mp h
    rw [f_M_every_eq] at hf
    exact ⟨ovZ r, fun ht => sp_of hX.1 (by decide) (List.mem_range.mpr (by decide)) (by decide +kernel) ht (Nat.le_of_ble_eq_true rfl) ((gs_M_any hX 40).2.1 _ _ _ hf), trivial, h⟩
  · cases h
noncomputable def f_M_oneTest : Nat → Mem → Option (Bool × Mem) := Classical.choose (⟨(g_M_any 40).2.2, rfl⟩ : ∃ f : Nat → Mem → Option (Bool × Mem), f = (g_M_any 40).2.2)
theorem f_M_oneTest_eq : f_M_oneTest = (g_M_any 40).2.2 := Classical.choose_spec (⟨(g_M_any 40).2.2, rfl⟩ : ∃ f : Nat → Mem → Option (Bool × Mem), f = (g_M_any 40).2.2)
noncomputable def sm_M_oneTest (O : Type) (av : List AV) (σ : Mem) (K : AV → Mem → Option O) : Option O := match av with
  | [.inr (.inr (12, k0))] => (f_M_oneTest k0 σ).bind fun r => K (.inl (b2i r.1)) r.2
  | _ => none
theorem ok_M_oneTest {X : CXT} (hX : XM X) : SemOK X 53 257 sm_M_oneTest := by
  intro O av σ K o h
  unfold sm_M_oneTest at h
  split at h
  · obtain ⟨r, hf, h⟩ := Option.bind_eq_some_iff.mp h
    rw [f_M_oneTest_eq] at hf
    exact ⟨ovZ r, fun ht => sp_of hX.1 (by decide) (List.mem_range.mpr (by decide)) (by decide +kernel) ht (Nat.le_of_ble_eq_true rfl) ((gs_M_any hX 40).2.2 _ _ _ hf), trivial, h⟩
  · cases h
noncomputable def f_M_aLine_123 (k0 : Nat) (s : Mem) : Option (Bool × Mem) :=
  gd (inb ((((4 : Int32)) * (rI s k0 13)) + ((2 : Int32))) (lenM (k0 + 5))) <|
  let s1 : Mem := wI s (k0 + 5) (ix ((((4 : Int32)) * (rI s k0 13)) + ((2 : Int32)))) (rI s k0 14)
  (f_M_need k0 ((159 : Int32)) s1).bind fun r2 =>
  lf (rB (b2i r2.1)) r2.2
noncomputable def b_M_aLine (k0 : Nat) (s : Mem) : Option (Bool × Mem) :=
  (f_M_isIn (rI s k0 18) ((20 : Int32)) ((22 : Int32)) s).bind fun r1 =>
  cif ((b2i r1.1) = 0) (
    (f_M_bad k0 ((1 : Int32)) r1.2).bind fun r2 =>
    lf (rB (b2i r2.1)) r2.2) (
    cif ((rI r1.2 k0 13) = ((16 : Int32))) (
      (f_M_bad k0 ((3 : Int32)) r1.2).bind fun r3 =>
      lf (rB (b2i r3.1)) r3.2) (
      let s4 : Mem := wI r1.2 k0 24 ((0 : Int32))
      gd (inb ((((4 : Int32)) * (rI s4 k0 13)) + ((3 : Int32))) (lenM (k0 + 5))) <|
      let s5 : Mem := wI s4 (k0 + 5) (ix ((((4 : Int32)) * (rI s4 k0 13)) + ((3 : Int32)))) (rI s4 k0 18)
      (f_M_next0 k0 s5).bind fun r6 =>
      gd (inb (((4 : Int32)) * (rI r6 k0 13)) (lenM (k0 + 5))) <|
      let s7 : Mem := wI r6 (k0 + 5) (ix (((4 : Int32)) * (rI r6 k0 13))) (rI r6 k0 14)
      (f_M_sumUp k0 s7).bind fun r8 =>
      cif ((b2i r8.1) = 0) (
        some (false, r8.2)) (
        gd (inb ((((4 : Int32)) * (rI r8.2 k0 13)) + ((1 : Int32))) (lenM (k0 + 5))) <|
        let s9 : Mem := wI r8.2 (k0 + 5) (ix ((((4 : Int32)) * (rI r8.2 k0 13)) + ((1 : Int32)))) (rI r8.2 k0 14)
        cif ((rI s9 k0 18) = ((3 : Int32))) (
          (f_M_next0 k0 s9).bind fun r10 =>
          (f_M_any k0 r10).bind fun r11 =>
          cif ((b2i r11.1) = 0) (
            some (false, r11.2)) (
            f_M_aLine_123 k0 r11.2)) (
          f_M_aLine_123 k0 s9))))
noncomputable def f_M_aLine : Nat → Mem → Option (Bool × Mem) := Classical.choose (⟨b_M_aLine, rfl⟩ : ∃ f : Nat → Mem → Option (Bool × Mem), f = b_M_aLine)
theorem f_M_aLine_eq : f_M_aLine = b_M_aLine := Classical.choose_spec (⟨b_M_aLine, rfl⟩ : ∃ f : Nat → Mem → Option (Bool × Mem), f = b_M_aLine)
noncomputable def sm_M_aLine (O : Type) (av : List AV) (σ : Mem) (K : AV → Mem → Option O) : Option O := match av with
  | [.inr (.inr (12, k0))] => (f_M_aLine k0 σ).bind fun r => K (.inl (b2i r.1)) r.2
  | _ => none
def c_M_aLine : List (List CE) := [[(0, .aload_n 0, 1, 0, 0, 0), (1, .getfield 170, 3, 12, 18, 0), (4, .bipush 20, 2, 20, 0, 0), (6, .bipush 22, 2, 22, 0, 0), (8, .invokestatic 60, 3, 230, 3, 1), (11, .ifCond .ne 9, 3, 20, 0, 0), (14, .aload_n 0, 1, 0, 0, 0), (15, .iconst 1, 1, 1, 0, 0)], [(16, .invokevirtual 191, 3, 250, 2, 25), (19, .ireturn, 1, 0, 0, 0), (20, .aload_n 0, 1, 0, 0, 0), (21, .getfield 231, 3, 12, 13, 0), (24, .bipush 16, 2, 16, 0, 0), (26, .if_icmp .ne 9, 3, 35, 0, 0), (29, .aload_n 0, 1, 0, 0, 0), (30, .iconst 3, 1, 3, 0, 0), (31, .invokevirtual 191, 3, 250, 2, 25)], [(34, .ireturn, 1, 0, 0, 0), (35, .aload_n 0, 1, 0, 0, 0), (36, .iconst 0, 1, 0, 0, 0), (37, .putfield 199, 3, 12, 24, 0), (40, .aload_n 0, 1, 0, 0, 0), (41, .getfield 22, 3, 12, 6, 0), (44, .iconst 4, 1, 4, 0, 0), (45, .aload_n 0, 1, 0, 0, 0), (46, .getfield 231, 3, 12, 13, 0)], [(49, .imul, 1, 0, 0, 0), (50, .iconst 3, 1, 3, 0, 0), (51, .iadd, 1, 0, 0, 0), (52, .aload_n 0, 1, 0, 0, 0), (53, .getfield 170, 3, 12, 18, 0), (56, .iastore, 1, 0, 0, 0), (57, .aload_n 0, 1, 0, 0, 0), (58, .invokevirtual 193, 3, 240, 1, 24), (61, .aload_n 0, 1, 0, 0, 0), (62, .getfield 22, 3, 12, 6, 0)], [(65, .iconst 4, 1, 4, 0, 0), (66, .aload_n 0, 1, 0, 0, 0), (67, .getfield 231, 3, 12, 13, 0), (70, .imul, 1, 0, 0, 0), (71, .aload_n 0, 1, 0, 0, 0), (72, .getfield 196, 3, 12, 14, 0), (75, .iastore, 1, 0, 0, 0), (76, .aload_n 0, 1, 0, 0, 0), (77, .invokevirtual 228, 3, 251, 1, 25)], [(80, .ifCond .ne 5, 3, 85, 0, 0), (83, .iconst 0, 1, 0, 0, 0), (84, .ireturn, 1, 0, 0, 0), (85, .aload_n 0, 1, 0, 0, 0), (86, .getfield 22, 3, 12, 6, 0), (89, .iconst 4, 1, 4, 0, 0), (90, .aload_n 0, 1, 0, 0, 0), (91, .getfield 231, 3, 12, 13, 0), (94, .imul, 1, 0, 0, 0), (95, .iconst 1, 1, 1, 0, 0)], [(96, .iadd, 1, 0, 0, 0), (97, .aload_n 0, 1, 0, 0, 0), (98, .getfield 196, 3, 12, 14, 0), (101, .iastore, 1, 0, 0, 0), (102, .aload_n 0, 1, 0, 0, 0), (103, .getfield 170, 3, 12, 18, 0), (106, .iconst 3, 1, 3, 0, 0), (107, .if_icmp .ne 16, 3, 123, 0, 0), (110, .aload_n 0, 1, 0, 0, 0), (111, .invokevirtual 193, 3, 240, 1, 24)], [(114, .aload_n 0, 1, 0, 0, 0), (115, .invokevirtual 222, 3, 255, 1, 25), (118, .ifCond .ne 5, 3, 123, 0, 0), (121, .iconst 0, 1, 0, 0, 0), (122, .ireturn, 1, 0, 0, 0), (123, .aload_n 0, 1, 0, 0, 0), (124, .getfield 22, 3, 12, 6, 0), (127, .iconst 4, 1, 4, 0, 0)], [(128, .aload_n 0, 1, 0, 0, 0), (129, .getfield 231, 3, 12, 13, 0), (132, .imul, 1, 0, 0, 0), (133, .iconst 2, 1, 2, 0, 0), (134, .iadd, 1, 0, 0, 0), (135, .aload_n 0, 1, 0, 0, 0), (136, .getfield 196, 3, 12, 14, 0), (139, .iastore, 1, 0, 0, 0), (140, .aload_n 0, 1, 0, 0, 0), (141, .sipush 159, 3, 159, 0, 0)], [(144, .invokevirtual 225, 3, 259, 2, 25), (147, .ireturn, 1, 0, 0, 0)]]
set_option maxRecDepth 100000 in
theorem oc_M_aLine : okC 249 c_M_aLine = true := by decide +kernel
def cu_M_aLine : List (Nat × List Bool) := [(123, [true])]
noncomputable def F_M_aLine (O : Type) (a : Nat) (av : List AV) (σ : Mem) (K : AV → Mem → Option O) : Option O := if a = 230 then sm_M_isIn O av σ K else if a = 240 then sm_M_next0 O av σ K else if a = 250 then sm_M_bad O av σ K else if a = 251 then sm_M_sumUp O av σ K else if a = 255 then sm_M_any O av σ K else if a = 259 then sm_M_need O av σ K else none
theorem fs_M_aLine {X : CXT} (hX : XM X) (O : Type) : FS X 54 (F_M_aLine O) := by
  intro a av σ K o h
  unfold F_M_aLine at h
  rcases ite_s h with ⟨rfl, h⟩ | ⟨_, h⟩
  · obtain ⟨r, h1, h2, h3⟩ := ok_M_isIn hX _ _ _ _ _ h
    exact ⟨r, fun ht => ⟨1, by decide, h1 ht⟩, h2, h3⟩
  rcases ite_s h with ⟨rfl, h⟩ | ⟨_, h⟩
  · obtain ⟨r, h1, h2, h3⟩ := ok_M_next0 hX _ _ _ _ _ h
    exact ⟨r, fun ht => ⟨9, by decide, h1 ht⟩, h2, h3⟩
  rcases ite_s h with ⟨rfl, h⟩ | ⟨_, h⟩
  · obtain ⟨r, h1, h2, h3⟩ := ok_M_bad hX _ _ _ _ _ h
    exact ⟨r, fun ht => ⟨1, by decide, h1 ht⟩, h2, h3⟩
  rcases ite_s h with ⟨rfl, h⟩ | ⟨_, h⟩
  · obtain ⟨r, h1, h2, h3⟩ := ok_M_sumUp hX _ _ _ _ _ h
    exact ⟨r, fun ht => ⟨12, by decide, h1 ht⟩, h2, h3⟩
  rcases ite_s h with ⟨rfl, h⟩ | ⟨_, h⟩
  · obtain ⟨r, h1, h2, h3⟩ := ok_M_any hX _ _ _ _ _ h
    exact ⟨r, fun ht => ⟨53, by decide, h1 ht⟩, h2, h3⟩
  rcases ite_s h with ⟨rfl, h⟩ | ⟨_, h⟩
  · obtain ⟨r, h1, h2, h3⟩ := ok_M_need hX _ _ _ _ _ h
    exact ⟨r, fun ht => ⟨10, by decide, h1 ht⟩, h2, h3⟩
  cases h
def hd_M_aLine_123 {O : Type} (g : Nat → Mem → Option O) (ls : OL) (st : List AV) (σ : Mem) : Option O := match ls, st with
  | [some (.inr (.inr (12, k0)))], [] => g k0 σ
  | _, _ => none
theorem hs_M_aLine_123 {X : CXT} {g : Nat → Mem → Option (Bool × Mem)} (hg : ∀ (k0 : Nat) (s : Mem) (o : Bool × Mem), g k0 s = some o → BSnd X 54 249 (ovZ o) 123 [some (.inr (.inr (12, k0)))] [] s) : ∀ ls st σ o, hd_M_aLine_123 g ls st σ = some o → BSnd X 54 249 (ovZ o) 123 ls st σ := by
  intro ls st σ o h
  unfold hd_M_aLine_123 at h
  split at h
  · exact hg _ _ _ h
  · cases h
set_option maxRecDepth 100000 in
theorem s_M_aLine_123 {X : CXT} (hX : XM X) : ∀ (k0 : Nat) (s : Mem) (o : Bool × Mem), f_M_aLine_123 k0 s = some o → BSnd X 54 249 (ovZ o) 123 [some (.inr (.inr (12, k0)))] [] s := by
  intro k0 s o h
  exact evC (chs := c_M_aLine) (cuts := cu_M_aLine) (G := fun pc ls st σ => none) hX.2.1 hX.2.2 (F := F_M_aLine _) (fs_M_aLine hX _) (rt_Z rfl) oc_M_aLine (by
    intro pc ls st σ o h
    cases h) 380 123 _ _ _ _ h
set_option maxRecDepth 100000 in
theorem s_M_aLine {X : CXT} (hX : XM X) : ∀ (k0 : Nat) (s : Mem) (o : Bool × Mem), f_M_aLine k0 s = some o → BSnd X 54 249 (ovZ o) 0 (entL [.inr (.inr (12, k0))]) [] s := by
  intro k0 s o h
  rw [f_M_aLine_eq] at h
  exact evC (chs := c_M_aLine) (cuts := cu_M_aLine) (G := fun pc ls st σ => if pc = 123 then hd_M_aLine_123 (fun k0 s => f_M_aLine_123 k0 s) ls st σ else none) hX.2.1 hX.2.2 (F := F_M_aLine _) (fs_M_aLine hX _) (rt_Z rfl) oc_M_aLine (by
    intro pc ls st σ o h
    rcases ite_s h with ⟨rfl, h⟩ | ⟨_, h⟩
    · exact hs_M_aLine_123 (s_M_aLine_123 hX) _ _ _ _ h
    cases h) 380 0 _ _ _ _ h
theorem ok_M_aLine {X : CXT} (hX : XM X) : SemOK X 54 249 sm_M_aLine := by
  intro O av σ K o h
  unfold sm_M_aLine at h
  split at h
  · obtain ⟨r, hf, h⟩ := Option.bind_eq_some_iff.mp h
    exact ⟨ovZ r, fun ht => sp_of hX.1 (by decide) (List.mem_range.mpr (by decide)) (by decide +kernel) ht (Nat.le_of_ble_eq_true rfl) (s_M_aLine hX _ _ _ hf), trivial, h⟩
  · cases h
noncomputable def f_M_readsLaw_12 : Nat → Nat → Int32 → Mem → Option (Bool × Mem)
  | 0, _, _, _ => none
  | n + 1, k0, v1, s =>
    cif (v1 = 0) (
      lf (rB v1) s) (
      cif ((rI s k0 18) = 0) (
        lf (rB v1) s) (
        (f_M_aLine k0 s).bind fun r1 =>
        let x2 : Int32 := b2i r1.1
        cif (x2 = 0) (
          let s3 : Mem := wI r1.2 k0 13 ((rI r1.2 k0 13) + ((0 : Int32)))
          f_M_readsLaw_12 n k0 x2 s3) (
          let s4 : Mem := wI r1.2 k0 13 ((rI r1.2 k0 13) + ((1 : Int32)))
          f_M_readsLaw_12 n k0 x2 s4)))
noncomputable def b_M_readsLaw (k0 : Nat) (s : Mem) : Option (Bool × Mem) :=
  let s1 : Mem := wI s k0 13 ((0 : Int32))
  let s2 : Mem := wI s1 k0 14 ((0 : Int32))
  f_M_readsLaw_12 FU k0 ((1 : Int32)) s2
noncomputable def f_M_readsLaw : Nat → Mem → Option (Bool × Mem) := Classical.choose (⟨b_M_readsLaw, rfl⟩ : ∃ f : Nat → Mem → Option (Bool × Mem), f = b_M_readsLaw)
theorem f_M_readsLaw_eq : f_M_readsLaw = b_M_readsLaw := Classical.choose_spec (⟨b_M_readsLaw, rfl⟩ : ∃ f : Nat → Mem → Option (Bool × Mem), f = b_M_readsLaw)
noncomputable def sm_M_readsLaw (O : Type) (av : List AV) (σ : Mem) (K : AV → Mem → Option O) : Option O := match av with
  | [.inr (.inr (12, k0))] => (f_M_readsLaw k0 σ).bind fun r => K (.inl (b2i r.1)) r.2
  | _ => none
def c_M_readsLaw : List (List CE) := [[(0, .aload_n 0, 1, 0, 0, 0), (1, .iconst 0, 1, 0, 0, 0), (2, .putfield 231, 3, 12, 13, 0), (5, .aload_n 0, 1, 0, 0, 0), (6, .iconst 0, 1, 0, 0, 0), (7, .putfield 196, 3, 12, 14, 0), (10, .iconst 1, 1, 1, 0, 0), (11, .istore_n 1, 1, 0, 0, 0), (12, .iload_n 1, 1, 0, 0, 0), (13, .ifCond .eq 36, 3, 49, 0, 0)], [(16, .aload_n 0, 1, 0, 0, 0), (17, .getfield 170, 3, 12, 18, 0), (20, .ifCond .eq 29, 3, 49, 0, 0), (23, .aload_n 0, 1, 0, 0, 0), (24, .invokevirtual 234, 3, 249, 1, 25), (27, .istore_n 1, 1, 0, 0, 0), (28, .aload_n 0, 1, 0, 0, 0), (29, .dup, 1, 0, 0, 0), (30, .getfield 231, 3, 12, 13, 0)], [(33, .iload_n 1, 1, 0, 0, 0), (34, .ifCond .eq 7, 3, 41, 0, 0), (37, .iconst 1, 1, 1, 0, 0), (38, .goto 4, 3, 42, 0, 0), (41, .iconst 0, 1, 0, 0, 0), (42, .iadd, 1, 0, 0, 0), (43, .putfield 231, 3, 12, 13, 0), (46, .goto (-34), 3, 12, 0, 0)], [(49, .iload_n 1, 1, 0, 0, 0), (50, .ireturn, 1, 0, 0, 0)]]
set_option maxRecDepth 100000 in
theorem oc_M_readsLaw : okC 248 c_M_readsLaw = true := by decide +kernel
def cu_M_readsLaw : List (Nat × List Bool) := [(12, [true, true])]
noncomputable def F_M_readsLaw (O : Type) (a : Nat) (av : List AV) (σ : Mem) (K : AV → Mem → Option O) : Option O := if a = 249 then sm_M_aLine O av σ K else none
theorem fs_M_readsLaw {X : CXT} (hX : XM X) (O : Type) : FS X 55 (F_M_readsLaw O) := by
  intro a av σ K o h
  unfold F_M_readsLaw at h
  rcases ite_s h with ⟨rfl, h⟩ | ⟨_, h⟩
  · obtain ⟨r, h1, h2, h3⟩ := ok_M_aLine hX _ _ _ _ _ h
    exact ⟨r, fun ht => ⟨54, by decide, h1 ht⟩, h2, h3⟩
  cases h
def hd_M_readsLaw_12 {O : Type} (g : Nat → Int32 → Mem → Option O) (ls : OL) (st : List AV) (σ : Mem) : Option O := match ls, st with
  | [some (.inr (.inr (12, k0))), some (.inl v1)], [] => g k0 v1 σ
  | _, _ => none
theorem hs_M_readsLaw_12 {X : CXT} {g : Nat → Int32 → Mem → Option (Bool × Mem)} (hg : ∀ (k0 : Nat) (v1 : Int32) (s : Mem) (o : Bool × Mem), g k0 v1 s = some o → BSnd X 55 248 (ovZ o) 12 [some (.inr (.inr (12, k0))), some (.inl v1)] [] s) : ∀ ls st σ o, hd_M_readsLaw_12 g ls st σ = some o → BSnd X 55 248 (ovZ o) 12 ls st σ := by
  intro ls st σ o h
  unfold hd_M_readsLaw_12 at h
  split at h
  · exact hg _ _ _ _ h
  · cases h
set_option maxRecDepth 100000 in
theorem s_M_readsLaw_12 {X : CXT} (hX : XM X) : ∀ n : Nat, ∀ (k0 : Nat) (v1 : Int32) (s : Mem) (o : Bool × Mem), f_M_readsLaw_12 n k0 v1 s = some o → BSnd X 55 248 (ovZ o) 12 [some (.inr (.inr (12, k0))), some (.inl v1)] [] s := by
  intro n
  induction n with
  | zero => intro k0 v1 s o h; cases h
  | succ n ih =>
    intro k0 v1 s o h
    exact evC (chs := c_M_readsLaw) (cuts := cu_M_readsLaw) (G := fun pc ls st σ => if pc = 12 then hd_M_readsLaw_12 (fun k0 v1 s => f_M_readsLaw_12 n k0 v1 s) ls st σ else none) hX.2.1 hX.2.2 (F := F_M_readsLaw _) (fs_M_readsLaw hX _) (rt_Z rfl) oc_M_readsLaw (by
    intro pc ls st σ o h
    rcases ite_s h with ⟨rfl, h⟩ | ⟨_, h⟩
    · exact hs_M_readsLaw_12 ih _ _ _ _ h
    cases h) 156 12 _ _ _ _ h
set_option maxRecDepth 100000 in
theorem s_M_readsLaw {X : CXT} (hX : XM X) : ∀ (k0 : Nat) (s : Mem) (o : Bool × Mem), f_M_readsLaw k0 s = some o → BSnd X 55 248 (ovZ o) 0 (entL [.inr (.inr (12, k0))]) [] s := by
  intro k0 s o h
  rw [f_M_readsLaw_eq] at h
  exact evC (chs := c_M_readsLaw) (cuts := cu_M_readsLaw) (G := fun pc ls st σ => if pc = 12 then hd_M_readsLaw_12 (fun k0 v1 s => f_M_readsLaw_12 FU k0 v1 s) ls st σ else none) hX.2.1 hX.2.2 (F := F_M_readsLaw _) (fs_M_readsLaw hX _) (rt_Z rfl) oc_M_readsLaw (by
    intro pc ls st σ o h
    rcases ite_s h with ⟨rfl, h⟩ | ⟨_, h⟩
    · exact hs_M_readsLaw_12 (s_M_readsLaw_12 hX FU) _ _ _ _ h
    cases h) 156 0 _ _ _ _ h
theorem ok_M_readsLaw {X : CXT} (hX : XM X) : SemOK X 55 248 sm_M_readsLaw := by
  intro O av σ K o h
  unfold sm_M_readsLaw at h
  split at h
  · obtain ⟨r, hf, h⟩ := Option.bind_eq_some_iff.mp h
    exact ⟨ovZ r, fun ht => sp_of hX.1 (by decide) (List.mem_range.mpr (by decide)) (by decide +kernel) ht (Nat.le_of_ble_eq_true rfl) (s_M_readsLaw hX _ _ _ hf), trivial, h⟩
  · cases h
noncomputable def b_M_begins (k0 : Nat) (s : Mem) : Option (Bool × Mem) :=
  cif ((rI s k0 12) = ((1 : Int32))) (
    cif ((rI s k0 18) = ((7 : Int32))) (
      some (true, s)) (
      some (false, s))) (
    cif ((rI s k0 12) = ((2 : Int32))) (
      (f_M_isIn (rI s k0 18) ((10 : Int32)) ((12 : Int32)) s).bind fun r1 =>
      lf (rB (b2i r1.1)) r1.2) (
      cif ((rI s k0 18) = ((13 : Int32))) (
        some (true, s)) (
        some (false, s))))
noncomputable def f_M_begins : Nat → Mem → Option (Bool × Mem) := Classical.choose (⟨b_M_begins, rfl⟩ : ∃ f : Nat → Mem → Option (Bool × Mem), f = b_M_begins)
theorem f_M_begins_eq : f_M_begins = b_M_begins := Classical.choose_spec (⟨b_M_begins, rfl⟩ : ∃ f : Nat → Mem → Option (Bool × Mem), f = b_M_begins)
noncomputable def sm_M_begins (O : Type) (av : List AV) (σ : Mem) (K : AV → Mem → Option O) : Option O := match av with
  | [.inr (.inr (12, k0))] => (f_M_begins k0 σ).bind fun r => K (.inl (b2i r.1)) r.2
  | _ => none
def c_M_begins : List (List CE) := [[(0, .aload_n 0, 1, 0, 0, 0), (1, .getfield 150, 3, 12, 12, 0), (4, .iconst 1, 1, 1, 0, 0), (5, .if_icmp .ne 20, 3, 25, 0, 0), (8, .aload_n 0, 1, 0, 0, 0), (9, .getfield 170, 3, 12, 18, 0), (12, .bipush 7, 2, 7, 0, 0), (14, .if_icmp .ne 7, 3, 21, 0, 0)], [(17, .iconst 1, 1, 1, 0, 0), (18, .goto 43, 3, 61, 0, 0), (21, .iconst 0, 1, 0, 0, 0), (22, .goto 39, 3, 61, 0, 0), (25, .aload_n 0, 1, 0, 0, 0), (26, .getfield 150, 3, 12, 12, 0), (29, .iconst 2, 1, 2, 0, 0), (30, .if_icmp .ne 17, 3, 47, 0, 0)], [(33, .aload_n 0, 1, 0, 0, 0), (34, .getfield 170, 3, 12, 18, 0), (37, .bipush 10, 2, 10, 0, 0), (39, .bipush 12, 2, 12, 0, 0), (41, .invokestatic 60, 3, 230, 3, 1), (44, .goto 17, 3, 61, 0, 0), (47, .aload_n 0, 1, 0, 0, 0)], [(48, .getfield 170, 3, 12, 18, 0), (51, .bipush 13, 2, 13, 0, 0), (53, .if_icmp .ne 7, 3, 60, 0, 0), (56, .iconst 1, 1, 1, 0, 0), (57, .goto 4, 3, 61, 0, 0), (60, .iconst 0, 1, 0, 0, 0), (61, .ireturn, 1, 0, 0, 0)]]
set_option maxRecDepth 100000 in
theorem oc_M_begins : okC 261 c_M_begins = true := by decide +kernel
def cu_M_begins : List (Nat × List Bool) := []
noncomputable def F_M_begins (O : Type) (a : Nat) (av : List AV) (σ : Mem) (K : AV → Mem → Option O) : Option O := if a = 230 then sm_M_isIn O av σ K else none
theorem fs_M_begins {X : CXT} (hX : XM X) (O : Type) : FS X 2 (F_M_begins O) := by
  intro a av σ K o h
  unfold F_M_begins at h
  rcases ite_s h with ⟨rfl, h⟩ | ⟨_, h⟩
  · obtain ⟨r, h1, h2, h3⟩ := ok_M_isIn hX _ _ _ _ _ h
    exact ⟨r, fun ht => ⟨1, by decide, h1 ht⟩, h2, h3⟩
  cases h
set_option maxRecDepth 100000 in
theorem s_M_begins {X : CXT} (hX : XM X) : ∀ (k0 : Nat) (s : Mem) (o : Bool × Mem), f_M_begins k0 s = some o → BSnd X 2 261 (ovZ o) 0 (entL [.inr (.inr (12, k0))]) [] s := by
  intro k0 s o h
  rw [f_M_begins_eq] at h
  exact evC (chs := c_M_begins) (cuts := cu_M_begins) (G := fun pc ls st σ => none) hX.2.1 hX.2.2 (F := F_M_begins _) (fs_M_begins hX _) (rt_Z rfl) oc_M_begins (by
    intro pc ls st σ o h
    cases h) 160 0 _ _ _ _ h
theorem ok_M_begins {X : CXT} (hX : XM X) : SemOK X 2 261 sm_M_begins := by
  intro O av σ K o h
  unfold sm_M_begins at h
  split at h
  · obtain ⟨r, hf, h⟩ := Option.bind_eq_some_iff.mp h
    exact ⟨ovZ r, fun ht => sp_of hX.1 (by decide) (List.mem_range.mpr (by decide)) (by decide +kernel) ht (Nat.le_of_ble_eq_true rfl) (s_M_begins hX _ _ _ hf), trivial, h⟩
  · cases h
noncomputable def b_M_number (k0 : Nat) (v1 : Int32) (v2 : Int32) (v3 : Int32) (s : Mem) : Option (Bool × Mem) :=
  cif ((rI s k0 18) = ((2 : Int32))) (
    (f_M_isIn (rI s k0 20) v2 v3 s).bind fun r1 =>
    cif ((b2i r1.1) = 0) (
      (f_M_bad k0 ((2 : Int32)) r1.2).bind fun r2 =>
      lf (rB (b2i r2.1)) r2.2) (
      gd (inb v1 (lenM (k0 + 7))) <|
      let s3 : Mem := wI r1.2 (k0 + 7) (ix v1) (rI r1.2 k0 20)
      (f_M_next0 k0 s3).bind fun r4 =>
      some (true, r4))) (
    (f_M_bad k0 ((1 : Int32)) s).bind fun r5 =>
    lf (rB (b2i r5.1)) r5.2)
noncomputable def f_M_number : Nat → Int32 → Int32 → Int32 → Mem → Option (Bool × Mem) := Classical.choose (⟨b_M_number, rfl⟩ : ∃ f : Nat → Int32 → Int32 → Int32 → Mem → Option (Bool × Mem), f = b_M_number)
theorem f_M_number_eq : f_M_number = b_M_number := Classical.choose_spec (⟨b_M_number, rfl⟩ : ∃ f : Nat → Int32 → Int32 → Int32 → Mem → Option (Bool × Mem), f = b_M_number)
noncomputable def sm_M_number (O : Type) (av : List AV) (σ : Mem) (K : AV → Mem → Option O) : Option O := match av with
  | [.inr (.inr (12, k0)), .inl v1, .inl v2, .inl v3] => (f_M_number k0 v1 v2 v3 σ).bind fun r => K (.inl (b2i r.1)) r.2
  | _ => none
def c_M_number : List (List CE) := [[(0, .aload_n 0, 1, 0, 0, 0), (1, .getfield 170, 3, 12, 18, 0), (4, .iconst 2, 1, 2, 0, 0), (5, .if_icmp .eq 9, 3, 14, 0, 0), (8, .aload_n 0, 1, 0, 0, 0), (9, .iconst 1, 1, 1, 0, 0), (10, .invokevirtual 191, 3, 250, 2, 25), (13, .ireturn, 1, 0, 0, 0), (14, .aload_n 0, 1, 0, 0, 0), (15, .getfield 182, 3, 12, 20, 0)], [(18, .iload_n 2, 1, 0, 0, 0), (19, .iload_n 3, 1, 0, 0, 0), (20, .invokestatic 60, 3, 230, 3, 1), (23, .ifCond .ne 9, 3, 32, 0, 0), (26, .aload_n 0, 1, 0, 0, 0), (27, .iconst 2, 1, 2, 0, 0), (28, .invokevirtual 191, 3, 250, 2, 25), (31, .ireturn, 1, 0, 0, 0)], [(32, .aload_n 0, 1, 0, 0, 0), (33, .getfield 28, 3, 12, 8, 0), (36, .iload_n 1, 1, 0, 0, 0), (37, .aload_n 0, 1, 0, 0, 0), (38, .getfield 182, 3, 12, 20, 0), (41, .iastore, 1, 0, 0, 0), (42, .aload_n 0, 1, 0, 0, 0), (43, .invokevirtual 193, 3, 240, 1, 24), (46, .iconst 1, 1, 1, 0, 0), (47, .ireturn, 1, 0, 0, 0)]]
set_option maxRecDepth 100000 in
theorem oc_M_number : okC 265 c_M_number = true := by decide +kernel
def cu_M_number : List (Nat × List Bool) := []
noncomputable def F_M_number (O : Type) (a : Nat) (av : List AV) (σ : Mem) (K : AV → Mem → Option O) : Option O := if a = 230 then sm_M_isIn O av σ K else if a = 240 then sm_M_next0 O av σ K else if a = 250 then sm_M_bad O av σ K else none
theorem fs_M_number {X : CXT} (hX : XM X) (O : Type) : FS X 10 (F_M_number O) := by
  intro a av σ K o h
  unfold F_M_number at h
  rcases ite_s h with ⟨rfl, h⟩ | ⟨_, h⟩
  · obtain ⟨r, h1, h2, h3⟩ := ok_M_isIn hX _ _ _ _ _ h
    exact ⟨r, fun ht => ⟨1, by decide, h1 ht⟩, h2, h3⟩
  rcases ite_s h with ⟨rfl, h⟩ | ⟨_, h⟩
  · obtain ⟨r, h1, h2, h3⟩ := ok_M_next0 hX _ _ _ _ _ h
    exact ⟨r, fun ht => ⟨9, by decide, h1 ht⟩, h2, h3⟩
  rcases ite_s h with ⟨rfl, h⟩ | ⟨_, h⟩
  · obtain ⟨r, h1, h2, h3⟩ := ok_M_bad hX _ _ _ _ _ h
    exact ⟨r, fun ht => ⟨1, by decide, h1 ht⟩, h2, h3⟩
  cases h
set_option maxRecDepth 100000 in
theorem s_M_number {X : CXT} (hX : XM X) : ∀ (k0 : Nat) (v1 : Int32) (v2 : Int32) (v3 : Int32) (s : Mem) (o : Bool × Mem), f_M_number k0 v1 v2 v3 s = some o → BSnd X 10 265 (ovZ o) 0 (entL [.inr (.inr (12, k0)), .inl v1, .inl v2, .inl v3]) [] s := by
  intro k0 v1 v2 v3 s o h
  rw [f_M_number_eq] at h
  exact evC (chs := c_M_number) (cuts := cu_M_number) (G := fun pc ls st σ => none) hX.2.1 hX.2.2 (F := F_M_number _) (fs_M_number hX _) (rt_Z rfl) oc_M_number (by
    intro pc ls st σ o h
    cases h) 152 0 _ _ _ _ h
theorem ok_M_number {X : CXT} (hX : XM X) : SemOK X 10 265 sm_M_number := by
  intro O av σ K o h
  unfold sm_M_number at h
  split at h
  · obtain ⟨r, hf, h⟩ := Option.bind_eq_some_iff.mp h
    exact ⟨ovZ r, fun ht => sp_of hX.1 (by decide) (List.mem_range.mpr (by decide)) (by decide +kernel) ht (Nat.le_of_ble_eq_true rfl) (s_M_number hX _ _ _ _ _ _ hf), trivial, h⟩
  · cases h
noncomputable def b_M_told (k0 : Nat) (v1 : Int32) (v2 : Int32) (v3 : Int32) (v4 : Int32) (s : Mem) : Option (Bool × Mem) :=
  (f_M_need k0 v2 s).bind fun r1 =>
  cif ((b2i r1.1) = 0) (
    some (false, r1.2)) (
    (f_M_number k0 v1 v3 v4 r1.2).bind fun r2 =>
    cif ((b2i r2.1) = 0) (
      some (false, r2.2)) (
      some (true, r2.2)))
noncomputable def f_M_told : Nat → Int32 → Int32 → Int32 → Int32 → Mem → Option (Bool × Mem) := Classical.choose (⟨b_M_told, rfl⟩ : ∃ f : Nat → Int32 → Int32 → Int32 → Int32 → Mem → Option (Bool × Mem), f = b_M_told)
theorem f_M_told_eq : f_M_told = b_M_told := Classical.choose_spec (⟨b_M_told, rfl⟩ : ∃ f : Nat → Int32 → Int32 → Int32 → Int32 → Mem → Option (Bool × Mem), f = b_M_told)
noncomputable def sm_M_told (O : Type) (av : List AV) (σ : Mem) (K : AV → Mem → Option O) : Option O := match av with
  | [.inr (.inr (12, k0)), .inl v1, .inl v2, .inl v3, .inl v4] => (f_M_told k0 v1 v2 v3 v4 σ).bind fun r => K (.inl (b2i r.1)) r.2
  | _ => none
def c_M_told : List (List CE) := [[(0, .aload_n 0, 1, 0, 0, 0), (1, .iload_n 2, 1, 0, 0, 0), (2, .invokevirtual 225, 3, 259, 2, 25), (5, .ifCond .eq 18, 3, 23, 0, 0), (8, .aload_n 0, 1, 0, 0, 0), (9, .iload_n 1, 1, 0, 0, 0), (10, .iload_n 3, 1, 0, 0, 0), (11, .iload 4, 2, 0, 0, 0), (13, .invokevirtual 237, 3, 265, 4, 25)], [(16, .ifCond .eq 7, 3, 23, 0, 0), (19, .iconst 1, 1, 1, 0, 0), (20, .goto 4, 3, 24, 0, 0), (23, .iconst 0, 1, 0, 0, 0), (24, .ireturn, 1, 0, 0, 0)]]
set_option maxRecDepth 100000 in
theorem oc_M_told : okC 264 c_M_told = true := by decide +kernel
def cu_M_told : List (Nat × List Bool) := []
noncomputable def F_M_told (O : Type) (a : Nat) (av : List AV) (σ : Mem) (K : AV → Mem → Option O) : Option O := if a = 259 then sm_M_need O av σ K else if a = 265 then sm_M_number O av σ K else none
theorem fs_M_told {X : CXT} (hX : XM X) (O : Type) : FS X 11 (F_M_told O) := by
  intro a av σ K o h
  unfold F_M_told at h
  rcases ite_s h with ⟨rfl, h⟩ | ⟨_, h⟩
  · obtain ⟨r, h1, h2, h3⟩ := ok_M_need hX _ _ _ _ _ h
    exact ⟨r, fun ht => ⟨10, by decide, h1 ht⟩, h2, h3⟩
  rcases ite_s h with ⟨rfl, h⟩ | ⟨_, h⟩
  · obtain ⟨r, h1, h2, h3⟩ := ok_M_number hX _ _ _ _ _ h
    exact ⟨r, fun ht => ⟨10, by decide, h1 ht⟩, h2, h3⟩
  cases h
set_option maxRecDepth 100000 in
theorem s_M_told {X : CXT} (hX : XM X) : ∀ (k0 : Nat) (v1 : Int32) (v2 : Int32) (v3 : Int32) (v4 : Int32) (s : Mem) (o : Bool × Mem), f_M_told k0 v1 v2 v3 v4 s = some o → BSnd X 11 264 (ovZ o) 0 (entL [.inr (.inr (12, k0)), .inl v1, .inl v2, .inl v3, .inl v4]) [] s := by
  intro k0 v1 v2 v3 v4 s o h
  rw [f_M_told_eq] at h
  exact evC (chs := c_M_told) (cuts := cu_M_told) (G := fun pc ls st σ => none) hX.2.1 hX.2.2 (F := F_M_told _) (fs_M_told hX _) (rt_Z rfl) oc_M_told (by
    intro pc ls st σ o h
    cases h) 96 0 _ _ _ _ h
theorem ok_M_told {X : CXT} (hX : XM X) : SemOK X 11 264 sm_M_told := by
  intro O av σ K o h
  unfold sm_M_told at h
  split at h
  · obtain ⟨r, hf, h⟩ := Option.bind_eq_some_iff.mp h
    exact ⟨ovZ r, fun ht => sp_of hX.1 (by decide) (List.mem_range.mpr (by decide)) (by decide +kernel) ht (Nat.le_of_ble_eq_true rfl) (s_M_told hX _ _ _ _ _ _ _ hf), trivial, h⟩
  · cases h
noncomputable def b_M_aDeed (k0 : Nat) (s : Mem) : Option (Bool × Mem) :=
  let x1 : Int32 := ((3 : Int32)) * (rI s k0 15)
  (f_M_told k0 x1 ((7 : Int32)) ((0 : Int32)) ((999 : Int32)) s).bind fun r2 =>
  cif ((b2i r2.1) = 0) (
    some (false, r2.2)) (
    (f_M_told k0 (x1 + ((1 : Int32))) ((8 : Int32)) ((0 : Int32)) ((5 : Int32)) r2.2).bind fun r3 =>
    cif ((b2i r3.1) = 0) (
      some (false, r3.2)) (
      (f_M_told k0 (x1 + ((2 : Int32))) ((9 : Int32)) ((0 : Int32)) ((99 : Int32)) r3.2).bind fun r4 =>
      cif ((b2i r4.1) = 0) (
        some (false, r4.2)) (
        some (true, r4.2))))
noncomputable def f_M_aDeed : Nat → Mem → Option (Bool × Mem) := Classical.choose (⟨b_M_aDeed, rfl⟩ : ∃ f : Nat → Mem → Option (Bool × Mem), f = b_M_aDeed)
theorem f_M_aDeed_eq : f_M_aDeed = b_M_aDeed := Classical.choose_spec (⟨b_M_aDeed, rfl⟩ : ∃ f : Nat → Mem → Option (Bool × Mem), f = b_M_aDeed)
noncomputable def sm_M_aDeed (O : Type) (av : List AV) (σ : Mem) (K : AV → Mem → Option O) : Option O := match av with
  | [.inr (.inr (12, k0))] => (f_M_aDeed k0 σ).bind fun r => K (.inl (b2i r.1)) r.2
  | _ => none
def c_M_aDeed : List (List CE) := [[(0, .iconst 3, 1, 3, 0, 0), (1, .aload_n 0, 1, 0, 0, 0), (2, .getfield 240, 3, 12, 15, 0), (5, .imul, 1, 0, 0, 0), (6, .istore_n 1, 1, 0, 0, 0), (7, .aload_n 0, 1, 0, 0, 0), (8, .iload_n 1, 1, 0, 0, 0), (9, .bipush 7, 2, 7, 0, 0), (11, .iconst 0, 1, 0, 0, 0), (12, .sipush 999, 3, 999, 0, 0), (15, .invokevirtual 243, 3, 264, 5, 25)], [(18, .ifCond .eq 36, 3, 54, 0, 0), (21, .aload_n 0, 1, 0, 0, 0), (22, .iload_n 1, 1, 0, 0, 0), (23, .iconst 1, 1, 1, 0, 0), (24, .iadd, 1, 0, 0, 0), (25, .bipush 8, 2, 8, 0, 0), (27, .iconst 0, 1, 0, 0, 0), (28, .iconst 5, 1, 5, 0, 0), (29, .invokevirtual 243, 3, 264, 5, 25)], [(32, .ifCond .eq 22, 3, 54, 0, 0), (35, .aload_n 0, 1, 0, 0, 0), (36, .iload_n 1, 1, 0, 0, 0), (37, .iconst 2, 1, 2, 0, 0), (38, .iadd, 1, 0, 0, 0), (39, .bipush 9, 2, 9, 0, 0), (41, .iconst 0, 1, 0, 0, 0), (42, .bipush 99, 2, 99, 0, 0), (44, .invokevirtual 243, 3, 264, 5, 25), (47, .ifCond .eq 7, 3, 54, 0, 0)], [(50, .iconst 1, 1, 1, 0, 0), (51, .goto 4, 3, 55, 0, 0), (54, .iconst 0, 1, 0, 0, 0), (55, .ireturn, 1, 0, 0, 0)]]
set_option maxRecDepth 100000 in
theorem oc_M_aDeed : okC 263 c_M_aDeed = true := by decide +kernel
def cu_M_aDeed : List (Nat × List Bool) := []
noncomputable def F_M_aDeed (O : Type) (a : Nat) (av : List AV) (σ : Mem) (K : AV → Mem → Option O) : Option O := if a = 264 then sm_M_told O av σ K else none
theorem fs_M_aDeed {X : CXT} (hX : XM X) (O : Type) : FS X 12 (F_M_aDeed O) := by
  intro a av σ K o h
  unfold F_M_aDeed at h
  rcases ite_s h with ⟨rfl, h⟩ | ⟨_, h⟩
  · obtain ⟨r, h1, h2, h3⟩ := ok_M_told hX _ _ _ _ _ h
    exact ⟨r, fun ht => ⟨11, by decide, h1 ht⟩, h2, h3⟩
  cases h
set_option maxRecDepth 100000 in
theorem s_M_aDeed {X : CXT} (hX : XM X) : ∀ (k0 : Nat) (s : Mem) (o : Bool × Mem), f_M_aDeed k0 s = some o → BSnd X 12 263 (ovZ o) 0 (entL [.inr (.inr (12, k0))]) [] s := by
  intro k0 s o h
  rw [f_M_aDeed_eq] at h
  exact evC (chs := c_M_aDeed) (cuts := cu_M_aDeed) (G := fun pc ls st σ => none) hX.2.1 hX.2.2 (F := F_M_aDeed _) (fs_M_aDeed hX _) (rt_Z rfl) oc_M_aDeed (by
    intro pc ls st σ o h
    cases h) 176 0 _ _ _ _ h
theorem ok_M_aDeed {X : CXT} (hX : XM X) : SemOK X 12 263 sm_M_aDeed := by
  intro O av σ K o h
  unfold sm_M_aDeed at h
  split at h
  · obtain ⟨r, hf, h⟩ := Option.bind_eq_some_iff.mp h
    exact ⟨ovZ r, fun ht => sp_of hX.1 (by decide) (List.mem_range.mpr (by decide)) (by decide +kernel) ht (Nat.le_of_ble_eq_true rfl) (s_M_aDeed hX _ _ _ hf), trivial, h⟩
  · cases h
noncomputable def f_M_aPlace_23 (K85 : Nat → Int32 → Mem → Option (Bool × Mem)) : Nat → Nat → Int32 → Int32 → Mem → Option (Bool × Mem)
  | 0, _, _, _, _ => none
  | n + 1, k0, v1, v2, s =>
    cif ((rI s k0 15) ≤ v2) (
      K85 k0 v1 s) (
      cif ((rI s k0 18) = ((2 : Int32))) (
        gd (inb (((2 : Int32)) * v2) (lenM (k0 + 7))) <|
        gd (inb v1 (lenM (k0 + 7))) <|
        cif ((rI s (k0 + 7) (ix (((2 : Int32)) * v2))) = (rI s (k0 + 7) (ix v1))) (
          gd (inb ((((2 : Int32)) * v2) + ((1 : Int32))) (lenM (k0 + 7))) <|
          cif ((rI s (k0 + 7) (ix ((((2 : Int32)) * v2) + ((1 : Int32))))) = (rI s k0 20)) (
            (f_M_bad k0 ((2 : Int32)) s).bind fun r1 =>
            lf (rB (b2i r1.1)) r1.2) (
            f_M_aPlace_23 K85 n k0 v1 (v2 + (1 : Int32)) s)) (
          f_M_aPlace_23 K85 n k0 v1 (v2 + (1 : Int32)) s)) (
        f_M_aPlace_23 K85 n k0 v1 (v2 + (1 : Int32)) s))
noncomputable def f_M_aPlace_85 (k0 : Nat) (v1 : Int32) (s : Mem) : Option (Bool × Mem) :=
  (f_M_number k0 (v1 + ((1 : Int32))) ((0 : Int32)) ((199 : Int32)) s).bind fun r1 =>
  lf (rB (b2i r1.1)) r1.2
noncomputable def b_M_aPlace (k0 : Nat) (s : Mem) : Option (Bool × Mem) :=
  let x1 : Int32 := ((2 : Int32)) * (rI s k0 15)
  gd (inb x1 (lenM (k0 + 7))) <|
  let s2 : Mem := wI s (k0 + 7) (ix x1) (rI s k0 18)
  (f_M_next0 k0 s2).bind fun r3 =>
  f_M_aPlace_23 (fun k0 v1 s => f_M_aPlace_85 k0 v1 s) FU k0 x1 ((0 : Int32)) r3
noncomputable def f_M_aPlace : Nat → Mem → Option (Bool × Mem) := Classical.choose (⟨b_M_aPlace, rfl⟩ : ∃ f : Nat → Mem → Option (Bool × Mem), f = b_M_aPlace)
theorem f_M_aPlace_eq : f_M_aPlace = b_M_aPlace := Classical.choose_spec (⟨b_M_aPlace, rfl⟩ : ∃ f : Nat → Mem → Option (Bool × Mem), f = b_M_aPlace)
noncomputable def sm_M_aPlace (O : Type) (av : List AV) (σ : Mem) (K : AV → Mem → Option O) : Option O := match av with
  | [.inr (.inr (12, k0))] => (f_M_aPlace k0 σ).bind fun r => K (.inl (b2i r.1)) r.2
  | _ => none
def c_M_aPlace : List (List CE) := [[(0, .iconst 2, 1, 2, 0, 0), (1, .aload_n 0, 1, 0, 0, 0), (2, .getfield 240, 3, 12, 15, 0), (5, .imul, 1, 0, 0, 0), (6, .istore_n 1, 1, 0, 0, 0), (7, .aload_n 0, 1, 0, 0, 0), (8, .getfield 28, 3, 12, 8, 0), (11, .iload_n 1, 1, 0, 0, 0), (12, .aload_n 0, 1, 0, 0, 0), (13, .getfield 170, 3, 12, 18, 0)], [(16, .iastore, 1, 0, 0, 0), (17, .aload_n 0, 1, 0, 0, 0), (18, .invokevirtual 193, 3, 240, 1, 24), (21, .iconst 0, 1, 0, 0, 0), (22, .istore_n 2, 1, 0, 0, 0), (23, .iload_n 2, 1, 0, 0, 0), (24, .aload_n 0, 1, 0, 0, 0), (25, .getfield 240, 3, 12, 15, 0), (28, .if_icmp .ge 57, 3, 85, 0, 0), (31, .aload_n 0, 1, 0, 0, 0)], [(32, .getfield 170, 3, 12, 18, 0), (35, .iconst 2, 1, 2, 0, 0), (36, .if_icmp .ne 43, 3, 79, 0, 0), (39, .aload_n 0, 1, 0, 0, 0), (40, .getfield 28, 3, 12, 8, 0), (43, .iconst 2, 1, 2, 0, 0), (44, .iload_n 2, 1, 0, 0, 0), (45, .imul, 1, 0, 0, 0), (46, .iaload, 1, 0, 0, 0), (47, .aload_n 0, 1, 0, 0, 0)], [(48, .getfield 28, 3, 12, 8, 0), (51, .iload_n 1, 1, 0, 0, 0), (52, .iaload, 1, 0, 0, 0), (53, .if_icmp .ne 26, 3, 79, 0, 0), (56, .aload_n 0, 1, 0, 0, 0), (57, .getfield 28, 3, 12, 8, 0), (60, .iconst 2, 1, 2, 0, 0), (61, .iload_n 2, 1, 0, 0, 0), (62, .imul, 1, 0, 0, 0), (63, .iconst 1, 1, 1, 0, 0)], [(64, .iadd, 1, 0, 0, 0), (65, .iaload, 1, 0, 0, 0), (66, .aload_n 0, 1, 0, 0, 0), (67, .getfield 182, 3, 12, 20, 0), (70, .if_icmp .ne 9, 3, 79, 0, 0), (73, .aload_n 0, 1, 0, 0, 0), (74, .iconst 2, 1, 2, 0, 0), (75, .invokevirtual 191, 3, 250, 2, 25), (78, .ireturn, 1, 0, 0, 0), (79, .iinc 2 1, 3, 1, 0, 0)], [(82, .goto (-59), 3, 23, 0, 0), (85, .aload_n 0, 1, 0, 0, 0), (86, .iload_n 1, 1, 0, 0, 0), (87, .iconst 1, 1, 1, 0, 0), (88, .iadd, 1, 0, 0, 0), (89, .iconst 0, 1, 0, 0, 0), (90, .sipush 199, 3, 199, 0, 0), (93, .invokevirtual 237, 3, 265, 4, 25)], [(96, .ireturn, 1, 0, 0, 0)]]
set_option maxRecDepth 100000 in
theorem oc_M_aPlace : okC 266 c_M_aPlace = true := by decide +kernel
def cu_M_aPlace : List (Nat × List Bool) := [(23, [true, true, true]), (85, [true, true])]
noncomputable def F_M_aPlace (O : Type) (a : Nat) (av : List AV) (σ : Mem) (K : AV → Mem → Option O) : Option O := if a = 240 then sm_M_next0 O av σ K else if a = 250 then sm_M_bad O av σ K else if a = 265 then sm_M_number O av σ K else none
theorem fs_M_aPlace {X : CXT} (hX : XM X) (O : Type) : FS X 11 (F_M_aPlace O) := by
  intro a av σ K o h
  unfold F_M_aPlace at h
  rcases ite_s h with ⟨rfl, h⟩ | ⟨_, h⟩
  · obtain ⟨r, h1, h2, h3⟩ := ok_M_next0 hX _ _ _ _ _ h
    exact ⟨r, fun ht => ⟨9, by decide, h1 ht⟩, h2, h3⟩
  rcases ite_s h with ⟨rfl, h⟩ | ⟨_, h⟩
  · obtain ⟨r, h1, h2, h3⟩ := ok_M_bad hX _ _ _ _ _ h
    exact ⟨r, fun ht => ⟨1, by decide, h1 ht⟩, h2, h3⟩
  rcases ite_s h with ⟨rfl, h⟩ | ⟨_, h⟩
  · obtain ⟨r, h1, h2, h3⟩ := ok_M_number hX _ _ _ _ _ h
    exact ⟨r, fun ht => ⟨10, by decide, h1 ht⟩, h2, h3⟩
  cases h
def hd_M_aPlace_23 {O : Type} (g : Nat → Int32 → Int32 → Mem → Option O) (ls : OL) (st : List AV) (σ : Mem) : Option O := match ls, st with
  | [some (.inr (.inr (12, k0))), some (.inl v1), some (.inl v2)], [] => g k0 v1 v2 σ
  | _, _ => none
theorem hs_M_aPlace_23 {X : CXT} {g : Nat → Int32 → Int32 → Mem → Option (Bool × Mem)} (hg : ∀ (k0 : Nat) (v1 : Int32) (v2 : Int32) (s : Mem) (o : Bool × Mem), g k0 v1 v2 s = some o → BSnd X 11 266 (ovZ o) 23 [some (.inr (.inr (12, k0))), some (.inl v1), some (.inl v2)] [] s) : ∀ ls st σ o, hd_M_aPlace_23 g ls st σ = some o → BSnd X 11 266 (ovZ o) 23 ls st σ := by
  intro ls st σ o h
  unfold hd_M_aPlace_23 at h
  split at h
  · exact hg _ _ _ _ _ h
  · cases h
def hd_M_aPlace_85 {O : Type} (g : Nat → Int32 → Mem → Option O) (ls : OL) (st : List AV) (σ : Mem) : Option O := match ls, st with
  | [some (.inr (.inr (12, k0))), some (.inl v1)], [] => g k0 v1 σ
  | _, _ => none
theorem hs_M_aPlace_85 {X : CXT} {g : Nat → Int32 → Mem → Option (Bool × Mem)} (hg : ∀ (k0 : Nat) (v1 : Int32) (s : Mem) (o : Bool × Mem), g k0 v1 s = some o → BSnd X 11 266 (ovZ o) 85 [some (.inr (.inr (12, k0))), some (.inl v1)] [] s) : ∀ ls st σ o, hd_M_aPlace_85 g ls st σ = some o → BSnd X 11 266 (ovZ o) 85 ls st σ := by
  intro ls st σ o h
  unfold hd_M_aPlace_85 at h
  split at h
  · exact hg _ _ _ _ h
  · cases h
set_option maxRecDepth 100000 in
theorem s_M_aPlace_23 {X : CXT} (hX : XM X) {K85 : Nat → Int32 → Mem → Option (Bool × Mem)} (hK85 : ∀ (k0 : Nat) (v1 : Int32) (s : Mem) (o : Bool × Mem), K85 k0 v1 s = some o → BSnd X 11 266 (ovZ o) 85 [some (.inr (.inr (12, k0))), some (.inl v1)] [] s) : ∀ n : Nat, ∀ (k0 : Nat) (v1 : Int32) (v2 : Int32) (s : Mem) (o : Bool × Mem), f_M_aPlace_23 K85 n k0 v1 v2 s = some o → BSnd X 11 266 (ovZ o) 23 [some (.inr (.inr (12, k0))), some (.inl v1), some (.inl v2)] [] s := by
  intro n
  induction n with
  | zero => intro k0 v1 v2 s o h; cases h
  | succ n ih =>
    intro k0 v1 v2 s o h
    exact evC (chs := c_M_aPlace) (cuts := cu_M_aPlace) (G := fun pc ls st σ => if pc = 23 then hd_M_aPlace_23 (fun k0 v1 v2 s => f_M_aPlace_23 K85 n k0 v1 v2 s) ls st σ else if pc = 85 then hd_M_aPlace_85 (fun k0 v1 s => K85 k0 v1 s) ls st σ else none) hX.2.1 hX.2.2 (F := F_M_aPlace _) (fs_M_aPlace hX _) (rt_Z rfl) oc_M_aPlace (by
    intro pc ls st σ o h
    rcases ite_s h with ⟨rfl, h⟩ | ⟨_, h⟩
    · exact hs_M_aPlace_23 ih _ _ _ _ h
    rcases ite_s h with ⟨rfl, h⟩ | ⟨_, h⟩
    · exact hs_M_aPlace_85 hK85 _ _ _ _ h
    cases h) 276 23 _ _ _ _ h
set_option maxRecDepth 100000 in
theorem s_M_aPlace_85 {X : CXT} (hX : XM X) : ∀ (k0 : Nat) (v1 : Int32) (s : Mem) (o : Bool × Mem), f_M_aPlace_85 k0 v1 s = some o → BSnd X 11 266 (ovZ o) 85 [some (.inr (.inr (12, k0))), some (.inl v1)] [] s := by
  intro k0 v1 s o h
  exact evC (chs := c_M_aPlace) (cuts := cu_M_aPlace) (G := fun pc ls st σ => none) hX.2.1 hX.2.2 (F := F_M_aPlace _) (fs_M_aPlace hX _) (rt_Z rfl) oc_M_aPlace (by
    intro pc ls st σ o h
    cases h) 276 85 _ _ _ _ h
set_option maxRecDepth 100000 in
theorem s_M_aPlace {X : CXT} (hX : XM X) : ∀ (k0 : Nat) (s : Mem) (o : Bool × Mem), f_M_aPlace k0 s = some o → BSnd X 11 266 (ovZ o) 0 (entL [.inr (.inr (12, k0))]) [] s := by
  intro k0 s o h
  rw [f_M_aPlace_eq] at h
  exact evC (chs := c_M_aPlace) (cuts := cu_M_aPlace) (G := fun pc ls st σ => if pc = 23 then hd_M_aPlace_23 (fun k0 v1 v2 s => f_M_aPlace_23 (fun k0 v1 s => f_M_aPlace_85 k0 v1 s) FU k0 v1 v2 s) ls st σ else if pc = 85 then hd_M_aPlace_85 (fun k0 v1 s => f_M_aPlace_85 k0 v1 s) ls st σ else none) hX.2.1 hX.2.2 (F := F_M_aPlace _) (fs_M_aPlace hX _) (rt_Z rfl) oc_M_aPlace (by
    intro pc ls st σ o h
    rcases ite_s h with ⟨rfl, h⟩ | ⟨_, h⟩
    · exact hs_M_aPlace_23 (s_M_aPlace_23 hX (s_M_aPlace_85 hX) FU) _ _ _ _ h
    rcases ite_s h with ⟨rfl, h⟩ | ⟨_, h⟩
    · exact hs_M_aPlace_85 (s_M_aPlace_85 hX) _ _ _ _ h
    cases h) 276 0 _ _ _ _ h
theorem ok_M_aPlace {X : CXT} (hX : XM X) : SemOK X 11 266 sm_M_aPlace := by
  intro O av σ K o h
  unfold sm_M_aPlace at h
  split at h
  · obtain ⟨r, hf, h⟩ := Option.bind_eq_some_iff.mp h
    exact ⟨ovZ r, fun ht => sp_of hX.1 (by decide) (List.mem_range.mpr (by decide)) (by decide +kernel) ht (Nat.le_of_ble_eq_true rfl) (s_M_aPlace hX _ _ _ hf), trivial, h⟩
  · cases h
noncomputable def b_M_aSetting (k0 : Nat) (s : Mem) : Option (Bool × Mem) :=
  (f_M_told k0 (((2 : Int32)) * (rI s k0 15)) ((13 : Int32)) ((0 : Int32)) ((999 : Int32)) s).bind fun r1 =>
  cif ((b2i r1.1) = 0) (
    some (false, r1.2)) (
    gd (inb ((49 : Int32)) (lenM (k0 + 1))) <|
    (f_M_number k0 ((((2 : Int32)) * (rI r1.2 k0 15)) + ((1 : Int32))) ((0 : Int32)) ((rI r1.2 (k0 + 1) (ix ((49 : Int32)))) - ((1 : Int32))) r1.2).bind fun r2 =>
    cif ((b2i r2.1) = 0) (
      some (false, r2.2)) (
      some (true, r2.2)))
noncomputable def f_M_aSetting : Nat → Mem → Option (Bool × Mem) := Classical.choose (⟨b_M_aSetting, rfl⟩ : ∃ f : Nat → Mem → Option (Bool × Mem), f = b_M_aSetting)
theorem f_M_aSetting_eq : f_M_aSetting = b_M_aSetting := Classical.choose_spec (⟨b_M_aSetting, rfl⟩ : ∃ f : Nat → Mem → Option (Bool × Mem), f = b_M_aSetting)
noncomputable def sm_M_aSetting (O : Type) (av : List AV) (σ : Mem) (K : AV → Mem → Option O) : Option O := match av with
  | [.inr (.inr (12, k0))] => (f_M_aSetting k0 σ).bind fun r => K (.inl (b2i r.1)) r.2
  | _ => none
def c_M_aSetting : List (List CE) := [[(0, .aload_n 0, 1, 0, 0, 0), (1, .iconst 2, 1, 2, 0, 0), (2, .aload_n 0, 1, 0, 0, 0), (3, .getfield 240, 3, 12, 15, 0), (6, .imul, 1, 0, 0, 0), (7, .bipush 13, 2, 13, 0, 0), (9, .iconst 0, 1, 0, 0, 0), (10, .sipush 999, 3, 999, 0, 0), (13, .invokevirtual 243, 3, 264, 5, 25)], [(16, .ifCond .eq 32, 3, 48, 0, 0), (19, .aload_n 0, 1, 0, 0, 0), (20, .iconst 2, 1, 2, 0, 0), (21, .aload_n 0, 1, 0, 0, 0), (22, .getfield 240, 3, 12, 15, 0), (25, .imul, 1, 0, 0, 0), (26, .iconst 1, 1, 1, 0, 0), (27, .iadd, 1, 0, 0, 0), (28, .iconst 0, 1, 0, 0, 0), (29, .aload_n 0, 1, 0, 0, 0), (30, .getfield 7, 3, 12, 0, 0)], [(33, .bipush 49, 2, 49, 0, 0), (35, .iaload, 1, 0, 0, 0), (36, .iconst 1, 1, 1, 0, 0), (37, .isub, 1, 0, 0, 0), (38, .invokevirtual 237, 3, 265, 4, 25), (41, .ifCond .eq 7, 3, 48, 0, 0), (44, .iconst 1, 1, 1, 0, 0), (45, .goto 4, 3, 49, 0, 0)], [(48, .iconst 0, 1, 0, 0, 0), (49, .ireturn, 1, 0, 0, 0)]]
set_option maxRecDepth 100000 in
theorem oc_M_aSetting : okC 267 c_M_aSetting = true := by decide +kernel
def cu_M_aSetting : List (Nat × List Bool) := []
noncomputable def F_M_aSetting (O : Type) (a : Nat) (av : List AV) (σ : Mem) (K : AV → Mem → Option O) : Option O := if a = 264 then sm_M_told O av σ K else if a = 265 then sm_M_number O av σ K else none
theorem fs_M_aSetting {X : CXT} (hX : XM X) (O : Type) : FS X 12 (F_M_aSetting O) := by
  intro a av σ K o h
  unfold F_M_aSetting at h
  rcases ite_s h with ⟨rfl, h⟩ | ⟨_, h⟩
  · obtain ⟨r, h1, h2, h3⟩ := ok_M_told hX _ _ _ _ _ h
    exact ⟨r, fun ht => ⟨11, by decide, h1 ht⟩, h2, h3⟩
  rcases ite_s h with ⟨rfl, h⟩ | ⟨_, h⟩
  · obtain ⟨r, h1, h2, h3⟩ := ok_M_number hX _ _ _ _ _ h
    exact ⟨r, fun ht => ⟨10, by decide, h1 ht⟩, h2, h3⟩
  cases h
set_option maxRecDepth 100000 in
theorem s_M_aSetting {X : CXT} (hX : XM X) : ∀ (k0 : Nat) (s : Mem) (o : Bool × Mem), f_M_aSetting k0 s = some o → BSnd X 12 267 (ovZ o) 0 (entL [.inr (.inr (12, k0))]) [] s := by
  intro k0 s o h
  rw [f_M_aSetting_eq] at h
  exact evC (chs := c_M_aSetting) (cuts := cu_M_aSetting) (G := fun pc ls st σ => none) hX.2.1 hX.2.2 (F := F_M_aSetting _) (fs_M_aSetting hX _) (rt_Z rfl) oc_M_aSetting (by
    intro pc ls st σ o h
    cases h) 160 0 _ _ _ _ h
theorem ok_M_aSetting {X : CXT} (hX : XM X) : SemOK X 12 267 sm_M_aSetting := by
  intro O av σ K o h
  unfold sm_M_aSetting at h
  split at h
  · obtain ⟨r, hf, h⟩ := Option.bind_eq_some_iff.mp h
    exact ⟨ovZ r, fun ht => sp_of hX.1 (by decide) (List.mem_range.mpr (by decide)) (by decide +kernel) ht (Nat.le_of_ble_eq_true rfl) (s_M_aSetting hX _ _ _ hf), trivial, h⟩
  · cases h
noncomputable def b_M_aRow (k0 : Nat) (s : Mem) : Option (Bool × Mem) :=
  cif ((rI s k0 12) = ((1 : Int32))) (
    (f_M_aDeed k0 s).bind fun r1 =>
    cif ((b2i r1.1) = 0) (
      some (false, r1.2)) (
      (f_M_need k0 ((159 : Int32)) r1.2).bind fun r2 =>
      cif ((b2i r2.1) = 0) (
        some (false, r2.2)) (
        some (true, r2.2)))) (
    cif ((rI s k0 12) = ((2 : Int32))) (
      (f_M_aPlace k0 s).bind fun r3 =>
      cif ((b2i r3.1) = 0) (
        some (false, r3.2)) (
        (f_M_need k0 ((159 : Int32)) r3.2).bind fun r4 =>
        cif ((b2i r4.1) = 0) (
          some (false, r4.2)) (
          some (true, r4.2)))) (
      (f_M_aSetting k0 s).bind fun r5 =>
      cif ((b2i r5.1) = 0) (
        some (false, r5.2)) (
        (f_M_need k0 ((159 : Int32)) r5.2).bind fun r6 =>
        cif ((b2i r6.1) = 0) (
          some (false, r6.2)) (
          some (true, r6.2)))))
noncomputable def f_M_aRow : Nat → Mem → Option (Bool × Mem) := Classical.choose (⟨b_M_aRow, rfl⟩ : ∃ f : Nat → Mem → Option (Bool × Mem), f = b_M_aRow)
theorem f_M_aRow_eq : f_M_aRow = b_M_aRow := Classical.choose_spec (⟨b_M_aRow, rfl⟩ : ∃ f : Nat → Mem → Option (Bool × Mem), f = b_M_aRow)
noncomputable def sm_M_aRow (O : Type) (av : List AV) (σ : Mem) (K : AV → Mem → Option O) : Option O := match av with
  | [.inr (.inr (12, k0))] => (f_M_aRow k0 σ).bind fun r => K (.inl (b2i r.1)) r.2
  | _ => none
def c_M_aRow : List (List CE) := [[(0, .aload_n 0, 1, 0, 0, 0), (1, .getfield 150, 3, 12, 12, 0), (4, .iconst 1, 1, 1, 0, 0), (5, .if_icmp .ne 13, 3, 18, 0, 0), (8, .aload_n 0, 1, 0, 0, 0), (9, .invokevirtual 247, 3, 263, 1, 25), (12, .ifCond .eq 45, 3, 57, 0, 0), (15, .goto 28, 3, 43, 0, 0)], [(18, .aload_n 0, 1, 0, 0, 0), (19, .getfield 150, 3, 12, 12, 0), (22, .iconst 2, 1, 2, 0, 0), (23, .if_icmp .ne 13, 3, 36, 0, 0), (26, .aload_n 0, 1, 0, 0, 0), (27, .invokevirtual 250, 3, 266, 1, 25), (30, .ifCond .eq 27, 3, 57, 0, 0)], [(33, .goto 10, 3, 43, 0, 0), (36, .aload_n 0, 1, 0, 0, 0), (37, .invokevirtual 253, 3, 267, 1, 25), (40, .ifCond .eq 17, 3, 57, 0, 0), (43, .aload_n 0, 1, 0, 0, 0), (44, .sipush 159, 3, 159, 0, 0), (47, .invokevirtual 225, 3, 259, 2, 25)], [(50, .ifCond .eq 7, 3, 57, 0, 0), (53, .iconst 1, 1, 1, 0, 0), (54, .goto 4, 3, 58, 0, 0), (57, .iconst 0, 1, 0, 0, 0), (58, .ireturn, 1, 0, 0, 0)]]
set_option maxRecDepth 100000 in
theorem oc_M_aRow : okC 262 c_M_aRow = true := by decide +kernel
def cu_M_aRow : List (Nat × List Bool) := []
noncomputable def F_M_aRow (O : Type) (a : Nat) (av : List AV) (σ : Mem) (K : AV → Mem → Option O) : Option O := if a = 259 then sm_M_need O av σ K else if a = 263 then sm_M_aDeed O av σ K else if a = 266 then sm_M_aPlace O av σ K else if a = 267 then sm_M_aSetting O av σ K else none
theorem fs_M_aRow {X : CXT} (hX : XM X) (O : Type) : FS X 13 (F_M_aRow O) := by
  intro a av σ K o h
  unfold F_M_aRow at h
  rcases ite_s h with ⟨rfl, h⟩ | ⟨_, h⟩
  · obtain ⟨r, h1, h2, h3⟩ := ok_M_need hX _ _ _ _ _ h
    exact ⟨r, fun ht => ⟨10, by decide, h1 ht⟩, h2, h3⟩
  rcases ite_s h with ⟨rfl, h⟩ | ⟨_, h⟩
  · obtain ⟨r, h1, h2, h3⟩ := ok_M_aDeed hX _ _ _ _ _ h
    exact ⟨r, fun ht => ⟨12, by decide, h1 ht⟩, h2, h3⟩
  rcases ite_s h with ⟨rfl, h⟩ | ⟨_, h⟩
  · obtain ⟨r, h1, h2, h3⟩ := ok_M_aPlace hX _ _ _ _ _ h
    exact ⟨r, fun ht => ⟨11, by decide, h1 ht⟩, h2, h3⟩
  rcases ite_s h with ⟨rfl, h⟩ | ⟨_, h⟩
  · obtain ⟨r, h1, h2, h3⟩ := ok_M_aSetting hX _ _ _ _ _ h
    exact ⟨r, fun ht => ⟨12, by decide, h1 ht⟩, h2, h3⟩
  cases h
set_option maxRecDepth 100000 in
theorem s_M_aRow {X : CXT} (hX : XM X) : ∀ (k0 : Nat) (s : Mem) (o : Bool × Mem), f_M_aRow k0 s = some o → BSnd X 13 262 (ovZ o) 0 (entL [.inr (.inr (12, k0))]) [] s := by
  intro k0 s o h
  rw [f_M_aRow_eq] at h
  exact evC (chs := c_M_aRow) (cuts := cu_M_aRow) (G := fun pc ls st σ => none) hX.2.1 hX.2.2 (F := F_M_aRow _) (fs_M_aRow hX _) (rt_Z rfl) oc_M_aRow (by
    intro pc ls st σ o h
    cases h) 148 0 _ _ _ _ h
theorem ok_M_aRow {X : CXT} (hX : XM X) : SemOK X 13 262 sm_M_aRow := by
  intro O av σ K o h
  unfold sm_M_aRow at h
  split at h
  · obtain ⟨r, hf, h⟩ := Option.bind_eq_some_iff.mp h
    exact ⟨ovZ r, fun ht => sp_of hX.1 (by decide) (List.mem_range.mpr (by decide)) (by decide +kernel) ht (Nat.le_of_ble_eq_true rfl) (s_M_aRow hX _ _ _ hf), trivial, h⟩
  · cases h
noncomputable def f_M_readsRows_7 : Nat → Nat → Int32 → Mem → Option (Bool × Mem)
  | 0, _, _, _ => none
  | n + 1, k0, v1, s =>
    cif (v1 = 0) (
      lf (rB v1) s) (
      cif ((rI s k0 18) = 0) (
        lf (rB v1) s) (
        (f_M_begins k0 s).bind fun r1 =>
        cif ((b2i r1.1) = 0) (
          (f_M_bad k0 ((1 : Int32)) r1.2).bind fun r2 =>
          lf (rB (b2i r2.1)) r2.2) (
          cif ((rI r1.2 k0 15) = ((16 : Int32))) (
            (f_M_bad k0 ((3 : Int32)) r1.2).bind fun r3 =>
            lf (rB (b2i r3.1)) r3.2) (
            (f_M_aRow k0 r1.2).bind fun r4 =>
            let x5 : Int32 := b2i r4.1
            cif (x5 = 0) (
              let s6 : Mem := wI r4.2 k0 15 ((rI r4.2 k0 15) + ((0 : Int32)))
              f_M_readsRows_7 n k0 x5 s6) (
              let s7 : Mem := wI r4.2 k0 15 ((rI r4.2 k0 15) + ((1 : Int32)))
              f_M_readsRows_7 n k0 x5 s7)))))
noncomputable def b_M_readsRows (k0 : Nat) (s : Mem) : Option (Bool × Mem) :=
  let s1 : Mem := wI s k0 15 ((0 : Int32))
  f_M_readsRows_7 FU k0 ((1 : Int32)) s1
noncomputable def f_M_readsRows : Nat → Mem → Option (Bool × Mem) := Classical.choose (⟨b_M_readsRows, rfl⟩ : ∃ f : Nat → Mem → Option (Bool × Mem), f = b_M_readsRows)
theorem f_M_readsRows_eq : f_M_readsRows = b_M_readsRows := Classical.choose_spec (⟨b_M_readsRows, rfl⟩ : ∃ f : Nat → Mem → Option (Bool × Mem), f = b_M_readsRows)
noncomputable def sm_M_readsRows (O : Type) (av : List AV) (σ : Mem) (K : AV → Mem → Option O) : Option O := match av with
  | [.inr (.inr (12, k0))] => (f_M_readsRows k0 σ).bind fun r => K (.inl (b2i r.1)) r.2
  | _ => none
def c_M_readsRows : List (List CE) := [[(0, .aload_n 0, 1, 0, 0, 0), (1, .iconst 0, 1, 0, 0, 0), (2, .putfield 240, 3, 12, 15, 0), (5, .iconst 1, 1, 1, 0, 0), (6, .istore_n 1, 1, 0, 0, 0), (7, .iload_n 1, 1, 0, 0, 0), (8, .ifCond .eq 64, 3, 72, 0, 0), (11, .aload_n 0, 1, 0, 0, 0), (12, .getfield 170, 3, 12, 18, 0), (15, .ifCond .eq 57, 3, 72, 0, 0)], [(18, .aload_n 0, 1, 0, 0, 0), (19, .invokevirtual 256, 3, 261, 1, 25), (22, .ifCond .ne 9, 3, 31, 0, 0), (25, .aload_n 0, 1, 0, 0, 0), (26, .iconst 1, 1, 1, 0, 0), (27, .invokevirtual 191, 3, 250, 2, 25), (30, .ireturn, 1, 0, 0, 0), (31, .aload_n 0, 1, 0, 0, 0)], [(32, .getfield 240, 3, 12, 15, 0), (35, .bipush 16, 2, 16, 0, 0), (37, .if_icmp .ne 9, 3, 46, 0, 0), (40, .aload_n 0, 1, 0, 0, 0), (41, .iconst 3, 1, 3, 0, 0), (42, .invokevirtual 191, 3, 250, 2, 25), (45, .ireturn, 1, 0, 0, 0), (46, .aload_n 0, 1, 0, 0, 0), (47, .invokevirtual 259, 3, 262, 1, 25)], [(50, .istore_n 1, 1, 0, 0, 0), (51, .aload_n 0, 1, 0, 0, 0), (52, .dup, 1, 0, 0, 0), (53, .getfield 240, 3, 12, 15, 0), (56, .iload_n 1, 1, 0, 0, 0), (57, .ifCond .eq 7, 3, 64, 0, 0), (60, .iconst 1, 1, 1, 0, 0), (61, .goto 4, 3, 65, 0, 0)], [(64, .iconst 0, 1, 0, 0, 0), (65, .iadd, 1, 0, 0, 0), (66, .putfield 240, 3, 12, 15, 0), (69, .goto (-62), 3, 7, 0, 0), (72, .iload_n 1, 1, 0, 0, 0), (73, .ireturn, 1, 0, 0, 0)]]
set_option maxRecDepth 100000 in
theorem oc_M_readsRows : okC 260 c_M_readsRows = true := by decide +kernel
def cu_M_readsRows : List (Nat × List Bool) := [(7, [true, true])]
noncomputable def F_M_readsRows (O : Type) (a : Nat) (av : List AV) (σ : Mem) (K : AV → Mem → Option O) : Option O := if a = 250 then sm_M_bad O av σ K else if a = 261 then sm_M_begins O av σ K else if a = 262 then sm_M_aRow O av σ K else none
theorem fs_M_readsRows {X : CXT} (hX : XM X) (O : Type) : FS X 14 (F_M_readsRows O) := by
  intro a av σ K o h
  unfold F_M_readsRows at h
  rcases ite_s h with ⟨rfl, h⟩ | ⟨_, h⟩
  · obtain ⟨r, h1, h2, h3⟩ := ok_M_bad hX _ _ _ _ _ h
    exact ⟨r, fun ht => ⟨1, by decide, h1 ht⟩, h2, h3⟩
  rcases ite_s h with ⟨rfl, h⟩ | ⟨_, h⟩
  · obtain ⟨r, h1, h2, h3⟩ := ok_M_begins hX _ _ _ _ _ h
    exact ⟨r, fun ht => ⟨2, by decide, h1 ht⟩, h2, h3⟩
  rcases ite_s h with ⟨rfl, h⟩ | ⟨_, h⟩
  · obtain ⟨r, h1, h2, h3⟩ := ok_M_aRow hX _ _ _ _ _ h
    exact ⟨r, fun ht => ⟨13, by decide, h1 ht⟩, h2, h3⟩
  cases h
def hd_M_readsRows_7 {O : Type} (g : Nat → Int32 → Mem → Option O) (ls : OL) (st : List AV) (σ : Mem) : Option O := match ls, st with
  | [some (.inr (.inr (12, k0))), some (.inl v1)], [] => g k0 v1 σ
  | _, _ => none
theorem hs_M_readsRows_7 {X : CXT} {g : Nat → Int32 → Mem → Option (Bool × Mem)} (hg : ∀ (k0 : Nat) (v1 : Int32) (s : Mem) (o : Bool × Mem), g k0 v1 s = some o → BSnd X 14 260 (ovZ o) 7 [some (.inr (.inr (12, k0))), some (.inl v1)] [] s) : ∀ ls st σ o, hd_M_readsRows_7 g ls st σ = some o → BSnd X 14 260 (ovZ o) 7 ls st σ := by
  intro ls st σ o h
  unfold hd_M_readsRows_7 at h
  split at h
  · exact hg _ _ _ _ h
  · cases h
set_option maxRecDepth 100000 in
theorem s_M_readsRows_7 {X : CXT} (hX : XM X) : ∀ n : Nat, ∀ (k0 : Nat) (v1 : Int32) (s : Mem) (o : Bool × Mem), f_M_readsRows_7 n k0 v1 s = some o → BSnd X 14 260 (ovZ o) 7 [some (.inr (.inr (12, k0))), some (.inl v1)] [] s := by
  intro n
  induction n with
  | zero => intro k0 v1 s o h; cases h
  | succ n ih =>
    intro k0 v1 s o h
    exact evC (chs := c_M_readsRows) (cuts := cu_M_readsRows) (G := fun pc ls st σ => if pc = 7 then hd_M_readsRows_7 (fun k0 v1 s => f_M_readsRows_7 n k0 v1 s) ls st σ else none) hX.2.1 hX.2.2 (F := F_M_readsRows _) (fs_M_readsRows hX _) (rt_Z rfl) oc_M_readsRows (by
    intro pc ls st σ o h
    rcases ite_s h with ⟨rfl, h⟩ | ⟨_, h⟩
    · exact hs_M_readsRows_7 ih _ _ _ _ h
    cases h) 204 7 _ _ _ _ h
set_option maxRecDepth 100000 in
theorem s_M_readsRows {X : CXT} (hX : XM X) : ∀ (k0 : Nat) (s : Mem) (o : Bool × Mem), f_M_readsRows k0 s = some o → BSnd X 14 260 (ovZ o) 0 (entL [.inr (.inr (12, k0))]) [] s := by
  intro k0 s o h
  rw [f_M_readsRows_eq] at h
  exact evC (chs := c_M_readsRows) (cuts := cu_M_readsRows) (G := fun pc ls st σ => if pc = 7 then hd_M_readsRows_7 (fun k0 v1 s => f_M_readsRows_7 FU k0 v1 s) ls st σ else none) hX.2.1 hX.2.2 (F := F_M_readsRows _) (fs_M_readsRows hX _) (rt_Z rfl) oc_M_readsRows (by
    intro pc ls st σ o h
    rcases ite_s h with ⟨rfl, h⟩ | ⟨_, h⟩
    · exact hs_M_readsRows_7 (s_M_readsRows_7 hX FU) _ _ _ _ h
    cases h) 204 0 _ _ _ _ h
theorem ok_M_readsRows {X : CXT} (hX : XM X) : SemOK X 14 260 sm_M_readsRows := by
  intro O av σ K o h
  unfold sm_M_readsRows at h
  split at h
  · obtain ⟨r, hf, h⟩ := Option.bind_eq_some_iff.mp h
    exact ⟨ovZ r, fun ht => sp_of hX.1 (by decide) (List.mem_range.mpr (by decide)) (by decide +kernel) ht (Nat.le_of_ble_eq_true rfl) (s_M_readsRows hX _ _ _ hf), trivial, h⟩
  · cases h
noncomputable def f_M_putsLaw_13 (K105 : Nat → Mem → Option (Int32 × Mem)) : Nat → Nat → Int32 → Mem → Option (Int32 × Mem)
  | 0, _, _, _ => none
  | n + 1, k0, v1, s =>
    cif ((rI s k0 13) ≤ v1) (
      K105 k0 s) (
      gd (inb (((4 : Int32)) * v1) (lenM (k0 + 5))) <|
      gd (inb (((966 : Int32)) + v1) (lenM (k0 + 1))) <|
      let s1 : Mem := wI s (k0 + 1) (ix (((966 : Int32)) + v1)) (rI s (k0 + 5) (ix (((4 : Int32)) * v1)))
      gd (inb ((((4 : Int32)) * v1) + ((1 : Int32))) (lenM (k0 + 5))) <|
      gd (inb (((982 : Int32)) + v1) (lenM (k0 + 1))) <|
      let s2 : Mem := wI s1 (k0 + 1) (ix (((982 : Int32)) + v1)) (rI s1 (k0 + 5) (ix ((((4 : Int32)) * v1) + ((1 : Int32)))))
      gd (inb ((((4 : Int32)) * v1) + ((2 : Int32))) (lenM (k0 + 5))) <|
      gd (inb (((998 : Int32)) + v1) (lenM (k0 + 1))) <|
      let s3 : Mem := wI s2 (k0 + 1) (ix (((998 : Int32)) + v1)) (rI s2 (k0 + 5) (ix ((((4 : Int32)) * v1) + ((2 : Int32)))))
      gd (inb ((((4 : Int32)) * v1) + ((3 : Int32))) (lenM (k0 + 5))) <|
      gd (inb (((1014 : Int32)) + v1) (lenM (k0 + 1))) <|
      let s4 : Mem := wI s3 (k0 + 1) (ix (((1014 : Int32)) + v1)) (rI s3 (k0 + 5) (ix ((((4 : Int32)) * v1) + ((3 : Int32)))))
      f_M_putsLaw_13 K105 n k0 (v1 + (1 : Int32)) s4)
noncomputable def f_M_putsLaw_107 : Nat → Nat → Int32 → Mem → Option (Int32 × Mem)
  | 0, _, _, _ => none
  | n + 1, k0, v1, s =>
    cif ((((2 : Int32)) * (rI s k0 14)) ≤ v1) (
      some (rI s k0 13, s)) (
      gd (inb v1 (lenM (k0 + 6))) <|
      gd (inb (((1030 : Int32)) + v1) (lenM (k0 + 1))) <|
      let s1 : Mem := wI s (k0 + 1) (ix (((1030 : Int32)) + v1)) (rI s (k0 + 6) (ix v1))
      f_M_putsLaw_107 n k0 (v1 + (1 : Int32)) s1)
noncomputable def f_M_putsLaw_105 (k0 : Nat) (s : Mem) : Option (Int32 × Mem) :=
  f_M_putsLaw_107 FU k0 ((0 : Int32)) s
noncomputable def b_M_putsLaw (k0 : Nat) (s : Mem) : Option (Int32 × Mem) :=
  gd (inb ((52 : Int32)) (lenM (k0 + 1))) <|
  let s1 : Mem := wI s (k0 + 1) (ix ((52 : Int32))) (rI s k0 13)
  f_M_putsLaw_13 (fun k0 s => f_M_putsLaw_105 k0 s) FU k0 ((0 : Int32)) s1
noncomputable def f_M_putsLaw : Nat → Mem → Option (Int32 × Mem) := Classical.choose (⟨b_M_putsLaw, rfl⟩ : ∃ f : Nat → Mem → Option (Int32 × Mem), f = b_M_putsLaw)
theorem f_M_putsLaw_eq : f_M_putsLaw = b_M_putsLaw := Classical.choose_spec (⟨b_M_putsLaw, rfl⟩ : ∃ f : Nat → Mem → Option (Int32 × Mem), f = b_M_putsLaw)
noncomputable def sm_M_putsLaw (O : Type) (av : List AV) (σ : Mem) (K : AV → Mem → Option O) : Option O := match av with
  | [.inr (.inr (12, k0))] => (f_M_putsLaw k0 σ).bind fun r => K (.inl r.1) r.2
  | _ => none
def c_M_putsLaw : List (List CE) := [[(0, .aload_n 0, 1, 0, 0, 0), (1, .getfield 7, 3, 12, 0, 0), (4, .bipush 52, 2, 52, 0, 0), (6, .aload_n 0, 1, 0, 0, 0), (7, .getfield 231, 3, 12, 13, 0), (10, .iastore, 1, 0, 0, 0), (11, .iconst 0, 1, 0, 0, 0), (12, .istore_n 1, 1, 0, 0, 0), (13, .iload_n 1, 1, 0, 0, 0), (14, .aload_n 0, 1, 0, 0, 0), (15, .getfield 231, 3, 12, 13, 0)], [(18, .if_icmp .ge 87, 3, 105, 0, 0), (21, .aload_n 0, 1, 0, 0, 0), (22, .getfield 7, 3, 12, 0, 0), (25, .sipush 966, 3, 966, 0, 0), (28, .iload_n 1, 1, 0, 0, 0), (29, .iadd, 1, 0, 0, 0), (30, .aload_n 0, 1, 0, 0, 0), (31, .getfield 22, 3, 12, 6, 0)], [(34, .iconst 4, 1, 4, 0, 0), (35, .iload_n 1, 1, 0, 0, 0), (36, .imul, 1, 0, 0, 0), (37, .iaload, 1, 0, 0, 0), (38, .iastore, 1, 0, 0, 0), (39, .aload_n 0, 1, 0, 0, 0), (40, .getfield 7, 3, 12, 0, 0), (43, .sipush 982, 3, 982, 0, 0), (46, .iload_n 1, 1, 0, 0, 0), (47, .iadd, 1, 0, 0, 0)], [(48, .aload_n 0, 1, 0, 0, 0), (49, .getfield 22, 3, 12, 6, 0), (52, .iconst 4, 1, 4, 0, 0), (53, .iload_n 1, 1, 0, 0, 0), (54, .imul, 1, 0, 0, 0), (55, .iconst 1, 1, 1, 0, 0), (56, .iadd, 1, 0, 0, 0), (57, .iaload, 1, 0, 0, 0), (58, .iastore, 1, 0, 0, 0), (59, .aload_n 0, 1, 0, 0, 0), (60, .getfield 7, 3, 12, 0, 0), (63, .sipush 998, 3, 998, 0, 0)], [(66, .iload_n 1, 1, 0, 0, 0), (67, .iadd, 1, 0, 0, 0), (68, .aload_n 0, 1, 0, 0, 0), (69, .getfield 22, 3, 12, 6, 0), (72, .iconst 4, 1, 4, 0, 0), (73, .iload_n 1, 1, 0, 0, 0), (74, .imul, 1, 0, 0, 0), (75, .iconst 2, 1, 2, 0, 0), (76, .iadd, 1, 0, 0, 0), (77, .iaload, 1, 0, 0, 0), (78, .iastore, 1, 0, 0, 0), (79, .aload_n 0, 1, 0, 0, 0)], [(80, .getfield 7, 3, 12, 0, 0), (83, .sipush 1014, 3, 1014, 0, 0), (86, .iload_n 1, 1, 0, 0, 0), (87, .iadd, 1, 0, 0, 0), (88, .aload_n 0, 1, 0, 0, 0), (89, .getfield 22, 3, 12, 6, 0), (92, .iconst 4, 1, 4, 0, 0), (93, .iload_n 1, 1, 0, 0, 0), (94, .imul, 1, 0, 0, 0), (95, .iconst 3, 1, 3, 0, 0)], [(96, .iadd, 1, 0, 0, 0), (97, .iaload, 1, 0, 0, 0), (98, .iastore, 1, 0, 0, 0), (99, .iinc 1 1, 3, 1, 0, 0), (102, .goto (-89), 3, 13, 0, 0), (105, .iconst 0, 1, 0, 0, 0), (106, .istore_n 1, 1, 0, 0, 0), (107, .iload_n 1, 1, 0, 0, 0), (108, .iconst 2, 1, 2, 0, 0), (109, .aload_n 0, 1, 0, 0, 0), (110, .getfield 196, 3, 12, 14, 0)], [(113, .imul, 1, 0, 0, 0), (114, .if_icmp .ge 25, 3, 139, 0, 0), (117, .aload_n 0, 1, 0, 0, 0), (118, .getfield 7, 3, 12, 0, 0), (121, .sipush 1030, 3, 1030, 0, 0), (124, .iload_n 1, 1, 0, 0, 0), (125, .iadd, 1, 0, 0, 0), (126, .aload_n 0, 1, 0, 0, 0), (127, .getfield 25, 3, 12, 7, 0)], [(130, .iload_n 1, 1, 0, 0, 0), (131, .iaload, 1, 0, 0, 0), (132, .iastore, 1, 0, 0, 0), (133, .iinc 1 1, 3, 1, 0, 0), (136, .goto (-29), 3, 107, 0, 0), (139, .aload_n 0, 1, 0, 0, 0), (140, .getfield 231, 3, 12, 13, 0), (143, .ireturn, 1, 0, 0, 0)]]
set_option maxRecDepth 100000 in
theorem oc_M_putsLaw : okC 269 c_M_putsLaw = true := by decide +kernel
def cu_M_putsLaw : List (Nat × List Bool) := [(13, [true, true]), (107, [true, true]), (105, [true])]
noncomputable def F_M_putsLaw (O : Type) (a : Nat) (av : List AV) (σ : Mem) (K : AV → Mem → Option O) : Option O := none
theorem fs_M_putsLaw {X : CXT} (hX : XM X) (O : Type) : FS X 1 (F_M_putsLaw O) := by
  intro a av σ K o h
  cases h
def hd_M_putsLaw_13 {O : Type} (g : Nat → Int32 → Mem → Option O) (ls : OL) (st : List AV) (σ : Mem) : Option O := match ls, st with
  | [some (.inr (.inr (12, k0))), some (.inl v1)], [] => g k0 v1 σ
  | _, _ => none
theorem hs_M_putsLaw_13 {X : CXT} {g : Nat → Int32 → Mem → Option (Int32 × Mem)} (hg : ∀ (k0 : Nat) (v1 : Int32) (s : Mem) (o : Int32 × Mem), g k0 v1 s = some o → BSnd X 1 269 (ovI o) 13 [some (.inr (.inr (12, k0))), some (.inl v1)] [] s) : ∀ ls st σ o, hd_M_putsLaw_13 g ls st σ = some o → BSnd X 1 269 (ovI o) 13 ls st σ := by
  intro ls st σ o h
  unfold hd_M_putsLaw_13 at h
  split at h
  · exact hg _ _ _ _ h
  · cases h
def hd_M_putsLaw_107 {O : Type} (g : Nat → Int32 → Mem → Option O) (ls : OL) (st : List AV) (σ : Mem) : Option O := match ls, st with
  | [some (.inr (.inr (12, k0))), some (.inl v1)], [] => g k0 v1 σ
  | _, _ => none
theorem hs_M_putsLaw_107 {X : CXT} {g : Nat → Int32 → Mem → Option (Int32 × Mem)} (hg : ∀ (k0 : Nat) (v1 : Int32) (s : Mem) (o : Int32 × Mem), g k0 v1 s = some o → BSnd X 1 269 (ovI o) 107 [some (.inr (.inr (12, k0))), some (.inl v1)] [] s) : ∀ ls st σ o, hd_M_putsLaw_107 g ls st σ = some o → BSnd X 1 269 (ovI o) 107 ls st σ := by
  intro ls st σ o h
  unfold hd_M_putsLaw_107 at h
  split at h
  · exact hg _ _ _ _ h
  · cases h
def hd_M_putsLaw_105 {O : Type} (g : Nat → Mem → Option O) (ls : OL) (st : List AV) (σ : Mem) : Option O := match ls, st with
  | [some (.inr (.inr (12, k0)))], [] => g k0 σ
  | _, _ => none
theorem hs_M_putsLaw_105 {X : CXT} {g : Nat → Mem → Option (Int32 × Mem)} (hg : ∀ (k0 : Nat) (s : Mem) (o : Int32 × Mem), g k0 s = some o → BSnd X 1 269 (ovI o) 105 [some (.inr (.inr (12, k0)))] [] s) : ∀ ls st σ o, hd_M_putsLaw_105 g ls st σ = some o → BSnd X 1 269 (ovI o) 105 ls st σ := by
  intro ls st σ o h
  unfold hd_M_putsLaw_105 at h
  split at h
  · exact hg _ _ _ h
  · cases h
set_option maxRecDepth 100000 in
theorem s_M_putsLaw_13 {X : CXT} (hX : XM X) {K105 : Nat → Mem → Option (Int32 × Mem)} (hK105 : ∀ (k0 : Nat) (s : Mem) (o : Int32 × Mem), K105 k0 s = some o → BSnd X 1 269 (ovI o) 105 [some (.inr (.inr (12, k0)))] [] s) : ∀ n : Nat, ∀ (k0 : Nat) (v1 : Int32) (s : Mem) (o : Int32 × Mem), f_M_putsLaw_13 K105 n k0 v1 s = some o → BSnd X 1 269 (ovI o) 13 [some (.inr (.inr (12, k0))), some (.inl v1)] [] s := by
  intro n
  induction n with
  | zero => intro k0 v1 s o h; cases h
  | succ n ih =>
    intro k0 v1 s o h
    exact evC (chs := c_M_putsLaw) (cuts := cu_M_putsLaw) (G := fun pc ls st σ => if pc = 13 then hd_M_putsLaw_13 (fun k0 v1 s => f_M_putsLaw_13 K105 n k0 v1 s) ls st σ else if pc = 105 then hd_M_putsLaw_105 (fun k0 s => K105 k0 s) ls st σ else none) hX.2.1 hX.2.2 (F := F_M_putsLaw _) (fs_M_putsLaw hX _) (rt_I rfl) oc_M_putsLaw (by
    intro pc ls st σ o h
    rcases ite_s h with ⟨rfl, h⟩ | ⟨_, h⟩
    · exact hs_M_putsLaw_13 ih _ _ _ _ h
    rcases ite_s h with ⟨rfl, h⟩ | ⟨_, h⟩
    · exact hs_M_putsLaw_105 hK105 _ _ _ _ h
    cases h) 404 13 _ _ _ _ h
set_option maxRecDepth 100000 in
theorem s_M_putsLaw_107 {X : CXT} (hX : XM X) : ∀ n : Nat, ∀ (k0 : Nat) (v1 : Int32) (s : Mem) (o : Int32 × Mem), f_M_putsLaw_107 n k0 v1 s = some o → BSnd X 1 269 (ovI o) 107 [some (.inr (.inr (12, k0))), some (.inl v1)] [] s := by
  intro n
  induction n with
  | zero => intro k0 v1 s o h; cases h
  | succ n ih =>
    intro k0 v1 s o h
    exact evC (chs := c_M_putsLaw) (cuts := cu_M_putsLaw) (G := fun pc ls st σ => if pc = 107 then hd_M_putsLaw_107 (fun k0 v1 s => f_M_putsLaw_107 n k0 v1 s) ls st σ else none) hX.2.1 hX.2.2 (F := F_M_putsLaw _) (fs_M_putsLaw hX _) (rt_I rfl) oc_M_putsLaw (by
    intro pc ls st σ o h
    rcases ite_s h with ⟨rfl, h⟩ | ⟨_, h⟩
    · exact hs_M_putsLaw_107 ih _ _ _ _ h
    cases h) 404 107 _ _ _ _ h
set_option maxRecDepth 100000 in
theorem s_M_putsLaw_105 {X : CXT} (hX : XM X) : ∀ (k0 : Nat) (s : Mem) (o : Int32 × Mem), f_M_putsLaw_105 k0 s = some o → BSnd X 1 269 (ovI o) 105 [some (.inr (.inr (12, k0)))] [] s := by
  intro k0 s o h
  exact evC (chs := c_M_putsLaw) (cuts := cu_M_putsLaw) (G := fun pc ls st σ => if pc = 107 then hd_M_putsLaw_107 (fun k0 v1 s => f_M_putsLaw_107 FU k0 v1 s) ls st σ else none) hX.2.1 hX.2.2 (F := F_M_putsLaw _) (fs_M_putsLaw hX _) (rt_I rfl) oc_M_putsLaw (by
    intro pc ls st σ o h
    rcases ite_s h with ⟨rfl, h⟩ | ⟨_, h⟩
    · exact hs_M_putsLaw_107 (s_M_putsLaw_107 hX FU) _ _ _ _ h
    cases h) 404 105 _ _ _ _ h
set_option maxRecDepth 100000 in
theorem s_M_putsLaw {X : CXT} (hX : XM X) : ∀ (k0 : Nat) (s : Mem) (o : Int32 × Mem), f_M_putsLaw k0 s = some o → BSnd X 1 269 (ovI o) 0 (entL [.inr (.inr (12, k0))]) [] s := by
  intro k0 s o h
  rw [f_M_putsLaw_eq] at h
  exact evC (chs := c_M_putsLaw) (cuts := cu_M_putsLaw) (G := fun pc ls st σ => if pc = 13 then hd_M_putsLaw_13 (fun k0 v1 s => f_M_putsLaw_13 (fun k0 s => f_M_putsLaw_105 k0 s) FU k0 v1 s) ls st σ else if pc = 105 then hd_M_putsLaw_105 (fun k0 s => f_M_putsLaw_105 k0 s) ls st σ else none) hX.2.1 hX.2.2 (F := F_M_putsLaw _) (fs_M_putsLaw hX _) (rt_I rfl) oc_M_putsLaw (by
    intro pc ls st σ o h
    rcases ite_s h with ⟨rfl, h⟩ | ⟨_, h⟩
    · exact hs_M_putsLaw_13 (s_M_putsLaw_13 hX (s_M_putsLaw_105 hX) FU) _ _ _ _ h
    rcases ite_s h with ⟨rfl, h⟩ | ⟨_, h⟩
    · exact hs_M_putsLaw_105 (s_M_putsLaw_105 hX) _ _ _ _ h
    cases h) 404 0 _ _ _ _ h
theorem ok_M_putsLaw {X : CXT} (hX : XM X) : SemOK X 1 269 sm_M_putsLaw := by
  intro O av σ K o h
  unfold sm_M_putsLaw at h
  split at h
  · obtain ⟨r, hf, h⟩ := Option.bind_eq_some_iff.mp h
    exact ⟨ovI r, fun ht => sp_of hX.1 (by decide) (List.mem_range.mpr (by decide)) (by decide +kernel) ht (Nat.le_of_ble_eq_true rfl) (s_M_putsLaw hX _ _ _ hf), trivial, h⟩
  · cases h
noncomputable def f_M_puts_13 : Nat → Nat → Int32 → Int32 → Int32 → Mem → Option (Int32 × Mem)
  | 0, _, _, _, _, _ => none
  | n + 1, k0, v2, v3, v4, s =>
    cif ((v3 * (rI s k0 15)) ≤ v4) (
      some (rI s k0 15, s)) (
      gd (inb v4 (lenM (k0 + 7))) <|
      gd (inb (v2 + v4) (lenM (k0 + 1))) <|
      let s1 : Mem := wI s (k0 + 1) (ix (v2 + v4)) (rI s (k0 + 7) (ix v4))
      f_M_puts_13 n k0 v2 v3 (v4 + (1 : Int32)) s1)
noncomputable def b_M_puts (k0 : Nat) (v1 : Int32) (v2 : Int32) (v3 : Int32) (s : Mem) : Option (Int32 × Mem) :=
  gd (inb v1 (lenM (k0 + 1))) <|
  let s1 : Mem := wI s (k0 + 1) (ix v1) (rI s k0 15)
  f_M_puts_13 FU k0 v2 v3 ((0 : Int32)) s1
noncomputable def f_M_puts : Nat → Int32 → Int32 → Int32 → Mem → Option (Int32 × Mem) := Classical.choose (⟨b_M_puts, rfl⟩ : ∃ f : Nat → Int32 → Int32 → Int32 → Mem → Option (Int32 × Mem), f = b_M_puts)
theorem f_M_puts_eq : f_M_puts = b_M_puts := Classical.choose_spec (⟨b_M_puts, rfl⟩ : ∃ f : Nat → Int32 → Int32 → Int32 → Mem → Option (Int32 × Mem), f = b_M_puts)
noncomputable def sm_M_puts (O : Type) (av : List AV) (σ : Mem) (K : AV → Mem → Option O) : Option O := match av with
  | [.inr (.inr (12, k0)), .inl v1, .inl v2, .inl v3] => (f_M_puts k0 v1 v2 v3 σ).bind fun r => K (.inl r.1) r.2
  | _ => none
def c_M_puts : List (List CE) := [[(0, .aload_n 0, 1, 0, 0, 0), (1, .getfield 7, 3, 12, 0, 0), (4, .iload_n 1, 1, 0, 0, 0), (5, .aload_n 0, 1, 0, 0, 0), (6, .getfield 240, 3, 12, 15, 0), (9, .iastore, 1, 0, 0, 0), (10, .iconst 0, 1, 0, 0, 0), (11, .istore 4, 2, 0, 0, 0), (13, .iload 4, 2, 0, 0, 0), (15, .iload_n 3, 1, 0, 0, 0)], [(16, .aload_n 0, 1, 0, 0, 0), (17, .getfield 240, 3, 12, 15, 0), (20, .imul, 1, 0, 0, 0), (21, .if_icmp .ge 25, 3, 46, 0, 0), (24, .aload_n 0, 1, 0, 0, 0), (25, .getfield 7, 3, 12, 0, 0), (28, .iload_n 2, 1, 0, 0, 0), (29, .iload 4, 2, 0, 0, 0), (31, .iadd, 1, 0, 0, 0)], [(32, .aload_n 0, 1, 0, 0, 0), (33, .getfield 28, 3, 12, 8, 0), (36, .iload 4, 2, 0, 0, 0), (38, .iaload, 1, 0, 0, 0), (39, .iastore, 1, 0, 0, 0), (40, .iinc 4 1, 3, 1, 0, 0), (43, .goto (-30), 3, 13, 0, 0), (46, .aload_n 0, 1, 0, 0, 0), (47, .getfield 240, 3, 12, 15, 0)], [(50, .ireturn, 1, 0, 0, 0)]]
set_option maxRecDepth 100000 in
theorem oc_M_puts : okC 270 c_M_puts = true := by decide +kernel
def cu_M_puts : List (Nat × List Bool) := [(13, [true, false, true, true, true])]
noncomputable def F_M_puts (O : Type) (a : Nat) (av : List AV) (σ : Mem) (K : AV → Mem → Option O) : Option O := none
theorem fs_M_puts {X : CXT} (hX : XM X) (O : Type) : FS X 1 (F_M_puts O) := by
  intro a av σ K o h
  cases h
def hd_M_puts_13 {O : Type} (g : Nat → Int32 → Int32 → Int32 → Mem → Option O) (ls : OL) (st : List AV) (σ : Mem) : Option O := match ls, st with
  | [some (.inr (.inr (12, k0))), none, some (.inl v2), some (.inl v3), some (.inl v4)], [] => g k0 v2 v3 v4 σ
  | _, _ => none
theorem hs_M_puts_13 {X : CXT} {g : Nat → Int32 → Int32 → Int32 → Mem → Option (Int32 × Mem)} (hg : ∀ (k0 : Nat) (v2 : Int32) (v3 : Int32) (v4 : Int32) (s : Mem) (o : Int32 × Mem), g k0 v2 v3 v4 s = some o → BSnd X 1 270 (ovI o) 13 [some (.inr (.inr (12, k0))), none, some (.inl v2), some (.inl v3), some (.inl v4)] [] s) : ∀ ls st σ o, hd_M_puts_13 g ls st σ = some o → BSnd X 1 270 (ovI o) 13 ls st σ := by
  intro ls st σ o h
  unfold hd_M_puts_13 at h
  split at h
  · exact hg _ _ _ _ _ _ h
  · cases h
set_option maxRecDepth 100000 in
theorem s_M_puts_13 {X : CXT} (hX : XM X) : ∀ n : Nat, ∀ (k0 : Nat) (v2 : Int32) (v3 : Int32) (v4 : Int32) (s : Mem) (o : Int32 × Mem), f_M_puts_13 n k0 v2 v3 v4 s = some o → BSnd X 1 270 (ovI o) 13 [some (.inr (.inr (12, k0))), none, some (.inl v2), some (.inl v3), some (.inl v4)] [] s := by
  intro n
  induction n with
  | zero => intro k0 v2 v3 v4 s o h; cases h
  | succ n ih =>
    intro k0 v2 v3 v4 s o h
    exact evC (chs := c_M_puts) (cuts := cu_M_puts) (G := fun pc ls st σ => if pc = 13 then hd_M_puts_13 (fun k0 v2 v3 v4 s => f_M_puts_13 n k0 v2 v3 v4 s) ls st σ else none) hX.2.1 hX.2.2 (F := F_M_puts _) (fs_M_puts hX _) (rt_I rfl) oc_M_puts (by
    intro pc ls st σ o h
    rcases ite_s h with ⟨rfl, h⟩ | ⟨_, h⟩
    · exact hs_M_puts_13 ih _ _ _ _ h
    cases h) 156 13 _ _ _ _ h
set_option maxRecDepth 100000 in
theorem s_M_puts {X : CXT} (hX : XM X) : ∀ (k0 : Nat) (v1 : Int32) (v2 : Int32) (v3 : Int32) (s : Mem) (o : Int32 × Mem), f_M_puts k0 v1 v2 v3 s = some o → BSnd X 1 270 (ovI o) 0 (entL [.inr (.inr (12, k0)), .inl v1, .inl v2, .inl v3]) [] s := by
  intro k0 v1 v2 v3 s o h
  rw [f_M_puts_eq] at h
  exact evC (chs := c_M_puts) (cuts := cu_M_puts) (G := fun pc ls st σ => if pc = 13 then hd_M_puts_13 (fun k0 v2 v3 v4 s => f_M_puts_13 FU k0 v2 v3 v4 s) ls st σ else none) hX.2.1 hX.2.2 (F := F_M_puts _) (fs_M_puts hX _) (rt_I rfl) oc_M_puts (by
    intro pc ls st σ o h
    rcases ite_s h with ⟨rfl, h⟩ | ⟨_, h⟩
    · exact hs_M_puts_13 (s_M_puts_13 hX FU) _ _ _ _ h
    cases h) 156 0 _ _ _ _ h
theorem ok_M_puts {X : CXT} (hX : XM X) : SemOK X 1 270 sm_M_puts := by
  intro O av σ K o h
  unfold sm_M_puts at h
  split at h
  · obtain ⟨r, hf, h⟩ := Option.bind_eq_some_iff.mp h
    exact ⟨ovI r, fun ht => sp_of hX.1 (by decide) (List.mem_range.mpr (by decide)) (by decide +kernel) ht (Nat.le_of_ble_eq_true rfl) (s_M_puts hX _ _ _ _ _ _ hf), trivial, h⟩
  · cases h
noncomputable def b_M_putsText (k0 : Nat) (v1 : Int32) (s : Mem) : Option (Int32 × Mem) :=
  cif (v1 = 0) (
    (f_M_putsLaw k0 s).bind fun r1 =>
    some (r1.1, r1.2)) (
    cif (v1 = ((2 : Int32))) (
      (f_M_puts k0 ((54 : Int32)) ((146 : Int32)) ((2 : Int32)) s).bind fun r2 =>
      some (r2.1, r2.2)) (
      (f_M_forgets k0 s).bind fun r3 =>
      cif (v1 = ((1 : Int32))) (
        (f_M_puts k0 ((53 : Int32)) ((98 : Int32)) ((3 : Int32)) r3).bind fun r4 =>
        some (r4.1, r4.2)) (
        (f_M_puts k0 ((55 : Int32)) ((178 : Int32)) ((2 : Int32)) r3).bind fun r5 =>
        some (r5.1, r5.2))))
noncomputable def f_M_putsText : Nat → Int32 → Mem → Option (Int32 × Mem) := Classical.choose (⟨b_M_putsText, rfl⟩ : ∃ f : Nat → Int32 → Mem → Option (Int32 × Mem), f = b_M_putsText)
theorem f_M_putsText_eq : f_M_putsText = b_M_putsText := Classical.choose_spec (⟨b_M_putsText, rfl⟩ : ∃ f : Nat → Int32 → Mem → Option (Int32 × Mem), f = b_M_putsText)
noncomputable def sm_M_putsText (O : Type) (av : List AV) (σ : Mem) (K : AV → Mem → Option O) : Option O := match av with
  | [.inr (.inr (12, k0)), .inl v1] => (f_M_putsText k0 v1 σ).bind fun r => K (.inl r.1) r.2
  | _ => none
def c_M_putsText : List (List CE) := [[(0, .iload_n 1, 1, 0, 0, 0), (1, .ifCond .ne 8, 3, 9, 0, 0), (4, .aload_n 0, 1, 0, 0, 0), (5, .invokevirtual 262, 3, 269, 1, 25), (8, .ireturn, 1, 0, 0, 0), (9, .iload_n 1, 1, 0, 0, 0), (10, .iconst 2, 1, 2, 0, 0), (11, .if_icmp .ne 14, 3, 25, 0, 0), (14, .aload_n 0, 1, 0, 0, 0), (15, .bipush 54, 2, 54, 0, 0)], [(17, .sipush 146, 3, 146, 0, 0), (20, .iconst 2, 1, 2, 0, 0), (21, .invokevirtual 265, 3, 270, 4, 25), (24, .ireturn, 1, 0, 0, 0), (25, .aload_n 0, 1, 0, 0, 0), (26, .invokevirtual 67, 3, 228, 1, 24), (29, .iload_n 1, 1, 0, 0, 0), (30, .iconst 1, 1, 1, 0, 0), (31, .if_icmp .ne 15, 3, 46, 0, 0)], [(34, .aload_n 0, 1, 0, 0, 0), (35, .bipush 53, 2, 53, 0, 0), (37, .bipush 98, 2, 98, 0, 0), (39, .iconst 3, 1, 3, 0, 0), (40, .invokevirtual 265, 3, 270, 4, 25), (43, .goto 13, 3, 56, 0, 0), (46, .aload_n 0, 1, 0, 0, 0), (47, .bipush 55, 2, 55, 0, 0)], [(49, .sipush 178, 3, 178, 0, 0), (52, .iconst 2, 1, 2, 0, 0), (53, .invokevirtual 265, 3, 270, 4, 25), (56, .ireturn, 1, 0, 0, 0)]]
set_option maxRecDepth 100000 in
theorem oc_M_putsText : okC 268 c_M_putsText = true := by decide +kernel
def cu_M_putsText : List (Nat × List Bool) := []
noncomputable def F_M_putsText (O : Type) (a : Nat) (av : List AV) (σ : Mem) (K : AV → Mem → Option O) : Option O := if a = 228 then sm_M_forgets O av σ K else if a = 269 then sm_M_putsLaw O av σ K else if a = 270 then sm_M_puts O av σ K else none
theorem fs_M_putsText {X : CXT} (hX : XM X) (O : Type) : FS X 2 (F_M_putsText O) := by
  intro a av σ K o h
  unfold F_M_putsText at h
  rcases ite_s h with ⟨rfl, h⟩ | ⟨_, h⟩
  · obtain ⟨r, h1, h2, h3⟩ := ok_M_forgets hX _ _ _ _ _ h
    exact ⟨r, fun ht => ⟨1, by decide, h1 ht⟩, h2, h3⟩
  rcases ite_s h with ⟨rfl, h⟩ | ⟨_, h⟩
  · obtain ⟨r, h1, h2, h3⟩ := ok_M_putsLaw hX _ _ _ _ _ h
    exact ⟨r, fun ht => ⟨1, by decide, h1 ht⟩, h2, h3⟩
  rcases ite_s h with ⟨rfl, h⟩ | ⟨_, h⟩
  · obtain ⟨r, h1, h2, h3⟩ := ok_M_puts hX _ _ _ _ _ h
    exact ⟨r, fun ht => ⟨1, by decide, h1 ht⟩, h2, h3⟩
  cases h
set_option maxRecDepth 100000 in
theorem s_M_putsText {X : CXT} (hX : XM X) : ∀ (k0 : Nat) (v1 : Int32) (s : Mem) (o : Int32 × Mem), f_M_putsText k0 v1 s = some o → BSnd X 2 268 (ovI o) 0 (entL [.inr (.inr (12, k0)), .inl v1]) [] s := by
  intro k0 v1 s o h
  rw [f_M_putsText_eq] at h
  exact evC (chs := c_M_putsText) (cuts := cu_M_putsText) (G := fun pc ls st σ => none) hX.2.1 hX.2.2 (F := F_M_putsText _) (fs_M_putsText hX _) (rt_I rfl) oc_M_putsText (by
    intro pc ls st σ o h
    cases h) 164 0 _ _ _ _ h
theorem ok_M_putsText {X : CXT} (hX : XM X) : SemOK X 2 268 sm_M_putsText := by
  intro O av σ K o h
  unfold sm_M_putsText at h
  split at h
  · obtain ⟨r, hf, h⟩ := Option.bind_eq_some_iff.mp h
    exact ⟨ovI r, fun ht => sp_of hX.1 (by decide) (List.mem_range.mpr (by decide)) (by decide +kernel) ht (Nat.le_of_ble_eq_true rfl) (s_M_putsText hX _ _ _ _ hf), trivial, h⟩
  · cases h
noncomputable def f_M_text_61 (k0 : Nat) (v1 : Int32) (v2 : Int32) (s : Mem) : Option (Int32 × Mem) :=
  let s1 : Mem := wI s k0 16 ((0 : Int32))
  cif (v2 = 0) (
    let s2 : Mem := wI s1 k0 23 (rI s1 k0 21)
    let s3 : Mem := wI s2 k0 25 (rI s2 k0 22)
    some ((-1 : Int32), s3)) (
    (f_M_putsText k0 v1 s1).bind fun r4 =>
    some (r4.1, r4.2))
noncomputable def b_M_text (k0 : Nat) (v1 : Int32) (s : Mem) : Option (Int32 × Mem) :=
  let s1 : Mem := wI s k0 23 ((0 : Int32))
  let s2 : Mem := wI s1 k0 25 ((-1 : Int32))
  (f_M_isIn v1 ((0 : Int32)) ((3 : Int32)) s2).bind fun r3 =>
  cif ((b2i r3.1) = 0) (
    let s4 : Mem := wI r3.2 k0 16 ((0 : Int32))
    some ((-1 : Int32), s4)) (
    let s5 : Mem := wI r3.2 k0 21 ((0 : Int32))
    let s6 : Mem := wI s5 k0 17 ((0 : Int32))
    let s7 : Mem := wI s6 k0 12 v1
    (f_M_next0 k0 s7).bind fun r8 =>
    cif (v1 = 0) (
      (f_M_readsLaw k0 r8).bind fun r9 =>
      let x10 : Int32 := b2i r9.1
      f_M_text_61 k0 v1 x10 r9.2) (
      (f_M_readsRows k0 r8).bind fun r11 =>
      let x12 : Int32 := b2i r11.1
      f_M_text_61 k0 v1 x12 r11.2))
noncomputable def f_M_text : Nat → Int32 → Mem → Option (Int32 × Mem) := Classical.choose (⟨b_M_text, rfl⟩ : ∃ f : Nat → Int32 → Mem → Option (Int32 × Mem), f = b_M_text)
theorem f_M_text_eq : f_M_text = b_M_text := Classical.choose_spec (⟨b_M_text, rfl⟩ : ∃ f : Nat → Int32 → Mem → Option (Int32 × Mem), f = b_M_text)
noncomputable def sm_M_text (O : Type) (av : List AV) (σ : Mem) (K : AV → Mem → Option O) : Option O := match av with
  | [.inr (.inr (12, k0)), .inl v1] => (f_M_text k0 v1 σ).bind fun r => K (.inl r.1) r.2
  | _ => none
def c_M_text : List (List CE) := [[(0, .aload_n 0, 1, 0, 0, 0), (1, .iconst 0, 1, 0, 0, 0), (2, .putfield 269, 3, 12, 23, 0), (5, .aload_n 0, 1, 0, 0, 0), (6, .iconst (-1), 1, 1, 0, 1), (7, .putfield 40, 3, 12, 25, 0), (10, .iload_n 1, 1, 0, 0, 0), (11, .iconst 0, 1, 0, 0, 0), (12, .iconst 3, 1, 3, 0, 0), (13, .invokestatic 60, 3, 230, 3, 1)], [(16, .ifCond .ne 10, 3, 26, 0, 0), (19, .aload_n 0, 1, 0, 0, 0), (20, .iconst 0, 1, 0, 0, 0), (21, .putfield 90, 3, 12, 16, 0), (24, .iconst (-1), 1, 1, 0, 1), (25, .ireturn, 1, 0, 0, 0), (26, .aload_n 0, 1, 0, 0, 0), (27, .iconst 0, 1, 0, 0, 0), (28, .putfield 185, 3, 12, 21, 0), (31, .aload_n 0, 1, 0, 0, 0)], [(32, .iconst 0, 1, 0, 0, 0), (33, .putfield 93, 3, 12, 17, 0), (36, .aload_n 0, 1, 0, 0, 0), (37, .iload_n 1, 1, 0, 0, 0), (38, .putfield 150, 3, 12, 12, 0), (41, .aload_n 0, 1, 0, 0, 0), (42, .invokevirtual 193, 3, 240, 1, 24), (45, .iload_n 1, 1, 0, 0, 0), (46, .ifCond .ne 10, 3, 56, 0, 0)], [(49, .aload_n 0, 1, 0, 0, 0), (50, .invokevirtual 272, 3, 248, 1, 25), (53, .goto 7, 3, 60, 0, 0), (56, .aload_n 0, 1, 0, 0, 0), (57, .invokevirtual 275, 3, 260, 1, 25), (60, .istore_n 2, 1, 0, 0, 0), (61, .aload_n 0, 1, 0, 0, 0), (62, .iconst 0, 1, 0, 0, 0), (63, .putfield 90, 3, 12, 16, 0)], [(66, .iload_n 2, 1, 0, 0, 0), (67, .ifCond .eq 9, 3, 76, 0, 0), (70, .aload_n 0, 1, 0, 0, 0), (71, .iload_n 1, 1, 0, 0, 0), (72, .invokevirtual 278, 3, 268, 2, 25), (75, .ireturn, 1, 0, 0, 0), (76, .aload_n 0, 1, 0, 0, 0), (77, .aload_n 0, 1, 0, 0, 0), (78, .getfield 185, 3, 12, 21, 0)], [(81, .putfield 269, 3, 12, 23, 0), (84, .aload_n 0, 1, 0, 0, 0), (85, .aload_n 0, 1, 0, 0, 0), (86, .getfield 188, 3, 12, 22, 0), (89, .putfield 40, 3, 12, 25, 0), (92, .iconst (-1), 1, 1, 0, 1), (93, .ireturn, 1, 0, 0, 0)]]
set_option maxRecDepth 100000 in
theorem oc_M_text : okC 239 c_M_text = true := by decide +kernel
def cu_M_text : List (Nat × List Bool) := [(61, [true, true, true])]
noncomputable def F_M_text (O : Type) (a : Nat) (av : List AV) (σ : Mem) (K : AV → Mem → Option O) : Option O := if a = 230 then sm_M_isIn O av σ K else if a = 240 then sm_M_next0 O av σ K else if a = 248 then sm_M_readsLaw O av σ K else if a = 260 then sm_M_readsRows O av σ K else if a = 268 then sm_M_putsText O av σ K else none
theorem fs_M_text {X : CXT} (hX : XM X) (O : Type) : FS X 56 (F_M_text O) := by
  intro a av σ K o h
  unfold F_M_text at h
  rcases ite_s h with ⟨rfl, h⟩ | ⟨_, h⟩
  · obtain ⟨r, h1, h2, h3⟩ := ok_M_isIn hX _ _ _ _ _ h
    exact ⟨r, fun ht => ⟨1, by decide, h1 ht⟩, h2, h3⟩
  rcases ite_s h with ⟨rfl, h⟩ | ⟨_, h⟩
  · obtain ⟨r, h1, h2, h3⟩ := ok_M_next0 hX _ _ _ _ _ h
    exact ⟨r, fun ht => ⟨9, by decide, h1 ht⟩, h2, h3⟩
  rcases ite_s h with ⟨rfl, h⟩ | ⟨_, h⟩
  · obtain ⟨r, h1, h2, h3⟩ := ok_M_readsLaw hX _ _ _ _ _ h
    exact ⟨r, fun ht => ⟨55, by decide, h1 ht⟩, h2, h3⟩
  rcases ite_s h with ⟨rfl, h⟩ | ⟨_, h⟩
  · obtain ⟨r, h1, h2, h3⟩ := ok_M_readsRows hX _ _ _ _ _ h
    exact ⟨r, fun ht => ⟨14, by decide, h1 ht⟩, h2, h3⟩
  rcases ite_s h with ⟨rfl, h⟩ | ⟨_, h⟩
  · obtain ⟨r, h1, h2, h3⟩ := ok_M_putsText hX _ _ _ _ _ h
    exact ⟨r, fun ht => ⟨2, by decide, h1 ht⟩, h2, h3⟩
  cases h
def hd_M_text_61 {O : Type} (g : Nat → Int32 → Int32 → Mem → Option O) (ls : OL) (st : List AV) (σ : Mem) : Option O := match ls, st with
  | [some (.inr (.inr (12, k0))), some (.inl v1), some (.inl v2)], [] => g k0 v1 v2 σ
  | _, _ => none
theorem hs_M_text_61 {X : CXT} {g : Nat → Int32 → Int32 → Mem → Option (Int32 × Mem)} (hg : ∀ (k0 : Nat) (v1 : Int32) (v2 : Int32) (s : Mem) (o : Int32 × Mem), g k0 v1 v2 s = some o → BSnd X 56 239 (ovI o) 61 [some (.inr (.inr (12, k0))), some (.inl v1), some (.inl v2)] [] s) : ∀ ls st σ o, hd_M_text_61 g ls st σ = some o → BSnd X 56 239 (ovI o) 61 ls st σ := by
  intro ls st σ o h
  unfold hd_M_text_61 at h
  split at h
  · exact hg _ _ _ _ _ h
  · cases h
set_option maxRecDepth 100000 in
theorem s_M_text_61 {X : CXT} (hX : XM X) : ∀ (k0 : Nat) (v1 : Int32) (v2 : Int32) (s : Mem) (o : Int32 × Mem), f_M_text_61 k0 v1 v2 s = some o → BSnd X 56 239 (ovI o) 61 [some (.inr (.inr (12, k0))), some (.inl v1), some (.inl v2)] [] s := by
  intro k0 v1 v2 s o h
  exact evC (chs := c_M_text) (cuts := cu_M_text) (G := fun pc ls st σ => none) hX.2.1 hX.2.2 (F := F_M_text _) (fs_M_text hX _) (rt_I rfl) oc_M_text (by
    intro pc ls st σ o h
    cases h) 256 61 _ _ _ _ h
set_option maxRecDepth 100000 in
theorem s_M_text {X : CXT} (hX : XM X) : ∀ (k0 : Nat) (v1 : Int32) (s : Mem) (o : Int32 × Mem), f_M_text k0 v1 s = some o → BSnd X 56 239 (ovI o) 0 (entL [.inr (.inr (12, k0)), .inl v1]) [] s := by
  intro k0 v1 s o h
  rw [f_M_text_eq] at h
  exact evC (chs := c_M_text) (cuts := cu_M_text) (G := fun pc ls st σ => if pc = 61 then hd_M_text_61 (fun k0 v1 v2 s => f_M_text_61 k0 v1 v2 s) ls st σ else none) hX.2.1 hX.2.2 (F := F_M_text _) (fs_M_text hX _) (rt_I rfl) oc_M_text (by
    intro pc ls st σ o h
    rcases ite_s h with ⟨rfl, h⟩ | ⟨_, h⟩
    · exact hs_M_text_61 (s_M_text_61 hX) _ _ _ _ h
    cases h) 256 0 _ _ _ _ h
theorem ok_M_text {X : CXT} (hX : XM X) : SemOK X 56 239 sm_M_text := by
  intro O av σ K o h
  unfold sm_M_text at h
  split at h
  · obtain ⟨r, hf, h⟩ := Option.bind_eq_some_iff.mp h
    exact ⟨ovI r, fun ht => sp_of hX.1 (by decide) (List.mem_range.mpr (by decide)) (by decide +kernel) ht (Nat.le_of_ble_eq_true rfl) (s_M_text hX _ _ _ _ hf), trivial, h⟩
  · cases h
noncomputable def b_M_fault (k0 : Nat) (v1 : Int32) (s : Mem) : Option (Int32 × Mem) :=
  cif (v1 = 0) (
    some (rI s k0 23, s)) (
    cif (v1 = ((1 : Int32))) (
      some (rI s k0 25, s)) (
      some ((-1 : Int32), s)))
noncomputable def f_M_fault : Nat → Int32 → Mem → Option (Int32 × Mem) := Classical.choose (⟨b_M_fault, rfl⟩ : ∃ f : Nat → Int32 → Mem → Option (Int32 × Mem), f = b_M_fault)
theorem f_M_fault_eq : f_M_fault = b_M_fault := Classical.choose_spec (⟨b_M_fault, rfl⟩ : ∃ f : Nat → Int32 → Mem → Option (Int32 × Mem), f = b_M_fault)
noncomputable def sm_M_fault (O : Type) (av : List AV) (σ : Mem) (K : AV → Mem → Option O) : Option O := match av with
  | [.inr (.inr (12, k0)), .inl v1] => (f_M_fault k0 v1 σ).bind fun r => K (.inl r.1) r.2
  | _ => none
def c_M_fault : List (List CE) := [[(0, .iload_n 1, 1, 0, 0, 0), (1, .ifCond .ne 10, 3, 11, 0, 0), (4, .aload_n 0, 1, 0, 0, 0), (5, .getfield 269, 3, 12, 23, 0), (8, .goto 16, 3, 24, 0, 0), (11, .iload_n 1, 1, 0, 0, 0), (12, .iconst 1, 1, 1, 0, 0), (13, .if_icmp .ne 10, 3, 23, 0, 0)], [(16, .aload_n 0, 1, 0, 0, 0), (17, .getfield 40, 3, 12, 25, 0), (20, .goto 4, 3, 24, 0, 0), (23, .iconst (-1), 1, 1, 0, 1), (24, .ireturn, 1, 0, 0, 0)]]
set_option maxRecDepth 100000 in
theorem oc_M_fault : okC 271 c_M_fault = true := by decide +kernel
def cu_M_fault : List (Nat × List Bool) := []
noncomputable def F_M_fault (O : Type) (a : Nat) (av : List AV) (σ : Mem) (K : AV → Mem → Option O) : Option O := none
theorem fs_M_fault {X : CXT} (hX : XM X) (O : Type) : FS X 1 (F_M_fault O) := by
  intro a av σ K o h
  cases h
set_option maxRecDepth 100000 in
theorem s_M_fault {X : CXT} (hX : XM X) : ∀ (k0 : Nat) (v1 : Int32) (s : Mem) (o : Int32 × Mem), f_M_fault k0 v1 s = some o → BSnd X 1 271 (ovI o) 0 (entL [.inr (.inr (12, k0)), .inl v1]) [] s := by
  intro k0 v1 s o h
  rw [f_M_fault_eq] at h
  exact evC (chs := c_M_fault) (cuts := cu_M_fault) (G := fun pc ls st σ => none) hX.2.1 hX.2.2 (F := F_M_fault _) (fs_M_fault hX _) (rt_I rfl) oc_M_fault (by
    intro pc ls st σ o h
    cases h) 92 0 _ _ _ _ h
theorem ok_M_fault {X : CXT} (hX : XM X) : SemOK X 1 271 sm_M_fault := by
  intro O av σ K o h
  unfold sm_M_fault at h
  split at h
  · obtain ⟨r, hf, h⟩ := Option.bind_eq_some_iff.mp h
    exact ⟨ovI r, fun ht => sp_of hX.1 (by decide) (List.mem_range.mpr (by decide)) (by decide +kernel) ht (Nat.le_of_ble_eq_true rfl) (s_M_fault hX _ _ _ _ hf), trivial, h⟩
  · cases h
noncomputable def f_M_undo_21 : Nat → Nat → Int32 → Mem → Option (Bool × Mem)
  | 0, _, _, _ => none
  | n + 1, k0, v1, s =>
    cif (((49 : Int32)) ≤ v1) (
      some (true, s)) (
      gd (inb ((((49 : Int32)) * (rI s k0 4)) + v1) (lenM (k0 + 3))) <|
      gd (inb v1 (lenM (k0 + 1))) <|
      let s1 : Mem := wI s (k0 + 1) (ix v1) (rI s (k0 + 3) (ix ((((49 : Int32)) * (rI s k0 4)) + v1)))
      f_M_undo_21 n k0 (v1 + (1 : Int32)) s1)
noncomputable def b_M_undo (k0 : Nat) (s : Mem) : Option (Bool × Mem) :=
  cif ((rI s k0 4) = 0) (
    some (false, s)) (
    let s1 : Mem := wI s k0 4 ((rI s k0 4) - ((1 : Int32)))
    f_M_undo_21 FU k0 ((0 : Int32)) s1)
noncomputable def f_M_undo : Nat → Mem → Option (Bool × Mem) := Classical.choose (⟨b_M_undo, rfl⟩ : ∃ f : Nat → Mem → Option (Bool × Mem), f = b_M_undo)
theorem f_M_undo_eq : f_M_undo = b_M_undo := Classical.choose_spec (⟨b_M_undo, rfl⟩ : ∃ f : Nat → Mem → Option (Bool × Mem), f = b_M_undo)
noncomputable def sm_M_undo (O : Type) (av : List AV) (σ : Mem) (K : AV → Mem → Option O) : Option O := match av with
  | [.inr (.inr (12, k0))] => (f_M_undo k0 σ).bind fun r => K (.inl (b2i r.1)) r.2
  | _ => none
def c_M_undo : List (List CE) := [[(0, .aload_n 0, 1, 0, 0, 0), (1, .getfield 64, 3, 12, 4, 0), (4, .ifCond .ne 5, 3, 9, 0, 0), (7, .iconst 0, 1, 0, 0, 0), (8, .ireturn, 1, 0, 0, 0), (9, .aload_n 0, 1, 0, 0, 0), (10, .dup, 1, 0, 0, 0), (11, .getfield 64, 3, 12, 4, 0), (14, .iconst 1, 1, 1, 0, 0), (15, .isub, 1, 0, 0, 0)], [(16, .putfield 64, 3, 12, 4, 0), (19, .iconst 0, 1, 0, 0, 0), (20, .istore_n 1, 1, 0, 0, 0), (21, .iload_n 1, 1, 0, 0, 0), (22, .bipush 49, 2, 49, 0, 0), (24, .if_icmp .ge 29, 3, 53, 0, 0), (27, .aload_n 0, 1, 0, 0, 0), (28, .getfield 7, 3, 12, 0, 0), (31, .iload_n 1, 1, 0, 0, 0)], [(32, .aload_n 0, 1, 0, 0, 0), (33, .getfield 16, 3, 12, 2, 0), (36, .bipush 49, 2, 49, 0, 0), (38, .aload_n 0, 1, 0, 0, 0), (39, .getfield 64, 3, 12, 4, 0), (42, .imul, 1, 0, 0, 0), (43, .iload_n 1, 1, 0, 0, 0), (44, .iadd, 1, 0, 0, 0), (45, .iaload, 1, 0, 0, 0), (46, .iastore, 1, 0, 0, 0), (47, .iinc 1 1, 3, 1, 0, 0)], [(50, .goto (-29), 3, 21, 0, 0), (53, .iconst 1, 1, 1, 0, 0), (54, .ireturn, 1, 0, 0, 0)]]
set_option maxRecDepth 100000 in
theorem oc_M_undo : okC 272 c_M_undo = true := by decide +kernel
def cu_M_undo : List (Nat × List Bool) := [(21, [true, true])]
noncomputable def F_M_undo (O : Type) (a : Nat) (av : List AV) (σ : Mem) (K : AV → Mem → Option O) : Option O := none
theorem fs_M_undo {X : CXT} (hX : XM X) (O : Type) : FS X 1 (F_M_undo O) := by
  intro a av σ K o h
  cases h
def hd_M_undo_21 {O : Type} (g : Nat → Int32 → Mem → Option O) (ls : OL) (st : List AV) (σ : Mem) : Option O := match ls, st with
  | [some (.inr (.inr (12, k0))), some (.inl v1)], [] => g k0 v1 σ
  | _, _ => none
theorem hs_M_undo_21 {X : CXT} {g : Nat → Int32 → Mem → Option (Bool × Mem)} (hg : ∀ (k0 : Nat) (v1 : Int32) (s : Mem) (o : Bool × Mem), g k0 v1 s = some o → BSnd X 1 272 (ovZ o) 21 [some (.inr (.inr (12, k0))), some (.inl v1)] [] s) : ∀ ls st σ o, hd_M_undo_21 g ls st σ = some o → BSnd X 1 272 (ovZ o) 21 ls st σ := by
  intro ls st σ o h
  unfold hd_M_undo_21 at h
  split at h
  · exact hg _ _ _ _ h
  · cases h
set_option maxRecDepth 100000 in
theorem s_M_undo_21 {X : CXT} (hX : XM X) : ∀ n : Nat, ∀ (k0 : Nat) (v1 : Int32) (s : Mem) (o : Bool × Mem), f_M_undo_21 n k0 v1 s = some o → BSnd X 1 272 (ovZ o) 21 [some (.inr (.inr (12, k0))), some (.inl v1)] [] s := by
  intro n
  induction n with
  | zero => intro k0 v1 s o h; cases h
  | succ n ih =>
    intro k0 v1 s o h
    exact evC (chs := c_M_undo) (cuts := cu_M_undo) (G := fun pc ls st σ => if pc = 21 then hd_M_undo_21 (fun k0 v1 s => f_M_undo_21 n k0 v1 s) ls st σ else none) hX.2.1 hX.2.2 (F := F_M_undo _) (fs_M_undo hX _) (rt_Z rfl) oc_M_undo (by
    intro pc ls st σ o h
    rcases ite_s h with ⟨rfl, h⟩ | ⟨_, h⟩
    · exact hs_M_undo_21 ih _ _ _ _ h
    cases h) 172 21 _ _ _ _ h
set_option maxRecDepth 100000 in
theorem s_M_undo {X : CXT} (hX : XM X) : ∀ (k0 : Nat) (s : Mem) (o : Bool × Mem), f_M_undo k0 s = some o → BSnd X 1 272 (ovZ o) 0 (entL [.inr (.inr (12, k0))]) [] s := by
  intro k0 s o h
  rw [f_M_undo_eq] at h
  exact evC (chs := c_M_undo) (cuts := cu_M_undo) (G := fun pc ls st σ => if pc = 21 then hd_M_undo_21 (fun k0 v1 s => f_M_undo_21 FU k0 v1 s) ls st σ else none) hX.2.1 hX.2.2 (F := F_M_undo _) (fs_M_undo hX _) (rt_Z rfl) oc_M_undo (by
    intro pc ls st σ o h
    rcases ite_s h with ⟨rfl, h⟩ | ⟨_, h⟩
    · exact hs_M_undo_21 (s_M_undo_21 hX FU) _ _ _ _ h
    cases h) 172 0 _ _ _ _ h
theorem ok_M_undo {X : CXT} (hX : XM X) : SemOK X 1 272 sm_M_undo := by
  intro O av σ K o h
  unfold sm_M_undo at h
  split at h
  · obtain ⟨r, hf, h⟩ := Option.bind_eq_some_iff.mp h
    exact ⟨ovZ r, fun ht => sp_of hX.1 (by decide) (List.mem_range.mpr (by decide)) (by decide +kernel) ht (Nat.le_of_ble_eq_true rfl) (s_M_undo hX _ _ _ hf), trivial, h⟩
  · cases h
