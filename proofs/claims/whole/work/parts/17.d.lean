noncomputable def f_M_goes_27 (K42 : Nat → Int32 → Mem → Option (Int32 × Mem)) : Nat → Nat → Int32 → Int32 → Int32 → Mem → Option (Int32 × Mem)
  | 0, _, _, _, _, _ => none
  | n + 1, k0, v1, v2, v3, s =>
    cif (v1 ≤ v3) (
      K42 k0 v2 s) (
      (f_M_aYear k0 s).bind fun r1 =>
      f_M_goes_27 K42 n k0 v1 v2 (v3 + (1 : Int32)) r1)
noncomputable def f_M_goes_42 (k0 : Nat) (v2 : Int32) (s : Mem) : Option (Int32 × Mem) :=
  cif (v2 = 0) (
    gd (inb ((0 : Int32)) (lenM (k0 + 1))) <|
    let x1 : Int32 := rI s (k0 + 1) (ix ((0 : Int32)))
    (f_M_putsBack k0 s).bind fun r2 =>
    some (x1, r2)) (
    (f_M_brokenMiles k0 s).bind fun r3 =>
    (f_M_putsBack k0 r3.2).bind fun r4 =>
    some (r3.1, r4))
noncomputable def b_M_goes (k0 : Nat) (v1 : Int32) (v2 : Int32) (s : Mem) : Option (Int32 × Mem) :=
  (f_M_isIn v1 ((1 : Int32)) ((60 : Int32)) s).bind fun r1 =>
  cif ((b2i r1.1) = 0) (
    some ((-1 : Int32), r1.2)) (
    (f_M_isIn v2 ((0 : Int32)) ((1 : Int32)) r1.2).bind fun r2 =>
    cif ((b2i r2.1) = 0) (
      some ((-1 : Int32), r2.2)) (
      (f_M_lays k0 r2.2).bind fun r3 =>
      f_M_goes_27 (fun k0 v2 s => f_M_goes_42 k0 v2 s) FU k0 v1 v2 ((0 : Int32)) r3))
noncomputable def f_M_goes : Nat → Int32 → Int32 → Mem → Option (Int32 × Mem) := Classical.choose (⟨b_M_goes, rfl⟩ : ∃ f : Nat → Int32 → Int32 → Mem → Option (Int32 × Mem), f = b_M_goes)
theorem f_M_goes_eq : f_M_goes = b_M_goes := Classical.choose_spec (⟨b_M_goes, rfl⟩ : ∃ f : Nat → Int32 → Int32 → Mem → Option (Int32 × Mem), f = b_M_goes)
noncomputable def sm_M_goes (O : Type) (av : List AV) (σ : Mem) (K : AV → Mem → Option O) : Option O := match av with
  | [.inr (.inr (12, k0)), .inl v1, .inl v2] => (f_M_goes k0 v1 v2 σ).bind fun r => K (.inl r.1) r.2
  | _ => none
def c_M_goes : List (List CE) := [[(0, .iload_n 1, 1, 0, 0, 0), (1, .iconst 1, 1, 1, 0, 0), (2, .bipush 60, 2, 60, 0, 0), (4, .invokestatic 60, 3, 230, 3, 1), (7, .ifCond .eq 12, 3, 19, 0, 0), (10, .iload_n 2, 1, 0, 0, 0), (11, .iconst 0, 1, 0, 0, 0), (12, .iconst 1, 1, 1, 0, 0), (13, .invokestatic 60, 3, 230, 3, 1)], [(16, .ifCond .ne 5, 3, 21, 0, 0), (19, .iconst (-1), 1, 1, 0, 1), (20, .ireturn, 1, 0, 0, 0), (21, .aload_n 0, 1, 0, 0, 0), (22, .invokevirtual 379, 3, 312, 1, 24), (25, .iconst 0, 1, 0, 0, 0), (26, .istore_n 3, 1, 0, 0, 0), (27, .iload_n 3, 1, 0, 0, 0), (28, .iload_n 1, 1, 0, 0, 0), (29, .if_icmp .ge 13, 3, 42, 0, 0)], [(32, .aload_n 0, 1, 0, 0, 0), (33, .invokevirtual 348, 3, 293, 1, 24), (36, .iinc 3 1, 3, 1, 0, 0), (39, .goto (-12), 3, 27, 0, 0), (42, .iload_n 2, 1, 0, 0, 0), (43, .ifCond .ne 12, 3, 55, 0, 0), (46, .aload_n 0, 1, 0, 0, 0), (47, .getfield 7, 3, 12, 0, 0)], [(50, .iconst 0, 1, 0, 0, 0), (51, .iaload, 1, 0, 0, 0), (52, .goto 7, 3, 59, 0, 0), (55, .aload_n 0, 1, 0, 0, 0), (56, .invokevirtual 345, 3, 291, 1, 25), (59, .istore_n 3, 1, 0, 0, 0), (60, .aload_n 0, 1, 0, 0, 0), (61, .invokevirtual 382, 3, 313, 1, 24)], [(64, .iload_n 3, 1, 0, 0, 0), (65, .ireturn, 1, 0, 0, 0)]]
set_option maxRecDepth 100000 in
theorem oc_M_goes : okC 311 c_M_goes = true := by decide +kernel
def cu_M_goes : List (Nat × List Bool) := [(27, [true, true, true, true]), (42, [true, false, true])]
noncomputable def F_M_goes (O : Type) (a : Nat) (av : List AV) (σ : Mem) (K : AV → Mem → Option O) : Option O := if a = 230 then sm_M_isIn O av σ K else if a = 291 then sm_M_brokenMiles O av σ K else if a = 293 then sm_M_aYear O av σ K else if a = 312 then sm_M_lays O av σ K else if a = 313 then sm_M_putsBack O av σ K else none
theorem fs_M_goes {X : CXT} (hX : XM X) (O : Type) : FS X 8 (F_M_goes O) := by
  intro a av σ K o h
  unfold F_M_goes at h
  rcases ite_s h with ⟨rfl, h⟩ | ⟨_, h⟩
  · obtain ⟨r, h1, h2, h3⟩ := ok_M_isIn hX _ _ _ _ _ h
    exact ⟨r, fun ht => ⟨1, by decide, h1 ht⟩, h2, h3⟩
  rcases ite_s h with ⟨rfl, h⟩ | ⟨_, h⟩
  · obtain ⟨r, h1, h2, h3⟩ := ok_M_brokenMiles hX _ _ _ _ _ h
    exact ⟨r, fun ht => ⟨2, by decide, h1 ht⟩, h2, h3⟩
  rcases ite_s h with ⟨rfl, h⟩ | ⟨_, h⟩
  · obtain ⟨r, h1, h2, h3⟩ := ok_M_aYear hX _ _ _ _ _ h
    exact ⟨r, fun ht => ⟨7, by decide, h1 ht⟩, h2, h3⟩
  rcases ite_s h with ⟨rfl, h⟩ | ⟨_, h⟩
  · obtain ⟨r, h1, h2, h3⟩ := ok_M_lays hX _ _ _ _ _ h
    exact ⟨r, fun ht => ⟨1, by decide, h1 ht⟩, h2, h3⟩
  rcases ite_s h with ⟨rfl, h⟩ | ⟨_, h⟩
  · obtain ⟨r, h1, h2, h3⟩ := ok_M_putsBack hX _ _ _ _ _ h
    exact ⟨r, fun ht => ⟨1, by decide, h1 ht⟩, h2, h3⟩
  cases h
def hd_M_goes_27 {O : Type} (g : Nat → Int32 → Int32 → Int32 → Mem → Option O) (ls : OL) (st : List AV) (σ : Mem) : Option O := match ls, st with
  | [some (.inr (.inr (12, k0))), some (.inl v1), some (.inl v2), some (.inl v3)], [] => g k0 v1 v2 v3 σ
  | _, _ => none
theorem hs_M_goes_27 {X : CXT} {g : Nat → Int32 → Int32 → Int32 → Mem → Option (Int32 × Mem)} (hg : ∀ (k0 : Nat) (v1 : Int32) (v2 : Int32) (v3 : Int32) (s : Mem) (o : Int32 × Mem), g k0 v1 v2 v3 s = some o → BSnd X 8 311 (ovI o) 27 [some (.inr (.inr (12, k0))), some (.inl v1), some (.inl v2), some (.inl v3)] [] s) : ∀ ls st σ o, hd_M_goes_27 g ls st σ = some o → BSnd X 8 311 (ovI o) 27 ls st σ := by
  intro ls st σ o h
  unfold hd_M_goes_27 at h
  split at h
  · exact hg _ _ _ _ _ _ h
  · cases h
def hd_M_goes_42 {O : Type} (g : Nat → Int32 → Mem → Option O) (ls : OL) (st : List AV) (σ : Mem) : Option O := match ls, st with
  | [some (.inr (.inr (12, k0))), none, some (.inl v2)], [] => g k0 v2 σ
  | _, _ => none
theorem hs_M_goes_42 {X : CXT} {g : Nat → Int32 → Mem → Option (Int32 × Mem)} (hg : ∀ (k0 : Nat) (v2 : Int32) (s : Mem) (o : Int32 × Mem), g k0 v2 s = some o → BSnd X 8 311 (ovI o) 42 [some (.inr (.inr (12, k0))), none, some (.inl v2)] [] s) : ∀ ls st σ o, hd_M_goes_42 g ls st σ = some o → BSnd X 8 311 (ovI o) 42 ls st σ := by
  intro ls st σ o h
  unfold hd_M_goes_42 at h
  split at h
  · exact hg _ _ _ _ h
  · cases h
set_option maxRecDepth 100000 in
theorem s_M_goes_27 {X : CXT} (hX : XM X) {K42 : Nat → Int32 → Mem → Option (Int32 × Mem)} (hK42 : ∀ (k0 : Nat) (v2 : Int32) (s : Mem) (o : Int32 × Mem), K42 k0 v2 s = some o → BSnd X 8 311 (ovI o) 42 [some (.inr (.inr (12, k0))), none, some (.inl v2)] [] s) : ∀ n : Nat, ∀ (k0 : Nat) (v1 : Int32) (v2 : Int32) (v3 : Int32) (s : Mem) (o : Int32 × Mem), f_M_goes_27 K42 n k0 v1 v2 v3 s = some o → BSnd X 8 311 (ovI o) 27 [some (.inr (.inr (12, k0))), some (.inl v1), some (.inl v2), some (.inl v3)] [] s := by
  intro n
  induction n with
  | zero => intro k0 v1 v2 v3 s o h; cases h
  | succ n ih =>
    intro k0 v1 v2 v3 s o h
    exact evC (chs := c_M_goes) (cuts := cu_M_goes) (G := fun pc ls st σ => if pc = 27 then hd_M_goes_27 (fun k0 v1 v2 v3 s => f_M_goes_27 K42 n k0 v1 v2 v3 s) ls st σ else if pc = 42 then hd_M_goes_42 (fun k0 v2 s => K42 k0 v2 s) ls st σ else none) hX.2.1 hX.2.2 (F := F_M_goes _) (fs_M_goes hX _) (rt_I rfl) oc_M_goes (by
    intro pc ls st σ o h
    rcases ite_s h with ⟨rfl, h⟩ | ⟨_, h⟩
    · exact hs_M_goes_27 ih _ _ _ _ h
    rcases ite_s h with ⟨rfl, h⟩ | ⟨_, h⟩
    · exact hs_M_goes_42 hK42 _ _ _ _ h
    cases h) 188 27 _ _ _ _ h
set_option maxRecDepth 100000 in
theorem s_M_goes_42 {X : CXT} (hX : XM X) : ∀ (k0 : Nat) (v2 : Int32) (s : Mem) (o : Int32 × Mem), f_M_goes_42 k0 v2 s = some o → BSnd X 8 311 (ovI o) 42 [some (.inr (.inr (12, k0))), none, some (.inl v2)] [] s := by
  intro k0 v2 s o h
  exact evC (chs := c_M_goes) (cuts := cu_M_goes) (G := fun pc ls st σ => none) hX.2.1 hX.2.2 (F := F_M_goes _) (fs_M_goes hX _) (rt_I rfl) oc_M_goes (by
    intro pc ls st σ o h
    cases h) 188 42 _ _ _ _ h
set_option maxRecDepth 100000 in
theorem s_M_goes {X : CXT} (hX : XM X) : ∀ (k0 : Nat) (v1 : Int32) (v2 : Int32) (s : Mem) (o : Int32 × Mem), f_M_goes k0 v1 v2 s = some o → BSnd X 8 311 (ovI o) 0 (entL [.inr (.inr (12, k0)), .inl v1, .inl v2]) [] s := by
  intro k0 v1 v2 s o h
  rw [f_M_goes_eq] at h
  exact evC (chs := c_M_goes) (cuts := cu_M_goes) (G := fun pc ls st σ => if pc = 27 then hd_M_goes_27 (fun k0 v1 v2 v3 s => f_M_goes_27 (fun k0 v2 s => f_M_goes_42 k0 v2 s) FU k0 v1 v2 v3 s) ls st σ else if pc = 42 then hd_M_goes_42 (fun k0 v2 s => f_M_goes_42 k0 v2 s) ls st σ else none) hX.2.1 hX.2.2 (F := F_M_goes _) (fs_M_goes hX _) (rt_I rfl) oc_M_goes (by
    intro pc ls st σ o h
    rcases ite_s h with ⟨rfl, h⟩ | ⟨_, h⟩
    · exact hs_M_goes_27 (s_M_goes_27 hX (s_M_goes_42 hX) FU) _ _ _ _ h
    rcases ite_s h with ⟨rfl, h⟩ | ⟨_, h⟩
    · exact hs_M_goes_42 (s_M_goes_42 hX) _ _ _ _ h
    cases h) 188 0 _ _ _ _ h
theorem ok_M_goes {X : CXT} (hX : XM X) : SemOK X 8 311 sm_M_goes := by
  intro O av σ K o h
  unfold sm_M_goes at h
  split at h
  · obtain ⟨r, hf, h⟩ := Option.bind_eq_some_iff.mp h
    exact ⟨ovI r, fun ht => sp_of hX.1 (by decide) (List.mem_range.mpr (by decide)) (by decide +kernel) ht (Nat.le_of_ble_eq_true rfl) (s_M_goes hX _ _ _ _ _ hf), trivial, h⟩
  · cases h
noncomputable def f_M_far_53 (K74 : Nat → Int32 → Int32 → Int32 → Mem → Option (Int32 × Mem)) : Nat → Nat → Int32 → Int32 → Int32 → Int32 → Mem → Option (Int32 × Mem)
  | 0, _, _, _, _, _, _ => none
  | n + 1, k0, v1, v2, v3, v4, s =>
    (f_M_isAshore k0 v1 s).bind fun r1 =>
    cif ((b2i r1.1) = 0) (
      (f_M_walksADay k0 v1 r1.2).bind fun r2 =>
      (f_M_greater v3 r2.1 r2.2).bind fun r3 =>
      f_M_far_53 K74 n k0 v1 v2 r3.1 v4 r3.2) (
      K74 k0 v2 v3 v4 r1.2)
noncomputable def f_M_far_74 (k0 : Nat) (v2 : Int32) (v3 : Int32) (v4 : Int32) (s : Mem) : Option (Int32 × Mem) :=
  cif (v3 = ((-1 : Int32))) (
    (f_M_putsBack k0 s).bind fun r1 =>
    cif (v2 = 0) (
      some (v3, r1)) (
      some ((0 : Int32), r1))) (
    gd (inb ((3 : Int32)) (lenM (k0 + 1))) <|
    cif ((rI s (k0 + 1) (ix ((3 : Int32)))) = v4) (
      (f_M_putsBack k0 s).bind fun r2 =>
      cif (v2 = 0) (
        some (v3, r2)) (
        some ((1 : Int32), r2))) (
      (f_M_putsBack k0 s).bind fun r3 =>
      cif (v2 = 0) (
        some (v3, r3)) (
        some ((0 : Int32), r3))))
noncomputable def b_M_far (k0 : Nat) (v1 : Int32) (v2 : Int32) (s : Mem) : Option (Int32 × Mem) :=
  (f_M_isWalker k0 v1 s).bind fun r1 =>
  cif ((b2i r1.1) = 0) (
    some ((-1 : Int32), r1.2)) (
    (f_M_isIn v2 ((0 : Int32)) ((1 : Int32)) r1.2).bind fun r2 =>
    cif ((b2i r2.1) = 0) (
      some ((-1 : Int32), r2.2)) (
      (f_M_lays k0 r2.2).bind fun r3 =>
      (f_M_goesAshore k0 v1 r3).bind fun r4 =>
      gd (inb ((3 : Int32)) (lenM (k0 + 1))) <|
      let x5 : Int32 := rI r4 (k0 + 1) (ix ((3 : Int32)))
      (f_M_canSetOff k0 v1 r4).bind fun r6 =>
      cif ((b2i r6.1) = 0) (
        f_M_far_74 k0 v2 ((-1 : Int32)) x5 r6.2) (
        (f_M_setsOff k0 v1 r6.2).bind fun r7 =>
        f_M_far_53 (fun k0 v2 v3 v4 s => f_M_far_74 k0 v2 v3 v4 s) FU k0 v1 v2 ((0 : Int32)) x5 r7)))
noncomputable def f_M_far : Nat → Int32 → Int32 → Mem → Option (Int32 × Mem) := Classical.choose (⟨b_M_far, rfl⟩ : ∃ f : Nat → Int32 → Int32 → Mem → Option (Int32 × Mem), f = b_M_far)
theorem f_M_far_eq : f_M_far = b_M_far := Classical.choose_spec (⟨b_M_far, rfl⟩ : ∃ f : Nat → Int32 → Int32 → Mem → Option (Int32 × Mem), f = b_M_far)
noncomputable def sm_M_far (O : Type) (av : List AV) (σ : Mem) (K : AV → Mem → Option O) : Option O := match av with
  | [.inr (.inr (12, k0)), .inl v1, .inl v2] => (f_M_far k0 v1 v2 σ).bind fun r => K (.inl r.1) r.2
  | _ => none
def c_M_far : List (List CE) := [[(0, .aload_n 0, 1, 0, 0, 0), (1, .iload_n 1, 1, 0, 0, 0), (2, .invokevirtual 76, 3, 233, 2, 25), (5, .ifCond .eq 12, 3, 17, 0, 0), (8, .iload_n 2, 1, 0, 0, 0), (9, .iconst 0, 1, 0, 0, 0), (10, .iconst 1, 1, 1, 0, 0), (11, .invokestatic 60, 3, 230, 3, 1), (14, .ifCond .ne 5, 3, 19, 0, 0)], [(17, .iconst (-1), 1, 1, 0, 1), (18, .ireturn, 1, 0, 0, 0), (19, .aload_n 0, 1, 0, 0, 0), (20, .invokevirtual 379, 3, 312, 1, 24), (23, .aload_n 0, 1, 0, 0, 0), (24, .iload_n 1, 1, 0, 0, 0), (25, .invokevirtual 357, 3, 304, 2, 24), (28, .iconst (-1), 1, 1, 0, 1), (29, .istore_n 3, 1, 0, 0, 0), (30, .aload_n 0, 1, 0, 0, 0), (31, .getfield 7, 3, 12, 0, 0)], [(34, .iconst 3, 1, 3, 0, 0), (35, .iaload, 1, 0, 0, 0), (36, .istore 4, 2, 0, 0, 0), (38, .aload_n 0, 1, 0, 0, 0), (39, .iload_n 1, 1, 0, 0, 0), (40, .invokevirtual 323, 3, 287, 2, 25), (43, .ifCond .eq 31, 3, 74, 0, 0), (46, .aload_n 0, 1, 0, 0, 0), (47, .iload_n 1, 1, 0, 0, 0)], [(48, .invokevirtual 330, 3, 289, 2, 24), (51, .iconst 0, 1, 0, 0, 0), (52, .istore_n 3, 1, 0, 0, 0), (53, .aload_n 0, 1, 0, 0, 0), (54, .iload_n 1, 1, 0, 0, 0), (55, .invokevirtual 80, 3, 234, 2, 25), (58, .ifCond .ne 16, 3, 74, 0, 0), (61, .iload_n 3, 1, 0, 0, 0), (62, .aload_n 0, 1, 0, 0, 0), (63, .iload_n 1, 1, 0, 0, 0)], [(64, .invokevirtual 366, 3, 299, 2, 25), (67, .invokestatic 294, 3, 283, 2, 1), (70, .istore_n 3, 1, 0, 0, 0), (71, .goto (-18), 3, 53, 0, 0), (74, .iload_n 3, 1, 0, 0, 0), (75, .iconst (-1), 1, 1, 0, 1), (76, .if_icmp .eq 18, 3, 94, 0, 0), (79, .aload_n 0, 1, 0, 0, 0)], [(80, .getfield 7, 3, 12, 0, 0), (83, .iconst 3, 1, 3, 0, 0), (84, .iaload, 1, 0, 0, 0), (85, .iload 4, 2, 0, 0, 0), (87, .if_icmp .ne 7, 3, 94, 0, 0), (90, .iconst 1, 1, 1, 0, 0), (91, .goto 4, 3, 95, 0, 0), (94, .iconst 0, 1, 0, 0, 0), (95, .istore 5, 2, 0, 0, 0)], [(97, .aload_n 0, 1, 0, 0, 0), (98, .invokevirtual 382, 3, 313, 1, 24), (101, .iload_n 2, 1, 0, 0, 0), (102, .ifCond .ne 7, 3, 109, 0, 0), (105, .iload_n 3, 1, 0, 0, 0), (106, .goto 5, 3, 111, 0, 0), (109, .iload 5, 2, 0, 0, 0), (111, .ireturn, 1, 0, 0, 0)]]
set_option maxRecDepth 100000 in
theorem oc_M_far : okC 314 c_M_far = true := by decide +kernel
def cu_M_far : List (Nat × List Bool) := [(53, [true, true, true, true, true]), (74, [true, false, true, true, true])]
noncomputable def F_M_far (O : Type) (a : Nat) (av : List AV) (σ : Mem) (K : AV → Mem → Option O) : Option O := if a = 230 then sm_M_isIn O av σ K else if a = 233 then sm_M_isWalker O av σ K else if a = 234 then sm_M_isAshore O av σ K else if a = 283 then sm_M_greater O av σ K else if a = 287 then sm_M_canSetOff O av σ K else if a = 289 then sm_M_setsOff O av σ K else if a = 299 then sm_M_walksADay O av σ K else if a = 304 then sm_M_goesAshore O av σ K else if a = 312 then sm_M_lays O av σ K else if a = 313 then sm_M_putsBack O av σ K else none
theorem fs_M_far {X : CXT} (hX : XM X) (O : Type) : FS X 7 (F_M_far O) := by
  intro a av σ K o h
  unfold F_M_far at h
  rcases ite_s h with ⟨rfl, h⟩ | ⟨_, h⟩
  · obtain ⟨r, h1, h2, h3⟩ := ok_M_isIn hX _ _ _ _ _ h
    exact ⟨r, fun ht => ⟨1, by decide, h1 ht⟩, h2, h3⟩
  rcases ite_s h with ⟨rfl, h⟩ | ⟨_, h⟩
  · obtain ⟨r, h1, h2, h3⟩ := ok_M_isWalker hX _ _ _ _ _ h
    exact ⟨r, fun ht => ⟨2, by decide, h1 ht⟩, h2, h3⟩
  rcases ite_s h with ⟨rfl, h⟩ | ⟨_, h⟩
  · obtain ⟨r, h1, h2, h3⟩ := ok_M_isAshore hX _ _ _ _ _ h
    exact ⟨r, fun ht => ⟨1, by decide, h1 ht⟩, h2, h3⟩
  rcases ite_s h with ⟨rfl, h⟩ | ⟨_, h⟩
  · obtain ⟨r, h1, h2, h3⟩ := ok_M_greater hX _ _ _ _ _ h
    exact ⟨r, fun ht => ⟨1, by decide, h1 ht⟩, h2, h3⟩
  rcases ite_s h with ⟨rfl, h⟩ | ⟨_, h⟩
  · obtain ⟨r, h1, h2, h3⟩ := ok_M_canSetOff hX _ _ _ _ _ h
    exact ⟨r, fun ht => ⟨2, by decide, h1 ht⟩, h2, h3⟩
  rcases ite_s h with ⟨rfl, h⟩ | ⟨_, h⟩
  · obtain ⟨r, h1, h2, h3⟩ := ok_M_setsOff hX _ _ _ _ _ h
    exact ⟨r, fun ht => ⟨2, by decide, h1 ht⟩, h2, h3⟩
  rcases ite_s h with ⟨rfl, h⟩ | ⟨_, h⟩
  · obtain ⟨r, h1, h2, h3⟩ := ok_M_walksADay hX _ _ _ _ _ h
    exact ⟨r, fun ht => ⟨6, by decide, h1 ht⟩, h2, h3⟩
  rcases ite_s h with ⟨rfl, h⟩ | ⟨_, h⟩
  · obtain ⟨r, h1, h2, h3⟩ := ok_M_goesAshore hX _ _ _ _ _ h
    exact ⟨r, fun ht => ⟨1, by decide, h1 ht⟩, h2, h3⟩
  rcases ite_s h with ⟨rfl, h⟩ | ⟨_, h⟩
  · obtain ⟨r, h1, h2, h3⟩ := ok_M_lays hX _ _ _ _ _ h
    exact ⟨r, fun ht => ⟨1, by decide, h1 ht⟩, h2, h3⟩
  rcases ite_s h with ⟨rfl, h⟩ | ⟨_, h⟩
  · obtain ⟨r, h1, h2, h3⟩ := ok_M_putsBack hX _ _ _ _ _ h
    exact ⟨r, fun ht => ⟨1, by decide, h1 ht⟩, h2, h3⟩
  cases h
def hd_M_far_53 {O : Type} (g : Nat → Int32 → Int32 → Int32 → Int32 → Mem → Option O) (ls : OL) (st : List AV) (σ : Mem) : Option O := match ls, st with
  | [some (.inr (.inr (12, k0))), some (.inl v1), some (.inl v2), some (.inl v3), some (.inl v4)], [] => g k0 v1 v2 v3 v4 σ
  | _, _ => none
theorem hs_M_far_53 {X : CXT} {g : Nat → Int32 → Int32 → Int32 → Int32 → Mem → Option (Int32 × Mem)} (hg : ∀ (k0 : Nat) (v1 : Int32) (v2 : Int32) (v3 : Int32) (v4 : Int32) (s : Mem) (o : Int32 × Mem), g k0 v1 v2 v3 v4 s = some o → BSnd X 7 314 (ovI o) 53 [some (.inr (.inr (12, k0))), some (.inl v1), some (.inl v2), some (.inl v3), some (.inl v4)] [] s) : ∀ ls st σ o, hd_M_far_53 g ls st σ = some o → BSnd X 7 314 (ovI o) 53 ls st σ := by
  intro ls st σ o h
  unfold hd_M_far_53 at h
  split at h
  · exact hg _ _ _ _ _ _ _ h
  · cases h
def hd_M_far_74 {O : Type} (g : Nat → Int32 → Int32 → Int32 → Mem → Option O) (ls : OL) (st : List AV) (σ : Mem) : Option O := match ls, st with
  | [some (.inr (.inr (12, k0))), none, some (.inl v2), some (.inl v3), some (.inl v4)], [] => g k0 v2 v3 v4 σ
  | _, _ => none
theorem hs_M_far_74 {X : CXT} {g : Nat → Int32 → Int32 → Int32 → Mem → Option (Int32 × Mem)} (hg : ∀ (k0 : Nat) (v2 : Int32) (v3 : Int32) (v4 : Int32) (s : Mem) (o : Int32 × Mem), g k0 v2 v3 v4 s = some o → BSnd X 7 314 (ovI o) 74 [some (.inr (.inr (12, k0))), none, some (.inl v2), some (.inl v3), some (.inl v4)] [] s) : ∀ ls st σ o, hd_M_far_74 g ls st σ = some o → BSnd X 7 314 (ovI o) 74 ls st σ := by
  intro ls st σ o h
  unfold hd_M_far_74 at h
  split at h
  · exact hg _ _ _ _ _ _ h
  · cases h
set_option maxRecDepth 100000 in
theorem s_M_far_53 {X : CXT} (hX : XM X) {K74 : Nat → Int32 → Int32 → Int32 → Mem → Option (Int32 × Mem)} (hK74 : ∀ (k0 : Nat) (v2 : Int32) (v3 : Int32) (v4 : Int32) (s : Mem) (o : Int32 × Mem), K74 k0 v2 v3 v4 s = some o → BSnd X 7 314 (ovI o) 74 [some (.inr (.inr (12, k0))), none, some (.inl v2), some (.inl v3), some (.inl v4)] [] s) : ∀ n : Nat, ∀ (k0 : Nat) (v1 : Int32) (v2 : Int32) (v3 : Int32) (v4 : Int32) (s : Mem) (o : Int32 × Mem), f_M_far_53 K74 n k0 v1 v2 v3 v4 s = some o → BSnd X 7 314 (ovI o) 53 [some (.inr (.inr (12, k0))), some (.inl v1), some (.inl v2), some (.inl v3), some (.inl v4)] [] s := by
  intro n
  induction n with
  | zero => intro k0 v1 v2 v3 v4 s o h; cases h
  | succ n ih =>
    intro k0 v1 v2 v3 v4 s o h
    exact evC (chs := c_M_far) (cuts := cu_M_far) (G := fun pc ls st σ => if pc = 53 then hd_M_far_53 (fun k0 v1 v2 v3 v4 s => f_M_far_53 K74 n k0 v1 v2 v3 v4 s) ls st σ else if pc = 74 then hd_M_far_74 (fun k0 v2 v3 v4 s => K74 k0 v2 v3 v4 s) ls st σ else none) hX.2.1 hX.2.2 (F := F_M_far _) (fs_M_far hX _) (rt_I rfl) oc_M_far (by
    intro pc ls st σ o h
    rcases ite_s h with ⟨rfl, h⟩ | ⟨_, h⟩
    · exact hs_M_far_53 ih _ _ _ _ h
    rcases ite_s h with ⟨rfl, h⟩ | ⟨_, h⟩
    · exact hs_M_far_74 hK74 _ _ _ _ h
    cases h) 296 53 _ _ _ _ h
set_option maxRecDepth 100000 in
theorem s_M_far_74 {X : CXT} (hX : XM X) : ∀ (k0 : Nat) (v2 : Int32) (v3 : Int32) (v4 : Int32) (s : Mem) (o : Int32 × Mem), f_M_far_74 k0 v2 v3 v4 s = some o → BSnd X 7 314 (ovI o) 74 [some (.inr (.inr (12, k0))), none, some (.inl v2), some (.inl v3), some (.inl v4)] [] s := by
  intro k0 v2 v3 v4 s o h
  exact evC (chs := c_M_far) (cuts := cu_M_far) (G := fun pc ls st σ => none) hX.2.1 hX.2.2 (F := F_M_far _) (fs_M_far hX _) (rt_I rfl) oc_M_far (by
    intro pc ls st σ o h
    cases h) 296 74 _ _ _ _ h
set_option maxRecDepth 100000 in
theorem s_M_far {X : CXT} (hX : XM X) : ∀ (k0 : Nat) (v1 : Int32) (v2 : Int32) (s : Mem) (o : Int32 × Mem), f_M_far k0 v1 v2 s = some o → BSnd X 7 314 (ovI o) 0 (entL [.inr (.inr (12, k0)), .inl v1, .inl v2]) [] s := by
  intro k0 v1 v2 s o h
  rw [f_M_far_eq] at h
  exact evC (chs := c_M_far) (cuts := cu_M_far) (G := fun pc ls st σ => if pc = 53 then hd_M_far_53 (fun k0 v1 v2 v3 v4 s => f_M_far_53 (fun k0 v2 v3 v4 s => f_M_far_74 k0 v2 v3 v4 s) FU k0 v1 v2 v3 v4 s) ls st σ else if pc = 74 then hd_M_far_74 (fun k0 v2 v3 v4 s => f_M_far_74 k0 v2 v3 v4 s) ls st σ else none) hX.2.1 hX.2.2 (F := F_M_far _) (fs_M_far hX _) (rt_I rfl) oc_M_far (by
    intro pc ls st σ o h
    rcases ite_s h with ⟨rfl, h⟩ | ⟨_, h⟩
    · exact hs_M_far_53 (s_M_far_53 hX (s_M_far_74 hX) FU) _ _ _ _ h
    rcases ite_s h with ⟨rfl, h⟩ | ⟨_, h⟩
    · exact hs_M_far_74 (s_M_far_74 hX) _ _ _ _ h
    cases h) 296 0 _ _ _ _ h
theorem ok_M_far {X : CXT} (hX : XM X) : SemOK X 7 314 sm_M_far := by
  intro O av σ K o h
  unfold sm_M_far at h
  split at h
  · obtain ⟨r, hf, h⟩ := Option.bind_eq_some_iff.mp h
    exact ⟨ovI r, fun ht => sp_of hX.1 (by decide) (List.mem_range.mpr (by decide)) (by decide +kernel) ht (Nat.le_of_ble_eq_true rfl) (s_M_far hX _ _ _ _ _ hf), trivial, h⟩
  · cases h
noncomputable def f_M_meets_45 (K116 : Nat → Int32 → Int32 → Int32 → Mem → Option (Int32 × Mem)) : Nat → Nat → Int32 → Int32 → Int32 → Int32 → Int32 → Int32 → Mem → Option (Int32 × Mem)
  | 0, _, _, _, _, _, _, _, _ => none
  | n + 1, k0, v1, v2, v3, v4, v5, v6, s =>
    cif (((30 : Int32)) < v6) (
      K116 k0 v3 v4 v5 s) (
      cif (v4 = ((-1 : Int32))) (
        (f_M_aDay k0 s).bind fun r1 =>
        (f_M_isAshore k0 v1 r1.2).bind fun r2 =>
        cif ((b2i r2.1) = 0) (
          gd (inb (((13 : Int32)) + v1) (lenM (k0 + 1))) <|
          gd (inb (((13 : Int32)) + v2) (lenM (k0 + 1))) <|
          cif ((rI r2.2 (k0 + 1) (ix (((13 : Int32)) + v1))) = (rI r2.2 (k0 + 1) (ix (((13 : Int32)) + v2)))) (
            gd (inb (((13 : Int32)) + v1) (lenM (k0 + 1))) <|
            let x3 : Int32 := rI r2.2 (k0 + 1) (ix (((13 : Int32)) + v1))
            f_M_meets_45 K116 n k0 v1 v2 v3 v6 x3 (v6 + (1 : Int32)) r2.2) (
            f_M_meets_45 K116 n k0 v1 v2 v3 v4 v5 (v6 + (1 : Int32)) r2.2)) (
          f_M_meets_45 K116 n k0 v1 v2 v3 v4 v5 (v6 + (1 : Int32)) r2.2)) (
        K116 k0 v3 v4 v5 s))
noncomputable def f_M_meets_116 (k0 : Nat) (v3 : Int32) (v4 : Int32) (v5 : Int32) (s : Mem) : Option (Int32 × Mem) :=
  (f_M_putsBack k0 s).bind fun r1 =>
  cif (v3 = 0) (
    some (v4, r1)) (
    some (v5, r1))
noncomputable def b_M_meets (k0 : Nat) (v1 : Int32) (v2 : Int32) (v3 : Int32) (s : Mem) : Option (Int32 × Mem) :=
  (f_M_isWalker k0 v1 s).bind fun r1 =>
  cif ((b2i r1.1) = 0) (
    some ((-1 : Int32), r1.2)) (
    (f_M_isWalker k0 v2 r1.2).bind fun r2 =>
    cif ((b2i r2.1) = 0) (
      some ((-1 : Int32), r2.2)) (
      cif (v1 = v2) (
        some ((-1 : Int32), r2.2)) (
        (f_M_isIn v3 ((0 : Int32)) ((1 : Int32)) r2.2).bind fun r3 =>
        cif ((b2i r3.1) = 0) (
          some ((-1 : Int32), r3.2)) (
          (f_M_lays k0 r3.2).bind fun r4 =>
          f_M_meets_45 (fun k0 v3 v4 v5 s => f_M_meets_116 k0 v3 v4 v5 s) FU k0 v1 v2 v3 ((-1 : Int32)) ((-1 : Int32)) ((0 : Int32)) r4))))
noncomputable def f_M_meets : Nat → Int32 → Int32 → Int32 → Mem → Option (Int32 × Mem) := Classical.choose (⟨b_M_meets, rfl⟩ : ∃ f : Nat → Int32 → Int32 → Int32 → Mem → Option (Int32 × Mem), f = b_M_meets)
theorem f_M_meets_eq : f_M_meets = b_M_meets := Classical.choose_spec (⟨b_M_meets, rfl⟩ : ∃ f : Nat → Int32 → Int32 → Int32 → Mem → Option (Int32 × Mem), f = b_M_meets)
noncomputable def sm_M_meets (O : Type) (av : List AV) (σ : Mem) (K : AV → Mem → Option O) : Option O := match av with
  | [.inr (.inr (12, k0)), .inl v1, .inl v2, .inl v3] => (f_M_meets k0 v1 v2 v3 σ).bind fun r => K (.inl r.1) r.2
  | _ => none
def c_M_meets : List (List CE) := [[(0, .aload_n 0, 1, 0, 0, 0), (1, .iload_n 1, 1, 0, 0, 0), (2, .invokevirtual 76, 3, 233, 2, 25), (5, .ifCond .eq 25, 3, 30, 0, 0), (8, .aload_n 0, 1, 0, 0, 0), (9, .iload_n 2, 1, 0, 0, 0), (10, .invokevirtual 76, 3, 233, 2, 25), (13, .ifCond .eq 17, 3, 30, 0, 0)], [(16, .iload_n 1, 1, 0, 0, 0), (17, .iload_n 2, 1, 0, 0, 0), (18, .if_icmp .eq 12, 3, 30, 0, 0), (21, .iload_n 3, 1, 0, 0, 0), (22, .iconst 0, 1, 0, 0, 0), (23, .iconst 1, 1, 1, 0, 0), (24, .invokestatic 60, 3, 230, 3, 1), (27, .ifCond .ne 5, 3, 32, 0, 0), (30, .iconst (-1), 1, 1, 0, 1), (31, .ireturn, 1, 0, 0, 0)], [(32, .aload_n 0, 1, 0, 0, 0), (33, .invokevirtual 379, 3, 312, 1, 24), (36, .iconst (-1), 1, 1, 0, 1), (37, .istore 4, 2, 0, 0, 0), (39, .iconst (-1), 1, 1, 0, 1), (40, .istore 5, 2, 0, 0, 0), (42, .iconst 0, 1, 0, 0, 0), (43, .istore 6, 2, 0, 0, 0), (45, .iload 6, 2, 0, 0, 0), (47, .bipush 30, 2, 30, 0, 0)], [(49, .if_icmp .gt 67, 3, 116, 0, 0), (52, .iload 4, 2, 0, 0, 0), (54, .iconst (-1), 1, 1, 0, 1), (55, .if_icmp .ne 61, 3, 116, 0, 0), (58, .aload_n 0, 1, 0, 0, 0), (59, .invokevirtual 370, 3, 298, 1, 25), (62, .pop, 1, 0, 0, 0), (63, .aload_n 0, 1, 0, 0, 0)], [(64, .iload_n 1, 1, 0, 0, 0), (65, .invokevirtual 80, 3, 234, 2, 25), (68, .ifCond .ne 42, 3, 110, 0, 0), (71, .aload_n 0, 1, 0, 0, 0), (72, .getfield 7, 3, 12, 0, 0), (75, .bipush 13, 2, 13, 0, 0), (77, .iload_n 1, 1, 0, 0, 0), (78, .iadd, 1, 0, 0, 0), (79, .iaload, 1, 0, 0, 0)], [(80, .aload_n 0, 1, 0, 0, 0), (81, .getfield 7, 3, 12, 0, 0), (84, .bipush 13, 2, 13, 0, 0), (86, .iload_n 2, 1, 0, 0, 0), (87, .iadd, 1, 0, 0, 0), (88, .iaload, 1, 0, 0, 0), (89, .if_icmp .eq 6, 3, 95, 0, 0), (92, .goto 18, 3, 110, 0, 0), (95, .iload 6, 2, 0, 0, 0)], [(97, .istore 4, 2, 0, 0, 0), (99, .aload_n 0, 1, 0, 0, 0), (100, .getfield 7, 3, 12, 0, 0), (103, .bipush 13, 2, 13, 0, 0), (105, .iload_n 1, 1, 0, 0, 0), (106, .iadd, 1, 0, 0, 0), (107, .iaload, 1, 0, 0, 0), (108, .istore 5, 2, 0, 0, 0), (110, .iinc 6 1, 3, 1, 0, 0)], [(113, .goto (-68), 3, 45, 0, 0), (116, .aload_n 0, 1, 0, 0, 0), (117, .invokevirtual 382, 3, 313, 1, 24), (120, .iload_n 3, 1, 0, 0, 0), (121, .ifCond .ne 8, 3, 129, 0, 0), (124, .iload 4, 2, 0, 0, 0), (126, .goto 5, 3, 131, 0, 0)], [(129, .iload 5, 2, 0, 0, 0), (131, .ireturn, 1, 0, 0, 0)]]
set_option maxRecDepth 100000 in
theorem oc_M_meets : okC 315 c_M_meets = true := by decide +kernel
def cu_M_meets : List (Nat × List Bool) := [(45, [true, true, true, true, true, true, true]), (116, [true, false, false, true, true, true])]
noncomputable def F_M_meets (O : Type) (a : Nat) (av : List AV) (σ : Mem) (K : AV → Mem → Option O) : Option O := if a = 230 then sm_M_isIn O av σ K else if a = 233 then sm_M_isWalker O av σ K else if a = 234 then sm_M_isAshore O av σ K else if a = 298 then sm_M_aDay O av σ K else if a = 312 then sm_M_lays O av σ K else if a = 313 then sm_M_putsBack O av σ K else none
theorem fs_M_meets {X : CXT} (hX : XM X) (O : Type) : FS X 8 (F_M_meets O) := by
  intro a av σ K o h
  unfold F_M_meets at h
  rcases ite_s h with ⟨rfl, h⟩ | ⟨_, h⟩
  · obtain ⟨r, h1, h2, h3⟩ := ok_M_isIn hX _ _ _ _ _ h
    exact ⟨r, fun ht => ⟨1, by decide, h1 ht⟩, h2, h3⟩
  rcases ite_s h with ⟨rfl, h⟩ | ⟨_, h⟩
  · obtain ⟨r, h1, h2, h3⟩ := ok_M_isWalker hX _ _ _ _ _ h
    exact ⟨r, fun ht => ⟨2, by decide, h1 ht⟩, h2, h3⟩
  rcases ite_s h with ⟨rfl, h⟩ | ⟨_, h⟩
  · obtain ⟨r, h1, h2, h3⟩ := ok_M_isAshore hX _ _ _ _ _ h
    exact ⟨r, fun ht => ⟨1, by decide, h1 ht⟩, h2, h3⟩
  rcases ite_s h with ⟨rfl, h⟩ | ⟨_, h⟩
  · obtain ⟨r, h1, h2, h3⟩ := ok_M_aDay hX _ _ _ _ _ h
    exact ⟨r, fun ht => ⟨7, by decide, h1 ht⟩, h2, h3⟩
  rcases ite_s h with ⟨rfl, h⟩ | ⟨_, h⟩
  · obtain ⟨r, h1, h2, h3⟩ := ok_M_lays hX _ _ _ _ _ h
    exact ⟨r, fun ht => ⟨1, by decide, h1 ht⟩, h2, h3⟩
  rcases ite_s h with ⟨rfl, h⟩ | ⟨_, h⟩
  · obtain ⟨r, h1, h2, h3⟩ := ok_M_putsBack hX _ _ _ _ _ h
    exact ⟨r, fun ht => ⟨1, by decide, h1 ht⟩, h2, h3⟩
  cases h
def hd_M_meets_45 {O : Type} (g : Nat → Int32 → Int32 → Int32 → Int32 → Int32 → Int32 → Mem → Option O) (ls : OL) (st : List AV) (σ : Mem) : Option O := match ls, st with
  | [some (.inr (.inr (12, k0))), some (.inl v1), some (.inl v2), some (.inl v3), some (.inl v4), some (.inl v5), some (.inl v6)], [] => g k0 v1 v2 v3 v4 v5 v6 σ
  | _, _ => none
theorem hs_M_meets_45 {X : CXT} {g : Nat → Int32 → Int32 → Int32 → Int32 → Int32 → Int32 → Mem → Option (Int32 × Mem)} (hg : ∀ (k0 : Nat) (v1 : Int32) (v2 : Int32) (v3 : Int32) (v4 : Int32) (v5 : Int32) (v6 : Int32) (s : Mem) (o : Int32 × Mem), g k0 v1 v2 v3 v4 v5 v6 s = some o → BSnd X 8 315 (ovI o) 45 [some (.inr (.inr (12, k0))), some (.inl v1), some (.inl v2), some (.inl v3), some (.inl v4), some (.inl v5), some (.inl v6)] [] s) : ∀ ls st σ o, hd_M_meets_45 g ls st σ = some o → BSnd X 8 315 (ovI o) 45 ls st σ := by
  intro ls st σ o h
  unfold hd_M_meets_45 at h
  split at h
  · exact hg _ _ _ _ _ _ _ _ _ h
  · cases h
def hd_M_meets_116 {O : Type} (g : Nat → Int32 → Int32 → Int32 → Mem → Option O) (ls : OL) (st : List AV) (σ : Mem) : Option O := match ls, st with
  | [some (.inr (.inr (12, k0))), none, none, some (.inl v3), some (.inl v4), some (.inl v5)], [] => g k0 v3 v4 v5 σ
  | _, _ => none
theorem hs_M_meets_116 {X : CXT} {g : Nat → Int32 → Int32 → Int32 → Mem → Option (Int32 × Mem)} (hg : ∀ (k0 : Nat) (v3 : Int32) (v4 : Int32) (v5 : Int32) (s : Mem) (o : Int32 × Mem), g k0 v3 v4 v5 s = some o → BSnd X 8 315 (ovI o) 116 [some (.inr (.inr (12, k0))), none, none, some (.inl v3), some (.inl v4), some (.inl v5)] [] s) : ∀ ls st σ o, hd_M_meets_116 g ls st σ = some o → BSnd X 8 315 (ovI o) 116 ls st σ := by
  intro ls st σ o h
  unfold hd_M_meets_116 at h
  split at h
  · exact hg _ _ _ _ _ _ h
  · cases h
set_option maxRecDepth 100000 in
theorem s_M_meets_45 {X : CXT} (hX : XM X) {K116 : Nat → Int32 → Int32 → Int32 → Mem → Option (Int32 × Mem)} (hK116 : ∀ (k0 : Nat) (v3 : Int32) (v4 : Int32) (v5 : Int32) (s : Mem) (o : Int32 × Mem), K116 k0 v3 v4 v5 s = some o → BSnd X 8 315 (ovI o) 116 [some (.inr (.inr (12, k0))), none, none, some (.inl v3), some (.inl v4), some (.inl v5)] [] s) : ∀ n : Nat, ∀ (k0 : Nat) (v1 : Int32) (v2 : Int32) (v3 : Int32) (v4 : Int32) (v5 : Int32) (v6 : Int32) (s : Mem) (o : Int32 × Mem), f_M_meets_45 K116 n k0 v1 v2 v3 v4 v5 v6 s = some o → BSnd X 8 315 (ovI o) 45 [some (.inr (.inr (12, k0))), some (.inl v1), some (.inl v2), some (.inl v3), some (.inl v4), some (.inl v5), some (.inl v6)] [] s := by
  intro n
  induction n with
  | zero => intro k0 v1 v2 v3 v4 v5 v6 s o h; cases h
  | succ n ih =>
    intro k0 v1 v2 v3 v4 v5 v6 s o h
    exact evC (chs := c_M_meets) (cuts := cu_M_meets) (G := fun pc ls st σ => if pc = 45 then hd_M_meets_45 (fun k0 v1 v2 v3 v4 v5 v6 s => f_M_meets_45 K116 n k0 v1 v2 v3 v4 v5 v6 s) ls st σ else if pc = 116 then hd_M_meets_116 (fun k0 v3 v4 v5 s => K116 k0 v3 v4 v5 s) ls st σ else none) hX.2.1 hX.2.2 (F := F_M_meets _) (fs_M_meets hX _) (rt_I rfl) oc_M_meets (by
    intro pc ls st σ o h
    rcases ite_s h with ⟨rfl, h⟩ | ⟨_, h⟩
    · exact hs_M_meets_45 ih _ _ _ _ h
    rcases ite_s h with ⟨rfl, h⟩ | ⟨_, h⟩
    · exact hs_M_meets_116 hK116 _ _ _ _ h
    cases h) 328 45 _ _ _ _ h
set_option maxRecDepth 100000 in
theorem s_M_meets_116 {X : CXT} (hX : XM X) : ∀ (k0 : Nat) (v3 : Int32) (v4 : Int32) (v5 : Int32) (s : Mem) (o : Int32 × Mem), f_M_meets_116 k0 v3 v4 v5 s = some o → BSnd X 8 315 (ovI o) 116 [some (.inr (.inr (12, k0))), none, none, some (.inl v3), some (.inl v4), some (.inl v5)] [] s := by
  intro k0 v3 v4 v5 s o h
  exact evC (chs := c_M_meets) (cuts := cu_M_meets) (G := fun pc ls st σ => none) hX.2.1 hX.2.2 (F := F_M_meets _) (fs_M_meets hX _) (rt_I rfl) oc_M_meets (by
    intro pc ls st σ o h
    cases h) 328 116 _ _ _ _ h
set_option maxRecDepth 100000 in
theorem s_M_meets {X : CXT} (hX : XM X) : ∀ (k0 : Nat) (v1 : Int32) (v2 : Int32) (v3 : Int32) (s : Mem) (o : Int32 × Mem), f_M_meets k0 v1 v2 v3 s = some o → BSnd X 8 315 (ovI o) 0 (entL [.inr (.inr (12, k0)), .inl v1, .inl v2, .inl v3]) [] s := by
  intro k0 v1 v2 v3 s o h
  rw [f_M_meets_eq] at h
  exact evC (chs := c_M_meets) (cuts := cu_M_meets) (G := fun pc ls st σ => if pc = 45 then hd_M_meets_45 (fun k0 v1 v2 v3 v4 v5 v6 s => f_M_meets_45 (fun k0 v3 v4 v5 s => f_M_meets_116 k0 v3 v4 v5 s) FU k0 v1 v2 v3 v4 v5 v6 s) ls st σ else if pc = 116 then hd_M_meets_116 (fun k0 v3 v4 v5 s => f_M_meets_116 k0 v3 v4 v5 s) ls st σ else none) hX.2.1 hX.2.2 (F := F_M_meets _) (fs_M_meets hX _) (rt_I rfl) oc_M_meets (by
    intro pc ls st σ o h
    rcases ite_s h with ⟨rfl, h⟩ | ⟨_, h⟩
    · exact hs_M_meets_45 (s_M_meets_45 hX (s_M_meets_116 hX) FU) _ _ _ _ h
    rcases ite_s h with ⟨rfl, h⟩ | ⟨_, h⟩
    · exact hs_M_meets_116 (s_M_meets_116 hX) _ _ _ _ h
    cases h) 328 0 _ _ _ _ h
theorem ok_M_meets {X : CXT} (hX : XM X) : SemOK X 8 315 sm_M_meets := by
  intro O av σ K o h
  unfold sm_M_meets at h
  split at h
  · obtain ⟨r, hf, h⟩ := Option.bind_eq_some_iff.mp h
    exact ⟨ovI r, fun ht => sp_of hX.1 (by decide) (List.mem_range.mpr (by decide)) (by decide +kernel) ht (Nat.le_of_ble_eq_true rfl) (s_M_meets hX _ _ _ _ _ _ hf), trivial, h⟩
  · cases h
noncomputable def b_M_apartBy (v0 : Int32) (v1 : Int32) (s : Mem) : Option (Int32 × Mem) :=
  cif (v0 ≤ v1) (
    some (v1 - v0, s)) (
    some (v0 - v1, s))
noncomputable def f_M_apartBy : Int32 → Int32 → Mem → Option (Int32 × Mem) := Classical.choose (⟨b_M_apartBy, rfl⟩ : ∃ f : Int32 → Int32 → Mem → Option (Int32 × Mem), f = b_M_apartBy)
theorem f_M_apartBy_eq : f_M_apartBy = b_M_apartBy := Classical.choose_spec (⟨b_M_apartBy, rfl⟩ : ∃ f : Int32 → Int32 → Mem → Option (Int32 × Mem), f = b_M_apartBy)
noncomputable def sm_M_apartBy (O : Type) (av : List AV) (σ : Mem) (K : AV → Mem → Option O) : Option O := match av with
  | [.inl v0, .inl v1] => (f_M_apartBy v0 v1 σ).bind fun r => K (.inl r.1) r.2
  | _ => none
def c_M_apartBy : List (List CE) := [[(0, .iload_n 0, 1, 0, 0, 0), (1, .iload_n 1, 1, 0, 0, 0), (2, .if_icmp .le 9, 3, 11, 0, 0), (5, .iload_n 0, 1, 0, 0, 0), (6, .iload_n 1, 1, 0, 0, 0), (7, .isub, 1, 0, 0, 0), (8, .goto 6, 3, 14, 0, 0), (11, .iload_n 1, 1, 0, 0, 0), (12, .iload_n 0, 1, 0, 0, 0), (13, .isub, 1, 0, 0, 0), (14, .ireturn, 1, 0, 0, 0)]]
set_option maxRecDepth 100000 in
theorem oc_M_apartBy : okC 317 c_M_apartBy = true := by decide +kernel
def cu_M_apartBy : List (Nat × List Bool) := []
noncomputable def F_M_apartBy (O : Type) (a : Nat) (av : List AV) (σ : Mem) (K : AV → Mem → Option O) : Option O := none
theorem fs_M_apartBy {X : CXT} (hX : XM X) (O : Type) : FS X 1 (F_M_apartBy O) := by
  intro a av σ K o h
  cases h
set_option maxRecDepth 100000 in
theorem s_M_apartBy {X : CXT} (hX : XM X) : ∀ (v0 : Int32) (v1 : Int32) (s : Mem) (o : Int32 × Mem), f_M_apartBy v0 v1 s = some o → BSnd X 1 317 (ovI o) 0 (entL [.inl v0, .inl v1]) [] s := by
  intro v0 v1 s o h
  rw [f_M_apartBy_eq] at h
  exact evC (chs := c_M_apartBy) (cuts := cu_M_apartBy) (G := fun pc ls st σ => none) hX.2.1 hX.2.2 (F := F_M_apartBy _) (fs_M_apartBy hX _) (rt_I rfl) oc_M_apartBy (by
    intro pc ls st σ o h
    cases h) 84 0 _ _ _ _ h
theorem ok_M_apartBy {X : CXT} (hX : XM X) : SemOK X 1 317 sm_M_apartBy := by
  intro O av σ K o h
  unfold sm_M_apartBy at h
  split at h
  · obtain ⟨r, hf, h⟩ := Option.bind_eq_some_iff.mp h
    exact ⟨ovI r, fun ht => sp_of hX.1 (by decide) (List.mem_range.mpr (by decide)) (by decide +kernel) ht (Nat.le_of_ble_eq_true rfl) (s_M_apartBy hX _ _ _ _ hf), trivial, h⟩
  · cases h
noncomputable def f_M_next_13 : Nat → Nat → Int32 → Int32 → Int32 → Mem → Option (Int32 × Mem)
  | 0, _, _, _, _, _ => none
  | n + 1, k0, v1, v2, v3, s =>
    gd (inb ((0 : Int32)) (lenM (k0 + 1))) <|
    cif ((rI s (k0 + 1) (ix ((0 : Int32)))) ≤ v3) (
      some (v2, s)) (
      (f_M_stands k0 ((10 : Int32)) v3 s).bind fun r1 =>
      cif ((b2i r1.1) = 0) (
        f_M_next_13 n k0 v1 v2 (v3 + (1 : Int32)) r1.2) (
        cif (v2 = ((-1 : Int32))) (
          f_M_next_13 n k0 v1 v3 (v3 + (1 : Int32)) r1.2) (
          (f_M_apartBy v3 v1 r1.2).bind fun r2 =>
          (f_M_apartBy v2 v1 r2.2).bind fun r3 =>
          cif (r3.1 ≤ r2.1) (
            f_M_next_13 n k0 v1 v2 (v3 + (1 : Int32)) r3.2) (
            f_M_next_13 n k0 v1 v3 (v3 + (1 : Int32)) r3.2))))
noncomputable def b_M_next (k0 : Nat) (v1 : Int32) (s : Mem) : Option (Int32 × Mem) :=
  (f_M_isMile v1 s).bind fun r1 =>
  cif ((b2i r1.1) = 0) (
    some ((-1 : Int32), r1.2)) (
    f_M_next_13 FU k0 v1 ((-1 : Int32)) ((0 : Int32)) r1.2)
noncomputable def f_M_next : Nat → Int32 → Mem → Option (Int32 × Mem) := Classical.choose (⟨b_M_next, rfl⟩ : ∃ f : Nat → Int32 → Mem → Option (Int32 × Mem), f = b_M_next)
theorem f_M_next_eq : f_M_next = b_M_next := Classical.choose_spec (⟨b_M_next, rfl⟩ : ∃ f : Nat → Int32 → Mem → Option (Int32 × Mem), f = b_M_next)
noncomputable def sm_M_next (O : Type) (av : List AV) (σ : Mem) (K : AV → Mem → Option O) : Option O := match av with
  | [.inr (.inr (12, k0)), .inl v1] => (f_M_next k0 v1 σ).bind fun r => K (.inl r.1) r.2
  | _ => none
def c_M_next : List (List CE) := [[(0, .iload_n 1, 1, 0, 0, 0), (1, .invokestatic 373, 3, 307, 1, 1), (4, .ifCond .ne 5, 3, 9, 0, 0), (7, .iconst (-1), 1, 1, 0, 1), (8, .ireturn, 1, 0, 0, 0), (9, .iconst (-1), 1, 1, 0, 1), (10, .istore_n 2, 1, 0, 0, 0), (11, .iconst 0, 1, 0, 0, 0), (12, .istore_n 3, 1, 0, 0, 0), (13, .iload_n 3, 1, 0, 0, 0), (14, .aload_n 0, 1, 0, 0, 0), (15, .getfield 7, 3, 12, 0, 0)], [(18, .iconst 0, 1, 0, 0, 0), (19, .iaload, 1, 0, 0, 0), (20, .if_icmp .ge 39, 3, 59, 0, 0), (23, .aload_n 0, 1, 0, 0, 0), (24, .bipush 10, 2, 10, 0, 0), (26, .iload_n 3, 1, 0, 0, 0), (27, .invokevirtual 376, 3, 308, 3, 25), (30, .ifCond .eq 23, 3, 53, 0, 0)], [(33, .iload_n 2, 1, 0, 0, 0), (34, .iconst (-1), 1, 1, 0, 1), (35, .if_icmp .eq 16, 3, 51, 0, 0), (38, .iload_n 3, 1, 0, 0, 0), (39, .iload_n 1, 1, 0, 0, 0), (40, .invokestatic 385, 3, 317, 2, 1), (43, .iload_n 2, 1, 0, 0, 0), (44, .iload_n 1, 1, 0, 0, 0), (45, .invokestatic 385, 3, 317, 2, 1)], [(48, .if_icmp .ge 5, 3, 53, 0, 0), (51, .iload_n 3, 1, 0, 0, 0), (52, .istore_n 2, 1, 0, 0, 0), (53, .iinc 3 1, 3, 1, 0, 0), (56, .goto (-43), 3, 13, 0, 0), (59, .iload_n 2, 1, 0, 0, 0), (60, .ireturn, 1, 0, 0, 0)]]
set_option maxRecDepth 100000 in
theorem oc_M_next : okC 316 c_M_next = true := by decide +kernel
def cu_M_next : List (Nat × List Bool) := [(13, [true, true, true, true])]
noncomputable def F_M_next (O : Type) (a : Nat) (av : List AV) (σ : Mem) (K : AV → Mem → Option O) : Option O := if a = 307 then sm_M_isMile O av σ K else if a = 308 then sm_M_stands O av σ K else if a = 317 then sm_M_apartBy O av σ K else none
theorem fs_M_next {X : CXT} (hX : XM X) (O : Type) : FS X 3 (F_M_next O) := by
  intro a av σ K o h
  unfold F_M_next at h
  rcases ite_s h with ⟨rfl, h⟩ | ⟨_, h⟩
  · obtain ⟨r, h1, h2, h3⟩ := ok_M_isMile hX _ _ _ _ _ h
    exact ⟨r, fun ht => ⟨2, by decide, h1 ht⟩, h2, h3⟩
  rcases ite_s h with ⟨rfl, h⟩ | ⟨_, h⟩
  · obtain ⟨r, h1, h2, h3⟩ := ok_M_stands hX _ _ _ _ _ h
    exact ⟨r, fun ht => ⟨1, by decide, h1 ht⟩, h2, h3⟩
  rcases ite_s h with ⟨rfl, h⟩ | ⟨_, h⟩
  · obtain ⟨r, h1, h2, h3⟩ := ok_M_apartBy hX _ _ _ _ _ h
    exact ⟨r, fun ht => ⟨1, by decide, h1 ht⟩, h2, h3⟩
  cases h
def hd_M_next_13 {O : Type} (g : Nat → Int32 → Int32 → Int32 → Mem → Option O) (ls : OL) (st : List AV) (σ : Mem) : Option O := match ls, st with
  | [some (.inr (.inr (12, k0))), some (.inl v1), some (.inl v2), some (.inl v3)], [] => g k0 v1 v2 v3 σ
  | _, _ => none
theorem hs_M_next_13 {X : CXT} {g : Nat → Int32 → Int32 → Int32 → Mem → Option (Int32 × Mem)} (hg : ∀ (k0 : Nat) (v1 : Int32) (v2 : Int32) (v3 : Int32) (s : Mem) (o : Int32 × Mem), g k0 v1 v2 v3 s = some o → BSnd X 3 316 (ovI o) 13 [some (.inr (.inr (12, k0))), some (.inl v1), some (.inl v2), some (.inl v3)] [] s) : ∀ ls st σ o, hd_M_next_13 g ls st σ = some o → BSnd X 3 316 (ovI o) 13 ls st σ := by
  intro ls st σ o h
  unfold hd_M_next_13 at h
  split at h
  · exact hg _ _ _ _ _ _ h
  · cases h
set_option maxRecDepth 100000 in
theorem s_M_next_13 {X : CXT} (hX : XM X) : ∀ n : Nat, ∀ (k0 : Nat) (v1 : Int32) (v2 : Int32) (v3 : Int32) (s : Mem) (o : Int32 × Mem), f_M_next_13 n k0 v1 v2 v3 s = some o → BSnd X 3 316 (ovI o) 13 [some (.inr (.inr (12, k0))), some (.inl v1), some (.inl v2), some (.inl v3)] [] s := by
  intro n
  induction n with
  | zero => intro k0 v1 v2 v3 s o h; cases h
  | succ n ih =>
    intro k0 v1 v2 v3 s o h
    exact evC (chs := c_M_next) (cuts := cu_M_next) (G := fun pc ls st σ => if pc = 13 then hd_M_next_13 (fun k0 v1 v2 v3 s => f_M_next_13 n k0 v1 v2 v3 s) ls st σ else none) hX.2.1 hX.2.2 (F := F_M_next _) (fs_M_next hX _) (rt_I rfl) oc_M_next (by
    intro pc ls st σ o h
    rcases ite_s h with ⟨rfl, h⟩ | ⟨_, h⟩
    · exact hs_M_next_13 ih _ _ _ _ h
    cases h) 184 13 _ _ _ _ h
set_option maxRecDepth 100000 in
theorem s_M_next {X : CXT} (hX : XM X) : ∀ (k0 : Nat) (v1 : Int32) (s : Mem) (o : Int32 × Mem), f_M_next k0 v1 s = some o → BSnd X 3 316 (ovI o) 0 (entL [.inr (.inr (12, k0)), .inl v1]) [] s := by
  intro k0 v1 s o h
  rw [f_M_next_eq] at h
  exact evC (chs := c_M_next) (cuts := cu_M_next) (G := fun pc ls st σ => if pc = 13 then hd_M_next_13 (fun k0 v1 v2 v3 s => f_M_next_13 FU k0 v1 v2 v3 s) ls st σ else none) hX.2.1 hX.2.2 (F := F_M_next _) (fs_M_next hX _) (rt_I rfl) oc_M_next (by
    intro pc ls st σ o h
    rcases ite_s h with ⟨rfl, h⟩ | ⟨_, h⟩
    · exact hs_M_next_13 (s_M_next_13 hX FU) _ _ _ _ h
    cases h) 184 0 _ _ _ _ h
theorem ok_M_next {X : CXT} (hX : XM X) : SemOK X 3 316 sm_M_next := by
  intro O av σ K o h
  unfold sm_M_next at h
  split at h
  · obtain ⟨r, hf, h⟩ := Option.bind_eq_some_iff.mp h
    exact ⟨ovI r, fun ht => sp_of hX.1 (by decide) (List.mem_range.mpr (by decide)) (by decide +kernel) ht (Nat.le_of_ble_eq_true rfl) (s_M_next hX _ _ _ _ hf), trivial, h⟩
  · cases h
noncomputable def f_M_want_23 (k0 : Nat) (v1 : Int32) (v2 : Int32) (v3 : Int32) (s : Mem) : Option (Int32 × Mem) :=
  cif (v2 = ((-1 : Int32))) (
    gd (inb v3 (lenM (k0 + 1))) <|
    let s1 : Mem := wI s (k0 + 1) (ix v3) ((0 : Int32))
    some ((0 : Int32), s1)) (
    (f_M_isMile v2 s).bind fun r2 =>
    cif ((b2i r2.1) = 0) (
      some ((-1 : Int32), r2.2)) (
      gd (inb v3 (lenM (k0 + 1))) <|
      cif (v1 = 0) (
        cif ((rI r2.2 (k0 + 1) (ix v3)) = ((20 : Int32))) (
          some ((-1 : Int32), r2.2)) (
          cif (v1 = 0) (
            gd (inb v3 (lenM (k0 + 1))) <|
            gd (inb (((210 : Int32)) + (rI r2.2 (k0 + 1) (ix v3))) (lenM (k0 + 1))) <|
            let s3 : Mem := wI r2.2 (k0 + 1) (ix (((210 : Int32)) + (rI r2.2 (k0 + 1) (ix v3)))) v2
            gd (inb v3 (lenM (k0 + 1))) <|
            gd (inb v3 (lenM (k0 + 1))) <|
            let s4 : Mem := wI s3 (k0 + 1) (ix v3) ((rI s3 (k0 + 1) (ix v3)) + ((1 : Int32)))
            gd (inb v3 (lenM (k0 + 1))) <|
            some (rI s4 (k0 + 1) (ix v3), s4)) (
            gd (inb v3 (lenM (k0 + 1))) <|
            gd (inb (((230 : Int32)) + (rI r2.2 (k0 + 1) (ix v3))) (lenM (k0 + 1))) <|
            let s5 : Mem := wI r2.2 (k0 + 1) (ix (((230 : Int32)) + (rI r2.2 (k0 + 1) (ix v3)))) v2
            gd (inb v3 (lenM (k0 + 1))) <|
            gd (inb v3 (lenM (k0 + 1))) <|
            let s6 : Mem := wI s5 (k0 + 1) (ix v3) ((rI s5 (k0 + 1) (ix v3)) + ((1 : Int32)))
            gd (inb v3 (lenM (k0 + 1))) <|
            some (rI s6 (k0 + 1) (ix v3), s6)))) (
        cif ((rI r2.2 (k0 + 1) (ix v3)) = ((10 : Int32))) (
          some ((-1 : Int32), r2.2)) (
          cif (v1 = 0) (
            gd (inb v3 (lenM (k0 + 1))) <|
            gd (inb (((210 : Int32)) + (rI r2.2 (k0 + 1) (ix v3))) (lenM (k0 + 1))) <|
            let s7 : Mem := wI r2.2 (k0 + 1) (ix (((210 : Int32)) + (rI r2.2 (k0 + 1) (ix v3)))) v2
            gd (inb v3 (lenM (k0 + 1))) <|
            gd (inb v3 (lenM (k0 + 1))) <|
            let s8 : Mem := wI s7 (k0 + 1) (ix v3) ((rI s7 (k0 + 1) (ix v3)) + ((1 : Int32)))
            gd (inb v3 (lenM (k0 + 1))) <|
            some (rI s8 (k0 + 1) (ix v3), s8)) (
            gd (inb v3 (lenM (k0 + 1))) <|
            gd (inb (((230 : Int32)) + (rI r2.2 (k0 + 1) (ix v3))) (lenM (k0 + 1))) <|
            let s9 : Mem := wI r2.2 (k0 + 1) (ix (((230 : Int32)) + (rI r2.2 (k0 + 1) (ix v3)))) v2
            gd (inb v3 (lenM (k0 + 1))) <|
            gd (inb v3 (lenM (k0 + 1))) <|
            let s10 : Mem := wI s9 (k0 + 1) (ix v3) ((rI s9 (k0 + 1) (ix v3)) + ((1 : Int32)))
            gd (inb v3 (lenM (k0 + 1))) <|
            some (rI s10 (k0 + 1) (ix v3), s10))))))
noncomputable def b_M_want (k0 : Nat) (v1 : Int32) (v2 : Int32) (s : Mem) : Option (Int32 × Mem) :=
  (f_M_isIn v1 ((0 : Int32)) ((1 : Int32)) s).bind fun r1 =>
  cif ((b2i r1.1) = 0) (
    some ((-1 : Int32), r1.2)) (
    cif (v1 = 0) (
      f_M_want_23 k0 v1 v2 ((56 : Int32)) r1.2) (
      f_M_want_23 k0 v1 v2 ((57 : Int32)) r1.2))
noncomputable def f_M_want : Nat → Int32 → Int32 → Mem → Option (Int32 × Mem) := Classical.choose (⟨b_M_want, rfl⟩ : ∃ f : Nat → Int32 → Int32 → Mem → Option (Int32 × Mem), f = b_M_want)
theorem f_M_want_eq : f_M_want = b_M_want := Classical.choose_spec (⟨b_M_want, rfl⟩ : ∃ f : Nat → Int32 → Int32 → Mem → Option (Int32 × Mem), f = b_M_want)
noncomputable def sm_M_want (O : Type) (av : List AV) (σ : Mem) (K : AV → Mem → Option O) : Option O := match av with
  | [.inr (.inr (12, k0)), .inl v1, .inl v2] => (f_M_want k0 v1 v2 σ).bind fun r => K (.inl r.1) r.2
  | _ => none
def c_M_want : List (List CE) := [[(0, .iload_n 1, 1, 0, 0, 0), (1, .iconst 0, 1, 0, 0, 0), (2, .iconst 1, 1, 1, 0, 0), (3, .invokestatic 60, 3, 230, 3, 1), (6, .ifCond .ne 5, 3, 11, 0, 0), (9, .iconst (-1), 1, 1, 0, 1), (10, .ireturn, 1, 0, 0, 0), (11, .iload_n 1, 1, 0, 0, 0), (12, .ifCond .ne 8, 3, 20, 0, 0), (15, .bipush 56, 2, 56, 0, 0)], [(17, .goto 5, 3, 22, 0, 0), (20, .bipush 57, 2, 57, 0, 0), (22, .istore_n 3, 1, 0, 0, 0), (23, .iload_n 2, 1, 0, 0, 0), (24, .iconst (-1), 1, 1, 0, 1), (25, .if_icmp .ne 12, 3, 37, 0, 0), (28, .aload_n 0, 1, 0, 0, 0), (29, .getfield 7, 3, 12, 0, 0)], [(32, .iload_n 3, 1, 0, 0, 0), (33, .iconst 0, 1, 0, 0, 0), (34, .iastore, 1, 0, 0, 0), (35, .iconst 0, 1, 0, 0, 0), (36, .ireturn, 1, 0, 0, 0), (37, .iload_n 2, 1, 0, 0, 0), (38, .invokestatic 373, 3, 307, 1, 1), (41, .ifCond .eq 23, 3, 64, 0, 0), (44, .aload_n 0, 1, 0, 0, 0), (45, .getfield 7, 3, 12, 0, 0)], [(48, .iload_n 3, 1, 0, 0, 0), (49, .iaload, 1, 0, 0, 0), (50, .iload_n 1, 1, 0, 0, 0), (51, .ifCond .ne 8, 3, 59, 0, 0), (54, .bipush 20, 2, 20, 0, 0), (56, .goto 5, 3, 61, 0, 0), (59, .bipush 10, 2, 10, 0, 0), (61, .if_icmp .ne 5, 3, 66, 0, 0)], [(64, .iconst (-1), 1, 1, 0, 1), (65, .ireturn, 1, 0, 0, 0), (66, .aload_n 0, 1, 0, 0, 0), (67, .getfield 7, 3, 12, 0, 0), (70, .iload_n 1, 1, 0, 0, 0), (71, .ifCond .ne 9, 3, 80, 0, 0), (74, .sipush 210, 3, 210, 0, 0), (77, .goto 6, 3, 83, 0, 0)], [(80, .sipush 230, 3, 230, 0, 0), (83, .aload_n 0, 1, 0, 0, 0), (84, .getfield 7, 3, 12, 0, 0), (87, .iload_n 3, 1, 0, 0, 0), (88, .iaload, 1, 0, 0, 0), (89, .iadd, 1, 0, 0, 0), (90, .iload_n 2, 1, 0, 0, 0), (91, .iastore, 1, 0, 0, 0), (92, .aload_n 0, 1, 0, 0, 0), (93, .getfield 7, 3, 12, 0, 0)], [(96, .iload_n 3, 1, 0, 0, 0), (97, .dup2, 1, 0, 0, 0), (98, .iaload, 1, 0, 0, 0), (99, .iconst 1, 1, 1, 0, 0), (100, .iadd, 1, 0, 0, 0), (101, .iastore, 1, 0, 0, 0), (102, .aload_n 0, 1, 0, 0, 0), (103, .getfield 7, 3, 12, 0, 0), (106, .iload_n 3, 1, 0, 0, 0), (107, .iaload, 1, 0, 0, 0), (108, .ireturn, 1, 0, 0, 0)]]
set_option maxRecDepth 100000 in
theorem oc_M_want : okC 318 c_M_want = true := by decide +kernel
def cu_M_want : List (Nat × List Bool) := [(23, [true, true, true, true])]
noncomputable def F_M_want (O : Type) (a : Nat) (av : List AV) (σ : Mem) (K : AV → Mem → Option O) : Option O := if a = 230 then sm_M_isIn O av σ K else if a = 307 then sm_M_isMile O av σ K else none
theorem fs_M_want {X : CXT} (hX : XM X) (O : Type) : FS X 3 (F_M_want O) := by
  intro a av σ K o h
  unfold F_M_want at h
  rcases ite_s h with ⟨rfl, h⟩ | ⟨_, h⟩
  · obtain ⟨r, h1, h2, h3⟩ := ok_M_isIn hX _ _ _ _ _ h
    exact ⟨r, fun ht => ⟨1, by decide, h1 ht⟩, h2, h3⟩
  rcases ite_s h with ⟨rfl, h⟩ | ⟨_, h⟩
  · obtain ⟨r, h1, h2, h3⟩ := ok_M_isMile hX _ _ _ _ _ h
    exact ⟨r, fun ht => ⟨2, by decide, h1 ht⟩, h2, h3⟩
  cases h
def hd_M_want_23 {O : Type} (g : Nat → Int32 → Int32 → Int32 → Mem → Option O) (ls : OL) (st : List AV) (σ : Mem) : Option O := match ls, st with
  | [some (.inr (.inr (12, k0))), some (.inl v1), some (.inl v2), some (.inl v3)], [] => g k0 v1 v2 v3 σ
  | _, _ => none
theorem hs_M_want_23 {X : CXT} {g : Nat → Int32 → Int32 → Int32 → Mem → Option (Int32 × Mem)} (hg : ∀ (k0 : Nat) (v1 : Int32) (v2 : Int32) (v3 : Int32) (s : Mem) (o : Int32 × Mem), g k0 v1 v2 v3 s = some o → BSnd X 3 318 (ovI o) 23 [some (.inr (.inr (12, k0))), some (.inl v1), some (.inl v2), some (.inl v3)] [] s) : ∀ ls st σ o, hd_M_want_23 g ls st σ = some o → BSnd X 3 318 (ovI o) 23 ls st σ := by
  intro ls st σ o h
  unfold hd_M_want_23 at h
  split at h
  · exact hg _ _ _ _ _ _ h
  · cases h
set_option maxRecDepth 100000 in
theorem s_M_want_23 {X : CXT} (hX : XM X) : ∀ (k0 : Nat) (v1 : Int32) (v2 : Int32) (v3 : Int32) (s : Mem) (o : Int32 × Mem), f_M_want_23 k0 v1 v2 v3 s = some o → BSnd X 3 318 (ovI o) 23 [some (.inr (.inr (12, k0))), some (.inl v1), some (.inl v2), some (.inl v3)] [] s := by
  intro k0 v1 v2 v3 s o h
  exact evC (chs := c_M_want) (cuts := cu_M_want) (G := fun pc ls st σ => none) hX.2.1 hX.2.2 (F := F_M_want _) (fs_M_want hX _) (rt_I rfl) oc_M_want (by
    intro pc ls st σ o h
    cases h) 300 23 _ _ _ _ h
set_option maxRecDepth 100000 in
theorem s_M_want {X : CXT} (hX : XM X) : ∀ (k0 : Nat) (v1 : Int32) (v2 : Int32) (s : Mem) (o : Int32 × Mem), f_M_want k0 v1 v2 s = some o → BSnd X 3 318 (ovI o) 0 (entL [.inr (.inr (12, k0)), .inl v1, .inl v2]) [] s := by
  intro k0 v1 v2 s o h
  rw [f_M_want_eq] at h
  exact evC (chs := c_M_want) (cuts := cu_M_want) (G := fun pc ls st σ => if pc = 23 then hd_M_want_23 (fun k0 v1 v2 v3 s => f_M_want_23 k0 v1 v2 v3 s) ls st σ else none) hX.2.1 hX.2.2 (F := F_M_want _) (fs_M_want hX _) (rt_I rfl) oc_M_want (by
    intro pc ls st σ o h
    rcases ite_s h with ⟨rfl, h⟩ | ⟨_, h⟩
    · exact hs_M_want_23 (s_M_want_23 hX) _ _ _ _ h
    cases h) 300 0 _ _ _ _ h
theorem ok_M_want {X : CXT} (hX : XM X) : SemOK X 3 318 sm_M_want := by
  intro O av σ K o h
  unfold sm_M_want at h
  split at h
  · obtain ⟨r, hf, h⟩ := Option.bind_eq_some_iff.mp h
    exact ⟨ovI r, fun ht => sp_of hX.1 (by decide) (List.mem_range.mpr (by decide)) (by decide +kernel) ht (Nat.le_of_ble_eq_true rfl) (s_M_want hX _ _ _ _ _ hf), trivial, h⟩
  · cases h
noncomputable def f_M_laysSites_72 (KH : Nat → Int32 → Int32 → Mem → Option (Mem)) (K118 : Nat → Int32 → Mem → Option (Mem)) (k0 : Nat) (v1 : Int32) (v2 : Int32) (v3 : Int32) (s : Mem) : Option (Mem) :=
  gd (inb v1 (lenM (k0 + 11))) <|
  cif (v3 = ((-1 : Int32))) (
    gd (inb v1 (lenM (k0 + 11))) <|
    let s1 : Mem := wI s (k0 + 11) (ix v1) ((rI s (k0 + 11) (ix v1)) ||| ((0 : Int32)))
    KH k0 v1 (v2 + (1 : Int32)) s1) (
    gd (inb (((210 : Int32)) + v2) (lenM (k0 + 1))) <|
    (f_M_apartBy v3 (rI s (k0 + 1) (ix (((210 : Int32)) + v2))) s).bind fun r2 =>
    cif (((10 : Int32)) < r2.1) (
      gd (inb v1 (lenM (k0 + 11))) <|
      let s3 : Mem := wI r2.2 (k0 + 11) (ix v1) ((rI s (k0 + 11) (ix v1)) ||| ((0 : Int32)))
      KH k0 v1 (v2 + (1 : Int32)) s3) (
      gd (inb v1 (lenM (k0 + 11))) <|
      let s4 : Mem := wI r2.2 (k0 + 11) (ix v1) ((rI s (k0 + 11) (ix v1)) ||| (((1 : Int32)) <<< (v2 &&& 31)))
      KH k0 v1 (v2 + (1 : Int32)) s4))
noncomputable def f_M_laysSites_22 (K118 : Nat → Int32 → Mem → Option (Mem)) : Nat → Nat → Int32 → Int32 → Mem → Option (Mem)
  | 0, _, _, _, _ => none
  | n + 1, k0, v1, v2, s =>
    gd (inb ((56 : Int32)) (lenM (k0 + 1))) <|
    cif ((rI s (k0 + 1) (ix ((56 : Int32)))) ≤ v2) (
      K118 k0 v1 s) (
      gd (inb ((57 : Int32)) (lenM (k0 + 1))) <|
      cif (v1 = (rI s (k0 + 1) (ix ((57 : Int32))))) (
        gd (inb (((210 : Int32)) + v2) (lenM (k0 + 1))) <|
        (f_M_next k0 (rI s (k0 + 1) (ix (((210 : Int32)) + v2))) s).bind fun r1 =>
        f_M_laysSites_72 (fun k0 v1 v2 s => f_M_laysSites_22 K118 n k0 v1 v2 s) K118 k0 v1 v2 r1.1 r1.2) (
        gd (inb (((230 : Int32)) + v1) (lenM (k0 + 1))) <|
        let x2 : Int32 := rI s (k0 + 1) (ix (((230 : Int32)) + v1))
        f_M_laysSites_72 (fun k0 v1 v2 s => f_M_laysSites_22 K118 n k0 v1 v2 s) K118 k0 v1 v2 x2 s))
noncomputable def f_M_laysSites_118 (KH : Nat → Int32 → Mem → Option (Mem)) (k0 : Nat) (v1 : Int32) (s : Mem) : Option (Mem) :=
  KH k0 (v1 + (1 : Int32)) s
noncomputable def f_M_laysSites_2 : Nat → Nat → Int32 → Mem → Option (Mem)
  | 0, _, _, _ => none
  | n + 1, k0, v1, s =>
    gd (inb ((57 : Int32)) (lenM (k0 + 1))) <|
    cif ((rI s (k0 + 1) (ix ((57 : Int32)))) < v1) (
      some s) (
      gd (inb v1 (lenM (k0 + 11))) <|
      let s1 : Mem := wI s (k0 + 11) (ix v1) ((0 : Int32))
      f_M_laysSites_22 (fun k0 v1 s => f_M_laysSites_118 (fun k0 v1 s => f_M_laysSites_2 n k0 v1 s) k0 v1 s) FU k0 v1 ((0 : Int32)) s1)
noncomputable def b_M_laysSites (k0 : Nat) (s : Mem) : Option (Mem) :=
  f_M_laysSites_2 FU k0 ((0 : Int32)) s
noncomputable def f_M_laysSites : Nat → Mem → Option (Mem) := Classical.choose (⟨b_M_laysSites, rfl⟩ : ∃ f : Nat → Mem → Option (Mem), f = b_M_laysSites)
theorem f_M_laysSites_eq : f_M_laysSites = b_M_laysSites := Classical.choose_spec (⟨b_M_laysSites, rfl⟩ : ∃ f : Nat → Mem → Option (Mem), f = b_M_laysSites)
noncomputable def sm_M_laysSites (O : Type) (av : List AV) (σ : Mem) (K : AV → Mem → Option O) : Option O := match av with
  | [.inr (.inr (12, k0))] => (f_M_laysSites k0 σ).bind fun r => K (.inl 0) r
  | _ => none
def c_M_laysSites : List (List CE) := [[(0, .iconst 0, 1, 0, 0, 0), (1, .istore_n 1, 1, 0, 0, 0), (2, .iload_n 1, 1, 0, 0, 0), (3, .aload_n 0, 1, 0, 0, 0), (4, .getfield 7, 3, 12, 0, 0), (7, .bipush 57, 2, 57, 0, 0), (9, .iaload, 1, 0, 0, 0), (10, .if_icmp .gt 114, 3, 124, 0, 0), (13, .aload_n 0, 1, 0, 0, 0), (14, .getfield 44, 3, 12, 27, 0)], [(17, .iload_n 1, 1, 0, 0, 0), (18, .iconst 0, 1, 0, 0, 0), (19, .iastore, 1, 0, 0, 0), (20, .iconst 0, 1, 0, 0, 0), (21, .istore_n 2, 1, 0, 0, 0), (22, .iload_n 2, 1, 0, 0, 0), (23, .aload_n 0, 1, 0, 0, 0), (24, .getfield 7, 3, 12, 0, 0), (27, .bipush 56, 2, 56, 0, 0), (29, .iaload, 1, 0, 0, 0), (30, .if_icmp .ge 88, 3, 118, 0, 0)], [(33, .iload_n 1, 1, 0, 0, 0), (34, .aload_n 0, 1, 0, 0, 0), (35, .getfield 7, 3, 12, 0, 0), (38, .bipush 57, 2, 57, 0, 0), (40, .iaload, 1, 0, 0, 0), (41, .if_icmp .ne 20, 3, 61, 0, 0), (44, .aload_n 0, 1, 0, 0, 0), (45, .aload_n 0, 1, 0, 0, 0), (46, .getfield 7, 3, 12, 0, 0)], [(49, .sipush 210, 3, 210, 0, 0), (52, .iload_n 2, 1, 0, 0, 0), (53, .iadd, 1, 0, 0, 0), (54, .iaload, 1, 0, 0, 0), (55, .invokevirtual 388, 3, 316, 2, 25), (58, .goto 13, 3, 71, 0, 0), (61, .aload_n 0, 1, 0, 0, 0), (62, .getfield 7, 3, 12, 0, 0)], [(65, .sipush 230, 3, 230, 0, 0), (68, .iload_n 1, 1, 0, 0, 0), (69, .iadd, 1, 0, 0, 0), (70, .iaload, 1, 0, 0, 0), (71, .istore_n 3, 1, 0, 0, 0), (72, .aload_n 0, 1, 0, 0, 0), (73, .getfield 44, 3, 12, 27, 0), (76, .iload_n 1, 1, 0, 0, 0), (77, .dup2, 1, 0, 0, 0), (78, .iaload, 1, 0, 0, 0), (79, .iload_n 3, 1, 0, 0, 0)], [(80, .iconst (-1), 1, 1, 0, 1), (81, .if_icmp .eq 28, 3, 109, 0, 0), (84, .iload_n 3, 1, 0, 0, 0), (85, .aload_n 0, 1, 0, 0, 0), (86, .getfield 7, 3, 12, 0, 0), (89, .sipush 210, 3, 210, 0, 0), (92, .iload_n 2, 1, 0, 0, 0), (93, .iadd, 1, 0, 0, 0), (94, .iaload, 1, 0, 0, 0), (95, .invokestatic 385, 3, 317, 2, 1)], [(98, .bipush 10, 2, 10, 0, 0), (100, .if_icmp .gt 9, 3, 109, 0, 0), (103, .iconst 1, 1, 1, 0, 0), (104, .iload_n 2, 1, 0, 0, 0), (105, .ishl, 1, 0, 0, 0), (106, .goto 4, 3, 110, 0, 0), (109, .iconst 0, 1, 0, 0, 0), (110, .ior, 1, 0, 0, 0), (111, .iastore, 1, 0, 0, 0)], [(112, .iinc 2 1, 3, 1, 0, 0), (115, .goto (-93), 3, 22, 0, 0), (118, .iinc 1 1, 3, 1, 0, 0), (121, .goto (-119), 3, 2, 0, 0), (124, .return_, 1, 0, 0, 0)]]
set_option maxRecDepth 100000 in
theorem oc_M_laysSites : okC 320 c_M_laysSites = true := by decide +kernel
def cu_M_laysSites : List (Nat × List Bool) := [(72, [true, true, true, true]), (22, [true, true, true]), (118, [true, true]), (2, [true, true])]
noncomputable def F_M_laysSites (O : Type) (a : Nat) (av : List AV) (σ : Mem) (K : AV → Mem → Option O) : Option O := if a = 316 then sm_M_next O av σ K else if a = 317 then sm_M_apartBy O av σ K else none
theorem fs_M_laysSites {X : CXT} (hX : XM X) (O : Type) : FS X 4 (F_M_laysSites O) := by
  intro a av σ K o h
  unfold F_M_laysSites at h
  rcases ite_s h with ⟨rfl, h⟩ | ⟨_, h⟩
  · obtain ⟨r, h1, h2, h3⟩ := ok_M_next hX _ _ _ _ _ h
    exact ⟨r, fun ht => ⟨3, by decide, h1 ht⟩, h2, h3⟩
  rcases ite_s h with ⟨rfl, h⟩ | ⟨_, h⟩
  · obtain ⟨r, h1, h2, h3⟩ := ok_M_apartBy hX _ _ _ _ _ h
    exact ⟨r, fun ht => ⟨1, by decide, h1 ht⟩, h2, h3⟩
  cases h
def hd_M_laysSites_72 {O : Type} (g : Nat → Int32 → Int32 → Int32 → Mem → Option O) (ls : OL) (st : List AV) (σ : Mem) : Option O := match ls, st with
  | [some (.inr (.inr (12, k0))), some (.inl v1), some (.inl v2), some (.inl v3)], [] => g k0 v1 v2 v3 σ
  | _, _ => none
theorem hs_M_laysSites_72 {X : CXT} {g : Nat → Int32 → Int32 → Int32 → Mem → Option (Mem)} (hg : ∀ (k0 : Nat) (v1 : Int32) (v2 : Int32) (v3 : Int32) (s : Mem) (o : Mem), g k0 v1 v2 v3 s = some o → BSnd X 4 320 (ovV o) 72 [some (.inr (.inr (12, k0))), some (.inl v1), some (.inl v2), some (.inl v3)] [] s) : ∀ ls st σ o, hd_M_laysSites_72 g ls st σ = some o → BSnd X 4 320 (ovV o) 72 ls st σ := by
  intro ls st σ o h
  unfold hd_M_laysSites_72 at h
  split at h
  · exact hg _ _ _ _ _ _ h
  · cases h
def hd_M_laysSites_22 {O : Type} (g : Nat → Int32 → Int32 → Mem → Option O) (ls : OL) (st : List AV) (σ : Mem) : Option O := match ls, st with
  | [some (.inr (.inr (12, k0))), some (.inl v1), some (.inl v2)], [] => g k0 v1 v2 σ
  | _, _ => none
theorem hs_M_laysSites_22 {X : CXT} {g : Nat → Int32 → Int32 → Mem → Option (Mem)} (hg : ∀ (k0 : Nat) (v1 : Int32) (v2 : Int32) (s : Mem) (o : Mem), g k0 v1 v2 s = some o → BSnd X 4 320 (ovV o) 22 [some (.inr (.inr (12, k0))), some (.inl v1), some (.inl v2)] [] s) : ∀ ls st σ o, hd_M_laysSites_22 g ls st σ = some o → BSnd X 4 320 (ovV o) 22 ls st σ := by
  intro ls st σ o h
  unfold hd_M_laysSites_22 at h
  split at h
  · exact hg _ _ _ _ _ h
  · cases h
def hd_M_laysSites_118 {O : Type} (g : Nat → Int32 → Mem → Option O) (ls : OL) (st : List AV) (σ : Mem) : Option O := match ls, st with
  | [some (.inr (.inr (12, k0))), some (.inl v1)], [] => g k0 v1 σ
  | _, _ => none
theorem hs_M_laysSites_118 {X : CXT} {g : Nat → Int32 → Mem → Option (Mem)} (hg : ∀ (k0 : Nat) (v1 : Int32) (s : Mem) (o : Mem), g k0 v1 s = some o → BSnd X 4 320 (ovV o) 118 [some (.inr (.inr (12, k0))), some (.inl v1)] [] s) : ∀ ls st σ o, hd_M_laysSites_118 g ls st σ = some o → BSnd X 4 320 (ovV o) 118 ls st σ := by
  intro ls st σ o h
  unfold hd_M_laysSites_118 at h
  split at h
  · exact hg _ _ _ _ h
  · cases h
def hd_M_laysSites_2 {O : Type} (g : Nat → Int32 → Mem → Option O) (ls : OL) (st : List AV) (σ : Mem) : Option O := match ls, st with
  | [some (.inr (.inr (12, k0))), some (.inl v1)], [] => g k0 v1 σ
  | _, _ => none
theorem hs_M_laysSites_2 {X : CXT} {g : Nat → Int32 → Mem → Option (Mem)} (hg : ∀ (k0 : Nat) (v1 : Int32) (s : Mem) (o : Mem), g k0 v1 s = some o → BSnd X 4 320 (ovV o) 2 [some (.inr (.inr (12, k0))), some (.inl v1)] [] s) : ∀ ls st σ o, hd_M_laysSites_2 g ls st σ = some o → BSnd X 4 320 (ovV o) 2 ls st σ := by
  intro ls st σ o h
  unfold hd_M_laysSites_2 at h
  split at h
  · exact hg _ _ _ _ h
  · cases h
set_option maxRecDepth 100000 in
theorem s_M_laysSites_72 {X : CXT} (hX : XM X) {KH : Nat → Int32 → Int32 → Mem → Option (Mem)} {K118 : Nat → Int32 → Mem → Option (Mem)} (hKH : ∀ (k0 : Nat) (v1 : Int32) (v2 : Int32) (s : Mem) (o : Mem), KH k0 v1 v2 s = some o → BSnd X 4 320 (ovV o) 22 [some (.inr (.inr (12, k0))), some (.inl v1), some (.inl v2)] [] s) (hK118 : ∀ (k0 : Nat) (v1 : Int32) (s : Mem) (o : Mem), K118 k0 v1 s = some o → BSnd X 4 320 (ovV o) 118 [some (.inr (.inr (12, k0))), some (.inl v1)] [] s) : ∀ (k0 : Nat) (v1 : Int32) (v2 : Int32) (v3 : Int32) (s : Mem) (o : Mem), f_M_laysSites_72 KH K118 k0 v1 v2 v3 s = some o → BSnd X 4 320 (ovV o) 72 [some (.inr (.inr (12, k0))), some (.inl v1), some (.inl v2), some (.inl v3)] [] s := by
  intro k0 v1 v2 v3 s o h
  exact evC (chs := c_M_laysSites) (cuts := cu_M_laysSites) (G := fun pc ls st σ => if pc = 22 then hd_M_laysSites_22 (fun k0 v1 v2 s => KH k0 v1 v2 s) ls st σ else none) hX.2.1 hX.2.2 (F := F_M_laysSites _) (fs_M_laysSites hX _) (rt_V rfl) oc_M_laysSites (by
    intro pc ls st σ o h
    rcases ite_s h with ⟨rfl, h⟩ | ⟨_, h⟩
    · exact hs_M_laysSites_22 hKH _ _ _ _ h
    cases h) 332 72 _ _ _ _ h
set_option maxRecDepth 100000 in
theorem s_M_laysSites_22 {X : CXT} (hX : XM X) {K118 : Nat → Int32 → Mem → Option (Mem)} (hK118 : ∀ (k0 : Nat) (v1 : Int32) (s : Mem) (o : Mem), K118 k0 v1 s = some o → BSnd X 4 320 (ovV o) 118 [some (.inr (.inr (12, k0))), some (.inl v1)] [] s) : ∀ n : Nat, ∀ (k0 : Nat) (v1 : Int32) (v2 : Int32) (s : Mem) (o : Mem), f_M_laysSites_22 K118 n k0 v1 v2 s = some o → BSnd X 4 320 (ovV o) 22 [some (.inr (.inr (12, k0))), some (.inl v1), some (.inl v2)] [] s := by
  intro n
  induction n with
  | zero => intro k0 v1 v2 s o h; cases h
  | succ n ih =>
    intro k0 v1 v2 s o h
    exact evC (chs := c_M_laysSites) (cuts := cu_M_laysSites) (G := fun pc ls st σ => if pc = 72 then hd_M_laysSites_72 (fun k0 v1 v2 v3 s => f_M_laysSites_72 (fun k0 v1 v2 s => f_M_laysSites_22 K118 n k0 v1 v2 s) K118 k0 v1 v2 v3 s) ls st σ else if pc = 22 then hd_M_laysSites_22 (fun k0 v1 v2 s => f_M_laysSites_22 K118 n k0 v1 v2 s) ls st σ else if pc = 118 then hd_M_laysSites_118 (fun k0 v1 s => K118 k0 v1 s) ls st σ else none) hX.2.1 hX.2.2 (F := F_M_laysSites _) (fs_M_laysSites hX _) (rt_V rfl) oc_M_laysSites (by
    intro pc ls st σ o h
    rcases ite_s h with ⟨rfl, h⟩ | ⟨_, h⟩
    · exact hs_M_laysSites_72 (s_M_laysSites_72 hX ih hK118) _ _ _ _ h
    rcases ite_s h with ⟨rfl, h⟩ | ⟨_, h⟩
    · exact hs_M_laysSites_22 ih _ _ _ _ h
    rcases ite_s h with ⟨rfl, h⟩ | ⟨_, h⟩
    · exact hs_M_laysSites_118 hK118 _ _ _ _ h
    cases h) 332 22 _ _ _ _ h
set_option maxRecDepth 100000 in
theorem s_M_laysSites_118 {X : CXT} (hX : XM X) {KH : Nat → Int32 → Mem → Option (Mem)} (hKH : ∀ (k0 : Nat) (v1 : Int32) (s : Mem) (o : Mem), KH k0 v1 s = some o → BSnd X 4 320 (ovV o) 2 [some (.inr (.inr (12, k0))), some (.inl v1)] [] s) : ∀ (k0 : Nat) (v1 : Int32) (s : Mem) (o : Mem), f_M_laysSites_118 KH k0 v1 s = some o → BSnd X 4 320 (ovV o) 118 [some (.inr (.inr (12, k0))), some (.inl v1)] [] s := by
  intro k0 v1 s o h
  exact evC (chs := c_M_laysSites) (cuts := cu_M_laysSites) (G := fun pc ls st σ => if pc = 2 then hd_M_laysSites_2 (fun k0 v1 s => KH k0 v1 s) ls st σ else none) hX.2.1 hX.2.2 (F := F_M_laysSites _) (fs_M_laysSites hX _) (rt_V rfl) oc_M_laysSites (by
    intro pc ls st σ o h
    rcases ite_s h with ⟨rfl, h⟩ | ⟨_, h⟩
    · exact hs_M_laysSites_2 hKH _ _ _ _ h
    cases h) 332 118 _ _ _ _ h
set_option maxRecDepth 100000 in
theorem s_M_laysSites_2 {X : CXT} (hX : XM X) : ∀ n : Nat, ∀ (k0 : Nat) (v1 : Int32) (s : Mem) (o : Mem), f_M_laysSites_2 n k0 v1 s = some o → BSnd X 4 320 (ovV o) 2 [some (.inr (.inr (12, k0))), some (.inl v1)] [] s := by
  intro n
  induction n with
  | zero => intro k0 v1 s o h; cases h
  | succ n ih =>
    intro k0 v1 s o h
    exact evC (chs := c_M_laysSites) (cuts := cu_M_laysSites) (G := fun pc ls st σ => if pc = 22 then hd_M_laysSites_22 (fun k0 v1 v2 s => f_M_laysSites_22 (fun k0 v1 s => f_M_laysSites_118 (fun k0 v1 s => f_M_laysSites_2 n k0 v1 s) k0 v1 s) FU k0 v1 v2 s) ls st σ else if pc = 118 then hd_M_laysSites_118 (fun k0 v1 s => f_M_laysSites_118 (fun k0 v1 s => f_M_laysSites_2 n k0 v1 s) k0 v1 s) ls st σ else if pc = 2 then hd_M_laysSites_2 (fun k0 v1 s => f_M_laysSites_2 n k0 v1 s) ls st σ else none) hX.2.1 hX.2.2 (F := F_M_laysSites _) (fs_M_laysSites hX _) (rt_V rfl) oc_M_laysSites (by
    intro pc ls st σ o h
    rcases ite_s h with ⟨rfl, h⟩ | ⟨_, h⟩
    · exact hs_M_laysSites_22 (s_M_laysSites_22 hX (s_M_laysSites_118 hX ih) FU) _ _ _ _ h
    rcases ite_s h with ⟨rfl, h⟩ | ⟨_, h⟩
    · exact hs_M_laysSites_118 (s_M_laysSites_118 hX ih) _ _ _ _ h
    rcases ite_s h with ⟨rfl, h⟩ | ⟨_, h⟩
    · exact hs_M_laysSites_2 ih _ _ _ _ h
    cases h) 332 2 _ _ _ _ h
set_option maxRecDepth 100000 in
theorem s_M_laysSites {X : CXT} (hX : XM X) : ∀ (k0 : Nat) (s : Mem) (o : Mem), f_M_laysSites k0 s = some o → BSnd X 4 320 (ovV o) 0 (entL [.inr (.inr (12, k0))]) [] s := by
  intro k0 s o h
  rw [f_M_laysSites_eq] at h
  exact evC (chs := c_M_laysSites) (cuts := cu_M_laysSites) (G := fun pc ls st σ => if pc = 2 then hd_M_laysSites_2 (fun k0 v1 s => f_M_laysSites_2 FU k0 v1 s) ls st σ else none) hX.2.1 hX.2.2 (F := F_M_laysSites _) (fs_M_laysSites hX _) (rt_V rfl) oc_M_laysSites (by
    intro pc ls st σ o h
    rcases ite_s h with ⟨rfl, h⟩ | ⟨_, h⟩
    · exact hs_M_laysSites_2 (s_M_laysSites_2 hX FU) _ _ _ _ h
    cases h) 332 0 _ _ _ _ h
theorem ok_M_laysSites {X : CXT} (hX : XM X) : SemOK X 4 320 sm_M_laysSites := by
  intro O av σ K o h
  unfold sm_M_laysSites at h
  split at h
  · obtain ⟨r, hf, h⟩ := Option.bind_eq_some_iff.mp h
    exact ⟨ovV r, fun ht => sp_of hX.1 (by decide) (List.mem_range.mpr (by decide)) (by decide +kernel) ht (Nat.le_of_ble_eq_true rfl) (s_M_laysSites hX _ _ _ hf), trivial, h⟩
  · cases h
noncomputable def f_M_servedBy_15 : Nat → Nat → Int32 → Int32 → Int32 → Mem → Option (Int32 × Mem)
  | 0, _, _, _, _, _ => none
  | n + 1, k0, v1, v2, v3, s =>
    gd (inb ((57 : Int32)) (lenM (k0 + 1))) <|
    cif ((rI s (k0 + 1) (ix ((57 : Int32)))) ≤ v3) (
      (f_M_count v2 s).bind fun r1 =>
      some (r1.1, r1.2)) (
      cif (((v1 >>> (v3 &&& 31)) &&& ((1 : Int32))) = ((1 : Int32))) (
        gd (inb v3 (lenM (k0 + 11))) <|
        let x2 : Int32 := v2 ||| (rI s (k0 + 11) (ix v3))
        f_M_servedBy_15 n k0 v1 x2 (v3 + (1 : Int32)) s) (
        let x3 : Int32 := v2 ||| ((0 : Int32))
        f_M_servedBy_15 n k0 v1 x3 (v3 + (1 : Int32)) s))
noncomputable def b_M_servedBy (k0 : Nat) (v1 : Int32) (s : Mem) : Option (Int32 × Mem) :=
  gd (inb ((57 : Int32)) (lenM (k0 + 1))) <|
  gd (inb (rI s (k0 + 1) (ix ((57 : Int32)))) (lenM (k0 + 11))) <|
  let x1 : Int32 := rI s (k0 + 11) (ix (rI s (k0 + 1) (ix ((57 : Int32)))))
  f_M_servedBy_15 FU k0 v1 x1 ((0 : Int32)) s
noncomputable def f_M_servedBy : Nat → Int32 → Mem → Option (Int32 × Mem) := Classical.choose (⟨b_M_servedBy, rfl⟩ : ∃ f : Nat → Int32 → Mem → Option (Int32 × Mem), f = b_M_servedBy)
theorem f_M_servedBy_eq : f_M_servedBy = b_M_servedBy := Classical.choose_spec (⟨b_M_servedBy, rfl⟩ : ∃ f : Nat → Int32 → Mem → Option (Int32 × Mem), f = b_M_servedBy)
noncomputable def sm_M_servedBy (O : Type) (av : List AV) (σ : Mem) (K : AV → Mem → Option O) : Option O := match av with
  | [.inr (.inr (12, k0)), .inl v1] => (f_M_servedBy k0 v1 σ).bind fun r => K (.inl r.1) r.2
  | _ => none
def c_M_servedBy : List (List CE) := [[(0, .aload_n 0, 1, 0, 0, 0), (1, .getfield 44, 3, 12, 27, 0), (4, .aload_n 0, 1, 0, 0, 0), (5, .getfield 7, 3, 12, 0, 0), (8, .bipush 57, 2, 57, 0, 0), (10, .iaload, 1, 0, 0, 0), (11, .iaload, 1, 0, 0, 0), (12, .istore_n 2, 1, 0, 0, 0), (13, .iconst 0, 1, 0, 0, 0), (14, .istore_n 3, 1, 0, 0, 0), (15, .iload_n 3, 1, 0, 0, 0)], [(16, .aload_n 0, 1, 0, 0, 0), (17, .getfield 7, 3, 12, 0, 0), (20, .bipush 57, 2, 57, 0, 0), (22, .iaload, 1, 0, 0, 0), (23, .if_icmp .ge 31, 3, 54, 0, 0), (26, .iload_n 2, 1, 0, 0, 0), (27, .iload_n 1, 1, 0, 0, 0), (28, .iload_n 3, 1, 0, 0, 0), (29, .ishr, 1, 0, 0, 0), (30, .iconst 1, 1, 1, 0, 0), (31, .iand, 1, 0, 0, 0)], [(32, .iconst 1, 1, 1, 0, 0), (33, .if_icmp .ne 12, 3, 45, 0, 0), (36, .aload_n 0, 1, 0, 0, 0), (37, .getfield 44, 3, 12, 27, 0), (40, .iload_n 3, 1, 0, 0, 0), (41, .iaload, 1, 0, 0, 0), (42, .goto 4, 3, 46, 0, 0), (45, .iconst 0, 1, 0, 0, 0), (46, .ior, 1, 0, 0, 0), (47, .istore_n 2, 1, 0, 0, 0)], [(48, .iinc 3 1, 3, 1, 0, 0), (51, .goto (-36), 3, 15, 0, 0), (54, .iload_n 2, 1, 0, 0, 0), (55, .invokestatic 333, 3, 292, 1, 1), (58, .ireturn, 1, 0, 0, 0)]]
set_option maxRecDepth 100000 in
theorem oc_M_servedBy : okC 321 c_M_servedBy = true := by decide +kernel
def cu_M_servedBy : List (Nat × List Bool) := [(15, [true, true, true, true])]
noncomputable def F_M_servedBy (O : Type) (a : Nat) (av : List AV) (σ : Mem) (K : AV → Mem → Option O) : Option O := if a = 292 then sm_M_count O av σ K else none
theorem fs_M_servedBy {X : CXT} (hX : XM X) (O : Type) : FS X 2 (F_M_servedBy O) := by
  intro a av σ K o h
  unfold F_M_servedBy at h
  rcases ite_s h with ⟨rfl, h⟩ | ⟨_, h⟩
  · obtain ⟨r, h1, h2, h3⟩ := ok_M_count hX _ _ _ _ _ h
    exact ⟨r, fun ht => ⟨1, by decide, h1 ht⟩, h2, h3⟩
  cases h
def hd_M_servedBy_15 {O : Type} (g : Nat → Int32 → Int32 → Int32 → Mem → Option O) (ls : OL) (st : List AV) (σ : Mem) : Option O := match ls, st with
  | [some (.inr (.inr (12, k0))), some (.inl v1), some (.inl v2), some (.inl v3)], [] => g k0 v1 v2 v3 σ
  | _, _ => none
theorem hs_M_servedBy_15 {X : CXT} {g : Nat → Int32 → Int32 → Int32 → Mem → Option (Int32 × Mem)} (hg : ∀ (k0 : Nat) (v1 : Int32) (v2 : Int32) (v3 : Int32) (s : Mem) (o : Int32 × Mem), g k0 v1 v2 v3 s = some o → BSnd X 2 321 (ovI o) 15 [some (.inr (.inr (12, k0))), some (.inl v1), some (.inl v2), some (.inl v3)] [] s) : ∀ ls st σ o, hd_M_servedBy_15 g ls st σ = some o → BSnd X 2 321 (ovI o) 15 ls st σ := by
  intro ls st σ o h
  unfold hd_M_servedBy_15 at h
  split at h
  · exact hg _ _ _ _ _ _ h
  · cases h
set_option maxRecDepth 100000 in
theorem s_M_servedBy_15 {X : CXT} (hX : XM X) : ∀ n : Nat, ∀ (k0 : Nat) (v1 : Int32) (v2 : Int32) (v3 : Int32) (s : Mem) (o : Int32 × Mem), f_M_servedBy_15 n k0 v1 v2 v3 s = some o → BSnd X 2 321 (ovI o) 15 [some (.inr (.inr (12, k0))), some (.inl v1), some (.inl v2), some (.inl v3)] [] s := by
  intro n
  induction n with
  | zero => intro k0 v1 v2 v3 s o h; cases h
  | succ n ih =>
    intro k0 v1 v2 v3 s o h
    exact evC (chs := c_M_servedBy) (cuts := cu_M_servedBy) (G := fun pc ls st σ => if pc = 15 then hd_M_servedBy_15 (fun k0 v1 v2 v3 s => f_M_servedBy_15 n k0 v1 v2 v3 s) ls st σ else none) hX.2.1 hX.2.2 (F := F_M_servedBy _) (fs_M_servedBy hX _) (rt_I rfl) oc_M_servedBy (by
    intro pc ls st σ o h
    rcases ite_s h with ⟨rfl, h⟩ | ⟨_, h⟩
    · exact hs_M_servedBy_15 ih _ _ _ _ h
    cases h) 188 15 _ _ _ _ h
set_option maxRecDepth 100000 in
theorem s_M_servedBy {X : CXT} (hX : XM X) : ∀ (k0 : Nat) (v1 : Int32) (s : Mem) (o : Int32 × Mem), f_M_servedBy k0 v1 s = some o → BSnd X 2 321 (ovI o) 0 (entL [.inr (.inr (12, k0)), .inl v1]) [] s := by
  intro k0 v1 s o h
  rw [f_M_servedBy_eq] at h
  exact evC (chs := c_M_servedBy) (cuts := cu_M_servedBy) (G := fun pc ls st σ => if pc = 15 then hd_M_servedBy_15 (fun k0 v1 v2 v3 s => f_M_servedBy_15 FU k0 v1 v2 v3 s) ls st σ else none) hX.2.1 hX.2.2 (F := F_M_servedBy _) (fs_M_servedBy hX _) (rt_I rfl) oc_M_servedBy (by
    intro pc ls st σ o h
    rcases ite_s h with ⟨rfl, h⟩ | ⟨_, h⟩
    · exact hs_M_servedBy_15 (s_M_servedBy_15 hX FU) _ _ _ _ h
    cases h) 188 0 _ _ _ _ h
theorem ok_M_servedBy {X : CXT} (hX : XM X) : SemOK X 2 321 sm_M_servedBy := by
  intro O av σ K o h
  unfold sm_M_servedBy at h
  split at h
  · obtain ⟨r, hf, h⟩ := Option.bind_eq_some_iff.mp h
    exact ⟨ovI r, fun ht => sp_of hX.1 (by decide) (List.mem_range.mpr (by decide)) (by decide +kernel) ht (Nat.le_of_ble_eq_true rfl) (s_M_servedBy hX _ _ _ _ hf), trivial, h⟩
  · cases h
noncomputable def f_M_serves_30 (K101 : Nat → Int32 → Int32 → Mem → Option (Int32 × Mem)) : Nat → Nat → Int32 → Int32 → Int32 → Int32 → Mem → Option (Int32 × Mem)
  | 0, _, _, _, _, _, _ => none
  | n + 1, k0, v1, v2, v3, v4, s =>
    gd (inb ((57 : Int32)) (lenM (k0 + 1))) <|
    cif ((((1 : Int32)) <<< ((rI s (k0 + 1) (ix ((57 : Int32)))) &&& 31)) ≤ v4) (
      K101 k0 v2 v3 s) (
      (f_M_count v4 s).bind fun r1 =>
      cif (r1.1 ≤ v1) (
        (f_M_servedBy k0 v4 r1.2).bind fun r2 =>
        (f_M_servedBy k0 v3 r2.2).bind fun r3 =>
        let x4 : Int32 := r2.1 - r3.1
        cif (0 < x4) (
          f_M_serves_30 K101 n k0 v1 v2 v4 (v4 + (1 : Int32)) r3.2) (
          cif (x4 = 0) (
            (f_M_count v4 r3.2).bind fun r5 =>
            (f_M_count v3 r5.2).bind fun r6 =>
            cif (r6.1 ≤ r5.1) (
              f_M_serves_30 K101 n k0 v1 v2 v3 (v4 + (1 : Int32)) r6.2) (
              f_M_serves_30 K101 n k0 v1 v2 v4 (v4 + (1 : Int32)) r6.2)) (
            f_M_serves_30 K101 n k0 v1 v2 v3 (v4 + (1 : Int32)) r3.2))) (
        f_M_serves_30 K101 n k0 v1 v2 v3 (v4 + (1 : Int32)) r1.2))
noncomputable def f_M_serves_101 (k0 : Nat) (v2 : Int32) (v3 : Int32) (s : Mem) : Option (Int32 × Mem) :=
  cif (v2 = 0) (
    (f_M_servedBy k0 v3 s).bind fun r1 =>
    some (r1.1, r1.2)) (
    some (v3, s))
noncomputable def b_M_serves (k0 : Nat) (v1 : Int32) (v2 : Int32) (s : Mem) : Option (Int32 × Mem) :=
  (f_M_isIn v1 ((1 : Int32)) ((6 : Int32)) s).bind fun r1 =>
  cif ((b2i r1.1) = 0) (
    some ((-1 : Int32), r1.2)) (
    (f_M_isIn v2 ((0 : Int32)) ((1 : Int32)) r1.2).bind fun r2 =>
    cif ((b2i r2.1) = 0) (
      some ((-1 : Int32), r2.2)) (
      (f_M_laysSites k0 r2.2).bind fun r3 =>
      f_M_serves_30 (fun k0 v2 v3 s => f_M_serves_101 k0 v2 v3 s) FU k0 v1 v2 ((0 : Int32)) ((1 : Int32)) r3))
noncomputable def f_M_serves : Nat → Int32 → Int32 → Mem → Option (Int32 × Mem) := Classical.choose (⟨b_M_serves, rfl⟩ : ∃ f : Nat → Int32 → Int32 → Mem → Option (Int32 × Mem), f = b_M_serves)
theorem f_M_serves_eq : f_M_serves = b_M_serves := Classical.choose_spec (⟨b_M_serves, rfl⟩ : ∃ f : Nat → Int32 → Int32 → Mem → Option (Int32 × Mem), f = b_M_serves)
noncomputable def sm_M_serves (O : Type) (av : List AV) (σ : Mem) (K : AV → Mem → Option O) : Option O := match av with
  | [.inr (.inr (12, k0)), .inl v1, .inl v2] => (f_M_serves k0 v1 v2 σ).bind fun r => K (.inl r.1) r.2
  | _ => none
def c_M_serves : List (List CE) := [[(0, .iload_n 1, 1, 0, 0, 0), (1, .iconst 1, 1, 1, 0, 0), (2, .bipush 6, 2, 6, 0, 0), (4, .invokestatic 60, 3, 230, 3, 1), (7, .ifCond .eq 12, 3, 19, 0, 0), (10, .iload_n 2, 1, 0, 0, 0), (11, .iconst 0, 1, 0, 0, 0), (12, .iconst 1, 1, 1, 0, 0), (13, .invokestatic 60, 3, 230, 3, 1)], [(16, .ifCond .ne 5, 3, 21, 0, 0), (19, .iconst (-1), 1, 1, 0, 1), (20, .ireturn, 1, 0, 0, 0), (21, .aload_n 0, 1, 0, 0, 0), (22, .invokevirtual 391, 3, 320, 1, 24), (25, .iconst 0, 1, 0, 0, 0), (26, .istore_n 3, 1, 0, 0, 0), (27, .iconst 1, 1, 1, 0, 0), (28, .istore 4, 2, 0, 0, 0), (30, .iload 4, 2, 0, 0, 0)], [(32, .iconst 1, 1, 1, 0, 0), (33, .aload_n 0, 1, 0, 0, 0), (34, .getfield 7, 3, 12, 0, 0), (37, .bipush 57, 2, 57, 0, 0), (39, .iaload, 1, 0, 0, 0), (40, .ishl, 1, 0, 0, 0), (41, .if_icmp .ge 60, 3, 101, 0, 0), (44, .iload 4, 2, 0, 0, 0), (46, .invokestatic 333, 3, 292, 1, 1)], [(49, .iload_n 1, 1, 0, 0, 0), (50, .if_icmp .le 6, 3, 56, 0, 0), (53, .goto 42, 3, 95, 0, 0), (56, .aload_n 0, 1, 0, 0, 0), (57, .iload 4, 2, 0, 0, 0), (59, .invokevirtual 394, 3, 321, 2, 25), (62, .aload_n 0, 1, 0, 0, 0), (63, .iload_n 3, 1, 0, 0, 0)], [(64, .invokevirtual 394, 3, 321, 2, 25), (67, .isub, 1, 0, 0, 0), (68, .istore 5, 2, 0, 0, 0), (70, .iload 5, 2, 0, 0, 0), (72, .ifCond .gt 20, 3, 92, 0, 0), (75, .iload 5, 2, 0, 0, 0), (77, .ifCond .ne 18, 3, 95, 0, 0)], [(80, .iload 4, 2, 0, 0, 0), (82, .invokestatic 333, 3, 292, 1, 1), (85, .iload_n 3, 1, 0, 0, 0), (86, .invokestatic 333, 3, 292, 1, 1), (89, .if_icmp .ge 6, 3, 95, 0, 0), (92, .iload 4, 2, 0, 0, 0), (94, .istore_n 3, 1, 0, 0, 0), (95, .iinc 4 1, 3, 1, 0, 0)], [(98, .goto (-68), 3, 30, 0, 0), (101, .iload_n 2, 1, 0, 0, 0), (102, .ifCond .ne 11, 3, 113, 0, 0), (105, .aload_n 0, 1, 0, 0, 0), (106, .iload_n 3, 1, 0, 0, 0), (107, .invokevirtual 394, 3, 321, 2, 25), (110, .goto 4, 3, 114, 0, 0)], [(113, .iload_n 3, 1, 0, 0, 0), (114, .ireturn, 1, 0, 0, 0)]]
set_option maxRecDepth 100000 in
theorem oc_M_serves : okC 319 c_M_serves = true := by decide +kernel
def cu_M_serves : List (Nat × List Bool) := [(30, [true, true, true, true, true]), (101, [true, false, true, true])]
noncomputable def F_M_serves (O : Type) (a : Nat) (av : List AV) (σ : Mem) (K : AV → Mem → Option O) : Option O := if a = 230 then sm_M_isIn O av σ K else if a = 292 then sm_M_count O av σ K else if a = 320 then sm_M_laysSites O av σ K else if a = 321 then sm_M_servedBy O av σ K else none
theorem fs_M_serves {X : CXT} (hX : XM X) (O : Type) : FS X 5 (F_M_serves O) := by
  intro a av σ K o h
  unfold F_M_serves at h
  rcases ite_s h with ⟨rfl, h⟩ | ⟨_, h⟩
  · obtain ⟨r, h1, h2, h3⟩ := ok_M_isIn hX _ _ _ _ _ h
    exact ⟨r, fun ht => ⟨1, by decide, h1 ht⟩, h2, h3⟩
  rcases ite_s h with ⟨rfl, h⟩ | ⟨_, h⟩
  · obtain ⟨r, h1, h2, h3⟩ := ok_M_count hX _ _ _ _ _ h
    exact ⟨r, fun ht => ⟨1, by decide, h1 ht⟩, h2, h3⟩
  rcases ite_s h with ⟨rfl, h⟩ | ⟨_, h⟩
  · obtain ⟨r, h1, h2, h3⟩ := ok_M_laysSites hX _ _ _ _ _ h
    exact ⟨r, fun ht => ⟨4, by decide, h1 ht⟩, h2, h3⟩
  rcases ite_s h with ⟨rfl, h⟩ | ⟨_, h⟩
  · obtain ⟨r, h1, h2, h3⟩ := ok_M_servedBy hX _ _ _ _ _ h
    exact ⟨r, fun ht => ⟨2, by decide, h1 ht⟩, h2, h3⟩
  cases h
def hd_M_serves_30 {O : Type} (g : Nat → Int32 → Int32 → Int32 → Int32 → Mem → Option O) (ls : OL) (st : List AV) (σ : Mem) : Option O := match ls, st with
  | [some (.inr (.inr (12, k0))), some (.inl v1), some (.inl v2), some (.inl v3), some (.inl v4)], [] => g k0 v1 v2 v3 v4 σ
  | _, _ => none
theorem hs_M_serves_30 {X : CXT} {g : Nat → Int32 → Int32 → Int32 → Int32 → Mem → Option (Int32 × Mem)} (hg : ∀ (k0 : Nat) (v1 : Int32) (v2 : Int32) (v3 : Int32) (v4 : Int32) (s : Mem) (o : Int32 × Mem), g k0 v1 v2 v3 v4 s = some o → BSnd X 5 319 (ovI o) 30 [some (.inr (.inr (12, k0))), some (.inl v1), some (.inl v2), some (.inl v3), some (.inl v4)] [] s) : ∀ ls st σ o, hd_M_serves_30 g ls st σ = some o → BSnd X 5 319 (ovI o) 30 ls st σ := by
  intro ls st σ o h
  unfold hd_M_serves_30 at h
  split at h
  · exact hg _ _ _ _ _ _ _ h
  · cases h
def hd_M_serves_101 {O : Type} (g : Nat → Int32 → Int32 → Mem → Option O) (ls : OL) (st : List AV) (σ : Mem) : Option O := match ls, st with
  | [some (.inr (.inr (12, k0))), none, some (.inl v2), some (.inl v3)], [] => g k0 v2 v3 σ
  | _, _ => none
theorem hs_M_serves_101 {X : CXT} {g : Nat → Int32 → Int32 → Mem → Option (Int32 × Mem)} (hg : ∀ (k0 : Nat) (v2 : Int32) (v3 : Int32) (s : Mem) (o : Int32 × Mem), g k0 v2 v3 s = some o → BSnd X 5 319 (ovI o) 101 [some (.inr (.inr (12, k0))), none, some (.inl v2), some (.inl v3)] [] s) : ∀ ls st σ o, hd_M_serves_101 g ls st σ = some o → BSnd X 5 319 (ovI o) 101 ls st σ := by
  intro ls st σ o h
  unfold hd_M_serves_101 at h
  split at h
  · exact hg _ _ _ _ _ h
  · cases h
set_option maxRecDepth 100000 in
theorem s_M_serves_30 {X : CXT} (hX : XM X) {K101 : Nat → Int32 → Int32 → Mem → Option (Int32 × Mem)} (hK101 : ∀ (k0 : Nat) (v2 : Int32) (v3 : Int32) (s : Mem) (o : Int32 × Mem), K101 k0 v2 v3 s = some o → BSnd X 5 319 (ovI o) 101 [some (.inr (.inr (12, k0))), none, some (.inl v2), some (.inl v3)] [] s) : ∀ n : Nat, ∀ (k0 : Nat) (v1 : Int32) (v2 : Int32) (v3 : Int32) (v4 : Int32) (s : Mem) (o : Int32 × Mem), f_M_serves_30 K101 n k0 v1 v2 v3 v4 s = some o → BSnd X 5 319 (ovI o) 30 [some (.inr (.inr (12, k0))), some (.inl v1), some (.inl v2), some (.inl v3), some (.inl v4)] [] s := by
  intro n
  induction n with
  | zero => intro k0 v1 v2 v3 v4 s o h; cases h
  | succ n ih =>
    intro k0 v1 v2 v3 v4 s o h
    exact evC (chs := c_M_serves) (cuts := cu_M_serves) (G := fun pc ls st σ => if pc = 30 then hd_M_serves_30 (fun k0 v1 v2 v3 v4 s => f_M_serves_30 K101 n k0 v1 v2 v3 v4 s) ls st σ else if pc = 101 then hd_M_serves_101 (fun k0 v2 v3 s => K101 k0 v2 v3 s) ls st σ else none) hX.2.1 hX.2.2 (F := F_M_serves _) (fs_M_serves hX _) (rt_I rfl) oc_M_serves (by
    intro pc ls st σ o h
    rcases ite_s h with ⟨rfl, h⟩ | ⟨_, h⟩
    · exact hs_M_serves_30 ih _ _ _ _ h
    rcases ite_s h with ⟨rfl, h⟩ | ⟨_, h⟩
    · exact hs_M_serves_101 hK101 _ _ _ _ h
    cases h) 280 30 _ _ _ _ h
set_option maxRecDepth 100000 in
theorem s_M_serves_101 {X : CXT} (hX : XM X) : ∀ (k0 : Nat) (v2 : Int32) (v3 : Int32) (s : Mem) (o : Int32 × Mem), f_M_serves_101 k0 v2 v3 s = some o → BSnd X 5 319 (ovI o) 101 [some (.inr (.inr (12, k0))), none, some (.inl v2), some (.inl v3)] [] s := by
  intro k0 v2 v3 s o h
  exact evC (chs := c_M_serves) (cuts := cu_M_serves) (G := fun pc ls st σ => none) hX.2.1 hX.2.2 (F := F_M_serves _) (fs_M_serves hX _) (rt_I rfl) oc_M_serves (by
    intro pc ls st σ o h
    cases h) 280 101 _ _ _ _ h
set_option maxRecDepth 100000 in
theorem s_M_serves {X : CXT} (hX : XM X) : ∀ (k0 : Nat) (v1 : Int32) (v2 : Int32) (s : Mem) (o : Int32 × Mem), f_M_serves k0 v1 v2 s = some o → BSnd X 5 319 (ovI o) 0 (entL [.inr (.inr (12, k0)), .inl v1, .inl v2]) [] s := by
  intro k0 v1 v2 s o h
  rw [f_M_serves_eq] at h
  exact evC (chs := c_M_serves) (cuts := cu_M_serves) (G := fun pc ls st σ => if pc = 30 then hd_M_serves_30 (fun k0 v1 v2 v3 v4 s => f_M_serves_30 (fun k0 v2 v3 s => f_M_serves_101 k0 v2 v3 s) FU k0 v1 v2 v3 v4 s) ls st σ else if pc = 101 then hd_M_serves_101 (fun k0 v2 v3 s => f_M_serves_101 k0 v2 v3 s) ls st σ else none) hX.2.1 hX.2.2 (F := F_M_serves _) (fs_M_serves hX _) (rt_I rfl) oc_M_serves (by
    intro pc ls st σ o h
    rcases ite_s h with ⟨rfl, h⟩ | ⟨_, h⟩
    · exact hs_M_serves_30 (s_M_serves_30 hX (s_M_serves_101 hX) FU) _ _ _ _ h
    rcases ite_s h with ⟨rfl, h⟩ | ⟨_, h⟩
    · exact hs_M_serves_101 (s_M_serves_101 hX) _ _ _ _ h
    cases h) 280 0 _ _ _ _ h
theorem ok_M_serves {X : CXT} (hX : XM X) : SemOK X 5 319 sm_M_serves := by
  intro O av σ K o h
  unfold sm_M_serves at h
  split at h
  · obtain ⟨r, hf, h⟩ := Option.bind_eq_some_iff.mp h
    exact ⟨ovI r, fun ht => sp_of hX.1 (by decide) (List.mem_range.mpr (by decide)) (by decide +kernel) ht (Nat.le_of_ble_eq_true rfl) (s_M_serves hX _ _ _ _ _ hf), trivial, h⟩
  · cases h
noncomputable def f_M_boats_14 (K35 : Nat → Int32 → Int32 → Mem → Option (Int32 × Mem)) : Nat → Nat → Int32 → Int32 → Mem → Option (Int32 × Mem)
  | 0, _, _, _, _ => none
  | n + 1, k0, v1, v2, s =>
    cif (((200 : Int32)) ≤ v2) (
      K35 k0 v1 v2 s) (
      (f_M_isBroken k0 v2 s).bind fun r1 =>
      cif ((b2i r1.1) = 0) (
        f_M_boats_14 K35 n k0 v1 (v2 + (1 : Int32)) r1.2) (
        K35 k0 v1 v2 r1.2))
noncomputable def f_M_boats_40 (K80 : Int32 → Int32 → Mem → Option (Int32 × Mem)) : Nat → Nat → Int32 → Int32 → Int32 → Int32 → Mem → Option (Int32 × Mem)
  | 0, _, _, _, _, _, _ => none
  | n + 1, k0, v1, v2, v3, v4, s =>
    gd (inb ((49 : Int32)) (lenM (k0 + 1))) <|
    cif ((rI s (k0 + 1) (ix ((49 : Int32)))) ≤ v4) (
      K80 v1 v3 s) (
      gd (inb (((13 : Int32)) + v4) (lenM (k0 + 1))) <|
      cif ((rI s (k0 + 1) (ix (((13 : Int32)) + v4))) ≤ v2) (
        let x1 : Int32 := v3 + ((0 : Int32))
        f_M_boats_40 K80 n k0 v1 v2 x1 (v4 + (1 : Int32)) s) (
        let x2 : Int32 := v3 + ((1 : Int32))
        f_M_boats_40 K80 n k0 v1 v2 x2 (v4 + (1 : Int32)) s))
noncomputable def f_M_boats_80 (v1 : Int32) (v3 : Int32) (s : Mem) : Option (Int32 × Mem) :=
  cif (v1 < v3) (
    cif (v1 = ((1 : Int32))) (
      some ((-1 : Int32), s)) (
      if (v1 - ((1 : Int32))) = 0 then none else
      some (((1 : Int32)) + (((2 : Int32)) * ((v3 - ((2 : Int32))) / (v1 - ((1 : Int32))))), s))) (
    (f_M_lesser ((1 : Int32)) v3 s).bind fun r1 =>
    some (r1.1, r1.2))
noncomputable def f_M_boats_35 (k0 : Nat) (v1 : Int32) (v2 : Int32) (s : Mem) : Option (Int32 × Mem) :=
  f_M_boats_40 (fun v1 v3 s => f_M_boats_80 v1 v3 s) FU k0 v1 v2 ((0 : Int32)) ((0 : Int32)) s
noncomputable def b_M_boats (k0 : Nat) (v1 : Int32) (s : Mem) : Option (Int32 × Mem) :=
  (f_M_isIn v1 ((1 : Int32)) ((9 : Int32)) s).bind fun r1 =>
  cif ((b2i r1.1) = 0) (
    some ((-1 : Int32), r1.2)) (
    f_M_boats_14 (fun k0 v1 v2 s => f_M_boats_35 k0 v1 v2 s) FU k0 v1 ((0 : Int32)) r1.2)
noncomputable def f_M_boats : Nat → Int32 → Mem → Option (Int32 × Mem) := Classical.choose (⟨b_M_boats, rfl⟩ : ∃ f : Nat → Int32 → Mem → Option (Int32 × Mem), f = b_M_boats)
theorem f_M_boats_eq : f_M_boats = b_M_boats := Classical.choose_spec (⟨b_M_boats, rfl⟩ : ∃ f : Nat → Int32 → Mem → Option (Int32 × Mem), f = b_M_boats)
noncomputable def sm_M_boats (O : Type) (av : List AV) (σ : Mem) (K : AV → Mem → Option O) : Option O := match av with
  | [.inr (.inr (12, k0)), .inl v1] => (f_M_boats k0 v1 σ).bind fun r => K (.inl r.1) r.2
  | _ => none
def c_M_boats : List (List CE) := [[(0, .iload_n 1, 1, 0, 0, 0), (1, .iconst 1, 1, 1, 0, 0), (2, .bipush 9, 2, 9, 0, 0), (4, .invokestatic 60, 3, 230, 3, 1), (7, .ifCond .ne 5, 3, 12, 0, 0), (10, .iconst (-1), 1, 1, 0, 1), (11, .ireturn, 1, 0, 0, 0), (12, .iconst 0, 1, 0, 0, 0), (13, .istore_n 2, 1, 0, 0, 0), (14, .iload_n 2, 1, 0, 0, 0), (15, .sipush 200, 3, 200, 0, 0)], [(18, .if_icmp .ge 17, 3, 35, 0, 0), (21, .aload_n 0, 1, 0, 0, 0), (22, .iload_n 2, 1, 0, 0, 0), (23, .invokevirtual 320, 3, 288, 2, 25), (26, .ifCond .ne 9, 3, 35, 0, 0), (29, .iinc 2 1, 3, 1, 0, 0)], [(32, .goto (-18), 3, 14, 0, 0), (35, .iconst 0, 1, 0, 0, 0), (36, .istore_n 3, 1, 0, 0, 0), (37, .iconst 0, 1, 0, 0, 0), (38, .istore 4, 2, 0, 0, 0), (40, .iload 4, 2, 0, 0, 0), (42, .aload_n 0, 1, 0, 0, 0), (43, .getfield 7, 3, 12, 0, 0), (46, .bipush 49, 2, 49, 0, 0)], [(48, .iaload, 1, 0, 0, 0), (49, .if_icmp .ge 31, 3, 80, 0, 0), (52, .iload_n 3, 1, 0, 0, 0), (53, .aload_n 0, 1, 0, 0, 0), (54, .getfield 7, 3, 12, 0, 0), (57, .bipush 13, 2, 13, 0, 0), (59, .iload 4, 2, 0, 0, 0), (61, .iadd, 1, 0, 0, 0), (62, .iaload, 1, 0, 0, 0), (63, .iload_n 2, 1, 0, 0, 0)], [(64, .if_icmp .le 7, 3, 71, 0, 0), (67, .iconst 1, 1, 1, 0, 0), (68, .goto 4, 3, 72, 0, 0), (71, .iconst 0, 1, 0, 0, 0), (72, .iadd, 1, 0, 0, 0), (73, .istore_n 3, 1, 0, 0, 0), (74, .iinc 4 1, 3, 1, 0, 0), (77, .goto (-37), 3, 40, 0, 0)], [(80, .iload_n 3, 1, 0, 0, 0), (81, .iload_n 1, 1, 0, 0, 0), (82, .if_icmp .gt 9, 3, 91, 0, 0), (85, .iconst 1, 1, 1, 0, 0), (86, .iload_n 3, 1, 0, 0, 0), (87, .invokestatic 290, 3, 282, 2, 1), (90, .ireturn, 1, 0, 0, 0), (91, .iload_n 1, 1, 0, 0, 0), (92, .iconst 1, 1, 1, 0, 0), (93, .if_icmp .ne 7, 3, 100, 0, 0)], [(96, .iconst (-1), 1, 1, 0, 1), (97, .goto 14, 3, 111, 0, 0), (100, .iconst 1, 1, 1, 0, 0), (101, .iconst 2, 1, 2, 0, 0), (102, .iload_n 3, 1, 0, 0, 0), (103, .iconst 2, 1, 2, 0, 0), (104, .isub, 1, 0, 0, 0), (105, .iload_n 1, 1, 0, 0, 0), (106, .iconst 1, 1, 1, 0, 0), (107, .isub, 1, 0, 0, 0), (108, .idiv, 1, 0, 0, 0), (109, .imul, 1, 0, 0, 0), (110, .iadd, 1, 0, 0, 0), (111, .ireturn, 1, 0, 0, 0)]]
set_option maxRecDepth 100000 in
theorem oc_M_boats : okC 322 c_M_boats = true := by decide +kernel
def cu_M_boats : List (Nat × List Bool) := [(14, [true, true, true]), (40, [true, true, true, true, true]), (80, [false, true, false, true]), (35, [true, true, true])]
noncomputable def F_M_boats (O : Type) (a : Nat) (av : List AV) (σ : Mem) (K : AV → Mem → Option O) : Option O := if a = 230 then sm_M_isIn O av σ K else if a = 282 then sm_M_lesser O av σ K else if a = 288 then sm_M_isBroken O av σ K else none
theorem fs_M_boats {X : CXT} (hX : XM X) (O : Type) : FS X 2 (F_M_boats O) := by
  intro a av σ K o h
  unfold F_M_boats at h
  rcases ite_s h with ⟨rfl, h⟩ | ⟨_, h⟩
  · obtain ⟨r, h1, h2, h3⟩ := ok_M_isIn hX _ _ _ _ _ h
    exact ⟨r, fun ht => ⟨1, by decide, h1 ht⟩, h2, h3⟩
  rcases ite_s h with ⟨rfl, h⟩ | ⟨_, h⟩
  · obtain ⟨r, h1, h2, h3⟩ := ok_M_lesser hX _ _ _ _ _ h
    exact ⟨r, fun ht => ⟨1, by decide, h1 ht⟩, h2, h3⟩
  rcases ite_s h with ⟨rfl, h⟩ | ⟨_, h⟩
  · obtain ⟨r, h1, h2, h3⟩ := ok_M_isBroken hX _ _ _ _ _ h
    exact ⟨r, fun ht => ⟨1, by decide, h1 ht⟩, h2, h3⟩
  cases h
def hd_M_boats_14 {O : Type} (g : Nat → Int32 → Int32 → Mem → Option O) (ls : OL) (st : List AV) (σ : Mem) : Option O := match ls, st with
  | [some (.inr (.inr (12, k0))), some (.inl v1), some (.inl v2)], [] => g k0 v1 v2 σ
  | _, _ => none
theorem hs_M_boats_14 {X : CXT} {g : Nat → Int32 → Int32 → Mem → Option (Int32 × Mem)} (hg : ∀ (k0 : Nat) (v1 : Int32) (v2 : Int32) (s : Mem) (o : Int32 × Mem), g k0 v1 v2 s = some o → BSnd X 2 322 (ovI o) 14 [some (.inr (.inr (12, k0))), some (.inl v1), some (.inl v2)] [] s) : ∀ ls st σ o, hd_M_boats_14 g ls st σ = some o → BSnd X 2 322 (ovI o) 14 ls st σ := by
  intro ls st σ o h
  unfold hd_M_boats_14 at h
  split at h
  · exact hg _ _ _ _ _ h
  · cases h
def hd_M_boats_40 {O : Type} (g : Nat → Int32 → Int32 → Int32 → Int32 → Mem → Option O) (ls : OL) (st : List AV) (σ : Mem) : Option O := match ls, st with
  | [some (.inr (.inr (12, k0))), some (.inl v1), some (.inl v2), some (.inl v3), some (.inl v4)], [] => g k0 v1 v2 v3 v4 σ
  | _, _ => none
theorem hs_M_boats_40 {X : CXT} {g : Nat → Int32 → Int32 → Int32 → Int32 → Mem → Option (Int32 × Mem)} (hg : ∀ (k0 : Nat) (v1 : Int32) (v2 : Int32) (v3 : Int32) (v4 : Int32) (s : Mem) (o : Int32 × Mem), g k0 v1 v2 v3 v4 s = some o → BSnd X 2 322 (ovI o) 40 [some (.inr (.inr (12, k0))), some (.inl v1), some (.inl v2), some (.inl v3), some (.inl v4)] [] s) : ∀ ls st σ o, hd_M_boats_40 g ls st σ = some o → BSnd X 2 322 (ovI o) 40 ls st σ := by
  intro ls st σ o h
  unfold hd_M_boats_40 at h
  split at h
  · exact hg _ _ _ _ _ _ _ h
  · cases h
def hd_M_boats_80 {O : Type} (g : Int32 → Int32 → Mem → Option O) (ls : OL) (st : List AV) (σ : Mem) : Option O := match ls, st with
  | [none, some (.inl v1), none, some (.inl v3)], [] => g v1 v3 σ
  | _, _ => none
theorem hs_M_boats_80 {X : CXT} {g : Int32 → Int32 → Mem → Option (Int32 × Mem)} (hg : ∀ (v1 : Int32) (v3 : Int32) (s : Mem) (o : Int32 × Mem), g v1 v3 s = some o → BSnd X 2 322 (ovI o) 80 [none, some (.inl v1), none, some (.inl v3)] [] s) : ∀ ls st σ o, hd_M_boats_80 g ls st σ = some o → BSnd X 2 322 (ovI o) 80 ls st σ := by
  intro ls st σ o h
  unfold hd_M_boats_80 at h
  split at h
  · exact hg _ _ _ _ h
  · cases h
def hd_M_boats_35 {O : Type} (g : Nat → Int32 → Int32 → Mem → Option O) (ls : OL) (st : List AV) (σ : Mem) : Option O := match ls, st with
  | [some (.inr (.inr (12, k0))), some (.inl v1), some (.inl v2)], [] => g k0 v1 v2 σ
  | _, _ => none
theorem hs_M_boats_35 {X : CXT} {g : Nat → Int32 → Int32 → Mem → Option (Int32 × Mem)} (hg : ∀ (k0 : Nat) (v1 : Int32) (v2 : Int32) (s : Mem) (o : Int32 × Mem), g k0 v1 v2 s = some o → BSnd X 2 322 (ovI o) 35 [some (.inr (.inr (12, k0))), some (.inl v1), some (.inl v2)] [] s) : ∀ ls st σ o, hd_M_boats_35 g ls st σ = some o → BSnd X 2 322 (ovI o) 35 ls st σ := by
  intro ls st σ o h
  unfold hd_M_boats_35 at h
  split at h
  · exact hg _ _ _ _ _ h
  · cases h
set_option maxRecDepth 100000 in
theorem s_M_boats_14 {X : CXT} (hX : XM X) {K35 : Nat → Int32 → Int32 → Mem → Option (Int32 × Mem)} (hK35 : ∀ (k0 : Nat) (v1 : Int32) (v2 : Int32) (s : Mem) (o : Int32 × Mem), K35 k0 v1 v2 s = some o → BSnd X 2 322 (ovI o) 35 [some (.inr (.inr (12, k0))), some (.inl v1), some (.inl v2)] [] s) : ∀ n : Nat, ∀ (k0 : Nat) (v1 : Int32) (v2 : Int32) (s : Mem) (o : Int32 × Mem), f_M_boats_14 K35 n k0 v1 v2 s = some o → BSnd X 2 322 (ovI o) 14 [some (.inr (.inr (12, k0))), some (.inl v1), some (.inl v2)] [] s := by
  intro n
  induction n with
  | zero => intro k0 v1 v2 s o h; cases h
  | succ n ih =>
    intro k0 v1 v2 s o h
    exact evC (chs := c_M_boats) (cuts := cu_M_boats) (G := fun pc ls st σ => if pc = 14 then hd_M_boats_14 (fun k0 v1 v2 s => f_M_boats_14 K35 n k0 v1 v2 s) ls st σ else if pc = 35 then hd_M_boats_35 (fun k0 v1 v2 s => K35 k0 v1 v2 s) ls st σ else none) hX.2.1 hX.2.2 (F := F_M_boats _) (fs_M_boats hX _) (rt_I rfl) oc_M_boats (by
    intro pc ls st σ o h
    rcases ite_s h with ⟨rfl, h⟩ | ⟨_, h⟩
    · exact hs_M_boats_14 ih _ _ _ _ h
    rcases ite_s h with ⟨rfl, h⟩ | ⟨_, h⟩
    · exact hs_M_boats_35 hK35 _ _ _ _ h
    cases h) 312 14 _ _ _ _ h
set_option maxRecDepth 100000 in
theorem s_M_boats_40 {X : CXT} (hX : XM X) {K80 : Int32 → Int32 → Mem → Option (Int32 × Mem)} (hK80 : ∀ (v1 : Int32) (v3 : Int32) (s : Mem) (o : Int32 × Mem), K80 v1 v3 s = some o → BSnd X 2 322 (ovI o) 80 [none, some (.inl v1), none, some (.inl v3)] [] s) : ∀ n : Nat, ∀ (k0 : Nat) (v1 : Int32) (v2 : Int32) (v3 : Int32) (v4 : Int32) (s : Mem) (o : Int32 × Mem), f_M_boats_40 K80 n k0 v1 v2 v3 v4 s = some o → BSnd X 2 322 (ovI o) 40 [some (.inr (.inr (12, k0))), some (.inl v1), some (.inl v2), some (.inl v3), some (.inl v4)] [] s := by
  intro n
  induction n with
  | zero => intro k0 v1 v2 v3 v4 s o h; cases h
  | succ n ih =>
    intro k0 v1 v2 v3 v4 s o h
    exact evC (chs := c_M_boats) (cuts := cu_M_boats) (G := fun pc ls st σ => if pc = 40 then hd_M_boats_40 (fun k0 v1 v2 v3 v4 s => f_M_boats_40 K80 n k0 v1 v2 v3 v4 s) ls st σ else if pc = 80 then hd_M_boats_80 (fun v1 v3 s => K80 v1 v3 s) ls st σ else none) hX.2.1 hX.2.2 (F := F_M_boats _) (fs_M_boats hX _) (rt_I rfl) oc_M_boats (by
    intro pc ls st σ o h
    rcases ite_s h with ⟨rfl, h⟩ | ⟨_, h⟩
    · exact hs_M_boats_40 ih _ _ _ _ h
    rcases ite_s h with ⟨rfl, h⟩ | ⟨_, h⟩
    · exact hs_M_boats_80 hK80 _ _ _ _ h
    cases h) 312 40 _ _ _ _ h
set_option maxRecDepth 100000 in
theorem s_M_boats_80 {X : CXT} (hX : XM X) : ∀ (v1 : Int32) (v3 : Int32) (s : Mem) (o : Int32 × Mem), f_M_boats_80 v1 v3 s = some o → BSnd X 2 322 (ovI o) 80 [none, some (.inl v1), none, some (.inl v3)] [] s := by
  intro v1 v3 s o h
  exact evC (chs := c_M_boats) (cuts := cu_M_boats) (G := fun pc ls st σ => none) hX.2.1 hX.2.2 (F := F_M_boats _) (fs_M_boats hX _) (rt_I rfl) oc_M_boats (by
    intro pc ls st σ o h
    cases h) 312 80 _ _ _ _ h
set_option maxRecDepth 100000 in
theorem s_M_boats_35 {X : CXT} (hX : XM X) : ∀ (k0 : Nat) (v1 : Int32) (v2 : Int32) (s : Mem) (o : Int32 × Mem), f_M_boats_35 k0 v1 v2 s = some o → BSnd X 2 322 (ovI o) 35 [some (.inr (.inr (12, k0))), some (.inl v1), some (.inl v2)] [] s := by
  intro k0 v1 v2 s o h
  exact evC (chs := c_M_boats) (cuts := cu_M_boats) (G := fun pc ls st σ => if pc = 40 then hd_M_boats_40 (fun k0 v1 v2 v3 v4 s => f_M_boats_40 (fun v1 v3 s => f_M_boats_80 v1 v3 s) FU k0 v1 v2 v3 v4 s) ls st σ else if pc = 80 then hd_M_boats_80 (fun v1 v3 s => f_M_boats_80 v1 v3 s) ls st σ else none) hX.2.1 hX.2.2 (F := F_M_boats _) (fs_M_boats hX _) (rt_I rfl) oc_M_boats (by
    intro pc ls st σ o h
    rcases ite_s h with ⟨rfl, h⟩ | ⟨_, h⟩
    · exact hs_M_boats_40 (s_M_boats_40 hX (s_M_boats_80 hX) FU) _ _ _ _ h
    rcases ite_s h with ⟨rfl, h⟩ | ⟨_, h⟩
    · exact hs_M_boats_80 (s_M_boats_80 hX) _ _ _ _ h
    cases h) 312 35 _ _ _ _ h
set_option maxRecDepth 100000 in
theorem s_M_boats {X : CXT} (hX : XM X) : ∀ (k0 : Nat) (v1 : Int32) (s : Mem) (o : Int32 × Mem), f_M_boats k0 v1 s = some o → BSnd X 2 322 (ovI o) 0 (entL [.inr (.inr (12, k0)), .inl v1]) [] s := by
  intro k0 v1 s o h
  rw [f_M_boats_eq] at h
  exact evC (chs := c_M_boats) (cuts := cu_M_boats) (G := fun pc ls st σ => if pc = 14 then hd_M_boats_14 (fun k0 v1 v2 s => f_M_boats_14 (fun k0 v1 v2 s => f_M_boats_35 k0 v1 v2 s) FU k0 v1 v2 s) ls st σ else if pc = 35 then hd_M_boats_35 (fun k0 v1 v2 s => f_M_boats_35 k0 v1 v2 s) ls st σ else none) hX.2.1 hX.2.2 (F := F_M_boats _) (fs_M_boats hX _) (rt_I rfl) oc_M_boats (by
    intro pc ls st σ o h
    rcases ite_s h with ⟨rfl, h⟩ | ⟨_, h⟩
    · exact hs_M_boats_14 (s_M_boats_14 hX (s_M_boats_35 hX) FU) _ _ _ _ h
    rcases ite_s h with ⟨rfl, h⟩ | ⟨_, h⟩
    · exact hs_M_boats_35 (s_M_boats_35 hX) _ _ _ _ h
    cases h) 312 0 _ _ _ _ h
theorem ok_M_boats {X : CXT} (hX : XM X) : SemOK X 2 322 sm_M_boats := by
  intro O av σ K o h
  unfold sm_M_boats at h
  split at h
  · obtain ⟨r, hf, h⟩ := Option.bind_eq_some_iff.mp h
    exact ⟨ovI r, fun ht => sp_of hX.1 (by decide) (List.mem_range.mpr (by decide)) (by decide +kernel) ht (Nat.le_of_ble_eq_true rfl) (s_M_boats hX _ _ _ _ hf), trivial, h⟩
  · cases h
noncomputable def b_M_talk (k0 : Nat) (v1 : Int32) (v2 : Int32) (v3 : Int32) (s : Mem) : Option (Int32 × Mem) :=
  cif (v3 = ((-1 : Int32))) (
    gd (inb ((58 : Int32)) (lenM (k0 + 1))) <|
    let s1 : Mem := wI s (k0 + 1) (ix ((58 : Int32))) ((0 : Int32))
    some ((0 : Int32), s1)) (
    (f_M_isIn v1 ((0 : Int32)) ((9 : Int32)) s).bind fun r2 =>
    cif ((b2i r2.1) = 0) (
      some ((-1 : Int32), r2.2)) (
      (f_M_isIn v2 ((0 : Int32)) ((9 : Int32)) r2.2).bind fun r3 =>
      cif ((b2i r3.1) = 0) (
        some ((-1 : Int32), r3.2)) (
        (f_M_isMile v3 r3.2).bind fun r4 =>
        cif ((b2i r4.1) = 0) (
          some ((-1 : Int32), r4.2)) (
          gd (inb ((58 : Int32)) (lenM (k0 + 1))) <|
          cif ((rI r4.2 (k0 + 1) (ix ((58 : Int32)))) = ((16 : Int32))) (
            some ((-1 : Int32), r4.2)) (
            gd (inb ((58 : Int32)) (lenM (k0 + 1))) <|
            let x5 : Int32 := ((240 : Int32)) + (((3 : Int32)) * (rI r4.2 (k0 + 1) (ix ((58 : Int32)))))
            gd (inb x5 (lenM (k0 + 1))) <|
            let s6 : Mem := wI r4.2 (k0 + 1) (ix x5) v1
            gd (inb (x5 + ((1 : Int32))) (lenM (k0 + 1))) <|
            let s7 : Mem := wI s6 (k0 + 1) (ix (x5 + ((1 : Int32)))) v2
            gd (inb (x5 + ((2 : Int32))) (lenM (k0 + 1))) <|
            let s8 : Mem := wI s7 (k0 + 1) (ix (x5 + ((2 : Int32)))) v3
            gd (inb ((58 : Int32)) (lenM (k0 + 1))) <|
            gd (inb ((58 : Int32)) (lenM (k0 + 1))) <|
            let s9 : Mem := wI s8 (k0 + 1) (ix ((58 : Int32))) ((rI s8 (k0 + 1) (ix ((58 : Int32)))) + ((1 : Int32)))
            gd (inb ((58 : Int32)) (lenM (k0 + 1))) <|
            some (rI s9 (k0 + 1) (ix ((58 : Int32))), s9))))))
noncomputable def f_M_talk : Nat → Int32 → Int32 → Int32 → Mem → Option (Int32 × Mem) := Classical.choose (⟨b_M_talk, rfl⟩ : ∃ f : Nat → Int32 → Int32 → Int32 → Mem → Option (Int32 × Mem), f = b_M_talk)
theorem f_M_talk_eq : f_M_talk = b_M_talk := Classical.choose_spec (⟨b_M_talk, rfl⟩ : ∃ f : Nat → Int32 → Int32 → Int32 → Mem → Option (Int32 × Mem), f = b_M_talk)
noncomputable def sm_M_talk (O : Type) (av : List AV) (σ : Mem) (K : AV → Mem → Option O) : Option O := match av with
  | [.inr (.inr (12, k0)), .inl v1, .inl v2, .inl v3] => (f_M_talk k0 v1 v2 v3 σ).bind fun r => K (.inl r.1) r.2
  | _ => none
def c_M_talk : List (List CE) := [[(0, .iload_n 3, 1, 0, 0, 0), (1, .iconst (-1), 1, 1, 0, 1), (2, .if_icmp .ne 13, 3, 15, 0, 0), (5, .aload_n 0, 1, 0, 0, 0), (6, .getfield 7, 3, 12, 0, 0), (9, .bipush 58, 2, 58, 0, 0), (11, .iconst 0, 1, 0, 0, 0), (12, .iastore, 1, 0, 0, 0), (13, .iconst 0, 1, 0, 0, 0), (14, .ireturn, 1, 0, 0, 0), (15, .iload_n 1, 1, 0, 0, 0)], [(16, .iconst 0, 1, 0, 0, 0), (17, .bipush 9, 2, 9, 0, 0), (19, .invokestatic 60, 3, 230, 3, 1), (22, .ifCond .eq 32, 3, 54, 0, 0), (25, .iload_n 2, 1, 0, 0, 0), (26, .iconst 0, 1, 0, 0, 0), (27, .bipush 9, 2, 9, 0, 0), (29, .invokestatic 60, 3, 230, 3, 1)], [(32, .ifCond .eq 22, 3, 54, 0, 0), (35, .iload_n 3, 1, 0, 0, 0), (36, .invokestatic 373, 3, 307, 1, 1), (39, .ifCond .eq 15, 3, 54, 0, 0), (42, .aload_n 0, 1, 0, 0, 0), (43, .getfield 7, 3, 12, 0, 0), (46, .bipush 58, 2, 58, 0, 0)], [(48, .iaload, 1, 0, 0, 0), (49, .bipush 16, 2, 16, 0, 0), (51, .if_icmp .ne 5, 3, 56, 0, 0), (54, .iconst (-1), 1, 1, 0, 1), (55, .ireturn, 1, 0, 0, 0), (56, .sipush 240, 3, 240, 0, 0), (59, .iconst 3, 1, 3, 0, 0), (60, .aload_n 0, 1, 0, 0, 0), (61, .getfield 7, 3, 12, 0, 0)], [(64, .bipush 58, 2, 58, 0, 0), (66, .iaload, 1, 0, 0, 0), (67, .imul, 1, 0, 0, 0), (68, .iadd, 1, 0, 0, 0), (69, .istore 4, 2, 0, 0, 0), (71, .aload_n 0, 1, 0, 0, 0), (72, .getfield 7, 3, 12, 0, 0), (75, .iload 4, 2, 0, 0, 0), (77, .iload_n 1, 1, 0, 0, 0), (78, .iastore, 1, 0, 0, 0), (79, .aload_n 0, 1, 0, 0, 0)], [(80, .getfield 7, 3, 12, 0, 0), (83, .iload 4, 2, 0, 0, 0), (85, .iconst 1, 1, 1, 0, 0), (86, .iadd, 1, 0, 0, 0), (87, .iload_n 2, 1, 0, 0, 0), (88, .iastore, 1, 0, 0, 0), (89, .aload_n 0, 1, 0, 0, 0), (90, .getfield 7, 3, 12, 0, 0), (93, .iload 4, 2, 0, 0, 0), (95, .iconst 2, 1, 2, 0, 0)], [(96, .iadd, 1, 0, 0, 0), (97, .iload_n 3, 1, 0, 0, 0), (98, .iastore, 1, 0, 0, 0), (99, .aload_n 0, 1, 0, 0, 0), (100, .getfield 7, 3, 12, 0, 0), (103, .bipush 58, 2, 58, 0, 0), (105, .dup2, 1, 0, 0, 0), (106, .iaload, 1, 0, 0, 0), (107, .iconst 1, 1, 1, 0, 0), (108, .iadd, 1, 0, 0, 0), (109, .iastore, 1, 0, 0, 0), (110, .aload_n 0, 1, 0, 0, 0), (111, .getfield 7, 3, 12, 0, 0)], [(114, .bipush 58, 2, 58, 0, 0), (116, .iaload, 1, 0, 0, 0), (117, .ireturn, 1, 0, 0, 0)]]
set_option maxRecDepth 100000 in
theorem oc_M_talk : okC 323 c_M_talk = true := by decide +kernel
def cu_M_talk : List (Nat × List Bool) := []
noncomputable def F_M_talk (O : Type) (a : Nat) (av : List AV) (σ : Mem) (K : AV → Mem → Option O) : Option O := if a = 230 then sm_M_isIn O av σ K else if a = 307 then sm_M_isMile O av σ K else none
theorem fs_M_talk {X : CXT} (hX : XM X) (O : Type) : FS X 3 (F_M_talk O) := by
  intro a av σ K o h
  unfold F_M_talk at h
  rcases ite_s h with ⟨rfl, h⟩ | ⟨_, h⟩
  · obtain ⟨r, h1, h2, h3⟩ := ok_M_isIn hX _ _ _ _ _ h
    exact ⟨r, fun ht => ⟨1, by decide, h1 ht⟩, h2, h3⟩
  rcases ite_s h with ⟨rfl, h⟩ | ⟨_, h⟩
  · obtain ⟨r, h1, h2, h3⟩ := ok_M_isMile hX _ _ _ _ _ h
    exact ⟨r, fun ht => ⟨2, by decide, h1 ht⟩, h2, h3⟩
  cases h
set_option maxRecDepth 100000 in
theorem s_M_talk {X : CXT} (hX : XM X) : ∀ (k0 : Nat) (v1 : Int32) (v2 : Int32) (v3 : Int32) (s : Mem) (o : Int32 × Mem), f_M_talk k0 v1 v2 v3 s = some o → BSnd X 3 323 (ovI o) 0 (entL [.inr (.inr (12, k0)), .inl v1, .inl v2, .inl v3]) [] s := by
  intro k0 v1 v2 v3 s o h
  rw [f_M_talk_eq] at h
  exact evC (chs := c_M_talk) (cuts := cu_M_talk) (G := fun pc ls st σ => none) hX.2.1 hX.2.2 (F := F_M_talk _) (fs_M_talk hX _) (rt_I rfl) oc_M_talk (by
    intro pc ls st σ o h
    cases h) 328 0 _ _ _ _ h
theorem ok_M_talk {X : CXT} (hX : XM X) : SemOK X 3 323 sm_M_talk := by
  intro O av σ K o h
  unfold sm_M_talk at h
  split at h
  · obtain ⟨r, hf, h⟩ := Option.bind_eq_some_iff.mp h
    exact ⟨ovI r, fun ht => sp_of hX.1 (by decide) (List.mem_range.mpr (by decide)) (by decide +kernel) ht (Nat.le_of_ble_eq_true rfl) (s_M_talk hX _ _ _ _ _ _ hf), trivial, h⟩
  · cases h
noncomputable def f_M_saidAs_5 : Nat → Nat → Int32 → Int32 → Int32 → Mem → Option (Int32 × Mem)
  | 0, _, _, _, _, _ => none
  | n + 1, k0, v2, v3, v4, s =>
    gd (inb ((58 : Int32)) (lenM (k0 + 1))) <|
    cif ((rI s (k0 + 1) (ix ((58 : Int32)))) ≤ v4) (
      some (v3, s)) (
      gd (inb ((((240 : Int32)) + (((3 : Int32)) * v4)) + ((2 : Int32))) (lenM (k0 + 1))) <|
      cif (v2 < (rI s (k0 + 1) (ix ((((240 : Int32)) + (((3 : Int32)) * v4)) + ((2 : Int32)))))) (
        f_M_saidAs_5 n k0 v2 v3 (v4 + (1 : Int32)) s) (
        gd (inb (((240 : Int32)) + (((3 : Int32)) * v4)) (lenM (k0 + 1))) <|
        cif ((rI s (k0 + 1) (ix (((240 : Int32)) + (((3 : Int32)) * v4)))) = v3) (
          gd (inb ((((240 : Int32)) + (((3 : Int32)) * v4)) + ((1 : Int32))) (lenM (k0 + 1))) <|
          let x1 : Int32 := rI s (k0 + 1) (ix ((((240 : Int32)) + (((3 : Int32)) * v4)) + ((1 : Int32))))
          f_M_saidAs_5 n k0 v2 x1 (v4 + (1 : Int32)) s) (
          f_M_saidAs_5 n k0 v2 v3 (v4 + (1 : Int32)) s)))
noncomputable def b_M_saidAs (k0 : Nat) (v1 : Int32) (v2 : Int32) (s : Mem) : Option (Int32 × Mem) :=
  f_M_saidAs_5 FU k0 v2 v1 ((0 : Int32)) s
noncomputable def f_M_saidAs : Nat → Int32 → Int32 → Mem → Option (Int32 × Mem) := Classical.choose (⟨b_M_saidAs, rfl⟩ : ∃ f : Nat → Int32 → Int32 → Mem → Option (Int32 × Mem), f = b_M_saidAs)
theorem f_M_saidAs_eq : f_M_saidAs = b_M_saidAs := Classical.choose_spec (⟨b_M_saidAs, rfl⟩ : ∃ f : Nat → Int32 → Int32 → Mem → Option (Int32 × Mem), f = b_M_saidAs)
noncomputable def sm_M_saidAs (O : Type) (av : List AV) (σ : Mem) (K : AV → Mem → Option O) : Option O := match av with
  | [.inr (.inr (12, k0)), .inl v1, .inl v2] => (f_M_saidAs k0 v1 v2 σ).bind fun r => K (.inl r.1) r.2
  | _ => none
def c_M_saidAs : List (List CE) := [[(0, .iload_n 1, 1, 0, 0, 0), (1, .istore_n 3, 1, 0, 0, 0), (2, .iconst 0, 1, 0, 0, 0), (3, .istore 4, 2, 0, 0, 0), (5, .iload 4, 2, 0, 0, 0), (7, .aload_n 0, 1, 0, 0, 0), (8, .getfield 7, 3, 12, 0, 0), (11, .bipush 58, 2, 58, 0, 0), (13, .iaload, 1, 0, 0, 0), (14, .if_icmp .ge 61, 3, 75, 0, 0)], [(17, .aload_n 0, 1, 0, 0, 0), (18, .getfield 7, 3, 12, 0, 0), (21, .sipush 240, 3, 240, 0, 0), (24, .iconst 3, 1, 3, 0, 0), (25, .iload 4, 2, 0, 0, 0), (27, .imul, 1, 0, 0, 0), (28, .iadd, 1, 0, 0, 0), (29, .iconst 2, 1, 2, 0, 0), (30, .iadd, 1, 0, 0, 0), (31, .iaload, 1, 0, 0, 0)], [(32, .iload_n 2, 1, 0, 0, 0), (33, .if_icmp .gt 36, 3, 69, 0, 0), (36, .aload_n 0, 1, 0, 0, 0), (37, .getfield 7, 3, 12, 0, 0), (40, .sipush 240, 3, 240, 0, 0), (43, .iconst 3, 1, 3, 0, 0), (44, .iload 4, 2, 0, 0, 0), (46, .imul, 1, 0, 0, 0), (47, .iadd, 1, 0, 0, 0)], [(48, .iaload, 1, 0, 0, 0), (49, .iload_n 3, 1, 0, 0, 0), (50, .if_icmp .ne 19, 3, 69, 0, 0), (53, .aload_n 0, 1, 0, 0, 0), (54, .getfield 7, 3, 12, 0, 0), (57, .sipush 240, 3, 240, 0, 0), (60, .iconst 3, 1, 3, 0, 0), (61, .iload 4, 2, 0, 0, 0), (63, .imul, 1, 0, 0, 0)], [(64, .iadd, 1, 0, 0, 0), (65, .iconst 1, 1, 1, 0, 0), (66, .iadd, 1, 0, 0, 0), (67, .iaload, 1, 0, 0, 0), (68, .istore_n 3, 1, 0, 0, 0), (69, .iinc 4 1, 3, 1, 0, 0), (72, .goto (-67), 3, 5, 0, 0), (75, .iload_n 3, 1, 0, 0, 0), (76, .ireturn, 1, 0, 0, 0)]]
set_option maxRecDepth 100000 in
theorem oc_M_saidAs : okC 325 c_M_saidAs = true := by decide +kernel
def cu_M_saidAs : List (Nat × List Bool) := [(5, [true, false, true, true, true])]
noncomputable def F_M_saidAs (O : Type) (a : Nat) (av : List AV) (σ : Mem) (K : AV → Mem → Option O) : Option O := none
theorem fs_M_saidAs {X : CXT} (hX : XM X) (O : Type) : FS X 1 (F_M_saidAs O) := by
  intro a av σ K o h
  cases h
def hd_M_saidAs_5 {O : Type} (g : Nat → Int32 → Int32 → Int32 → Mem → Option O) (ls : OL) (st : List AV) (σ : Mem) : Option O := match ls, st with
  | [some (.inr (.inr (12, k0))), none, some (.inl v2), some (.inl v3), some (.inl v4)], [] => g k0 v2 v3 v4 σ
  | _, _ => none
theorem hs_M_saidAs_5 {X : CXT} {g : Nat → Int32 → Int32 → Int32 → Mem → Option (Int32 × Mem)} (hg : ∀ (k0 : Nat) (v2 : Int32) (v3 : Int32) (v4 : Int32) (s : Mem) (o : Int32 × Mem), g k0 v2 v3 v4 s = some o → BSnd X 1 325 (ovI o) 5 [some (.inr (.inr (12, k0))), none, some (.inl v2), some (.inl v3), some (.inl v4)] [] s) : ∀ ls st σ o, hd_M_saidAs_5 g ls st σ = some o → BSnd X 1 325 (ovI o) 5 ls st σ := by
  intro ls st σ o h
  unfold hd_M_saidAs_5 at h
  split at h
  · exact hg _ _ _ _ _ _ h
  · cases h
set_option maxRecDepth 100000 in
theorem s_M_saidAs_5 {X : CXT} (hX : XM X) : ∀ n : Nat, ∀ (k0 : Nat) (v2 : Int32) (v3 : Int32) (v4 : Int32) (s : Mem) (o : Int32 × Mem), f_M_saidAs_5 n k0 v2 v3 v4 s = some o → BSnd X 1 325 (ovI o) 5 [some (.inr (.inr (12, k0))), none, some (.inl v2), some (.inl v3), some (.inl v4)] [] s := by
  intro n
  induction n with
  | zero => intro k0 v2 v3 v4 s o h; cases h
  | succ n ih =>
    intro k0 v2 v3 v4 s o h
    exact evC (chs := c_M_saidAs) (cuts := cu_M_saidAs) (G := fun pc ls st σ => if pc = 5 then hd_M_saidAs_5 (fun k0 v2 v3 v4 s => f_M_saidAs_5 n k0 v2 v3 v4 s) ls st σ else none) hX.2.1 hX.2.2 (F := F_M_saidAs _) (fs_M_saidAs hX _) (rt_I rfl) oc_M_saidAs (by
    intro pc ls st σ o h
    rcases ite_s h with ⟨rfl, h⟩ | ⟨_, h⟩
    · exact hs_M_saidAs_5 ih _ _ _ _ h
    cases h) 228 5 _ _ _ _ h
set_option maxRecDepth 100000 in
theorem s_M_saidAs {X : CXT} (hX : XM X) : ∀ (k0 : Nat) (v1 : Int32) (v2 : Int32) (s : Mem) (o : Int32 × Mem), f_M_saidAs k0 v1 v2 s = some o → BSnd X 1 325 (ovI o) 0 (entL [.inr (.inr (12, k0)), .inl v1, .inl v2]) [] s := by
  intro k0 v1 v2 s o h
  rw [f_M_saidAs_eq] at h
  exact evC (chs := c_M_saidAs) (cuts := cu_M_saidAs) (G := fun pc ls st σ => if pc = 5 then hd_M_saidAs_5 (fun k0 v2 v3 v4 s => f_M_saidAs_5 FU k0 v2 v3 v4 s) ls st σ else none) hX.2.1 hX.2.2 (F := F_M_saidAs _) (fs_M_saidAs hX _) (rt_I rfl) oc_M_saidAs (by
    intro pc ls st σ o h
    rcases ite_s h with ⟨rfl, h⟩ | ⟨_, h⟩
    · exact hs_M_saidAs_5 (s_M_saidAs_5 hX FU) _ _ _ _ h
    cases h) 228 0 _ _ _ _ h
theorem ok_M_saidAs {X : CXT} (hX : XM X) : SemOK X 1 325 sm_M_saidAs := by
  intro O av σ K o h
  unfold sm_M_saidAs at h
  split at h
  · obtain ⟨r, hf, h⟩ := Option.bind_eq_some_iff.mp h
    exact ⟨ovI r, fun ht => sp_of hX.1 (by decide) (List.mem_range.mpr (by decide)) (by decide +kernel) ht (Nat.le_of_ble_eq_true rfl) (s_M_saidAs hX _ _ _ _ _ hf), trivial, h⟩
  · cases h
noncomputable def f_M_said_49 : Nat → Nat → Int32 → Int32 → Int32 → Int32 → Mem → Option (Int32 × Mem)
  | 0, _, _, _, _, _, _ => none
  | n + 1, k0, v2, v3, v4, v5, s =>
    cif (((10 : Int32)) ≤ v5) (
      some (v4, s)) (
      (f_M_saidAs k0 v5 v2 s).bind fun r1 =>
      (f_M_saidAs k0 v5 v3 r1.2).bind fun r2 =>
      cif (r1.1 = r2.1) (
        let x3 : Int32 := v4 + ((0 : Int32))
        f_M_said_49 n k0 v2 v3 x3 (v5 + (1 : Int32)) r2.2) (
        let x4 : Int32 := v4 + ((1 : Int32))
        f_M_said_49 n k0 v2 v3 x4 (v5 + (1 : Int32)) r2.2))
noncomputable def b_M_said (k0 : Nat) (v1 : Int32) (v2 : Int32) (v3 : Int32) (s : Mem) : Option (Int32 × Mem) :=
  (f_M_isIn v1 ((-1 : Int32)) ((9 : Int32)) s).bind fun r1 =>
  cif ((b2i r1.1) = 0) (
    some ((-1 : Int32), r1.2)) (
    (f_M_isMile v2 r1.2).bind fun r2 =>
    cif ((b2i r2.1) = 0) (
      some ((-1 : Int32), r2.2)) (
      cif (v1 = ((-1 : Int32))) (
        (f_M_isMile v3 r2.2).bind fun r3 =>
        cif ((b2i r3.1) = 0) (
          some ((-1 : Int32), r3.2)) (
          cif (v1 = ((-1 : Int32))) (
            f_M_said_49 FU k0 v2 v3 ((0 : Int32)) ((0 : Int32)) r3.2) (
            (f_M_saidAs k0 v1 v2 r3.2).bind fun r4 =>
            some (r4.1, r4.2)))) (
        cif (v1 = ((-1 : Int32))) (
          f_M_said_49 FU k0 v2 v3 ((0 : Int32)) ((0 : Int32)) r2.2) (
          (f_M_saidAs k0 v1 v2 r2.2).bind fun r5 =>
          some (r5.1, r5.2)))))
noncomputable def f_M_said : Nat → Int32 → Int32 → Int32 → Mem → Option (Int32 × Mem) := Classical.choose (⟨b_M_said, rfl⟩ : ∃ f : Nat → Int32 → Int32 → Int32 → Mem → Option (Int32 × Mem), f = b_M_said)
theorem f_M_said_eq : f_M_said = b_M_said := Classical.choose_spec (⟨b_M_said, rfl⟩ : ∃ f : Nat → Int32 → Int32 → Int32 → Mem → Option (Int32 × Mem), f = b_M_said)
noncomputable def sm_M_said (O : Type) (av : List AV) (σ : Mem) (K : AV → Mem → Option O) : Option O := match av with
  | [.inr (.inr (12, k0)), .inl v1, .inl v2, .inl v3] => (f_M_said k0 v1 v2 v3 σ).bind fun r => K (.inl r.1) r.2
  | _ => none
def c_M_said : List (List CE) := [[(0, .iload_n 1, 1, 0, 0, 0), (1, .iconst (-1), 1, 1, 0, 1), (2, .bipush 9, 2, 9, 0, 0), (4, .invokestatic 60, 3, 230, 3, 1), (7, .ifCond .eq 22, 3, 29, 0, 0), (10, .iload_n 2, 1, 0, 0, 0), (11, .invokestatic 373, 3, 307, 1, 1), (14, .ifCond .eq 15, 3, 29, 0, 0)], [(17, .iload_n 1, 1, 0, 0, 0), (18, .iconst (-1), 1, 1, 0, 1), (19, .if_icmp .ne 12, 3, 31, 0, 0), (22, .iload_n 3, 1, 0, 0, 0), (23, .invokestatic 373, 3, 307, 1, 1), (26, .ifCond .ne 5, 3, 31, 0, 0), (29, .iconst (-1), 1, 1, 0, 1), (30, .ireturn, 1, 0, 0, 0), (31, .iload_n 1, 1, 0, 0, 0)], [(32, .iconst (-1), 1, 1, 0, 1), (33, .if_icmp .eq 10, 3, 43, 0, 0), (36, .aload_n 0, 1, 0, 0, 0), (37, .iload_n 1, 1, 0, 0, 0), (38, .iload_n 2, 1, 0, 0, 0), (39, .invokevirtual 397, 3, 325, 3, 25), (42, .ireturn, 1, 0, 0, 0), (43, .iconst 0, 1, 0, 0, 0), (44, .istore 4, 2, 0, 0, 0), (46, .iconst 0, 1, 0, 0, 0), (47, .istore 5, 2, 0, 0, 0)], [(49, .iload 5, 2, 0, 0, 0), (51, .bipush 10, 2, 10, 0, 0), (53, .if_icmp .ge 36, 3, 89, 0, 0), (56, .iload 4, 2, 0, 0, 0), (58, .aload_n 0, 1, 0, 0, 0), (59, .iload 5, 2, 0, 0, 0), (61, .iload_n 2, 1, 0, 0, 0), (62, .invokevirtual 397, 3, 325, 3, 25)], [(65, .aload_n 0, 1, 0, 0, 0), (66, .iload 5, 2, 0, 0, 0), (68, .iload_n 3, 1, 0, 0, 0), (69, .invokevirtual 397, 3, 325, 3, 25), (72, .if_icmp .ne 7, 3, 79, 0, 0), (75, .iconst 0, 1, 0, 0, 0), (76, .goto 4, 3, 80, 0, 0), (79, .iconst 1, 1, 1, 0, 0)], [(80, .iadd, 1, 0, 0, 0), (81, .istore 4, 2, 0, 0, 0), (83, .iinc 5 1, 3, 1, 0, 0), (86, .goto (-37), 3, 49, 0, 0), (89, .iload 4, 2, 0, 0, 0), (91, .ireturn, 1, 0, 0, 0)]]
set_option maxRecDepth 100000 in
theorem oc_M_said : okC 324 c_M_said = true := by decide +kernel
def cu_M_said : List (Nat × List Bool) := [(49, [true, false, true, true, true, true])]
noncomputable def F_M_said (O : Type) (a : Nat) (av : List AV) (σ : Mem) (K : AV → Mem → Option O) : Option O := if a = 230 then sm_M_isIn O av σ K else if a = 307 then sm_M_isMile O av σ K else if a = 325 then sm_M_saidAs O av σ K else none
theorem fs_M_said {X : CXT} (hX : XM X) (O : Type) : FS X 3 (F_M_said O) := by
  intro a av σ K o h
  unfold F_M_said at h
  rcases ite_s h with ⟨rfl, h⟩ | ⟨_, h⟩
  · obtain ⟨r, h1, h2, h3⟩ := ok_M_isIn hX _ _ _ _ _ h
    exact ⟨r, fun ht => ⟨1, by decide, h1 ht⟩, h2, h3⟩
  rcases ite_s h with ⟨rfl, h⟩ | ⟨_, h⟩
  · obtain ⟨r, h1, h2, h3⟩ := ok_M_isMile hX _ _ _ _ _ h
    exact ⟨r, fun ht => ⟨2, by decide, h1 ht⟩, h2, h3⟩
  rcases ite_s h with ⟨rfl, h⟩ | ⟨_, h⟩
  · obtain ⟨r, h1, h2, h3⟩ := ok_M_saidAs hX _ _ _ _ _ h
    exact ⟨r, fun ht => ⟨1, by decide, h1 ht⟩, h2, h3⟩
  cases h
def hd_M_said_49 {O : Type} (g : Nat → Int32 → Int32 → Int32 → Int32 → Mem → Option O) (ls : OL) (st : List AV) (σ : Mem) : Option O := match ls, st with
  | [some (.inr (.inr (12, k0))), none, some (.inl v2), some (.inl v3), some (.inl v4), some (.inl v5)], [] => g k0 v2 v3 v4 v5 σ
  | _, _ => none
theorem hs_M_said_49 {X : CXT} {g : Nat → Int32 → Int32 → Int32 → Int32 → Mem → Option (Int32 × Mem)} (hg : ∀ (k0 : Nat) (v2 : Int32) (v3 : Int32) (v4 : Int32) (v5 : Int32) (s : Mem) (o : Int32 × Mem), g k0 v2 v3 v4 v5 s = some o → BSnd X 3 324 (ovI o) 49 [some (.inr (.inr (12, k0))), none, some (.inl v2), some (.inl v3), some (.inl v4), some (.inl v5)] [] s) : ∀ ls st σ o, hd_M_said_49 g ls st σ = some o → BSnd X 3 324 (ovI o) 49 ls st σ := by
  intro ls st σ o h
  unfold hd_M_said_49 at h
  split at h
  · exact hg _ _ _ _ _ _ _ h
  · cases h
set_option maxRecDepth 100000 in
theorem s_M_said_49 {X : CXT} (hX : XM X) : ∀ n : Nat, ∀ (k0 : Nat) (v2 : Int32) (v3 : Int32) (v4 : Int32) (v5 : Int32) (s : Mem) (o : Int32 × Mem), f_M_said_49 n k0 v2 v3 v4 v5 s = some o → BSnd X 3 324 (ovI o) 49 [some (.inr (.inr (12, k0))), none, some (.inl v2), some (.inl v3), some (.inl v4), some (.inl v5)] [] s := by
  intro n
  induction n with
  | zero => intro k0 v2 v3 v4 v5 s o h; cases h
  | succ n ih =>
    intro k0 v2 v3 v4 v5 s o h
    exact evC (chs := c_M_said) (cuts := cu_M_said) (G := fun pc ls st σ => if pc = 49 then hd_M_said_49 (fun k0 v2 v3 v4 v5 s => f_M_said_49 n k0 v2 v3 v4 v5 s) ls st σ else none) hX.2.1 hX.2.2 (F := F_M_said _) (fs_M_said hX _) (rt_I rfl) oc_M_said (by
    intro pc ls st σ o h
    rcases ite_s h with ⟨rfl, h⟩ | ⟨_, h⟩
    · exact hs_M_said_49 ih _ _ _ _ h
    cases h) 240 49 _ _ _ _ h
set_option maxRecDepth 100000 in
theorem s_M_said {X : CXT} (hX : XM X) : ∀ (k0 : Nat) (v1 : Int32) (v2 : Int32) (v3 : Int32) (s : Mem) (o : Int32 × Mem), f_M_said k0 v1 v2 v3 s = some o → BSnd X 3 324 (ovI o) 0 (entL [.inr (.inr (12, k0)), .inl v1, .inl v2, .inl v3]) [] s := by
  intro k0 v1 v2 v3 s o h
  rw [f_M_said_eq] at h
  exact evC (chs := c_M_said) (cuts := cu_M_said) (G := fun pc ls st σ => if pc = 49 then hd_M_said_49 (fun k0 v2 v3 v4 v5 s => f_M_said_49 FU k0 v2 v3 v4 v5 s) ls st σ else none) hX.2.1 hX.2.2 (F := F_M_said _) (fs_M_said hX _) (rt_I rfl) oc_M_said (by
    intro pc ls st σ o h
    rcases ite_s h with ⟨rfl, h⟩ | ⟨_, h⟩
    · exact hs_M_said_49 (s_M_said_49 hX FU) _ _ _ _ h
    cases h) 240 0 _ _ _ _ h
theorem ok_M_said {X : CXT} (hX : XM X) : SemOK X 3 324 sm_M_said := by
  intro O av σ K o h
  unfold sm_M_said at h
  split at h
  · obtain ⟨r, hf, h⟩ := Option.bind_eq_some_iff.mp h
    exact ⟨ovI r, fun ht => sp_of hX.1 (by decide) (List.mem_range.mpr (by decide)) (by decide +kernel) ht (Nat.le_of_ble_eq_true rfl) (s_M_said hX _ _ _ _ _ _ hf), trivial, h⟩
  · cases h
noncomputable def b_M_did (k0 : Nat) (v1 : Int32) (v2 : Int32) (s : Mem) : Option (Int32 × Mem) :=
  cif (v1 = ((-1 : Int32))) (
    gd (inb ((59 : Int32)) (lenM (k0 + 1))) <|
    let s1 : Mem := wI s (k0 + 1) (ix ((59 : Int32))) ((0 : Int32))
    some ((0 : Int32), s1)) (
    (f_M_isIn v1 ((0 : Int32)) ((11 : Int32)) s).bind fun r2 =>
    cif ((b2i r2.1) = 0) (
      some ((-1 : Int32), r2.2)) (
      (f_M_isIn v2 ((0 : Int32)) ((200 : Int32)) r2.2).bind fun r3 =>
      cif ((b2i r3.1) = 0) (
        some ((-1 : Int32), r3.2)) (
        gd (inb ((59 : Int32)) (lenM (k0 + 1))) <|
        cif ((rI r3.2 (k0 + 1) (ix ((59 : Int32)))) = ((12 : Int32))) (
          some ((-1 : Int32), r3.2)) (
          gd (inb ((59 : Int32)) (lenM (k0 + 1))) <|
          gd (inb (((288 : Int32)) + (((2 : Int32)) * (rI r3.2 (k0 + 1) (ix ((59 : Int32)))))) (lenM (k0 + 1))) <|
          let s4 : Mem := wI r3.2 (k0 + 1) (ix (((288 : Int32)) + (((2 : Int32)) * (rI r3.2 (k0 + 1) (ix ((59 : Int32))))))) v1
          gd (inb ((59 : Int32)) (lenM (k0 + 1))) <|
          gd (inb ((((288 : Int32)) + (((2 : Int32)) * (rI s4 (k0 + 1) (ix ((59 : Int32)))))) + ((1 : Int32))) (lenM (k0 + 1))) <|
          let s5 : Mem := wI s4 (k0 + 1) (ix ((((288 : Int32)) + (((2 : Int32)) * (rI s4 (k0 + 1) (ix ((59 : Int32)))))) + ((1 : Int32)))) v2
          gd (inb ((59 : Int32)) (lenM (k0 + 1))) <|
          gd (inb ((59 : Int32)) (lenM (k0 + 1))) <|
          let s6 : Mem := wI s5 (k0 + 1) (ix ((59 : Int32))) ((rI s5 (k0 + 1) (ix ((59 : Int32)))) + ((1 : Int32)))
          gd (inb ((59 : Int32)) (lenM (k0 + 1))) <|
          some (rI s6 (k0 + 1) (ix ((59 : Int32))), s6)))))
noncomputable def f_M_did : Nat → Int32 → Int32 → Mem → Option (Int32 × Mem) := Classical.choose (⟨b_M_did, rfl⟩ : ∃ f : Nat → Int32 → Int32 → Mem → Option (Int32 × Mem), f = b_M_did)
theorem f_M_did_eq : f_M_did = b_M_did := Classical.choose_spec (⟨b_M_did, rfl⟩ : ∃ f : Nat → Int32 → Int32 → Mem → Option (Int32 × Mem), f = b_M_did)
noncomputable def sm_M_did (O : Type) (av : List AV) (σ : Mem) (K : AV → Mem → Option O) : Option O := match av with
  | [.inr (.inr (12, k0)), .inl v1, .inl v2] => (f_M_did k0 v1 v2 σ).bind fun r => K (.inl r.1) r.2
  | _ => none
def c_M_did : List (List CE) := [[(0, .iload_n 1, 1, 0, 0, 0), (1, .iconst (-1), 1, 1, 0, 1), (2, .if_icmp .ne 13, 3, 15, 0, 0), (5, .aload_n 0, 1, 0, 0, 0), (6, .getfield 7, 3, 12, 0, 0), (9, .bipush 59, 2, 59, 0, 0), (11, .iconst 0, 1, 0, 0, 0), (12, .iastore, 1, 0, 0, 0), (13, .iconst 0, 1, 0, 0, 0), (14, .ireturn, 1, 0, 0, 0), (15, .iload_n 1, 1, 0, 0, 0)], [(16, .iconst 0, 1, 0, 0, 0), (17, .bipush 11, 2, 11, 0, 0), (19, .invokestatic 60, 3, 230, 3, 1), (22, .ifCond .eq 26, 3, 48, 0, 0), (25, .iload_n 2, 1, 0, 0, 0), (26, .iconst 0, 1, 0, 0, 0), (27, .sipush 200, 3, 200, 0, 0), (30, .invokestatic 60, 3, 230, 3, 1)], [(33, .ifCond .eq 15, 3, 48, 0, 0), (36, .aload_n 0, 1, 0, 0, 0), (37, .getfield 7, 3, 12, 0, 0), (40, .bipush 59, 2, 59, 0, 0), (42, .iaload, 1, 0, 0, 0), (43, .bipush 12, 2, 12, 0, 0), (45, .if_icmp .ne 5, 3, 50, 0, 0)], [(48, .iconst (-1), 1, 1, 0, 1), (49, .ireturn, 1, 0, 0, 0), (50, .aload_n 0, 1, 0, 0, 0), (51, .getfield 7, 3, 12, 0, 0), (54, .sipush 288, 3, 288, 0, 0), (57, .iconst 2, 1, 2, 0, 0), (58, .aload_n 0, 1, 0, 0, 0), (59, .getfield 7, 3, 12, 0, 0), (62, .bipush 59, 2, 59, 0, 0)], [(64, .iaload, 1, 0, 0, 0), (65, .imul, 1, 0, 0, 0), (66, .iadd, 1, 0, 0, 0), (67, .iload_n 1, 1, 0, 0, 0), (68, .iastore, 1, 0, 0, 0), (69, .aload_n 0, 1, 0, 0, 0), (70, .getfield 7, 3, 12, 0, 0), (73, .sipush 288, 3, 288, 0, 0), (76, .iconst 2, 1, 2, 0, 0), (77, .aload_n 0, 1, 0, 0, 0), (78, .getfield 7, 3, 12, 0, 0)], [(81, .bipush 59, 2, 59, 0, 0), (83, .iaload, 1, 0, 0, 0), (84, .imul, 1, 0, 0, 0), (85, .iadd, 1, 0, 0, 0), (86, .iconst 1, 1, 1, 0, 0), (87, .iadd, 1, 0, 0, 0), (88, .iload_n 2, 1, 0, 0, 0), (89, .iastore, 1, 0, 0, 0), (90, .aload_n 0, 1, 0, 0, 0), (91, .getfield 7, 3, 12, 0, 0), (94, .bipush 59, 2, 59, 0, 0)], [(96, .dup2, 1, 0, 0, 0), (97, .iaload, 1, 0, 0, 0), (98, .iconst 1, 1, 1, 0, 0), (99, .iadd, 1, 0, 0, 0), (100, .iastore, 1, 0, 0, 0), (101, .aload_n 0, 1, 0, 0, 0), (102, .getfield 7, 3, 12, 0, 0), (105, .bipush 59, 2, 59, 0, 0), (107, .iaload, 1, 0, 0, 0), (108, .ireturn, 1, 0, 0, 0)]]
set_option maxRecDepth 100000 in
theorem oc_M_did : okC 326 c_M_did = true := by decide +kernel
def cu_M_did : List (Nat × List Bool) := []
noncomputable def F_M_did (O : Type) (a : Nat) (av : List AV) (σ : Mem) (K : AV → Mem → Option O) : Option O := if a = 230 then sm_M_isIn O av σ K else none
theorem fs_M_did {X : CXT} (hX : XM X) (O : Type) : FS X 2 (F_M_did O) := by
  intro a av σ K o h
  unfold F_M_did at h
  rcases ite_s h with ⟨rfl, h⟩ | ⟨_, h⟩
  · obtain ⟨r, h1, h2, h3⟩ := ok_M_isIn hX _ _ _ _ _ h
    exact ⟨r, fun ht => ⟨1, by decide, h1 ht⟩, h2, h3⟩
  cases h
set_option maxRecDepth 100000 in
theorem s_M_did {X : CXT} (hX : XM X) : ∀ (k0 : Nat) (v1 : Int32) (v2 : Int32) (s : Mem) (o : Int32 × Mem), f_M_did k0 v1 v2 s = some o → BSnd X 2 326 (ovI o) 0 (entL [.inr (.inr (12, k0)), .inl v1, .inl v2]) [] s := by
  intro k0 v1 v2 s o h
  rw [f_M_did_eq] at h
  exact evC (chs := c_M_did) (cuts := cu_M_did) (G := fun pc ls st σ => none) hX.2.1 hX.2.2 (F := F_M_did _) (fs_M_did hX _) (rt_I rfl) oc_M_did (by
    intro pc ls st σ o h
    cases h) 308 0 _ _ _ _ h
theorem ok_M_did {X : CXT} (hX : XM X) : SemOK X 2 326 sm_M_did := by
  intro O av σ K o h
  unfold sm_M_did at h
  split at h
  · obtain ⟨r, hf, h⟩ := Option.bind_eq_some_iff.mp h
    exact ⟨ovI r, fun ht => sp_of hX.1 (by decide) (List.mem_range.mpr (by decide)) (by decide +kernel) ht (Nat.le_of_ble_eq_true rfl) (s_M_did hX _ _ _ _ _ hf), trivial, h⟩
  · cases h
noncomputable def f_M_canBe_2 : Nat → Nat → Int32 → Int32 → Int32 → Mem → Option (Bool × Mem)
  | 0, _, _, _, _, _ => none
  | n + 1, k0, v1, v2, v3, s =>
    gd (inb ((59 : Int32)) (lenM (k0 + 1))) <|
    cif ((rI s (k0 + 1) (ix ((59 : Int32)))) ≤ v3) (
      some (true, s)) (
      gd (inb (((288 : Int32)) + (((2 : Int32)) * v3)) (lenM (k0 + 1))) <|
      cif ((rI s (k0 + 1) (ix (((288 : Int32)) + (((2 : Int32)) * v3)))) = v1) (
        gd (inb ((((288 : Int32)) + (((2 : Int32)) * v3)) + ((1 : Int32))) (lenM (k0 + 1))) <|
        cif ((rI s (k0 + 1) (ix ((((288 : Int32)) + (((2 : Int32)) * v3)) + ((1 : Int32))))) = v2) (
          f_M_canBe_2 n k0 v1 v2 (v3 + (1 : Int32)) s) (
          some (false, s))) (
        f_M_canBe_2 n k0 v1 v2 (v3 + (1 : Int32)) s))
noncomputable def b_M_canBe (k0 : Nat) (v1 : Int32) (v2 : Int32) (s : Mem) : Option (Bool × Mem) :=
  f_M_canBe_2 FU k0 v1 v2 ((0 : Int32)) s
noncomputable def f_M_canBe : Nat → Int32 → Int32 → Mem → Option (Bool × Mem) := Classical.choose (⟨b_M_canBe, rfl⟩ : ∃ f : Nat → Int32 → Int32 → Mem → Option (Bool × Mem), f = b_M_canBe)
theorem f_M_canBe_eq : f_M_canBe = b_M_canBe := Classical.choose_spec (⟨b_M_canBe, rfl⟩ : ∃ f : Nat → Int32 → Int32 → Mem → Option (Bool × Mem), f = b_M_canBe)
noncomputable def sm_M_canBe (O : Type) (av : List AV) (σ : Mem) (K : AV → Mem → Option O) : Option O := match av with
  | [.inr (.inr (12, k0)), .inl v1, .inl v2] => (f_M_canBe k0 v1 v2 σ).bind fun r => K (.inl (b2i r.1)) r.2
  | _ => none
def c_M_canBe : List (List CE) := [[(0, .iconst 0, 1, 0, 0, 0), (1, .istore_n 3, 1, 0, 0, 0), (2, .iload_n 3, 1, 0, 0, 0), (3, .aload_n 0, 1, 0, 0, 0), (4, .getfield 7, 3, 12, 0, 0), (7, .bipush 59, 2, 59, 0, 0), (9, .iaload, 1, 0, 0, 0), (10, .if_icmp .ge 45, 3, 55, 0, 0), (13, .aload_n 0, 1, 0, 0, 0), (14, .getfield 7, 3, 12, 0, 0)], [(17, .sipush 288, 3, 288, 0, 0), (20, .iconst 2, 1, 2, 0, 0), (21, .iload_n 3, 1, 0, 0, 0), (22, .imul, 1, 0, 0, 0), (23, .iadd, 1, 0, 0, 0), (24, .iaload, 1, 0, 0, 0), (25, .iload_n 1, 1, 0, 0, 0), (26, .if_icmp .ne 23, 3, 49, 0, 0), (29, .aload_n 0, 1, 0, 0, 0), (30, .getfield 7, 3, 12, 0, 0)], [(33, .sipush 288, 3, 288, 0, 0), (36, .iconst 2, 1, 2, 0, 0), (37, .iload_n 3, 1, 0, 0, 0), (38, .imul, 1, 0, 0, 0), (39, .iadd, 1, 0, 0, 0), (40, .iconst 1, 1, 1, 0, 0), (41, .iadd, 1, 0, 0, 0), (42, .iaload, 1, 0, 0, 0), (43, .iload_n 2, 1, 0, 0, 0), (44, .if_icmp .eq 5, 3, 49, 0, 0), (47, .iconst 0, 1, 0, 0, 0)], [(48, .ireturn, 1, 0, 0, 0), (49, .iinc 3 1, 3, 1, 0, 0), (52, .goto (-50), 3, 2, 0, 0), (55, .iconst 1, 1, 1, 0, 0), (56, .ireturn, 1, 0, 0, 0)]]
set_option maxRecDepth 100000 in
theorem oc_M_canBe : okC 329 c_M_canBe = true := by decide +kernel
def cu_M_canBe : List (Nat × List Bool) := [(2, [true, true, true, true])]
noncomputable def F_M_canBe (O : Type) (a : Nat) (av : List AV) (σ : Mem) (K : AV → Mem → Option O) : Option O := none
theorem fs_M_canBe {X : CXT} (hX : XM X) (O : Type) : FS X 1 (F_M_canBe O) := by
  intro a av σ K o h
  cases h
def hd_M_canBe_2 {O : Type} (g : Nat → Int32 → Int32 → Int32 → Mem → Option O) (ls : OL) (st : List AV) (σ : Mem) : Option O := match ls, st with
  | [some (.inr (.inr (12, k0))), some (.inl v1), some (.inl v2), some (.inl v3)], [] => g k0 v1 v2 v3 σ
  | _, _ => none
theorem hs_M_canBe_2 {X : CXT} {g : Nat → Int32 → Int32 → Int32 → Mem → Option (Bool × Mem)} (hg : ∀ (k0 : Nat) (v1 : Int32) (v2 : Int32) (v3 : Int32) (s : Mem) (o : Bool × Mem), g k0 v1 v2 v3 s = some o → BSnd X 1 329 (ovZ o) 2 [some (.inr (.inr (12, k0))), some (.inl v1), some (.inl v2), some (.inl v3)] [] s) : ∀ ls st σ o, hd_M_canBe_2 g ls st σ = some o → BSnd X 1 329 (ovZ o) 2 ls st σ := by
  intro ls st σ o h
  unfold hd_M_canBe_2 at h
  split at h
  · exact hg _ _ _ _ _ _ h
  · cases h
set_option maxRecDepth 100000 in
theorem s_M_canBe_2 {X : CXT} (hX : XM X) : ∀ n : Nat, ∀ (k0 : Nat) (v1 : Int32) (v2 : Int32) (v3 : Int32) (s : Mem) (o : Bool × Mem), f_M_canBe_2 n k0 v1 v2 v3 s = some o → BSnd X 1 329 (ovZ o) 2 [some (.inr (.inr (12, k0))), some (.inl v1), some (.inl v2), some (.inl v3)] [] s := by
  intro n
  induction n with
  | zero => intro k0 v1 v2 v3 s o h; cases h
  | succ n ih =>
    intro k0 v1 v2 v3 s o h
    exact evC (chs := c_M_canBe) (cuts := cu_M_canBe) (G := fun pc ls st σ => if pc = 2 then hd_M_canBe_2 (fun k0 v1 v2 v3 s => f_M_canBe_2 n k0 v1 v2 v3 s) ls st σ else none) hX.2.1 hX.2.2 (F := F_M_canBe _) (fs_M_canBe hX _) (rt_Z rfl) oc_M_canBe (by
    intro pc ls st σ o h
    rcases ite_s h with ⟨rfl, h⟩ | ⟨_, h⟩
    · exact hs_M_canBe_2 ih _ _ _ _ h
    cases h) 184 2 _ _ _ _ h
set_option maxRecDepth 100000 in
theorem s_M_canBe {X : CXT} (hX : XM X) : ∀ (k0 : Nat) (v1 : Int32) (v2 : Int32) (s : Mem) (o : Bool × Mem), f_M_canBe k0 v1 v2 s = some o → BSnd X 1 329 (ovZ o) 0 (entL [.inr (.inr (12, k0)), .inl v1, .inl v2]) [] s := by
  intro k0 v1 v2 s o h
  rw [f_M_canBe_eq] at h
  exact evC (chs := c_M_canBe) (cuts := cu_M_canBe) (G := fun pc ls st σ => if pc = 2 then hd_M_canBe_2 (fun k0 v1 v2 v3 s => f_M_canBe_2 FU k0 v1 v2 v3 s) ls st σ else none) hX.2.1 hX.2.2 (F := F_M_canBe _) (fs_M_canBe hX _) (rt_Z rfl) oc_M_canBe (by
    intro pc ls st σ o h
    rcases ite_s h with ⟨rfl, h⟩ | ⟨_, h⟩
    · exact hs_M_canBe_2 (s_M_canBe_2 hX FU) _ _ _ _ h
    cases h) 184 0 _ _ _ _ h
theorem ok_M_canBe {X : CXT} (hX : XM X) : SemOK X 1 329 sm_M_canBe := by
  intro O av σ K o h
  unfold sm_M_canBe at h
  split at h
  · obtain ⟨r, hf, h⟩ := Option.bind_eq_some_iff.mp h
    exact ⟨ovZ r, fun ht => sp_of hX.1 (by decide) (List.mem_range.mpr (by decide)) (by decide +kernel) ht (Nat.le_of_ble_eq_true rfl) (s_M_canBe hX _ _ _ _ _ hf), trivial, h⟩
  · cases h
noncomputable def f_M_laysWays_24 (KH : Nat → Int32 → Mem → Option (Mem)) (K48 : Nat → Mem → Option (Mem)) (k0 : Nat) (v1 : Int32) (s : Mem) : Option (Mem) :=
  cif (v1 < ((2412 : Int32))) (
    gd (inb v1 (lenM (k0 + 13))) <|
    let s1 : Mem := wJ s (k0 + 13) (ix v1) ((0 : Int64))
    KH k0 (v1 + (1 : Int32)) s1) (
    gd (inb v1 (lenM (k0 + 13))) <|
    let s2 : Mem := wJ s (k0 + 13) (ix v1) ((1 : Int64))
    KH k0 (v1 + (1 : Int32)) s2)
noncomputable def f_M_laysWays_2 (K48 : Nat → Mem → Option (Mem)) : Nat → Nat → Int32 → Mem → Option (Mem)
  | 0, _, _, _ => none
  | n + 1, k0, v1, s =>
    cif (((2613 : Int32)) ≤ v1) (
      K48 k0 s) (
      cif (v1 = 0) (
        gd (inb v1 (lenM (k0 + 12))) <|
        let s1 : Mem := wJ s (k0 + 12) (ix v1) ((1 : Int64))
        f_M_laysWays_24 (fun k0 v1 s => f_M_laysWays_2 K48 n k0 v1 s) K48 k0 v1 s1) (
        gd (inb v1 (lenM (k0 + 12))) <|
        let s2 : Mem := wJ s (k0 + 12) (ix v1) ((0 : Int64))
        f_M_laysWays_24 (fun k0 v1 s => f_M_laysWays_2 K48 n k0 v1 s) K48 k0 v1 s2))
noncomputable def f_M_laysWays_67 (K136 : Nat → Int32 → Int32 → Mem → Option (Mem)) : Nat → Nat → Int32 → Int32 → Int32 → Mem → Option (Mem)
  | 0, _, _, _, _, _ => none
  | n + 1, k0, v1, v2, v3, s =>
    cif (((6 : Int32)) ≤ v3) (
      K136 k0 v1 v2 s) (
      (f_M_lesser ((200 : Int32)) ((v2 + (((3 : Int32)) * v3)) + ((3 : Int32))) s).bind fun r1 =>
      (f_M_canBe k0 v1 r1.1 r1.2).bind fun r2 =>
      cif ((b2i r2.1) = 0) (
        f_M_laysWays_67 K136 n k0 v1 v2 (v3 + (1 : Int32)) r2.2) (
        gd (inb (((((201 : Int32)) * v1) + ((201 : Int32))) + r1.1) (lenM (k0 + 12))) <|
        gd (inb ((((201 : Int32)) * v1) + v2) (lenM (k0 + 12))) <|
        gd (inb (((((201 : Int32)) * v1) + ((201 : Int32))) + r1.1) (lenM (k0 + 12))) <|
        let s3 : Mem := wJ r2.2 (k0 + 12) (ix (((((201 : Int32)) * v1) + ((201 : Int32))) + r1.1)) ((rJ r2.2 (k0 + 12) (ix (((((201 : Int32)) * v1) + ((201 : Int32))) + r1.1))) + (rJ r2.2 (k0 + 12) (ix ((((201 : Int32)) * v1) + v2))))
        f_M_laysWays_67 K136 n k0 v1 v2 (v3 + (1 : Int32)) s3))
noncomputable def f_M_laysWays_136 (KH : Nat → Int32 → Int32 → Mem → Option (Mem)) (K142 : Nat → Int32 → Mem → Option (Mem)) (k0 : Nat) (v1 : Int32) (v2 : Int32) (s : Mem) : Option (Mem) :=
  KH k0 v1 (v2 + (1 : Int32)) s
noncomputable def f_M_laysWays_58 (K142 : Nat → Int32 → Mem → Option (Mem)) : Nat → Nat → Int32 → Int32 → Mem → Option (Mem)
  | 0, _, _, _, _ => none
  | n + 1, k0, v1, v2, s =>
    cif (((200 : Int32)) < v2) (
      K142 k0 v1 s) (
      f_M_laysWays_67 (fun k0 v1 v2 s => f_M_laysWays_136 (fun k0 v1 v2 s => f_M_laysWays_58 K142 n k0 v1 v2 s) K142 k0 v1 v2 s) FU k0 v1 v2 ((0 : Int32)) s)
noncomputable def f_M_laysWays_142 (KH : Nat → Int32 → Mem → Option (Mem)) (K148 : Nat → Mem → Option (Mem)) (k0 : Nat) (v1 : Int32) (s : Mem) : Option (Mem) :=
  KH k0 (v1 + (1 : Int32)) s
noncomputable def f_M_laysWays_50 (K148 : Nat → Mem → Option (Mem)) : Nat → Nat → Int32 → Mem → Option (Mem)
  | 0, _, _, _ => none
  | n + 1, k0, v1, s =>
    cif (((12 : Int32)) ≤ v1) (
      K148 k0 s) (
      f_M_laysWays_58 (fun k0 v1 s => f_M_laysWays_142 (fun k0 v1 s => f_M_laysWays_50 K148 n k0 v1 s) K148 k0 v1 s) FU k0 v1 ((0 : Int32)) s)
noncomputable def f_M_laysWays_166 (K235 : Nat → Int32 → Int32 → Mem → Option (Mem)) : Nat → Nat → Int32 → Int32 → Int32 → Mem → Option (Mem)
  | 0, _, _, _, _, _ => none
  | n + 1, k0, v1, v2, v3, s =>
    cif (((6 : Int32)) ≤ v3) (
      K235 k0 v1 v2 s) (
      (f_M_lesser ((200 : Int32)) ((v2 + (((3 : Int32)) * v3)) + ((3 : Int32))) s).bind fun r1 =>
      (f_M_canBe k0 v1 r1.1 r1.2).bind fun r2 =>
      cif ((b2i r2.1) = 0) (
        f_M_laysWays_166 K235 n k0 v1 v2 (v3 + (1 : Int32)) r2.2) (
        gd (inb ((((201 : Int32)) * v1) + v2) (lenM (k0 + 13))) <|
        gd (inb (((((201 : Int32)) * v1) + ((201 : Int32))) + r1.1) (lenM (k0 + 13))) <|
        gd (inb ((((201 : Int32)) * v1) + v2) (lenM (k0 + 13))) <|
        let s3 : Mem := wJ r2.2 (k0 + 13) (ix ((((201 : Int32)) * v1) + v2)) ((rJ r2.2 (k0 + 13) (ix ((((201 : Int32)) * v1) + v2))) + (rJ r2.2 (k0 + 13) (ix (((((201 : Int32)) * v1) + ((201 : Int32))) + r1.1))))
        f_M_laysWays_166 K235 n k0 v1 v2 (v3 + (1 : Int32)) s3))
noncomputable def f_M_laysWays_235 (KH : Nat → Int32 → Int32 → Mem → Option (Mem)) (K241 : Nat → Int32 → Mem → Option (Mem)) (k0 : Nat) (v1 : Int32) (v2 : Int32) (s : Mem) : Option (Mem) :=
  KH k0 v1 (v2 + (1 : Int32)) s
noncomputable def f_M_laysWays_157 (K241 : Nat → Int32 → Mem → Option (Mem)) : Nat → Nat → Int32 → Int32 → Mem → Option (Mem)
  | 0, _, _, _, _ => none
  | n + 1, k0, v1, v2, s =>
    cif (((200 : Int32)) < v2) (
      K241 k0 v1 s) (
      f_M_laysWays_166 (fun k0 v1 v2 s => f_M_laysWays_235 (fun k0 v1 v2 s => f_M_laysWays_157 K241 n k0 v1 v2 s) K241 k0 v1 v2 s) FU k0 v1 v2 ((0 : Int32)) s)
noncomputable def f_M_laysWays_241 (KH : Nat → Int32 → Mem → Option (Mem)) (k0 : Nat) (v1 : Int32) (s : Mem) : Option (Mem) :=
  KH k0 (v1 - (1 : Int32)) s
noncomputable def f_M_laysWays_151 : Nat → Nat → Int32 → Mem → Option (Mem)
  | 0, _, _, _ => none
  | n + 1, k0, v1, s =>
    cif (v1 < 0) (
      some s) (
      f_M_laysWays_157 (fun k0 v1 s => f_M_laysWays_241 (fun k0 v1 s => f_M_laysWays_151 n k0 v1 s) k0 v1 s) FU k0 v1 ((0 : Int32)) s)
noncomputable def f_M_laysWays_148 (k0 : Nat) (s : Mem) : Option (Mem) :=
  f_M_laysWays_151 FU k0 ((11 : Int32)) s
noncomputable def f_M_laysWays_48 (k0 : Nat) (s : Mem) : Option (Mem) :=
  f_M_laysWays_50 (fun k0 s => f_M_laysWays_148 k0 s) FU k0 ((0 : Int32)) s
noncomputable def b_M_laysWays (k0 : Nat) (s : Mem) : Option (Mem) :=
  f_M_laysWays_2 (fun k0 s => f_M_laysWays_48 k0 s) FU k0 ((0 : Int32)) s
noncomputable def f_M_laysWays : Nat → Mem → Option (Mem) := Classical.choose (⟨b_M_laysWays, rfl⟩ : ∃ f : Nat → Mem → Option (Mem), f = b_M_laysWays)
theorem f_M_laysWays_eq : f_M_laysWays = b_M_laysWays := Classical.choose_spec (⟨b_M_laysWays, rfl⟩ : ∃ f : Nat → Mem → Option (Mem), f = b_M_laysWays)
noncomputable def sm_M_laysWays (O : Type) (av : List AV) (σ : Mem) (K : AV → Mem → Option O) : Option O := match av with
  | [.inr (.inr (12, k0))] => (f_M_laysWays k0 σ).bind fun r => K (.inl 0) r
  | _ => none
def c_M_laysWays : List (List CE) := [[(0, .iconst 0, 1, 0, 0, 0), (1, .istore_n 1, 1, 0, 0, 0), (2, .iload_n 1, 1, 0, 0, 0), (3, .sipush 2613, 3, 2613, 0, 0), (6, .if_icmp .ge 42, 3, 48, 0, 0), (9, .aload_n 0, 1, 0, 0, 0), (10, .getfield 47, 3, 12, 28, 0), (13, .iload_n 1, 1, 0, 0, 0), (14, .iload_n 1, 1, 0, 0, 0), (15, .ifCond .ne 7, 3, 22, 0, 0)], [(18, .lconst 1, 1, 0, 0, 0), (19, .goto 4, 3, 23, 0, 0), (22, .lconst 0, 1, 0, 0, 0), (23, .lastore, 1, 0, 0, 0), (24, .aload_n 0, 1, 0, 0, 0), (25, .getfield 51, 3, 12, 29, 0), (28, .iload_n 1, 1, 0, 0, 0), (29, .iload_n 1, 1, 0, 0, 0), (30, .sipush 2412, 3, 2412, 0, 0)], [(33, .if_icmp .lt 7, 3, 40, 0, 0), (36, .lconst 1, 1, 0, 0, 0), (37, .goto 4, 3, 41, 0, 0), (40, .lconst 0, 1, 0, 0, 0), (41, .lastore, 1, 0, 0, 0), (42, .iinc 1 1, 3, 1, 0, 0), (45, .goto (-43), 3, 2, 0, 0)], [(48, .iconst 0, 1, 0, 0, 0), (49, .istore_n 1, 1, 0, 0, 0), (50, .iload_n 1, 1, 0, 0, 0), (51, .bipush 12, 2, 12, 0, 0), (53, .if_icmp .ge 95, 3, 148, 0, 0), (56, .iconst 0, 1, 0, 0, 0), (57, .istore_n 2, 1, 0, 0, 0), (58, .iload_n 2, 1, 0, 0, 0), (59, .sipush 200, 3, 200, 0, 0), (62, .if_icmp .gt 80, 3, 142, 0, 0)], [(65, .iconst 0, 1, 0, 0, 0), (66, .istore_n 3, 1, 0, 0, 0), (67, .iload_n 3, 1, 0, 0, 0), (68, .bipush 6, 2, 6, 0, 0), (70, .if_icmp .ge 66, 3, 136, 0, 0), (73, .sipush 200, 3, 200, 0, 0), (76, .iload_n 2, 1, 0, 0, 0), (77, .iconst 3, 1, 3, 0, 0), (78, .iload_n 3, 1, 0, 0, 0), (79, .imul, 1, 0, 0, 0)], [(80, .iadd, 1, 0, 0, 0), (81, .iconst 3, 1, 3, 0, 0), (82, .iadd, 1, 0, 0, 0), (83, .invokestatic 290, 3, 282, 2, 1), (86, .istore 4, 2, 0, 0, 0), (88, .aload_n 0, 1, 0, 0, 0), (89, .iload_n 1, 1, 0, 0, 0), (90, .iload 4, 2, 0, 0, 0), (92, .invokevirtual 400, 3, 329, 3, 25), (95, .ifCond .eq 35, 3, 130, 0, 0)], [(98, .aload_n 0, 1, 0, 0, 0), (99, .getfield 47, 3, 12, 28, 0), (102, .sipush 201, 3, 201, 0, 0), (105, .iload_n 1, 1, 0, 0, 0), (106, .imul, 1, 0, 0, 0), (107, .sipush 201, 3, 201, 0, 0), (110, .iadd, 1, 0, 0, 0), (111, .iload 4, 2, 0, 0, 0)], [(113, .iadd, 1, 0, 0, 0), (114, .dup2, 1, 0, 0, 0), (115, .laload, 1, 0, 0, 0), (116, .aload_n 0, 1, 0, 0, 0), (117, .getfield 47, 3, 12, 28, 0), (120, .sipush 201, 3, 201, 0, 0), (123, .iload_n 1, 1, 0, 0, 0), (124, .imul, 1, 0, 0, 0), (125, .iload_n 2, 1, 0, 0, 0), (126, .iadd, 1, 0, 0, 0), (127, .laload, 1, 0, 0, 0)], [(128, .ladd, 1, 0, 0, 0), (129, .lastore, 1, 0, 0, 0), (130, .iinc 3 1, 3, 1, 0, 0), (133, .goto (-66), 3, 67, 0, 0), (136, .iinc 2 1, 3, 1, 0, 0), (139, .goto (-81), 3, 58, 0, 0), (142, .iinc 1 1, 3, 1, 0, 0)], [(145, .goto (-95), 3, 50, 0, 0), (148, .bipush 11, 2, 11, 0, 0), (150, .istore_n 1, 1, 0, 0, 0), (151, .iload_n 1, 1, 0, 0, 0), (152, .ifCond .lt 95, 3, 247, 0, 0), (155, .iconst 0, 1, 0, 0, 0), (156, .istore_n 2, 1, 0, 0, 0), (157, .iload_n 2, 1, 0, 0, 0), (158, .sipush 200, 3, 200, 0, 0)], [(161, .if_icmp .gt 80, 3, 241, 0, 0), (164, .iconst 0, 1, 0, 0, 0), (165, .istore_n 3, 1, 0, 0, 0), (166, .iload_n 3, 1, 0, 0, 0), (167, .bipush 6, 2, 6, 0, 0), (169, .if_icmp .ge 66, 3, 235, 0, 0), (172, .sipush 200, 3, 200, 0, 0), (175, .iload_n 2, 1, 0, 0, 0)], [(176, .iconst 3, 1, 3, 0, 0), (177, .iload_n 3, 1, 0, 0, 0), (178, .imul, 1, 0, 0, 0), (179, .iadd, 1, 0, 0, 0), (180, .iconst 3, 1, 3, 0, 0), (181, .iadd, 1, 0, 0, 0), (182, .invokestatic 290, 3, 282, 2, 1), (185, .istore 4, 2, 0, 0, 0), (187, .aload_n 0, 1, 0, 0, 0), (188, .iload_n 1, 1, 0, 0, 0), (189, .iload 4, 2, 0, 0, 0), (191, .invokevirtual 400, 3, 329, 3, 25)], [(194, .ifCond .eq 35, 3, 229, 0, 0), (197, .aload_n 0, 1, 0, 0, 0), (198, .getfield 51, 3, 12, 29, 0), (201, .sipush 201, 3, 201, 0, 0), (204, .iload_n 1, 1, 0, 0, 0), (205, .imul, 1, 0, 0, 0), (206, .iload_n 2, 1, 0, 0, 0), (207, .iadd, 1, 0, 0, 0)], [(208, .dup2, 1, 0, 0, 0), (209, .laload, 1, 0, 0, 0), (210, .aload_n 0, 1, 0, 0, 0), (211, .getfield 51, 3, 12, 29, 0), (214, .sipush 201, 3, 201, 0, 0), (217, .iload_n 1, 1, 0, 0, 0), (218, .imul, 1, 0, 0, 0), (219, .sipush 201, 3, 201, 0, 0), (222, .iadd, 1, 0, 0, 0), (223, .iload 4, 2, 0, 0, 0)], [(225, .iadd, 1, 0, 0, 0), (226, .laload, 1, 0, 0, 0), (227, .ladd, 1, 0, 0, 0), (228, .lastore, 1, 0, 0, 0), (229, .iinc 3 1, 3, 1, 0, 0), (232, .goto (-66), 3, 166, 0, 0), (235, .iinc 2 1, 3, 1, 0, 0), (238, .goto (-81), 3, 157, 0, 0)], [(241, .iinc 1 (-1), 3, 1, 0, 1), (244, .goto (-93), 3, 151, 0, 0), (247, .return_, 1, 0, 0, 0)]]
set_option maxRecDepth 100000 in
theorem oc_M_laysWays : okC 328 c_M_laysWays = true := by decide +kernel
def cu_M_laysWays : List (Nat × List Bool) := [(24, [true, true]), (2, [true, true]), (67, [true, true, true, true]), (136, [true, true, true]), (58, [true, true, true]), (142, [true, true]), (50, [true, true]), (166, [true, true, true, true]), (235, [true, true, true]), (157, [true, true, true]), (241, [true, true]), (151, [true, true]), (148, [true]), (48, [true])]
noncomputable def F_M_laysWays (O : Type) (a : Nat) (av : List AV) (σ : Mem) (K : AV → Mem → Option O) : Option O := if a = 282 then sm_M_lesser O av σ K else if a = 329 then sm_M_canBe O av σ K else none
theorem fs_M_laysWays {X : CXT} (hX : XM X) (O : Type) : FS X 2 (F_M_laysWays O) := by
  intro a av σ K o h
  unfold F_M_laysWays at h
  rcases ite_s h with ⟨rfl, h⟩ | ⟨_, h⟩
  · obtain ⟨r, h1, h2, h3⟩ := ok_M_lesser hX _ _ _ _ _ h
    exact ⟨r, fun ht => ⟨1, by decide, h1 ht⟩, h2, h3⟩
  rcases ite_s h with ⟨rfl, h⟩ | ⟨_, h⟩
  · obtain ⟨r, h1, h2, h3⟩ := ok_M_canBe hX _ _ _ _ _ h
    exact ⟨r, fun ht => ⟨1, by decide, h1 ht⟩, h2, h3⟩
  cases h
def hd_M_laysWays_24 {O : Type} (g : Nat → Int32 → Mem → Option O) (ls : OL) (st : List AV) (σ : Mem) : Option O := match ls, st with
  | [some (.inr (.inr (12, k0))), some (.inl v1)], [] => g k0 v1 σ
  | _, _ => none
theorem hs_M_laysWays_24 {X : CXT} {g : Nat → Int32 → Mem → Option (Mem)} (hg : ∀ (k0 : Nat) (v1 : Int32) (s : Mem) (o : Mem), g k0 v1 s = some o → BSnd X 2 328 (ovV o) 24 [some (.inr (.inr (12, k0))), some (.inl v1)] [] s) : ∀ ls st σ o, hd_M_laysWays_24 g ls st σ = some o → BSnd X 2 328 (ovV o) 24 ls st σ := by
  intro ls st σ o h
  unfold hd_M_laysWays_24 at h
  split at h
  · exact hg _ _ _ _ h
  · cases h
def hd_M_laysWays_2 {O : Type} (g : Nat → Int32 → Mem → Option O) (ls : OL) (st : List AV) (σ : Mem) : Option O := match ls, st with
  | [some (.inr (.inr (12, k0))), some (.inl v1)], [] => g k0 v1 σ
  | _, _ => none
theorem hs_M_laysWays_2 {X : CXT} {g : Nat → Int32 → Mem → Option (Mem)} (hg : ∀ (k0 : Nat) (v1 : Int32) (s : Mem) (o : Mem), g k0 v1 s = some o → BSnd X 2 328 (ovV o) 2 [some (.inr (.inr (12, k0))), some (.inl v1)] [] s) : ∀ ls st σ o, hd_M_laysWays_2 g ls st σ = some o → BSnd X 2 328 (ovV o) 2 ls st σ := by
  intro ls st σ o h
  unfold hd_M_laysWays_2 at h
  split at h
  · exact hg _ _ _ _ h
  · cases h
def hd_M_laysWays_67 {O : Type} (g : Nat → Int32 → Int32 → Int32 → Mem → Option O) (ls : OL) (st : List AV) (σ : Mem) : Option O := match ls, st with
  | [some (.inr (.inr (12, k0))), some (.inl v1), some (.inl v2), some (.inl v3)], [] => g k0 v1 v2 v3 σ
  | _, _ => none
theorem hs_M_laysWays_67 {X : CXT} {g : Nat → Int32 → Int32 → Int32 → Mem → Option (Mem)} (hg : ∀ (k0 : Nat) (v1 : Int32) (v2 : Int32) (v3 : Int32) (s : Mem) (o : Mem), g k0 v1 v2 v3 s = some o → BSnd X 2 328 (ovV o) 67 [some (.inr (.inr (12, k0))), some (.inl v1), some (.inl v2), some (.inl v3)] [] s) : ∀ ls st σ o, hd_M_laysWays_67 g ls st σ = some o → BSnd X 2 328 (ovV o) 67 ls st σ := by
  intro ls st σ o h
  unfold hd_M_laysWays_67 at h
  split at h
  · exact hg _ _ _ _ _ _ h
  · cases h
def hd_M_laysWays_136 {O : Type} (g : Nat → Int32 → Int32 → Mem → Option O) (ls : OL) (st : List AV) (σ : Mem) : Option O := match ls, st with
  | [some (.inr (.inr (12, k0))), some (.inl v1), some (.inl v2)], [] => g k0 v1 v2 σ
  | _, _ => none
theorem hs_M_laysWays_136 {X : CXT} {g : Nat → Int32 → Int32 → Mem → Option (Mem)} (hg : ∀ (k0 : Nat) (v1 : Int32) (v2 : Int32) (s : Mem) (o : Mem), g k0 v1 v2 s = some o → BSnd X 2 328 (ovV o) 136 [some (.inr (.inr (12, k0))), some (.inl v1), some (.inl v2)] [] s) : ∀ ls st σ o, hd_M_laysWays_136 g ls st σ = some o → BSnd X 2 328 (ovV o) 136 ls st σ := by
  intro ls st σ o h
  unfold hd_M_laysWays_136 at h
  split at h
  · exact hg _ _ _ _ _ h
  · cases h
def hd_M_laysWays_58 {O : Type} (g : Nat → Int32 → Int32 → Mem → Option O) (ls : OL) (st : List AV) (σ : Mem) : Option O := match ls, st with
  | [some (.inr (.inr (12, k0))), some (.inl v1), some (.inl v2)], [] => g k0 v1 v2 σ
  | _, _ => none
theorem hs_M_laysWays_58 {X : CXT} {g : Nat → Int32 → Int32 → Mem → Option (Mem)} (hg : ∀ (k0 : Nat) (v1 : Int32) (v2 : Int32) (s : Mem) (o : Mem), g k0 v1 v2 s = some o → BSnd X 2 328 (ovV o) 58 [some (.inr (.inr (12, k0))), some (.inl v1), some (.inl v2)] [] s) : ∀ ls st σ o, hd_M_laysWays_58 g ls st σ = some o → BSnd X 2 328 (ovV o) 58 ls st σ := by
  intro ls st σ o h
  unfold hd_M_laysWays_58 at h
  split at h
  · exact hg _ _ _ _ _ h
  · cases h
def hd_M_laysWays_142 {O : Type} (g : Nat → Int32 → Mem → Option O) (ls : OL) (st : List AV) (σ : Mem) : Option O := match ls, st with
  | [some (.inr (.inr (12, k0))), some (.inl v1)], [] => g k0 v1 σ
  | _, _ => none
theorem hs_M_laysWays_142 {X : CXT} {g : Nat → Int32 → Mem → Option (Mem)} (hg : ∀ (k0 : Nat) (v1 : Int32) (s : Mem) (o : Mem), g k0 v1 s = some o → BSnd X 2 328 (ovV o) 142 [some (.inr (.inr (12, k0))), some (.inl v1)] [] s) : ∀ ls st σ o, hd_M_laysWays_142 g ls st σ = some o → BSnd X 2 328 (ovV o) 142 ls st σ := by
  intro ls st σ o h
  unfold hd_M_laysWays_142 at h
  split at h
  · exact hg _ _ _ _ h
  · cases h
def hd_M_laysWays_50 {O : Type} (g : Nat → Int32 → Mem → Option O) (ls : OL) (st : List AV) (σ : Mem) : Option O := match ls, st with
  | [some (.inr (.inr (12, k0))), some (.inl v1)], [] => g k0 v1 σ
  | _, _ => none
theorem hs_M_laysWays_50 {X : CXT} {g : Nat → Int32 → Mem → Option (Mem)} (hg : ∀ (k0 : Nat) (v1 : Int32) (s : Mem) (o : Mem), g k0 v1 s = some o → BSnd X 2 328 (ovV o) 50 [some (.inr (.inr (12, k0))), some (.inl v1)] [] s) : ∀ ls st σ o, hd_M_laysWays_50 g ls st σ = some o → BSnd X 2 328 (ovV o) 50 ls st σ := by
  intro ls st σ o h
  unfold hd_M_laysWays_50 at h
  split at h
  · exact hg _ _ _ _ h
  · cases h
def hd_M_laysWays_166 {O : Type} (g : Nat → Int32 → Int32 → Int32 → Mem → Option O) (ls : OL) (st : List AV) (σ : Mem) : Option O := match ls, st with
  | [some (.inr (.inr (12, k0))), some (.inl v1), some (.inl v2), some (.inl v3)], [] => g k0 v1 v2 v3 σ
  | _, _ => none
theorem hs_M_laysWays_166 {X : CXT} {g : Nat → Int32 → Int32 → Int32 → Mem → Option (Mem)} (hg : ∀ (k0 : Nat) (v1 : Int32) (v2 : Int32) (v3 : Int32) (s : Mem) (o : Mem), g k0 v1 v2 v3 s = some o → BSnd X 2 328 (ovV o) 166 [some (.inr (.inr (12, k0))), some (.inl v1), some (.inl v2), some (.inl v3)] [] s) : ∀ ls st σ o, hd_M_laysWays_166 g ls st σ = some o → BSnd X 2 328 (ovV o) 166 ls st σ := by
  intro ls st σ o h
  unfold hd_M_laysWays_166 at h
  split at h
  · exact hg _ _ _ _ _ _ h
  · cases h
def hd_M_laysWays_235 {O : Type} (g : Nat → Int32 → Int32 → Mem → Option O) (ls : OL) (st : List AV) (σ : Mem) : Option O := match ls, st with
  | [some (.inr (.inr (12, k0))), some (.inl v1), some (.inl v2)], [] => g k0 v1 v2 σ
  | _, _ => none
theorem hs_M_laysWays_235 {X : CXT} {g : Nat → Int32 → Int32 → Mem → Option (Mem)} (hg : ∀ (k0 : Nat) (v1 : Int32) (v2 : Int32) (s : Mem) (o : Mem), g k0 v1 v2 s = some o → BSnd X 2 328 (ovV o) 235 [some (.inr (.inr (12, k0))), some (.inl v1), some (.inl v2)] [] s) : ∀ ls st σ o, hd_M_laysWays_235 g ls st σ = some o → BSnd X 2 328 (ovV o) 235 ls st σ := by
  intro ls st σ o h
  unfold hd_M_laysWays_235 at h
  split at h
  · exact hg _ _ _ _ _ h
  · cases h
def hd_M_laysWays_157 {O : Type} (g : Nat → Int32 → Int32 → Mem → Option O) (ls : OL) (st : List AV) (σ : Mem) : Option O := match ls, st with
  | [some (.inr (.inr (12, k0))), some (.inl v1), some (.inl v2)], [] => g k0 v1 v2 σ
  | _, _ => none
theorem hs_M_laysWays_157 {X : CXT} {g : Nat → Int32 → Int32 → Mem → Option (Mem)} (hg : ∀ (k0 : Nat) (v1 : Int32) (v2 : Int32) (s : Mem) (o : Mem), g k0 v1 v2 s = some o → BSnd X 2 328 (ovV o) 157 [some (.inr (.inr (12, k0))), some (.inl v1), some (.inl v2)] [] s) : ∀ ls st σ o, hd_M_laysWays_157 g ls st σ = some o → BSnd X 2 328 (ovV o) 157 ls st σ := by
  intro ls st σ o h
  unfold hd_M_laysWays_157 at h
  split at h
  · exact hg _ _ _ _ _ h
  · cases h
def hd_M_laysWays_241 {O : Type} (g : Nat → Int32 → Mem → Option O) (ls : OL) (st : List AV) (σ : Mem) : Option O := match ls, st with
  | [some (.inr (.inr (12, k0))), some (.inl v1)], [] => g k0 v1 σ
  | _, _ => none
theorem hs_M_laysWays_241 {X : CXT} {g : Nat → Int32 → Mem → Option (Mem)} (hg : ∀ (k0 : Nat) (v1 : Int32) (s : Mem) (o : Mem), g k0 v1 s = some o → BSnd X 2 328 (ovV o) 241 [some (.inr (.inr (12, k0))), some (.inl v1)] [] s) : ∀ ls st σ o, hd_M_laysWays_241 g ls st σ = some o → BSnd X 2 328 (ovV o) 241 ls st σ := by
  intro ls st σ o h
  unfold hd_M_laysWays_241 at h
  split at h
  · exact hg _ _ _ _ h
  · cases h
def hd_M_laysWays_151 {O : Type} (g : Nat → Int32 → Mem → Option O) (ls : OL) (st : List AV) (σ : Mem) : Option O := match ls, st with
  | [some (.inr (.inr (12, k0))), some (.inl v1)], [] => g k0 v1 σ
  | _, _ => none
theorem hs_M_laysWays_151 {X : CXT} {g : Nat → Int32 → Mem → Option (Mem)} (hg : ∀ (k0 : Nat) (v1 : Int32) (s : Mem) (o : Mem), g k0 v1 s = some o → BSnd X 2 328 (ovV o) 151 [some (.inr (.inr (12, k0))), some (.inl v1)] [] s) : ∀ ls st σ o, hd_M_laysWays_151 g ls st σ = some o → BSnd X 2 328 (ovV o) 151 ls st σ := by
  intro ls st σ o h
  unfold hd_M_laysWays_151 at h
  split at h
  · exact hg _ _ _ _ h
  · cases h
def hd_M_laysWays_148 {O : Type} (g : Nat → Mem → Option O) (ls : OL) (st : List AV) (σ : Mem) : Option O := match ls, st with
  | [some (.inr (.inr (12, k0)))], [] => g k0 σ
  | _, _ => none
theorem hs_M_laysWays_148 {X : CXT} {g : Nat → Mem → Option (Mem)} (hg : ∀ (k0 : Nat) (s : Mem) (o : Mem), g k0 s = some o → BSnd X 2 328 (ovV o) 148 [some (.inr (.inr (12, k0)))] [] s) : ∀ ls st σ o, hd_M_laysWays_148 g ls st σ = some o → BSnd X 2 328 (ovV o) 148 ls st σ := by
  intro ls st σ o h
  unfold hd_M_laysWays_148 at h
  split at h
  · exact hg _ _ _ h
  · cases h
def hd_M_laysWays_48 {O : Type} (g : Nat → Mem → Option O) (ls : OL) (st : List AV) (σ : Mem) : Option O := match ls, st with
  | [some (.inr (.inr (12, k0)))], [] => g k0 σ
  | _, _ => none
theorem hs_M_laysWays_48 {X : CXT} {g : Nat → Mem → Option (Mem)} (hg : ∀ (k0 : Nat) (s : Mem) (o : Mem), g k0 s = some o → BSnd X 2 328 (ovV o) 48 [some (.inr (.inr (12, k0)))] [] s) : ∀ ls st σ o, hd_M_laysWays_48 g ls st σ = some o → BSnd X 2 328 (ovV o) 48 ls st σ := by
  intro ls st σ o h
  unfold hd_M_laysWays_48 at h
  split at h
  · exact hg _ _ _ h
  · cases h
set_option maxRecDepth 100000 in
theorem s_M_laysWays_24 {X : CXT} (hX : XM X) {KH : Nat → Int32 → Mem → Option (Mem)} {K48 : Nat → Mem → Option (Mem)} (hKH : ∀ (k0 : Nat) (v1 : Int32) (s : Mem) (o : Mem), KH k0 v1 s = some o → BSnd X 2 328 (ovV o) 2 [some (.inr (.inr (12, k0))), some (.inl v1)] [] s) (hK48 : ∀ (k0 : Nat) (s : Mem) (o : Mem), K48 k0 s = some o → BSnd X 2 328 (ovV o) 48 [some (.inr (.inr (12, k0)))] [] s) : ∀ (k0 : Nat) (v1 : Int32) (s : Mem) (o : Mem), f_M_laysWays_24 KH K48 k0 v1 s = some o → BSnd X 2 328 (ovV o) 24 [some (.inr (.inr (12, k0))), some (.inl v1)] [] s := by
  intro k0 v1 s o h
  exact evC (chs := c_M_laysWays) (cuts := cu_M_laysWays) (G := fun pc ls st σ => if pc = 2 then hd_M_laysWays_2 (fun k0 v1 s => KH k0 v1 s) ls st σ else none) hX.2.1 hX.2.2 (F := F_M_laysWays _) (fs_M_laysWays hX _) (rt_V rfl) oc_M_laysWays (by
    intro pc ls st σ o h
    rcases ite_s h with ⟨rfl, h⟩ | ⟨_, h⟩
    · exact hs_M_laysWays_2 hKH _ _ _ _ h
    cases h) 600 24 _ _ _ _ h
set_option maxRecDepth 100000 in
theorem s_M_laysWays_2 {X : CXT} (hX : XM X) {K48 : Nat → Mem → Option (Mem)} (hK48 : ∀ (k0 : Nat) (s : Mem) (o : Mem), K48 k0 s = some o → BSnd X 2 328 (ovV o) 48 [some (.inr (.inr (12, k0)))] [] s) : ∀ n : Nat, ∀ (k0 : Nat) (v1 : Int32) (s : Mem) (o : Mem), f_M_laysWays_2 K48 n k0 v1 s = some o → BSnd X 2 328 (ovV o) 2 [some (.inr (.inr (12, k0))), some (.inl v1)] [] s := by
  intro n
  induction n with
  | zero => intro k0 v1 s o h; cases h
  | succ n ih =>
    intro k0 v1 s o h
    exact evC (chs := c_M_laysWays) (cuts := cu_M_laysWays) (G := fun pc ls st σ => if pc = 24 then hd_M_laysWays_24 (fun k0 v1 s => f_M_laysWays_24 (fun k0 v1 s => f_M_laysWays_2 K48 n k0 v1 s) K48 k0 v1 s) ls st σ else if pc = 2 then hd_M_laysWays_2 (fun k0 v1 s => f_M_laysWays_2 K48 n k0 v1 s) ls st σ else if pc = 48 then hd_M_laysWays_48 (fun k0 s => K48 k0 s) ls st σ else none) hX.2.1 hX.2.2 (F := F_M_laysWays _) (fs_M_laysWays hX _) (rt_V rfl) oc_M_laysWays (by
    intro pc ls st σ o h
    rcases ite_s h with ⟨rfl, h⟩ | ⟨_, h⟩
    · exact hs_M_laysWays_24 (s_M_laysWays_24 hX ih hK48) _ _ _ _ h
    rcases ite_s h with ⟨rfl, h⟩ | ⟨_, h⟩
    · exact hs_M_laysWays_2 ih _ _ _ _ h
    rcases ite_s h with ⟨rfl, h⟩ | ⟨_, h⟩
    · exact hs_M_laysWays_48 hK48 _ _ _ _ h
    cases h) 600 2 _ _ _ _ h
set_option maxRecDepth 100000 in
theorem s_M_laysWays_67 {X : CXT} (hX : XM X) {K136 : Nat → Int32 → Int32 → Mem → Option (Mem)} (hK136 : ∀ (k0 : Nat) (v1 : Int32) (v2 : Int32) (s : Mem) (o : Mem), K136 k0 v1 v2 s = some o → BSnd X 2 328 (ovV o) 136 [some (.inr (.inr (12, k0))), some (.inl v1), some (.inl v2)] [] s) : ∀ n : Nat, ∀ (k0 : Nat) (v1 : Int32) (v2 : Int32) (v3 : Int32) (s : Mem) (o : Mem), f_M_laysWays_67 K136 n k0 v1 v2 v3 s = some o → BSnd X 2 328 (ovV o) 67 [some (.inr (.inr (12, k0))), some (.inl v1), some (.inl v2), some (.inl v3)] [] s := by
  intro n
  induction n with
  | zero => intro k0 v1 v2 v3 s o h; cases h
  | succ n ih =>
    intro k0 v1 v2 v3 s o h
    exact evC (chs := c_M_laysWays) (cuts := cu_M_laysWays) (G := fun pc ls st σ => if pc = 67 then hd_M_laysWays_67 (fun k0 v1 v2 v3 s => f_M_laysWays_67 K136 n k0 v1 v2 v3 s) ls st σ else if pc = 136 then hd_M_laysWays_136 (fun k0 v1 v2 s => K136 k0 v1 v2 s) ls st σ else none) hX.2.1 hX.2.2 (F := F_M_laysWays _) (fs_M_laysWays hX _) (rt_V rfl) oc_M_laysWays (by
    intro pc ls st σ o h
    rcases ite_s h with ⟨rfl, h⟩ | ⟨_, h⟩
    · exact hs_M_laysWays_67 ih _ _ _ _ h
    rcases ite_s h with ⟨rfl, h⟩ | ⟨_, h⟩
    · exact hs_M_laysWays_136 hK136 _ _ _ _ h
    cases h) 600 67 _ _ _ _ h
set_option maxRecDepth 100000 in
theorem s_M_laysWays_136 {X : CXT} (hX : XM X) {KH : Nat → Int32 → Int32 → Mem → Option (Mem)} {K142 : Nat → Int32 → Mem → Option (Mem)} (hKH : ∀ (k0 : Nat) (v1 : Int32) (v2 : Int32) (s : Mem) (o : Mem), KH k0 v1 v2 s = some o → BSnd X 2 328 (ovV o) 58 [some (.inr (.inr (12, k0))), some (.inl v1), some (.inl v2)] [] s) (hK142 : ∀ (k0 : Nat) (v1 : Int32) (s : Mem) (o : Mem), K142 k0 v1 s = some o → BSnd X 2 328 (ovV o) 142 [some (.inr (.inr (12, k0))), some (.inl v1)] [] s) : ∀ (k0 : Nat) (v1 : Int32) (v2 : Int32) (s : Mem) (o : Mem), f_M_laysWays_136 KH K142 k0 v1 v2 s = some o → BSnd X 2 328 (ovV o) 136 [some (.inr (.inr (12, k0))), some (.inl v1), some (.inl v2)] [] s := by
  intro k0 v1 v2 s o h
  exact evC (chs := c_M_laysWays) (cuts := cu_M_laysWays) (G := fun pc ls st σ => if pc = 58 then hd_M_laysWays_58 (fun k0 v1 v2 s => KH k0 v1 v2 s) ls st σ else none) hX.2.1 hX.2.2 (F := F_M_laysWays _) (fs_M_laysWays hX _) (rt_V rfl) oc_M_laysWays (by
    intro pc ls st σ o h
    rcases ite_s h with ⟨rfl, h⟩ | ⟨_, h⟩
    · exact hs_M_laysWays_58 hKH _ _ _ _ h
    cases h) 600 136 _ _ _ _ h
set_option maxRecDepth 100000 in
theorem s_M_laysWays_58 {X : CXT} (hX : XM X) {K142 : Nat → Int32 → Mem → Option (Mem)} (hK142 : ∀ (k0 : Nat) (v1 : Int32) (s : Mem) (o : Mem), K142 k0 v1 s = some o → BSnd X 2 328 (ovV o) 142 [some (.inr (.inr (12, k0))), some (.inl v1)] [] s) : ∀ n : Nat, ∀ (k0 : Nat) (v1 : Int32) (v2 : Int32) (s : Mem) (o : Mem), f_M_laysWays_58 K142 n k0 v1 v2 s = some o → BSnd X 2 328 (ovV o) 58 [some (.inr (.inr (12, k0))), some (.inl v1), some (.inl v2)] [] s := by
  intro n
  induction n with
  | zero => intro k0 v1 v2 s o h; cases h
  | succ n ih =>
    intro k0 v1 v2 s o h
    exact evC (chs := c_M_laysWays) (cuts := cu_M_laysWays) (G := fun pc ls st σ => if pc = 67 then hd_M_laysWays_67 (fun k0 v1 v2 v3 s => f_M_laysWays_67 (fun k0 v1 v2 s => f_M_laysWays_136 (fun k0 v1 v2 s => f_M_laysWays_58 K142 n k0 v1 v2 s) K142 k0 v1 v2 s) FU k0 v1 v2 v3 s) ls st σ else if pc = 136 then hd_M_laysWays_136 (fun k0 v1 v2 s => f_M_laysWays_136 (fun k0 v1 v2 s => f_M_laysWays_58 K142 n k0 v1 v2 s) K142 k0 v1 v2 s) ls st σ else if pc = 58 then hd_M_laysWays_58 (fun k0 v1 v2 s => f_M_laysWays_58 K142 n k0 v1 v2 s) ls st σ else if pc = 142 then hd_M_laysWays_142 (fun k0 v1 s => K142 k0 v1 s) ls st σ else none) hX.2.1 hX.2.2 (F := F_M_laysWays _) (fs_M_laysWays hX _) (rt_V rfl) oc_M_laysWays (by
    intro pc ls st σ o h
    rcases ite_s h with ⟨rfl, h⟩ | ⟨_, h⟩
    · exact hs_M_laysWays_67 (s_M_laysWays_67 hX (s_M_laysWays_136 hX ih hK142) FU) _ _ _ _ h
    rcases ite_s h with ⟨rfl, h⟩ | ⟨_, h⟩
    · exact hs_M_laysWays_136 (s_M_laysWays_136 hX ih hK142) _ _ _ _ h
    rcases ite_s h with ⟨rfl, h⟩ | ⟨_, h⟩
    · exact hs_M_laysWays_58 ih _ _ _ _ h
    rcases ite_s h with ⟨rfl, h⟩ | ⟨_, h⟩
    · exact hs_M_laysWays_142 hK142 _ _ _ _ h
    cases h) 600 58 _ _ _ _ h
set_option maxRecDepth 100000 in
theorem s_M_laysWays_142 {X : CXT} (hX : XM X) {KH : Nat → Int32 → Mem → Option (Mem)} {K148 : Nat → Mem → Option (Mem)} (hKH : ∀ (k0 : Nat) (v1 : Int32) (s : Mem) (o : Mem), KH k0 v1 s = some o → BSnd X 2 328 (ovV o) 50 [some (.inr (.inr (12, k0))), some (.inl v1)] [] s) (hK148 : ∀ (k0 : Nat) (s : Mem) (o : Mem), K148 k0 s = some o → BSnd X 2 328 (ovV o) 148 [some (.inr (.inr (12, k0)))] [] s) : ∀ (k0 : Nat) (v1 : Int32) (s : Mem) (o : Mem), f_M_laysWays_142 KH K148 k0 v1 s = some o → BSnd X 2 328 (ovV o) 142 [some (.inr (.inr (12, k0))), some (.inl v1)] [] s := by
  intro k0 v1 s o h
  exact evC (chs := c_M_laysWays) (cuts := cu_M_laysWays) (G := fun pc ls st σ => if pc = 50 then hd_M_laysWays_50 (fun k0 v1 s => KH k0 v1 s) ls st σ else none) hX.2.1 hX.2.2 (F := F_M_laysWays _) (fs_M_laysWays hX _) (rt_V rfl) oc_M_laysWays (by
    intro pc ls st σ o h
    rcases ite_s h with ⟨rfl, h⟩ | ⟨_, h⟩
    · exact hs_M_laysWays_50 hKH _ _ _ _ h
    cases h) 600 142 _ _ _ _ h
set_option maxRecDepth 100000 in
theorem s_M_laysWays_50 {X : CXT} (hX : XM X) {K148 : Nat → Mem → Option (Mem)} (hK148 : ∀ (k0 : Nat) (s : Mem) (o : Mem), K148 k0 s = some o → BSnd X 2 328 (ovV o) 148 [some (.inr (.inr (12, k0)))] [] s) : ∀ n : Nat, ∀ (k0 : Nat) (v1 : Int32) (s : Mem) (o : Mem), f_M_laysWays_50 K148 n k0 v1 s = some o → BSnd X 2 328 (ovV o) 50 [some (.inr (.inr (12, k0))), some (.inl v1)] [] s := by
  intro n
  induction n with
  | zero => intro k0 v1 s o h; cases h
  | succ n ih =>
    intro k0 v1 s o h
    exact evC (chs := c_M_laysWays) (cuts := cu_M_laysWays) (G := fun pc ls st σ => if pc = 58 then hd_M_laysWays_58 (fun k0 v1 v2 s => f_M_laysWays_58 (fun k0 v1 s => f_M_laysWays_142 (fun k0 v1 s => f_M_laysWays_50 K148 n k0 v1 s) K148 k0 v1 s) FU k0 v1 v2 s) ls st σ else if pc = 142 then hd_M_laysWays_142 (fun k0 v1 s => f_M_laysWays_142 (fun k0 v1 s => f_M_laysWays_50 K148 n k0 v1 s) K148 k0 v1 s) ls st σ else if pc = 50 then hd_M_laysWays_50 (fun k0 v1 s => f_M_laysWays_50 K148 n k0 v1 s) ls st σ else if pc = 148 then hd_M_laysWays_148 (fun k0 s => K148 k0 s) ls st σ else none) hX.2.1 hX.2.2 (F := F_M_laysWays _) (fs_M_laysWays hX _) (rt_V rfl) oc_M_laysWays (by
    intro pc ls st σ o h
    rcases ite_s h with ⟨rfl, h⟩ | ⟨_, h⟩
    · exact hs_M_laysWays_58 (s_M_laysWays_58 hX (s_M_laysWays_142 hX ih hK148) FU) _ _ _ _ h
    rcases ite_s h with ⟨rfl, h⟩ | ⟨_, h⟩
    · exact hs_M_laysWays_142 (s_M_laysWays_142 hX ih hK148) _ _ _ _ h
    rcases ite_s h with ⟨rfl, h⟩ | ⟨_, h⟩
    · exact hs_M_laysWays_50 ih _ _ _ _ h
    rcases ite_s h with ⟨rfl, h⟩ | ⟨_, h⟩
    · exact hs_M_laysWays_148 hK148 _ _ _ _ h
    cases h) 600 50 _ _ _ _ h
set_option maxRecDepth 100000 in
theorem s_M_laysWays_166 {X : CXT} (hX : XM X) {K235 : Nat → Int32 → Int32 → Mem → Option (Mem)} (hK235 : ∀ (k0 : Nat) (v1 : Int32) (v2 : Int32) (s : Mem) (o : Mem), K235 k0 v1 v2 s = some o → BSnd X 2 328 (ovV o) 235 [some (.inr (.inr (12, k0))), some (.inl v1), some (.inl v2)] [] s) : ∀ n : Nat, ∀ (k0 : Nat) (v1 : Int32) (v2 : Int32) (v3 : Int32) (s : Mem) (o : Mem), f_M_laysWays_166 K235 n k0 v1 v2 v3 s = some o → BSnd X 2 328 (ovV o) 166 [some (.inr (.inr (12, k0))), some (.inl v1), some (.inl v2), some (.inl v3)] [] s := by
  intro n
  induction n with
  | zero => intro k0 v1 v2 v3 s o h; cases h
  | succ n ih =>
    intro k0 v1 v2 v3 s o h
    exact evC (chs := c_M_laysWays) (cuts := cu_M_laysWays) (G := fun pc ls st σ => if pc = 166 then hd_M_laysWays_166 (fun k0 v1 v2 v3 s => f_M_laysWays_166 K235 n k0 v1 v2 v3 s) ls st σ else if pc = 235 then hd_M_laysWays_235 (fun k0 v1 v2 s => K235 k0 v1 v2 s) ls st σ else none) hX.2.1 hX.2.2 (F := F_M_laysWays _) (fs_M_laysWays hX _) (rt_V rfl) oc_M_laysWays (by
    intro pc ls st σ o h
    rcases ite_s h with ⟨rfl, h⟩ | ⟨_, h⟩
    · exact hs_M_laysWays_166 ih _ _ _ _ h
    rcases ite_s h with ⟨rfl, h⟩ | ⟨_, h⟩
    · exact hs_M_laysWays_235 hK235 _ _ _ _ h
    cases h) 600 166 _ _ _ _ h
set_option maxRecDepth 100000 in
theorem s_M_laysWays_235 {X : CXT} (hX : XM X) {KH : Nat → Int32 → Int32 → Mem → Option (Mem)} {K241 : Nat → Int32 → Mem → Option (Mem)} (hKH : ∀ (k0 : Nat) (v1 : Int32) (v2 : Int32) (s : Mem) (o : Mem), KH k0 v1 v2 s = some o → BSnd X 2 328 (ovV o) 157 [some (.inr (.inr (12, k0))), some (.inl v1), some (.inl v2)] [] s) (hK241 : ∀ (k0 : Nat) (v1 : Int32) (s : Mem) (o : Mem), K241 k0 v1 s = some o → BSnd X 2 328 (ovV o) 241 [some (.inr (.inr (12, k0))), some (.inl v1)] [] s) : ∀ (k0 : Nat) (v1 : Int32) (v2 : Int32) (s : Mem) (o : Mem), f_M_laysWays_235 KH K241 k0 v1 v2 s = some o → BSnd X 2 328 (ovV o) 235 [some (.inr (.inr (12, k0))), some (.inl v1), some (.inl v2)] [] s := by
  intro k0 v1 v2 s o h
  exact evC (chs := c_M_laysWays) (cuts := cu_M_laysWays) (G := fun pc ls st σ => if pc = 157 then hd_M_laysWays_157 (fun k0 v1 v2 s => KH k0 v1 v2 s) ls st σ else none) hX.2.1 hX.2.2 (F := F_M_laysWays _) (fs_M_laysWays hX _) (rt_V rfl) oc_M_laysWays (by
    intro pc ls st σ o h
    rcases ite_s h with ⟨rfl, h⟩ | ⟨_, h⟩
    · exact hs_M_laysWays_157 hKH _ _ _ _ h
    cases h) 600 235 _ _ _ _ h
set_option maxRecDepth 100000 in
theorem s_M_laysWays_157 {X : CXT} (hX : XM X) {K241 : Nat → Int32 → Mem → Option (Mem)} (hK241 : ∀ (k0 : Nat) (v1 : Int32) (s : Mem) (o : Mem), K241 k0 v1 s = some o → BSnd X 2 328 (ovV o) 241 [some (.inr (.inr (12, k0))), some (.inl v1)] [] s) : ∀ n : Nat, ∀ (k0 : Nat) (v1 : Int32) (v2 : Int32) (s : Mem) (o : Mem), f_M_laysWays_157 K241 n k0 v1 v2 s = some o → BSnd X 2 328 (ovV o) 157 [some (.inr (.inr (12, k0))), some (.inl v1), some (.inl v2)] [] s := by
  intro n
  induction n with
  | zero => intro k0 v1 v2 s o h; cases h
  | succ n ih =>
    intro k0 v1 v2 s o h
    exact evC (chs := c_M_laysWays) (cuts := cu_M_laysWays) (G := fun pc ls st σ => if pc = 166 then hd_M_laysWays_166 (fun k0 v1 v2 v3 s => f_M_laysWays_166 (fun k0 v1 v2 s => f_M_laysWays_235 (fun k0 v1 v2 s => f_M_laysWays_157 K241 n k0 v1 v2 s) K241 k0 v1 v2 s) FU k0 v1 v2 v3 s) ls st σ else if pc = 235 then hd_M_laysWays_235 (fun k0 v1 v2 s => f_M_laysWays_235 (fun k0 v1 v2 s => f_M_laysWays_157 K241 n k0 v1 v2 s) K241 k0 v1 v2 s) ls st σ else if pc = 157 then hd_M_laysWays_157 (fun k0 v1 v2 s => f_M_laysWays_157 K241 n k0 v1 v2 s) ls st σ else if pc = 241 then hd_M_laysWays_241 (fun k0 v1 s => K241 k0 v1 s) ls st σ else none) hX.2.1 hX.2.2 (F := F_M_laysWays _) (fs_M_laysWays hX _) (rt_V rfl) oc_M_laysWays (by
    intro pc ls st σ o h
    rcases ite_s h with ⟨rfl, h⟩ | ⟨_, h⟩
    · exact hs_M_laysWays_166 (s_M_laysWays_166 hX (s_M_laysWays_235 hX ih hK241) FU) _ _ _ _ h
    rcases ite_s h with ⟨rfl, h⟩ | ⟨_, h⟩
    · exact hs_M_laysWays_235 (s_M_laysWays_235 hX ih hK241) _ _ _ _ h
    rcases ite_s h with ⟨rfl, h⟩ | ⟨_, h⟩
    · exact hs_M_laysWays_157 ih _ _ _ _ h
    rcases ite_s h with ⟨rfl, h⟩ | ⟨_, h⟩
    · exact hs_M_laysWays_241 hK241 _ _ _ _ h
    cases h) 600 157 _ _ _ _ h
set_option maxRecDepth 100000 in
theorem s_M_laysWays_241 {X : CXT} (hX : XM X) {KH : Nat → Int32 → Mem → Option (Mem)} (hKH : ∀ (k0 : Nat) (v1 : Int32) (s : Mem) (o : Mem), KH k0 v1 s = some o → BSnd X 2 328 (ovV o) 151 [some (.inr (.inr (12, k0))), some (.inl v1)] [] s) : ∀ (k0 : Nat) (v1 : Int32) (s : Mem) (o : Mem), f_M_laysWays_241 KH k0 v1 s = some o → BSnd X 2 328 (ovV o) 241 [some (.inr (.inr (12, k0))), some (.inl v1)] [] s := by
  intro k0 v1 s o h
  exact evC (chs := c_M_laysWays) (cuts := cu_M_laysWays) (G := fun pc ls st σ => if pc = 151 then hd_M_laysWays_151 (fun k0 v1 s => KH k0 v1 s) ls st σ else none) hX.2.1 hX.2.2 (F := F_M_laysWays _) (fs_M_laysWays hX _) (rt_V rfl) oc_M_laysWays (by
    intro pc ls st σ o h
    rcases ite_s h with ⟨rfl, h⟩ | ⟨_, h⟩
    · exact hs_M_laysWays_151 hKH _ _ _ _ h
    cases h) 600 241 _ _ _ _ h
set_option maxRecDepth 100000 in
theorem s_M_laysWays_151 {X : CXT} (hX : XM X) : ∀ n : Nat, ∀ (k0 : Nat) (v1 : Int32) (s : Mem) (o : Mem), f_M_laysWays_151 n k0 v1 s = some o → BSnd X 2 328 (ovV o) 151 [some (.inr (.inr (12, k0))), some (.inl v1)] [] s := by
  intro n
  induction n with
  | zero => intro k0 v1 s o h; cases h
  | succ n ih =>
    intro k0 v1 s o h
    exact evC (chs := c_M_laysWays) (cuts := cu_M_laysWays) (G := fun pc ls st σ => if pc = 157 then hd_M_laysWays_157 (fun k0 v1 v2 s => f_M_laysWays_157 (fun k0 v1 s => f_M_laysWays_241 (fun k0 v1 s => f_M_laysWays_151 n k0 v1 s) k0 v1 s) FU k0 v1 v2 s) ls st σ else if pc = 241 then hd_M_laysWays_241 (fun k0 v1 s => f_M_laysWays_241 (fun k0 v1 s => f_M_laysWays_151 n k0 v1 s) k0 v1 s) ls st σ else if pc = 151 then hd_M_laysWays_151 (fun k0 v1 s => f_M_laysWays_151 n k0 v1 s) ls st σ else none) hX.2.1 hX.2.2 (F := F_M_laysWays _) (fs_M_laysWays hX _) (rt_V rfl) oc_M_laysWays (by
    intro pc ls st σ o h
    rcases ite_s h with ⟨rfl, h⟩ | ⟨_, h⟩
    · exact hs_M_laysWays_157 (s_M_laysWays_157 hX (s_M_laysWays_241 hX ih) FU) _ _ _ _ h
    rcases ite_s h with ⟨rfl, h⟩ | ⟨_, h⟩
    · exact hs_M_laysWays_241 (s_M_laysWays_241 hX ih) _ _ _ _ h
    rcases ite_s h with ⟨rfl, h⟩ | ⟨_, h⟩
    · exact hs_M_laysWays_151 ih _ _ _ _ h
    cases h) 600 151 _ _ _ _ h
set_option maxRecDepth 100000 in
theorem s_M_laysWays_148 {X : CXT} (hX : XM X) : ∀ (k0 : Nat) (s : Mem) (o : Mem), f_M_laysWays_148 k0 s = some o → BSnd X 2 328 (ovV o) 148 [some (.inr (.inr (12, k0)))] [] s := by
  intro k0 s o h
  exact evC (chs := c_M_laysWays) (cuts := cu_M_laysWays) (G := fun pc ls st σ => if pc = 151 then hd_M_laysWays_151 (fun k0 v1 s => f_M_laysWays_151 FU k0 v1 s) ls st σ else none) hX.2.1 hX.2.2 (F := F_M_laysWays _) (fs_M_laysWays hX _) (rt_V rfl) oc_M_laysWays (by
    intro pc ls st σ o h
    rcases ite_s h with ⟨rfl, h⟩ | ⟨_, h⟩
    · exact hs_M_laysWays_151 (s_M_laysWays_151 hX FU) _ _ _ _ h
    cases h) 600 148 _ _ _ _ h
set_option maxRecDepth 100000 in
theorem s_M_laysWays_48 {X : CXT} (hX : XM X) : ∀ (k0 : Nat) (s : Mem) (o : Mem), f_M_laysWays_48 k0 s = some o → BSnd X 2 328 (ovV o) 48 [some (.inr (.inr (12, k0)))] [] s := by
  intro k0 s o h
  exact evC (chs := c_M_laysWays) (cuts := cu_M_laysWays) (G := fun pc ls st σ => if pc = 50 then hd_M_laysWays_50 (fun k0 v1 s => f_M_laysWays_50 (fun k0 s => f_M_laysWays_148 k0 s) FU k0 v1 s) ls st σ else if pc = 148 then hd_M_laysWays_148 (fun k0 s => f_M_laysWays_148 k0 s) ls st σ else none) hX.2.1 hX.2.2 (F := F_M_laysWays _) (fs_M_laysWays hX _) (rt_V rfl) oc_M_laysWays (by
    intro pc ls st σ o h
    rcases ite_s h with ⟨rfl, h⟩ | ⟨_, h⟩
    · exact hs_M_laysWays_50 (s_M_laysWays_50 hX (s_M_laysWays_148 hX) FU) _ _ _ _ h
    rcases ite_s h with ⟨rfl, h⟩ | ⟨_, h⟩
    · exact hs_M_laysWays_148 (s_M_laysWays_148 hX) _ _ _ _ h
    cases h) 600 48 _ _ _ _ h
set_option maxRecDepth 100000 in
theorem s_M_laysWays {X : CXT} (hX : XM X) : ∀ (k0 : Nat) (s : Mem) (o : Mem), f_M_laysWays k0 s = some o → BSnd X 2 328 (ovV o) 0 (entL [.inr (.inr (12, k0))]) [] s := by
  intro k0 s o h
  rw [f_M_laysWays_eq] at h
  exact evC (chs := c_M_laysWays) (cuts := cu_M_laysWays) (G := fun pc ls st σ => if pc = 2 then hd_M_laysWays_2 (fun k0 v1 s => f_M_laysWays_2 (fun k0 s => f_M_laysWays_48 k0 s) FU k0 v1 s) ls st σ else if pc = 48 then hd_M_laysWays_48 (fun k0 s => f_M_laysWays_48 k0 s) ls st σ else none) hX.2.1 hX.2.2 (F := F_M_laysWays _) (fs_M_laysWays hX _) (rt_V rfl) oc_M_laysWays (by
    intro pc ls st σ o h
    rcases ite_s h with ⟨rfl, h⟩ | ⟨_, h⟩
    · exact hs_M_laysWays_2 (s_M_laysWays_2 hX (s_M_laysWays_48 hX) FU) _ _ _ _ h
    rcases ite_s h with ⟨rfl, h⟩ | ⟨_, h⟩
    · exact hs_M_laysWays_48 (s_M_laysWays_48 hX) _ _ _ _ h
    cases h) 600 0 _ _ _ _ h
theorem ok_M_laysWays {X : CXT} (hX : XM X) : SemOK X 2 328 sm_M_laysWays := by
  intro O av σ K o h
  unfold sm_M_laysWays at h
  split at h
  · obtain ⟨r, hf, h⟩ := Option.bind_eq_some_iff.mp h
    exact ⟨ovV r, fun ht => sp_of hX.1 (by decide) (List.mem_range.mpr (by decide)) (by decide +kernel) ht (Nat.le_of_ble_eq_true rfl) (s_M_laysWays hX _ _ _ hf), trivial, h⟩
  · cases h
noncomputable def f_M_mostBehind_5 : Nat → Nat → Int32 → Int64 → Int32 → Mem → Option (Int64 × Mem)
  | 0, _, _, _, _, _ => none
  | n + 1, k0, v1, v2, v4, s =>
    cif (((200 : Int32)) < v4) (
      some (v2, s)) (
      gd (inb (((((201 : Int32)) * v1) + ((201 : Int32))) + v4) (lenM (k0 + 12))) <|
      gd (inb (((((201 : Int32)) * v1) + ((201 : Int32))) + v4) (lenM (k0 + 13))) <|
      let x1 : Int64 := (rJ s (k0 + 12) (ix (((((201 : Int32)) * v1) + ((201 : Int32))) + v4))) * (rJ s (k0 + 13) (ix (((((201 : Int32)) * v1) + ((201 : Int32))) + v4)))
      cif ((lg_cmp x1 v2) ≤ 0) (
        f_M_mostBehind_5 n k0 v1 v2 (v4 + (1 : Int32)) s) (
        f_M_mostBehind_5 n k0 v1 x1 (v4 + (1 : Int32)) s))
noncomputable def b_M_mostBehind (k0 : Nat) (v1 : Int32) (s : Mem) : Option (Int64 × Mem) :=
  let x1 : Int64 := (0 : Int64)
  f_M_mostBehind_5 FU k0 v1 x1 ((0 : Int32)) s
noncomputable def f_M_mostBehind : Nat → Int32 → Mem → Option (Int64 × Mem) := Classical.choose (⟨b_M_mostBehind, rfl⟩ : ∃ f : Nat → Int32 → Mem → Option (Int64 × Mem), f = b_M_mostBehind)
theorem f_M_mostBehind_eq : f_M_mostBehind = b_M_mostBehind := Classical.choose_spec (⟨b_M_mostBehind, rfl⟩ : ∃ f : Nat → Int32 → Mem → Option (Int64 × Mem), f = b_M_mostBehind)
noncomputable def sm_M_mostBehind (O : Type) (av : List AV) (σ : Mem) (K : AV → Mem → Option O) : Option O := match av with
  | [.inr (.inr (12, k0)), .inl v1] => (f_M_mostBehind k0 v1 σ).bind fun r => K (.inr (.inl r.1)) r.2
  | _ => none
def c_M_mostBehind : List (List CE) := [[(0, .lconst 0, 1, 0, 0, 0), (1, .lstore_n 2, 1, 0, 0, 0), (2, .iconst 0, 1, 0, 0, 0), (3, .istore 4, 2, 0, 0, 0), (5, .iload 4, 2, 0, 0, 0), (7, .sipush 200, 3, 200, 0, 0), (10, .if_icmp .gt 60, 3, 70, 0, 0), (13, .aload_n 0, 1, 0, 0, 0), (14, .getfield 47, 3, 12, 28, 0)], [(17, .sipush 201, 3, 201, 0, 0), (20, .iload_n 1, 1, 0, 0, 0), (21, .imul, 1, 0, 0, 0), (22, .sipush 201, 3, 201, 0, 0), (25, .iadd, 1, 0, 0, 0), (26, .iload 4, 2, 0, 0, 0), (28, .iadd, 1, 0, 0, 0), (29, .laload, 1, 0, 0, 0), (30, .aload_n 0, 1, 0, 0, 0), (31, .getfield 51, 3, 12, 29, 0)], [(34, .sipush 201, 3, 201, 0, 0), (37, .iload_n 1, 1, 0, 0, 0), (38, .imul, 1, 0, 0, 0), (39, .sipush 201, 3, 201, 0, 0), (42, .iadd, 1, 0, 0, 0), (43, .iload 4, 2, 0, 0, 0), (45, .iadd, 1, 0, 0, 0), (46, .laload, 1, 0, 0, 0), (47, .lmul, 1, 0, 0, 0)], [(48, .lstore 5, 2, 0, 0, 0), (50, .lload 5, 2, 0, 0, 0), (52, .lload_n 2, 1, 0, 0, 0), (53, .lcmp, 1, 0, 0, 0), (54, .ifCond .le 8, 3, 62, 0, 0), (57, .lload 5, 2, 0, 0, 0), (59, .goto 4, 3, 63, 0, 0), (62, .lload_n 2, 1, 0, 0, 0), (63, .lstore_n 2, 1, 0, 0, 0)], [(64, .iinc 4 1, 3, 1, 0, 0), (67, .goto (-62), 3, 5, 0, 0), (70, .lload_n 2, 1, 0, 0, 0), (71, .lreturn, 1, 0, 0, 0)]]
set_option maxRecDepth 100000 in
theorem oc_M_mostBehind : okC 330 c_M_mostBehind = true := by decide +kernel
def cu_M_mostBehind : List (Nat × List Bool) := [(5, [true, true, true, false, true])]
noncomputable def F_M_mostBehind (O : Type) (a : Nat) (av : List AV) (σ : Mem) (K : AV → Mem → Option O) : Option O := none
theorem fs_M_mostBehind {X : CXT} (hX : XM X) (O : Type) : FS X 1 (F_M_mostBehind O) := by
  intro a av σ K o h
  cases h
def hd_M_mostBehind_5 {O : Type} (g : Nat → Int32 → Int64 → Int32 → Mem → Option O) (ls : OL) (st : List AV) (σ : Mem) : Option O := match ls, st with
  | [some (.inr (.inr (12, k0))), some (.inl v1), some (.inr (.inl v2)), none, some (.inl v4)], [] => g k0 v1 v2 v4 σ
  | _, _ => none
theorem hs_M_mostBehind_5 {X : CXT} {g : Nat → Int32 → Int64 → Int32 → Mem → Option (Int64 × Mem)} (hg : ∀ (k0 : Nat) (v1 : Int32) (v2 : Int64) (v4 : Int32) (s : Mem) (o : Int64 × Mem), g k0 v1 v2 v4 s = some o → BSnd X 1 330 (ovL o) 5 [some (.inr (.inr (12, k0))), some (.inl v1), some (.inr (.inl v2)), none, some (.inl v4)] [] s) : ∀ ls st σ o, hd_M_mostBehind_5 g ls st σ = some o → BSnd X 1 330 (ovL o) 5 ls st σ := by
  intro ls st σ o h
  unfold hd_M_mostBehind_5 at h
  split at h
  · exact hg _ _ _ _ _ _ h
  · cases h
set_option maxRecDepth 100000 in
theorem s_M_mostBehind_5 {X : CXT} (hX : XM X) : ∀ n : Nat, ∀ (k0 : Nat) (v1 : Int32) (v2 : Int64) (v4 : Int32) (s : Mem) (o : Int64 × Mem), f_M_mostBehind_5 n k0 v1 v2 v4 s = some o → BSnd X 1 330 (ovL o) 5 [some (.inr (.inr (12, k0))), some (.inl v1), some (.inr (.inl v2)), none, some (.inl v4)] [] s := by
  intro n
  induction n with
  | zero => intro k0 v1 v2 v4 s o h; cases h
  | succ n ih =>
    intro k0 v1 v2 v4 s o h
    exact evC (chs := c_M_mostBehind) (cuts := cu_M_mostBehind) (G := fun pc ls st σ => if pc = 5 then hd_M_mostBehind_5 (fun k0 v1 v2 v4 s => f_M_mostBehind_5 n k0 v1 v2 v4 s) ls st σ else none) hX.2.1 hX.2.2 (F := F_M_mostBehind _) (fs_M_mostBehind hX _) (rt_L rfl) oc_M_mostBehind (by
    intro pc ls st σ o h
    rcases ite_s h with ⟨rfl, h⟩ | ⟨_, h⟩
    · exact hs_M_mostBehind_5 ih _ _ _ _ h
    cases h) 204 5 _ _ _ _ h
set_option maxRecDepth 100000 in
theorem s_M_mostBehind {X : CXT} (hX : XM X) : ∀ (k0 : Nat) (v1 : Int32) (s : Mem) (o : Int64 × Mem), f_M_mostBehind k0 v1 s = some o → BSnd X 1 330 (ovL o) 0 (entL [.inr (.inr (12, k0)), .inl v1]) [] s := by
  intro k0 v1 s o h
  rw [f_M_mostBehind_eq] at h
  exact evC (chs := c_M_mostBehind) (cuts := cu_M_mostBehind) (G := fun pc ls st σ => if pc = 5 then hd_M_mostBehind_5 (fun k0 v1 v2 v4 s => f_M_mostBehind_5 FU k0 v1 v2 v4 s) ls st σ else none) hX.2.1 hX.2.2 (F := F_M_mostBehind _) (fs_M_mostBehind hX _) (rt_L rfl) oc_M_mostBehind (by
    intro pc ls st σ o h
    rcases ite_s h with ⟨rfl, h⟩ | ⟨_, h⟩
    · exact hs_M_mostBehind_5 (s_M_mostBehind_5 hX FU) _ _ _ _ h
    cases h) 204 0 _ _ _ _ h
theorem ok_M_mostBehind {X : CXT} (hX : XM X) : SemOK X 1 330 sm_M_mostBehind := by
  intro O av σ K o h
  unfold sm_M_mostBehind at h
  split at h
  · obtain ⟨r, hf, h⟩ := Option.bind_eq_some_iff.mp h
    exact ⟨ovL r, fun ht => sp_of hX.1 (by decide) (List.mem_range.mpr (by decide)) (by decide +kernel) ht (Nat.le_of_ble_eq_true rfl) (s_M_mostBehind hX _ _ _ _ hf), trivial, h⟩
  · cases h
noncomputable def f_M_fits_35 (K63 : Nat → Int32 → Mem → Option (Int32 × Mem)) : Nat → Nat → Int32 → Int32 → Mem → Option (Int32 × Mem)
  | 0, _, _, _, _ => none
  | n + 1, k0, v2, v3, s =>
    cif (((12 : Int32)) ≤ v3) (
      K63 k0 v2 s) (
      (f_M_mostBehind k0 v3 s).bind fun r1 =>
      (f_M_mostBehind k0 v2 r1.2).bind fun r2 =>
      cif (0 ≤ (lg_cmp r1.1 r2.1)) (
        f_M_fits_35 K63 n k0 v2 (v3 + (1 : Int32)) r2.2) (
        f_M_fits_35 K63 n k0 v3 (v3 + (1 : Int32)) r2.2))
noncomputable def f_M_fits_63 (k0 : Nat) (v2 : Int32) (s : Mem) : Option (Int32 × Mem) :=
  gd (inb ((0 : Int32)) (lenM (k0 + 13))) <|
  cif ((lg_cmp (rJ s (k0 + 13) (ix ((0 : Int32)))) ((0 : Int64))) = 0) (
    some ((-1 : Int32), s)) (
    some (v2, s))
noncomputable def b_M_fits (k0 : Nat) (v1 : Int32) (s : Mem) : Option (Int32 × Mem) :=
  (f_M_isIn v1 ((0 : Int32)) ((1 : Int32)) s).bind fun r1 =>
  cif ((b2i r1.1) = 0) (
    some ((-1 : Int32), r1.2)) (
    (f_M_laysWays k0 r1.2).bind fun r2 =>
    cif (v1 = 0) (
      gd (inb ((0 : Int32)) (lenM (k0 + 13))) <|
      some (((rJ r2 (k0 + 13) (ix ((0 : Int32)))) - (rJ r2 (k0 + 13) (ix ((0 : Int32)))) / ((1000000007 : Int64)) * ((1000000007 : Int64))).toInt32, r2)) (
      f_M_fits_35 (fun k0 v2 s => f_M_fits_63 k0 v2 s) FU k0 ((0 : Int32)) ((1 : Int32)) r2))
noncomputable def f_M_fits : Nat → Int32 → Mem → Option (Int32 × Mem) := Classical.choose (⟨b_M_fits, rfl⟩ : ∃ f : Nat → Int32 → Mem → Option (Int32 × Mem), f = b_M_fits)
theorem f_M_fits_eq : f_M_fits = b_M_fits := Classical.choose_spec (⟨b_M_fits, rfl⟩ : ∃ f : Nat → Int32 → Mem → Option (Int32 × Mem), f = b_M_fits)
noncomputable def sm_M_fits (O : Type) (av : List AV) (σ : Mem) (K : AV → Mem → Option O) : Option O := match av with
  | [.inr (.inr (12, k0)), .inl v1] => (f_M_fits k0 v1 σ).bind fun r => K (.inl r.1) r.2
  | _ => none
def c_M_fits : List (List CE) := [[(0, .iload_n 1, 1, 0, 0, 0), (1, .iconst 0, 1, 0, 0, 0), (2, .iconst 1, 1, 1, 0, 0), (3, .invokestatic 60, 3, 230, 3, 1), (6, .ifCond .ne 5, 3, 11, 0, 0), (9, .iconst (-1), 1, 1, 0, 1), (10, .ireturn, 1, 0, 0, 0), (11, .aload_n 0, 1, 0, 0, 0), (12, .invokevirtual 403, 3, 328, 1, 24), (15, .iload_n 1, 1, 0, 0, 0)], [(16, .ifCond .ne 15, 3, 31, 0, 0), (19, .aload_n 0, 1, 0, 0, 0), (20, .getfield 51, 3, 12, 29, 0), (23, .iconst 0, 1, 0, 0, 0), (24, .laload, 1, 0, 0, 0), (25, .ldc2_w 406, 3, 1000000007, 0, 0), (28, .lrem, 1, 0, 0, 0), (29, .l2i, 1, 0, 0, 0), (30, .ireturn, 1, 0, 0, 0), (31, .iconst 0, 1, 0, 0, 0)], [(32, .istore_n 2, 1, 0, 0, 0), (33, .iconst 1, 1, 1, 0, 0), (34, .istore_n 3, 1, 0, 0, 0), (35, .iload_n 3, 1, 0, 0, 0), (36, .bipush 12, 2, 12, 0, 0), (38, .if_icmp .ge 25, 3, 63, 0, 0), (41, .aload_n 0, 1, 0, 0, 0), (42, .iload_n 3, 1, 0, 0, 0), (43, .invokevirtual 408, 3, 330, 2, 25), (46, .aload_n 0, 1, 0, 0, 0), (47, .iload_n 2, 1, 0, 0, 0)], [(48, .invokevirtual 408, 3, 330, 2, 25), (51, .lcmp, 1, 0, 0, 0), (52, .ifCond .ge 5, 3, 57, 0, 0), (55, .iload_n 3, 1, 0, 0, 0), (56, .istore_n 2, 1, 0, 0, 0), (57, .iinc 3 1, 3, 1, 0, 0), (60, .goto (-25), 3, 35, 0, 0), (63, .aload_n 0, 1, 0, 0, 0)], [(64, .getfield 51, 3, 12, 29, 0), (67, .iconst 0, 1, 0, 0, 0), (68, .laload, 1, 0, 0, 0), (69, .lconst 0, 1, 0, 0, 0), (70, .lcmp, 1, 0, 0, 0), (71, .ifCond .ne 7, 3, 78, 0, 0), (74, .iconst (-1), 1, 1, 0, 1), (75, .goto 4, 3, 79, 0, 0), (78, .iload_n 2, 1, 0, 0, 0), (79, .ireturn, 1, 0, 0, 0)]]
set_option maxRecDepth 100000 in
theorem oc_M_fits : okC 327 c_M_fits = true := by decide +kernel
def cu_M_fits : List (Nat × List Bool) := [(35, [true, false, true, true]), (63, [true, false, true])]
noncomputable def F_M_fits (O : Type) (a : Nat) (av : List AV) (σ : Mem) (K : AV → Mem → Option O) : Option O := if a = 230 then sm_M_isIn O av σ K else if a = 328 then sm_M_laysWays O av σ K else if a = 330 then sm_M_mostBehind O av σ K else none
theorem fs_M_fits {X : CXT} (hX : XM X) (O : Type) : FS X 3 (F_M_fits O) := by
  intro a av σ K o h
  unfold F_M_fits at h
  rcases ite_s h with ⟨rfl, h⟩ | ⟨_, h⟩
  · obtain ⟨r, h1, h2, h3⟩ := ok_M_isIn hX _ _ _ _ _ h
    exact ⟨r, fun ht => ⟨1, by decide, h1 ht⟩, h2, h3⟩
  rcases ite_s h with ⟨rfl, h⟩ | ⟨_, h⟩
  · obtain ⟨r, h1, h2, h3⟩ := ok_M_laysWays hX _ _ _ _ _ h
    exact ⟨r, fun ht => ⟨2, by decide, h1 ht⟩, h2, h3⟩
  rcases ite_s h with ⟨rfl, h⟩ | ⟨_, h⟩
  · obtain ⟨r, h1, h2, h3⟩ := ok_M_mostBehind hX _ _ _ _ _ h
    exact ⟨r, fun ht => ⟨1, by decide, h1 ht⟩, h2, h3⟩
  cases h
def hd_M_fits_35 {O : Type} (g : Nat → Int32 → Int32 → Mem → Option O) (ls : OL) (st : List AV) (σ : Mem) : Option O := match ls, st with
  | [some (.inr (.inr (12, k0))), none, some (.inl v2), some (.inl v3)], [] => g k0 v2 v3 σ
  | _, _ => none
theorem hs_M_fits_35 {X : CXT} {g : Nat → Int32 → Int32 → Mem → Option (Int32 × Mem)} (hg : ∀ (k0 : Nat) (v2 : Int32) (v3 : Int32) (s : Mem) (o : Int32 × Mem), g k0 v2 v3 s = some o → BSnd X 3 327 (ovI o) 35 [some (.inr (.inr (12, k0))), none, some (.inl v2), some (.inl v3)] [] s) : ∀ ls st σ o, hd_M_fits_35 g ls st σ = some o → BSnd X 3 327 (ovI o) 35 ls st σ := by
  intro ls st σ o h
  unfold hd_M_fits_35 at h
  split at h
  · exact hg _ _ _ _ _ h
  · cases h
def hd_M_fits_63 {O : Type} (g : Nat → Int32 → Mem → Option O) (ls : OL) (st : List AV) (σ : Mem) : Option O := match ls, st with
  | [some (.inr (.inr (12, k0))), none, some (.inl v2)], [] => g k0 v2 σ
  | _, _ => none
theorem hs_M_fits_63 {X : CXT} {g : Nat → Int32 → Mem → Option (Int32 × Mem)} (hg : ∀ (k0 : Nat) (v2 : Int32) (s : Mem) (o : Int32 × Mem), g k0 v2 s = some o → BSnd X 3 327 (ovI o) 63 [some (.inr (.inr (12, k0))), none, some (.inl v2)] [] s) : ∀ ls st σ o, hd_M_fits_63 g ls st σ = some o → BSnd X 3 327 (ovI o) 63 ls st σ := by
  intro ls st σ o h
  unfold hd_M_fits_63 at h
  split at h
  · exact hg _ _ _ _ h
  · cases h
set_option maxRecDepth 100000 in
theorem s_M_fits_35 {X : CXT} (hX : XM X) {K63 : Nat → Int32 → Mem → Option (Int32 × Mem)} (hK63 : ∀ (k0 : Nat) (v2 : Int32) (s : Mem) (o : Int32 × Mem), K63 k0 v2 s = some o → BSnd X 3 327 (ovI o) 63 [some (.inr (.inr (12, k0))), none, some (.inl v2)] [] s) : ∀ n : Nat, ∀ (k0 : Nat) (v2 : Int32) (v3 : Int32) (s : Mem) (o : Int32 × Mem), f_M_fits_35 K63 n k0 v2 v3 s = some o → BSnd X 3 327 (ovI o) 35 [some (.inr (.inr (12, k0))), none, some (.inl v2), some (.inl v3)] [] s := by
  intro n
  induction n with
  | zero => intro k0 v2 v3 s o h; cases h
  | succ n ih =>
    intro k0 v2 v3 s o h
    exact evC (chs := c_M_fits) (cuts := cu_M_fits) (G := fun pc ls st σ => if pc = 35 then hd_M_fits_35 (fun k0 v2 v3 s => f_M_fits_35 K63 n k0 v2 v3 s) ls st σ else if pc = 63 then hd_M_fits_63 (fun k0 v2 s => K63 k0 v2 s) ls st σ else none) hX.2.1 hX.2.2 (F := F_M_fits _) (fs_M_fits hX _) (rt_I rfl) oc_M_fits (by
    intro pc ls st σ o h
    rcases ite_s h with ⟨rfl, h⟩ | ⟨_, h⟩
    · exact hs_M_fits_35 ih _ _ _ _ h
    rcases ite_s h with ⟨rfl, h⟩ | ⟨_, h⟩
    · exact hs_M_fits_63 hK63 _ _ _ _ h
    cases h) 236 35 _ _ _ _ h
set_option maxRecDepth 100000 in
theorem s_M_fits_63 {X : CXT} (hX : XM X) : ∀ (k0 : Nat) (v2 : Int32) (s : Mem) (o : Int32 × Mem), f_M_fits_63 k0 v2 s = some o → BSnd X 3 327 (ovI o) 63 [some (.inr (.inr (12, k0))), none, some (.inl v2)] [] s := by
  intro k0 v2 s o h
  exact evC (chs := c_M_fits) (cuts := cu_M_fits) (G := fun pc ls st σ => none) hX.2.1 hX.2.2 (F := F_M_fits _) (fs_M_fits hX _) (rt_I rfl) oc_M_fits (by
    intro pc ls st σ o h
    cases h) 236 63 _ _ _ _ h
set_option maxRecDepth 100000 in
theorem s_M_fits {X : CXT} (hX : XM X) : ∀ (k0 : Nat) (v1 : Int32) (s : Mem) (o : Int32 × Mem), f_M_fits k0 v1 s = some o → BSnd X 3 327 (ovI o) 0 (entL [.inr (.inr (12, k0)), .inl v1]) [] s := by
  intro k0 v1 s o h
  rw [f_M_fits_eq] at h
  exact evC (chs := c_M_fits) (cuts := cu_M_fits) (G := fun pc ls st σ => if pc = 35 then hd_M_fits_35 (fun k0 v2 v3 s => f_M_fits_35 (fun k0 v2 s => f_M_fits_63 k0 v2 s) FU k0 v2 v3 s) ls st σ else if pc = 63 then hd_M_fits_63 (fun k0 v2 s => f_M_fits_63 k0 v2 s) ls st σ else none) hX.2.1 hX.2.2 (F := F_M_fits _) (fs_M_fits hX _) (rt_I rfl) oc_M_fits (by
    intro pc ls st σ o h
    rcases ite_s h with ⟨rfl, h⟩ | ⟨_, h⟩
    · exact hs_M_fits_35 (s_M_fits_35 hX (s_M_fits_63 hX) FU) _ _ _ _ h
    rcases ite_s h with ⟨rfl, h⟩ | ⟨_, h⟩
    · exact hs_M_fits_63 (s_M_fits_63 hX) _ _ _ _ h
    cases h) 236 0 _ _ _ _ h
theorem ok_M_fits {X : CXT} (hX : XM X) : SemOK X 3 327 sm_M_fits := by
  intro O av σ K o h
  unfold sm_M_fits at h
  split at h
  · obtain ⟨r, hf, h⟩ := Option.bind_eq_some_iff.mp h
    exact ⟨ovI r, fun ht => sp_of hX.1 (by decide) (List.mem_range.mpr (by decide)) (by decide +kernel) ht (Nat.le_of_ble_eq_true rfl) (s_M_fits hX _ _ _ _ hf), trivial, h⟩
  · cases h
noncomputable def b_M_deed (k0 : Nat) (v1 : Int32) (v2 : Int32) (s : Mem) : Option (Int32 × Mem) :=
  cif (v1 = ((-1 : Int32))) (
    gd (inb ((60 : Int32)) (lenM (k0 + 1))) <|
    let s1 : Mem := wI s (k0 + 1) (ix ((60 : Int32))) ((0 : Int32))
    some ((0 : Int32), s1)) (
    (f_M_isIn v1 ((0 : Int32)) ((99 : Int32)) s).bind fun r2 =>
    cif ((b2i r2.1) = 0) (
      some ((-1 : Int32), r2.2)) (
      (f_M_isIn v2 ((0 : Int32)) ((9 : Int32)) r2.2).bind fun r3 =>
      cif ((b2i r3.1) = 0) (
        some ((-1 : Int32), r3.2)) (
        gd (inb ((60 : Int32)) (lenM (k0 + 1))) <|
        cif ((rI r3.2 (k0 + 1) (ix ((60 : Int32)))) = ((10 : Int32))) (
          some ((-1 : Int32), r3.2)) (
          gd (inb ((60 : Int32)) (lenM (k0 + 1))) <|
          gd (inb (((312 : Int32)) + (((2 : Int32)) * (rI r3.2 (k0 + 1) (ix ((60 : Int32)))))) (lenM (k0 + 1))) <|
          let s4 : Mem := wI r3.2 (k0 + 1) (ix (((312 : Int32)) + (((2 : Int32)) * (rI r3.2 (k0 + 1) (ix ((60 : Int32))))))) v1
          gd (inb ((60 : Int32)) (lenM (k0 + 1))) <|
          gd (inb ((((312 : Int32)) + (((2 : Int32)) * (rI s4 (k0 + 1) (ix ((60 : Int32)))))) + ((1 : Int32))) (lenM (k0 + 1))) <|
          let s5 : Mem := wI s4 (k0 + 1) (ix ((((312 : Int32)) + (((2 : Int32)) * (rI s4 (k0 + 1) (ix ((60 : Int32)))))) + ((1 : Int32)))) v2
          gd (inb ((60 : Int32)) (lenM (k0 + 1))) <|
          gd (inb ((60 : Int32)) (lenM (k0 + 1))) <|
          let s6 : Mem := wI s5 (k0 + 1) (ix ((60 : Int32))) ((rI s5 (k0 + 1) (ix ((60 : Int32)))) + ((1 : Int32)))
          gd (inb ((60 : Int32)) (lenM (k0 + 1))) <|
          some (rI s6 (k0 + 1) (ix ((60 : Int32))), s6)))))
noncomputable def f_M_deed : Nat → Int32 → Int32 → Mem → Option (Int32 × Mem) := Classical.choose (⟨b_M_deed, rfl⟩ : ∃ f : Nat → Int32 → Int32 → Mem → Option (Int32 × Mem), f = b_M_deed)
theorem f_M_deed_eq : f_M_deed = b_M_deed := Classical.choose_spec (⟨b_M_deed, rfl⟩ : ∃ f : Nat → Int32 → Int32 → Mem → Option (Int32 × Mem), f = b_M_deed)
noncomputable def sm_M_deed (O : Type) (av : List AV) (σ : Mem) (K : AV → Mem → Option O) : Option O := match av with
  | [.inr (.inr (12, k0)), .inl v1, .inl v2] => (f_M_deed k0 v1 v2 σ).bind fun r => K (.inl r.1) r.2
  | _ => none
def c_M_deed : List (List CE) := [[(0, .iload_n 1, 1, 0, 0, 0), (1, .iconst (-1), 1, 1, 0, 1), (2, .if_icmp .ne 13, 3, 15, 0, 0), (5, .aload_n 0, 1, 0, 0, 0), (6, .getfield 7, 3, 12, 0, 0), (9, .bipush 60, 2, 60, 0, 0), (11, .iconst 0, 1, 0, 0, 0), (12, .iastore, 1, 0, 0, 0), (13, .iconst 0, 1, 0, 0, 0), (14, .ireturn, 1, 0, 0, 0), (15, .iload_n 1, 1, 0, 0, 0)], [(16, .iconst 0, 1, 0, 0, 0), (17, .bipush 99, 2, 99, 0, 0), (19, .invokestatic 60, 3, 230, 3, 1), (22, .ifCond .eq 25, 3, 47, 0, 0), (25, .iload_n 2, 1, 0, 0, 0), (26, .iconst 0, 1, 0, 0, 0), (27, .bipush 9, 2, 9, 0, 0), (29, .invokestatic 60, 3, 230, 3, 1)], [(32, .ifCond .eq 15, 3, 47, 0, 0), (35, .aload_n 0, 1, 0, 0, 0), (36, .getfield 7, 3, 12, 0, 0), (39, .bipush 60, 2, 60, 0, 0), (41, .iaload, 1, 0, 0, 0), (42, .bipush 10, 2, 10, 0, 0), (44, .if_icmp .ne 5, 3, 49, 0, 0), (47, .iconst (-1), 1, 1, 0, 1)], [(48, .ireturn, 1, 0, 0, 0), (49, .aload_n 0, 1, 0, 0, 0), (50, .getfield 7, 3, 12, 0, 0), (53, .sipush 312, 3, 312, 0, 0), (56, .iconst 2, 1, 2, 0, 0), (57, .aload_n 0, 1, 0, 0, 0), (58, .getfield 7, 3, 12, 0, 0), (61, .bipush 60, 2, 60, 0, 0), (63, .iaload, 1, 0, 0, 0)], [(64, .imul, 1, 0, 0, 0), (65, .iadd, 1, 0, 0, 0), (66, .iload_n 1, 1, 0, 0, 0), (67, .iastore, 1, 0, 0, 0), (68, .aload_n 0, 1, 0, 0, 0), (69, .getfield 7, 3, 12, 0, 0), (72, .sipush 312, 3, 312, 0, 0), (75, .iconst 2, 1, 2, 0, 0), (76, .aload_n 0, 1, 0, 0, 0), (77, .getfield 7, 3, 12, 0, 0)], [(80, .bipush 60, 2, 60, 0, 0), (82, .iaload, 1, 0, 0, 0), (83, .imul, 1, 0, 0, 0), (84, .iadd, 1, 0, 0, 0), (85, .iconst 1, 1, 1, 0, 0), (86, .iadd, 1, 0, 0, 0), (87, .iload_n 2, 1, 0, 0, 0), (88, .iastore, 1, 0, 0, 0), (89, .aload_n 0, 1, 0, 0, 0), (90, .getfield 7, 3, 12, 0, 0), (93, .bipush 60, 2, 60, 0, 0), (95, .dup2, 1, 0, 0, 0)], [(96, .iaload, 1, 0, 0, 0), (97, .iconst 1, 1, 1, 0, 0), (98, .iadd, 1, 0, 0, 0), (99, .iastore, 1, 0, 0, 0), (100, .aload_n 0, 1, 0, 0, 0), (101, .getfield 7, 3, 12, 0, 0), (104, .bipush 60, 2, 60, 0, 0), (106, .iaload, 1, 0, 0, 0), (107, .ireturn, 1, 0, 0, 0)]]
set_option maxRecDepth 100000 in
theorem oc_M_deed : okC 331 c_M_deed = true := by decide +kernel
def cu_M_deed : List (Nat × List Bool) := []
noncomputable def F_M_deed (O : Type) (a : Nat) (av : List AV) (σ : Mem) (K : AV → Mem → Option O) : Option O := if a = 230 then sm_M_isIn O av σ K else none
theorem fs_M_deed {X : CXT} (hX : XM X) (O : Type) : FS X 2 (F_M_deed O) := by
  intro a av σ K o h
  unfold F_M_deed at h
  rcases ite_s h with ⟨rfl, h⟩ | ⟨_, h⟩
  · obtain ⟨r, h1, h2, h3⟩ := ok_M_isIn hX _ _ _ _ _ h
    exact ⟨r, fun ht => ⟨1, by decide, h1 ht⟩, h2, h3⟩
  cases h
set_option maxRecDepth 100000 in
theorem s_M_deed {X : CXT} (hX : XM X) : ∀ (k0 : Nat) (v1 : Int32) (v2 : Int32) (s : Mem) (o : Int32 × Mem), f_M_deed k0 v1 v2 s = some o → BSnd X 2 331 (ovI o) 0 (entL [.inr (.inr (12, k0)), .inl v1, .inl v2]) [] s := by
  intro k0 v1 v2 s o h
  rw [f_M_deed_eq] at h
  exact evC (chs := c_M_deed) (cuts := cu_M_deed) (G := fun pc ls st σ => none) hX.2.1 hX.2.2 (F := F_M_deed _) (fs_M_deed hX _) (rt_I rfl) oc_M_deed (by
    intro pc ls st σ o h
    cases h) 308 0 _ _ _ _ h
theorem ok_M_deed {X : CXT} (hX : XM X) : SemOK X 2 331 sm_M_deed := by
  intro O av σ K o h
  unfold sm_M_deed at h
  split at h
  · obtain ⟨r, hf, h⟩ := Option.bind_eq_some_iff.mp h
    exact ⟨ovI r, fun ht => sp_of hX.1 (by decide) (List.mem_range.mpr (by decide)) (by decide +kernel) ht (Nat.le_of_ble_eq_true rfl) (s_M_deed hX _ _ _ _ _ hf), trivial, h⟩
  · cases h
noncomputable def f_M_sumOf_5 : Nat → Nat → Int32 → Int32 → Int32 → Int32 → Mem → Option (Int32 × Mem)
  | 0, _, _, _, _, _, _ => none
  | n + 1, k0, v1, v2, v3, v4, s =>
    gd (inb ((60 : Int32)) (lenM (k0 + 1))) <|
    cif ((rI s (k0 + 1) (ix ((60 : Int32)))) ≤ v4) (
      some (v3, s)) (
      cif (((v1 >>> (v4 &&& 31)) &&& ((1 : Int32))) = ((1 : Int32))) (
        gd (inb ((((312 : Int32)) + (((2 : Int32)) * v4)) + v2) (lenM (k0 + 1))) <|
        let x1 : Int32 := v3 + (rI s (k0 + 1) (ix ((((312 : Int32)) + (((2 : Int32)) * v4)) + v2)))
        f_M_sumOf_5 n k0 v1 v2 x1 (v4 + (1 : Int32)) s) (
        let x2 : Int32 := v3 + ((0 : Int32))
        f_M_sumOf_5 n k0 v1 v2 x2 (v4 + (1 : Int32)) s))
noncomputable def b_M_sumOf (k0 : Nat) (v1 : Int32) (v2 : Int32) (s : Mem) : Option (Int32 × Mem) :=
  f_M_sumOf_5 FU k0 v1 v2 ((0 : Int32)) ((0 : Int32)) s
noncomputable def f_M_sumOf : Nat → Int32 → Int32 → Mem → Option (Int32 × Mem) := Classical.choose (⟨b_M_sumOf, rfl⟩ : ∃ f : Nat → Int32 → Int32 → Mem → Option (Int32 × Mem), f = b_M_sumOf)
theorem f_M_sumOf_eq : f_M_sumOf = b_M_sumOf := Classical.choose_spec (⟨b_M_sumOf, rfl⟩ : ∃ f : Nat → Int32 → Int32 → Mem → Option (Int32 × Mem), f = b_M_sumOf)
noncomputable def sm_M_sumOf (O : Type) (av : List AV) (σ : Mem) (K : AV → Mem → Option O) : Option O := match av with
  | [.inr (.inr (12, k0)), .inl v1, .inl v2] => (f_M_sumOf k0 v1 v2 σ).bind fun r => K (.inl r.1) r.2
  | _ => none
def c_M_sumOf : List (List CE) := [[(0, .iconst 0, 1, 0, 0, 0), (1, .istore_n 3, 1, 0, 0, 0), (2, .iconst 0, 1, 0, 0, 0), (3, .istore 4, 2, 0, 0, 0), (5, .iload 4, 2, 0, 0, 0), (7, .aload_n 0, 1, 0, 0, 0), (8, .getfield 7, 3, 12, 0, 0), (11, .bipush 60, 2, 60, 0, 0), (13, .iaload, 1, 0, 0, 0), (14, .if_icmp .ge 41, 3, 55, 0, 0)], [(17, .iload_n 3, 1, 0, 0, 0), (18, .iload_n 1, 1, 0, 0, 0), (19, .iload 4, 2, 0, 0, 0), (21, .ishr, 1, 0, 0, 0), (22, .iconst 1, 1, 1, 0, 0), (23, .iand, 1, 0, 0, 0), (24, .iconst 1, 1, 1, 0, 0), (25, .if_icmp .ne 21, 3, 46, 0, 0), (28, .aload_n 0, 1, 0, 0, 0), (29, .getfield 7, 3, 12, 0, 0)], [(32, .sipush 312, 3, 312, 0, 0), (35, .iconst 2, 1, 2, 0, 0), (36, .iload 4, 2, 0, 0, 0), (38, .imul, 1, 0, 0, 0), (39, .iadd, 1, 0, 0, 0), (40, .iload_n 2, 1, 0, 0, 0), (41, .iadd, 1, 0, 0, 0), (42, .iaload, 1, 0, 0, 0), (43, .goto 4, 3, 47, 0, 0), (46, .iconst 0, 1, 0, 0, 0), (47, .iadd, 1, 0, 0, 0)], [(48, .istore_n 3, 1, 0, 0, 0), (49, .iinc 4 1, 3, 1, 0, 0), (52, .goto (-47), 3, 5, 0, 0), (55, .iload_n 3, 1, 0, 0, 0), (56, .ireturn, 1, 0, 0, 0)]]
set_option maxRecDepth 100000 in
theorem oc_M_sumOf : okC 333 c_M_sumOf = true := by decide +kernel
def cu_M_sumOf : List (Nat × List Bool) := [(5, [true, true, true, true, true])]
noncomputable def F_M_sumOf (O : Type) (a : Nat) (av : List AV) (σ : Mem) (K : AV → Mem → Option O) : Option O := none
theorem fs_M_sumOf {X : CXT} (hX : XM X) (O : Type) : FS X 1 (F_M_sumOf O) := by
  intro a av σ K o h
  cases h
def hd_M_sumOf_5 {O : Type} (g : Nat → Int32 → Int32 → Int32 → Int32 → Mem → Option O) (ls : OL) (st : List AV) (σ : Mem) : Option O := match ls, st with
  | [some (.inr (.inr (12, k0))), some (.inl v1), some (.inl v2), some (.inl v3), some (.inl v4)], [] => g k0 v1 v2 v3 v4 σ
  | _, _ => none
theorem hs_M_sumOf_5 {X : CXT} {g : Nat → Int32 → Int32 → Int32 → Int32 → Mem → Option (Int32 × Mem)} (hg : ∀ (k0 : Nat) (v1 : Int32) (v2 : Int32) (v3 : Int32) (v4 : Int32) (s : Mem) (o : Int32 × Mem), g k0 v1 v2 v3 v4 s = some o → BSnd X 1 333 (ovI o) 5 [some (.inr (.inr (12, k0))), some (.inl v1), some (.inl v2), some (.inl v3), some (.inl v4)] [] s) : ∀ ls st σ o, hd_M_sumOf_5 g ls st σ = some o → BSnd X 1 333 (ovI o) 5 ls st σ := by
  intro ls st σ o h
  unfold hd_M_sumOf_5 at h
  split at h
  · exact hg _ _ _ _ _ _ _ h
  · cases h
set_option maxRecDepth 100000 in
theorem s_M_sumOf_5 {X : CXT} (hX : XM X) : ∀ n : Nat, ∀ (k0 : Nat) (v1 : Int32) (v2 : Int32) (v3 : Int32) (v4 : Int32) (s : Mem) (o : Int32 × Mem), f_M_sumOf_5 n k0 v1 v2 v3 v4 s = some o → BSnd X 1 333 (ovI o) 5 [some (.inr (.inr (12, k0))), some (.inl v1), some (.inl v2), some (.inl v3), some (.inl v4)] [] s := by
  intro n
  induction n with
  | zero => intro k0 v1 v2 v3 v4 s o h; cases h
  | succ n ih =>
    intro k0 v1 v2 v3 v4 s o h
    exact evC (chs := c_M_sumOf) (cuts := cu_M_sumOf) (G := fun pc ls st σ => if pc = 5 then hd_M_sumOf_5 (fun k0 v1 v2 v3 v4 s => f_M_sumOf_5 n k0 v1 v2 v3 v4 s) ls st σ else none) hX.2.1 hX.2.2 (F := F_M_sumOf _) (fs_M_sumOf hX _) (rt_I rfl) oc_M_sumOf (by
    intro pc ls st σ o h
    rcases ite_s h with ⟨rfl, h⟩ | ⟨_, h⟩
    · exact hs_M_sumOf_5 ih _ _ _ _ h
    cases h) 184 5 _ _ _ _ h
set_option maxRecDepth 100000 in
theorem s_M_sumOf {X : CXT} (hX : XM X) : ∀ (k0 : Nat) (v1 : Int32) (v2 : Int32) (s : Mem) (o : Int32 × Mem), f_M_sumOf k0 v1 v2 s = some o → BSnd X 1 333 (ovI o) 0 (entL [.inr (.inr (12, k0)), .inl v1, .inl v2]) [] s := by
  intro k0 v1 v2 s o h
  rw [f_M_sumOf_eq] at h
  exact evC (chs := c_M_sumOf) (cuts := cu_M_sumOf) (G := fun pc ls st σ => if pc = 5 then hd_M_sumOf_5 (fun k0 v1 v2 v3 v4 s => f_M_sumOf_5 FU k0 v1 v2 v3 v4 s) ls st σ else none) hX.2.1 hX.2.2 (F := F_M_sumOf _) (fs_M_sumOf hX _) (rt_I rfl) oc_M_sumOf (by
    intro pc ls st σ o h
    rcases ite_s h with ⟨rfl, h⟩ | ⟨_, h⟩
    · exact hs_M_sumOf_5 (s_M_sumOf_5 hX FU) _ _ _ _ h
    cases h) 184 0 _ _ _ _ h
theorem ok_M_sumOf {X : CXT} (hX : XM X) : SemOK X 1 333 sm_M_sumOf := by
  intro O av σ K o h
  unfold sm_M_sumOf at h
  split at h
  · obtain ⟨r, hf, h⟩ := Option.bind_eq_some_iff.mp h
    exact ⟨ovI r, fun ht => sp_of hX.1 (by decide) (List.mem_range.mpr (by decide)) (by decide +kernel) ht (Nat.le_of_ble_eq_true rfl) (s_M_sumOf hX _ _ _ _ _ hf), trivial, h⟩
  · cases h
noncomputable def f_M_ownsUp_39 (K86 : Nat → Int32 → Int32 → Mem → Option (Int32 × Mem)) : Nat → Nat → Int32 → Int32 → Int32 → Int32 → Int32 → Mem → Option (Int32 × Mem)
  | 0, _, _, _, _, _, _, _ => none
  | n + 1, k0, v1, v2, v3, v4, v5, s =>
    cif (v5 < 0) (
      K86 k0 v2 v4 s) (
      (f_M_sumOf k0 (v3 &&& (v5 ^^^ ((-1 : Int32)))) ((1 : Int32)) s).bind fun r1 =>
      cif (v1 < r1.1) (
        f_M_ownsUp_39 K86 n k0 v1 v2 v3 v4 (v5 - (1 : Int32)) r1.2) (
        (f_M_sumOf k0 v5 ((0 : Int32)) r1.2).bind fun r2 =>
        (f_M_sumOf k0 v4 ((0 : Int32)) r2.2).bind fun r3 =>
        cif (r3.1 < r2.1) (
          f_M_ownsUp_39 K86 n k0 v1 v2 v3 v4 (v5 - (1 : Int32)) r3.2) (
          f_M_ownsUp_39 K86 n k0 v1 v2 v3 v5 (v5 - (1 : Int32)) r3.2)))
noncomputable def f_M_ownsUp_86 (k0 : Nat) (v2 : Int32) (v4 : Int32) (s : Mem) : Option (Int32 × Mem) :=
  cif (v2 = 0) (
    (f_M_sumOf k0 v4 ((0 : Int32)) s).bind fun r1 =>
    some (r1.1, r1.2)) (
    some (v4, s))
noncomputable def b_M_ownsUp (k0 : Nat) (v1 : Int32) (v2 : Int32) (s : Mem) : Option (Int32 × Mem) :=
  (f_M_isIn v1 ((0 : Int32)) ((40 : Int32)) s).bind fun r1 =>
  cif ((b2i r1.1) = 0) (
    some ((-1 : Int32), r1.2)) (
    (f_M_isIn v2 ((0 : Int32)) ((1 : Int32)) r1.2).bind fun r2 =>
    cif ((b2i r2.1) = 0) (
      some ((-1 : Int32), r2.2)) (
      gd (inb ((60 : Int32)) (lenM (k0 + 1))) <|
      let x3 : Int32 := (((1 : Int32)) <<< ((rI r2.2 (k0 + 1) (ix ((60 : Int32)))) &&& 31)) - ((1 : Int32))
      f_M_ownsUp_39 (fun k0 v2 v4 s => f_M_ownsUp_86 k0 v2 v4 s) FU k0 v1 v2 x3 x3 x3 r2.2))
noncomputable def f_M_ownsUp : Nat → Int32 → Int32 → Mem → Option (Int32 × Mem) := Classical.choose (⟨b_M_ownsUp, rfl⟩ : ∃ f : Nat → Int32 → Int32 → Mem → Option (Int32 × Mem), f = b_M_ownsUp)
theorem f_M_ownsUp_eq : f_M_ownsUp = b_M_ownsUp := Classical.choose_spec (⟨b_M_ownsUp, rfl⟩ : ∃ f : Nat → Int32 → Int32 → Mem → Option (Int32 × Mem), f = b_M_ownsUp)
noncomputable def sm_M_ownsUp (O : Type) (av : List AV) (σ : Mem) (K : AV → Mem → Option O) : Option O := match av with
  | [.inr (.inr (12, k0)), .inl v1, .inl v2] => (f_M_ownsUp k0 v1 v2 σ).bind fun r => K (.inl r.1) r.2
  | _ => none
def c_M_ownsUp : List (List CE) := [[(0, .iload_n 1, 1, 0, 0, 0), (1, .iconst 0, 1, 0, 0, 0), (2, .bipush 40, 2, 40, 0, 0), (4, .invokestatic 60, 3, 230, 3, 1), (7, .ifCond .eq 12, 3, 19, 0, 0), (10, .iload_n 2, 1, 0, 0, 0), (11, .iconst 0, 1, 0, 0, 0), (12, .iconst 1, 1, 1, 0, 0), (13, .invokestatic 60, 3, 230, 3, 1)], [(16, .ifCond .ne 5, 3, 21, 0, 0), (19, .iconst (-1), 1, 1, 0, 1), (20, .ireturn, 1, 0, 0, 0), (21, .iconst 1, 1, 1, 0, 0), (22, .aload_n 0, 1, 0, 0, 0), (23, .getfield 7, 3, 12, 0, 0), (26, .bipush 60, 2, 60, 0, 0), (28, .iaload, 1, 0, 0, 0), (29, .ishl, 1, 0, 0, 0), (30, .iconst 1, 1, 1, 0, 0), (31, .isub, 1, 0, 0, 0)], [(32, .istore_n 3, 1, 0, 0, 0), (33, .iload_n 3, 1, 0, 0, 0), (34, .istore 4, 2, 0, 0, 0), (36, .iload_n 3, 1, 0, 0, 0), (37, .istore 5, 2, 0, 0, 0), (39, .iload 5, 2, 0, 0, 0), (41, .ifCond .lt 45, 3, 86, 0, 0), (44, .aload_n 0, 1, 0, 0, 0), (45, .iload_n 3, 1, 0, 0, 0), (46, .iload 5, 2, 0, 0, 0)], [(48, .iconst (-1), 1, 1, 0, 1), (49, .ixor, 1, 0, 0, 0), (50, .iand, 1, 0, 0, 0), (51, .iconst 1, 1, 1, 0, 0), (52, .invokevirtual 412, 3, 333, 3, 25), (55, .iload_n 1, 1, 0, 0, 0), (56, .if_icmp .gt 24, 3, 80, 0, 0), (59, .aload_n 0, 1, 0, 0, 0), (60, .iload 5, 2, 0, 0, 0), (62, .iconst 0, 1, 0, 0, 0), (63, .invokevirtual 412, 3, 333, 3, 25)], [(66, .aload_n 0, 1, 0, 0, 0), (67, .iload 4, 2, 0, 0, 0), (69, .iconst 0, 1, 0, 0, 0), (70, .invokevirtual 412, 3, 333, 3, 25), (73, .if_icmp .gt 7, 3, 80, 0, 0), (76, .iload 5, 2, 0, 0, 0), (78, .istore 4, 2, 0, 0, 0)], [(80, .iinc 5 (-1), 3, 1, 0, 1), (83, .goto (-44), 3, 39, 0, 0), (86, .iload_n 2, 1, 0, 0, 0), (87, .ifCond .ne 13, 3, 100, 0, 0), (90, .aload_n 0, 1, 0, 0, 0), (91, .iload 4, 2, 0, 0, 0), (93, .iconst 0, 1, 0, 0, 0), (94, .invokevirtual 412, 3, 333, 3, 25)], [(97, .goto 5, 3, 102, 0, 0), (100, .iload 4, 2, 0, 0, 0), (102, .ireturn, 1, 0, 0, 0)]]
set_option maxRecDepth 100000 in
theorem oc_M_ownsUp : okC 332 c_M_ownsUp = true := by decide +kernel
def cu_M_ownsUp : List (Nat × List Bool) := [(39, [true, true, true, true, true, true]), (86, [true, false, true, false, true])]
noncomputable def F_M_ownsUp (O : Type) (a : Nat) (av : List AV) (σ : Mem) (K : AV → Mem → Option O) : Option O := if a = 230 then sm_M_isIn O av σ K else if a = 333 then sm_M_sumOf O av σ K else none
theorem fs_M_ownsUp {X : CXT} (hX : XM X) (O : Type) : FS X 2 (F_M_ownsUp O) := by
  intro a av σ K o h
  unfold F_M_ownsUp at h
  rcases ite_s h with ⟨rfl, h⟩ | ⟨_, h⟩
  · obtain ⟨r, h1, h2, h3⟩ := ok_M_isIn hX _ _ _ _ _ h
    exact ⟨r, fun ht => ⟨1, by decide, h1 ht⟩, h2, h3⟩
  rcases ite_s h with ⟨rfl, h⟩ | ⟨_, h⟩
  · obtain ⟨r, h1, h2, h3⟩ := ok_M_sumOf hX _ _ _ _ _ h
    exact ⟨r, fun ht => ⟨1, by decide, h1 ht⟩, h2, h3⟩
  cases h
def hd_M_ownsUp_39 {O : Type} (g : Nat → Int32 → Int32 → Int32 → Int32 → Int32 → Mem → Option O) (ls : OL) (st : List AV) (σ : Mem) : Option O := match ls, st with
  | [some (.inr (.inr (12, k0))), some (.inl v1), some (.inl v2), some (.inl v3), some (.inl v4), some (.inl v5)], [] => g k0 v1 v2 v3 v4 v5 σ
  | _, _ => none
theorem hs_M_ownsUp_39 {X : CXT} {g : Nat → Int32 → Int32 → Int32 → Int32 → Int32 → Mem → Option (Int32 × Mem)} (hg : ∀ (k0 : Nat) (v1 : Int32) (v2 : Int32) (v3 : Int32) (v4 : Int32) (v5 : Int32) (s : Mem) (o : Int32 × Mem), g k0 v1 v2 v3 v4 v5 s = some o → BSnd X 2 332 (ovI o) 39 [some (.inr (.inr (12, k0))), some (.inl v1), some (.inl v2), some (.inl v3), some (.inl v4), some (.inl v5)] [] s) : ∀ ls st σ o, hd_M_ownsUp_39 g ls st σ = some o → BSnd X 2 332 (ovI o) 39 ls st σ := by
  intro ls st σ o h
  unfold hd_M_ownsUp_39 at h
  split at h
  · exact hg _ _ _ _ _ _ _ _ h
  · cases h
def hd_M_ownsUp_86 {O : Type} (g : Nat → Int32 → Int32 → Mem → Option O) (ls : OL) (st : List AV) (σ : Mem) : Option O := match ls, st with
  | [some (.inr (.inr (12, k0))), none, some (.inl v2), none, some (.inl v4)], [] => g k0 v2 v4 σ
  | _, _ => none
theorem hs_M_ownsUp_86 {X : CXT} {g : Nat → Int32 → Int32 → Mem → Option (Int32 × Mem)} (hg : ∀ (k0 : Nat) (v2 : Int32) (v4 : Int32) (s : Mem) (o : Int32 × Mem), g k0 v2 v4 s = some o → BSnd X 2 332 (ovI o) 86 [some (.inr (.inr (12, k0))), none, some (.inl v2), none, some (.inl v4)] [] s) : ∀ ls st σ o, hd_M_ownsUp_86 g ls st σ = some o → BSnd X 2 332 (ovI o) 86 ls st σ := by
  intro ls st σ o h
  unfold hd_M_ownsUp_86 at h
  split at h
  · exact hg _ _ _ _ _ h
  · cases h
set_option maxRecDepth 100000 in
theorem s_M_ownsUp_39 {X : CXT} (hX : XM X) {K86 : Nat → Int32 → Int32 → Mem → Option (Int32 × Mem)} (hK86 : ∀ (k0 : Nat) (v2 : Int32) (v4 : Int32) (s : Mem) (o : Int32 × Mem), K86 k0 v2 v4 s = some o → BSnd X 2 332 (ovI o) 86 [some (.inr (.inr (12, k0))), none, some (.inl v2), none, some (.inl v4)] [] s) : ∀ n : Nat, ∀ (k0 : Nat) (v1 : Int32) (v2 : Int32) (v3 : Int32) (v4 : Int32) (v5 : Int32) (s : Mem) (o : Int32 × Mem), f_M_ownsUp_39 K86 n k0 v1 v2 v3 v4 v5 s = some o → BSnd X 2 332 (ovI o) 39 [some (.inr (.inr (12, k0))), some (.inl v1), some (.inl v2), some (.inl v3), some (.inl v4), some (.inl v5)] [] s := by
  intro n
  induction n with
  | zero => intro k0 v1 v2 v3 v4 v5 s o h; cases h
  | succ n ih =>
    intro k0 v1 v2 v3 v4 v5 s o h
    exact evC (chs := c_M_ownsUp) (cuts := cu_M_ownsUp) (G := fun pc ls st σ => if pc = 39 then hd_M_ownsUp_39 (fun k0 v1 v2 v3 v4 v5 s => f_M_ownsUp_39 K86 n k0 v1 v2 v3 v4 v5 s) ls st σ else if pc = 86 then hd_M_ownsUp_86 (fun k0 v2 v4 s => K86 k0 v2 v4 s) ls st σ else none) hX.2.1 hX.2.2 (F := F_M_ownsUp _) (fs_M_ownsUp hX _) (rt_I rfl) oc_M_ownsUp (by
    intro pc ls st σ o h
    rcases ite_s h with ⟨rfl, h⟩ | ⟨_, h⟩
    · exact hs_M_ownsUp_39 ih _ _ _ _ h
    rcases ite_s h with ⟨rfl, h⟩ | ⟨_, h⟩
    · exact hs_M_ownsUp_86 hK86 _ _ _ _ h
    cases h) 276 39 _ _ _ _ h
set_option maxRecDepth 100000 in
theorem s_M_ownsUp_86 {X : CXT} (hX : XM X) : ∀ (k0 : Nat) (v2 : Int32) (v4 : Int32) (s : Mem) (o : Int32 × Mem), f_M_ownsUp_86 k0 v2 v4 s = some o → BSnd X 2 332 (ovI o) 86 [some (.inr (.inr (12, k0))), none, some (.inl v2), none, some (.inl v4)] [] s := by
  intro k0 v2 v4 s o h
  exact evC (chs := c_M_ownsUp) (cuts := cu_M_ownsUp) (G := fun pc ls st σ => none) hX.2.1 hX.2.2 (F := F_M_ownsUp _) (fs_M_ownsUp hX _) (rt_I rfl) oc_M_ownsUp (by
    intro pc ls st σ o h
    cases h) 276 86 _ _ _ _ h
set_option maxRecDepth 100000 in
theorem s_M_ownsUp {X : CXT} (hX : XM X) : ∀ (k0 : Nat) (v1 : Int32) (v2 : Int32) (s : Mem) (o : Int32 × Mem), f_M_ownsUp k0 v1 v2 s = some o → BSnd X 2 332 (ovI o) 0 (entL [.inr (.inr (12, k0)), .inl v1, .inl v2]) [] s := by
  intro k0 v1 v2 s o h
  rw [f_M_ownsUp_eq] at h
  exact evC (chs := c_M_ownsUp) (cuts := cu_M_ownsUp) (G := fun pc ls st σ => if pc = 39 then hd_M_ownsUp_39 (fun k0 v1 v2 v3 v4 v5 s => f_M_ownsUp_39 (fun k0 v2 v4 s => f_M_ownsUp_86 k0 v2 v4 s) FU k0 v1 v2 v3 v4 v5 s) ls st σ else if pc = 86 then hd_M_ownsUp_86 (fun k0 v2 v4 s => f_M_ownsUp_86 k0 v2 v4 s) ls st σ else none) hX.2.1 hX.2.2 (F := F_M_ownsUp _) (fs_M_ownsUp hX _) (rt_I rfl) oc_M_ownsUp (by
    intro pc ls st σ o h
    rcases ite_s h with ⟨rfl, h⟩ | ⟨_, h⟩
    · exact hs_M_ownsUp_39 (s_M_ownsUp_39 hX (s_M_ownsUp_86 hX) FU) _ _ _ _ h
    rcases ite_s h with ⟨rfl, h⟩ | ⟨_, h⟩
    · exact hs_M_ownsUp_86 (s_M_ownsUp_86 hX) _ _ _ _ h
    cases h) 276 0 _ _ _ _ h
theorem ok_M_ownsUp {X : CXT} (hX : XM X) : SemOK X 2 332 sm_M_ownsUp := by
  intro O av σ K o h
  unfold sm_M_ownsUp at h
  split at h
  · obtain ⟨r, hf, h⟩ := Option.bind_eq_some_iff.mp h
    exact ⟨ovI r, fun ht => sp_of hX.1 (by decide) (List.mem_range.mpr (by decide)) (by decide +kernel) ht (Nat.le_of_ble_eq_true rfl) (s_M_ownsUp hX _ _ _ _ _ hf), trivial, h⟩
  · cases h
noncomputable def b_M_price (k0 : Nat) (v1 : Int32) (s : Mem) : Option (Int32 × Mem) :=
  cif (v1 = ((-1 : Int32))) (
    gd (inb ((61 : Int32)) (lenM (k0 + 1))) <|
    let s1 : Mem := wI s (k0 + 1) (ix ((61 : Int32))) ((0 : Int32))
    some ((0 : Int32), s1)) (
    (f_M_isIn v1 ((1 : Int32)) ((99 : Int32)) s).bind fun r2 =>
    cif ((b2i r2.1) = 0) (
      some ((-1 : Int32), r2.2)) (
      gd (inb ((61 : Int32)) (lenM (k0 + 1))) <|
      cif ((rI r2.2 (k0 + 1) (ix ((61 : Int32)))) = ((8 : Int32))) (
        some ((-1 : Int32), r2.2)) (
        gd (inb ((61 : Int32)) (lenM (k0 + 1))) <|
        gd (inb (((332 : Int32)) + (rI r2.2 (k0 + 1) (ix ((61 : Int32))))) (lenM (k0 + 1))) <|
        let s3 : Mem := wI r2.2 (k0 + 1) (ix (((332 : Int32)) + (rI r2.2 (k0 + 1) (ix ((61 : Int32)))))) v1
        gd (inb ((61 : Int32)) (lenM (k0 + 1))) <|
        gd (inb ((61 : Int32)) (lenM (k0 + 1))) <|
        let s4 : Mem := wI s3 (k0 + 1) (ix ((61 : Int32))) ((rI s3 (k0 + 1) (ix ((61 : Int32)))) + ((1 : Int32)))
        gd (inb ((61 : Int32)) (lenM (k0 + 1))) <|
        some (rI s4 (k0 + 1) (ix ((61 : Int32))), s4))))
noncomputable def f_M_price : Nat → Int32 → Mem → Option (Int32 × Mem) := Classical.choose (⟨b_M_price, rfl⟩ : ∃ f : Nat → Int32 → Mem → Option (Int32 × Mem), f = b_M_price)
theorem f_M_price_eq : f_M_price = b_M_price := Classical.choose_spec (⟨b_M_price, rfl⟩ : ∃ f : Nat → Int32 → Mem → Option (Int32 × Mem), f = b_M_price)
noncomputable def sm_M_price (O : Type) (av : List AV) (σ : Mem) (K : AV → Mem → Option O) : Option O := match av with
  | [.inr (.inr (12, k0)), .inl v1] => (f_M_price k0 v1 σ).bind fun r => K (.inl r.1) r.2
  | _ => none
def c_M_price : List (List CE) := [[(0, .iload_n 1, 1, 0, 0, 0), (1, .iconst (-1), 1, 1, 0, 1), (2, .if_icmp .ne 13, 3, 15, 0, 0), (5, .aload_n 0, 1, 0, 0, 0), (6, .getfield 7, 3, 12, 0, 0), (9, .bipush 61, 2, 61, 0, 0), (11, .iconst 0, 1, 0, 0, 0), (12, .iastore, 1, 0, 0, 0), (13, .iconst 0, 1, 0, 0, 0), (14, .ireturn, 1, 0, 0, 0), (15, .iload_n 1, 1, 0, 0, 0)], [(16, .iconst 1, 1, 1, 0, 0), (17, .bipush 99, 2, 99, 0, 0), (19, .invokestatic 60, 3, 230, 3, 1), (22, .ifCond .eq 15, 3, 37, 0, 0), (25, .aload_n 0, 1, 0, 0, 0), (26, .getfield 7, 3, 12, 0, 0), (29, .bipush 61, 2, 61, 0, 0), (31, .iaload, 1, 0, 0, 0)], [(32, .bipush 8, 2, 8, 0, 0), (34, .if_icmp .ne 5, 3, 39, 0, 0), (37, .iconst (-1), 1, 1, 0, 1), (38, .ireturn, 1, 0, 0, 0), (39, .aload_n 0, 1, 0, 0, 0), (40, .getfield 7, 3, 12, 0, 0), (43, .sipush 332, 3, 332, 0, 0), (46, .aload_n 0, 1, 0, 0, 0), (47, .getfield 7, 3, 12, 0, 0)], [(50, .bipush 61, 2, 61, 0, 0), (52, .iaload, 1, 0, 0, 0), (53, .iadd, 1, 0, 0, 0), (54, .iload_n 1, 1, 0, 0, 0), (55, .iastore, 1, 0, 0, 0), (56, .aload_n 0, 1, 0, 0, 0), (57, .getfield 7, 3, 12, 0, 0), (60, .bipush 61, 2, 61, 0, 0), (62, .dup2, 1, 0, 0, 0), (63, .iaload, 1, 0, 0, 0)], [(64, .iconst 1, 1, 1, 0, 0), (65, .iadd, 1, 0, 0, 0), (66, .iastore, 1, 0, 0, 0), (67, .aload_n 0, 1, 0, 0, 0), (68, .getfield 7, 3, 12, 0, 0), (71, .bipush 61, 2, 61, 0, 0), (73, .iaload, 1, 0, 0, 0), (74, .ireturn, 1, 0, 0, 0)]]
set_option maxRecDepth 100000 in
theorem oc_M_price : okC 334 c_M_price = true := by decide +kernel
def cu_M_price : List (Nat × List Bool) := []
noncomputable def F_M_price (O : Type) (a : Nat) (av : List AV) (σ : Mem) (K : AV → Mem → Option O) : Option O := if a = 230 then sm_M_isIn O av σ K else none
theorem fs_M_price {X : CXT} (hX : XM X) (O : Type) : FS X 2 (F_M_price O) := by
  intro a av σ K o h
  unfold F_M_price at h
  rcases ite_s h with ⟨rfl, h⟩ | ⟨_, h⟩
  · obtain ⟨r, h1, h2, h3⟩ := ok_M_isIn hX _ _ _ _ _ h
    exact ⟨r, fun ht => ⟨1, by decide, h1 ht⟩, h2, h3⟩
  cases h
set_option maxRecDepth 100000 in
theorem s_M_price {X : CXT} (hX : XM X) : ∀ (k0 : Nat) (v1 : Int32) (s : Mem) (o : Int32 × Mem), f_M_price k0 v1 s = some o → BSnd X 2 334 (ovI o) 0 (entL [.inr (.inr (12, k0)), .inl v1]) [] s := by
  intro k0 v1 s o h
  rw [f_M_price_eq] at h
  exact evC (chs := c_M_price) (cuts := cu_M_price) (G := fun pc ls st σ => none) hX.2.1 hX.2.2 (F := F_M_price _) (fs_M_price hX _) (rt_I rfl) oc_M_price (by
    intro pc ls st σ o h
    cases h) 224 0 _ _ _ _ h
theorem ok_M_price {X : CXT} (hX : XM X) : SemOK X 2 334 sm_M_price := by
  intro O av σ K o h
  unfold sm_M_price at h
  split at h
  · obtain ⟨r, hf, h⟩ := Option.bind_eq_some_iff.mp h
    exact ⟨ovI r, fun ht => sp_of hX.1 (by decide) (List.mem_range.mpr (by decide)) (by decide +kernel) ht (Nat.le_of_ble_eq_true rfl) (s_M_price hX _ _ _ _ hf), trivial, h⟩
  · cases h
noncomputable def f_M_prices_18 (K68 : Int32 → Int32 → Int32 → Mem → Option (Int32 × Mem)) : Nat → Nat → Int32 → Int32 → Int32 → Int32 → Mem → Option (Int32 × Mem)
  | 0, _, _, _, _, _, _ => none
  | n + 1, k0, v1, v2, v3, v4, s =>
    gd (inb ((61 : Int32)) (lenM (k0 + 1))) <|
    cif ((rI s (k0 + 1) (ix ((61 : Int32)))) ≤ v4) (
      K68 v1 v2 v3 s) (
      gd (inb (((332 : Int32)) + v4) (lenM (k0 + 1))) <|
      (f_M_greater v2 (rI s (k0 + 1) (ix (((332 : Int32)) + v4))) s).bind fun r1 =>
      gd (inb (((332 : Int32)) + v4) (lenM (k0 + 1))) <|
      let x2 : Int32 := v3 + (r1.1 - (rI r1.2 (k0 + 1) (ix (((332 : Int32)) + v4))))
      f_M_prices_18 K68 n k0 v1 r1.1 x2 (v4 + (1 : Int32)) r1.2)
noncomputable def f_M_prices_68 (v1 : Int32) (v2 : Int32) (v3 : Int32) (s : Mem) : Option (Int32 × Mem) :=
  cif (v1 = 0) (
    some (v3, s)) (
    some (v2, s))
noncomputable def b_M_prices (k0 : Nat) (v1 : Int32) (s : Mem) : Option (Int32 × Mem) :=
  (f_M_isIn v1 ((0 : Int32)) ((1 : Int32)) s).bind fun r1 =>
  cif ((b2i r1.1) = 0) (
    some ((-1 : Int32), r1.2)) (
    f_M_prices_18 (fun v1 v2 v3 s => f_M_prices_68 v1 v2 v3 s) FU k0 v1 ((0 : Int32)) ((0 : Int32)) ((0 : Int32)) r1.2)
noncomputable def f_M_prices : Nat → Int32 → Mem → Option (Int32 × Mem) := Classical.choose (⟨b_M_prices, rfl⟩ : ∃ f : Nat → Int32 → Mem → Option (Int32 × Mem), f = b_M_prices)
theorem f_M_prices_eq : f_M_prices = b_M_prices := Classical.choose_spec (⟨b_M_prices, rfl⟩ : ∃ f : Nat → Int32 → Mem → Option (Int32 × Mem), f = b_M_prices)
noncomputable def sm_M_prices (O : Type) (av : List AV) (σ : Mem) (K : AV → Mem → Option O) : Option O := match av with
  | [.inr (.inr (12, k0)), .inl v1] => (f_M_prices k0 v1 σ).bind fun r => K (.inl r.1) r.2
  | _ => none
def c_M_prices : List (List CE) := [[(0, .iload_n 1, 1, 0, 0, 0), (1, .iconst 0, 1, 0, 0, 0), (2, .iconst 1, 1, 1, 0, 0), (3, .invokestatic 60, 3, 230, 3, 1), (6, .ifCond .ne 5, 3, 11, 0, 0), (9, .iconst (-1), 1, 1, 0, 1), (10, .ireturn, 1, 0, 0, 0), (11, .iconst 0, 1, 0, 0, 0), (12, .istore_n 2, 1, 0, 0, 0), (13, .iconst 0, 1, 0, 0, 0), (14, .istore_n 3, 1, 0, 0, 0), (15, .iconst 0, 1, 0, 0, 0)], [(16, .istore 4, 2, 0, 0, 0), (18, .iload 4, 2, 0, 0, 0), (20, .aload_n 0, 1, 0, 0, 0), (21, .getfield 7, 3, 12, 0, 0), (24, .bipush 61, 2, 61, 0, 0), (26, .iaload, 1, 0, 0, 0), (27, .if_icmp .ge 41, 3, 68, 0, 0), (30, .iload_n 2, 1, 0, 0, 0), (31, .aload_n 0, 1, 0, 0, 0)], [(32, .getfield 7, 3, 12, 0, 0), (35, .sipush 332, 3, 332, 0, 0), (38, .iload 4, 2, 0, 0, 0), (40, .iadd, 1, 0, 0, 0), (41, .iaload, 1, 0, 0, 0), (42, .invokestatic 294, 3, 283, 2, 1), (45, .istore_n 2, 1, 0, 0, 0), (46, .iload_n 3, 1, 0, 0, 0), (47, .iload_n 2, 1, 0, 0, 0)], [(48, .aload_n 0, 1, 0, 0, 0), (49, .getfield 7, 3, 12, 0, 0), (52, .sipush 332, 3, 332, 0, 0), (55, .iload 4, 2, 0, 0, 0), (57, .iadd, 1, 0, 0, 0), (58, .iaload, 1, 0, 0, 0), (59, .isub, 1, 0, 0, 0), (60, .iadd, 1, 0, 0, 0), (61, .istore_n 3, 1, 0, 0, 0), (62, .iinc 4 1, 3, 1, 0, 0)], [(65, .goto (-47), 3, 18, 0, 0), (68, .iload_n 1, 1, 0, 0, 0), (69, .ifCond .ne 7, 3, 76, 0, 0), (72, .iload_n 3, 1, 0, 0, 0), (73, .goto 4, 3, 77, 0, 0), (76, .iload_n 2, 1, 0, 0, 0), (77, .ireturn, 1, 0, 0, 0)]]
set_option maxRecDepth 100000 in
theorem oc_M_prices : okC 335 c_M_prices = true := by decide +kernel
def cu_M_prices : List (Nat × List Bool) := [(18, [true, true, true, true, true]), (68, [false, true, true, true])]
noncomputable def F_M_prices (O : Type) (a : Nat) (av : List AV) (σ : Mem) (K : AV → Mem → Option O) : Option O := if a = 230 then sm_M_isIn O av σ K else if a = 283 then sm_M_greater O av σ K else none
theorem fs_M_prices {X : CXT} (hX : XM X) (O : Type) : FS X 2 (F_M_prices O) := by
  intro a av σ K o h
  unfold F_M_prices at h
  rcases ite_s h with ⟨rfl, h⟩ | ⟨_, h⟩
  · obtain ⟨r, h1, h2, h3⟩ := ok_M_isIn hX _ _ _ _ _ h
    exact ⟨r, fun ht => ⟨1, by decide, h1 ht⟩, h2, h3⟩
  rcases ite_s h with ⟨rfl, h⟩ | ⟨_, h⟩
  · obtain ⟨r, h1, h2, h3⟩ := ok_M_greater hX _ _ _ _ _ h
    exact ⟨r, fun ht => ⟨1, by decide, h1 ht⟩, h2, h3⟩
  cases h
def hd_M_prices_18 {O : Type} (g : Nat → Int32 → Int32 → Int32 → Int32 → Mem → Option O) (ls : OL) (st : List AV) (σ : Mem) : Option O := match ls, st with
  | [some (.inr (.inr (12, k0))), some (.inl v1), some (.inl v2), some (.inl v3), some (.inl v4)], [] => g k0 v1 v2 v3 v4 σ
  | _, _ => none
theorem hs_M_prices_18 {X : CXT} {g : Nat → Int32 → Int32 → Int32 → Int32 → Mem → Option (Int32 × Mem)} (hg : ∀ (k0 : Nat) (v1 : Int32) (v2 : Int32) (v3 : Int32) (v4 : Int32) (s : Mem) (o : Int32 × Mem), g k0 v1 v2 v3 v4 s = some o → BSnd X 2 335 (ovI o) 18 [some (.inr (.inr (12, k0))), some (.inl v1), some (.inl v2), some (.inl v3), some (.inl v4)] [] s) : ∀ ls st σ o, hd_M_prices_18 g ls st σ = some o → BSnd X 2 335 (ovI o) 18 ls st σ := by
  intro ls st σ o h
  unfold hd_M_prices_18 at h
  split at h
  · exact hg _ _ _ _ _ _ _ h
  · cases h
def hd_M_prices_68 {O : Type} (g : Int32 → Int32 → Int32 → Mem → Option O) (ls : OL) (st : List AV) (σ : Mem) : Option O := match ls, st with
  | [none, some (.inl v1), some (.inl v2), some (.inl v3)], [] => g v1 v2 v3 σ
  | _, _ => none
theorem hs_M_prices_68 {X : CXT} {g : Int32 → Int32 → Int32 → Mem → Option (Int32 × Mem)} (hg : ∀ (v1 : Int32) (v2 : Int32) (v3 : Int32) (s : Mem) (o : Int32 × Mem), g v1 v2 v3 s = some o → BSnd X 2 335 (ovI o) 68 [none, some (.inl v1), some (.inl v2), some (.inl v3)] [] s) : ∀ ls st σ o, hd_M_prices_68 g ls st σ = some o → BSnd X 2 335 (ovI o) 68 ls st σ := by
  intro ls st σ o h
  unfold hd_M_prices_68 at h
  split at h
  · exact hg _ _ _ _ _ h
  · cases h
set_option maxRecDepth 100000 in
theorem s_M_prices_18 {X : CXT} (hX : XM X) {K68 : Int32 → Int32 → Int32 → Mem → Option (Int32 × Mem)} (hK68 : ∀ (v1 : Int32) (v2 : Int32) (v3 : Int32) (s : Mem) (o : Int32 × Mem), K68 v1 v2 v3 s = some o → BSnd X 2 335 (ovI o) 68 [none, some (.inl v1), some (.inl v2), some (.inl v3)] [] s) : ∀ n : Nat, ∀ (k0 : Nat) (v1 : Int32) (v2 : Int32) (v3 : Int32) (v4 : Int32) (s : Mem) (o : Int32 × Mem), f_M_prices_18 K68 n k0 v1 v2 v3 v4 s = some o → BSnd X 2 335 (ovI o) 18 [some (.inr (.inr (12, k0))), some (.inl v1), some (.inl v2), some (.inl v3), some (.inl v4)] [] s := by
  intro n
  induction n with
  | zero => intro k0 v1 v2 v3 v4 s o h; cases h
  | succ n ih =>
    intro k0 v1 v2 v3 v4 s o h
    exact evC (chs := c_M_prices) (cuts := cu_M_prices) (G := fun pc ls st σ => if pc = 18 then hd_M_prices_18 (fun k0 v1 v2 v3 v4 s => f_M_prices_18 K68 n k0 v1 v2 v3 v4 s) ls st σ else if pc = 68 then hd_M_prices_68 (fun v1 v2 v3 s => K68 v1 v2 v3 s) ls st σ else none) hX.2.1 hX.2.2 (F := F_M_prices _) (fs_M_prices hX _) (rt_I rfl) oc_M_prices (by
    intro pc ls st σ o h
    rcases ite_s h with ⟨rfl, h⟩ | ⟨_, h⟩
    · exact hs_M_prices_18 ih _ _ _ _ h
    rcases ite_s h with ⟨rfl, h⟩ | ⟨_, h⟩
    · exact hs_M_prices_68 hK68 _ _ _ _ h
    cases h) 228 18 _ _ _ _ h
set_option maxRecDepth 100000 in
theorem s_M_prices_68 {X : CXT} (hX : XM X) : ∀ (v1 : Int32) (v2 : Int32) (v3 : Int32) (s : Mem) (o : Int32 × Mem), f_M_prices_68 v1 v2 v3 s = some o → BSnd X 2 335 (ovI o) 68 [none, some (.inl v1), some (.inl v2), some (.inl v3)] [] s := by
  intro v1 v2 v3 s o h
  exact evC (chs := c_M_prices) (cuts := cu_M_prices) (G := fun pc ls st σ => none) hX.2.1 hX.2.2 (F := F_M_prices _) (fs_M_prices hX _) (rt_I rfl) oc_M_prices (by
    intro pc ls st σ o h
    cases h) 228 68 _ _ _ _ h
set_option maxRecDepth 100000 in
theorem s_M_prices {X : CXT} (hX : XM X) : ∀ (k0 : Nat) (v1 : Int32) (s : Mem) (o : Int32 × Mem), f_M_prices k0 v1 s = some o → BSnd X 2 335 (ovI o) 0 (entL [.inr (.inr (12, k0)), .inl v1]) [] s := by
  intro k0 v1 s o h
  rw [f_M_prices_eq] at h
  exact evC (chs := c_M_prices) (cuts := cu_M_prices) (G := fun pc ls st σ => if pc = 18 then hd_M_prices_18 (fun k0 v1 v2 v3 v4 s => f_M_prices_18 (fun v1 v2 v3 s => f_M_prices_68 v1 v2 v3 s) FU k0 v1 v2 v3 v4 s) ls st σ else if pc = 68 then hd_M_prices_68 (fun v1 v2 v3 s => f_M_prices_68 v1 v2 v3 s) ls st σ else none) hX.2.1 hX.2.2 (F := F_M_prices _) (fs_M_prices hX _) (rt_I rfl) oc_M_prices (by
    intro pc ls st σ o h
    rcases ite_s h with ⟨rfl, h⟩ | ⟨_, h⟩
    · exact hs_M_prices_18 (s_M_prices_18 hX (s_M_prices_68 hX) FU) _ _ _ _ h
    rcases ite_s h with ⟨rfl, h⟩ | ⟨_, h⟩
    · exact hs_M_prices_68 (s_M_prices_68 hX) _ _ _ _ h
    cases h) 228 0 _ _ _ _ h
theorem ok_M_prices {X : CXT} (hX : XM X) : SemOK X 2 335 sm_M_prices := by
  intro O av σ K o h
  unfold sm_M_prices at h
  split at h
  · obtain ⟨r, hf, h⟩ := Option.bind_eq_some_iff.mp h
    exact ⟨ovI r, fun ht => sp_of hX.1 (by decide) (List.mem_range.mpr (by decide)) (by decide +kernel) ht (Nat.le_of_ble_eq_true rfl) (s_M_prices hX _ _ _ _ hf), trivial, h⟩
  · cases h
noncomputable def b_M_lamp (k0 : Nat) (v1 : Int32) (v2 : Int32) (v3 : Int32) (s : Mem) : Option (Bool × Mem) :=
  (f_M_isIn v1 ((0 : Int32)) ((7 : Int32)) s).bind fun r1 =>
  cif ((b2i r1.1) = 0) (
    some (false, r1.2)) (
    (f_M_isIn v2 ((0 : Int32)) ((5 : Int32)) r1.2).bind fun r2 =>
    cif ((b2i r2.1) = 0) (
      some (false, r2.2)) (
      (f_M_isIn v3 ((0 : Int32)) ((((1 : Int32)) <<< (v2 &&& 31)) - ((1 : Int32))) r2.2).bind fun r3 =>
      cif ((b2i r3.1) = 0) (
        some (false, r3.2)) (
        gd (inb (((340 : Int32)) + (((2 : Int32)) * v1)) (lenM (k0 + 1))) <|
        let s4 : Mem := wI r3.2 (k0 + 1) (ix (((340 : Int32)) + (((2 : Int32)) * v1))) v2
        gd (inb ((((340 : Int32)) + (((2 : Int32)) * v1)) + ((1 : Int32))) (lenM (k0 + 1))) <|
        let s5 : Mem := wI s4 (k0 + 1) (ix ((((340 : Int32)) + (((2 : Int32)) * v1)) + ((1 : Int32)))) v3
        some (true, s5))))
noncomputable def f_M_lamp : Nat → Int32 → Int32 → Int32 → Mem → Option (Bool × Mem) := Classical.choose (⟨b_M_lamp, rfl⟩ : ∃ f : Nat → Int32 → Int32 → Int32 → Mem → Option (Bool × Mem), f = b_M_lamp)
theorem f_M_lamp_eq : f_M_lamp = b_M_lamp := Classical.choose_spec (⟨b_M_lamp, rfl⟩ : ∃ f : Nat → Int32 → Int32 → Int32 → Mem → Option (Bool × Mem), f = b_M_lamp)
noncomputable def sm_M_lamp (O : Type) (av : List AV) (σ : Mem) (K : AV → Mem → Option O) : Option O := match av with
  | [.inr (.inr (12, k0)), .inl v1, .inl v2, .inl v3] => (f_M_lamp k0 v1 v2 v3 σ).bind fun r => K (.inl (b2i r.1)) r.2
  | _ => none
def c_M_lamp : List (List CE) := [[(0, .iload_n 1, 1, 0, 0, 0), (1, .iconst 0, 1, 0, 0, 0), (2, .bipush 7, 2, 7, 0, 0), (4, .invokestatic 60, 3, 230, 3, 1), (7, .ifCond .eq 25, 3, 32, 0, 0), (10, .iload_n 2, 1, 0, 0, 0), (11, .iconst 0, 1, 0, 0, 0), (12, .iconst 5, 1, 5, 0, 0), (13, .invokestatic 60, 3, 230, 3, 1)], [(16, .ifCond .eq 16, 3, 32, 0, 0), (19, .iload_n 3, 1, 0, 0, 0), (20, .iconst 0, 1, 0, 0, 0), (21, .iconst 1, 1, 1, 0, 0), (22, .iload_n 2, 1, 0, 0, 0), (23, .ishl, 1, 0, 0, 0), (24, .iconst 1, 1, 1, 0, 0), (25, .isub, 1, 0, 0, 0), (26, .invokestatic 60, 3, 230, 3, 1), (29, .ifCond .ne 5, 3, 34, 0, 0)], [(32, .iconst 0, 1, 0, 0, 0), (33, .ireturn, 1, 0, 0, 0), (34, .aload_n 0, 1, 0, 0, 0), (35, .getfield 7, 3, 12, 0, 0), (38, .sipush 340, 3, 340, 0, 0), (41, .iconst 2, 1, 2, 0, 0), (42, .iload_n 1, 1, 0, 0, 0), (43, .imul, 1, 0, 0, 0), (44, .iadd, 1, 0, 0, 0), (45, .iload_n 2, 1, 0, 0, 0), (46, .iastore, 1, 0, 0, 0), (47, .aload_n 0, 1, 0, 0, 0)], [(48, .getfield 7, 3, 12, 0, 0), (51, .sipush 340, 3, 340, 0, 0), (54, .iconst 2, 1, 2, 0, 0), (55, .iload_n 1, 1, 0, 0, 0), (56, .imul, 1, 0, 0, 0), (57, .iadd, 1, 0, 0, 0), (58, .iconst 1, 1, 1, 0, 0), (59, .iadd, 1, 0, 0, 0), (60, .iload_n 3, 1, 0, 0, 0), (61, .iastore, 1, 0, 0, 0), (62, .iconst 1, 1, 1, 0, 0), (63, .ireturn, 1, 0, 0, 0)]]
set_option maxRecDepth 100000 in
theorem oc_M_lamp : okC 336 c_M_lamp = true := by decide +kernel
def cu_M_lamp : List (Nat × List Bool) := []
noncomputable def F_M_lamp (O : Type) (a : Nat) (av : List AV) (σ : Mem) (K : AV → Mem → Option O) : Option O := if a = 230 then sm_M_isIn O av σ K else none
theorem fs_M_lamp {X : CXT} (hX : XM X) (O : Type) : FS X 2 (F_M_lamp O) := by
  intro a av σ K o h
  unfold F_M_lamp at h
  rcases ite_s h with ⟨rfl, h⟩ | ⟨_, h⟩
  · obtain ⟨r, h1, h2, h3⟩ := ok_M_isIn hX _ _ _ _ _ h
    exact ⟨r, fun ht => ⟨1, by decide, h1 ht⟩, h2, h3⟩
  cases h
set_option maxRecDepth 100000 in
theorem s_M_lamp {X : CXT} (hX : XM X) : ∀ (k0 : Nat) (v1 : Int32) (v2 : Int32) (v3 : Int32) (s : Mem) (o : Bool × Mem), f_M_lamp k0 v1 v2 v3 s = some o → BSnd X 2 336 (ovZ o) 0 (entL [.inr (.inr (12, k0)), .inl v1, .inl v2, .inl v3]) [] s := by
  intro k0 v1 v2 v3 s o h
  rw [f_M_lamp_eq] at h
  exact evC (chs := c_M_lamp) (cuts := cu_M_lamp) (G := fun pc ls st σ => none) hX.2.1 hX.2.2 (F := F_M_lamp _) (fs_M_lamp hX _) (rt_Z rfl) oc_M_lamp (by
    intro pc ls st σ o h
    cases h) 212 0 _ _ _ _ h
theorem ok_M_lamp {X : CXT} (hX : XM X) : SemOK X 2 336 sm_M_lamp := by
  intro O av σ K o h
  unfold sm_M_lamp at h
  split at h
  · obtain ⟨r, hf, h⟩ := Option.bind_eq_some_iff.mp h
    exact ⟨ovZ r, fun ht => sp_of hX.1 (by decide) (List.mem_range.mpr (by decide)) (by decide +kernel) ht (Nat.le_of_ble_eq_true rfl) (s_M_lamp hX _ _ _ _ _ _ hf), trivial, h⟩
  · cases h
noncomputable def b_M_begins0 (k0 : Nat) (v1 : Int32) (v2 : Int32) (v3 : Int32) (s : Mem) : Option (Bool × Mem) :=
  gd (inb (((340 : Int32)) + (((2 : Int32)) * v1)) (lenM (k0 + 1))) <|
  let x1 : Int32 := rI s (k0 + 1) (ix (((340 : Int32)) + (((2 : Int32)) * v1)))
  (f_M_isIn x1 ((1 : Int32)) v2 s).bind fun r2 =>
  cif ((b2i r2.1) = 0) (
    some (false, r2.2)) (
    gd (inb ((((340 : Int32)) + (((2 : Int32)) * v1)) + ((1 : Int32))) (lenM (k0 + 1))) <|
    cif ((v3 &&& ((((1 : Int32)) <<< (x1 &&& 31)) - ((1 : Int32)))) = (rI r2.2 (k0 + 1) (ix ((((340 : Int32)) + (((2 : Int32)) * v1)) + ((1 : Int32)))))) (
      some (true, r2.2)) (
      some (false, r2.2)))
noncomputable def f_M_begins0 : Nat → Int32 → Int32 → Int32 → Mem → Option (Bool × Mem) := Classical.choose (⟨b_M_begins0, rfl⟩ : ∃ f : Nat → Int32 → Int32 → Int32 → Mem → Option (Bool × Mem), f = b_M_begins0)
theorem f_M_begins0_eq : f_M_begins0 = b_M_begins0 := Classical.choose_spec (⟨b_M_begins0, rfl⟩ : ∃ f : Nat → Int32 → Int32 → Int32 → Mem → Option (Bool × Mem), f = b_M_begins0)
noncomputable def sm_M_begins0 (O : Type) (av : List AV) (σ : Mem) (K : AV → Mem → Option O) : Option O := match av with
  | [.inr (.inr (12, k0)), .inl v1, .inl v2, .inl v3] => (f_M_begins0 k0 v1 v2 v3 σ).bind fun r => K (.inl (b2i r.1)) r.2
  | _ => none
def c_M_begins0 : List (List CE) := [[(0, .aload_n 0, 1, 0, 0, 0), (1, .getfield 7, 3, 12, 0, 0), (4, .sipush 340, 3, 340, 0, 0), (7, .iconst 2, 1, 2, 0, 0), (8, .iload_n 1, 1, 0, 0, 0), (9, .imul, 1, 0, 0, 0), (10, .iadd, 1, 0, 0, 0), (11, .iaload, 1, 0, 0, 0), (12, .istore 4, 2, 0, 0, 0), (14, .iload 4, 2, 0, 0, 0)], [(16, .iconst 1, 1, 1, 0, 0), (17, .iload_n 2, 1, 0, 0, 0), (18, .invokestatic 60, 3, 230, 3, 1), (21, .ifCond .eq 32, 3, 53, 0, 0), (24, .iload_n 3, 1, 0, 0, 0), (25, .iconst 1, 1, 1, 0, 0), (26, .iload 4, 2, 0, 0, 0), (28, .ishl, 1, 0, 0, 0), (29, .iconst 1, 1, 1, 0, 0), (30, .isub, 1, 0, 0, 0), (31, .iand, 1, 0, 0, 0)], [(32, .aload_n 0, 1, 0, 0, 0), (33, .getfield 7, 3, 12, 0, 0), (36, .sipush 340, 3, 340, 0, 0), (39, .iconst 2, 1, 2, 0, 0), (40, .iload_n 1, 1, 0, 0, 0), (41, .imul, 1, 0, 0, 0), (42, .iadd, 1, 0, 0, 0), (43, .iconst 1, 1, 1, 0, 0), (44, .iadd, 1, 0, 0, 0), (45, .iaload, 1, 0, 0, 0), (46, .if_icmp .ne 7, 3, 53, 0, 0)], [(49, .iconst 1, 1, 1, 0, 0), (50, .goto 4, 3, 54, 0, 0), (53, .iconst 0, 1, 0, 0, 0), (54, .ireturn, 1, 0, 0, 0)]]
set_option maxRecDepth 100000 in
theorem oc_M_begins0 : okC 339 c_M_begins0 = true := by decide +kernel
def cu_M_begins0 : List (Nat × List Bool) := []
noncomputable def F_M_begins0 (O : Type) (a : Nat) (av : List AV) (σ : Mem) (K : AV → Mem → Option O) : Option O := if a = 230 then sm_M_isIn O av σ K else none
theorem fs_M_begins0 {X : CXT} (hX : XM X) (O : Type) : FS X 2 (F_M_begins0 O) := by
  intro a av σ K o h
  unfold F_M_begins0 at h
  rcases ite_s h with ⟨rfl, h⟩ | ⟨_, h⟩
  · obtain ⟨r, h1, h2, h3⟩ := ok_M_isIn hX _ _ _ _ _ h
    exact ⟨r, fun ht => ⟨1, by decide, h1 ht⟩, h2, h3⟩
  cases h
set_option maxRecDepth 100000 in
theorem s_M_begins0 {X : CXT} (hX : XM X) : ∀ (k0 : Nat) (v1 : Int32) (v2 : Int32) (v3 : Int32) (s : Mem) (o : Bool × Mem), f_M_begins0 k0 v1 v2 v3 s = some o → BSnd X 2 339 (ovZ o) 0 (entL [.inr (.inr (12, k0)), .inl v1, .inl v2, .inl v3]) [] s := by
  intro k0 v1 v2 v3 s o h
  rw [f_M_begins0_eq] at h
  exact evC (chs := c_M_begins0) (cuts := cu_M_begins0) (G := fun pc ls st σ => none) hX.2.1 hX.2.2 (F := F_M_begins0 _) (fs_M_begins0 hX _) (rt_Z rfl) oc_M_begins0 (by
    intro pc ls st σ o h
    cases h) 184 0 _ _ _ _ h
theorem ok_M_begins0 {X : CXT} (hX : XM X) : SemOK X 2 339 sm_M_begins0 := by
  intro O av σ K o h
  unfold sm_M_begins0 at h
  split at h
  · obtain ⟨r, hf, h⟩ := Option.bind_eq_some_iff.mp h
    exact ⟨ovZ r, fun ht => sp_of hX.1 (by decide) (List.mem_range.mpr (by decide)) (by decide +kernel) ht (Nat.le_of_ble_eq_true rfl) (s_M_begins0 hX _ _ _ _ _ _ hf), trivial, h⟩
  · cases h
noncomputable def f_M_prefixes_12 (K99 : Nat → Int32 → Int32 → Mem → Option (Int32 × Mem)) : Nat → Nat → Int32 → Int32 → Int32 → Mem → Option (Int32 × Mem)
  | 0, _, _, _, _, _ => none
  | n + 1, k0, v1, v2, v3, s =>
    cif (v2 ≤ v3) (
      K99 k0 v1 v2 s) (
      gd (inb (((340 : Int32)) + (((2 : Int32)) * v3)) (lenM (k0 + 1))) <|
      gd (inb ((((340 : Int32)) + (((2 : Int32)) * v3)) + ((1 : Int32))) (lenM (k0 + 1))) <|
      (f_M_begins0 k0 v2 (rI s (k0 + 1) (ix (((340 : Int32)) + (((2 : Int32)) * v3)))) (rI s (k0 + 1) (ix ((((340 : Int32)) + (((2 : Int32)) * v3)) + ((1 : Int32))))) s).bind fun r1 =>
      cif ((b2i r1.1) = 0) (
        gd (inb (((340 : Int32)) + (((2 : Int32)) * v2)) (lenM (k0 + 1))) <|
        gd (inb ((((340 : Int32)) + (((2 : Int32)) * v2)) + ((1 : Int32))) (lenM (k0 + 1))) <|
        (f_M_begins0 k0 v3 (rI r1.2 (k0 + 1) (ix (((340 : Int32)) + (((2 : Int32)) * v2)))) (rI r1.2 (k0 + 1) (ix ((((340 : Int32)) + (((2 : Int32)) * v2)) + ((1 : Int32))))) r1.2).bind fun r2 =>
        cif ((b2i r2.1) = 0) (
          let x3 : Int32 := v1 + ((0 : Int32))
          f_M_prefixes_12 K99 n k0 x3 v2 (v3 + (1 : Int32)) r2.2) (
          let x4 : Int32 := v1 + ((1 : Int32))
          f_M_prefixes_12 K99 n k0 x4 v2 (v3 + (1 : Int32)) r2.2)) (
        let x5 : Int32 := v1 + ((1 : Int32))
        f_M_prefixes_12 K99 n k0 x5 v2 (v3 + (1 : Int32)) r1.2))
noncomputable def f_M_prefixes_99 (KH : Nat → Int32 → Int32 → Mem → Option (Int32 × Mem)) (k0 : Nat) (v1 : Int32) (v2 : Int32) (s : Mem) : Option (Int32 × Mem) :=
  KH k0 v1 (v2 + (1 : Int32)) s
noncomputable def f_M_prefixes_4 : Nat → Nat → Int32 → Int32 → Mem → Option (Int32 × Mem)
  | 0, _, _, _, _ => none
  | n + 1, k0, v1, v2, s =>
    cif (((8 : Int32)) ≤ v2) (
      some (v1, s)) (
      f_M_prefixes_12 (fun k0 v1 v2 s => f_M_prefixes_99 (fun k0 v1 v2 s => f_M_prefixes_4 n k0 v1 v2 s) k0 v1 v2 s) FU k0 v1 v2 ((0 : Int32)) s)
noncomputable def b_M_prefixes (k0 : Nat) (s : Mem) : Option (Int32 × Mem) :=
  f_M_prefixes_4 FU k0 ((0 : Int32)) ((0 : Int32)) s
noncomputable def f_M_prefixes : Nat → Mem → Option (Int32 × Mem) := Classical.choose (⟨b_M_prefixes, rfl⟩ : ∃ f : Nat → Mem → Option (Int32 × Mem), f = b_M_prefixes)
theorem f_M_prefixes_eq : f_M_prefixes = b_M_prefixes := Classical.choose_spec (⟨b_M_prefixes, rfl⟩ : ∃ f : Nat → Mem → Option (Int32 × Mem), f = b_M_prefixes)
noncomputable def sm_M_prefixes (O : Type) (av : List AV) (σ : Mem) (K : AV → Mem → Option O) : Option O := match av with
  | [.inr (.inr (12, k0))] => (f_M_prefixes k0 σ).bind fun r => K (.inl r.1) r.2
  | _ => none
def c_M_prefixes : List (List CE) := [[(0, .iconst 0, 1, 0, 0, 0), (1, .istore_n 1, 1, 0, 0, 0), (2, .iconst 0, 1, 0, 0, 0), (3, .istore_n 2, 1, 0, 0, 0), (4, .iload_n 2, 1, 0, 0, 0), (5, .bipush 8, 2, 8, 0, 0), (7, .if_icmp .ge 98, 3, 105, 0, 0), (10, .iconst 0, 1, 0, 0, 0), (11, .istore_n 3, 1, 0, 0, 0), (12, .iload_n 3, 1, 0, 0, 0), (13, .iload_n 2, 1, 0, 0, 0), (14, .if_icmp .ge 85, 3, 99, 0, 0)], [(17, .iload_n 1, 1, 0, 0, 0), (18, .aload_n 0, 1, 0, 0, 0), (19, .iload_n 2, 1, 0, 0, 0), (20, .aload_n 0, 1, 0, 0, 0), (21, .getfield 7, 3, 12, 0, 0), (24, .sipush 340, 3, 340, 0, 0), (27, .iconst 2, 1, 2, 0, 0), (28, .iload_n 3, 1, 0, 0, 0), (29, .imul, 1, 0, 0, 0), (30, .iadd, 1, 0, 0, 0), (31, .iaload, 1, 0, 0, 0)], [(32, .aload_n 0, 1, 0, 0, 0), (33, .getfield 7, 3, 12, 0, 0), (36, .sipush 340, 3, 340, 0, 0), (39, .iconst 2, 1, 2, 0, 0), (40, .iload_n 3, 1, 0, 0, 0), (41, .imul, 1, 0, 0, 0), (42, .iadd, 1, 0, 0, 0), (43, .iconst 1, 1, 1, 0, 0), (44, .iadd, 1, 0, 0, 0), (45, .iaload, 1, 0, 0, 0), (46, .invokevirtual 415, 3, 339, 4, 25)], [(49, .ifCond .ne 37, 3, 86, 0, 0), (52, .aload_n 0, 1, 0, 0, 0), (53, .iload_n 3, 1, 0, 0, 0), (54, .aload_n 0, 1, 0, 0, 0), (55, .getfield 7, 3, 12, 0, 0), (58, .sipush 340, 3, 340, 0, 0), (61, .iconst 2, 1, 2, 0, 0), (62, .iload_n 2, 1, 0, 0, 0), (63, .imul, 1, 0, 0, 0)], [(64, .iadd, 1, 0, 0, 0), (65, .iaload, 1, 0, 0, 0), (66, .aload_n 0, 1, 0, 0, 0), (67, .getfield 7, 3, 12, 0, 0), (70, .sipush 340, 3, 340, 0, 0), (73, .iconst 2, 1, 2, 0, 0), (74, .iload_n 2, 1, 0, 0, 0), (75, .imul, 1, 0, 0, 0), (76, .iadd, 1, 0, 0, 0), (77, .iconst 1, 1, 1, 0, 0), (78, .iadd, 1, 0, 0, 0), (79, .iaload, 1, 0, 0, 0)], [(80, .invokevirtual 415, 3, 339, 4, 25), (83, .ifCond .eq 7, 3, 90, 0, 0), (86, .iconst 1, 1, 1, 0, 0), (87, .goto 4, 3, 91, 0, 0), (90, .iconst 0, 1, 0, 0, 0), (91, .iadd, 1, 0, 0, 0), (92, .istore_n 1, 1, 0, 0, 0), (93, .iinc 3 1, 3, 1, 0, 0)], [(96, .goto (-84), 3, 12, 0, 0), (99, .iinc 2 1, 3, 1, 0, 0), (102, .goto (-98), 3, 4, 0, 0), (105, .iload_n 1, 1, 0, 0, 0), (106, .ireturn, 1, 0, 0, 0)]]
set_option maxRecDepth 100000 in
theorem oc_M_prefixes : okC 338 c_M_prefixes = true := by decide +kernel
def cu_M_prefixes : List (Nat × List Bool) := [(12, [true, true, true, true]), (99, [true, true, true]), (4, [true, true, true])]
noncomputable def F_M_prefixes (O : Type) (a : Nat) (av : List AV) (σ : Mem) (K : AV → Mem → Option O) : Option O := if a = 339 then sm_M_begins0 O av σ K else none
theorem fs_M_prefixes {X : CXT} (hX : XM X) (O : Type) : FS X 3 (F_M_prefixes O) := by
  intro a av σ K o h
  unfold F_M_prefixes at h
  rcases ite_s h with ⟨rfl, h⟩ | ⟨_, h⟩
  · obtain ⟨r, h1, h2, h3⟩ := ok_M_begins0 hX _ _ _ _ _ h
    exact ⟨r, fun ht => ⟨2, by decide, h1 ht⟩, h2, h3⟩
  cases h
def hd_M_prefixes_12 {O : Type} (g : Nat → Int32 → Int32 → Int32 → Mem → Option O) (ls : OL) (st : List AV) (σ : Mem) : Option O := match ls, st with
  | [some (.inr (.inr (12, k0))), some (.inl v1), some (.inl v2), some (.inl v3)], [] => g k0 v1 v2 v3 σ
  | _, _ => none
theorem hs_M_prefixes_12 {X : CXT} {g : Nat → Int32 → Int32 → Int32 → Mem → Option (Int32 × Mem)} (hg : ∀ (k0 : Nat) (v1 : Int32) (v2 : Int32) (v3 : Int32) (s : Mem) (o : Int32 × Mem), g k0 v1 v2 v3 s = some o → BSnd X 3 338 (ovI o) 12 [some (.inr (.inr (12, k0))), some (.inl v1), some (.inl v2), some (.inl v3)] [] s) : ∀ ls st σ o, hd_M_prefixes_12 g ls st σ = some o → BSnd X 3 338 (ovI o) 12 ls st σ := by
  intro ls st σ o h
  unfold hd_M_prefixes_12 at h
  split at h
  · exact hg _ _ _ _ _ _ h
  · cases h
def hd_M_prefixes_99 {O : Type} (g : Nat → Int32 → Int32 → Mem → Option O) (ls : OL) (st : List AV) (σ : Mem) : Option O := match ls, st with
  | [some (.inr (.inr (12, k0))), some (.inl v1), some (.inl v2)], [] => g k0 v1 v2 σ
  | _, _ => none
theorem hs_M_prefixes_99 {X : CXT} {g : Nat → Int32 → Int32 → Mem → Option (Int32 × Mem)} (hg : ∀ (k0 : Nat) (v1 : Int32) (v2 : Int32) (s : Mem) (o : Int32 × Mem), g k0 v1 v2 s = some o → BSnd X 3 338 (ovI o) 99 [some (.inr (.inr (12, k0))), some (.inl v1), some (.inl v2)] [] s) : ∀ ls st σ o, hd_M_prefixes_99 g ls st σ = some o → BSnd X 3 338 (ovI o) 99 ls st σ := by
  intro ls st σ o h
  unfold hd_M_prefixes_99 at h
  split at h
  · exact hg _ _ _ _ _ h
  · cases h
def hd_M_prefixes_4 {O : Type} (g : Nat → Int32 → Int32 → Mem → Option O) (ls : OL) (st : List AV) (σ : Mem) : Option O := match ls, st with
  | [some (.inr (.inr (12, k0))), some (.inl v1), some (.inl v2)], [] => g k0 v1 v2 σ
  | _, _ => none
theorem hs_M_prefixes_4 {X : CXT} {g : Nat → Int32 → Int32 → Mem → Option (Int32 × Mem)} (hg : ∀ (k0 : Nat) (v1 : Int32) (v2 : Int32) (s : Mem) (o : Int32 × Mem), g k0 v1 v2 s = some o → BSnd X 3 338 (ovI o) 4 [some (.inr (.inr (12, k0))), some (.inl v1), some (.inl v2)] [] s) : ∀ ls st σ o, hd_M_prefixes_4 g ls st σ = some o → BSnd X 3 338 (ovI o) 4 ls st σ := by
  intro ls st σ o h
  unfold hd_M_prefixes_4 at h
  split at h
  · exact hg _ _ _ _ _ h
  · cases h
set_option maxRecDepth 100000 in
theorem s_M_prefixes_12 {X : CXT} (hX : XM X) {K99 : Nat → Int32 → Int32 → Mem → Option (Int32 × Mem)} (hK99 : ∀ (k0 : Nat) (v1 : Int32) (v2 : Int32) (s : Mem) (o : Int32 × Mem), K99 k0 v1 v2 s = some o → BSnd X 3 338 (ovI o) 99 [some (.inr (.inr (12, k0))), some (.inl v1), some (.inl v2)] [] s) : ∀ n : Nat, ∀ (k0 : Nat) (v1 : Int32) (v2 : Int32) (v3 : Int32) (s : Mem) (o : Int32 × Mem), f_M_prefixes_12 K99 n k0 v1 v2 v3 s = some o → BSnd X 3 338 (ovI o) 12 [some (.inr (.inr (12, k0))), some (.inl v1), some (.inl v2), some (.inl v3)] [] s := by
  intro n
  induction n with
  | zero => intro k0 v1 v2 v3 s o h; cases h
  | succ n ih =>
    intro k0 v1 v2 v3 s o h
    exact evC (chs := c_M_prefixes) (cuts := cu_M_prefixes) (G := fun pc ls st σ => if pc = 12 then hd_M_prefixes_12 (fun k0 v1 v2 v3 s => f_M_prefixes_12 K99 n k0 v1 v2 v3 s) ls st σ else if pc = 99 then hd_M_prefixes_99 (fun k0 v1 v2 s => K99 k0 v1 v2 s) ls st σ else none) hX.2.1 hX.2.2 (F := F_M_prefixes _) (fs_M_prefixes hX _) (rt_I rfl) oc_M_prefixes (by
    intro pc ls st σ o h
    rcases ite_s h with ⟨rfl, h⟩ | ⟨_, h⟩
    · exact hs_M_prefixes_12 ih _ _ _ _ h
    rcases ite_s h with ⟨rfl, h⟩ | ⟨_, h⟩
    · exact hs_M_prefixes_99 hK99 _ _ _ _ h
    cases h) 312 12 _ _ _ _ h
set_option maxRecDepth 100000 in
theorem s_M_prefixes_99 {X : CXT} (hX : XM X) {KH : Nat → Int32 → Int32 → Mem → Option (Int32 × Mem)} (hKH : ∀ (k0 : Nat) (v1 : Int32) (v2 : Int32) (s : Mem) (o : Int32 × Mem), KH k0 v1 v2 s = some o → BSnd X 3 338 (ovI o) 4 [some (.inr (.inr (12, k0))), some (.inl v1), some (.inl v2)] [] s) : ∀ (k0 : Nat) (v1 : Int32) (v2 : Int32) (s : Mem) (o : Int32 × Mem), f_M_prefixes_99 KH k0 v1 v2 s = some o → BSnd X 3 338 (ovI o) 99 [some (.inr (.inr (12, k0))), some (.inl v1), some (.inl v2)] [] s := by
  intro k0 v1 v2 s o h
  exact evC (chs := c_M_prefixes) (cuts := cu_M_prefixes) (G := fun pc ls st σ => if pc = 4 then hd_M_prefixes_4 (fun k0 v1 v2 s => KH k0 v1 v2 s) ls st σ else none) hX.2.1 hX.2.2 (F := F_M_prefixes _) (fs_M_prefixes hX _) (rt_I rfl) oc_M_prefixes (by
    intro pc ls st σ o h
    rcases ite_s h with ⟨rfl, h⟩ | ⟨_, h⟩
    · exact hs_M_prefixes_4 hKH _ _ _ _ h
    cases h) 312 99 _ _ _ _ h
set_option maxRecDepth 100000 in
theorem s_M_prefixes_4 {X : CXT} (hX : XM X) : ∀ n : Nat, ∀ (k0 : Nat) (v1 : Int32) (v2 : Int32) (s : Mem) (o : Int32 × Mem), f_M_prefixes_4 n k0 v1 v2 s = some o → BSnd X 3 338 (ovI o) 4 [some (.inr (.inr (12, k0))), some (.inl v1), some (.inl v2)] [] s := by
  intro n
  induction n with
  | zero => intro k0 v1 v2 s o h; cases h
  | succ n ih =>
    intro k0 v1 v2 s o h
    exact evC (chs := c_M_prefixes) (cuts := cu_M_prefixes) (G := fun pc ls st σ => if pc = 12 then hd_M_prefixes_12 (fun k0 v1 v2 v3 s => f_M_prefixes_12 (fun k0 v1 v2 s => f_M_prefixes_99 (fun k0 v1 v2 s => f_M_prefixes_4 n k0 v1 v2 s) k0 v1 v2 s) FU k0 v1 v2 v3 s) ls st σ else if pc = 99 then hd_M_prefixes_99 (fun k0 v1 v2 s => f_M_prefixes_99 (fun k0 v1 v2 s => f_M_prefixes_4 n k0 v1 v2 s) k0 v1 v2 s) ls st σ else if pc = 4 then hd_M_prefixes_4 (fun k0 v1 v2 s => f_M_prefixes_4 n k0 v1 v2 s) ls st σ else none) hX.2.1 hX.2.2 (F := F_M_prefixes _) (fs_M_prefixes hX _) (rt_I rfl) oc_M_prefixes (by
    intro pc ls st σ o h
    rcases ite_s h with ⟨rfl, h⟩ | ⟨_, h⟩
    · exact hs_M_prefixes_12 (s_M_prefixes_12 hX (s_M_prefixes_99 hX ih) FU) _ _ _ _ h
    rcases ite_s h with ⟨rfl, h⟩ | ⟨_, h⟩
    · exact hs_M_prefixes_99 (s_M_prefixes_99 hX ih) _ _ _ _ h
    rcases ite_s h with ⟨rfl, h⟩ | ⟨_, h⟩
    · exact hs_M_prefixes_4 ih _ _ _ _ h
    cases h) 312 4 _ _ _ _ h
set_option maxRecDepth 100000 in
theorem s_M_prefixes {X : CXT} (hX : XM X) : ∀ (k0 : Nat) (s : Mem) (o : Int32 × Mem), f_M_prefixes k0 s = some o → BSnd X 3 338 (ovI o) 0 (entL [.inr (.inr (12, k0))]) [] s := by
  intro k0 s o h
  rw [f_M_prefixes_eq] at h
  exact evC (chs := c_M_prefixes) (cuts := cu_M_prefixes) (G := fun pc ls st σ => if pc = 4 then hd_M_prefixes_4 (fun k0 v1 v2 s => f_M_prefixes_4 FU k0 v1 v2 s) ls st σ else none) hX.2.1 hX.2.2 (F := F_M_prefixes _) (fs_M_prefixes hX _) (rt_I rfl) oc_M_prefixes (by
    intro pc ls st σ o h
    rcases ite_s h with ⟨rfl, h⟩ | ⟨_, h⟩
    · exact hs_M_prefixes_4 (s_M_prefixes_4 hX FU) _ _ _ _ h
    cases h) 312 0 _ _ _ _ h
theorem ok_M_prefixes {X : CXT} (hX : XM X) : SemOK X 3 338 sm_M_prefixes := by
  intro O av σ K o h
  unfold sm_M_prefixes at h
  split at h
  · obtain ⟨r, hf, h⟩ := Option.bind_eq_some_iff.mp h
    exact ⟨ovI r, fun ht => sp_of hX.1 (by decide) (List.mem_range.mpr (by decide)) (by decide +kernel) ht (Nat.le_of_ble_eq_true rfl) (s_M_prefixes hX _ _ _ hf), trivial, h⟩
  · cases h
noncomputable def f_M_reads_37 (K63 : Nat → Int32 → Int32 → Mem → Option (Int32 × Mem)) : Nat → Nat → Int32 → Int32 → Int32 → Mem → Option (Int32 × Mem)
  | 0, _, _, _, _, _ => none
  | n + 1, k0, v1, v2, v3, s =>
    cif (v1 < v3) (
      K63 k0 v1 v2 s) (
      cif (v3 = 0) (
        gd (inb v3 (lenM (k0 + 14))) <|
        let s1 : Mem := wI s (k0 + 14) (ix v3) ((1 : Int32))
        f_M_reads_37 K63 n k0 v1 v2 (v3 + (1 : Int32)) s1) (
        gd (inb v3 (lenM (k0 + 14))) <|
        let s2 : Mem := wI s (k0 + 14) (ix v3) ((0 : Int32))
        f_M_reads_37 K63 n k0 v1 v2 (v3 + (1 : Int32)) s2))
noncomputable def f_M_reads_73 (K130 : Nat → Int32 → Int32 → Int32 → Mem → Option (Int32 × Mem)) : Nat → Nat → Int32 → Int32 → Int32 → Int32 → Mem → Option (Int32 × Mem)
  | 0, _, _, _, _, _, _ => none
  | n + 1, k0, v1, v2, v3, v4, s =>
    cif (((8 : Int32)) ≤ v4) (
      K130 k0 v1 v2 v3 s) (
      (f_M_begins0 k0 v4 (v1 - v3) (v2 >>> (v3 &&& 31)) s).bind fun r1 =>
      cif ((b2i r1.1) = 0) (
        f_M_reads_73 K130 n k0 v1 v2 v3 (v4 + (1 : Int32)) r1.2) (
        gd (inb (((340 : Int32)) + (((2 : Int32)) * v4)) (lenM (k0 + 1))) <|
        gd (inb (v3 + (rI r1.2 (k0 + 1) (ix (((340 : Int32)) + (((2 : Int32)) * v4))))) (lenM (k0 + 14))) <|
        gd (inb v3 (lenM (k0 + 14))) <|
        gd (inb (v3 + (rI r1.2 (k0 + 1) (ix (((340 : Int32)) + (((2 : Int32)) * v4))))) (lenM (k0 + 14))) <|
        let s2 : Mem := wI r1.2 (k0 + 14) (ix (v3 + (rI r1.2 (k0 + 1) (ix (((340 : Int32)) + (((2 : Int32)) * v4)))))) ((rI r1.2 (k0 + 14) (ix (v3 + (rI r1.2 (k0 + 1) (ix (((340 : Int32)) + (((2 : Int32)) * v4))))))) + (rI r1.2 (k0 + 14) (ix v3)))
        f_M_reads_73 K130 n k0 v1 v2 v3 (v4 + (1 : Int32)) s2))
noncomputable def f_M_reads_130 (KH : Nat → Int32 → Int32 → Int32 → Mem → Option (Int32 × Mem)) (k0 : Nat) (v1 : Int32) (v2 : Int32) (v3 : Int32) (s : Mem) : Option (Int32 × Mem) :=
  KH k0 v1 v2 (v3 + (1 : Int32)) s
noncomputable def f_M_reads_65 : Nat → Nat → Int32 → Int32 → Int32 → Mem → Option (Int32 × Mem)
  | 0, _, _, _, _, _ => none
  | n + 1, k0, v1, v2, v3, s =>
    cif (v1 ≤ v3) (
      gd (inb v1 (lenM (k0 + 14))) <|
      some (rI s (k0 + 14) (ix v1), s)) (
      f_M_reads_73 (fun k0 v1 v2 v3 s => f_M_reads_130 (fun k0 v1 v2 v3 s => f_M_reads_65 n k0 v1 v2 v3 s) k0 v1 v2 v3 s) FU k0 v1 v2 v3 ((0 : Int32)) s)
noncomputable def f_M_reads_63 (k0 : Nat) (v1 : Int32) (v2 : Int32) (s : Mem) : Option (Int32 × Mem) :=
  f_M_reads_65 FU k0 v1 v2 ((0 : Int32)) s
noncomputable def b_M_reads (k0 : Nat) (v1 : Int32) (v2 : Int32) (s : Mem) : Option (Int32 × Mem) :=
  cif (v1 = ((-1 : Int32))) (
    (f_M_prefixes k0 s).bind fun r1 =>
    some (r1.1, r1.2)) (
    (f_M_isIn v1 ((0 : Int32)) ((10 : Int32)) s).bind fun r2 =>
    cif ((b2i r2.1) = 0) (
      some ((-1 : Int32), r2.2)) (
      (f_M_isIn v2 ((0 : Int32)) ((((1 : Int32)) <<< (v1 &&& 31)) - ((1 : Int32))) r2.2).bind fun r3 =>
      cif ((b2i r3.1) = 0) (
        some ((-1 : Int32), r3.2)) (
        f_M_reads_37 (fun k0 v1 v2 s => f_M_reads_63 k0 v1 v2 s) FU k0 v1 v2 ((0 : Int32)) r3.2)))
noncomputable def f_M_reads : Nat → Int32 → Int32 → Mem → Option (Int32 × Mem) := Classical.choose (⟨b_M_reads, rfl⟩ : ∃ f : Nat → Int32 → Int32 → Mem → Option (Int32 × Mem), f = b_M_reads)
theorem f_M_reads_eq : f_M_reads = b_M_reads := Classical.choose_spec (⟨b_M_reads, rfl⟩ : ∃ f : Nat → Int32 → Int32 → Mem → Option (Int32 × Mem), f = b_M_reads)
noncomputable def sm_M_reads (O : Type) (av : List AV) (σ : Mem) (K : AV → Mem → Option O) : Option O := match av with
  | [.inr (.inr (12, k0)), .inl v1, .inl v2] => (f_M_reads k0 v1 v2 σ).bind fun r => K (.inl r.1) r.2
  | _ => none
def c_M_reads : List (List CE) := [[(0, .iload_n 1, 1, 0, 0, 0), (1, .iconst (-1), 1, 1, 0, 1), (2, .if_icmp .ne 8, 3, 10, 0, 0), (5, .aload_n 0, 1, 0, 0, 0), (6, .invokevirtual 418, 3, 338, 1, 25), (9, .ireturn, 1, 0, 0, 0), (10, .iload_n 1, 1, 0, 0, 0), (11, .iconst 0, 1, 0, 0, 0), (12, .bipush 10, 2, 10, 0, 0), (14, .invokestatic 60, 3, 230, 3, 1)], [(17, .ifCond .eq 16, 3, 33, 0, 0), (20, .iload_n 2, 1, 0, 0, 0), (21, .iconst 0, 1, 0, 0, 0), (22, .iconst 1, 1, 1, 0, 0), (23, .iload_n 1, 1, 0, 0, 0), (24, .ishl, 1, 0, 0, 0), (25, .iconst 1, 1, 1, 0, 0), (26, .isub, 1, 0, 0, 0), (27, .invokestatic 60, 3, 230, 3, 1), (30, .ifCond .ne 5, 3, 35, 0, 0)], [(33, .iconst (-1), 1, 1, 0, 1), (34, .ireturn, 1, 0, 0, 0), (35, .iconst 0, 1, 0, 0, 0), (36, .istore_n 3, 1, 0, 0, 0), (37, .iload_n 3, 1, 0, 0, 0), (38, .iload_n 1, 1, 0, 0, 0), (39, .if_icmp .gt 24, 3, 63, 0, 0), (42, .aload_n 0, 1, 0, 0, 0), (43, .getfield 54, 3, 12, 30, 0), (46, .iload_n 3, 1, 0, 0, 0), (47, .iload_n 3, 1, 0, 0, 0)], [(48, .ifCond .ne 7, 3, 55, 0, 0), (51, .iconst 1, 1, 1, 0, 0), (52, .goto 4, 3, 56, 0, 0), (55, .iconst 0, 1, 0, 0, 0), (56, .iastore, 1, 0, 0, 0), (57, .iinc 3 1, 3, 1, 0, 0), (60, .goto (-23), 3, 37, 0, 0), (63, .iconst 0, 1, 0, 0, 0)], [(64, .istore_n 3, 1, 0, 0, 0), (65, .iload_n 3, 1, 0, 0, 0), (66, .iload_n 1, 1, 0, 0, 0), (67, .if_icmp .ge 69, 3, 136, 0, 0), (70, .iconst 0, 1, 0, 0, 0), (71, .istore 4, 2, 0, 0, 0), (73, .iload 4, 2, 0, 0, 0), (75, .bipush 8, 2, 8, 0, 0), (77, .if_icmp .ge 53, 3, 130, 0, 0)], [(80, .aload_n 0, 1, 0, 0, 0), (81, .iload 4, 2, 0, 0, 0), (83, .iload_n 1, 1, 0, 0, 0), (84, .iload_n 3, 1, 0, 0, 0), (85, .isub, 1, 0, 0, 0), (86, .iload_n 2, 1, 0, 0, 0), (87, .iload_n 3, 1, 0, 0, 0), (88, .ishr, 1, 0, 0, 0), (89, .invokevirtual 415, 3, 339, 4, 25), (92, .ifCond .eq 32, 3, 124, 0, 0), (95, .aload_n 0, 1, 0, 0, 0)], [(96, .getfield 54, 3, 12, 30, 0), (99, .iload_n 3, 1, 0, 0, 0), (100, .aload_n 0, 1, 0, 0, 0), (101, .getfield 7, 3, 12, 0, 0), (104, .sipush 340, 3, 340, 0, 0), (107, .iconst 2, 1, 2, 0, 0), (108, .iload 4, 2, 0, 0, 0), (110, .imul, 1, 0, 0, 0), (111, .iadd, 1, 0, 0, 0)], [(112, .iaload, 1, 0, 0, 0), (113, .iadd, 1, 0, 0, 0), (114, .dup2, 1, 0, 0, 0), (115, .iaload, 1, 0, 0, 0), (116, .aload_n 0, 1, 0, 0, 0), (117, .getfield 54, 3, 12, 30, 0), (120, .iload_n 3, 1, 0, 0, 0), (121, .iaload, 1, 0, 0, 0), (122, .iadd, 1, 0, 0, 0), (123, .iastore, 1, 0, 0, 0), (124, .iinc 4 1, 3, 1, 0, 0), (127, .goto (-54), 3, 73, 0, 0)], [(130, .iinc 3 1, 3, 1, 0, 0), (133, .goto (-68), 3, 65, 0, 0), (136, .aload_n 0, 1, 0, 0, 0), (137, .getfield 54, 3, 12, 30, 0), (140, .iload_n 1, 1, 0, 0, 0), (141, .iaload, 1, 0, 0, 0), (142, .ireturn, 1, 0, 0, 0)]]
set_option maxRecDepth 100000 in
theorem oc_M_reads : okC 337 c_M_reads = true := by decide +kernel
def cu_M_reads : List (Nat × List Bool) := [(37, [true, true, true, true]), (73, [true, true, true, true, true]), (130, [true, true, true, true]), (65, [true, true, true, true]), (63, [true, true, true])]
noncomputable def F_M_reads (O : Type) (a : Nat) (av : List AV) (σ : Mem) (K : AV → Mem → Option O) : Option O := if a = 230 then sm_M_isIn O av σ K else if a = 338 then sm_M_prefixes O av σ K else if a = 339 then sm_M_begins0 O av σ K else none
theorem fs_M_reads {X : CXT} (hX : XM X) (O : Type) : FS X 4 (F_M_reads O) := by
  intro a av σ K o h
  unfold F_M_reads at h
  rcases ite_s h with ⟨rfl, h⟩ | ⟨_, h⟩
  · obtain ⟨r, h1, h2, h3⟩ := ok_M_isIn hX _ _ _ _ _ h
    exact ⟨r, fun ht => ⟨1, by decide, h1 ht⟩, h2, h3⟩
  rcases ite_s h with ⟨rfl, h⟩ | ⟨_, h⟩
  · obtain ⟨r, h1, h2, h3⟩ := ok_M_prefixes hX _ _ _ _ _ h
    exact ⟨r, fun ht => ⟨3, by decide, h1 ht⟩, h2, h3⟩
  rcases ite_s h with ⟨rfl, h⟩ | ⟨_, h⟩
  · obtain ⟨r, h1, h2, h3⟩ := ok_M_begins0 hX _ _ _ _ _ h
    exact ⟨r, fun ht => ⟨2, by decide, h1 ht⟩, h2, h3⟩
  cases h
def hd_M_reads_37 {O : Type} (g : Nat → Int32 → Int32 → Int32 → Mem → Option O) (ls : OL) (st : List AV) (σ : Mem) : Option O := match ls, st with
  | [some (.inr (.inr (12, k0))), some (.inl v1), some (.inl v2), some (.inl v3)], [] => g k0 v1 v2 v3 σ
  | _, _ => none
theorem hs_M_reads_37 {X : CXT} {g : Nat → Int32 → Int32 → Int32 → Mem → Option (Int32 × Mem)} (hg : ∀ (k0 : Nat) (v1 : Int32) (v2 : Int32) (v3 : Int32) (s : Mem) (o : Int32 × Mem), g k0 v1 v2 v3 s = some o → BSnd X 4 337 (ovI o) 37 [some (.inr (.inr (12, k0))), some (.inl v1), some (.inl v2), some (.inl v3)] [] s) : ∀ ls st σ o, hd_M_reads_37 g ls st σ = some o → BSnd X 4 337 (ovI o) 37 ls st σ := by
  intro ls st σ o h
  unfold hd_M_reads_37 at h
  split at h
  · exact hg _ _ _ _ _ _ h
  · cases h
def hd_M_reads_73 {O : Type} (g : Nat → Int32 → Int32 → Int32 → Int32 → Mem → Option O) (ls : OL) (st : List AV) (σ : Mem) : Option O := match ls, st with
  | [some (.inr (.inr (12, k0))), some (.inl v1), some (.inl v2), some (.inl v3), some (.inl v4)], [] => g k0 v1 v2 v3 v4 σ
  | _, _ => none
theorem hs_M_reads_73 {X : CXT} {g : Nat → Int32 → Int32 → Int32 → Int32 → Mem → Option (Int32 × Mem)} (hg : ∀ (k0 : Nat) (v1 : Int32) (v2 : Int32) (v3 : Int32) (v4 : Int32) (s : Mem) (o : Int32 × Mem), g k0 v1 v2 v3 v4 s = some o → BSnd X 4 337 (ovI o) 73 [some (.inr (.inr (12, k0))), some (.inl v1), some (.inl v2), some (.inl v3), some (.inl v4)] [] s) : ∀ ls st σ o, hd_M_reads_73 g ls st σ = some o → BSnd X 4 337 (ovI o) 73 ls st σ := by
  intro ls st σ o h
  unfold hd_M_reads_73 at h
  split at h
  · exact hg _ _ _ _ _ _ _ h
  · cases h
def hd_M_reads_130 {O : Type} (g : Nat → Int32 → Int32 → Int32 → Mem → Option O) (ls : OL) (st : List AV) (σ : Mem) : Option O := match ls, st with
  | [some (.inr (.inr (12, k0))), some (.inl v1), some (.inl v2), some (.inl v3)], [] => g k0 v1 v2 v3 σ
  | _, _ => none
theorem hs_M_reads_130 {X : CXT} {g : Nat → Int32 → Int32 → Int32 → Mem → Option (Int32 × Mem)} (hg : ∀ (k0 : Nat) (v1 : Int32) (v2 : Int32) (v3 : Int32) (s : Mem) (o : Int32 × Mem), g k0 v1 v2 v3 s = some o → BSnd X 4 337 (ovI o) 130 [some (.inr (.inr (12, k0))), some (.inl v1), some (.inl v2), some (.inl v3)] [] s) : ∀ ls st σ o, hd_M_reads_130 g ls st σ = some o → BSnd X 4 337 (ovI o) 130 ls st σ := by
  intro ls st σ o h
  unfold hd_M_reads_130 at h
  split at h
  · exact hg _ _ _ _ _ _ h
  · cases h
def hd_M_reads_65 {O : Type} (g : Nat → Int32 → Int32 → Int32 → Mem → Option O) (ls : OL) (st : List AV) (σ : Mem) : Option O := match ls, st with
  | [some (.inr (.inr (12, k0))), some (.inl v1), some (.inl v2), some (.inl v3)], [] => g k0 v1 v2 v3 σ
  | _, _ => none
theorem hs_M_reads_65 {X : CXT} {g : Nat → Int32 → Int32 → Int32 → Mem → Option (Int32 × Mem)} (hg : ∀ (k0 : Nat) (v1 : Int32) (v2 : Int32) (v3 : Int32) (s : Mem) (o : Int32 × Mem), g k0 v1 v2 v3 s = some o → BSnd X 4 337 (ovI o) 65 [some (.inr (.inr (12, k0))), some (.inl v1), some (.inl v2), some (.inl v3)] [] s) : ∀ ls st σ o, hd_M_reads_65 g ls st σ = some o → BSnd X 4 337 (ovI o) 65 ls st σ := by
  intro ls st σ o h
  unfold hd_M_reads_65 at h
  split at h
  · exact hg _ _ _ _ _ _ h
  · cases h
def hd_M_reads_63 {O : Type} (g : Nat → Int32 → Int32 → Mem → Option O) (ls : OL) (st : List AV) (σ : Mem) : Option O := match ls, st with
  | [some (.inr (.inr (12, k0))), some (.inl v1), some (.inl v2)], [] => g k0 v1 v2 σ
  | _, _ => none
theorem hs_M_reads_63 {X : CXT} {g : Nat → Int32 → Int32 → Mem → Option (Int32 × Mem)} (hg : ∀ (k0 : Nat) (v1 : Int32) (v2 : Int32) (s : Mem) (o : Int32 × Mem), g k0 v1 v2 s = some o → BSnd X 4 337 (ovI o) 63 [some (.inr (.inr (12, k0))), some (.inl v1), some (.inl v2)] [] s) : ∀ ls st σ o, hd_M_reads_63 g ls st σ = some o → BSnd X 4 337 (ovI o) 63 ls st σ := by
  intro ls st σ o h
  unfold hd_M_reads_63 at h
  split at h
  · exact hg _ _ _ _ _ h
  · cases h
set_option maxRecDepth 100000 in
theorem s_M_reads_37 {X : CXT} (hX : XM X) {K63 : Nat → Int32 → Int32 → Mem → Option (Int32 × Mem)} (hK63 : ∀ (k0 : Nat) (v1 : Int32) (v2 : Int32) (s : Mem) (o : Int32 × Mem), K63 k0 v1 v2 s = some o → BSnd X 4 337 (ovI o) 63 [some (.inr (.inr (12, k0))), some (.inl v1), some (.inl v2)] [] s) : ∀ n : Nat, ∀ (k0 : Nat) (v1 : Int32) (v2 : Int32) (v3 : Int32) (s : Mem) (o : Int32 × Mem), f_M_reads_37 K63 n k0 v1 v2 v3 s = some o → BSnd X 4 337 (ovI o) 37 [some (.inr (.inr (12, k0))), some (.inl v1), some (.inl v2), some (.inl v3)] [] s := by
  intro n
  induction n with
  | zero => intro k0 v1 v2 v3 s o h; cases h
  | succ n ih =>
    intro k0 v1 v2 v3 s o h
    exact evC (chs := c_M_reads) (cuts := cu_M_reads) (G := fun pc ls st σ => if pc = 37 then hd_M_reads_37 (fun k0 v1 v2 v3 s => f_M_reads_37 K63 n k0 v1 v2 v3 s) ls st σ else if pc = 63 then hd_M_reads_63 (fun k0 v1 v2 s => K63 k0 v1 v2 s) ls st σ else none) hX.2.1 hX.2.2 (F := F_M_reads _) (fs_M_reads hX _) (rt_I rfl) oc_M_reads (by
    intro pc ls st σ o h
    rcases ite_s h with ⟨rfl, h⟩ | ⟨_, h⟩
    · exact hs_M_reads_37 ih _ _ _ _ h
    rcases ite_s h with ⟨rfl, h⟩ | ⟨_, h⟩
    · exact hs_M_reads_63 hK63 _ _ _ _ h
    cases h) 388 37 _ _ _ _ h
set_option maxRecDepth 100000 in
theorem s_M_reads_73 {X : CXT} (hX : XM X) {K130 : Nat → Int32 → Int32 → Int32 → Mem → Option (Int32 × Mem)} (hK130 : ∀ (k0 : Nat) (v1 : Int32) (v2 : Int32) (v3 : Int32) (s : Mem) (o : Int32 × Mem), K130 k0 v1 v2 v3 s = some o → BSnd X 4 337 (ovI o) 130 [some (.inr (.inr (12, k0))), some (.inl v1), some (.inl v2), some (.inl v3)] [] s) : ∀ n : Nat, ∀ (k0 : Nat) (v1 : Int32) (v2 : Int32) (v3 : Int32) (v4 : Int32) (s : Mem) (o : Int32 × Mem), f_M_reads_73 K130 n k0 v1 v2 v3 v4 s = some o → BSnd X 4 337 (ovI o) 73 [some (.inr (.inr (12, k0))), some (.inl v1), some (.inl v2), some (.inl v3), some (.inl v4)] [] s := by
  intro n
  induction n with
  | zero => intro k0 v1 v2 v3 v4 s o h; cases h
  | succ n ih =>
    intro k0 v1 v2 v3 v4 s o h
    exact evC (chs := c_M_reads) (cuts := cu_M_reads) (G := fun pc ls st σ => if pc = 73 then hd_M_reads_73 (fun k0 v1 v2 v3 v4 s => f_M_reads_73 K130 n k0 v1 v2 v3 v4 s) ls st σ else if pc = 130 then hd_M_reads_130 (fun k0 v1 v2 v3 s => K130 k0 v1 v2 v3 s) ls st σ else none) hX.2.1 hX.2.2 (F := F_M_reads _) (fs_M_reads hX _) (rt_I rfl) oc_M_reads (by
    intro pc ls st σ o h
    rcases ite_s h with ⟨rfl, h⟩ | ⟨_, h⟩
    · exact hs_M_reads_73 ih _ _ _ _ h
    rcases ite_s h with ⟨rfl, h⟩ | ⟨_, h⟩
    · exact hs_M_reads_130 hK130 _ _ _ _ h
    cases h) 388 73 _ _ _ _ h
set_option maxRecDepth 100000 in
theorem s_M_reads_130 {X : CXT} (hX : XM X) {KH : Nat → Int32 → Int32 → Int32 → Mem → Option (Int32 × Mem)} (hKH : ∀ (k0 : Nat) (v1 : Int32) (v2 : Int32) (v3 : Int32) (s : Mem) (o : Int32 × Mem), KH k0 v1 v2 v3 s = some o → BSnd X 4 337 (ovI o) 65 [some (.inr (.inr (12, k0))), some (.inl v1), some (.inl v2), some (.inl v3)] [] s) : ∀ (k0 : Nat) (v1 : Int32) (v2 : Int32) (v3 : Int32) (s : Mem) (o : Int32 × Mem), f_M_reads_130 KH k0 v1 v2 v3 s = some o → BSnd X 4 337 (ovI o) 130 [some (.inr (.inr (12, k0))), some (.inl v1), some (.inl v2), some (.inl v3)] [] s := by
  intro k0 v1 v2 v3 s o h
  exact evC (chs := c_M_reads) (cuts := cu_M_reads) (G := fun pc ls st σ => if pc = 65 then hd_M_reads_65 (fun k0 v1 v2 v3 s => KH k0 v1 v2 v3 s) ls st σ else none) hX.2.1 hX.2.2 (F := F_M_reads _) (fs_M_reads hX _) (rt_I rfl) oc_M_reads (by
    intro pc ls st σ o h
    rcases ite_s h with ⟨rfl, h⟩ | ⟨_, h⟩
    · exact hs_M_reads_65 hKH _ _ _ _ h
    cases h) 388 130 _ _ _ _ h
set_option maxRecDepth 100000 in
theorem s_M_reads_65 {X : CXT} (hX : XM X) : ∀ n : Nat, ∀ (k0 : Nat) (v1 : Int32) (v2 : Int32) (v3 : Int32) (s : Mem) (o : Int32 × Mem), f_M_reads_65 n k0 v1 v2 v3 s = some o → BSnd X 4 337 (ovI o) 65 [some (.inr (.inr (12, k0))), some (.inl v1), some (.inl v2), some (.inl v3)] [] s := by
  intro n
  induction n with
  | zero => intro k0 v1 v2 v3 s o h; cases h
  | succ n ih =>
    intro k0 v1 v2 v3 s o h
    exact evC (chs := c_M_reads) (cuts := cu_M_reads) (G := fun pc ls st σ => if pc = 73 then hd_M_reads_73 (fun k0 v1 v2 v3 v4 s => f_M_reads_73 (fun k0 v1 v2 v3 s => f_M_reads_130 (fun k0 v1 v2 v3 s => f_M_reads_65 n k0 v1 v2 v3 s) k0 v1 v2 v3 s) FU k0 v1 v2 v3 v4 s) ls st σ else if pc = 130 then hd_M_reads_130 (fun k0 v1 v2 v3 s => f_M_reads_130 (fun k0 v1 v2 v3 s => f_M_reads_65 n k0 v1 v2 v3 s) k0 v1 v2 v3 s) ls st σ else if pc = 65 then hd_M_reads_65 (fun k0 v1 v2 v3 s => f_M_reads_65 n k0 v1 v2 v3 s) ls st σ else none) hX.2.1 hX.2.2 (F := F_M_reads _) (fs_M_reads hX _) (rt_I rfl) oc_M_reads (by
    intro pc ls st σ o h
    rcases ite_s h with ⟨rfl, h⟩ | ⟨_, h⟩
    · exact hs_M_reads_73 (s_M_reads_73 hX (s_M_reads_130 hX ih) FU) _ _ _ _ h
    rcases ite_s h with ⟨rfl, h⟩ | ⟨_, h⟩
    · exact hs_M_reads_130 (s_M_reads_130 hX ih) _ _ _ _ h
    rcases ite_s h with ⟨rfl, h⟩ | ⟨_, h⟩
    · exact hs_M_reads_65 ih _ _ _ _ h
    cases h) 388 65 _ _ _ _ h
set_option maxRecDepth 100000 in
theorem s_M_reads_63 {X : CXT} (hX : XM X) : ∀ (k0 : Nat) (v1 : Int32) (v2 : Int32) (s : Mem) (o : Int32 × Mem), f_M_reads_63 k0 v1 v2 s = some o → BSnd X 4 337 (ovI o) 63 [some (.inr (.inr (12, k0))), some (.inl v1), some (.inl v2)] [] s := by
  intro k0 v1 v2 s o h
  exact evC (chs := c_M_reads) (cuts := cu_M_reads) (G := fun pc ls st σ => if pc = 65 then hd_M_reads_65 (fun k0 v1 v2 v3 s => f_M_reads_65 FU k0 v1 v2 v3 s) ls st σ else none) hX.2.1 hX.2.2 (F := F_M_reads _) (fs_M_reads hX _) (rt_I rfl) oc_M_reads (by
    intro pc ls st σ o h
    rcases ite_s h with ⟨rfl, h⟩ | ⟨_, h⟩
    · exact hs_M_reads_65 (s_M_reads_65 hX FU) _ _ _ _ h
    cases h) 388 63 _ _ _ _ h
set_option maxRecDepth 100000 in
theorem s_M_reads {X : CXT} (hX : XM X) : ∀ (k0 : Nat) (v1 : Int32) (v2 : Int32) (s : Mem) (o : Int32 × Mem), f_M_reads k0 v1 v2 s = some o → BSnd X 4 337 (ovI o) 0 (entL [.inr (.inr (12, k0)), .inl v1, .inl v2]) [] s := by
  intro k0 v1 v2 s o h
  rw [f_M_reads_eq] at h
  exact evC (chs := c_M_reads) (cuts := cu_M_reads) (G := fun pc ls st σ => if pc = 37 then hd_M_reads_37 (fun k0 v1 v2 v3 s => f_M_reads_37 (fun k0 v1 v2 s => f_M_reads_63 k0 v1 v2 s) FU k0 v1 v2 v3 s) ls st σ else if pc = 63 then hd_M_reads_63 (fun k0 v1 v2 s => f_M_reads_63 k0 v1 v2 s) ls st σ else none) hX.2.1 hX.2.2 (F := F_M_reads _) (fs_M_reads hX _) (rt_I rfl) oc_M_reads (by
    intro pc ls st σ o h
    rcases ite_s h with ⟨rfl, h⟩ | ⟨_, h⟩
    · exact hs_M_reads_37 (s_M_reads_37 hX (s_M_reads_63 hX) FU) _ _ _ _ h
    rcases ite_s h with ⟨rfl, h⟩ | ⟨_, h⟩
    · exact hs_M_reads_63 (s_M_reads_63 hX) _ _ _ _ h
    cases h) 388 0 _ _ _ _ h
theorem ok_M_reads {X : CXT} (hX : XM X) : SemOK X 4 337 sm_M_reads := by
  intro O av σ K o h
  unfold sm_M_reads at h
  split at h
  · obtain ⟨r, hf, h⟩ := Option.bind_eq_some_iff.mp h
    exact ⟨ovI r, fun ht => sp_of hX.1 (by decide) (List.mem_range.mpr (by decide)) (by decide +kernel) ht (Nat.le_of_ble_eq_true rfl) (s_M_reads hX _ _ _ _ _ hf), trivial, h⟩
  · cases h
noncomputable def b_M_odds (k0 : Nat) (v1 : Int32) (v2 : Int32) (s : Mem) : Option (Bool × Mem) :=
  (f_M_isIn v1 ((0 : Int32)) ((9 : Int32)) s).bind fun r1 =>
  cif ((b2i r1.1) = 0) (
    some (false, r1.2)) (
    (f_M_isIn v2 ((0 : Int32)) ((100 : Int32)) r1.2).bind fun r2 =>
    cif ((b2i r2.1) = 0) (
      some (false, r2.2)) (
      gd (inb (((356 : Int32)) + v1) (lenM (k0 + 1))) <|
      let s3 : Mem := wI r2.2 (k0 + 1) (ix (((356 : Int32)) + v1)) v2
      some (true, s3)))
noncomputable def f_M_odds : Nat → Int32 → Int32 → Mem → Option (Bool × Mem) := Classical.choose (⟨b_M_odds, rfl⟩ : ∃ f : Nat → Int32 → Int32 → Mem → Option (Bool × Mem), f = b_M_odds)
theorem f_M_odds_eq : f_M_odds = b_M_odds := Classical.choose_spec (⟨b_M_odds, rfl⟩ : ∃ f : Nat → Int32 → Int32 → Mem → Option (Bool × Mem), f = b_M_odds)
noncomputable def sm_M_odds (O : Type) (av : List AV) (σ : Mem) (K : AV → Mem → Option O) : Option O := match av with
  | [.inr (.inr (12, k0)), .inl v1, .inl v2] => (f_M_odds k0 v1 v2 σ).bind fun r => K (.inl (b2i r.1)) r.2
  | _ => none
def c_M_odds : List (List CE) := [[(0, .iload_n 1, 1, 0, 0, 0), (1, .iconst 0, 1, 0, 0, 0), (2, .bipush 9, 2, 9, 0, 0), (4, .invokestatic 60, 3, 230, 3, 1), (7, .ifCond .eq 13, 3, 20, 0, 0), (10, .iload_n 2, 1, 0, 0, 0), (11, .iconst 0, 1, 0, 0, 0), (12, .bipush 100, 2, 100, 0, 0), (14, .invokestatic 60, 3, 230, 3, 1)], [(17, .ifCond .ne 5, 3, 22, 0, 0), (20, .iconst 0, 1, 0, 0, 0), (21, .ireturn, 1, 0, 0, 0), (22, .aload_n 0, 1, 0, 0, 0), (23, .getfield 7, 3, 12, 0, 0), (26, .sipush 356, 3, 356, 0, 0), (29, .iload_n 1, 1, 0, 0, 0), (30, .iadd, 1, 0, 0, 0), (31, .iload_n 2, 1, 0, 0, 0)], [(32, .iastore, 1, 0, 0, 0), (33, .iconst 1, 1, 1, 0, 0), (34, .ireturn, 1, 0, 0, 0)]]
set_option maxRecDepth 100000 in
theorem oc_M_odds : okC 340 c_M_odds = true := by decide +kernel
def cu_M_odds : List (Nat × List Bool) := []
noncomputable def F_M_odds (O : Type) (a : Nat) (av : List AV) (σ : Mem) (K : AV → Mem → Option O) : Option O := if a = 230 then sm_M_isIn O av σ K else none
theorem fs_M_odds {X : CXT} (hX : XM X) (O : Type) : FS X 2 (F_M_odds O) := by
  intro a av σ K o h
  unfold F_M_odds at h
  rcases ite_s h with ⟨rfl, h⟩ | ⟨_, h⟩
  · obtain ⟨r, h1, h2, h3⟩ := ok_M_isIn hX _ _ _ _ _ h
    exact ⟨r, fun ht => ⟨1, by decide, h1 ht⟩, h2, h3⟩
  cases h
set_option maxRecDepth 100000 in
theorem s_M_odds {X : CXT} (hX : XM X) : ∀ (k0 : Nat) (v1 : Int32) (v2 : Int32) (s : Mem) (o : Bool × Mem), f_M_odds k0 v1 v2 s = some o → BSnd X 2 340 (ovZ o) 0 (entL [.inr (.inr (12, k0)), .inl v1, .inl v2]) [] s := by
  intro k0 v1 v2 s o h
  rw [f_M_odds_eq] at h
  exact evC (chs := c_M_odds) (cuts := cu_M_odds) (G := fun pc ls st σ => none) hX.2.1 hX.2.2 (F := F_M_odds _) (fs_M_odds hX _) (rt_Z rfl) oc_M_odds (by
    intro pc ls st σ o h
    cases h) 124 0 _ _ _ _ h
theorem ok_M_odds {X : CXT} (hX : XM X) : SemOK X 2 340 sm_M_odds := by
  intro O av σ K o h
  unfold sm_M_odds at h
  split at h
  · obtain ⟨r, hf, h⟩ := Option.bind_eq_some_iff.mp h
    exact ⟨ovZ r, fun ht => sp_of hX.1 (by decide) (List.mem_range.mpr (by decide)) (by decide +kernel) ht (Nat.le_of_ble_eq_true rfl) (s_M_odds hX _ _ _ _ _ hf), trivial, h⟩
  · cases h
noncomputable def b_M_safe (k0 : Nat) (v1 : Int32) (v2 : Int32) (s : Mem) : Option (Int32 × Mem) :=
  cif (((v2 >>> (v1 &&& 31)) &&& ((1 : Int32))) = ((1 : Int32))) (
    gd (inb (((356 : Int32)) + v1) (lenM (k0 + 1))) <|
    some (((100 : Int32)) - ((rI s (k0 + 1) (ix (((356 : Int32)) + v1))) / ((2 : Int32))), s)) (
    gd (inb (((356 : Int32)) + v1) (lenM (k0 + 1))) <|
    some (((100 : Int32)) - (rI s (k0 + 1) (ix (((356 : Int32)) + v1))), s))
noncomputable def f_M_safe : Nat → Int32 → Int32 → Mem → Option (Int32 × Mem) := Classical.choose (⟨b_M_safe, rfl⟩ : ∃ f : Nat → Int32 → Int32 → Mem → Option (Int32 × Mem), f = b_M_safe)
theorem f_M_safe_eq : f_M_safe = b_M_safe := Classical.choose_spec (⟨b_M_safe, rfl⟩ : ∃ f : Nat → Int32 → Int32 → Mem → Option (Int32 × Mem), f = b_M_safe)
noncomputable def sm_M_safe (O : Type) (av : List AV) (σ : Mem) (K : AV → Mem → Option O) : Option O := match av with
  | [.inr (.inr (12, k0)), .inl v1, .inl v2] => (f_M_safe k0 v1 v2 σ).bind fun r => K (.inl r.1) r.2
  | _ => none
def c_M_safe : List (List CE) := [[(0, .bipush 100, 2, 100, 0, 0), (2, .iload_n 2, 1, 0, 0, 0), (3, .iload_n 1, 1, 0, 0, 0), (4, .ishr, 1, 0, 0, 0), (5, .iconst 1, 1, 1, 0, 0), (6, .iand, 1, 0, 0, 0), (7, .iconst 1, 1, 1, 0, 0), (8, .if_icmp .ne 18, 3, 26, 0, 0), (11, .aload_n 0, 1, 0, 0, 0), (12, .getfield 7, 3, 12, 0, 0), (15, .sipush 356, 3, 356, 0, 0)], [(18, .iload_n 1, 1, 0, 0, 0), (19, .iadd, 1, 0, 0, 0), (20, .iaload, 1, 0, 0, 0), (21, .iconst 2, 1, 2, 0, 0), (22, .idiv, 1, 0, 0, 0), (23, .goto 13, 3, 36, 0, 0), (26, .aload_n 0, 1, 0, 0, 0), (27, .getfield 7, 3, 12, 0, 0), (30, .sipush 356, 3, 356, 0, 0)], [(33, .iload_n 1, 1, 0, 0, 0), (34, .iadd, 1, 0, 0, 0), (35, .iaload, 1, 0, 0, 0), (36, .isub, 1, 0, 0, 0), (37, .ireturn, 1, 0, 0, 0)]]
set_option maxRecDepth 100000 in
theorem oc_M_safe : okC 343 c_M_safe = true := by decide +kernel
def cu_M_safe : List (Nat × List Bool) := []
noncomputable def F_M_safe (O : Type) (a : Nat) (av : List AV) (σ : Mem) (K : AV → Mem → Option O) : Option O := none
theorem fs_M_safe {X : CXT} (hX : XM X) (O : Type) : FS X 1 (F_M_safe O) := by
  intro a av σ K o h
  cases h
set_option maxRecDepth 100000 in
theorem s_M_safe {X : CXT} (hX : XM X) : ∀ (k0 : Nat) (v1 : Int32) (v2 : Int32) (s : Mem) (o : Int32 × Mem), f_M_safe k0 v1 v2 s = some o → BSnd X 1 343 (ovI o) 0 (entL [.inr (.inr (12, k0)), .inl v1, .inl v2]) [] s := by
  intro k0 v1 v2 s o h
  rw [f_M_safe_eq] at h
  exact evC (chs := c_M_safe) (cuts := cu_M_safe) (G := fun pc ls st σ => none) hX.2.1 hX.2.2 (F := F_M_safe _) (fs_M_safe hX _) (rt_I rfl) oc_M_safe (by
    intro pc ls st σ o h
    cases h) 140 0 _ _ _ _ h
theorem ok_M_safe {X : CXT} (hX : XM X) : SemOK X 1 343 sm_M_safe := by
  intro O av σ K o h
  unfold sm_M_safe at h
  split at h
  · obtain ⟨r, hf, h⟩ := Option.bind_eq_some_iff.mp h
    exact ⟨ovI r, fun ht => sp_of hX.1 (by decide) (List.mem_range.mpr (by decide)) (by decide +kernel) ht (Nat.le_of_ble_eq_true rfl) (s_M_safe hX _ _ _ _ _ hf), trivial, h⟩
  · cases h
noncomputable def f_M_multiplies_12 : Nat → Nat → Int32 → Int32 → Mem → Option (Mem)
  | 0, _, _, _, _ => none
  | n + 1, k0, v1, v2, s =>
    cif (((10 : Int32)) ≤ v2) (
      some s) (
      (f_M_safe k0 v2 v1 s).bind fun r1 =>
      let s2 : Mem := wJ r1.2 k0 32 ((rJ s k0 32) * r1.1.toInt64)
      (f_M_safe k0 v2 v1 s2).bind fun r3 =>
      let s4 : Mem := wJ r3.2 k0 31 (((rJ s2 k0 31) * r3.1.toInt64) + ((rJ r3.2 k0 32) / ((10000000000 : Int64))))
      let s5 : Mem := wJ s4 k0 32 ((rJ s4 k0 32) - (rJ s4 k0 32) / ((10000000000 : Int64)) * ((10000000000 : Int64)))
      f_M_multiplies_12 n k0 v1 (v2 + (1 : Int32)) s5)
noncomputable def b_M_multiplies (k0 : Nat) (v1 : Int32) (s : Mem) : Option (Mem) :=
  let s1 : Mem := wJ s k0 31 ((0 : Int64))
  let s2 : Mem := wJ s1 k0 32 ((1 : Int64))
  f_M_multiplies_12 FU k0 v1 ((0 : Int32)) s2
noncomputable def f_M_multiplies : Nat → Int32 → Mem → Option (Mem) := Classical.choose (⟨b_M_multiplies, rfl⟩ : ∃ f : Nat → Int32 → Mem → Option (Mem), f = b_M_multiplies)
theorem f_M_multiplies_eq : f_M_multiplies = b_M_multiplies := Classical.choose_spec (⟨b_M_multiplies, rfl⟩ : ∃ f : Nat → Int32 → Mem → Option (Mem), f = b_M_multiplies)
noncomputable def sm_M_multiplies (O : Type) (av : List AV) (σ : Mem) (K : AV → Mem → Option O) : Option O := match av with
  | [.inr (.inr (12, k0)), .inl v1] => (f_M_multiplies k0 v1 σ).bind fun r => K (.inl 0) r
  | _ => none
def c_M_multiplies : List (List CE) := [[(0, .aload_n 0, 1, 0, 0, 0), (1, .lconst 0, 1, 0, 0, 0), (2, .putfield 421, 3, 12, 31, 1), (5, .aload_n 0, 1, 0, 0, 0), (6, .lconst 1, 1, 0, 0, 0), (7, .putfield 425, 3, 12, 32, 1), (10, .iconst 0, 1, 0, 0, 0), (11, .istore_n 2, 1, 0, 0, 0), (12, .iload_n 2, 1, 0, 0, 0), (13, .bipush 10, 2, 10, 0, 0), (15, .if_icmp .ge 62, 3, 77, 0, 0)], [(18, .aload_n 0, 1, 0, 0, 0), (19, .dup, 1, 0, 0, 0), (20, .getfield 425, 3, 12, 32, 0), (23, .aload_n 0, 1, 0, 0, 0), (24, .iload_n 2, 1, 0, 0, 0), (25, .iload_n 1, 1, 0, 0, 0), (26, .invokevirtual 428, 3, 343, 3, 25), (29, .i2l, 1, 0, 0, 0), (30, .lmul, 1, 0, 0, 0), (31, .putfield 425, 3, 12, 32, 1)], [(34, .aload_n 0, 1, 0, 0, 0), (35, .aload_n 0, 1, 0, 0, 0), (36, .getfield 421, 3, 12, 31, 0), (39, .aload_n 0, 1, 0, 0, 0), (40, .iload_n 2, 1, 0, 0, 0), (41, .iload_n 1, 1, 0, 0, 0), (42, .invokevirtual 428, 3, 343, 3, 25), (45, .i2l, 1, 0, 0, 0), (46, .lmul, 1, 0, 0, 0), (47, .aload_n 0, 1, 0, 0, 0)], [(48, .getfield 425, 3, 12, 32, 0), (51, .ldc2_w 431, 3, 10000000000, 0, 0), (54, .ldiv, 1, 0, 0, 0), (55, .ladd, 1, 0, 0, 0), (56, .putfield 421, 3, 12, 31, 1), (59, .aload_n 0, 1, 0, 0, 0), (60, .dup, 1, 0, 0, 0), (61, .getfield 425, 3, 12, 32, 0)], [(64, .ldc2_w 431, 3, 10000000000, 0, 0), (67, .lrem, 1, 0, 0, 0), (68, .putfield 425, 3, 12, 32, 1), (71, .iinc 2 1, 3, 1, 0, 0), (74, .goto (-62), 3, 12, 0, 0), (77, .return_, 1, 0, 0, 0)]]
set_option maxRecDepth 100000 in
theorem oc_M_multiplies : okC 342 c_M_multiplies = true := by decide +kernel
def cu_M_multiplies : List (Nat × List Bool) := [(12, [true, true, true])]
noncomputable def F_M_multiplies (O : Type) (a : Nat) (av : List AV) (σ : Mem) (K : AV → Mem → Option O) : Option O := if a = 343 then sm_M_safe O av σ K else none
theorem fs_M_multiplies {X : CXT} (hX : XM X) (O : Type) : FS X 2 (F_M_multiplies O) := by
  intro a av σ K o h
  unfold F_M_multiplies at h
  rcases ite_s h with ⟨rfl, h⟩ | ⟨_, h⟩
  · obtain ⟨r, h1, h2, h3⟩ := ok_M_safe hX _ _ _ _ _ h
    exact ⟨r, fun ht => ⟨1, by decide, h1 ht⟩, h2, h3⟩
  cases h
def hd_M_multiplies_12 {O : Type} (g : Nat → Int32 → Int32 → Mem → Option O) (ls : OL) (st : List AV) (σ : Mem) : Option O := match ls, st with
  | [some (.inr (.inr (12, k0))), some (.inl v1), some (.inl v2)], [] => g k0 v1 v2 σ
  | _, _ => none
theorem hs_M_multiplies_12 {X : CXT} {g : Nat → Int32 → Int32 → Mem → Option (Mem)} (hg : ∀ (k0 : Nat) (v1 : Int32) (v2 : Int32) (s : Mem) (o : Mem), g k0 v1 v2 s = some o → BSnd X 2 342 (ovV o) 12 [some (.inr (.inr (12, k0))), some (.inl v1), some (.inl v2)] [] s) : ∀ ls st σ o, hd_M_multiplies_12 g ls st σ = some o → BSnd X 2 342 (ovV o) 12 ls st σ := by
  intro ls st σ o h
  unfold hd_M_multiplies_12 at h
  split at h
  · exact hg _ _ _ _ _ h
  · cases h
set_option maxRecDepth 100000 in
theorem s_M_multiplies_12 {X : CXT} (hX : XM X) : ∀ n : Nat, ∀ (k0 : Nat) (v1 : Int32) (v2 : Int32) (s : Mem) (o : Mem), f_M_multiplies_12 n k0 v1 v2 s = some o → BSnd X 2 342 (ovV o) 12 [some (.inr (.inr (12, k0))), some (.inl v1), some (.inl v2)] [] s := by
  intro n
  induction n with
  | zero => intro k0 v1 v2 s o h; cases h
  | succ n ih =>
    intro k0 v1 v2 s o h
    exact evC (chs := c_M_multiplies) (cuts := cu_M_multiplies) (G := fun pc ls st σ => if pc = 12 then hd_M_multiplies_12 (fun k0 v1 v2 s => f_M_multiplies_12 n k0 v1 v2 s) ls st σ else none) hX.2.1 hX.2.2 (F := F_M_multiplies _) (fs_M_multiplies hX _) (rt_V rfl) oc_M_multiplies (by
    intro pc ls st σ o h
    rcases ite_s h with ⟨rfl, h⟩ | ⟨_, h⟩
    · exact hs_M_multiplies_12 ih _ _ _ _ h
    cases h) 220 12 _ _ _ _ h
set_option maxRecDepth 100000 in
theorem s_M_multiplies {X : CXT} (hX : XM X) : ∀ (k0 : Nat) (v1 : Int32) (s : Mem) (o : Mem), f_M_multiplies k0 v1 s = some o → BSnd X 2 342 (ovV o) 0 (entL [.inr (.inr (12, k0)), .inl v1]) [] s := by
  intro k0 v1 s o h
  rw [f_M_multiplies_eq] at h
  exact evC (chs := c_M_multiplies) (cuts := cu_M_multiplies) (G := fun pc ls st σ => if pc = 12 then hd_M_multiplies_12 (fun k0 v1 v2 s => f_M_multiplies_12 FU k0 v1 v2 s) ls st σ else none) hX.2.1 hX.2.2 (F := F_M_multiplies _) (fs_M_multiplies hX _) (rt_V rfl) oc_M_multiplies (by
    intro pc ls st σ o h
    rcases ite_s h with ⟨rfl, h⟩ | ⟨_, h⟩
    · exact hs_M_multiplies_12 (s_M_multiplies_12 hX FU) _ _ _ _ h
    cases h) 220 0 _ _ _ _ h
theorem ok_M_multiplies {X : CXT} (hX : XM X) : SemOK X 2 342 sm_M_multiplies := by
  intro O av σ K o h
  unfold sm_M_multiplies at h
  split at h
  · obtain ⟨r, hf, h⟩ := Option.bind_eq_some_iff.mp h
    exact ⟨ovV r, fun ht => sp_of hX.1 (by decide) (List.mem_range.mpr (by decide)) (by decide +kernel) ht (Nat.le_of_ble_eq_true rfl) (s_M_multiplies hX _ _ _ _ hf), trivial, h⟩
  · cases h
noncomputable def f_M_chance_6 : Nat → Nat → Int32 → Int32 → Int32 → Mem → Option (Int32 × Mem)
  | 0, _, _, _, _, _ => none
  | n + 1, k0, v1, v2, v3, s =>
    cif (((10 : Int32)) ≤ v3) (
      some (v2, s)) (
      (f_M_safe k0 v3 v1 s).bind fun r1 =>
      let x2 : Int32 := (v2 * r1.1) / ((100 : Int32))
      f_M_chance_6 n k0 v1 x2 (v3 + (1 : Int32)) r1.2)
noncomputable def b_M_chance (k0 : Nat) (v1 : Int32) (s : Mem) : Option (Int32 × Mem) :=
  f_M_chance_6 FU k0 v1 ((1000000 : Int32)) ((0 : Int32)) s
noncomputable def f_M_chance : Nat → Int32 → Mem → Option (Int32 × Mem) := Classical.choose (⟨b_M_chance, rfl⟩ : ∃ f : Nat → Int32 → Mem → Option (Int32 × Mem), f = b_M_chance)
theorem f_M_chance_eq : f_M_chance = b_M_chance := Classical.choose_spec (⟨b_M_chance, rfl⟩ : ∃ f : Nat → Int32 → Mem → Option (Int32 × Mem), f = b_M_chance)
noncomputable def sm_M_chance (O : Type) (av : List AV) (σ : Mem) (K : AV → Mem → Option O) : Option O := match av with
  | [.inr (.inr (12, k0)), .inl v1] => (f_M_chance k0 v1 σ).bind fun r => K (.inl r.1) r.2
  | _ => none
def c_M_chance : List (List CE) := [[(0, .ldc_w 433, 3, 1000000, 0, 0), (3, .istore_n 2, 1, 0, 0, 0), (4, .iconst 0, 1, 0, 0, 0), (5, .istore_n 3, 1, 0, 0, 0), (6, .iload_n 3, 1, 0, 0, 0), (7, .bipush 10, 2, 10, 0, 0), (9, .if_icmp .ge 21, 3, 30, 0, 0), (12, .iload_n 2, 1, 0, 0, 0), (13, .aload_n 0, 1, 0, 0, 0), (14, .iload_n 3, 1, 0, 0, 0), (15, .iload_n 1, 1, 0, 0, 0)], [(16, .invokevirtual 428, 3, 343, 3, 25), (19, .imul, 1, 0, 0, 0), (20, .bipush 100, 2, 100, 0, 0), (22, .idiv, 1, 0, 0, 0), (23, .istore_n 2, 1, 0, 0, 0), (24, .iinc 3 1, 3, 1, 0, 0), (27, .goto (-21), 3, 6, 0, 0), (30, .iload_n 2, 1, 0, 0, 0), (31, .ireturn, 1, 0, 0, 0)]]
set_option maxRecDepth 100000 in
theorem oc_M_chance : okC 344 c_M_chance = true := by decide +kernel
def cu_M_chance : List (Nat × List Bool) := [(6, [true, true, true, true])]
noncomputable def F_M_chance (O : Type) (a : Nat) (av : List AV) (σ : Mem) (K : AV → Mem → Option O) : Option O := if a = 343 then sm_M_safe O av σ K else none
theorem fs_M_chance {X : CXT} (hX : XM X) (O : Type) : FS X 2 (F_M_chance O) := by
  intro a av σ K o h
  unfold F_M_chance at h
  rcases ite_s h with ⟨rfl, h⟩ | ⟨_, h⟩
  · obtain ⟨r, h1, h2, h3⟩ := ok_M_safe hX _ _ _ _ _ h
    exact ⟨r, fun ht => ⟨1, by decide, h1 ht⟩, h2, h3⟩
  cases h
def hd_M_chance_6 {O : Type} (g : Nat → Int32 → Int32 → Int32 → Mem → Option O) (ls : OL) (st : List AV) (σ : Mem) : Option O := match ls, st with
  | [some (.inr (.inr (12, k0))), some (.inl v1), some (.inl v2), some (.inl v3)], [] => g k0 v1 v2 v3 σ
  | _, _ => none
theorem hs_M_chance_6 {X : CXT} {g : Nat → Int32 → Int32 → Int32 → Mem → Option (Int32 × Mem)} (hg : ∀ (k0 : Nat) (v1 : Int32) (v2 : Int32) (v3 : Int32) (s : Mem) (o : Int32 × Mem), g k0 v1 v2 v3 s = some o → BSnd X 2 344 (ovI o) 6 [some (.inr (.inr (12, k0))), some (.inl v1), some (.inl v2), some (.inl v3)] [] s) : ∀ ls st σ o, hd_M_chance_6 g ls st σ = some o → BSnd X 2 344 (ovI o) 6 ls st σ := by
  intro ls st σ o h
  unfold hd_M_chance_6 at h
  split at h
  · exact hg _ _ _ _ _ _ h
  · cases h
set_option maxRecDepth 100000 in
theorem s_M_chance_6 {X : CXT} (hX : XM X) : ∀ n : Nat, ∀ (k0 : Nat) (v1 : Int32) (v2 : Int32) (v3 : Int32) (s : Mem) (o : Int32 × Mem), f_M_chance_6 n k0 v1 v2 v3 s = some o → BSnd X 2 344 (ovI o) 6 [some (.inr (.inr (12, k0))), some (.inl v1), some (.inl v2), some (.inl v3)] [] s := by
  intro n
  induction n with
  | zero => intro k0 v1 v2 v3 s o h; cases h
  | succ n ih =>
    intro k0 v1 v2 v3 s o h
    exact evC (chs := c_M_chance) (cuts := cu_M_chance) (G := fun pc ls st σ => if pc = 6 then hd_M_chance_6 (fun k0 v1 v2 v3 s => f_M_chance_6 n k0 v1 v2 v3 s) ls st σ else none) hX.2.1 hX.2.2 (F := F_M_chance _) (fs_M_chance hX _) (rt_I rfl) oc_M_chance (by
    intro pc ls st σ o h
    rcases ite_s h with ⟨rfl, h⟩ | ⟨_, h⟩
    · exact hs_M_chance_6 ih _ _ _ _ h
    cases h) 120 6 _ _ _ _ h
set_option maxRecDepth 100000 in
theorem s_M_chance {X : CXT} (hX : XM X) : ∀ (k0 : Nat) (v1 : Int32) (s : Mem) (o : Int32 × Mem), f_M_chance k0 v1 s = some o → BSnd X 2 344 (ovI o) 0 (entL [.inr (.inr (12, k0)), .inl v1]) [] s := by
  intro k0 v1 s o h
  rw [f_M_chance_eq] at h
  exact evC (chs := c_M_chance) (cuts := cu_M_chance) (G := fun pc ls st σ => if pc = 6 then hd_M_chance_6 (fun k0 v1 v2 v3 s => f_M_chance_6 FU k0 v1 v2 v3 s) ls st σ else none) hX.2.1 hX.2.2 (F := F_M_chance _) (fs_M_chance hX _) (rt_I rfl) oc_M_chance (by
    intro pc ls st σ o h
    rcases ite_s h with ⟨rfl, h⟩ | ⟨_, h⟩
    · exact hs_M_chance_6 (s_M_chance_6 hX FU) _ _ _ _ h
    cases h) 120 0 _ _ _ _ h
theorem ok_M_chance {X : CXT} (hX : XM X) : SemOK X 2 344 sm_M_chance := by
  intro O av σ K o h
  unfold sm_M_chance at h
  split at h
  · obtain ⟨r, hf, h⟩ := Option.bind_eq_some_iff.mp h
    exact ⟨ovI r, fun ht => sp_of hX.1 (by decide) (List.mem_range.mpr (by decide)) (by decide +kernel) ht (Nat.le_of_ble_eq_true rfl) (s_M_chance hX _ _ _ _ hf), trivial, h⟩
  · cases h
noncomputable def f_M_strength_132 (KH : Nat → Int32 → Int32 → Int32 → Int64 → Int64 → Int32 → Mem → Option (Int32 × Mem)) (K178 : Nat → Int32 → Int32 → Mem → Option (Int32 × Mem)) (k0 : Nat) (v1 : Int32) (v2 : Int32) (v3 : Int32) (v4 : Int64) (v6 : Int64) (v8 : Int32) (v9 : Int32) (v10 : Int32) (s : Mem) : Option (Int32 × Mem) :=
  cif (v10 = 0) (
    cif (v9 = 0) (
      KH k0 v1 v2 v3 v4 v6 (v8 + (1 : Int32)) s) (
      (f_M_count v8 s).bind fun r1 =>
      (f_M_count v3 r1.2).bind fun r2 =>
      cif (r1.1 < r2.1) (
        let x3 : Int64 := rJ r2.2 k0 31
        let x4 : Int64 := rJ r2.2 k0 32
        KH k0 v1 v2 v8 x3 x4 (v8 + (1 : Int32)) r2.2) (
        KH k0 v1 v2 v3 v4 v6 (v8 + (1 : Int32)) r2.2))) (
    let x5 : Int64 := rJ s k0 31
    let x6 : Int64 := rJ s k0 32
    KH k0 v1 v2 v8 x5 x6 (v8 + (1 : Int32)) s)
noncomputable def f_M_strength_125 (KH : Nat → Int32 → Int32 → Int32 → Int64 → Int64 → Int32 → Mem → Option (Int32 × Mem)) (K178 : Nat → Int32 → Int32 → Mem → Option (Int32 × Mem)) (k0 : Nat) (v1 : Int32) (v2 : Int32) (v3 : Int32) (v4 : Int64) (v6 : Int64) (v8 : Int32) (v9 : Int32) (s : Mem) : Option (Int32 × Mem) :=
  f_M_strength_132 (KH) K178 k0 v1 v2 v3 v4 v6 v8 v9 ((1 : Int32)) s
noncomputable def f_M_strength_129 (KH : Nat → Int32 → Int32 → Int32 → Int64 → Int64 → Int32 → Mem → Option (Int32 × Mem)) (K178 : Nat → Int32 → Int32 → Mem → Option (Int32 × Mem)) (k0 : Nat) (v1 : Int32) (v2 : Int32) (v3 : Int32) (v4 : Int64) (v6 : Int64) (v8 : Int32) (v9 : Int32) (s : Mem) : Option (Int32 × Mem) :=
  f_M_strength_132 (KH) K178 k0 v1 v2 v3 v4 v6 v8 v9 ((0 : Int32)) s
noncomputable def f_M_strength_95 (KH : Nat → Int32 → Int32 → Int32 → Int64 → Int64 → Int32 → Mem → Option (Int32 × Mem)) (K178 : Nat → Int32 → Int32 → Mem → Option (Int32 × Mem)) (k0 : Nat) (v1 : Int32) (v2 : Int32) (v3 : Int32) (v4 : Int64) (v6 : Int64) (v8 : Int32) (v9 : Int32) (s : Mem) : Option (Int32 × Mem) :=
  cif (0 < (lg_cmp (rJ s k0 31) v4)) (
    f_M_strength_125 (KH) K178 k0 v1 v2 v3 v4 v6 v8 v9 s) (
    cif ((lg_cmp (rJ s k0 31) v4) = 0) (
      cif ((lg_cmp (rJ s k0 32) v6) ≤ 0) (
        f_M_strength_129 (KH) K178 k0 v1 v2 v3 v4 v6 v8 v9 s) (
        f_M_strength_125 (KH) K178 k0 v1 v2 v3 v4 v6 v8 v9 s)) (
      f_M_strength_129 (KH) K178 k0 v1 v2 v3 v4 v6 v8 v9 s))
noncomputable def f_M_strength_92 (KH : Nat → Int32 → Int32 → Int32 → Int64 → Int64 → Int32 → Mem → Option (Int32 × Mem)) (K178 : Nat → Int32 → Int32 → Mem → Option (Int32 × Mem)) (k0 : Nat) (v1 : Int32) (v2 : Int32) (v3 : Int32) (v4 : Int64) (v6 : Int64) (v8 : Int32) (s : Mem) : Option (Int32 × Mem) :=
  f_M_strength_95 (KH) K178 k0 v1 v2 v3 v4 v6 v8 ((0 : Int32)) s
noncomputable def f_M_strength_42 (K178 : Nat → Int32 → Int32 → Mem → Option (Int32 × Mem)) : Nat → Nat → Int32 → Int32 → Int32 → Int64 → Int64 → Int32 → Mem → Option (Int32 × Mem)
  | 0, _, _, _, _, _, _, _, _ => none
  | n + 1, k0, v1, v2, v3, v4, v6, v8, s =>
    cif (((1024 : Int32)) ≤ v8) (
      K178 k0 v2 v3 s) (
      (f_M_count v8 s).bind fun r1 =>
      cif (r1.1 ≤ v1) (
        (f_M_multiplies k0 v8 r1.2).bind fun r2 =>
        cif ((lg_cmp (rJ r2 k0 31) v4) = 0) (
          cif ((lg_cmp (rJ r2 k0 32) v6) = 0) (
            f_M_strength_95 (fun k0 v1 v2 v3 v4 v6 v8 s => f_M_strength_42 K178 n k0 v1 v2 v3 v4 v6 v8 s) K178 k0 v1 v2 v3 v4 v6 v8 ((1 : Int32)) r2) (
            f_M_strength_92 (fun k0 v1 v2 v3 v4 v6 v8 s => f_M_strength_42 K178 n k0 v1 v2 v3 v4 v6 v8 s) K178 k0 v1 v2 v3 v4 v6 v8 r2)) (
          f_M_strength_92 (fun k0 v1 v2 v3 v4 v6 v8 s => f_M_strength_42 K178 n k0 v1 v2 v3 v4 v6 v8 s) K178 k0 v1 v2 v3 v4 v6 v8 r2)) (
        f_M_strength_42 K178 n k0 v1 v2 v3 v4 v6 (v8 + (1 : Int32)) r1.2))
noncomputable def f_M_strength_178 (k0 : Nat) (v2 : Int32) (v3 : Int32) (s : Mem) : Option (Int32 × Mem) :=
  cif (v2 = 0) (
    some (v3, s)) (
    (f_M_chance k0 v3 s).bind fun r1 =>
    some (r1.1, r1.2))
noncomputable def b_M_strength (k0 : Nat) (v1 : Int32) (v2 : Int32) (s : Mem) : Option (Int32 × Mem) :=
  (f_M_isIn v1 ((0 : Int32)) ((5 : Int32)) s).bind fun r1 =>
  cif ((b2i r1.1) = 0) (
    some ((-1 : Int32), r1.2)) (
    (f_M_isIn v2 ((0 : Int32)) ((1 : Int32)) r1.2).bind fun r2 =>
    cif ((b2i r2.1) = 0) (
      some ((-1 : Int32), r2.2)) (
      (f_M_multiplies k0 ((0 : Int32)) r2.2).bind fun r3 =>
      let x4 : Int64 := rJ r3 k0 31
      let x5 : Int64 := rJ r3 k0 32
      f_M_strength_42 (fun k0 v2 v3 s => f_M_strength_178 k0 v2 v3 s) FU k0 v1 v2 ((0 : Int32)) x4 x5 ((1 : Int32)) r3))
noncomputable def f_M_strength : Nat → Int32 → Int32 → Mem → Option (Int32 × Mem) := Classical.choose (⟨b_M_strength, rfl⟩ : ∃ f : Nat → Int32 → Int32 → Mem → Option (Int32 × Mem), f = b_M_strength)
theorem f_M_strength_eq : f_M_strength = b_M_strength := Classical.choose_spec (⟨b_M_strength, rfl⟩ : ∃ f : Nat → Int32 → Int32 → Mem → Option (Int32 × Mem), f = b_M_strength)
noncomputable def sm_M_strength (O : Type) (av : List AV) (σ : Mem) (K : AV → Mem → Option O) : Option O := match av with
  | [.inr (.inr (12, k0)), .inl v1, .inl v2] => (f_M_strength k0 v1 v2 σ).bind fun r => K (.inl r.1) r.2
  | _ => none
def c_M_strength : List (List CE) := [[(0, .iload_n 1, 1, 0, 0, 0), (1, .iconst 0, 1, 0, 0, 0), (2, .iconst 5, 1, 5, 0, 0), (3, .invokestatic 60, 3, 230, 3, 1), (6, .ifCond .eq 12, 3, 18, 0, 0), (9, .iload_n 2, 1, 0, 0, 0), (10, .iconst 0, 1, 0, 0, 0), (11, .iconst 1, 1, 1, 0, 0), (12, .invokestatic 60, 3, 230, 3, 1), (15, .ifCond .ne 5, 3, 20, 0, 0)], [(18, .iconst (-1), 1, 1, 0, 1), (19, .ireturn, 1, 0, 0, 0), (20, .iconst 0, 1, 0, 0, 0), (21, .istore_n 3, 1, 0, 0, 0), (22, .aload_n 0, 1, 0, 0, 0), (23, .iconst 0, 1, 0, 0, 0), (24, .invokevirtual 434, 3, 342, 2, 24), (27, .aload_n 0, 1, 0, 0, 0), (28, .getfield 421, 3, 12, 31, 0), (31, .lstore 4, 2, 0, 0, 0)], [(33, .aload_n 0, 1, 0, 0, 0), (34, .getfield 425, 3, 12, 32, 0), (37, .lstore 6, 2, 0, 0, 0), (39, .iconst 1, 1, 1, 0, 0), (40, .istore 8, 2, 0, 0, 0), (42, .iload 8, 2, 0, 0, 0), (44, .sipush 1024, 3, 1024, 0, 0), (47, .if_icmp .ge 131, 3, 178, 0, 0)], [(50, .iload 8, 2, 0, 0, 0), (52, .invokestatic 333, 3, 292, 1, 1), (55, .iload_n 1, 1, 0, 0, 0), (56, .if_icmp .le 6, 3, 62, 0, 0), (59, .goto 113, 3, 172, 0, 0), (62, .aload_n 0, 1, 0, 0, 0), (63, .iload 8, 2, 0, 0, 0)], [(65, .invokevirtual 434, 3, 342, 2, 24), (68, .aload_n 0, 1, 0, 0, 0), (69, .getfield 421, 3, 12, 31, 0), (72, .lload 4, 2, 0, 0, 0), (74, .lcmp, 1, 0, 0, 0), (75, .ifCond .ne 17, 3, 92, 0, 0), (78, .aload_n 0, 1, 0, 0, 0), (79, .getfield 425, 3, 12, 32, 0)], [(82, .lload 6, 2, 0, 0, 0), (84, .lcmp, 1, 0, 0, 0), (85, .ifCond .ne 7, 3, 92, 0, 0), (88, .iconst 1, 1, 1, 0, 0), (89, .goto 4, 3, 93, 0, 0), (92, .iconst 0, 1, 0, 0, 0), (93, .istore 9, 2, 0, 0, 0), (95, .aload_n 0, 1, 0, 0, 0)], [(96, .getfield 421, 3, 12, 31, 0), (99, .lload 4, 2, 0, 0, 0), (101, .lcmp, 1, 0, 0, 0), (102, .ifCond .gt 23, 3, 125, 0, 0), (105, .aload_n 0, 1, 0, 0, 0), (106, .getfield 421, 3, 12, 31, 0), (109, .lload 4, 2, 0, 0, 0), (111, .lcmp, 1, 0, 0, 0)], [(112, .ifCond .ne 17, 3, 129, 0, 0), (115, .aload_n 0, 1, 0, 0, 0), (116, .getfield 425, 3, 12, 32, 0), (119, .lload 6, 2, 0, 0, 0), (121, .lcmp, 1, 0, 0, 0), (122, .ifCond .le 7, 3, 129, 0, 0), (125, .iconst 1, 1, 1, 0, 0), (126, .goto 4, 3, 130, 0, 0)], [(129, .iconst 0, 1, 0, 0, 0), (130, .istore 10, 2, 0, 0, 0), (132, .iload 10, 2, 0, 0, 0), (134, .ifCond .ne 23, 3, 157, 0, 0), (137, .iload 9, 2, 0, 0, 0), (139, .ifCond .eq 33, 3, 172, 0, 0), (142, .iload 8, 2, 0, 0, 0)], [(144, .invokestatic 333, 3, 292, 1, 1), (147, .iload_n 3, 1, 0, 0, 0), (148, .invokestatic 333, 3, 292, 1, 1), (151, .if_icmp .lt 6, 3, 157, 0, 0), (154, .goto 18, 3, 172, 0, 0), (157, .iload 8, 2, 0, 0, 0), (159, .istore_n 3, 1, 0, 0, 0)], [(160, .aload_n 0, 1, 0, 0, 0), (161, .getfield 421, 3, 12, 31, 0), (164, .lstore 4, 2, 0, 0, 0), (166, .aload_n 0, 1, 0, 0, 0), (167, .getfield 425, 3, 12, 32, 0), (170, .lstore 6, 2, 0, 0, 0), (172, .iinc 8 1, 3, 1, 0, 0), (175, .goto (-133), 3, 42, 0, 0)], [(178, .iload_n 2, 1, 0, 0, 0), (179, .ifCond .ne 7, 3, 186, 0, 0), (182, .iload_n 3, 1, 0, 0, 0), (183, .goto 8, 3, 191, 0, 0), (186, .aload_n 0, 1, 0, 0, 0), (187, .iload_n 3, 1, 0, 0, 0), (188, .invokevirtual 437, 3, 344, 2, 25), (191, .ireturn, 1, 0, 0, 0)]]
set_option maxRecDepth 100000 in
theorem oc_M_strength : okC 341 c_M_strength = true := by decide +kernel
def cu_M_strength : List (Nat × List Bool) := [(132, [true, true, true, true, true, false, true, false, true, true, true]), (125, [true, true, true, true, true, false, true, false, true, true]), (129, [true, true, true, true, true, false, true, false, true, true]), (95, [true, true, true, true, true, false, true, false, true, true]), (92, [true, true, true, true, true, false, true, false, true]), (42, [true, true, true, true, true, false, true, false, true]), (178, [true, false, true, true])]
noncomputable def F_M_strength (O : Type) (a : Nat) (av : List AV) (σ : Mem) (K : AV → Mem → Option O) : Option O := if a = 230 then sm_M_isIn O av σ K else if a = 292 then sm_M_count O av σ K else if a = 342 then sm_M_multiplies O av σ K else if a = 344 then sm_M_chance O av σ K else none
theorem fs_M_strength {X : CXT} (hX : XM X) (O : Type) : FS X 3 (F_M_strength O) := by
  intro a av σ K o h
  unfold F_M_strength at h
  rcases ite_s h with ⟨rfl, h⟩ | ⟨_, h⟩
  · obtain ⟨r, h1, h2, h3⟩ := ok_M_isIn hX _ _ _ _ _ h
    exact ⟨r, fun ht => ⟨1, by decide, h1 ht⟩, h2, h3⟩
  rcases ite_s h with ⟨rfl, h⟩ | ⟨_, h⟩
  · obtain ⟨r, h1, h2, h3⟩ := ok_M_count hX _ _ _ _ _ h
    exact ⟨r, fun ht => ⟨1, by decide, h1 ht⟩, h2, h3⟩
  rcases ite_s h with ⟨rfl, h⟩ | ⟨_, h⟩
  · obtain ⟨r, h1, h2, h3⟩ := ok_M_multiplies hX _ _ _ _ _ h
    exact ⟨r, fun ht => ⟨2, by decide, h1 ht⟩, h2, h3⟩
  rcases ite_s h with ⟨rfl, h⟩ | ⟨_, h⟩
  · obtain ⟨r, h1, h2, h3⟩ := ok_M_chance hX _ _ _ _ _ h
    exact ⟨r, fun ht => ⟨2, by decide, h1 ht⟩, h2, h3⟩
  cases h
def hd_M_strength_132 {O : Type} (g : Nat → Int32 → Int32 → Int32 → Int64 → Int64 → Int32 → Int32 → Int32 → Mem → Option O) (ls : OL) (st : List AV) (σ : Mem) : Option O := match ls, st with
  | [some (.inr (.inr (12, k0))), some (.inl v1), some (.inl v2), some (.inl v3), some (.inr (.inl v4)), none, some (.inr (.inl v6)), none, some (.inl v8), some (.inl v9), some (.inl v10)], [] => g k0 v1 v2 v3 v4 v6 v8 v9 v10 σ
  | _, _ => none
theorem hs_M_strength_132 {X : CXT} {g : Nat → Int32 → Int32 → Int32 → Int64 → Int64 → Int32 → Int32 → Int32 → Mem → Option (Int32 × Mem)} (hg : ∀ (k0 : Nat) (v1 : Int32) (v2 : Int32) (v3 : Int32) (v4 : Int64) (v6 : Int64) (v8 : Int32) (v9 : Int32) (v10 : Int32) (s : Mem) (o : Int32 × Mem), g k0 v1 v2 v3 v4 v6 v8 v9 v10 s = some o → BSnd X 3 341 (ovI o) 132 [some (.inr (.inr (12, k0))), some (.inl v1), some (.inl v2), some (.inl v3), some (.inr (.inl v4)), none, some (.inr (.inl v6)), none, some (.inl v8), some (.inl v9), some (.inl v10)] [] s) : ∀ ls st σ o, hd_M_strength_132 g ls st σ = some o → BSnd X 3 341 (ovI o) 132 ls st σ := by
  intro ls st σ o h
  unfold hd_M_strength_132 at h
  split at h
  · exact hg _ _ _ _ _ _ _ _ _ _ _ h
  · cases h
def hd_M_strength_125 {O : Type} (g : Nat → Int32 → Int32 → Int32 → Int64 → Int64 → Int32 → Int32 → Mem → Option O) (ls : OL) (st : List AV) (σ : Mem) : Option O := match ls, st with
  | [some (.inr (.inr (12, k0))), some (.inl v1), some (.inl v2), some (.inl v3), some (.inr (.inl v4)), none, some (.inr (.inl v6)), none, some (.inl v8), some (.inl v9)], [] => g k0 v1 v2 v3 v4 v6 v8 v9 σ
  | _, _ => none
theorem hs_M_strength_125 {X : CXT} {g : Nat → Int32 → Int32 → Int32 → Int64 → Int64 → Int32 → Int32 → Mem → Option (Int32 × Mem)} (hg : ∀ (k0 : Nat) (v1 : Int32) (v2 : Int32) (v3 : Int32) (v4 : Int64) (v6 : Int64) (v8 : Int32) (v9 : Int32) (s : Mem) (o : Int32 × Mem), g k0 v1 v2 v3 v4 v6 v8 v9 s = some o → BSnd X 3 341 (ovI o) 125 [some (.inr (.inr (12, k0))), some (.inl v1), some (.inl v2), some (.inl v3), some (.inr (.inl v4)), none, some (.inr (.inl v6)), none, some (.inl v8), some (.inl v9)] [] s) : ∀ ls st σ o, hd_M_strength_125 g ls st σ = some o → BSnd X 3 341 (ovI o) 125 ls st σ := by
  intro ls st σ o h
  unfold hd_M_strength_125 at h
  split at h
  · exact hg _ _ _ _ _ _ _ _ _ _ h
  · cases h
def hd_M_strength_129 {O : Type} (g : Nat → Int32 → Int32 → Int32 → Int64 → Int64 → Int32 → Int32 → Mem → Option O) (ls : OL) (st : List AV) (σ : Mem) : Option O := match ls, st with
  | [some (.inr (.inr (12, k0))), some (.inl v1), some (.inl v2), some (.inl v3), some (.inr (.inl v4)), none, some (.inr (.inl v6)), none, some (.inl v8), some (.inl v9)], [] => g k0 v1 v2 v3 v4 v6 v8 v9 σ
  | _, _ => none
theorem hs_M_strength_129 {X : CXT} {g : Nat → Int32 → Int32 → Int32 → Int64 → Int64 → Int32 → Int32 → Mem → Option (Int32 × Mem)} (hg : ∀ (k0 : Nat) (v1 : Int32) (v2 : Int32) (v3 : Int32) (v4 : Int64) (v6 : Int64) (v8 : Int32) (v9 : Int32) (s : Mem) (o : Int32 × Mem), g k0 v1 v2 v3 v4 v6 v8 v9 s = some o → BSnd X 3 341 (ovI o) 129 [some (.inr (.inr (12, k0))), some (.inl v1), some (.inl v2), some (.inl v3), some (.inr (.inl v4)), none, some (.inr (.inl v6)), none, some (.inl v8), some (.inl v9)] [] s) : ∀ ls st σ o, hd_M_strength_129 g ls st σ = some o → BSnd X 3 341 (ovI o) 129 ls st σ := by
  intro ls st σ o h
  unfold hd_M_strength_129 at h
  split at h
  · exact hg _ _ _ _ _ _ _ _ _ _ h
  · cases h
def hd_M_strength_95 {O : Type} (g : Nat → Int32 → Int32 → Int32 → Int64 → Int64 → Int32 → Int32 → Mem → Option O) (ls : OL) (st : List AV) (σ : Mem) : Option O := match ls, st with
  | [some (.inr (.inr (12, k0))), some (.inl v1), some (.inl v2), some (.inl v3), some (.inr (.inl v4)), none, some (.inr (.inl v6)), none, some (.inl v8), some (.inl v9)], [] => g k0 v1 v2 v3 v4 v6 v8 v9 σ
  | _, _ => none
theorem hs_M_strength_95 {X : CXT} {g : Nat → Int32 → Int32 → Int32 → Int64 → Int64 → Int32 → Int32 → Mem → Option (Int32 × Mem)} (hg : ∀ (k0 : Nat) (v1 : Int32) (v2 : Int32) (v3 : Int32) (v4 : Int64) (v6 : Int64) (v8 : Int32) (v9 : Int32) (s : Mem) (o : Int32 × Mem), g k0 v1 v2 v3 v4 v6 v8 v9 s = some o → BSnd X 3 341 (ovI o) 95 [some (.inr (.inr (12, k0))), some (.inl v1), some (.inl v2), some (.inl v3), some (.inr (.inl v4)), none, some (.inr (.inl v6)), none, some (.inl v8), some (.inl v9)] [] s) : ∀ ls st σ o, hd_M_strength_95 g ls st σ = some o → BSnd X 3 341 (ovI o) 95 ls st σ := by
  intro ls st σ o h
  unfold hd_M_strength_95 at h
  split at h
  · exact hg _ _ _ _ _ _ _ _ _ _ h
  · cases h
def hd_M_strength_92 {O : Type} (g : Nat → Int32 → Int32 → Int32 → Int64 → Int64 → Int32 → Mem → Option O) (ls : OL) (st : List AV) (σ : Mem) : Option O := match ls, st with
  | [some (.inr (.inr (12, k0))), some (.inl v1), some (.inl v2), some (.inl v3), some (.inr (.inl v4)), none, some (.inr (.inl v6)), none, some (.inl v8)], [] => g k0 v1 v2 v3 v4 v6 v8 σ
  | _, _ => none
theorem hs_M_strength_92 {X : CXT} {g : Nat → Int32 → Int32 → Int32 → Int64 → Int64 → Int32 → Mem → Option (Int32 × Mem)} (hg : ∀ (k0 : Nat) (v1 : Int32) (v2 : Int32) (v3 : Int32) (v4 : Int64) (v6 : Int64) (v8 : Int32) (s : Mem) (o : Int32 × Mem), g k0 v1 v2 v3 v4 v6 v8 s = some o → BSnd X 3 341 (ovI o) 92 [some (.inr (.inr (12, k0))), some (.inl v1), some (.inl v2), some (.inl v3), some (.inr (.inl v4)), none, some (.inr (.inl v6)), none, some (.inl v8)] [] s) : ∀ ls st σ o, hd_M_strength_92 g ls st σ = some o → BSnd X 3 341 (ovI o) 92 ls st σ := by
  intro ls st σ o h
  unfold hd_M_strength_92 at h
  split at h
  · exact hg _ _ _ _ _ _ _ _ _ h
  · cases h
def hd_M_strength_42 {O : Type} (g : Nat → Int32 → Int32 → Int32 → Int64 → Int64 → Int32 → Mem → Option O) (ls : OL) (st : List AV) (σ : Mem) : Option O := match ls, st with
  | [some (.inr (.inr (12, k0))), some (.inl v1), some (.inl v2), some (.inl v3), some (.inr (.inl v4)), none, some (.inr (.inl v6)), none, some (.inl v8)], [] => g k0 v1 v2 v3 v4 v6 v8 σ
  | _, _ => none
theorem hs_M_strength_42 {X : CXT} {g : Nat → Int32 → Int32 → Int32 → Int64 → Int64 → Int32 → Mem → Option (Int32 × Mem)} (hg : ∀ (k0 : Nat) (v1 : Int32) (v2 : Int32) (v3 : Int32) (v4 : Int64) (v6 : Int64) (v8 : Int32) (s : Mem) (o : Int32 × Mem), g k0 v1 v2 v3 v4 v6 v8 s = some o → BSnd X 3 341 (ovI o) 42 [some (.inr (.inr (12, k0))), some (.inl v1), some (.inl v2), some (.inl v3), some (.inr (.inl v4)), none, some (.inr (.inl v6)), none, some (.inl v8)] [] s) : ∀ ls st σ o, hd_M_strength_42 g ls st σ = some o → BSnd X 3 341 (ovI o) 42 ls st σ := by
  intro ls st σ o h
  unfold hd_M_strength_42 at h
  split at h
  · exact hg _ _ _ _ _ _ _ _ _ h
  · cases h
def hd_M_strength_178 {O : Type} (g : Nat → Int32 → Int32 → Mem → Option O) (ls : OL) (st : List AV) (σ : Mem) : Option O := match ls, st with
  | [some (.inr (.inr (12, k0))), none, some (.inl v2), some (.inl v3)], [] => g k0 v2 v3 σ
  | _, _ => none
theorem hs_M_strength_178 {X : CXT} {g : Nat → Int32 → Int32 → Mem → Option (Int32 × Mem)} (hg : ∀ (k0 : Nat) (v2 : Int32) (v3 : Int32) (s : Mem) (o : Int32 × Mem), g k0 v2 v3 s = some o → BSnd X 3 341 (ovI o) 178 [some (.inr (.inr (12, k0))), none, some (.inl v2), some (.inl v3)] [] s) : ∀ ls st σ o, hd_M_strength_178 g ls st σ = some o → BSnd X 3 341 (ovI o) 178 ls st σ := by
  intro ls st σ o h
  unfold hd_M_strength_178 at h
  split at h
  · exact hg _ _ _ _ _ h
  · cases h
set_option maxRecDepth 100000 in
theorem s_M_strength_132 {X : CXT} (hX : XM X) {KH : Nat → Int32 → Int32 → Int32 → Int64 → Int64 → Int32 → Mem → Option (Int32 × Mem)} {K178 : Nat → Int32 → Int32 → Mem → Option (Int32 × Mem)} (hKH : ∀ (k0 : Nat) (v1 : Int32) (v2 : Int32) (v3 : Int32) (v4 : Int64) (v6 : Int64) (v8 : Int32) (s : Mem) (o : Int32 × Mem), KH k0 v1 v2 v3 v4 v6 v8 s = some o → BSnd X 3 341 (ovI o) 42 [some (.inr (.inr (12, k0))), some (.inl v1), some (.inl v2), some (.inl v3), some (.inr (.inl v4)), none, some (.inr (.inl v6)), none, some (.inl v8)] [] s) (hK178 : ∀ (k0 : Nat) (v2 : Int32) (v3 : Int32) (s : Mem) (o : Int32 × Mem), K178 k0 v2 v3 s = some o → BSnd X 3 341 (ovI o) 178 [some (.inr (.inr (12, k0))), none, some (.inl v2), some (.inl v3)] [] s) : ∀ (k0 : Nat) (v1 : Int32) (v2 : Int32) (v3 : Int32) (v4 : Int64) (v6 : Int64) (v8 : Int32) (v9 : Int32) (v10 : Int32) (s : Mem) (o : Int32 × Mem), f_M_strength_132 KH K178 k0 v1 v2 v3 v4 v6 v8 v9 v10 s = some o → BSnd X 3 341 (ovI o) 132 [some (.inr (.inr (12, k0))), some (.inl v1), some (.inl v2), some (.inl v3), some (.inr (.inl v4)), none, some (.inr (.inl v6)), none, some (.inl v8), some (.inl v9), some (.inl v10)] [] s := by
  intro k0 v1 v2 v3 v4 v6 v8 v9 v10 s o h
  exact evC (chs := c_M_strength) (cuts := cu_M_strength) (G := fun pc ls st σ => if pc = 42 then hd_M_strength_42 (fun k0 v1 v2 v3 v4 v6 v8 s => KH k0 v1 v2 v3 v4 v6 v8 s) ls st σ else none) hX.2.1 hX.2.2 (F := F_M_strength _) (fs_M_strength hX _) (rt_I rfl) oc_M_strength (by
    intro pc ls st σ o h
    rcases ite_s h with ⟨rfl, h⟩ | ⟨_, h⟩
    · exact hs_M_strength_42 hKH _ _ _ _ h
    cases h) 428 132 _ _ _ _ h
set_option maxRecDepth 100000 in
theorem s_M_strength_125 {X : CXT} (hX : XM X) {KH : Nat → Int32 → Int32 → Int32 → Int64 → Int64 → Int32 → Mem → Option (Int32 × Mem)} {K178 : Nat → Int32 → Int32 → Mem → Option (Int32 × Mem)} (hKH : ∀ (k0 : Nat) (v1 : Int32) (v2 : Int32) (v3 : Int32) (v4 : Int64) (v6 : Int64) (v8 : Int32) (s : Mem) (o : Int32 × Mem), KH k0 v1 v2 v3 v4 v6 v8 s = some o → BSnd X 3 341 (ovI o) 42 [some (.inr (.inr (12, k0))), some (.inl v1), some (.inl v2), some (.inl v3), some (.inr (.inl v4)), none, some (.inr (.inl v6)), none, some (.inl v8)] [] s) (hK178 : ∀ (k0 : Nat) (v2 : Int32) (v3 : Int32) (s : Mem) (o : Int32 × Mem), K178 k0 v2 v3 s = some o → BSnd X 3 341 (ovI o) 178 [some (.inr (.inr (12, k0))), none, some (.inl v2), some (.inl v3)] [] s) : ∀ (k0 : Nat) (v1 : Int32) (v2 : Int32) (v3 : Int32) (v4 : Int64) (v6 : Int64) (v8 : Int32) (v9 : Int32) (s : Mem) (o : Int32 × Mem), f_M_strength_125 KH K178 k0 v1 v2 v3 v4 v6 v8 v9 s = some o → BSnd X 3 341 (ovI o) 125 [some (.inr (.inr (12, k0))), some (.inl v1), some (.inl v2), some (.inl v3), some (.inr (.inl v4)), none, some (.inr (.inl v6)), none, some (.inl v8), some (.inl v9)] [] s := by
  intro k0 v1 v2 v3 v4 v6 v8 v9 s o h
  exact evC (chs := c_M_strength) (cuts := cu_M_strength) (G := fun pc ls st σ => if pc = 132 then hd_M_strength_132 (fun k0 v1 v2 v3 v4 v6 v8 v9 v10 s => f_M_strength_132 (KH) K178 k0 v1 v2 v3 v4 v6 v8 v9 v10 s) ls st σ else if pc = 42 then hd_M_strength_42 (fun k0 v1 v2 v3 v4 v6 v8 s => KH k0 v1 v2 v3 v4 v6 v8 s) ls st σ else if pc = 178 then hd_M_strength_178 (fun k0 v2 v3 s => K178 k0 v2 v3 s) ls st σ else none) hX.2.1 hX.2.2 (F := F_M_strength _) (fs_M_strength hX _) (rt_I rfl) oc_M_strength (by
    intro pc ls st σ o h
    rcases ite_s h with ⟨rfl, h⟩ | ⟨_, h⟩
    · exact hs_M_strength_132 (s_M_strength_132 hX hKH hK178) _ _ _ _ h
    rcases ite_s h with ⟨rfl, h⟩ | ⟨_, h⟩
    · exact hs_M_strength_42 hKH _ _ _ _ h
    rcases ite_s h with ⟨rfl, h⟩ | ⟨_, h⟩
    · exact hs_M_strength_178 hK178 _ _ _ _ h
    cases h) 428 125 _ _ _ _ h
set_option maxRecDepth 100000 in
theorem s_M_strength_129 {X : CXT} (hX : XM X) {KH : Nat → Int32 → Int32 → Int32 → Int64 → Int64 → Int32 → Mem → Option (Int32 × Mem)} {K178 : Nat → Int32 → Int32 → Mem → Option (Int32 × Mem)} (hKH : ∀ (k0 : Nat) (v1 : Int32) (v2 : Int32) (v3 : Int32) (v4 : Int64) (v6 : Int64) (v8 : Int32) (s : Mem) (o : Int32 × Mem), KH k0 v1 v2 v3 v4 v6 v8 s = some o → BSnd X 3 341 (ovI o) 42 [some (.inr (.inr (12, k0))), some (.inl v1), some (.inl v2), some (.inl v3), some (.inr (.inl v4)), none, some (.inr (.inl v6)), none, some (.inl v8)] [] s) (hK178 : ∀ (k0 : Nat) (v2 : Int32) (v3 : Int32) (s : Mem) (o : Int32 × Mem), K178 k0 v2 v3 s = some o → BSnd X 3 341 (ovI o) 178 [some (.inr (.inr (12, k0))), none, some (.inl v2), some (.inl v3)] [] s) : ∀ (k0 : Nat) (v1 : Int32) (v2 : Int32) (v3 : Int32) (v4 : Int64) (v6 : Int64) (v8 : Int32) (v9 : Int32) (s : Mem) (o : Int32 × Mem), f_M_strength_129 KH K178 k0 v1 v2 v3 v4 v6 v8 v9 s = some o → BSnd X 3 341 (ovI o) 129 [some (.inr (.inr (12, k0))), some (.inl v1), some (.inl v2), some (.inl v3), some (.inr (.inl v4)), none, some (.inr (.inl v6)), none, some (.inl v8), some (.inl v9)] [] s := by
  intro k0 v1 v2 v3 v4 v6 v8 v9 s o h
  exact evC (chs := c_M_strength) (cuts := cu_M_strength) (G := fun pc ls st σ => if pc = 132 then hd_M_strength_132 (fun k0 v1 v2 v3 v4 v6 v8 v9 v10 s => f_M_strength_132 (KH) K178 k0 v1 v2 v3 v4 v6 v8 v9 v10 s) ls st σ else if pc = 42 then hd_M_strength_42 (fun k0 v1 v2 v3 v4 v6 v8 s => KH k0 v1 v2 v3 v4 v6 v8 s) ls st σ else if pc = 178 then hd_M_strength_178 (fun k0 v2 v3 s => K178 k0 v2 v3 s) ls st σ else none) hX.2.1 hX.2.2 (F := F_M_strength _) (fs_M_strength hX _) (rt_I rfl) oc_M_strength (by
    intro pc ls st σ o h
    rcases ite_s h with ⟨rfl, h⟩ | ⟨_, h⟩
    · exact hs_M_strength_132 (s_M_strength_132 hX hKH hK178) _ _ _ _ h
    rcases ite_s h with ⟨rfl, h⟩ | ⟨_, h⟩
    · exact hs_M_strength_42 hKH _ _ _ _ h
    rcases ite_s h with ⟨rfl, h⟩ | ⟨_, h⟩
    · exact hs_M_strength_178 hK178 _ _ _ _ h
    cases h) 428 129 _ _ _ _ h
set_option maxRecDepth 100000 in
theorem s_M_strength_95 {X : CXT} (hX : XM X) {KH : Nat → Int32 → Int32 → Int32 → Int64 → Int64 → Int32 → Mem → Option (Int32 × Mem)} {K178 : Nat → Int32 → Int32 → Mem → Option (Int32 × Mem)} (hKH : ∀ (k0 : Nat) (v1 : Int32) (v2 : Int32) (v3 : Int32) (v4 : Int64) (v6 : Int64) (v8 : Int32) (s : Mem) (o : Int32 × Mem), KH k0 v1 v2 v3 v4 v6 v8 s = some o → BSnd X 3 341 (ovI o) 42 [some (.inr (.inr (12, k0))), some (.inl v1), some (.inl v2), some (.inl v3), some (.inr (.inl v4)), none, some (.inr (.inl v6)), none, some (.inl v8)] [] s) (hK178 : ∀ (k0 : Nat) (v2 : Int32) (v3 : Int32) (s : Mem) (o : Int32 × Mem), K178 k0 v2 v3 s = some o → BSnd X 3 341 (ovI o) 178 [some (.inr (.inr (12, k0))), none, some (.inl v2), some (.inl v3)] [] s) : ∀ (k0 : Nat) (v1 : Int32) (v2 : Int32) (v3 : Int32) (v4 : Int64) (v6 : Int64) (v8 : Int32) (v9 : Int32) (s : Mem) (o : Int32 × Mem), f_M_strength_95 KH K178 k0 v1 v2 v3 v4 v6 v8 v9 s = some o → BSnd X 3 341 (ovI o) 95 [some (.inr (.inr (12, k0))), some (.inl v1), some (.inl v2), some (.inl v3), some (.inr (.inl v4)), none, some (.inr (.inl v6)), none, some (.inl v8), some (.inl v9)] [] s := by
  intro k0 v1 v2 v3 v4 v6 v8 v9 s o h
  exact evC (chs := c_M_strength) (cuts := cu_M_strength) (G := fun pc ls st σ => if pc = 125 then hd_M_strength_125 (fun k0 v1 v2 v3 v4 v6 v8 v9 s => f_M_strength_125 (KH) K178 k0 v1 v2 v3 v4 v6 v8 v9 s) ls st σ else if pc = 129 then hd_M_strength_129 (fun k0 v1 v2 v3 v4 v6 v8 v9 s => f_M_strength_129 (KH) K178 k0 v1 v2 v3 v4 v6 v8 v9 s) ls st σ else if pc = 42 then hd_M_strength_42 (fun k0 v1 v2 v3 v4 v6 v8 s => KH k0 v1 v2 v3 v4 v6 v8 s) ls st σ else if pc = 178 then hd_M_strength_178 (fun k0 v2 v3 s => K178 k0 v2 v3 s) ls st σ else none) hX.2.1 hX.2.2 (F := F_M_strength _) (fs_M_strength hX _) (rt_I rfl) oc_M_strength (by
    intro pc ls st σ o h
    rcases ite_s h with ⟨rfl, h⟩ | ⟨_, h⟩
    · exact hs_M_strength_125 (s_M_strength_125 hX hKH hK178) _ _ _ _ h
    rcases ite_s h with ⟨rfl, h⟩ | ⟨_, h⟩
    · exact hs_M_strength_129 (s_M_strength_129 hX hKH hK178) _ _ _ _ h
    rcases ite_s h with ⟨rfl, h⟩ | ⟨_, h⟩
    · exact hs_M_strength_42 hKH _ _ _ _ h
    rcases ite_s h with ⟨rfl, h⟩ | ⟨_, h⟩
    · exact hs_M_strength_178 hK178 _ _ _ _ h
    cases h) 428 95 _ _ _ _ h
set_option maxRecDepth 100000 in
theorem s_M_strength_92 {X : CXT} (hX : XM X) {KH : Nat → Int32 → Int32 → Int32 → Int64 → Int64 → Int32 → Mem → Option (Int32 × Mem)} {K178 : Nat → Int32 → Int32 → Mem → Option (Int32 × Mem)} (hKH : ∀ (k0 : Nat) (v1 : Int32) (v2 : Int32) (v3 : Int32) (v4 : Int64) (v6 : Int64) (v8 : Int32) (s : Mem) (o : Int32 × Mem), KH k0 v1 v2 v3 v4 v6 v8 s = some o → BSnd X 3 341 (ovI o) 42 [some (.inr (.inr (12, k0))), some (.inl v1), some (.inl v2), some (.inl v3), some (.inr (.inl v4)), none, some (.inr (.inl v6)), none, some (.inl v8)] [] s) (hK178 : ∀ (k0 : Nat) (v2 : Int32) (v3 : Int32) (s : Mem) (o : Int32 × Mem), K178 k0 v2 v3 s = some o → BSnd X 3 341 (ovI o) 178 [some (.inr (.inr (12, k0))), none, some (.inl v2), some (.inl v3)] [] s) : ∀ (k0 : Nat) (v1 : Int32) (v2 : Int32) (v3 : Int32) (v4 : Int64) (v6 : Int64) (v8 : Int32) (s : Mem) (o : Int32 × Mem), f_M_strength_92 KH K178 k0 v1 v2 v3 v4 v6 v8 s = some o → BSnd X 3 341 (ovI o) 92 [some (.inr (.inr (12, k0))), some (.inl v1), some (.inl v2), some (.inl v3), some (.inr (.inl v4)), none, some (.inr (.inl v6)), none, some (.inl v8)] [] s := by
  intro k0 v1 v2 v3 v4 v6 v8 s o h
  exact evC (chs := c_M_strength) (cuts := cu_M_strength) (G := fun pc ls st σ => if pc = 95 then hd_M_strength_95 (fun k0 v1 v2 v3 v4 v6 v8 v9 s => f_M_strength_95 (KH) K178 k0 v1 v2 v3 v4 v6 v8 v9 s) ls st σ else if pc = 42 then hd_M_strength_42 (fun k0 v1 v2 v3 v4 v6 v8 s => KH k0 v1 v2 v3 v4 v6 v8 s) ls st σ else if pc = 178 then hd_M_strength_178 (fun k0 v2 v3 s => K178 k0 v2 v3 s) ls st σ else none) hX.2.1 hX.2.2 (F := F_M_strength _) (fs_M_strength hX _) (rt_I rfl) oc_M_strength (by
    intro pc ls st σ o h
    rcases ite_s h with ⟨rfl, h⟩ | ⟨_, h⟩
    · exact hs_M_strength_95 (s_M_strength_95 hX hKH hK178) _ _ _ _ h
    rcases ite_s h with ⟨rfl, h⟩ | ⟨_, h⟩
    · exact hs_M_strength_42 hKH _ _ _ _ h
    rcases ite_s h with ⟨rfl, h⟩ | ⟨_, h⟩
    · exact hs_M_strength_178 hK178 _ _ _ _ h
    cases h) 428 92 _ _ _ _ h
set_option maxRecDepth 100000 in
theorem s_M_strength_42 {X : CXT} (hX : XM X) {K178 : Nat → Int32 → Int32 → Mem → Option (Int32 × Mem)} (hK178 : ∀ (k0 : Nat) (v2 : Int32) (v3 : Int32) (s : Mem) (o : Int32 × Mem), K178 k0 v2 v3 s = some o → BSnd X 3 341 (ovI o) 178 [some (.inr (.inr (12, k0))), none, some (.inl v2), some (.inl v3)] [] s) : ∀ n : Nat, ∀ (k0 : Nat) (v1 : Int32) (v2 : Int32) (v3 : Int32) (v4 : Int64) (v6 : Int64) (v8 : Int32) (s : Mem) (o : Int32 × Mem), f_M_strength_42 K178 n k0 v1 v2 v3 v4 v6 v8 s = some o → BSnd X 3 341 (ovI o) 42 [some (.inr (.inr (12, k0))), some (.inl v1), some (.inl v2), some (.inl v3), some (.inr (.inl v4)), none, some (.inr (.inl v6)), none, some (.inl v8)] [] s := by
  intro n
  induction n with
  | zero => intro k0 v1 v2 v3 v4 v6 v8 s o h; cases h
  | succ n ih =>
    intro k0 v1 v2 v3 v4 v6 v8 s o h
    exact evC (chs := c_M_strength) (cuts := cu_M_strength) (G := fun pc ls st σ => if pc = 95 then hd_M_strength_95 (fun k0 v1 v2 v3 v4 v6 v8 v9 s => f_M_strength_95 (fun k0 v1 v2 v3 v4 v6 v8 s => f_M_strength_42 K178 n k0 v1 v2 v3 v4 v6 v8 s) K178 k0 v1 v2 v3 v4 v6 v8 v9 s) ls st σ else if pc = 92 then hd_M_strength_92 (fun k0 v1 v2 v3 v4 v6 v8 s => f_M_strength_92 (fun k0 v1 v2 v3 v4 v6 v8 s => f_M_strength_42 K178 n k0 v1 v2 v3 v4 v6 v8 s) K178 k0 v1 v2 v3 v4 v6 v8 s) ls st σ else if pc = 42 then hd_M_strength_42 (fun k0 v1 v2 v3 v4 v6 v8 s => f_M_strength_42 K178 n k0 v1 v2 v3 v4 v6 v8 s) ls st σ else if pc = 178 then hd_M_strength_178 (fun k0 v2 v3 s => K178 k0 v2 v3 s) ls st σ else none) hX.2.1 hX.2.2 (F := F_M_strength _) (fs_M_strength hX _) (rt_I rfl) oc_M_strength (by
    intro pc ls st σ o h
    rcases ite_s h with ⟨rfl, h⟩ | ⟨_, h⟩
    · exact hs_M_strength_95 (s_M_strength_95 hX ih hK178) _ _ _ _ h
    rcases ite_s h with ⟨rfl, h⟩ | ⟨_, h⟩
    · exact hs_M_strength_92 (s_M_strength_92 hX ih hK178) _ _ _ _ h
    rcases ite_s h with ⟨rfl, h⟩ | ⟨_, h⟩
    · exact hs_M_strength_42 ih _ _ _ _ h
    rcases ite_s h with ⟨rfl, h⟩ | ⟨_, h⟩
    · exact hs_M_strength_178 hK178 _ _ _ _ h
    cases h) 428 42 _ _ _ _ h
set_option maxRecDepth 100000 in
theorem s_M_strength_178 {X : CXT} (hX : XM X) : ∀ (k0 : Nat) (v2 : Int32) (v3 : Int32) (s : Mem) (o : Int32 × Mem), f_M_strength_178 k0 v2 v3 s = some o → BSnd X 3 341 (ovI o) 178 [some (.inr (.inr (12, k0))), none, some (.inl v2), some (.inl v3)] [] s := by
  intro k0 v2 v3 s o h
  exact evC (chs := c_M_strength) (cuts := cu_M_strength) (G := fun pc ls st σ => none) hX.2.1 hX.2.2 (F := F_M_strength _) (fs_M_strength hX _) (rt_I rfl) oc_M_strength (by
    intro pc ls st σ o h
    cases h) 428 178 _ _ _ _ h
set_option maxRecDepth 100000 in
theorem s_M_strength {X : CXT} (hX : XM X) : ∀ (k0 : Nat) (v1 : Int32) (v2 : Int32) (s : Mem) (o : Int32 × Mem), f_M_strength k0 v1 v2 s = some o → BSnd X 3 341 (ovI o) 0 (entL [.inr (.inr (12, k0)), .inl v1, .inl v2]) [] s := by
  intro k0 v1 v2 s o h
  rw [f_M_strength_eq] at h
  exact evC (chs := c_M_strength) (cuts := cu_M_strength) (G := fun pc ls st σ => if pc = 42 then hd_M_strength_42 (fun k0 v1 v2 v3 v4 v6 v8 s => f_M_strength_42 (fun k0 v2 v3 s => f_M_strength_178 k0 v2 v3 s) FU k0 v1 v2 v3 v4 v6 v8 s) ls st σ else if pc = 178 then hd_M_strength_178 (fun k0 v2 v3 s => f_M_strength_178 k0 v2 v3 s) ls st σ else none) hX.2.1 hX.2.2 (F := F_M_strength _) (fs_M_strength hX _) (rt_I rfl) oc_M_strength (by
    intro pc ls st σ o h
    rcases ite_s h with ⟨rfl, h⟩ | ⟨_, h⟩
    · exact hs_M_strength_42 (s_M_strength_42 hX (s_M_strength_178 hX) FU) _ _ _ _ h
    rcases ite_s h with ⟨rfl, h⟩ | ⟨_, h⟩
    · exact hs_M_strength_178 (s_M_strength_178 hX) _ _ _ _ h
    cases h) 428 0 _ _ _ _ h
theorem ok_M_strength {X : CXT} (hX : XM X) : SemOK X 3 341 sm_M_strength := by
  intro O av σ K o h
  unfold sm_M_strength at h
  split at h
  · obtain ⟨r, hf, h⟩ := Option.bind_eq_some_iff.mp h
    exact ⟨ovI r, fun ht => sp_of hX.1 (by decide) (List.mem_range.mpr (by decide)) (by decide +kernel) ht (Nat.le_of_ble_eq_true rfl) (s_M_strength hX _ _ _ _ _ hf), trivial, h⟩
  · cases h
noncomputable def f_M_sleeps_34 (K92 : Nat → Int32 → Int32 → Int32 → Int32 → Mem → Option (Int32 × Mem)) : Nat → Nat → Int32 → Int32 → Int32 → Int32 → Int32 → Mem → Option (Int32 × Mem)
  | 0, _, _, _, _, _, _, _ => none
  | n + 1, k0, v1, v2, v3, v4, v5, s =>
    gd (inb ((0 : Int32)) (lenM (k0 + 1))) <|
    cif ((rI s (k0 + 1) (ix ((0 : Int32)))) ≤ v5) (
      K92 k0 v1 v2 v3 v4 s) (
      (f_M_stands k0 ((11 : Int32)) v5 s).bind fun r1 =>
      cif ((b2i r1.1) = 0) (
        f_M_sleeps_34 K92 n k0 v1 v2 v3 v4 (v5 + (1 : Int32)) r1.2) (
        (f_M_isBroken k0 v5 r1.2).bind fun r2 =>
        cif ((b2i r2.1) = 0) (
          cif (v1 < ((v5 + ((1 : Int32))) - v2)) (
            f_M_sleeps_34 K92 n k0 v1 v2 v3 v4 (v5 + (1 : Int32)) r2.2) (
            (f_M_greater v4 (v5 + ((1 : Int32))) r2.2).bind fun r3 =>
            f_M_sleeps_34 K92 n k0 v1 v2 v3 r3.1 (v5 + (1 : Int32)) r3.2)) (
          f_M_sleeps_34 K92 n k0 v1 v2 v3 v4 (v5 + (1 : Int32)) r2.2)))
noncomputable def f_M_sleeps_92 (KH : Nat → Int32 → Int32 → Int32 → Mem → Option (Int32 × Mem)) (k0 : Nat) (v1 : Int32) (v2 : Int32) (v3 : Int32) (v4 : Int32) (s : Mem) : Option (Int32 × Mem) :=
  cif (v4 = v2) (
    some ((-1 : Int32), s)) (
    KH k0 v1 v4 (v3 + (1 : Int32)) s)
noncomputable def f_M_sleeps_16 : Nat → Nat → Int32 → Int32 → Int32 → Mem → Option (Int32 × Mem)
  | 0, _, _, _, _, _ => none
  | n + 1, k0, v1, v2, v3, s =>
    gd (inb ((0 : Int32)) (lenM (k0 + 1))) <|
    cif (((rI s (k0 + 1) (ix ((0 : Int32)))) - v2) ≤ v1) (
      some (v3, s)) (
      f_M_sleeps_34 (fun k0 v1 v2 v3 v4 s => f_M_sleeps_92 (fun k0 v1 v2 v3 s => f_M_sleeps_16 n k0 v1 v2 v3 s) k0 v1 v2 v3 v4 s) FU k0 v1 v2 v3 v2 ((0 : Int32)) s)
noncomputable def b_M_sleeps (k0 : Nat) (v1 : Int32) (s : Mem) : Option (Int32 × Mem) :=
  (f_M_isIn v1 ((1 : Int32)) ((40 : Int32)) s).bind fun r1 =>
  cif ((b2i r1.1) = 0) (
    some ((-1 : Int32), r1.2)) (
    f_M_sleeps_16 FU k0 v1 ((0 : Int32)) ((0 : Int32)) r1.2)
noncomputable def f_M_sleeps : Nat → Int32 → Mem → Option (Int32 × Mem) := Classical.choose (⟨b_M_sleeps, rfl⟩ : ∃ f : Nat → Int32 → Mem → Option (Int32 × Mem), f = b_M_sleeps)
theorem f_M_sleeps_eq : f_M_sleeps = b_M_sleeps := Classical.choose_spec (⟨b_M_sleeps, rfl⟩ : ∃ f : Nat → Int32 → Mem → Option (Int32 × Mem), f = b_M_sleeps)
noncomputable def sm_M_sleeps (O : Type) (av : List AV) (σ : Mem) (K : AV → Mem → Option O) : Option O := match av with
  | [.inr (.inr (12, k0)), .inl v1] => (f_M_sleeps k0 v1 σ).bind fun r => K (.inl r.1) r.2
  | _ => none
def c_M_sleeps : List (List CE) := [[(0, .iload_n 1, 1, 0, 0, 0), (1, .iconst 1, 1, 1, 0, 0), (2, .bipush 40, 2, 40, 0, 0), (4, .invokestatic 60, 3, 230, 3, 1), (7, .ifCond .ne 5, 3, 12, 0, 0), (10, .iconst (-1), 1, 1, 0, 1), (11, .ireturn, 1, 0, 0, 0), (12, .iconst 0, 1, 0, 0, 0), (13, .istore_n 2, 1, 0, 0, 0), (14, .iconst 0, 1, 0, 0, 0), (15, .istore_n 3, 1, 0, 0, 0)], [(16, .aload_n 0, 1, 0, 0, 0), (17, .getfield 7, 3, 12, 0, 0), (20, .iconst 0, 1, 0, 0, 0), (21, .iaload, 1, 0, 0, 0), (22, .iload_n 2, 1, 0, 0, 0), (23, .isub, 1, 0, 0, 0), (24, .iload_n 1, 1, 0, 0, 0), (25, .if_icmp .le 84, 3, 109, 0, 0), (28, .iload_n 2, 1, 0, 0, 0), (29, .istore 4, 2, 0, 0, 0), (31, .iconst 0, 1, 0, 0, 0)], [(32, .istore 5, 2, 0, 0, 0), (34, .iload 5, 2, 0, 0, 0), (36, .aload_n 0, 1, 0, 0, 0), (37, .getfield 7, 3, 12, 0, 0), (40, .iconst 0, 1, 0, 0, 0), (41, .iaload, 1, 0, 0, 0), (42, .if_icmp .ge 50, 3, 92, 0, 0), (45, .aload_n 0, 1, 0, 0, 0), (46, .bipush 11, 2, 11, 0, 0)], [(48, .iload 5, 2, 0, 0, 0), (50, .invokevirtual 376, 3, 308, 3, 25), (53, .ifCond .eq 33, 3, 86, 0, 0), (56, .aload_n 0, 1, 0, 0, 0), (57, .iload 5, 2, 0, 0, 0), (59, .invokevirtual 320, 3, 288, 2, 25), (62, .ifCond .ne 24, 3, 86, 0, 0)], [(65, .iload 5, 2, 0, 0, 0), (67, .iconst 1, 1, 1, 0, 0), (68, .iadd, 1, 0, 0, 0), (69, .iload_n 2, 1, 0, 0, 0), (70, .isub, 1, 0, 0, 0), (71, .iload_n 1, 1, 0, 0, 0), (72, .if_icmp .gt 14, 3, 86, 0, 0), (75, .iload 4, 2, 0, 0, 0), (77, .iload 5, 2, 0, 0, 0), (79, .iconst 1, 1, 1, 0, 0)], [(80, .iadd, 1, 0, 0, 0), (81, .invokestatic 294, 3, 283, 2, 1), (84, .istore 4, 2, 0, 0, 0), (86, .iinc 5 1, 3, 1, 0, 0), (89, .goto (-55), 3, 34, 0, 0), (92, .iload 4, 2, 0, 0, 0), (94, .iload_n 2, 1, 0, 0, 0), (95, .if_icmp .ne 5, 3, 100, 0, 0)], [(98, .iconst (-1), 1, 1, 0, 1), (99, .ireturn, 1, 0, 0, 0), (100, .iload 4, 2, 0, 0, 0), (102, .istore_n 2, 1, 0, 0, 0), (103, .iinc 3 1, 3, 1, 0, 0), (106, .goto (-90), 3, 16, 0, 0), (109, .iload_n 3, 1, 0, 0, 0), (110, .ireturn, 1, 0, 0, 0)]]
set_option maxRecDepth 100000 in
theorem oc_M_sleeps : okC 345 c_M_sleeps = true := by decide +kernel
def cu_M_sleeps : List (Nat × List Bool) := [(34, [true, true, true, true, true, true]), (92, [true, true, true, true, true]), (16, [true, true, true, true])]
noncomputable def F_M_sleeps (O : Type) (a : Nat) (av : List AV) (σ : Mem) (K : AV → Mem → Option O) : Option O := if a = 230 then sm_M_isIn O av σ K else if a = 283 then sm_M_greater O av σ K else if a = 288 then sm_M_isBroken O av σ K else if a = 308 then sm_M_stands O av σ K else none
theorem fs_M_sleeps {X : CXT} (hX : XM X) (O : Type) : FS X 2 (F_M_sleeps O) := by
  intro a av σ K o h
  unfold F_M_sleeps at h
  rcases ite_s h with ⟨rfl, h⟩ | ⟨_, h⟩
  · obtain ⟨r, h1, h2, h3⟩ := ok_M_isIn hX _ _ _ _ _ h
    exact ⟨r, fun ht => ⟨1, by decide, h1 ht⟩, h2, h3⟩
  rcases ite_s h with ⟨rfl, h⟩ | ⟨_, h⟩
  · obtain ⟨r, h1, h2, h3⟩ := ok_M_greater hX _ _ _ _ _ h
    exact ⟨r, fun ht => ⟨1, by decide, h1 ht⟩, h2, h3⟩
  rcases ite_s h with ⟨rfl, h⟩ | ⟨_, h⟩
  · obtain ⟨r, h1, h2, h3⟩ := ok_M_isBroken hX _ _ _ _ _ h
    exact ⟨r, fun ht => ⟨1, by decide, h1 ht⟩, h2, h3⟩
  rcases ite_s h with ⟨rfl, h⟩ | ⟨_, h⟩
  · obtain ⟨r, h1, h2, h3⟩ := ok_M_stands hX _ _ _ _ _ h
    exact ⟨r, fun ht => ⟨1, by decide, h1 ht⟩, h2, h3⟩
  cases h
def hd_M_sleeps_34 {O : Type} (g : Nat → Int32 → Int32 → Int32 → Int32 → Int32 → Mem → Option O) (ls : OL) (st : List AV) (σ : Mem) : Option O := match ls, st with
  | [some (.inr (.inr (12, k0))), some (.inl v1), some (.inl v2), some (.inl v3), some (.inl v4), some (.inl v5)], [] => g k0 v1 v2 v3 v4 v5 σ
  | _, _ => none
theorem hs_M_sleeps_34 {X : CXT} {g : Nat → Int32 → Int32 → Int32 → Int32 → Int32 → Mem → Option (Int32 × Mem)} (hg : ∀ (k0 : Nat) (v1 : Int32) (v2 : Int32) (v3 : Int32) (v4 : Int32) (v5 : Int32) (s : Mem) (o : Int32 × Mem), g k0 v1 v2 v3 v4 v5 s = some o → BSnd X 2 345 (ovI o) 34 [some (.inr (.inr (12, k0))), some (.inl v1), some (.inl v2), some (.inl v3), some (.inl v4), some (.inl v5)] [] s) : ∀ ls st σ o, hd_M_sleeps_34 g ls st σ = some o → BSnd X 2 345 (ovI o) 34 ls st σ := by
  intro ls st σ o h
  unfold hd_M_sleeps_34 at h
  split at h
  · exact hg _ _ _ _ _ _ _ _ h
  · cases h
def hd_M_sleeps_92 {O : Type} (g : Nat → Int32 → Int32 → Int32 → Int32 → Mem → Option O) (ls : OL) (st : List AV) (σ : Mem) : Option O := match ls, st with
  | [some (.inr (.inr (12, k0))), some (.inl v1), some (.inl v2), some (.inl v3), some (.inl v4)], [] => g k0 v1 v2 v3 v4 σ
  | _, _ => none
theorem hs_M_sleeps_92 {X : CXT} {g : Nat → Int32 → Int32 → Int32 → Int32 → Mem → Option (Int32 × Mem)} (hg : ∀ (k0 : Nat) (v1 : Int32) (v2 : Int32) (v3 : Int32) (v4 : Int32) (s : Mem) (o : Int32 × Mem), g k0 v1 v2 v3 v4 s = some o → BSnd X 2 345 (ovI o) 92 [some (.inr (.inr (12, k0))), some (.inl v1), some (.inl v2), some (.inl v3), some (.inl v4)] [] s) : ∀ ls st σ o, hd_M_sleeps_92 g ls st σ = some o → BSnd X 2 345 (ovI o) 92 ls st σ := by
  intro ls st σ o h
  unfold hd_M_sleeps_92 at h
  split at h
  · exact hg _ _ _ _ _ _ _ h
  · cases h
def hd_M_sleeps_16 {O : Type} (g : Nat → Int32 → Int32 → Int32 → Mem → Option O) (ls : OL) (st : List AV) (σ : Mem) : Option O := match ls, st with
  | [some (.inr (.inr (12, k0))), some (.inl v1), some (.inl v2), some (.inl v3)], [] => g k0 v1 v2 v3 σ
  | _, _ => none
theorem hs_M_sleeps_16 {X : CXT} {g : Nat → Int32 → Int32 → Int32 → Mem → Option (Int32 × Mem)} (hg : ∀ (k0 : Nat) (v1 : Int32) (v2 : Int32) (v3 : Int32) (s : Mem) (o : Int32 × Mem), g k0 v1 v2 v3 s = some o → BSnd X 2 345 (ovI o) 16 [some (.inr (.inr (12, k0))), some (.inl v1), some (.inl v2), some (.inl v3)] [] s) : ∀ ls st σ o, hd_M_sleeps_16 g ls st σ = some o → BSnd X 2 345 (ovI o) 16 ls st σ := by
  intro ls st σ o h
  unfold hd_M_sleeps_16 at h
  split at h
  · exact hg _ _ _ _ _ _ h
  · cases h
set_option maxRecDepth 100000 in
theorem s_M_sleeps_34 {X : CXT} (hX : XM X) {K92 : Nat → Int32 → Int32 → Int32 → Int32 → Mem → Option (Int32 × Mem)} (hK92 : ∀ (k0 : Nat) (v1 : Int32) (v2 : Int32) (v3 : Int32) (v4 : Int32) (s : Mem) (o : Int32 × Mem), K92 k0 v1 v2 v3 v4 s = some o → BSnd X 2 345 (ovI o) 92 [some (.inr (.inr (12, k0))), some (.inl v1), some (.inl v2), some (.inl v3), some (.inl v4)] [] s) : ∀ n : Nat, ∀ (k0 : Nat) (v1 : Int32) (v2 : Int32) (v3 : Int32) (v4 : Int32) (v5 : Int32) (s : Mem) (o : Int32 × Mem), f_M_sleeps_34 K92 n k0 v1 v2 v3 v4 v5 s = some o → BSnd X 2 345 (ovI o) 34 [some (.inr (.inr (12, k0))), some (.inl v1), some (.inl v2), some (.inl v3), some (.inl v4), some (.inl v5)] [] s := by
  intro n
  induction n with
  | zero => intro k0 v1 v2 v3 v4 v5 s o h; cases h
  | succ n ih =>
    intro k0 v1 v2 v3 v4 v5 s o h
    exact evC (chs := c_M_sleeps) (cuts := cu_M_sleeps) (G := fun pc ls st σ => if pc = 34 then hd_M_sleeps_34 (fun k0 v1 v2 v3 v4 v5 s => f_M_sleeps_34 K92 n k0 v1 v2 v3 v4 v5 s) ls st σ else if pc = 92 then hd_M_sleeps_92 (fun k0 v1 v2 v3 v4 s => K92 k0 v1 v2 v3 v4 s) ls st σ else none) hX.2.1 hX.2.2 (F := F_M_sleeps _) (fs_M_sleeps hX _) (rt_I rfl) oc_M_sleeps (by
    intro pc ls st σ o h
    rcases ite_s h with ⟨rfl, h⟩ | ⟨_, h⟩
    · exact hs_M_sleeps_34 ih _ _ _ _ h
    rcases ite_s h with ⟨rfl, h⟩ | ⟨_, h⟩
    · exact hs_M_sleeps_92 hK92 _ _ _ _ h
    cases h) 296 34 _ _ _ _ h
set_option maxRecDepth 100000 in
theorem s_M_sleeps_92 {X : CXT} (hX : XM X) {KH : Nat → Int32 → Int32 → Int32 → Mem → Option (Int32 × Mem)} (hKH : ∀ (k0 : Nat) (v1 : Int32) (v2 : Int32) (v3 : Int32) (s : Mem) (o : Int32 × Mem), KH k0 v1 v2 v3 s = some o → BSnd X 2 345 (ovI o) 16 [some (.inr (.inr (12, k0))), some (.inl v1), some (.inl v2), some (.inl v3)] [] s) : ∀ (k0 : Nat) (v1 : Int32) (v2 : Int32) (v3 : Int32) (v4 : Int32) (s : Mem) (o : Int32 × Mem), f_M_sleeps_92 KH k0 v1 v2 v3 v4 s = some o → BSnd X 2 345 (ovI o) 92 [some (.inr (.inr (12, k0))), some (.inl v1), some (.inl v2), some (.inl v3), some (.inl v4)] [] s := by
  intro k0 v1 v2 v3 v4 s o h
  exact evC (chs := c_M_sleeps) (cuts := cu_M_sleeps) (G := fun pc ls st σ => if pc = 16 then hd_M_sleeps_16 (fun k0 v1 v2 v3 s => KH k0 v1 v2 v3 s) ls st σ else none) hX.2.1 hX.2.2 (F := F_M_sleeps _) (fs_M_sleeps hX _) (rt_I rfl) oc_M_sleeps (by
    intro pc ls st σ o h
    rcases ite_s h with ⟨rfl, h⟩ | ⟨_, h⟩
    · exact hs_M_sleeps_16 hKH _ _ _ _ h
    cases h) 296 92 _ _ _ _ h
set_option maxRecDepth 100000 in
theorem s_M_sleeps_16 {X : CXT} (hX : XM X) : ∀ n : Nat, ∀ (k0 : Nat) (v1 : Int32) (v2 : Int32) (v3 : Int32) (s : Mem) (o : Int32 × Mem), f_M_sleeps_16 n k0 v1 v2 v3 s = some o → BSnd X 2 345 (ovI o) 16 [some (.inr (.inr (12, k0))), some (.inl v1), some (.inl v2), some (.inl v3)] [] s := by
  intro n
  induction n with
  | zero => intro k0 v1 v2 v3 s o h; cases h
  | succ n ih =>
    intro k0 v1 v2 v3 s o h
    exact evC (chs := c_M_sleeps) (cuts := cu_M_sleeps) (G := fun pc ls st σ => if pc = 34 then hd_M_sleeps_34 (fun k0 v1 v2 v3 v4 v5 s => f_M_sleeps_34 (fun k0 v1 v2 v3 v4 s => f_M_sleeps_92 (fun k0 v1 v2 v3 s => f_M_sleeps_16 n k0 v1 v2 v3 s) k0 v1 v2 v3 v4 s) FU k0 v1 v2 v3 v4 v5 s) ls st σ else if pc = 92 then hd_M_sleeps_92 (fun k0 v1 v2 v3 v4 s => f_M_sleeps_92 (fun k0 v1 v2 v3 s => f_M_sleeps_16 n k0 v1 v2 v3 s) k0 v1 v2 v3 v4 s) ls st σ else if pc = 16 then hd_M_sleeps_16 (fun k0 v1 v2 v3 s => f_M_sleeps_16 n k0 v1 v2 v3 s) ls st σ else none) hX.2.1 hX.2.2 (F := F_M_sleeps _) (fs_M_sleeps hX _) (rt_I rfl) oc_M_sleeps (by
    intro pc ls st σ o h
    rcases ite_s h with ⟨rfl, h⟩ | ⟨_, h⟩
    · exact hs_M_sleeps_34 (s_M_sleeps_34 hX (s_M_sleeps_92 hX ih) FU) _ _ _ _ h
    rcases ite_s h with ⟨rfl, h⟩ | ⟨_, h⟩
    · exact hs_M_sleeps_92 (s_M_sleeps_92 hX ih) _ _ _ _ h
    rcases ite_s h with ⟨rfl, h⟩ | ⟨_, h⟩
    · exact hs_M_sleeps_16 ih _ _ _ _ h
    cases h) 296 16 _ _ _ _ h
set_option maxRecDepth 100000 in
theorem s_M_sleeps {X : CXT} (hX : XM X) : ∀ (k0 : Nat) (v1 : Int32) (s : Mem) (o : Int32 × Mem), f_M_sleeps k0 v1 s = some o → BSnd X 2 345 (ovI o) 0 (entL [.inr (.inr (12, k0)), .inl v1]) [] s := by
  intro k0 v1 s o h
  rw [f_M_sleeps_eq] at h
  exact evC (chs := c_M_sleeps) (cuts := cu_M_sleeps) (G := fun pc ls st σ => if pc = 16 then hd_M_sleeps_16 (fun k0 v1 v2 v3 s => f_M_sleeps_16 FU k0 v1 v2 v3 s) ls st σ else none) hX.2.1 hX.2.2 (F := F_M_sleeps _) (fs_M_sleeps hX _) (rt_I rfl) oc_M_sleeps (by
    intro pc ls st σ o h
    rcases ite_s h with ⟨rfl, h⟩ | ⟨_, h⟩
    · exact hs_M_sleeps_16 (s_M_sleeps_16 hX FU) _ _ _ _ h
    cases h) 296 0 _ _ _ _ h
theorem ok_M_sleeps {X : CXT} (hX : XM X) : SemOK X 2 345 sm_M_sleeps := by
  intro O av σ K o h
  unfold sm_M_sleeps at h
  split at h
  · obtain ⟨r, hf, h⟩ := Option.bind_eq_some_iff.mp h
    exact ⟨ovI r, fun ht => sp_of hX.1 (by decide) (List.mem_range.mpr (by decide)) (by decide +kernel) ht (Nat.le_of_ble_eq_true rfl) (s_M_sleeps hX _ _ _ _ hf), trivial, h⟩
  · cases h
noncomputable def b_M_third (v0 : Int32) (s : Mem) : Option (Int32 × Mem) :=
  some ((v0 + ((2 : Int32))) / ((3 : Int32)), s)
noncomputable def f_M_third : Int32 → Mem → Option (Int32 × Mem) := Classical.choose (⟨b_M_third, rfl⟩ : ∃ f : Int32 → Mem → Option (Int32 × Mem), f = b_M_third)
theorem f_M_third_eq : f_M_third = b_M_third := Classical.choose_spec (⟨b_M_third, rfl⟩ : ∃ f : Int32 → Mem → Option (Int32 × Mem), f = b_M_third)
noncomputable def sm_M_third (O : Type) (av : List AV) (σ : Mem) (K : AV → Mem → Option O) : Option O := match av with
  | [.inl v0] => (f_M_third v0 σ).bind fun r => K (.inl r.1) r.2
  | _ => none
def c_M_third : List (List CE) := [[(0, .iload_n 0, 1, 0, 0, 0), (1, .iconst 2, 1, 2, 0, 0), (2, .iadd, 1, 0, 0, 0), (3, .iconst 3, 1, 3, 0, 0), (4, .idiv, 1, 0, 0, 0), (5, .ireturn, 1, 0, 0, 0)]]
set_option maxRecDepth 100000 in
theorem oc_M_third : okC 347 c_M_third = true := by decide +kernel
def cu_M_third : List (Nat × List Bool) := []
noncomputable def F_M_third (O : Type) (a : Nat) (av : List AV) (σ : Mem) (K : AV → Mem → Option O) : Option O := none
theorem fs_M_third {X : CXT} (hX : XM X) (O : Type) : FS X 1 (F_M_third O) := by
  intro a av σ K o h
  cases h
set_option maxRecDepth 100000 in
theorem s_M_third {X : CXT} (hX : XM X) : ∀ (v0 : Int32) (s : Mem) (o : Int32 × Mem), f_M_third v0 s = some o → BSnd X 1 347 (ovI o) 0 (entL [.inl v0]) [] s := by
  intro v0 s o h
  rw [f_M_third_eq] at h
  exact evC (chs := c_M_third) (cuts := cu_M_third) (G := fun pc ls st σ => none) hX.2.1 hX.2.2 (F := F_M_third _) (fs_M_third hX _) (rt_I rfl) oc_M_third (by
    intro pc ls st σ o h
    cases h) 64 0 _ _ _ _ h
theorem ok_M_third {X : CXT} (hX : XM X) : SemOK X 1 347 sm_M_third := by
  intro O av σ K o h
  unfold sm_M_third at h
  split at h
  · obtain ⟨r, hf, h⟩ := Option.bind_eq_some_iff.mp h
    exact ⟨ovI r, fun ht => sp_of hX.1 (by decide) (List.mem_range.mpr (by decide)) (by decide +kernel) ht (Nat.le_of_ble_eq_true rfl) (s_M_third hX _ _ _ hf), trivial, h⟩
  · cases h
noncomputable def f_M_game_51 (K78 : Nat → Int32 → Int32 → Mem → Option (Int32 × Mem)) : Nat → Nat → Int32 → Int32 → Int32 → Mem → Option (Int32 × Mem)
  | 0, _, _, _, _, _ => none
  | n + 1, k0, v1, v2, v3, s =>
    gd (inb v2 (lenM (k0 + 15))) <|
    cif (((v3 >>> ((rI s (k0 + 15) (ix v2)) &&& 31)) &&& ((1 : Int32))) = ((1 : Int32))) (
      gd (inb v2 (lenM (k0 + 15))) <|
      gd (inb v2 (lenM (k0 + 15))) <|
      let s1 : Mem := wI s (k0 + 15) (ix v2) ((rI s (k0 + 15) (ix v2)) + ((1 : Int32)))
      f_M_game_51 K78 n k0 v1 v2 v3 s1) (
      K78 k0 v1 v2 s)
noncomputable def f_M_game_78 (KH : Nat → Int32 → Int32 → Mem → Option (Int32 × Mem)) (K84 : Nat → Int32 → Mem → Option (Int32 × Mem)) (k0 : Nat) (v1 : Int32) (v2 : Int32) (s : Mem) : Option (Int32 × Mem) :=
  KH k0 v1 (v2 + (1 : Int32)) s
noncomputable def f_M_game_13 (K84 : Nat → Int32 → Mem → Option (Int32 × Mem)) : Nat → Nat → Int32 → Int32 → Mem → Option (Int32 × Mem)
  | 0, _, _, _, _ => none
  | n + 1, k0, v1, v2, s =>
    cif (((10 : Int32)) ≤ v2) (
      K84 k0 v1 s) (
      gd (inb (v2 - ((1 : Int32))) (lenM (k0 + 15))) <|
      (f_M_third v2 s).bind fun r1 =>
      gd (inb (v2 - r1.1) (lenM (k0 + 15))) <|
      let x2 : Int32 := (((1 : Int32)) <<< ((rI s (k0 + 15) (ix (v2 - ((1 : Int32))))) &&& 31)) ||| (((1 : Int32)) <<< ((rI r1.2 (k0 + 15) (ix (v2 - r1.1))) &&& 31))
      gd (inb v2 (lenM (k0 + 15))) <|
      let s3 : Mem := wI r1.2 (k0 + 15) (ix v2) ((0 : Int32))
      f_M_game_51 (fun k0 v1 v2 s => f_M_game_78 (fun k0 v1 v2 s => f_M_game_13 K84 n k0 v1 v2 s) K84 k0 v1 v2 s) FU k0 v1 v2 x2 s3)
noncomputable def f_M_game_88 (K122 : Nat → Int32 → Int32 → Mem → Option (Int32 × Mem)) : Nat → Nat → Int32 → Int32 → Int32 → Mem → Option (Int32 × Mem)
  | 0, _, _, _, _, _ => none
  | n + 1, k0, v1, v2, v3, s =>
    gd (inb ((49 : Int32)) (lenM (k0 + 1))) <|
    cif ((rI s (k0 + 1) (ix ((49 : Int32)))) ≤ v3) (
      K122 k0 v1 v2 s) (
      gd (inb (((62 : Int32)) + v3) (lenM (k0 + 1))) <|
      gd (inb (rI s (k0 + 1) (ix (((62 : Int32)) + v3))) (lenM (k0 + 15))) <|
      let x1 : Int32 := v2 ^^^ (rI s (k0 + 15) (ix (rI s (k0 + 1) (ix (((62 : Int32)) + v3)))))
      f_M_game_88 K122 n k0 v1 x1 (v3 + (1 : Int32)) s)
noncomputable def f_M_game_124 (K167 : Int32 → Int32 → Mem → Option (Int32 × Mem)) (K202 : Int32 → Int32 → Int32 → Mem → Option (Int32 × Mem)) : Nat → Nat → Int32 → Int32 → Int32 → Mem → Option (Int32 × Mem)
  | 0, _, _, _, _, _ => none
  | n + 1, k0, v1, v2, v3, s =>
    gd (inb ((49 : Int32)) (lenM (k0 + 1))) <|
    cif ((rI s (k0 + 1) (ix ((49 : Int32)))) ≤ v3) (
      some ((-1 : Int32), s)) (
      gd (inb (((62 : Int32)) + v3) (lenM (k0 + 1))) <|
      let x1 : Int32 := rI s (k0 + 1) (ix (((62 : Int32)) + v3))
      gd (inb x1 (lenM (k0 + 15))) <|
      gd (inb (x1 - ((1 : Int32))) (lenM (k0 + 15))) <|
      cif ((v2 ^^^ (rI s (k0 + 15) (ix x1))) = (rI s (k0 + 15) (ix (x1 - ((1 : Int32)))))) (
        K167 v1 v3 s) (
        gd (inb x1 (lenM (k0 + 15))) <|
        (f_M_third x1 s).bind fun r2 =>
        gd (inb (x1 - r2.1) (lenM (k0 + 15))) <|
        cif ((v2 ^^^ (rI s (k0 + 15) (ix x1))) = (rI r2.2 (k0 + 15) (ix (x1 - r2.1)))) (
          K202 v1 v3 x1 r2.2) (
          f_M_game_124 K167 K202 n k0 v1 v2 (v3 + (1 : Int32)) r2.2)))
noncomputable def f_M_game_167 (v1 : Int32) (v3 : Int32) (s : Mem) : Option (Int32 × Mem) :=
  cif (v1 = 0) (
    some (v3, s)) (
    some ((1 : Int32), s))
noncomputable def f_M_game_202 (v1 : Int32) (v3 : Int32) (v4 : Int32) (s : Mem) : Option (Int32 × Mem) :=
  cif (v1 = 0) (
    some (v3, s)) (
    (f_M_third v4 s).bind fun r1 =>
    some (r1.1, r1.2))
noncomputable def f_M_game_122 (k0 : Nat) (v1 : Int32) (v2 : Int32) (s : Mem) : Option (Int32 × Mem) :=
  f_M_game_124 (fun v1 v3 s => f_M_game_167 v1 v3 s) (fun v1 v3 v4 s => f_M_game_202 v1 v3 v4 s) FU k0 v1 v2 ((0 : Int32)) s
noncomputable def f_M_game_84 (k0 : Nat) (v1 : Int32) (s : Mem) : Option (Int32 × Mem) :=
  f_M_game_88 (fun k0 v1 v2 s => f_M_game_122 k0 v1 v2 s) FU k0 v1 ((0 : Int32)) ((0 : Int32)) s
noncomputable def b_M_game (k0 : Nat) (v1 : Int32) (s : Mem) : Option (Int32 × Mem) :=
  (f_M_isIn v1 ((0 : Int32)) ((1 : Int32)) s).bind fun r1 =>
  cif ((b2i r1.1) = 0) (
    some ((-1 : Int32), r1.2)) (
    f_M_game_13 (fun k0 v1 s => f_M_game_84 k0 v1 s) FU k0 v1 ((1 : Int32)) r1.2)
noncomputable def f_M_game : Nat → Int32 → Mem → Option (Int32 × Mem) := Classical.choose (⟨b_M_game, rfl⟩ : ∃ f : Nat → Int32 → Mem → Option (Int32 × Mem), f = b_M_game)
theorem f_M_game_eq : f_M_game = b_M_game := Classical.choose_spec (⟨b_M_game, rfl⟩ : ∃ f : Nat → Int32 → Mem → Option (Int32 × Mem), f = b_M_game)
noncomputable def sm_M_game (O : Type) (av : List AV) (σ : Mem) (K : AV → Mem → Option O) : Option O := match av with
  | [.inr (.inr (12, k0)), .inl v1] => (f_M_game k0 v1 σ).bind fun r => K (.inl r.1) r.2
  | _ => none
def c_M_game : List (List CE) := [[(0, .iload_n 1, 1, 0, 0, 0), (1, .iconst 0, 1, 0, 0, 0), (2, .iconst 1, 1, 1, 0, 0), (3, .invokestatic 60, 3, 230, 3, 1), (6, .ifCond .ne 5, 3, 11, 0, 0), (9, .iconst (-1), 1, 1, 0, 1), (10, .ireturn, 1, 0, 0, 0), (11, .iconst 1, 1, 1, 0, 0), (12, .istore_n 2, 1, 0, 0, 0), (13, .iload_n 2, 1, 0, 0, 0), (14, .bipush 10, 2, 10, 0, 0)], [(16, .if_icmp .ge 68, 3, 84, 0, 0), (19, .iconst 1, 1, 1, 0, 0), (20, .aload_n 0, 1, 0, 0, 0), (21, .getfield 57, 3, 12, 33, 0), (24, .iload_n 2, 1, 0, 0, 0), (25, .iconst 1, 1, 1, 0, 0), (26, .isub, 1, 0, 0, 0), (27, .iaload, 1, 0, 0, 0), (28, .ishl, 1, 0, 0, 0), (29, .iconst 1, 1, 1, 0, 0), (30, .aload_n 0, 1, 0, 0, 0), (31, .getfield 57, 3, 12, 33, 0)], [(34, .iload_n 2, 1, 0, 0, 0), (35, .iload_n 2, 1, 0, 0, 0), (36, .invokestatic 440, 3, 347, 1, 1), (39, .isub, 1, 0, 0, 0), (40, .iaload, 1, 0, 0, 0), (41, .ishl, 1, 0, 0, 0), (42, .ior, 1, 0, 0, 0), (43, .istore_n 3, 1, 0, 0, 0), (44, .aload_n 0, 1, 0, 0, 0), (45, .getfield 57, 3, 12, 33, 0)], [(48, .iload_n 2, 1, 0, 0, 0), (49, .iconst 0, 1, 0, 0, 0), (50, .iastore, 1, 0, 0, 0), (51, .iload_n 3, 1, 0, 0, 0), (52, .aload_n 0, 1, 0, 0, 0), (53, .getfield 57, 3, 12, 33, 0), (56, .iload_n 2, 1, 0, 0, 0), (57, .iaload, 1, 0, 0, 0), (58, .ishr, 1, 0, 0, 0), (59, .iconst 1, 1, 1, 0, 0), (60, .iand, 1, 0, 0, 0), (61, .iconst 1, 1, 1, 0, 0), (62, .if_icmp .ne 16, 3, 78, 0, 0)], [(65, .aload_n 0, 1, 0, 0, 0), (66, .getfield 57, 3, 12, 33, 0), (69, .iload_n 2, 1, 0, 0, 0), (70, .dup2, 1, 0, 0, 0), (71, .iaload, 1, 0, 0, 0), (72, .iconst 1, 1, 1, 0, 0), (73, .iadd, 1, 0, 0, 0), (74, .iastore, 1, 0, 0, 0), (75, .goto (-24), 3, 51, 0, 0), (78, .iinc 2 1, 3, 1, 0, 0)], [(81, .goto (-68), 3, 13, 0, 0), (84, .iconst 0, 1, 0, 0, 0), (85, .istore_n 2, 1, 0, 0, 0), (86, .iconst 0, 1, 0, 0, 0), (87, .istore_n 3, 1, 0, 0, 0), (88, .iload_n 3, 1, 0, 0, 0), (89, .aload_n 0, 1, 0, 0, 0), (90, .getfield 7, 3, 12, 0, 0), (93, .bipush 49, 2, 49, 0, 0), (95, .iaload, 1, 0, 0, 0)], [(96, .if_icmp .ge 26, 3, 122, 0, 0), (99, .iload_n 2, 1, 0, 0, 0), (100, .aload_n 0, 1, 0, 0, 0), (101, .getfield 57, 3, 12, 33, 0), (104, .aload_n 0, 1, 0, 0, 0), (105, .getfield 7, 3, 12, 0, 0), (108, .bipush 62, 2, 62, 0, 0), (110, .iload_n 3, 1, 0, 0, 0), (111, .iadd, 1, 0, 0, 0)], [(112, .iaload, 1, 0, 0, 0), (113, .iaload, 1, 0, 0, 0), (114, .ixor, 1, 0, 0, 0), (115, .istore_n 2, 1, 0, 0, 0), (116, .iinc 3 1, 3, 1, 0, 0), (119, .goto (-31), 3, 88, 0, 0), (122, .iconst 0, 1, 0, 0, 0), (123, .istore_n 3, 1, 0, 0, 0), (124, .iload_n 3, 1, 0, 0, 0), (125, .aload_n 0, 1, 0, 0, 0), (126, .getfield 7, 3, 12, 0, 0)], [(129, .bipush 49, 2, 49, 0, 0), (131, .iaload, 1, 0, 0, 0), (132, .if_icmp .ge 90, 3, 222, 0, 0), (135, .aload_n 0, 1, 0, 0, 0), (136, .getfield 7, 3, 12, 0, 0), (139, .bipush 62, 2, 62, 0, 0), (141, .iload_n 3, 1, 0, 0, 0), (142, .iadd, 1, 0, 0, 0), (143, .iaload, 1, 0, 0, 0)], [(144, .istore 4, 2, 0, 0, 0), (146, .iload_n 2, 1, 0, 0, 0), (147, .aload_n 0, 1, 0, 0, 0), (148, .getfield 57, 3, 12, 33, 0), (151, .iload 4, 2, 0, 0, 0), (153, .iaload, 1, 0, 0, 0), (154, .ixor, 1, 0, 0, 0), (155, .aload_n 0, 1, 0, 0, 0), (156, .getfield 57, 3, 12, 33, 0), (159, .iload 4, 2, 0, 0, 0)], [(161, .iconst 1, 1, 1, 0, 0), (162, .isub, 1, 0, 0, 0), (163, .iaload, 1, 0, 0, 0), (164, .if_icmp .ne 13, 3, 177, 0, 0), (167, .iload_n 1, 1, 0, 0, 0), (168, .ifCond .ne 7, 3, 175, 0, 0), (171, .iload_n 3, 1, 0, 0, 0), (172, .goto 4, 3, 176, 0, 0), (175, .iconst 1, 1, 1, 0, 0)], [(176, .ireturn, 1, 0, 0, 0), (177, .iload_n 2, 1, 0, 0, 0), (178, .aload_n 0, 1, 0, 0, 0), (179, .getfield 57, 3, 12, 33, 0), (182, .iload 4, 2, 0, 0, 0), (184, .iaload, 1, 0, 0, 0), (185, .ixor, 1, 0, 0, 0), (186, .aload_n 0, 1, 0, 0, 0), (187, .getfield 57, 3, 12, 33, 0), (190, .iload 4, 2, 0, 0, 0)], [(192, .iload 4, 2, 0, 0, 0), (194, .invokestatic 440, 3, 347, 1, 1), (197, .isub, 1, 0, 0, 0), (198, .iaload, 1, 0, 0, 0), (199, .if_icmp .ne 17, 3, 216, 0, 0), (202, .iload_n 1, 1, 0, 0, 0), (203, .ifCond .ne 7, 3, 210, 0, 0), (206, .iload_n 3, 1, 0, 0, 0), (207, .goto 8, 3, 215, 0, 0)], [(210, .iload 4, 2, 0, 0, 0), (212, .invokestatic 440, 3, 347, 1, 1), (215, .ireturn, 1, 0, 0, 0), (216, .iinc 3 1, 3, 1, 0, 0), (219, .goto (-95), 3, 124, 0, 0), (222, .iconst (-1), 1, 1, 0, 1), (223, .ireturn, 1, 0, 0, 0)]]
set_option maxRecDepth 100000 in
theorem oc_M_game : okC 346 c_M_game = true := by decide +kernel
def cu_M_game : List (Nat × List Bool) := [(51, [true, true, true, true]), (78, [true, true, true]), (13, [true, true, true]), (88, [true, true, true, true]), (124, [true, true, true, true]), (167, [false, true, false, true]), (202, [false, true, false, true, true]), (122, [true, true, true]), (84, [true, true])]
noncomputable def F_M_game (O : Type) (a : Nat) (av : List AV) (σ : Mem) (K : AV → Mem → Option O) : Option O := if a = 230 then sm_M_isIn O av σ K else if a = 347 then sm_M_third O av σ K else none
theorem fs_M_game {X : CXT} (hX : XM X) (O : Type) : FS X 2 (F_M_game O) := by
  intro a av σ K o h
  unfold F_M_game at h
  rcases ite_s h with ⟨rfl, h⟩ | ⟨_, h⟩
  · obtain ⟨r, h1, h2, h3⟩ := ok_M_isIn hX _ _ _ _ _ h
    exact ⟨r, fun ht => ⟨1, by decide, h1 ht⟩, h2, h3⟩
  rcases ite_s h with ⟨rfl, h⟩ | ⟨_, h⟩
  · obtain ⟨r, h1, h2, h3⟩ := ok_M_third hX _ _ _ _ _ h
    exact ⟨r, fun ht => ⟨1, by decide, h1 ht⟩, h2, h3⟩
  cases h
def hd_M_game_51 {O : Type} (g : Nat → Int32 → Int32 → Int32 → Mem → Option O) (ls : OL) (st : List AV) (σ : Mem) : Option O := match ls, st with
  | [some (.inr (.inr (12, k0))), some (.inl v1), some (.inl v2), some (.inl v3)], [] => g k0 v1 v2 v3 σ
  | _, _ => none
theorem hs_M_game_51 {X : CXT} {g : Nat → Int32 → Int32 → Int32 → Mem → Option (Int32 × Mem)} (hg : ∀ (k0 : Nat) (v1 : Int32) (v2 : Int32) (v3 : Int32) (s : Mem) (o : Int32 × Mem), g k0 v1 v2 v3 s = some o → BSnd X 2 346 (ovI o) 51 [some (.inr (.inr (12, k0))), some (.inl v1), some (.inl v2), some (.inl v3)] [] s) : ∀ ls st σ o, hd_M_game_51 g ls st σ = some o → BSnd X 2 346 (ovI o) 51 ls st σ := by
  intro ls st σ o h
  unfold hd_M_game_51 at h
  split at h
  · exact hg _ _ _ _ _ _ h
  · cases h
def hd_M_game_78 {O : Type} (g : Nat → Int32 → Int32 → Mem → Option O) (ls : OL) (st : List AV) (σ : Mem) : Option O := match ls, st with
  | [some (.inr (.inr (12, k0))), some (.inl v1), some (.inl v2)], [] => g k0 v1 v2 σ
  | _, _ => none
theorem hs_M_game_78 {X : CXT} {g : Nat → Int32 → Int32 → Mem → Option (Int32 × Mem)} (hg : ∀ (k0 : Nat) (v1 : Int32) (v2 : Int32) (s : Mem) (o : Int32 × Mem), g k0 v1 v2 s = some o → BSnd X 2 346 (ovI o) 78 [some (.inr (.inr (12, k0))), some (.inl v1), some (.inl v2)] [] s) : ∀ ls st σ o, hd_M_game_78 g ls st σ = some o → BSnd X 2 346 (ovI o) 78 ls st σ := by
  intro ls st σ o h
  unfold hd_M_game_78 at h
  split at h
  · exact hg _ _ _ _ _ h
  · cases h
def hd_M_game_13 {O : Type} (g : Nat → Int32 → Int32 → Mem → Option O) (ls : OL) (st : List AV) (σ : Mem) : Option O := match ls, st with
  | [some (.inr (.inr (12, k0))), some (.inl v1), some (.inl v2)], [] => g k0 v1 v2 σ
  | _, _ => none
theorem hs_M_game_13 {X : CXT} {g : Nat → Int32 → Int32 → Mem → Option (Int32 × Mem)} (hg : ∀ (k0 : Nat) (v1 : Int32) (v2 : Int32) (s : Mem) (o : Int32 × Mem), g k0 v1 v2 s = some o → BSnd X 2 346 (ovI o) 13 [some (.inr (.inr (12, k0))), some (.inl v1), some (.inl v2)] [] s) : ∀ ls st σ o, hd_M_game_13 g ls st σ = some o → BSnd X 2 346 (ovI o) 13 ls st σ := by
  intro ls st σ o h
  unfold hd_M_game_13 at h
  split at h
  · exact hg _ _ _ _ _ h
  · cases h
def hd_M_game_88 {O : Type} (g : Nat → Int32 → Int32 → Int32 → Mem → Option O) (ls : OL) (st : List AV) (σ : Mem) : Option O := match ls, st with
  | [some (.inr (.inr (12, k0))), some (.inl v1), some (.inl v2), some (.inl v3)], [] => g k0 v1 v2 v3 σ
  | _, _ => none
theorem hs_M_game_88 {X : CXT} {g : Nat → Int32 → Int32 → Int32 → Mem → Option (Int32 × Mem)} (hg : ∀ (k0 : Nat) (v1 : Int32) (v2 : Int32) (v3 : Int32) (s : Mem) (o : Int32 × Mem), g k0 v1 v2 v3 s = some o → BSnd X 2 346 (ovI o) 88 [some (.inr (.inr (12, k0))), some (.inl v1), some (.inl v2), some (.inl v3)] [] s) : ∀ ls st σ o, hd_M_game_88 g ls st σ = some o → BSnd X 2 346 (ovI o) 88 ls st σ := by
  intro ls st σ o h
  unfold hd_M_game_88 at h
  split at h
  · exact hg _ _ _ _ _ _ h
  · cases h
def hd_M_game_124 {O : Type} (g : Nat → Int32 → Int32 → Int32 → Mem → Option O) (ls : OL) (st : List AV) (σ : Mem) : Option O := match ls, st with
  | [some (.inr (.inr (12, k0))), some (.inl v1), some (.inl v2), some (.inl v3)], [] => g k0 v1 v2 v3 σ
  | _, _ => none
theorem hs_M_game_124 {X : CXT} {g : Nat → Int32 → Int32 → Int32 → Mem → Option (Int32 × Mem)} (hg : ∀ (k0 : Nat) (v1 : Int32) (v2 : Int32) (v3 : Int32) (s : Mem) (o : Int32 × Mem), g k0 v1 v2 v3 s = some o → BSnd X 2 346 (ovI o) 124 [some (.inr (.inr (12, k0))), some (.inl v1), some (.inl v2), some (.inl v3)] [] s) : ∀ ls st σ o, hd_M_game_124 g ls st σ = some o → BSnd X 2 346 (ovI o) 124 ls st σ := by
  intro ls st σ o h
  unfold hd_M_game_124 at h
  split at h
  · exact hg _ _ _ _ _ _ h
  · cases h
def hd_M_game_167 {O : Type} (g : Int32 → Int32 → Mem → Option O) (ls : OL) (st : List AV) (σ : Mem) : Option O := match ls, st with
  | [none, some (.inl v1), none, some (.inl v3)], [] => g v1 v3 σ
  | _, _ => none
theorem hs_M_game_167 {X : CXT} {g : Int32 → Int32 → Mem → Option (Int32 × Mem)} (hg : ∀ (v1 : Int32) (v3 : Int32) (s : Mem) (o : Int32 × Mem), g v1 v3 s = some o → BSnd X 2 346 (ovI o) 167 [none, some (.inl v1), none, some (.inl v3)] [] s) : ∀ ls st σ o, hd_M_game_167 g ls st σ = some o → BSnd X 2 346 (ovI o) 167 ls st σ := by
  intro ls st σ o h
  unfold hd_M_game_167 at h
  split at h
  · exact hg _ _ _ _ h
  · cases h
def hd_M_game_202 {O : Type} (g : Int32 → Int32 → Int32 → Mem → Option O) (ls : OL) (st : List AV) (σ : Mem) : Option O := match ls, st with
  | [none, some (.inl v1), none, some (.inl v3), some (.inl v4)], [] => g v1 v3 v4 σ
  | _, _ => none
theorem hs_M_game_202 {X : CXT} {g : Int32 → Int32 → Int32 → Mem → Option (Int32 × Mem)} (hg : ∀ (v1 : Int32) (v3 : Int32) (v4 : Int32) (s : Mem) (o : Int32 × Mem), g v1 v3 v4 s = some o → BSnd X 2 346 (ovI o) 202 [none, some (.inl v1), none, some (.inl v3), some (.inl v4)] [] s) : ∀ ls st σ o, hd_M_game_202 g ls st σ = some o → BSnd X 2 346 (ovI o) 202 ls st σ := by
  intro ls st σ o h
  unfold hd_M_game_202 at h
  split at h
  · exact hg _ _ _ _ _ h
  · cases h
def hd_M_game_122 {O : Type} (g : Nat → Int32 → Int32 → Mem → Option O) (ls : OL) (st : List AV) (σ : Mem) : Option O := match ls, st with
  | [some (.inr (.inr (12, k0))), some (.inl v1), some (.inl v2)], [] => g k0 v1 v2 σ
  | _, _ => none
theorem hs_M_game_122 {X : CXT} {g : Nat → Int32 → Int32 → Mem → Option (Int32 × Mem)} (hg : ∀ (k0 : Nat) (v1 : Int32) (v2 : Int32) (s : Mem) (o : Int32 × Mem), g k0 v1 v2 s = some o → BSnd X 2 346 (ovI o) 122 [some (.inr (.inr (12, k0))), some (.inl v1), some (.inl v2)] [] s) : ∀ ls st σ o, hd_M_game_122 g ls st σ = some o → BSnd X 2 346 (ovI o) 122 ls st σ := by
  intro ls st σ o h
  unfold hd_M_game_122 at h
  split at h
  · exact hg _ _ _ _ _ h
  · cases h
def hd_M_game_84 {O : Type} (g : Nat → Int32 → Mem → Option O) (ls : OL) (st : List AV) (σ : Mem) : Option O := match ls, st with
  | [some (.inr (.inr (12, k0))), some (.inl v1)], [] => g k0 v1 σ
  | _, _ => none
theorem hs_M_game_84 {X : CXT} {g : Nat → Int32 → Mem → Option (Int32 × Mem)} (hg : ∀ (k0 : Nat) (v1 : Int32) (s : Mem) (o : Int32 × Mem), g k0 v1 s = some o → BSnd X 2 346 (ovI o) 84 [some (.inr (.inr (12, k0))), some (.inl v1)] [] s) : ∀ ls st σ o, hd_M_game_84 g ls st σ = some o → BSnd X 2 346 (ovI o) 84 ls st σ := by
  intro ls st σ o h
  unfold hd_M_game_84 at h
  split at h
  · exact hg _ _ _ _ h
  · cases h
set_option maxRecDepth 100000 in
theorem s_M_game_51 {X : CXT} (hX : XM X) {K78 : Nat → Int32 → Int32 → Mem → Option (Int32 × Mem)} (hK78 : ∀ (k0 : Nat) (v1 : Int32) (v2 : Int32) (s : Mem) (o : Int32 × Mem), K78 k0 v1 v2 s = some o → BSnd X 2 346 (ovI o) 78 [some (.inr (.inr (12, k0))), some (.inl v1), some (.inl v2)] [] s) : ∀ n : Nat, ∀ (k0 : Nat) (v1 : Int32) (v2 : Int32) (v3 : Int32) (s : Mem) (o : Int32 × Mem), f_M_game_51 K78 n k0 v1 v2 v3 s = some o → BSnd X 2 346 (ovI o) 51 [some (.inr (.inr (12, k0))), some (.inl v1), some (.inl v2), some (.inl v3)] [] s := by
  intro n
  induction n with
  | zero => intro k0 v1 v2 v3 s o h; cases h
  | succ n ih =>
    intro k0 v1 v2 v3 s o h
    exact evC (chs := c_M_game) (cuts := cu_M_game) (G := fun pc ls st σ => if pc = 51 then hd_M_game_51 (fun k0 v1 v2 v3 s => f_M_game_51 K78 n k0 v1 v2 v3 s) ls st σ else if pc = 78 then hd_M_game_78 (fun k0 v1 v2 s => K78 k0 v1 v2 s) ls st σ else none) hX.2.1 hX.2.2 (F := F_M_game _) (fs_M_game hX _) (rt_I rfl) oc_M_game (by
    intro pc ls st σ o h
    rcases ite_s h with ⟨rfl, h⟩ | ⟨_, h⟩
    · exact hs_M_game_51 ih _ _ _ _ h
    rcases ite_s h with ⟨rfl, h⟩ | ⟨_, h⟩
    · exact hs_M_game_78 hK78 _ _ _ _ h
    cases h) 600 51 _ _ _ _ h
set_option maxRecDepth 100000 in
theorem s_M_game_78 {X : CXT} (hX : XM X) {KH : Nat → Int32 → Int32 → Mem → Option (Int32 × Mem)} {K84 : Nat → Int32 → Mem → Option (Int32 × Mem)} (hKH : ∀ (k0 : Nat) (v1 : Int32) (v2 : Int32) (s : Mem) (o : Int32 × Mem), KH k0 v1 v2 s = some o → BSnd X 2 346 (ovI o) 13 [some (.inr (.inr (12, k0))), some (.inl v1), some (.inl v2)] [] s) (hK84 : ∀ (k0 : Nat) (v1 : Int32) (s : Mem) (o : Int32 × Mem), K84 k0 v1 s = some o → BSnd X 2 346 (ovI o) 84 [some (.inr (.inr (12, k0))), some (.inl v1)] [] s) : ∀ (k0 : Nat) (v1 : Int32) (v2 : Int32) (s : Mem) (o : Int32 × Mem), f_M_game_78 KH K84 k0 v1 v2 s = some o → BSnd X 2 346 (ovI o) 78 [some (.inr (.inr (12, k0))), some (.inl v1), some (.inl v2)] [] s := by
  intro k0 v1 v2 s o h
  exact evC (chs := c_M_game) (cuts := cu_M_game) (G := fun pc ls st σ => if pc = 13 then hd_M_game_13 (fun k0 v1 v2 s => KH k0 v1 v2 s) ls st σ else none) hX.2.1 hX.2.2 (F := F_M_game _) (fs_M_game hX _) (rt_I rfl) oc_M_game (by
    intro pc ls st σ o h
    rcases ite_s h with ⟨rfl, h⟩ | ⟨_, h⟩
    · exact hs_M_game_13 hKH _ _ _ _ h
    cases h) 600 78 _ _ _ _ h
set_option maxRecDepth 100000 in
theorem s_M_game_13 {X : CXT} (hX : XM X) {K84 : Nat → Int32 → Mem → Option (Int32 × Mem)} (hK84 : ∀ (k0 : Nat) (v1 : Int32) (s : Mem) (o : Int32 × Mem), K84 k0 v1 s = some o → BSnd X 2 346 (ovI o) 84 [some (.inr (.inr (12, k0))), some (.inl v1)] [] s) : ∀ n : Nat, ∀ (k0 : Nat) (v1 : Int32) (v2 : Int32) (s : Mem) (o : Int32 × Mem), f_M_game_13 K84 n k0 v1 v2 s = some o → BSnd X 2 346 (ovI o) 13 [some (.inr (.inr (12, k0))), some (.inl v1), some (.inl v2)] [] s := by
  intro n
  induction n with
  | zero => intro k0 v1 v2 s o h; cases h
  | succ n ih =>
    intro k0 v1 v2 s o h
    exact evC (chs := c_M_game) (cuts := cu_M_game) (G := fun pc ls st σ => if pc = 51 then hd_M_game_51 (fun k0 v1 v2 v3 s => f_M_game_51 (fun k0 v1 v2 s => f_M_game_78 (fun k0 v1 v2 s => f_M_game_13 K84 n k0 v1 v2 s) K84 k0 v1 v2 s) FU k0 v1 v2 v3 s) ls st σ else if pc = 78 then hd_M_game_78 (fun k0 v1 v2 s => f_M_game_78 (fun k0 v1 v2 s => f_M_game_13 K84 n k0 v1 v2 s) K84 k0 v1 v2 s) ls st σ else if pc = 13 then hd_M_game_13 (fun k0 v1 v2 s => f_M_game_13 K84 n k0 v1 v2 s) ls st σ else if pc = 84 then hd_M_game_84 (fun k0 v1 s => K84 k0 v1 s) ls st σ else none) hX.2.1 hX.2.2 (F := F_M_game _) (fs_M_game hX _) (rt_I rfl) oc_M_game (by
    intro pc ls st σ o h
    rcases ite_s h with ⟨rfl, h⟩ | ⟨_, h⟩
    · exact hs_M_game_51 (s_M_game_51 hX (s_M_game_78 hX ih hK84) FU) _ _ _ _ h
    rcases ite_s h with ⟨rfl, h⟩ | ⟨_, h⟩
    · exact hs_M_game_78 (s_M_game_78 hX ih hK84) _ _ _ _ h
    rcases ite_s h with ⟨rfl, h⟩ | ⟨_, h⟩
    · exact hs_M_game_13 ih _ _ _ _ h
    rcases ite_s h with ⟨rfl, h⟩ | ⟨_, h⟩
    · exact hs_M_game_84 hK84 _ _ _ _ h
    cases h) 600 13 _ _ _ _ h
set_option maxRecDepth 100000 in
theorem s_M_game_88 {X : CXT} (hX : XM X) {K122 : Nat → Int32 → Int32 → Mem → Option (Int32 × Mem)} (hK122 : ∀ (k0 : Nat) (v1 : Int32) (v2 : Int32) (s : Mem) (o : Int32 × Mem), K122 k0 v1 v2 s = some o → BSnd X 2 346 (ovI o) 122 [some (.inr (.inr (12, k0))), some (.inl v1), some (.inl v2)] [] s) : ∀ n : Nat, ∀ (k0 : Nat) (v1 : Int32) (v2 : Int32) (v3 : Int32) (s : Mem) (o : Int32 × Mem), f_M_game_88 K122 n k0 v1 v2 v3 s = some o → BSnd X 2 346 (ovI o) 88 [some (.inr (.inr (12, k0))), some (.inl v1), some (.inl v2), some (.inl v3)] [] s := by
  intro n
  induction n with
  | zero => intro k0 v1 v2 v3 s o h; cases h
  | succ n ih =>
    intro k0 v1 v2 v3 s o h
    exact evC (chs := c_M_game) (cuts := cu_M_game) (G := fun pc ls st σ => if pc = 88 then hd_M_game_88 (fun k0 v1 v2 v3 s => f_M_game_88 K122 n k0 v1 v2 v3 s) ls st σ else if pc = 122 then hd_M_game_122 (fun k0 v1 v2 s => K122 k0 v1 v2 s) ls st σ else none) hX.2.1 hX.2.2 (F := F_M_game _) (fs_M_game hX _) (rt_I rfl) oc_M_game (by
    intro pc ls st σ o h
    rcases ite_s h with ⟨rfl, h⟩ | ⟨_, h⟩
    · exact hs_M_game_88 ih _ _ _ _ h
    rcases ite_s h with ⟨rfl, h⟩ | ⟨_, h⟩
    · exact hs_M_game_122 hK122 _ _ _ _ h
    cases h) 600 88 _ _ _ _ h
set_option maxRecDepth 100000 in
theorem s_M_game_124 {X : CXT} (hX : XM X) {K167 : Int32 → Int32 → Mem → Option (Int32 × Mem)} {K202 : Int32 → Int32 → Int32 → Mem → Option (Int32 × Mem)} (hK167 : ∀ (v1 : Int32) (v3 : Int32) (s : Mem) (o : Int32 × Mem), K167 v1 v3 s = some o → BSnd X 2 346 (ovI o) 167 [none, some (.inl v1), none, some (.inl v3)] [] s) (hK202 : ∀ (v1 : Int32) (v3 : Int32) (v4 : Int32) (s : Mem) (o : Int32 × Mem), K202 v1 v3 v4 s = some o → BSnd X 2 346 (ovI o) 202 [none, some (.inl v1), none, some (.inl v3), some (.inl v4)] [] s) : ∀ n : Nat, ∀ (k0 : Nat) (v1 : Int32) (v2 : Int32) (v3 : Int32) (s : Mem) (o : Int32 × Mem), f_M_game_124 K167 K202 n k0 v1 v2 v3 s = some o → BSnd X 2 346 (ovI o) 124 [some (.inr (.inr (12, k0))), some (.inl v1), some (.inl v2), some (.inl v3)] [] s := by
  intro n
  induction n with
  | zero => intro k0 v1 v2 v3 s o h; cases h
  | succ n ih =>
    intro k0 v1 v2 v3 s o h
    exact evC (chs := c_M_game) (cuts := cu_M_game) (G := fun pc ls st σ => if pc = 124 then hd_M_game_124 (fun k0 v1 v2 v3 s => f_M_game_124 K167 K202 n k0 v1 v2 v3 s) ls st σ else if pc = 167 then hd_M_game_167 (fun v1 v3 s => K167 v1 v3 s) ls st σ else if pc = 202 then hd_M_game_202 (fun v1 v3 v4 s => K202 v1 v3 v4 s) ls st σ else none) hX.2.1 hX.2.2 (F := F_M_game _) (fs_M_game hX _) (rt_I rfl) oc_M_game (by
    intro pc ls st σ o h
    rcases ite_s h with ⟨rfl, h⟩ | ⟨_, h⟩
    · exact hs_M_game_124 ih _ _ _ _ h
    rcases ite_s h with ⟨rfl, h⟩ | ⟨_, h⟩
    · exact hs_M_game_167 hK167 _ _ _ _ h
    rcases ite_s h with ⟨rfl, h⟩ | ⟨_, h⟩
    · exact hs_M_game_202 hK202 _ _ _ _ h
    cases h) 600 124 _ _ _ _ h
set_option maxRecDepth 100000 in
theorem s_M_game_167 {X : CXT} (hX : XM X) : ∀ (v1 : Int32) (v3 : Int32) (s : Mem) (o : Int32 × Mem), f_M_game_167 v1 v3 s = some o → BSnd X 2 346 (ovI o) 167 [none, some (.inl v1), none, some (.inl v3)] [] s := by
  intro v1 v3 s o h
  exact evC (chs := c_M_game) (cuts := cu_M_game) (G := fun pc ls st σ => none) hX.2.1 hX.2.2 (F := F_M_game _) (fs_M_game hX _) (rt_I rfl) oc_M_game (by
    intro pc ls st σ o h
    cases h) 600 167 _ _ _ _ h
set_option maxRecDepth 100000 in
theorem s_M_game_202 {X : CXT} (hX : XM X) : ∀ (v1 : Int32) (v3 : Int32) (v4 : Int32) (s : Mem) (o : Int32 × Mem), f_M_game_202 v1 v3 v4 s = some o → BSnd X 2 346 (ovI o) 202 [none, some (.inl v1), none, some (.inl v3), some (.inl v4)] [] s := by
  intro v1 v3 v4 s o h
  exact evC (chs := c_M_game) (cuts := cu_M_game) (G := fun pc ls st σ => none) hX.2.1 hX.2.2 (F := F_M_game _) (fs_M_game hX _) (rt_I rfl) oc_M_game (by
    intro pc ls st σ o h
    cases h) 600 202 _ _ _ _ h
set_option maxRecDepth 100000 in
theorem s_M_game_122 {X : CXT} (hX : XM X) : ∀ (k0 : Nat) (v1 : Int32) (v2 : Int32) (s : Mem) (o : Int32 × Mem), f_M_game_122 k0 v1 v2 s = some o → BSnd X 2 346 (ovI o) 122 [some (.inr (.inr (12, k0))), some (.inl v1), some (.inl v2)] [] s := by
  intro k0 v1 v2 s o h
  exact evC (chs := c_M_game) (cuts := cu_M_game) (G := fun pc ls st σ => if pc = 124 then hd_M_game_124 (fun k0 v1 v2 v3 s => f_M_game_124 (fun v1 v3 s => f_M_game_167 v1 v3 s) (fun v1 v3 v4 s => f_M_game_202 v1 v3 v4 s) FU k0 v1 v2 v3 s) ls st σ else if pc = 167 then hd_M_game_167 (fun v1 v3 s => f_M_game_167 v1 v3 s) ls st σ else if pc = 202 then hd_M_game_202 (fun v1 v3 v4 s => f_M_game_202 v1 v3 v4 s) ls st σ else none) hX.2.1 hX.2.2 (F := F_M_game _) (fs_M_game hX _) (rt_I rfl) oc_M_game (by
    intro pc ls st σ o h
    rcases ite_s h with ⟨rfl, h⟩ | ⟨_, h⟩
    · exact hs_M_game_124 (s_M_game_124 hX (s_M_game_167 hX) (s_M_game_202 hX) FU) _ _ _ _ h
    rcases ite_s h with ⟨rfl, h⟩ | ⟨_, h⟩
    · exact hs_M_game_167 (s_M_game_167 hX) _ _ _ _ h
    rcases ite_s h with ⟨rfl, h⟩ | ⟨_, h⟩
    · exact hs_M_game_202 (s_M_game_202 hX) _ _ _ _ h
    cases h) 600 122 _ _ _ _ h
set_option maxRecDepth 100000 in
theorem s_M_game_84 {X : CXT} (hX : XM X) : ∀ (k0 : Nat) (v1 : Int32) (s : Mem) (o : Int32 × Mem), f_M_game_84 k0 v1 s = some o → BSnd X 2 346 (ovI o) 84 [some (.inr (.inr (12, k0))), some (.inl v1)] [] s := by
  intro k0 v1 s o h
  exact evC (chs := c_M_game) (cuts := cu_M_game) (G := fun pc ls st σ => if pc = 88 then hd_M_game_88 (fun k0 v1 v2 v3 s => f_M_game_88 (fun k0 v1 v2 s => f_M_game_122 k0 v1 v2 s) FU k0 v1 v2 v3 s) ls st σ else if pc = 122 then hd_M_game_122 (fun k0 v1 v2 s => f_M_game_122 k0 v1 v2 s) ls st σ else none) hX.2.1 hX.2.2 (F := F_M_game _) (fs_M_game hX _) (rt_I rfl) oc_M_game (by
    intro pc ls st σ o h
    rcases ite_s h with ⟨rfl, h⟩ | ⟨_, h⟩
    · exact hs_M_game_88 (s_M_game_88 hX (s_M_game_122 hX) FU) _ _ _ _ h
    rcases ite_s h with ⟨rfl, h⟩ | ⟨_, h⟩
    · exact hs_M_game_122 (s_M_game_122 hX) _ _ _ _ h
    cases h) 600 84 _ _ _ _ h
set_option maxRecDepth 100000 in
theorem s_M_game {X : CXT} (hX : XM X) : ∀ (k0 : Nat) (v1 : Int32) (s : Mem) (o : Int32 × Mem), f_M_game k0 v1 s = some o → BSnd X 2 346 (ovI o) 0 (entL [.inr (.inr (12, k0)), .inl v1]) [] s := by
  intro k0 v1 s o h
  rw [f_M_game_eq] at h
  exact evC (chs := c_M_game) (cuts := cu_M_game) (G := fun pc ls st σ => if pc = 13 then hd_M_game_13 (fun k0 v1 v2 s => f_M_game_13 (fun k0 v1 s => f_M_game_84 k0 v1 s) FU k0 v1 v2 s) ls st σ else if pc = 84 then hd_M_game_84 (fun k0 v1 s => f_M_game_84 k0 v1 s) ls st σ else none) hX.2.1 hX.2.2 (F := F_M_game _) (fs_M_game hX _) (rt_I rfl) oc_M_game (by
    intro pc ls st σ o h
    rcases ite_s h with ⟨rfl, h⟩ | ⟨_, h⟩
    · exact hs_M_game_13 (s_M_game_13 hX (s_M_game_84 hX) FU) _ _ _ _ h
    rcases ite_s h with ⟨rfl, h⟩ | ⟨_, h⟩
    · exact hs_M_game_84 (s_M_game_84 hX) _ _ _ _ h
    cases h) 600 0 _ _ _ _ h
theorem ok_M_game {X : CXT} (hX : XM X) : SemOK X 2 346 sm_M_game := by
  intro O av σ K o h
  unfold sm_M_game at h
  split at h
  · obtain ⟨r, hf, h⟩ := Option.bind_eq_some_iff.mp h
    exact ⟨ovI r, fun ht => sp_of hX.1 (by decide) (List.mem_range.mpr (by decide)) (by decide +kernel) ht (Nat.le_of_ble_eq_true rfl) (s_M_game hX _ _ _ _ hf), trivial, h⟩
  · cases h
noncomputable def f_M_image_15 (K59 : Nat → Int32 → Mem → Option (Bool × Mem)) : Nat → Nat → Int32 → Int32 → Mem → Option (Bool × Mem)
  | 0, _, _, _, _ => none
  | n + 1, k0, v1, v2, s =>
    cif (((1850 : Int32)) ≤ v2) (
      K59 k0 v1 s) (
      cif (v1 = 0) (
        gd (inb v2 (lenM (k0 + 2))) <|
        gd (inb v2 (lenM (k0 + 1))) <|
        let s1 : Mem := wI s (k0 + 1) (ix v2) (rI s (k0 + 2) (ix v2))
        f_M_image_15 K59 n k0 v1 (v2 + (1 : Int32)) s1) (
        gd (inb v2 (lenM (k0 + 1))) <|
        gd (inb v2 (lenM (k0 + 2))) <|
        let s2 : Mem := wI s (k0 + 2) (ix v2) (rI s (k0 + 1) (ix v2))
        f_M_image_15 K59 n k0 v1 (v2 + (1 : Int32)) s2))
noncomputable def f_M_image_59 (k0 : Nat) (v1 : Int32) (s : Mem) : Option (Bool × Mem) :=
  cif (v1 = 0) (
    (f_M_forgets k0 s).bind fun r1 =>
    let s2 : Mem := wI r1 k0 5 ((1 : Int32))
    some (true, s2)) (
    let s3 : Mem := wI s k0 5 ((1 : Int32))
    some (true, s3))
noncomputable def b_M_image (k0 : Nat) (v1 : Int32) (s : Mem) : Option (Bool × Mem) :=
  cif (v1 = 0) (
    cif ((rI s k0 5) = 0) (
      some (false, s)) (
      f_M_image_15 (fun k0 v1 s => f_M_image_59 k0 v1 s) FU k0 v1 ((0 : Int32)) s)) (
    f_M_image_15 (fun k0 v1 s => f_M_image_59 k0 v1 s) FU k0 v1 ((0 : Int32)) s)
noncomputable def f_M_image : Nat → Int32 → Mem → Option (Bool × Mem) := Classical.choose (⟨b_M_image, rfl⟩ : ∃ f : Nat → Int32 → Mem → Option (Bool × Mem), f = b_M_image)
theorem f_M_image_eq : f_M_image = b_M_image := Classical.choose_spec (⟨b_M_image, rfl⟩ : ∃ f : Nat → Int32 → Mem → Option (Bool × Mem), f = b_M_image)
noncomputable def sm_M_image (O : Type) (av : List AV) (σ : Mem) (K : AV → Mem → Option O) : Option O := match av with
  | [.inr (.inr (12, k0)), .inl v1] => (f_M_image k0 v1 σ).bind fun r => K (.inl (b2i r.1)) r.2
  | _ => none
def c_M_image : List (List CE) := [[(0, .iload_n 1, 1, 0, 0, 0), (1, .ifCond .ne 12, 3, 13, 0, 0), (4, .aload_n 0, 1, 0, 0, 0), (5, .getfield 443, 3, 12, 5, 0), (8, .ifCond .ne 5, 3, 13, 0, 0), (11, .iconst 0, 1, 0, 0, 0), (12, .ireturn, 1, 0, 0, 0), (13, .iconst 0, 1, 0, 0, 0), (14, .istore_n 2, 1, 0, 0, 0), (15, .iload_n 2, 1, 0, 0, 0)], [(16, .sipush 1850, 3, 1850, 0, 0), (19, .if_icmp .ge 40, 3, 59, 0, 0), (22, .iload_n 1, 1, 0, 0, 0), (23, .ifCond .eq 18, 3, 41, 0, 0), (26, .aload_n 0, 1, 0, 0, 0), (27, .getfield 13, 3, 12, 1, 0), (30, .iload_n 2, 1, 0, 0, 0), (31, .aload_n 0, 1, 0, 0, 0)], [(32, .getfield 7, 3, 12, 0, 0), (35, .iload_n 2, 1, 0, 0, 0), (36, .iaload, 1, 0, 0, 0), (37, .iastore, 1, 0, 0, 0), (38, .goto 15, 3, 53, 0, 0), (41, .aload_n 0, 1, 0, 0, 0), (42, .getfield 7, 3, 12, 0, 0), (45, .iload_n 2, 1, 0, 0, 0), (46, .aload_n 0, 1, 0, 0, 0), (47, .getfield 13, 3, 12, 1, 0)], [(50, .iload_n 2, 1, 0, 0, 0), (51, .iaload, 1, 0, 0, 0), (52, .iastore, 1, 0, 0, 0), (53, .iinc 2 1, 3, 1, 0, 0), (56, .goto (-41), 3, 15, 0, 0), (59, .iload_n 1, 1, 0, 0, 0), (60, .ifCond .ne 7, 3, 67, 0, 0), (63, .aload_n 0, 1, 0, 0, 0)], [(64, .invokevirtual 67, 3, 228, 1, 24), (67, .aload_n 0, 1, 0, 0, 0), (68, .iconst 1, 1, 1, 0, 0), (69, .putfield 443, 3, 12, 5, 0), (72, .iconst 1, 1, 1, 0, 0), (73, .ireturn, 1, 0, 0, 0)]]
set_option maxRecDepth 100000 in
theorem oc_M_image : okC 348 c_M_image = true := by decide +kernel
def cu_M_image : List (Nat × List Bool) := [(15, [true, true, true]), (59, [true, true])]
noncomputable def F_M_image (O : Type) (a : Nat) (av : List AV) (σ : Mem) (K : AV → Mem → Option O) : Option O := if a = 228 then sm_M_forgets O av σ K else none
theorem fs_M_image {X : CXT} (hX : XM X) (O : Type) : FS X 2 (F_M_image O) := by
  intro a av σ K o h
  unfold F_M_image at h
  rcases ite_s h with ⟨rfl, h⟩ | ⟨_, h⟩
  · obtain ⟨r, h1, h2, h3⟩ := ok_M_forgets hX _ _ _ _ _ h
    exact ⟨r, fun ht => ⟨1, by decide, h1 ht⟩, h2, h3⟩
  cases h
def hd_M_image_15 {O : Type} (g : Nat → Int32 → Int32 → Mem → Option O) (ls : OL) (st : List AV) (σ : Mem) : Option O := match ls, st with
  | [some (.inr (.inr (12, k0))), some (.inl v1), some (.inl v2)], [] => g k0 v1 v2 σ
  | _, _ => none
theorem hs_M_image_15 {X : CXT} {g : Nat → Int32 → Int32 → Mem → Option (Bool × Mem)} (hg : ∀ (k0 : Nat) (v1 : Int32) (v2 : Int32) (s : Mem) (o : Bool × Mem), g k0 v1 v2 s = some o → BSnd X 2 348 (ovZ o) 15 [some (.inr (.inr (12, k0))), some (.inl v1), some (.inl v2)] [] s) : ∀ ls st σ o, hd_M_image_15 g ls st σ = some o → BSnd X 2 348 (ovZ o) 15 ls st σ := by
  intro ls st σ o h
  unfold hd_M_image_15 at h
  split at h
  · exact hg _ _ _ _ _ h
  · cases h
def hd_M_image_59 {O : Type} (g : Nat → Int32 → Mem → Option O) (ls : OL) (st : List AV) (σ : Mem) : Option O := match ls, st with
  | [some (.inr (.inr (12, k0))), some (.inl v1)], [] => g k0 v1 σ
  | _, _ => none
theorem hs_M_image_59 {X : CXT} {g : Nat → Int32 → Mem → Option (Bool × Mem)} (hg : ∀ (k0 : Nat) (v1 : Int32) (s : Mem) (o : Bool × Mem), g k0 v1 s = some o → BSnd X 2 348 (ovZ o) 59 [some (.inr (.inr (12, k0))), some (.inl v1)] [] s) : ∀ ls st σ o, hd_M_image_59 g ls st σ = some o → BSnd X 2 348 (ovZ o) 59 ls st σ := by
  intro ls st σ o h
  unfold hd_M_image_59 at h
  split at h
  · exact hg _ _ _ _ h
  · cases h
set_option maxRecDepth 100000 in
theorem s_M_image_15 {X : CXT} (hX : XM X) {K59 : Nat → Int32 → Mem → Option (Bool × Mem)} (hK59 : ∀ (k0 : Nat) (v1 : Int32) (s : Mem) (o : Bool × Mem), K59 k0 v1 s = some o → BSnd X 2 348 (ovZ o) 59 [some (.inr (.inr (12, k0))), some (.inl v1)] [] s) : ∀ n : Nat, ∀ (k0 : Nat) (v1 : Int32) (v2 : Int32) (s : Mem) (o : Bool × Mem), f_M_image_15 K59 n k0 v1 v2 s = some o → BSnd X 2 348 (ovZ o) 15 [some (.inr (.inr (12, k0))), some (.inl v1), some (.inl v2)] [] s := by
  intro n
  induction n with
  | zero => intro k0 v1 v2 s o h; cases h
  | succ n ih =>
    intro k0 v1 v2 s o h
    exact evC (chs := c_M_image) (cuts := cu_M_image) (G := fun pc ls st σ => if pc = 15 then hd_M_image_15 (fun k0 v1 v2 s => f_M_image_15 K59 n k0 v1 v2 s) ls st σ else if pc = 59 then hd_M_image_59 (fun k0 v1 s => K59 k0 v1 s) ls st σ else none) hX.2.1 hX.2.2 (F := F_M_image _) (fs_M_image hX _) (rt_Z rfl) oc_M_image (by
    intro pc ls st σ o h
    rcases ite_s h with ⟨rfl, h⟩ | ⟨_, h⟩
    · exact hs_M_image_15 ih _ _ _ _ h
    rcases ite_s h with ⟨rfl, h⟩ | ⟨_, h⟩
    · exact hs_M_image_59 hK59 _ _ _ _ h
    cases h) 208 15 _ _ _ _ h
set_option maxRecDepth 100000 in
theorem s_M_image_59 {X : CXT} (hX : XM X) : ∀ (k0 : Nat) (v1 : Int32) (s : Mem) (o : Bool × Mem), f_M_image_59 k0 v1 s = some o → BSnd X 2 348 (ovZ o) 59 [some (.inr (.inr (12, k0))), some (.inl v1)] [] s := by
  intro k0 v1 s o h
  exact evC (chs := c_M_image) (cuts := cu_M_image) (G := fun pc ls st σ => none) hX.2.1 hX.2.2 (F := F_M_image _) (fs_M_image hX _) (rt_Z rfl) oc_M_image (by
    intro pc ls st σ o h
    cases h) 208 59 _ _ _ _ h
set_option maxRecDepth 100000 in
theorem s_M_image {X : CXT} (hX : XM X) : ∀ (k0 : Nat) (v1 : Int32) (s : Mem) (o : Bool × Mem), f_M_image k0 v1 s = some o → BSnd X 2 348 (ovZ o) 0 (entL [.inr (.inr (12, k0)), .inl v1]) [] s := by
  intro k0 v1 s o h
  rw [f_M_image_eq] at h
  exact evC (chs := c_M_image) (cuts := cu_M_image) (G := fun pc ls st σ => if pc = 15 then hd_M_image_15 (fun k0 v1 v2 s => f_M_image_15 (fun k0 v1 s => f_M_image_59 k0 v1 s) FU k0 v1 v2 s) ls st σ else if pc = 59 then hd_M_image_59 (fun k0 v1 s => f_M_image_59 k0 v1 s) ls st σ else none) hX.2.1 hX.2.2 (F := F_M_image _) (fs_M_image hX _) (rt_Z rfl) oc_M_image (by
    intro pc ls st σ o h
    rcases ite_s h with ⟨rfl, h⟩ | ⟨_, h⟩
    · exact hs_M_image_15 (s_M_image_15 hX (s_M_image_59 hX) FU) _ _ _ _ h
    rcases ite_s h with ⟨rfl, h⟩ | ⟨_, h⟩
    · exact hs_M_image_59 (s_M_image_59 hX) _ _ _ _ h
    cases h) 208 0 _ _ _ _ h
theorem ok_M_image {X : CXT} (hX : XM X) : SemOK X 2 348 sm_M_image := by
  intro O av σ K o h
  unfold sm_M_image at h
  split at h
  · obtain ⟨r, hf, h⟩ := Option.bind_eq_some_iff.mp h
    exact ⟨ovZ r, fun ht => sp_of hX.1 (by decide) (List.mem_range.mpr (by decide)) (by decide +kernel) ht (Nat.le_of_ble_eq_true rfl) (s_M_image hX _ _ _ _ hf), trivial, h⟩
  · cases h
noncomputable def f_M_notAshore_4 : Nat → Nat → Int32 → Int32 → Mem → Option (Int32 × Mem)
  | 0, _, _, _, _ => none
  | n + 1, k0, v1, v2, s =>
    gd (inb ((49 : Int32)) (lenM (k0 + 1))) <|
    cif ((rI s (k0 + 1) (ix ((49 : Int32)))) ≤ v2) (
      some (v1, s)) (
      (f_M_isAshore k0 v2 s).bind fun r1 =>
      cif ((b2i r1.1) = 0) (
        let x2 : Int32 := v1 ||| (((1 : Int32)) <<< (v2 &&& 31))
        f_M_notAshore_4 n k0 x2 (v2 + (1 : Int32)) r1.2) (
        let x3 : Int32 := v1 ||| ((0 : Int32))
        f_M_notAshore_4 n k0 x3 (v2 + (1 : Int32)) r1.2))
noncomputable def b_M_notAshore (k0 : Nat) (s : Mem) : Option (Int32 × Mem) :=
  f_M_notAshore_4 FU k0 ((0 : Int32)) ((0 : Int32)) s
noncomputable def f_M_notAshore : Nat → Mem → Option (Int32 × Mem) := Classical.choose (⟨b_M_notAshore, rfl⟩ : ∃ f : Nat → Mem → Option (Int32 × Mem), f = b_M_notAshore)
theorem f_M_notAshore_eq : f_M_notAshore = b_M_notAshore := Classical.choose_spec (⟨b_M_notAshore, rfl⟩ : ∃ f : Nat → Mem → Option (Int32 × Mem), f = b_M_notAshore)
noncomputable def sm_M_notAshore (O : Type) (av : List AV) (σ : Mem) (K : AV → Mem → Option O) : Option O := match av with
  | [.inr (.inr (12, k0))] => (f_M_notAshore k0 σ).bind fun r => K (.inl r.1) r.2
  | _ => none
def c_M_notAshore : List (List CE) := [[(0, .iconst 0, 1, 0, 0, 0), (1, .istore_n 1, 1, 0, 0, 0), (2, .iconst 0, 1, 0, 0, 0), (3, .istore_n 2, 1, 0, 0, 0), (4, .iload_n 2, 1, 0, 0, 0), (5, .aload_n 0, 1, 0, 0, 0), (6, .getfield 7, 3, 12, 0, 0), (9, .bipush 49, 2, 49, 0, 0), (11, .iaload, 1, 0, 0, 0), (12, .if_icmp .ge 27, 3, 39, 0, 0), (15, .iload_n 1, 1, 0, 0, 0)], [(16, .aload_n 0, 1, 0, 0, 0), (17, .iload_n 2, 1, 0, 0, 0), (18, .invokevirtual 80, 3, 234, 2, 25), (21, .ifCond .eq 7, 3, 28, 0, 0), (24, .iconst 0, 1, 0, 0, 0), (25, .goto 6, 3, 31, 0, 0), (28, .iconst 1, 1, 1, 0, 0), (29, .iload_n 2, 1, 0, 0, 0), (30, .ishl, 1, 0, 0, 0), (31, .ior, 1, 0, 0, 0)], [(32, .istore_n 1, 1, 0, 0, 0), (33, .iinc 2 1, 3, 1, 0, 0), (36, .goto (-32), 3, 4, 0, 0), (39, .iload_n 1, 1, 0, 0, 0), (40, .ireturn, 1, 0, 0, 0)]]
set_option maxRecDepth 100000 in
theorem oc_M_notAshore : okC 350 c_M_notAshore = true := by decide +kernel
def cu_M_notAshore : List (Nat × List Bool) := [(4, [true, true, true])]
noncomputable def F_M_notAshore (O : Type) (a : Nat) (av : List AV) (σ : Mem) (K : AV → Mem → Option O) : Option O := if a = 234 then sm_M_isAshore O av σ K else none
theorem fs_M_notAshore {X : CXT} (hX : XM X) (O : Type) : FS X 2 (F_M_notAshore O) := by
  intro a av σ K o h
  unfold F_M_notAshore at h
  rcases ite_s h with ⟨rfl, h⟩ | ⟨_, h⟩
  · obtain ⟨r, h1, h2, h3⟩ := ok_M_isAshore hX _ _ _ _ _ h
    exact ⟨r, fun ht => ⟨1, by decide, h1 ht⟩, h2, h3⟩
  cases h
def hd_M_notAshore_4 {O : Type} (g : Nat → Int32 → Int32 → Mem → Option O) (ls : OL) (st : List AV) (σ : Mem) : Option O := match ls, st with
  | [some (.inr (.inr (12, k0))), some (.inl v1), some (.inl v2)], [] => g k0 v1 v2 σ
  | _, _ => none
theorem hs_M_notAshore_4 {X : CXT} {g : Nat → Int32 → Int32 → Mem → Option (Int32 × Mem)} (hg : ∀ (k0 : Nat) (v1 : Int32) (v2 : Int32) (s : Mem) (o : Int32 × Mem), g k0 v1 v2 s = some o → BSnd X 2 350 (ovI o) 4 [some (.inr (.inr (12, k0))), some (.inl v1), some (.inl v2)] [] s) : ∀ ls st σ o, hd_M_notAshore_4 g ls st σ = some o → BSnd X 2 350 (ovI o) 4 ls st σ := by
  intro ls st σ o h
  unfold hd_M_notAshore_4 at h
  split at h
  · exact hg _ _ _ _ _ h
  · cases h
set_option maxRecDepth 100000 in
theorem s_M_notAshore_4 {X : CXT} (hX : XM X) : ∀ n : Nat, ∀ (k0 : Nat) (v1 : Int32) (v2 : Int32) (s : Mem) (o : Int32 × Mem), f_M_notAshore_4 n k0 v1 v2 s = some o → BSnd X 2 350 (ovI o) 4 [some (.inr (.inr (12, k0))), some (.inl v1), some (.inl v2)] [] s := by
  intro n
  induction n with
  | zero => intro k0 v1 v2 s o h; cases h
  | succ n ih =>
    intro k0 v1 v2 s o h
    exact evC (chs := c_M_notAshore) (cuts := cu_M_notAshore) (G := fun pc ls st σ => if pc = 4 then hd_M_notAshore_4 (fun k0 v1 v2 s => f_M_notAshore_4 n k0 v1 v2 s) ls st σ else none) hX.2.1 hX.2.2 (F := F_M_notAshore _) (fs_M_notAshore hX _) (rt_I rfl) oc_M_notAshore (by
    intro pc ls st σ o h
    rcases ite_s h with ⟨rfl, h⟩ | ⟨_, h⟩
    · exact hs_M_notAshore_4 ih _ _ _ _ h
    cases h) 144 4 _ _ _ _ h
set_option maxRecDepth 100000 in
theorem s_M_notAshore {X : CXT} (hX : XM X) : ∀ (k0 : Nat) (s : Mem) (o : Int32 × Mem), f_M_notAshore k0 s = some o → BSnd X 2 350 (ovI o) 0 (entL [.inr (.inr (12, k0))]) [] s := by
  intro k0 s o h
  rw [f_M_notAshore_eq] at h
  exact evC (chs := c_M_notAshore) (cuts := cu_M_notAshore) (G := fun pc ls st σ => if pc = 4 then hd_M_notAshore_4 (fun k0 v1 v2 s => f_M_notAshore_4 FU k0 v1 v2 s) ls st σ else none) hX.2.1 hX.2.2 (F := F_M_notAshore _) (fs_M_notAshore hX _) (rt_I rfl) oc_M_notAshore (by
    intro pc ls st σ o h
    rcases ite_s h with ⟨rfl, h⟩ | ⟨_, h⟩
    · exact hs_M_notAshore_4 (s_M_notAshore_4 hX FU) _ _ _ _ h
    cases h) 144 0 _ _ _ _ h
theorem ok_M_notAshore {X : CXT} (hX : XM X) : SemOK X 2 350 sm_M_notAshore := by
  intro O av σ K o h
  unfold sm_M_notAshore at h
  split at h
  · obtain ⟨r, hf, h⟩ := Option.bind_eq_some_iff.mp h
    exact ⟨ovI r, fun ht => sp_of hX.1 (by decide) (List.mem_range.mpr (by decide)) (by decide +kernel) ht (Nat.le_of_ble_eq_true rfl) (s_M_notAshore hX _ _ _ hf), trivial, h⟩
  · cases h
noncomputable def b_M_look (k0 : Nat) (v1 : Int32) (s : Mem) : Option (Int32 × Mem) :=
  cif (v1 = (0 : Int32)) (
    gd (inb ((49 : Int32)) (lenM (k0 + 1))) <|
    some (rI s (k0 + 1) (ix ((49 : Int32))), s)) (
    cif (v1 = (1 : Int32)) (
      gd (inb ((0 : Int32)) (lenM (k0 + 1))) <|
      some (rI s (k0 + 1) (ix ((0 : Int32))), s)) (
      cif (v1 = (2 : Int32)) (
        (f_M_brokenMiles k0 s).bind fun r1 =>
        some (r1.1, r1.2)) (
        cif (v1 = (3 : Int32)) (
          gd (inb ((50 : Int32)) (lenM (k0 + 1))) <|
          some (rI s (k0 + 1) (ix ((50 : Int32))), s)) (
          cif (v1 = (4 : Int32)) (
            gd (inb ((1 : Int32)) (lenM (k0 + 1))) <|
            some (rI s (k0 + 1) (ix ((1 : Int32))), s)) (
            cif (v1 = (5 : Int32)) (
              gd (inb ((2 : Int32)) (lenM (k0 + 1))) <|
              some (rI s (k0 + 1) (ix ((2 : Int32))), s)) (
              cif (v1 = (6 : Int32)) (
                gd (inb ((3 : Int32)) (lenM (k0 + 1))) <|
                some (rI s (k0 + 1) (ix ((3 : Int32))), s)) (
                cif (v1 = (7 : Int32)) (
                  (f_M_notAshore k0 s).bind fun r2 =>
                  some (r2.1, r2.2)) (
                  cif (v1 = (8 : Int32)) (
                    gd (inb ((51 : Int32)) (lenM (k0 + 1))) <|
                    some (rI s (k0 + 1) (ix ((51 : Int32))), s)) (
                    cif (v1 = (9 : Int32)) (
                      gd (inb ((5 : Int32)) (lenM (k0 + 1))) <|
                      some (rI s (k0 + 1) (ix ((5 : Int32))), s)) (
                      cif (v1 = (10 : Int32)) (
                        gd (inb ((4 : Int32)) (lenM (k0 + 1))) <|
                        some (rI s (k0 + 1) (ix ((4 : Int32))), s)) (
                        cif (v1 = (11 : Int32)) (
                          gd (inb ((52 : Int32)) (lenM (k0 + 1))) <|
                          some (rI s (k0 + 1) (ix ((52 : Int32))), s)) (
                          cif (v1 = (12 : Int32)) (
                            gd (inb ((53 : Int32)) (lenM (k0 + 1))) <|
                            some (rI s (k0 + 1) (ix ((53 : Int32))), s)) (
                            cif (v1 = (13 : Int32)) (
                              gd (inb ((54 : Int32)) (lenM (k0 + 1))) <|
                              some (rI s (k0 + 1) (ix ((54 : Int32))), s)) (
                              cif (v1 = (14 : Int32)) (
                                gd (inb ((55 : Int32)) (lenM (k0 + 1))) <|
                                some (rI s (k0 + 1) (ix ((55 : Int32))), s)) (
                                cif (v1 = (15 : Int32)) (
                                  some (rI s k0 4, s)) (
                                  some ((-1 : Int32), s)))))))))))))))))
noncomputable def f_M_look : Nat → Int32 → Mem → Option (Int32 × Mem) := Classical.choose (⟨b_M_look, rfl⟩ : ∃ f : Nat → Int32 → Mem → Option (Int32 × Mem), f = b_M_look)
theorem f_M_look_eq : f_M_look = b_M_look := Classical.choose_spec (⟨b_M_look, rfl⟩ : ∃ f : Nat → Int32 → Mem → Option (Int32 × Mem), f = b_M_look)
noncomputable def sm_M_look (O : Type) (av : List AV) (σ : Mem) (K : AV → Mem → Option O) : Option O := match av with
  | [.inr (.inr (12, k0)), .inl v1] => (f_M_look k0 v1 σ).bind fun r => K (.inl r.1) r.2
  | _ => none
def c_M_look : List (List CE) := [[(0, .iload_n 1, 1, 0, 0, 0), (1, .tableswitch 192 0 15 #[79, 87, 94, 99, 107, 114, 121, 128, 133, 141, 148, 155, 163, 171, 179, 187], 79, 0, 0, 0)], [], [], [], [], [(80, .aload_n 0, 1, 0, 0, 0), (81, .getfield 7, 3, 12, 0, 0), (84, .bipush 49, 2, 49, 0, 0), (86, .iaload, 1, 0, 0, 0), (87, .ireturn, 1, 0, 0, 0), (88, .aload_n 0, 1, 0, 0, 0), (89, .getfield 7, 3, 12, 0, 0), (92, .iconst 0, 1, 0, 0, 0), (93, .iaload, 1, 0, 0, 0), (94, .ireturn, 1, 0, 0, 0), (95, .aload_n 0, 1, 0, 0, 0)], [(96, .invokevirtual 345, 3, 291, 1, 25), (99, .ireturn, 1, 0, 0, 0), (100, .aload_n 0, 1, 0, 0, 0), (101, .getfield 7, 3, 12, 0, 0), (104, .bipush 50, 2, 50, 0, 0), (106, .iaload, 1, 0, 0, 0), (107, .ireturn, 1, 0, 0, 0), (108, .aload_n 0, 1, 0, 0, 0), (109, .getfield 7, 3, 12, 0, 0)], [(112, .iconst 1, 1, 1, 0, 0), (113, .iaload, 1, 0, 0, 0), (114, .ireturn, 1, 0, 0, 0), (115, .aload_n 0, 1, 0, 0, 0), (116, .getfield 7, 3, 12, 0, 0), (119, .iconst 2, 1, 2, 0, 0), (120, .iaload, 1, 0, 0, 0), (121, .ireturn, 1, 0, 0, 0), (122, .aload_n 0, 1, 0, 0, 0), (123, .getfield 7, 3, 12, 0, 0), (126, .iconst 3, 1, 3, 0, 0), (127, .iaload, 1, 0, 0, 0)], [(128, .ireturn, 1, 0, 0, 0), (129, .aload_n 0, 1, 0, 0, 0), (130, .invokevirtual 446, 3, 350, 1, 25), (133, .ireturn, 1, 0, 0, 0), (134, .aload_n 0, 1, 0, 0, 0), (135, .getfield 7, 3, 12, 0, 0), (138, .bipush 51, 2, 51, 0, 0), (140, .iaload, 1, 0, 0, 0), (141, .ireturn, 1, 0, 0, 0), (142, .aload_n 0, 1, 0, 0, 0), (143, .getfield 7, 3, 12, 0, 0)], [(146, .iconst 5, 1, 5, 0, 0), (147, .iaload, 1, 0, 0, 0), (148, .ireturn, 1, 0, 0, 0), (149, .aload_n 0, 1, 0, 0, 0), (150, .getfield 7, 3, 12, 0, 0), (153, .iconst 4, 1, 4, 0, 0), (154, .iaload, 1, 0, 0, 0), (155, .ireturn, 1, 0, 0, 0), (156, .aload_n 0, 1, 0, 0, 0), (157, .getfield 7, 3, 12, 0, 0)], [(160, .bipush 52, 2, 52, 0, 0), (162, .iaload, 1, 0, 0, 0), (163, .ireturn, 1, 0, 0, 0), (164, .aload_n 0, 1, 0, 0, 0), (165, .getfield 7, 3, 12, 0, 0), (168, .bipush 53, 2, 53, 0, 0), (170, .iaload, 1, 0, 0, 0), (171, .ireturn, 1, 0, 0, 0), (172, .aload_n 0, 1, 0, 0, 0), (173, .getfield 7, 3, 12, 0, 0)], [(176, .bipush 54, 2, 54, 0, 0), (178, .iaload, 1, 0, 0, 0), (179, .ireturn, 1, 0, 0, 0), (180, .aload_n 0, 1, 0, 0, 0), (181, .getfield 7, 3, 12, 0, 0), (184, .bipush 55, 2, 55, 0, 0), (186, .iaload, 1, 0, 0, 0), (187, .ireturn, 1, 0, 0, 0), (188, .aload_n 0, 1, 0, 0, 0), (189, .getfield 64, 3, 12, 4, 0)], [(192, .ireturn, 1, 0, 0, 0), (193, .iconst (-1), 1, 1, 0, 1), (194, .ireturn, 1, 0, 0, 0)]]
set_option maxRecDepth 100000 in
theorem oc_M_look : okC 349 c_M_look = true := by decide +kernel
def cu_M_look : List (Nat × List Bool) := []
noncomputable def F_M_look (O : Type) (a : Nat) (av : List AV) (σ : Mem) (K : AV → Mem → Option O) : Option O := if a = 291 then sm_M_brokenMiles O av σ K else if a = 350 then sm_M_notAshore O av σ K else none
theorem fs_M_look {X : CXT} (hX : XM X) (O : Type) : FS X 3 (F_M_look O) := by
  intro a av σ K o h
  unfold F_M_look at h
  rcases ite_s h with ⟨rfl, h⟩ | ⟨_, h⟩
  · obtain ⟨r, h1, h2, h3⟩ := ok_M_brokenMiles hX _ _ _ _ _ h
    exact ⟨r, fun ht => ⟨2, by decide, h1 ht⟩, h2, h3⟩
  rcases ite_s h with ⟨rfl, h⟩ | ⟨_, h⟩
  · obtain ⟨r, h1, h2, h3⟩ := ok_M_notAshore hX _ _ _ _ _ h
    exact ⟨r, fun ht => ⟨2, by decide, h1 ht⟩, h2, h3⟩
  cases h
set_option maxRecDepth 100000 in
theorem s_M_look {X : CXT} (hX : XM X) : ∀ (k0 : Nat) (v1 : Int32) (s : Mem) (o : Int32 × Mem), f_M_look k0 v1 s = some o → BSnd X 3 349 (ovI o) 0 (entL [.inr (.inr (12, k0)), .inl v1]) [] s := by
  intro k0 v1 s o h
  rw [f_M_look_eq] at h
  exact evC (chs := c_M_look) (cuts := cu_M_look) (G := fun pc ls st σ => none) hX.2.1 hX.2.2 (F := F_M_look _) (fs_M_look hX _) (rt_I rfl) oc_M_look (by
    intro pc ls st σ o h
    cases h) 352 0 _ _ _ _ h
theorem ok_M_look {X : CXT} (hX : XM X) : SemOK X 3 349 sm_M_look := by
  intro O av σ K o h
  unfold sm_M_look at h
  split at h
  · obtain ⟨r, hf, h⟩ := Option.bind_eq_some_iff.mp h
    exact ⟨ovI r, fun ht => sp_of hX.1 (by decide) (List.mem_range.mpr (by decide)) (by decide +kernel) ht (Nat.le_of_ble_eq_true rfl) (s_M_look hX _ _ _ _ hf), trivial, h⟩
  · cases h
