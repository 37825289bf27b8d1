noncomputable def b_P_book (k0 : Nat) (v1 : Int32) (v2 : Int32) (s : Mem) : Option (Int32 × Mem) :=
  (f_P_within v1 ((0 : Int32)) ((rI s (k0 + 2) 10) - ((1 : Int32))) s).bind fun r1 =>
  cif ((b2i r1.1) = 0) (
    some ((-1 : Int32), r1.2)) (
    (f_Lo_entry (k0 + 59) v1 v2 r1.2).bind fun r2 =>
    some (r2.1, r2.2))
noncomputable def f_P_book : Nat → Int32 → Int32 → Mem → Option (Int32 × Mem) := Classical.choose (⟨b_P_book, rfl⟩ : ∃ f : Nat → Int32 → Int32 → Mem → Option (Int32 × Mem), f = b_P_book)
theorem f_P_book_eq : f_P_book = b_P_book := Classical.choose_spec (⟨b_P_book, rfl⟩ : ∃ f : Nat → Int32 → Int32 → Mem → Option (Int32 × Mem), f = b_P_book)
noncomputable def sm_P_book (O : Type) (av : List AV) (σ : Mem) (K : AV → Mem → Option O) : Option O := match av with
  | [.inr (.inr (11, k0)), .inl v1, .inl v2] => (f_P_book k0 v1 v2 σ).bind fun r => K (.inl r.1) r.2
  | _ => none
def c_P_book : List (List CE) := [[(0, .iload_n 1, 1, 0, 0, 0), (1, .iconst 0, 1, 0, 0, 0), (2, .aload_n 0, 1, 0, 0, 0), (3, .getfield 10, 3, 11, 0, 0), (6, .getfield 70, 3, 10, 0, 0), (9, .getfield 263, 3, 4, 10, 0), (12, .iconst 1, 1, 1, 0, 0), (13, .isub, 1, 0, 0, 0), (14, .invokestatic 80, 3, 17, 3, 1)], [(17, .ifCond .eq 18, 3, 35, 0, 0), (20, .aload_n 0, 1, 0, 0, 0), (21, .getfield 10, 3, 11, 0, 0), (24, .getfield 34, 3, 10, 3, 0), (27, .iload_n 1, 1, 0, 0, 0), (28, .iload_n 2, 1, 0, 0, 0), (29, .invokevirtual 266, 3, 148, 3, 7)], [(32, .goto 4, 3, 36, 0, 0), (35, .iconst (-1), 1, 1, 0, 1), (36, .ireturn, 1, 0, 0, 0)]]
set_option maxRecDepth 100000 in
theorem oc_P_book : okC 147 c_P_book = true := by decide +kernel
def cu_P_book : List (Nat × List Bool) := []
noncomputable def F_P_book (O : Type) (a : Nat) (av : List AV) (σ : Mem) (K : AV → Mem → Option O) : Option O := if a = 17 then sm_P_within O av σ K else if a = 148 then sm_Lo_entry O av σ K else none
theorem fs_P_book {X : CXT} (hX : XC X) (O : Type) : FS X 3 (F_P_book O) := by
  intro a av σ K o h
  unfold F_P_book at h
  rcases ite_s h with ⟨rfl, h⟩ | ⟨_, h⟩
  · obtain ⟨r, h1, h2, h3⟩ := ok_P_within hX _ _ _ _ _ h
    exact ⟨r, fun ht => ⟨1, by decide, h1 ht⟩, h2, h3⟩
  rcases ite_s h with ⟨rfl, h⟩ | ⟨_, h⟩
  · obtain ⟨r, h1, h2, h3⟩ := ok_Lo_entry hX _ _ _ _ _ h
    exact ⟨r, fun ht => ⟨2, by decide, h1 ht⟩, h2, h3⟩
  cases h
set_option maxRecDepth 100000 in
theorem s_P_book {X : CXT} (hX : XC X) : ∀ (k0 : Nat) (v1 : Int32) (v2 : Int32) (s : Mem) (o : Int32 × Mem), f_P_book k0 v1 v2 s = some o → BSnd X 3 147 (ovI o) 0 (entL [.inr (.inr (11, k0)), .inl v1, .inl v2]) [] s := by
  intro k0 v1 v2 s o h
  rw [f_P_book_eq] at h
  exact evC (chs := c_P_book) (cuts := cu_P_book) (G := fun pc ls st σ => none) hX.2.1 hX.2.2 (F := F_P_book _) (fs_P_book hX _) (rt_I rfl) oc_P_book (by
    intro pc ls st σ o h
    cases h) 116 0 _ _ _ _ h
theorem ok_P_book {X : CXT} (hX : XC X) : SemOK X 3 147 sm_P_book := by
  intro O av σ K o h
  unfold sm_P_book at h
  split at h
  · obtain ⟨r, hf, h⟩ := Option.bind_eq_some_iff.mp h
    exact ⟨ovI r, fun ht => sp_of hX.1 (by decide) (List.mem_range.mpr (by decide)) (by decide +kernel) ht (Nat.le_of_ble_eq_true rfl) (s_P_book hX _ _ _ _ _ hf), trivial, h⟩
  · cases h
noncomputable def f_Pi_countBroken_4 : Nat → Nat → Int32 → Int32 → Mem → Option (Int32 × Mem)
  | 0, _, _, _, _ => none
  | n + 1, k0, v1, v2, s =>
    cif (((200 : Int32)) ≤ v2) (
      some (v1, s)) (
      gd (inb v2 (lenC (k0 + 1))) <|
      cif ((rI s (k0 + 1) (ix v2)) = 0) (
        let x1 : Int32 := v1 + ((0 : Int32))
        f_Pi_countBroken_4 n k0 x1 (v2 + (1 : Int32)) s) (
        let x2 : Int32 := v1 + ((1 : Int32))
        f_Pi_countBroken_4 n k0 x2 (v2 + (1 : Int32)) s))
noncomputable def b_Pi_countBroken (k0 : Nat) (s : Mem) : Option (Int32 × Mem) :=
  f_Pi_countBroken_4 FU k0 ((0 : Int32)) ((0 : Int32)) s
noncomputable def f_Pi_countBroken : Nat → Mem → Option (Int32 × Mem) := Classical.choose (⟨b_Pi_countBroken, rfl⟩ : ∃ f : Nat → Mem → Option (Int32 × Mem), f = b_Pi_countBroken)
theorem f_Pi_countBroken_eq : f_Pi_countBroken = b_Pi_countBroken := Classical.choose_spec (⟨b_Pi_countBroken, rfl⟩ : ∃ f : Nat → Mem → Option (Int32 × Mem), f = b_Pi_countBroken)
noncomputable def sm_Pi_countBroken (O : Type) (av : List AV) (σ : Mem) (K : AV → Mem → Option O) : Option O := match av with
  | [.inr (.inr (4, k0))] => (f_Pi_countBroken k0 σ).bind fun r => K (.inl r.1) r.2
  | _ => none
def c_Pi_countBroken : List (List CE) := [[(0, .iconst 0, 1, 0, 0, 0), (1, .istore_n 1, 1, 0, 0, 0), (2, .iconst 0, 1, 0, 0, 0), (3, .istore_n 2, 1, 0, 0, 0), (4, .iload_n 2, 1, 0, 0, 0), (5, .sipush 200, 3, 200, 0, 0), (8, .if_icmp .ge 26, 3, 34, 0, 0), (11, .iload_n 1, 1, 0, 0, 0), (12, .aload_n 0, 1, 0, 0, 0), (13, .getfield 9, 3, 4, 1, 0)], [(16, .iload_n 2, 1, 0, 0, 0), (17, .baload, 1, 0, 0, 0), (18, .ifCond .eq 7, 3, 25, 0, 0), (21, .iconst 1, 1, 1, 0, 0), (22, .goto 4, 3, 26, 0, 0), (25, .iconst 0, 1, 0, 0, 0), (26, .iadd, 1, 0, 0, 0), (27, .istore_n 1, 1, 0, 0, 0), (28, .iinc 2 1, 3, 1, 0, 0), (31, .goto (-27), 3, 4, 0, 0)], [(34, .iload_n 1, 1, 0, 0, 0), (35, .ireturn, 1, 0, 0, 0)]]
set_option maxRecDepth 100000 in
theorem oc_Pi_countBroken : okC 150 c_Pi_countBroken = true := by decide +kernel
def cu_Pi_countBroken : List (Nat × List Bool) := [(4, [true, true, true])]
noncomputable def F_Pi_countBroken (O : Type) (a : Nat) (av : List AV) (σ : Mem) (K : AV → Mem → Option O) : Option O := none
theorem fs_Pi_countBroken {X : CXT} (hX : XC X) (O : Type) : FS X 1 (F_Pi_countBroken O) := by
  intro a av σ K o h
  cases h
def hd_Pi_countBroken_4 {O : Type} (g : Nat → Int32 → Int32 → Mem → Option O) (ls : OL) (st : List AV) (σ : Mem) : Option O := match ls, st with
  | [some (.inr (.inr (4, k0))), some (.inl v1), some (.inl v2)], [] => g k0 v1 v2 σ
  | _, _ => none
theorem hs_Pi_countBroken_4 {X : CXT} {g : Nat → Int32 → Int32 → Mem → Option (Int32 × Mem)} (hg : ∀ (k0 : Nat) (v1 : Int32) (v2 : Int32) (s : Mem) (o : Int32 × Mem), g k0 v1 v2 s = some o → BSnd X 1 150 (ovI o) 4 [some (.inr (.inr (4, k0))), some (.inl v1), some (.inl v2)] [] s) : ∀ ls st σ o, hd_Pi_countBroken_4 g ls st σ = some o → BSnd X 1 150 (ovI o) 4 ls st σ := by
  intro ls st σ o h
  unfold hd_Pi_countBroken_4 at h
  split at h
  · exact hg _ _ _ _ _ h
  · cases h
set_option maxRecDepth 100000 in
theorem s_Pi_countBroken_4 {X : CXT} (hX : XC X) : ∀ n : Nat, ∀ (k0 : Nat) (v1 : Int32) (v2 : Int32) (s : Mem) (o : Int32 × Mem), f_Pi_countBroken_4 n k0 v1 v2 s = some o → BSnd X 1 150 (ovI o) 4 [some (.inr (.inr (4, k0))), some (.inl v1), some (.inl v2)] [] s := by
  intro n
  induction n with
  | zero => intro k0 v1 v2 s o h; cases h
  | succ n ih =>
    intro k0 v1 v2 s o h
    exact evC (chs := c_Pi_countBroken) (cuts := cu_Pi_countBroken) (G := fun pc ls st σ => if pc = 4 then hd_Pi_countBroken_4 (fun k0 v1 v2 s => f_Pi_countBroken_4 n k0 v1 v2 s) ls st σ else none) hX.2.1 hX.2.2 (F := F_Pi_countBroken _) (fs_Pi_countBroken hX _) (rt_I rfl) oc_Pi_countBroken (by
    intro pc ls st σ o h
    rcases ite_s h with ⟨rfl, h⟩ | ⟨_, h⟩
    · exact hs_Pi_countBroken_4 ih _ _ _ _ h
    cases h) 128 4 _ _ _ _ h
set_option maxRecDepth 100000 in
theorem s_Pi_countBroken {X : CXT} (hX : XC X) : ∀ (k0 : Nat) (s : Mem) (o : Int32 × Mem), f_Pi_countBroken k0 s = some o → BSnd X 1 150 (ovI o) 0 (entL [.inr (.inr (4, k0))]) [] s := by
  intro k0 s o h
  rw [f_Pi_countBroken_eq] at h
  exact evC (chs := c_Pi_countBroken) (cuts := cu_Pi_countBroken) (G := fun pc ls st σ => if pc = 4 then hd_Pi_countBroken_4 (fun k0 v1 v2 s => f_Pi_countBroken_4 FU k0 v1 v2 s) ls st σ else none) hX.2.1 hX.2.2 (F := F_Pi_countBroken _) (fs_Pi_countBroken hX _) (rt_I rfl) oc_Pi_countBroken (by
    intro pc ls st σ o h
    rcases ite_s h with ⟨rfl, h⟩ | ⟨_, h⟩
    · exact hs_Pi_countBroken_4 (s_Pi_countBroken_4 hX FU) _ _ _ _ h
    cases h) 128 0 _ _ _ _ h
theorem ok_Pi_countBroken {X : CXT} (hX : XC X) : SemOK X 1 150 sm_Pi_countBroken := by
  intro O av σ K o h
  unfold sm_Pi_countBroken at h
  split at h
  · obtain ⟨r, hf, h⟩ := Option.bind_eq_some_iff.mp h
    exact ⟨ovI r, fun ht => sp_of hX.1 (by decide) (List.mem_range.mpr (by decide)) (by decide +kernel) ht (Nat.le_of_ble_eq_true rfl) (s_Pi_countBroken hX _ _ _ hf), trivial, h⟩
  · cases h
noncomputable def f_P_goes_37 (K60 : Nat → Int32 → Mem → Option (Int32 × Mem)) : Nat → Nat → Int32 → Int32 → Int32 → Mem → Option (Int32 × Mem)
  | 0, _, _, _, _, _ => none
  | n + 1, k0, v1, v2, v3, s =>
    cif (v1 ≤ v3) (
      K60 k0 v2 s) (
      (f_Co_goYear (k0 + 126) (k0 + 121) s).bind fun r1 =>
      f_P_goes_37 K60 n k0 v1 v2 (v3 + (1 : Int32)) r1.2)
noncomputable def f_P_goes_60 (k0 : Nat) (v2 : Int32) (s : Mem) : Option (Int32 × Mem) :=
  cif (v2 = 0) (
    some (rI s (k0 + 121) 6, s)) (
    (f_Pi_countBroken (k0 + 121) s).bind fun r1 =>
    some (r1.1, r1.2))
noncomputable def b_P_goes (k0 : Nat) (v1 : Int32) (v2 : Int32) (s : Mem) : Option (Int32 × Mem) :=
  (f_P_within v1 ((1 : Int32)) ((60 : Int32)) s).bind fun r1 =>
  cif ((b2i r1.1) = 0) (
    some ((-1 : Int32), r1.2)) (
    (f_P_within v2 ((0 : Int32)) ((1 : Int32)) r1.2).bind fun r2 =>
    cif ((b2i r2.1) = 0) (
      some ((-1 : Int32), r2.2)) (
      (f_Pi_copyFrom (k0 + 121) (k0 + 2) r2.2).bind fun r3 =>
      f_P_goes_37 (fun k0 v2 s => f_P_goes_60 k0 v2 s) FU k0 v1 v2 ((0 : Int32)) r3))
noncomputable def f_P_goes : Nat → Int32 → Int32 → Mem → Option (Int32 × Mem) := Classical.choose (⟨b_P_goes, rfl⟩ : ∃ f : Nat → Int32 → Int32 → Mem → Option (Int32 × Mem), f = b_P_goes)
theorem f_P_goes_eq : f_P_goes = b_P_goes := Classical.choose_spec (⟨b_P_goes, rfl⟩ : ∃ f : Nat → Int32 → Int32 → Mem → Option (Int32 × Mem), f = b_P_goes)
noncomputable def sm_P_goes (O : Type) (av : List AV) (σ : Mem) (K : AV → Mem → Option O) : Option O := match av with
  | [.inr (.inr (11, k0)), .inl v1, .inl v2] => (f_P_goes k0 v1 v2 σ).bind fun r => K (.inl r.1) r.2
  | _ => none
def c_P_goes : List (List CE) := [[(0, .iload_n 1, 1, 0, 0, 0), (1, .iconst 1, 1, 1, 0, 0), (2, .bipush 60, 2, 60, 0, 0), (4, .invokestatic 80, 3, 17, 3, 1), (7, .ifCond .eq 12, 3, 19, 0, 0), (10, .iload_n 2, 1, 0, 0, 0), (11, .iconst 0, 1, 0, 0, 0), (12, .iconst 1, 1, 1, 0, 0), (13, .invokestatic 80, 3, 17, 3, 1)], [(16, .ifCond .ne 5, 3, 21, 0, 0), (19, .iconst (-1), 1, 1, 0, 1), (20, .ireturn, 1, 0, 0, 0), (21, .aload_n 0, 1, 0, 0, 0), (22, .getfield 24, 3, 11, 2, 0), (25, .aload_n 0, 1, 0, 0, 0), (26, .getfield 10, 3, 11, 0, 0), (29, .getfield 70, 3, 10, 0, 0)], [(32, .invokevirtual 272, 3, 31, 2, 8), (35, .iconst 0, 1, 0, 0, 0), (36, .istore_n 3, 1, 0, 0, 0), (37, .iload_n 3, 1, 0, 0, 0), (38, .iload_n 1, 1, 0, 0, 0), (39, .if_icmp .ge 21, 3, 60, 0, 0), (42, .aload_n 0, 1, 0, 0, 0), (43, .getfield 41, 3, 11, 3, 0), (46, .aload_n 0, 1, 0, 0, 0), (47, .getfield 24, 3, 11, 2, 0)], [(50, .invokevirtual 147, 3, 53, 2, 1), (53, .pop, 1, 0, 0, 0), (54, .iinc 3 1, 3, 1, 0, 0), (57, .goto (-20), 3, 37, 0, 0), (60, .iload_n 2, 1, 0, 0, 0), (61, .ifCond .ne 13, 3, 74, 0, 0)], [(64, .aload_n 0, 1, 0, 0, 0), (65, .getfield 24, 3, 11, 2, 0), (68, .getfield 274, 3, 4, 6, 0), (71, .goto 10, 3, 81, 0, 0), (74, .aload_n 0, 1, 0, 0, 0), (75, .getfield 24, 3, 11, 2, 0), (78, .invokevirtual 275, 3, 150, 1, 9)], [(81, .ireturn, 1, 0, 0, 0)]]
set_option maxRecDepth 100000 in
theorem oc_P_goes : okC 149 c_P_goes = true := by decide +kernel
def cu_P_goes : List (Nat × List Bool) := [(37, [true, true, true, true]), (60, [true, false, true])]
noncomputable def F_P_goes (O : Type) (a : Nat) (av : List AV) (σ : Mem) (K : AV → Mem → Option O) : Option O := if a = 17 then sm_P_within O av σ K else if a = 31 then sm_Pi_copyFrom O av σ K else if a = 53 then sm_Co_goYear O av σ K else if a = 150 then sm_Pi_countBroken O av σ K else none
theorem fs_P_goes {X : CXT} (hX : XC X) (O : Type) : FS X 7 (F_P_goes O) := by
  intro a av σ K o h
  unfold F_P_goes at h
  rcases ite_s h with ⟨rfl, h⟩ | ⟨_, h⟩
  · obtain ⟨r, h1, h2, h3⟩ := ok_P_within hX _ _ _ _ _ h
    exact ⟨r, fun ht => ⟨1, by decide, h1 ht⟩, h2, h3⟩
  rcases ite_s h with ⟨rfl, h⟩ | ⟨_, h⟩
  · obtain ⟨r, h1, h2, h3⟩ := ok_Pi_copyFrom hX _ _ _ _ _ h
    exact ⟨r, fun ht => ⟨1, by decide, h1 ht⟩, h2, h3⟩
  rcases ite_s h with ⟨rfl, h⟩ | ⟨_, h⟩
  · obtain ⟨r, h1, h2, h3⟩ := ok_Co_goYear hX _ _ _ _ _ h
    exact ⟨r, fun ht => ⟨6, by decide, h1 ht⟩, h2, h3⟩
  rcases ite_s h with ⟨rfl, h⟩ | ⟨_, h⟩
  · obtain ⟨r, h1, h2, h3⟩ := ok_Pi_countBroken hX _ _ _ _ _ h
    exact ⟨r, fun ht => ⟨1, by decide, h1 ht⟩, h2, h3⟩
  cases h
def hd_P_goes_37 {O : Type} (g : Nat → Int32 → Int32 → Int32 → Mem → Option O) (ls : OL) (st : List AV) (σ : Mem) : Option O := match ls, st with
  | [some (.inr (.inr (11, k0))), some (.inl v1), some (.inl v2), some (.inl v3)], [] => g k0 v1 v2 v3 σ
  | _, _ => none
theorem hs_P_goes_37 {X : CXT} {g : Nat → Int32 → Int32 → Int32 → Mem → Option (Int32 × Mem)} (hg : ∀ (k0 : Nat) (v1 : Int32) (v2 : Int32) (v3 : Int32) (s : Mem) (o : Int32 × Mem), g k0 v1 v2 v3 s = some o → BSnd X 7 149 (ovI o) 37 [some (.inr (.inr (11, k0))), some (.inl v1), some (.inl v2), some (.inl v3)] [] s) : ∀ ls st σ o, hd_P_goes_37 g ls st σ = some o → BSnd X 7 149 (ovI o) 37 ls st σ := by
  intro ls st σ o h
  unfold hd_P_goes_37 at h
  split at h
  · exact hg _ _ _ _ _ _ h
  · cases h
def hd_P_goes_60 {O : Type} (g : Nat → Int32 → Mem → Option O) (ls : OL) (st : List AV) (σ : Mem) : Option O := match ls, st with
  | [some (.inr (.inr (11, k0))), none, some (.inl v2)], [] => g k0 v2 σ
  | _, _ => none
theorem hs_P_goes_60 {X : CXT} {g : Nat → Int32 → Mem → Option (Int32 × Mem)} (hg : ∀ (k0 : Nat) (v2 : Int32) (s : Mem) (o : Int32 × Mem), g k0 v2 s = some o → BSnd X 7 149 (ovI o) 60 [some (.inr (.inr (11, k0))), none, some (.inl v2)] [] s) : ∀ ls st σ o, hd_P_goes_60 g ls st σ = some o → BSnd X 7 149 (ovI o) 60 ls st σ := by
  intro ls st σ o h
  unfold hd_P_goes_60 at h
  split at h
  · exact hg _ _ _ _ h
  · cases h
set_option maxRecDepth 100000 in
theorem s_P_goes_37 {X : CXT} (hX : XC X) {K60 : Nat → Int32 → Mem → Option (Int32 × Mem)} (hK60 : ∀ (k0 : Nat) (v2 : Int32) (s : Mem) (o : Int32 × Mem), K60 k0 v2 s = some o → BSnd X 7 149 (ovI o) 60 [some (.inr (.inr (11, k0))), none, some (.inl v2)] [] s) : ∀ n : Nat, ∀ (k0 : Nat) (v1 : Int32) (v2 : Int32) (v3 : Int32) (s : Mem) (o : Int32 × Mem), f_P_goes_37 K60 n k0 v1 v2 v3 s = some o → BSnd X 7 149 (ovI o) 37 [some (.inr (.inr (11, k0))), some (.inl v1), some (.inl v2), some (.inl v3)] [] s := by
  intro n
  induction n with
  | zero => intro k0 v1 v2 v3 s o h; cases h
  | succ n ih =>
    intro k0 v1 v2 v3 s o h
    exact evC (chs := c_P_goes) (cuts := cu_P_goes) (G := fun pc ls st σ => if pc = 37 then hd_P_goes_37 (fun k0 v1 v2 v3 s => f_P_goes_37 K60 n k0 v1 v2 v3 s) ls st σ else if pc = 60 then hd_P_goes_60 (fun k0 v2 s => K60 k0 v2 s) ls st σ else none) hX.2.1 hX.2.2 (F := F_P_goes _) (fs_P_goes hX _) (rt_I rfl) oc_P_goes (by
    intro pc ls st σ o h
    rcases ite_s h with ⟨rfl, h⟩ | ⟨_, h⟩
    · exact hs_P_goes_37 ih _ _ _ _ h
    rcases ite_s h with ⟨rfl, h⟩ | ⟨_, h⟩
    · exact hs_P_goes_60 hK60 _ _ _ _ h
    cases h) 204 37 _ _ _ _ h
set_option maxRecDepth 100000 in
theorem s_P_goes_60 {X : CXT} (hX : XC X) : ∀ (k0 : Nat) (v2 : Int32) (s : Mem) (o : Int32 × Mem), f_P_goes_60 k0 v2 s = some o → BSnd X 7 149 (ovI o) 60 [some (.inr (.inr (11, k0))), none, some (.inl v2)] [] s := by
  intro k0 v2 s o h
  exact evC (chs := c_P_goes) (cuts := cu_P_goes) (G := fun pc ls st σ => none) hX.2.1 hX.2.2 (F := F_P_goes _) (fs_P_goes hX _) (rt_I rfl) oc_P_goes (by
    intro pc ls st σ o h
    cases h) 204 60 _ _ _ _ h
set_option maxRecDepth 100000 in
theorem s_P_goes {X : CXT} (hX : XC X) : ∀ (k0 : Nat) (v1 : Int32) (v2 : Int32) (s : Mem) (o : Int32 × Mem), f_P_goes k0 v1 v2 s = some o → BSnd X 7 149 (ovI o) 0 (entL [.inr (.inr (11, k0)), .inl v1, .inl v2]) [] s := by
  intro k0 v1 v2 s o h
  rw [f_P_goes_eq] at h
  exact evC (chs := c_P_goes) (cuts := cu_P_goes) (G := fun pc ls st σ => if pc = 37 then hd_P_goes_37 (fun k0 v1 v2 v3 s => f_P_goes_37 (fun k0 v2 s => f_P_goes_60 k0 v2 s) FU k0 v1 v2 v3 s) ls st σ else if pc = 60 then hd_P_goes_60 (fun k0 v2 s => f_P_goes_60 k0 v2 s) ls st σ else none) hX.2.1 hX.2.2 (F := F_P_goes _) (fs_P_goes hX _) (rt_I rfl) oc_P_goes (by
    intro pc ls st σ o h
    rcases ite_s h with ⟨rfl, h⟩ | ⟨_, h⟩
    · exact hs_P_goes_37 (s_P_goes_37 hX (s_P_goes_60 hX) FU) _ _ _ _ h
    rcases ite_s h with ⟨rfl, h⟩ | ⟨_, h⟩
    · exact hs_P_goes_60 (s_P_goes_60 hX) _ _ _ _ h
    cases h) 204 0 _ _ _ _ h
theorem ok_P_goes {X : CXT} (hX : XC X) : SemOK X 7 149 sm_P_goes := by
  intro O av σ K o h
  unfold sm_P_goes at h
  split at h
  · obtain ⟨r, hf, h⟩ := Option.bind_eq_some_iff.mp h
    exact ⟨ovI r, fun ht => sp_of hX.1 (by decide) (List.mem_range.mpr (by decide)) (by decide +kernel) ht (Nat.le_of_ble_eq_true rfl) (s_P_goes hX _ _ _ _ _ hf), trivial, h⟩
  · cases h
noncomputable def f_Co_walkThrough_27 : Nat → Nat → Nat → Int32 → Int32 → Int32 → Mem → Option (Int32 × Mem)
  | 0, _, _, _, _, _, _ => none
  | n + 1, k0, k1, v2, v3, v4, s =>
    gd (inb v2 (lenC ((k0 - 119) + 2))) <|
    cif ((rI s ((k0 - 119) + 2) (ix v2)) ≤ v4) (
      some (v3, s)) (
      (f_Co_goWalker k0 k1 v2 s).bind fun r1 =>
      gd (inb v2 (lenC (k1 + 2))) <|
      let x2 : Int32 := imx v3 (rI r1.2 (k1 + 2) (ix v2))
      f_Co_walkThrough_27 n k0 k1 v2 x2 (v4 + (1 : Int32)) r1.2)
noncomputable def b_Co_walkThrough (k0 : Nat) (k1 : Nat) (v2 : Int32) (s : Mem) : Option (Int32 × Mem) :=
  (f_Pi_land k1 v2 s).bind fun r1 =>
  (f_Co_canSetOff k0 k1 v2 r1).bind fun r2 =>
  cif ((b2i r2.1) = 0) (
    some ((-1 : Int32), r2.2)) (
    (f_Co_sendOff k0 k1 v2 r2.2).bind fun r3 =>
    f_Co_walkThrough_27 FU k0 k1 v2 ((0 : Int32)) ((0 : Int32)) r3)
noncomputable def f_Co_walkThrough : Nat → Nat → Int32 → Mem → Option (Int32 × Mem) := Classical.choose (⟨b_Co_walkThrough, rfl⟩ : ∃ f : Nat → Nat → Int32 → Mem → Option (Int32 × Mem), f = b_Co_walkThrough)
theorem f_Co_walkThrough_eq : f_Co_walkThrough = b_Co_walkThrough := Classical.choose_spec (⟨b_Co_walkThrough, rfl⟩ : ∃ f : Nat → Nat → Int32 → Mem → Option (Int32 × Mem), f = b_Co_walkThrough)
noncomputable def sm_Co_walkThrough (O : Type) (av : List AV) (σ : Mem) (K : AV → Mem → Option O) : Option O := match av with
  | [.inr (.inr (0, k0)), .inr (.inr (4, k1)), .inl v2] => (f_Co_walkThrough k0 k1 v2 σ).bind fun r => K (.inl r.1) r.2
  | _ => none
def c_Co_walkThrough : List (List CE) := [[(0, .aload_n 1, 1, 0, 0, 0), (1, .iload_n 2, 1, 0, 0, 0), (2, .invokevirtual 181, 3, 66, 2, 8), (5, .aload_n 0, 1, 0, 0, 0), (6, .aload_n 1, 1, 0, 0, 0), (7, .iload_n 2, 1, 0, 0, 0), (8, .invokevirtual 155, 3, 46, 3, 1), (11, .ifCond .ne 5, 3, 16, 0, 0), (14, .iconst (-1), 1, 1, 0, 1), (15, .ireturn, 1, 0, 0, 0)], [(16, .aload_n 0, 1, 0, 0, 0), (17, .aload_n 1, 1, 0, 0, 0), (18, .iload_n 2, 1, 0, 0, 0), (19, .invokevirtual 142, 3, 50, 3, 0), (22, .iconst 0, 1, 0, 0, 0), (23, .istore_n 3, 1, 0, 0, 0), (24, .iconst 0, 1, 0, 0, 0), (25, .istore 4, 2, 0, 0, 0), (27, .iload 4, 2, 0, 0, 0), (29, .aload_n 0, 1, 0, 0, 0), (30, .getfield 15, 3, 0, 0, 0)], [(33, .getfield 158, 3, 8, 1, 0), (36, .iload_n 2, 1, 0, 0, 0), (37, .iaload, 1, 0, 0, 0), (38, .if_icmp .ge 27, 3, 65, 0, 0), (41, .aload_n 0, 1, 0, 0, 0), (42, .aload_n 1, 1, 0, 0, 0), (43, .iload_n 2, 1, 0, 0, 0), (44, .invokevirtual 148, 3, 62, 3, 1), (47, .pop, 1, 0, 0, 0)], [(48, .iload_n 3, 1, 0, 0, 0), (49, .aload_n 1, 1, 0, 0, 0), (50, .getfield 64, 3, 4, 2, 0), (53, .iload_n 2, 1, 0, 0, 0), (54, .iaload, 1, 0, 0, 0), (55, .invokestatic 67, 3, 7, 2, 2), (58, .istore_n 3, 1, 0, 0, 0), (59, .iinc 4 1, 3, 1, 0, 0), (62, .goto (-35), 3, 27, 0, 0)], [(65, .iload_n 3, 1, 0, 0, 0), (66, .ireturn, 1, 0, 0, 0)]]
set_option maxRecDepth 100000 in
theorem oc_Co_walkThrough : okC 152 c_Co_walkThrough = true := by decide +kernel
def cu_Co_walkThrough : List (Nat × List Bool) := [(27, [true, true, true, true, true])]
noncomputable def F_Co_walkThrough (O : Type) (a : Nat) (av : List AV) (σ : Mem) (K : AV → Mem → Option O) : Option O := if a = 46 then sm_Co_canSetOff O av σ K else if a = 50 then sm_Co_sendOff O av σ K else if a = 62 then sm_Co_goWalker O av σ K else if a = 66 then sm_Pi_land O av σ K else none
theorem fs_Co_walkThrough {X : CXT} (hX : XC X) (O : Type) : FS X 6 (F_Co_walkThrough O) := by
  intro a av σ K o h
  unfold F_Co_walkThrough at h
  rcases ite_s h with ⟨rfl, h⟩ | ⟨_, h⟩
  · obtain ⟨r, h1, h2, h3⟩ := ok_Co_canSetOff hX _ _ _ _ _ h
    exact ⟨r, fun ht => ⟨4, by decide, h1 ht⟩, h2, h3⟩
  rcases ite_s h with ⟨rfl, h⟩ | ⟨_, h⟩
  · obtain ⟨r, h1, h2, h3⟩ := ok_Co_sendOff hX _ _ _ _ _ h
    exact ⟨r, fun ht => ⟨5, by decide, h1 ht⟩, h2, h3⟩
  rcases ite_s h with ⟨rfl, h⟩ | ⟨_, h⟩
  · obtain ⟨r, h1, h2, h3⟩ := ok_Co_goWalker hX _ _ _ _ _ h
    exact ⟨r, fun ht => ⟨5, by decide, h1 ht⟩, h2, h3⟩
  rcases ite_s h with ⟨rfl, h⟩ | ⟨_, h⟩
  · obtain ⟨r, h1, h2, h3⟩ := ok_Pi_land hX _ _ _ _ _ h
    exact ⟨r, fun ht => ⟨2, by decide, h1 ht⟩, h2, h3⟩
  cases h
def hd_Co_walkThrough_27 {O : Type} (g : Nat → Nat → Int32 → Int32 → Int32 → Mem → Option O) (ls : OL) (st : List AV) (σ : Mem) : Option O := match ls, st with
  | [some (.inr (.inr (0, k0))), some (.inr (.inr (4, k1))), some (.inl v2), some (.inl v3), some (.inl v4)], [] => g k0 k1 v2 v3 v4 σ
  | _, _ => none
theorem hs_Co_walkThrough_27 {X : CXT} {g : Nat → Nat → Int32 → Int32 → Int32 → Mem → Option (Int32 × Mem)} (hg : ∀ (k0 : Nat) (k1 : Nat) (v2 : Int32) (v3 : Int32) (v4 : Int32) (s : Mem) (o : Int32 × Mem), g k0 k1 v2 v3 v4 s = some o → BSnd X 6 152 (ovI o) 27 [some (.inr (.inr (0, k0))), some (.inr (.inr (4, k1))), some (.inl v2), some (.inl v3), some (.inl v4)] [] s) : ∀ ls st σ o, hd_Co_walkThrough_27 g ls st σ = some o → BSnd X 6 152 (ovI o) 27 ls st σ := by
  intro ls st σ o h
  unfold hd_Co_walkThrough_27 at h
  split at h
  · exact hg _ _ _ _ _ _ _ h
  · cases h
set_option maxRecDepth 100000 in
theorem s_Co_walkThrough_27 {X : CXT} (hX : XC X) : ∀ n : Nat, ∀ (k0 : Nat) (k1 : Nat) (v2 : Int32) (v3 : Int32) (v4 : Int32) (s : Mem) (o : Int32 × Mem), f_Co_walkThrough_27 n k0 k1 v2 v3 v4 s = some o → BSnd X 6 152 (ovI o) 27 [some (.inr (.inr (0, k0))), some (.inr (.inr (4, k1))), some (.inl v2), some (.inl v3), some (.inl v4)] [] s := by
  intro n
  induction n with
  | zero => intro k0 k1 v2 v3 v4 s o h; cases h
  | succ n ih =>
    intro k0 k1 v2 v3 v4 s o h
    exact evC (chs := c_Co_walkThrough) (cuts := cu_Co_walkThrough) (G := fun pc ls st σ => if pc = 27 then hd_Co_walkThrough_27 (fun k0 k1 v2 v3 v4 s => f_Co_walkThrough_27 n k0 k1 v2 v3 v4 s) ls st σ else none) hX.2.1 hX.2.2 (F := F_Co_walkThrough _) (fs_Co_walkThrough hX _) (rt_I rfl) oc_Co_walkThrough (by
    intro pc ls st σ o h
    rcases ite_s h with ⟨rfl, h⟩ | ⟨_, h⟩
    · exact hs_Co_walkThrough_27 ih _ _ _ _ h
    cases h) 204 27 _ _ _ _ h
set_option maxRecDepth 100000 in
theorem s_Co_walkThrough {X : CXT} (hX : XC X) : ∀ (k0 : Nat) (k1 : Nat) (v2 : Int32) (s : Mem) (o : Int32 × Mem), f_Co_walkThrough k0 k1 v2 s = some o → BSnd X 6 152 (ovI o) 0 (entL [.inr (.inr (0, k0)), .inr (.inr (4, k1)), .inl v2]) [] s := by
  intro k0 k1 v2 s o h
  rw [f_Co_walkThrough_eq] at h
  exact evC (chs := c_Co_walkThrough) (cuts := cu_Co_walkThrough) (G := fun pc ls st σ => if pc = 27 then hd_Co_walkThrough_27 (fun k0 k1 v2 v3 v4 s => f_Co_walkThrough_27 FU k0 k1 v2 v3 v4 s) ls st σ else none) hX.2.1 hX.2.2 (F := F_Co_walkThrough _) (fs_Co_walkThrough hX _) (rt_I rfl) oc_Co_walkThrough (by
    intro pc ls st σ o h
    rcases ite_s h with ⟨rfl, h⟩ | ⟨_, h⟩
    · exact hs_Co_walkThrough_27 (s_Co_walkThrough_27 hX FU) _ _ _ _ h
    cases h) 204 0 _ _ _ _ h
theorem ok_Co_walkThrough {X : CXT} (hX : XC X) : SemOK X 6 152 sm_Co_walkThrough := by
  intro O av σ K o h
  unfold sm_Co_walkThrough at h
  split at h
  · obtain ⟨r, hf, h⟩ := Option.bind_eq_some_iff.mp h
    exact ⟨ovI r, fun ht => sp_of hX.1 (by decide) (List.mem_range.mpr (by decide)) (by decide +kernel) ht (Nat.le_of_ble_eq_true rfl) (s_Co_walkThrough hX _ _ _ _ _ hf), trivial, h⟩
  · cases h
noncomputable def b_P_far (k0 : Nat) (v1 : Int32) (v2 : Int32) (s : Mem) : Option (Int32 × Mem) :=
  (f_To_isWalker (k0 + 7) v1 s).bind fun r1 =>
  cif ((b2i r1.1) = 0) (
    some ((-1 : Int32), r1.2)) (
    (f_P_within v2 ((0 : Int32)) ((1 : Int32)) r1.2).bind fun r2 =>
    cif ((b2i r2.1) = 0) (
      some ((-1 : Int32), r2.2)) (
      (f_Pi_copyFrom (k0 + 121) (k0 + 2) r2.2).bind fun r3 =>
      (f_Co_walkThrough (k0 + 126) (k0 + 121) v1 r3).bind fun r4 =>
      cif (v2 = 0) (
        some (r4.1, r4.2)) (
        cif (r4.1 = ((-1 : Int32))) (
          cif (((0 : Int32)) = 0) (
            some ((0 : Int32), r4.2)) (
            some ((1 : Int32), r4.2))) (
          cif ((rI r4.2 (k0 + 121) 9) = (rI r4.2 (k0 + 2) 9)) (
            cif (((1 : Int32)) = 0) (
              some ((0 : Int32), r4.2)) (
              some ((1 : Int32), r4.2))) (
            cif (((0 : Int32)) = 0) (
              some ((0 : Int32), r4.2)) (
              some ((1 : Int32), r4.2)))))))
noncomputable def f_P_far : Nat → Int32 → Int32 → Mem → Option (Int32 × Mem) := Classical.choose (⟨b_P_far, rfl⟩ : ∃ f : Nat → Int32 → Int32 → Mem → Option (Int32 × Mem), f = b_P_far)
theorem f_P_far_eq : f_P_far = b_P_far := Classical.choose_spec (⟨b_P_far, rfl⟩ : ∃ f : Nat → Int32 → Int32 → Mem → Option (Int32 × Mem), f = b_P_far)
noncomputable def sm_P_far (O : Type) (av : List AV) (σ : Mem) (K : AV → Mem → Option O) : Option O := match av with
  | [.inr (.inr (11, k0)), .inl v1, .inl v2] => (f_P_far k0 v1 v2 σ).bind fun r => K (.inl r.1) r.2
  | _ => none
def c_P_far : List (List CE) := [[(0, .aload_n 0, 1, 0, 0, 0), (1, .getfield 10, 3, 11, 0, 0), (4, .getfield 30, 3, 10, 1, 0), (7, .iload_n 1, 1, 0, 0, 0), (8, .invokevirtual 97, 3, 22, 2, 17), (11, .ifCond .eq 12, 3, 23, 0, 0), (14, .iload_n 2, 1, 0, 0, 0), (15, .iconst 0, 1, 0, 0, 0)], [(16, .iconst 1, 1, 1, 0, 0), (17, .invokestatic 80, 3, 17, 3, 1), (20, .ifCond .ne 5, 3, 25, 0, 0), (23, .iconst (-1), 1, 1, 0, 1), (24, .ireturn, 1, 0, 0, 0), (25, .aload_n 0, 1, 0, 0, 0), (26, .getfield 24, 3, 11, 2, 0), (29, .aload_n 0, 1, 0, 0, 0), (30, .getfield 10, 3, 11, 0, 0)], [(33, .getfield 70, 3, 10, 0, 0), (36, .invokevirtual 272, 3, 31, 2, 8), (39, .aload_n 0, 1, 0, 0, 0), (40, .getfield 41, 3, 11, 3, 0), (43, .aload_n 0, 1, 0, 0, 0), (44, .getfield 24, 3, 11, 2, 0), (47, .iload_n 1, 1, 0, 0, 0)], [(48, .invokevirtual 279, 3, 152, 3, 1), (51, .istore_n 3, 1, 0, 0, 0), (52, .iload_n 2, 1, 0, 0, 0), (53, .ifCond .ne 5, 3, 58, 0, 0), (56, .iload_n 3, 1, 0, 0, 0), (57, .ireturn, 1, 0, 0, 0), (58, .iload_n 3, 1, 0, 0, 0), (59, .iconst (-1), 1, 1, 0, 1), (60, .if_icmp .eq 27, 3, 87, 0, 0), (63, .aload_n 0, 1, 0, 0, 0)], [(64, .getfield 24, 3, 11, 2, 0), (67, .getfield 282, 3, 4, 9, 0), (70, .aload_n 0, 1, 0, 0, 0), (71, .getfield 10, 3, 11, 0, 0), (74, .getfield 70, 3, 10, 0, 0), (77, .getfield 282, 3, 4, 9, 0)], [(80, .if_icmp .ne 7, 3, 87, 0, 0), (83, .iconst 1, 1, 1, 0, 0), (84, .goto 4, 3, 88, 0, 0), (87, .iconst 0, 1, 0, 0, 0), (88, .istore 4, 2, 0, 0, 0), (90, .iload 4, 2, 0, 0, 0), (92, .ifCond .eq 7, 3, 99, 0, 0), (95, .iconst 1, 1, 1, 0, 0)], [(96, .goto 4, 3, 100, 0, 0), (99, .iconst 0, 1, 0, 0, 0), (100, .ireturn, 1, 0, 0, 0)]]
set_option maxRecDepth 100000 in
theorem oc_P_far : okC 151 c_P_far = true := by decide +kernel
def cu_P_far : List (Nat × List Bool) := []
noncomputable def F_P_far (O : Type) (a : Nat) (av : List AV) (σ : Mem) (K : AV → Mem → Option O) : Option O := if a = 17 then sm_P_within O av σ K else if a = 22 then sm_To_isWalker O av σ K else if a = 31 then sm_Pi_copyFrom O av σ K else if a = 152 then sm_Co_walkThrough O av σ K else none
theorem fs_P_far {X : CXT} (hX : XC X) (O : Type) : FS X 7 (F_P_far O) := by
  intro a av σ K o h
  unfold F_P_far at h
  rcases ite_s h with ⟨rfl, h⟩ | ⟨_, h⟩
  · obtain ⟨r, h1, h2, h3⟩ := ok_P_within hX _ _ _ _ _ h
    exact ⟨r, fun ht => ⟨1, by decide, h1 ht⟩, h2, h3⟩
  rcases ite_s h with ⟨rfl, h⟩ | ⟨_, h⟩
  · obtain ⟨r, h1, h2, h3⟩ := ok_To_isWalker hX _ _ _ _ _ h
    exact ⟨r, fun ht => ⟨1, by decide, h1 ht⟩, h2, h3⟩
  rcases ite_s h with ⟨rfl, h⟩ | ⟨_, h⟩
  · obtain ⟨r, h1, h2, h3⟩ := ok_Pi_copyFrom hX _ _ _ _ _ h
    exact ⟨r, fun ht => ⟨1, by decide, h1 ht⟩, h2, h3⟩
  rcases ite_s h with ⟨rfl, h⟩ | ⟨_, h⟩
  · obtain ⟨r, h1, h2, h3⟩ := ok_Co_walkThrough hX _ _ _ _ _ h
    exact ⟨r, fun ht => ⟨6, by decide, h1 ht⟩, h2, h3⟩
  cases h
set_option maxRecDepth 100000 in
theorem s_P_far {X : CXT} (hX : XC X) : ∀ (k0 : Nat) (v1 : Int32) (v2 : Int32) (s : Mem) (o : Int32 × Mem), f_P_far k0 v1 v2 s = some o → BSnd X 7 151 (ovI o) 0 (entL [.inr (.inr (11, k0)), .inl v1, .inl v2]) [] s := by
  intro k0 v1 v2 s o h
  rw [f_P_far_eq] at h
  exact evC (chs := c_P_far) (cuts := cu_P_far) (G := fun pc ls st σ => none) hX.2.1 hX.2.2 (F := F_P_far _) (fs_P_far hX _) (rt_I rfl) oc_P_far (by
    intro pc ls st σ o h
    cases h) 244 0 _ _ _ _ h
theorem ok_P_far {X : CXT} (hX : XC X) : SemOK X 7 151 sm_P_far := by
  intro O av σ K o h
  unfold sm_P_far at h
  split at h
  · obtain ⟨r, hf, h⟩ := Option.bind_eq_some_iff.mp h
    exact ⟨ovI r, fun ht => sp_of hX.1 (by decide) (List.mem_range.mpr (by decide)) (by decide +kernel) ht (Nat.le_of_ble_eq_true rfl) (s_P_far hX _ _ _ _ _ hf), trivial, h⟩
  · cases h
noncomputable def b_To_isBetter (v0 : Int32) (v1 : Int32) (v2 : Int32) (s : Mem) : Option (Bool × Mem) :=
  let x1 : Int32 := iab (v0 - v2)
  let x2 : Int32 := iab (v1 - v2)
  cif (v1 = ((-1 : Int32))) (
    some (true, s)) (
    cif (x1 < x2) (
      some (true, s)) (
      cif (x1 = x2) (
        cif (v1 ≤ v0) (
          some (false, s)) (
          some (true, s))) (
        some (false, s))))
noncomputable def f_To_isBetter : Int32 → Int32 → Int32 → Mem → Option (Bool × Mem) := Classical.choose (⟨b_To_isBetter, rfl⟩ : ∃ f : Int32 → Int32 → Int32 → Mem → Option (Bool × Mem), f = b_To_isBetter)
theorem f_To_isBetter_eq : f_To_isBetter = b_To_isBetter := Classical.choose_spec (⟨b_To_isBetter, rfl⟩ : ∃ f : Int32 → Int32 → Int32 → Mem → Option (Bool × Mem), f = b_To_isBetter)
noncomputable def sm_To_isBetter (O : Type) (av : List AV) (σ : Mem) (K : AV → Mem → Option O) : Option O := match av with
  | [.inl v0, .inl v1, .inl v2] => (f_To_isBetter v0 v1 v2 σ).bind fun r => K (.inl (b2i r.1)) r.2
  | _ => none
def c_To_isBetter : List (List CE) := [[(0, .iload_n 0, 1, 0, 0, 0), (1, .iload_n 2, 1, 0, 0, 0), (2, .isub, 1, 0, 0, 0), (3, .invokestatic 91, 3, 156, 1, 4), (6, .istore_n 3, 1, 0, 0, 0), (7, .iload_n 1, 1, 0, 0, 0), (8, .iload_n 2, 1, 0, 0, 0), (9, .isub, 1, 0, 0, 0), (10, .invokestatic 91, 3, 156, 1, 4), (13, .istore 4, 2, 0, 0, 0), (15, .iload_n 1, 1, 0, 0, 0)], [(16, .iconst (-1), 1, 1, 0, 1), (17, .if_icmp .eq 20, 3, 37, 0, 0), (20, .iload_n 3, 1, 0, 0, 0), (21, .iload 4, 2, 0, 0, 0), (23, .if_icmp .lt 14, 3, 37, 0, 0), (26, .iload_n 3, 1, 0, 0, 0), (27, .iload 4, 2, 0, 0, 0), (29, .if_icmp .ne 12, 3, 41, 0, 0)], [(32, .iload_n 0, 1, 0, 0, 0), (33, .iload_n 1, 1, 0, 0, 0), (34, .if_icmp .ge 7, 3, 41, 0, 0), (37, .iconst 1, 1, 1, 0, 0), (38, .goto 4, 3, 42, 0, 0), (41, .iconst 0, 1, 0, 0, 0), (42, .ireturn, 1, 0, 0, 0)]]
set_option maxRecDepth 100000 in
theorem oc_To_isBetter : okC 155 c_To_isBetter = true := by decide +kernel
def cu_To_isBetter : List (Nat × List Bool) := []
noncomputable def F_To_isBetter (O : Type) (a : Nat) (av : List AV) (σ : Mem) (K : AV → Mem → Option O) : Option O := none
theorem fs_To_isBetter {X : CXT} (hX : XC X) (O : Type) : FS X 1 (F_To_isBetter O) := by
  intro a av σ K o h
  cases h
set_option maxRecDepth 100000 in
theorem s_To_isBetter {X : CXT} (hX : XC X) : ∀ (v0 : Int32) (v1 : Int32) (v2 : Int32) (s : Mem) (o : Bool × Mem), f_To_isBetter v0 v1 v2 s = some o → BSnd X 1 155 (ovZ o) 0 (entL [.inl v0, .inl v1, .inl v2]) [] s := by
  intro v0 v1 v2 s o h
  rw [f_To_isBetter_eq] at h
  exact evC (chs := c_To_isBetter) (cuts := cu_To_isBetter) (G := fun pc ls st σ => none) hX.2.1 hX.2.2 (F := F_To_isBetter _) (fs_To_isBetter hX _) (rt_Z rfl) oc_To_isBetter (by
    intro pc ls st σ o h
    cases h) 144 0 _ _ _ _ h
theorem ok_To_isBetter {X : CXT} (hX : XC X) : SemOK X 1 155 sm_To_isBetter := by
  intro O av σ K o h
  unfold sm_To_isBetter at h
  split at h
  · obtain ⟨r, hf, h⟩ := Option.bind_eq_some_iff.mp h
    exact ⟨ovZ r, fun ht => sp_of hX.1 (by decide) (List.mem_range.mpr (by decide)) (by decide +kernel) ht (Nat.le_of_ble_eq_true rfl) (s_To_isBetter hX _ _ _ _ _ hf), trivial, h⟩
  · cases h
noncomputable def f_To_nearestKiosk_5 : Nat → Nat → Int32 → Int32 → Int32 → Int32 → Mem → Option (Int32 × Mem)
  | 0, _, _, _, _, _, _ => none
  | n + 1, k0, v1, v2, v3, v4, s =>
    cif ((rI s (k0 + 15) 3) ≤ v4) (
      some (v3, s)) (
      (f_Ro_second (k0 + 15) v4 s).bind fun r1 =>
      (f_Ro_first (k0 + 15) v4 r1.2).bind fun r2 =>
      cif (r2.1 = 0) (
        cif (v2 ≤ r1.1) (
          f_To_nearestKiosk_5 n k0 v1 v2 v3 (v4 + (1 : Int32)) r2.2) (
          (f_To_isBetter r1.1 v3 v1 r2.2).bind fun r3 =>
          cif ((b2i r3.1) = 0) (
            f_To_nearestKiosk_5 n k0 v1 v2 v3 (v4 + (1 : Int32)) r3.2) (
            f_To_nearestKiosk_5 n k0 v1 v2 r1.1 (v4 + (1 : Int32)) r3.2))) (
        f_To_nearestKiosk_5 n k0 v1 v2 v3 (v4 + (1 : Int32)) r2.2))
noncomputable def b_To_nearestKiosk (k0 : Nat) (v1 : Int32) (v2 : Int32) (s : Mem) : Option (Int32 × Mem) :=
  f_To_nearestKiosk_5 FU k0 v1 v2 ((-1 : Int32)) ((0 : Int32)) s
noncomputable def f_To_nearestKiosk : Nat → Int32 → Int32 → Mem → Option (Int32 × Mem) := Classical.choose (⟨b_To_nearestKiosk, rfl⟩ : ∃ f : Nat → Int32 → Int32 → Mem → Option (Int32 × Mem), f = b_To_nearestKiosk)
theorem f_To_nearestKiosk_eq : f_To_nearestKiosk = b_To_nearestKiosk := Classical.choose_spec (⟨b_To_nearestKiosk, rfl⟩ : ∃ f : Nat → Int32 → Int32 → Mem → Option (Int32 × Mem), f = b_To_nearestKiosk)
noncomputable def sm_To_nearestKiosk (O : Type) (av : List AV) (σ : Mem) (K : AV → Mem → Option O) : Option O := match av with
  | [.inr (.inr (8, k0)), .inl v1, .inl v2] => (f_To_nearestKiosk k0 v1 v2 σ).bind fun r => K (.inl r.1) r.2
  | _ => none
def c_To_nearestKiosk : List (List CE) := [[(0, .iconst (-1), 1, 1, 0, 1), (1, .istore_n 3, 1, 0, 0, 0), (2, .iconst 0, 1, 0, 0, 0), (3, .istore 4, 2, 0, 0, 0), (5, .iload 4, 2, 0, 0, 0), (7, .aload_n 0, 1, 0, 0, 0), (8, .getfield 37, 3, 8, 5, 0), (11, .getfield 78, 3, 6, 3, 0), (14, .if_icmp .ge 51, 3, 65, 0, 0)], [(17, .aload_n 0, 1, 0, 0, 0), (18, .getfield 37, 3, 8, 5, 0), (21, .iload 4, 2, 0, 0, 0), (23, .invokevirtual 81, 3, 55, 2, 13), (26, .istore 5, 2, 0, 0, 0), (28, .aload_n 0, 1, 0, 0, 0), (29, .getfield 37, 3, 8, 5, 0)], [(32, .iload 4, 2, 0, 0, 0), (34, .invokevirtual 85, 3, 54, 2, 13), (37, .ifCond .ne 22, 3, 59, 0, 0), (40, .iload 5, 2, 0, 0, 0), (42, .iload_n 2, 1, 0, 0, 0), (43, .if_icmp .ge 16, 3, 59, 0, 0), (46, .iload 5, 2, 0, 0, 0)], [(48, .iload_n 3, 1, 0, 0, 0), (49, .iload_n 1, 1, 0, 0, 0), (50, .invokestatic 88, 3, 155, 3, 1), (53, .ifCond .eq 6, 3, 59, 0, 0), (56, .iload 5, 2, 0, 0, 0), (58, .istore_n 3, 1, 0, 0, 0), (59, .iinc 4 1, 3, 1, 0, 0), (62, .goto (-57), 3, 5, 0, 0)], [(65, .iload_n 3, 1, 0, 0, 0), (66, .ireturn, 1, 0, 0, 0)]]
set_option maxRecDepth 100000 in
theorem oc_To_nearestKiosk : okC 154 c_To_nearestKiosk = true := by decide +kernel
def cu_To_nearestKiosk : List (Nat × List Bool) := [(5, [true, true, true, true, true])]
noncomputable def F_To_nearestKiosk (O : Type) (a : Nat) (av : List AV) (σ : Mem) (K : AV → Mem → Option O) : Option O := if a = 54 then sm_Ro_first O av σ K else if a = 55 then sm_Ro_second O av σ K else if a = 155 then sm_To_isBetter O av σ K else none
theorem fs_To_nearestKiosk {X : CXT} (hX : XC X) (O : Type) : FS X 3 (F_To_nearestKiosk O) := by
  intro a av σ K o h
  unfold F_To_nearestKiosk at h
  rcases ite_s h with ⟨rfl, h⟩ | ⟨_, h⟩
  · obtain ⟨r, h1, h2, h3⟩ := ok_Ro_first hX _ _ _ _ _ h
    exact ⟨r, fun ht => ⟨2, by decide, h1 ht⟩, h2, h3⟩
  rcases ite_s h with ⟨rfl, h⟩ | ⟨_, h⟩
  · obtain ⟨r, h1, h2, h3⟩ := ok_Ro_second hX _ _ _ _ _ h
    exact ⟨r, fun ht => ⟨2, by decide, h1 ht⟩, h2, h3⟩
  rcases ite_s h with ⟨rfl, h⟩ | ⟨_, h⟩
  · obtain ⟨r, h1, h2, h3⟩ := ok_To_isBetter hX _ _ _ _ _ h
    exact ⟨r, fun ht => ⟨1, by decide, h1 ht⟩, h2, h3⟩
  cases h
def hd_To_nearestKiosk_5 {O : Type} (g : Nat → Int32 → Int32 → Int32 → Int32 → Mem → Option O) (ls : OL) (st : List AV) (σ : Mem) : Option O := match ls, st with
  | [some (.inr (.inr (8, k0))), some (.inl v1), some (.inl v2), some (.inl v3), some (.inl v4)], [] => g k0 v1 v2 v3 v4 σ
  | _, _ => none
theorem hs_To_nearestKiosk_5 {X : CXT} {g : Nat → Int32 → Int32 → Int32 → Int32 → Mem → Option (Int32 × Mem)} (hg : ∀ (k0 : Nat) (v1 : Int32) (v2 : Int32) (v3 : Int32) (v4 : Int32) (s : Mem) (o : Int32 × Mem), g k0 v1 v2 v3 v4 s = some o → BSnd X 3 154 (ovI o) 5 [some (.inr (.inr (8, k0))), some (.inl v1), some (.inl v2), some (.inl v3), some (.inl v4)] [] s) : ∀ ls st σ o, hd_To_nearestKiosk_5 g ls st σ = some o → BSnd X 3 154 (ovI o) 5 ls st σ := by
  intro ls st σ o h
  unfold hd_To_nearestKiosk_5 at h
  split at h
  · exact hg _ _ _ _ _ _ _ h
  · cases h
set_option maxRecDepth 100000 in
theorem s_To_nearestKiosk_5 {X : CXT} (hX : XC X) : ∀ n : Nat, ∀ (k0 : Nat) (v1 : Int32) (v2 : Int32) (v3 : Int32) (v4 : Int32) (s : Mem) (o : Int32 × Mem), f_To_nearestKiosk_5 n k0 v1 v2 v3 v4 s = some o → BSnd X 3 154 (ovI o) 5 [some (.inr (.inr (8, k0))), some (.inl v1), some (.inl v2), some (.inl v3), some (.inl v4)] [] s := by
  intro n
  induction n with
  | zero => intro k0 v1 v2 v3 v4 s o h; cases h
  | succ n ih =>
    intro k0 v1 v2 v3 v4 s o h
    exact evC (chs := c_To_nearestKiosk) (cuts := cu_To_nearestKiosk) (G := fun pc ls st σ => if pc = 5 then hd_To_nearestKiosk_5 (fun k0 v1 v2 v3 v4 s => f_To_nearestKiosk_5 n k0 v1 v2 v3 v4 s) ls st σ else none) hX.2.1 hX.2.2 (F := F_To_nearestKiosk _) (fs_To_nearestKiosk hX _) (rt_I rfl) oc_To_nearestKiosk (by
    intro pc ls st σ o h
    rcases ite_s h with ⟨rfl, h⟩ | ⟨_, h⟩
    · exact hs_To_nearestKiosk_5 ih _ _ _ _ h
    cases h) 172 5 _ _ _ _ h
set_option maxRecDepth 100000 in
theorem s_To_nearestKiosk {X : CXT} (hX : XC X) : ∀ (k0 : Nat) (v1 : Int32) (v2 : Int32) (s : Mem) (o : Int32 × Mem), f_To_nearestKiosk k0 v1 v2 s = some o → BSnd X 3 154 (ovI o) 0 (entL [.inr (.inr (8, k0)), .inl v1, .inl v2]) [] s := by
  intro k0 v1 v2 s o h
  rw [f_To_nearestKiosk_eq] at h
  exact evC (chs := c_To_nearestKiosk) (cuts := cu_To_nearestKiosk) (G := fun pc ls st σ => if pc = 5 then hd_To_nearestKiosk_5 (fun k0 v1 v2 v3 v4 s => f_To_nearestKiosk_5 FU k0 v1 v2 v3 v4 s) ls st σ else none) hX.2.1 hX.2.2 (F := F_To_nearestKiosk _) (fs_To_nearestKiosk hX _) (rt_I rfl) oc_To_nearestKiosk (by
    intro pc ls st σ o h
    rcases ite_s h with ⟨rfl, h⟩ | ⟨_, h⟩
    · exact hs_To_nearestKiosk_5 (s_To_nearestKiosk_5 hX FU) _ _ _ _ h
    cases h) 172 0 _ _ _ _ h
theorem ok_To_nearestKiosk {X : CXT} (hX : XC X) : SemOK X 3 154 sm_To_nearestKiosk := by
  intro O av σ K o h
  unfold sm_To_nearestKiosk at h
  split at h
  · obtain ⟨r, hf, h⟩ := Option.bind_eq_some_iff.mp h
    exact ⟨ovI r, fun ht => sp_of hX.1 (by decide) (List.mem_range.mpr (by decide)) (by decide +kernel) ht (Nat.le_of_ble_eq_true rfl) (s_To_nearestKiosk hX _ _ _ _ _ hf), trivial, h⟩
  · cases h
noncomputable def b_P_next (k0 : Nat) (v1 : Int32) (s : Mem) : Option (Int32 × Mem) :=
  (f_P_isMile v1 s).bind fun r1 =>
  cif ((b2i r1.1) = 0) (
    some ((-1 : Int32), r1.2)) (
    (f_To_nearestKiosk (k0 + 7) v1 (rI r1.2 (k0 + 2) 6) r1.2).bind fun r2 =>
    some (r2.1, r2.2))
noncomputable def f_P_next : Nat → Int32 → Mem → Option (Int32 × Mem) := Classical.choose (⟨b_P_next, rfl⟩ : ∃ f : Nat → Int32 → Mem → Option (Int32 × Mem), f = b_P_next)
theorem f_P_next_eq : f_P_next = b_P_next := Classical.choose_spec (⟨b_P_next, rfl⟩ : ∃ f : Nat → Int32 → Mem → Option (Int32 × Mem), f = b_P_next)
noncomputable def sm_P_next (O : Type) (av : List AV) (σ : Mem) (K : AV → Mem → Option O) : Option O := match av with
  | [.inr (.inr (11, k0)), .inl v1] => (f_P_next k0 v1 σ).bind fun r => K (.inl r.1) r.2
  | _ => none
def c_P_next : List (List CE) := [[(0, .iload_n 1, 1, 0, 0, 0), (1, .invokestatic 251, 3, 44, 1, 1), (4, .ifCond .eq 27, 3, 31, 0, 0), (7, .aload_n 0, 1, 0, 0, 0), (8, .getfield 10, 3, 11, 0, 0), (11, .getfield 30, 3, 10, 1, 0), (14, .iload_n 1, 1, 0, 0, 0), (15, .aload_n 0, 1, 0, 0, 0)], [(16, .getfield 10, 3, 11, 0, 0), (19, .getfield 70, 3, 10, 0, 0), (22, .getfield 274, 3, 4, 6, 0), (25, .invokevirtual 285, 3, 154, 3, 17), (28, .goto 4, 3, 32, 0, 0), (31, .iconst (-1), 1, 1, 0, 1)], [(32, .ireturn, 1, 0, 0, 0)]]
set_option maxRecDepth 100000 in
theorem oc_P_next : okC 153 c_P_next = true := by decide +kernel
def cu_P_next : List (Nat × List Bool) := []
noncomputable def F_P_next (O : Type) (a : Nat) (av : List AV) (σ : Mem) (K : AV → Mem → Option O) : Option O := if a = 44 then sm_P_isMile O av σ K else if a = 154 then sm_To_nearestKiosk O av σ K else none
theorem fs_P_next {X : CXT} (hX : XC X) (O : Type) : FS X 4 (F_P_next O) := by
  intro a av σ K o h
  unfold F_P_next at h
  rcases ite_s h with ⟨rfl, h⟩ | ⟨_, h⟩
  · obtain ⟨r, h1, h2, h3⟩ := ok_P_isMile hX _ _ _ _ _ h
    exact ⟨r, fun ht => ⟨2, by decide, h1 ht⟩, h2, h3⟩
  rcases ite_s h with ⟨rfl, h⟩ | ⟨_, h⟩
  · obtain ⟨r, h1, h2, h3⟩ := ok_To_nearestKiosk hX _ _ _ _ _ h
    exact ⟨r, fun ht => ⟨3, by decide, h1 ht⟩, h2, h3⟩
  cases h
set_option maxRecDepth 100000 in
theorem s_P_next {X : CXT} (hX : XC X) : ∀ (k0 : Nat) (v1 : Int32) (s : Mem) (o : Int32 × Mem), f_P_next k0 v1 s = some o → BSnd X 4 153 (ovI o) 0 (entL [.inr (.inr (11, k0)), .inl v1]) [] s := by
  intro k0 v1 s o h
  rw [f_P_next_eq] at h
  exact evC (chs := c_P_next) (cuts := cu_P_next) (G := fun pc ls st σ => none) hX.2.1 hX.2.2 (F := F_P_next _) (fs_P_next hX _) (rt_I rfl) oc_P_next (by
    intro pc ls st σ o h
    cases h) 100 0 _ _ _ _ h
theorem ok_P_next {X : CXT} (hX : XC X) : SemOK X 4 153 sm_P_next := by
  intro O av σ K o h
  unfold sm_P_next at h
  split at h
  · obtain ⟨r, hf, h⟩ := Option.bind_eq_some_iff.mp h
    exact ⟨ovI r, fun ht => sp_of hX.1 (by decide) (List.mem_range.mpr (by decide)) (by decide +kernel) ht (Nat.le_of_ble_eq_true rfl) (s_P_next hX _ _ _ _ hf), trivial, h⟩
  · cases h
noncomputable def f_P_want_39 (v2 : Int32) (k3 : Nat) (s : Mem) : Option (Int32 × Mem) :=
  cif (v2 = ((-1 : Int32))) (
    (f_Ro_clear k3 s).bind fun r1 =>
    some (r1.1, r1.2)) (
    (f_P_isMile v2 s).bind fun r2 =>
    cif ((b2i r2.1) = 0) (
      some ((-1 : Int32), r2.2)) (
      (f_Ro_add k3 v2 ((0 : Int32)) ((0 : Int32)) r2.2).bind fun r3 =>
      some (r3.1, r3.2)))
noncomputable def b_P_want (k0 : Nat) (v1 : Int32) (v2 : Int32) (s : Mem) : Option (Int32 × Mem) :=
  (f_P_within v1 ((0 : Int32)) ((1 : Int32)) s).bind fun r1 =>
  cif ((b2i r1.1) = 0) (
    some ((-1 : Int32), r1.2)) (
    cif (v1 = 0) (
      f_P_want_39 v2 (k0 + 31) r1.2) (
      f_P_want_39 v2 (k0 + 35) r1.2))
noncomputable def f_P_want : Nat → Int32 → Int32 → Mem → Option (Int32 × Mem) := Classical.choose (⟨b_P_want, rfl⟩ : ∃ f : Nat → Int32 → Int32 → Mem → Option (Int32 × Mem), f = b_P_want)
theorem f_P_want_eq : f_P_want = b_P_want := Classical.choose_spec (⟨b_P_want, rfl⟩ : ∃ f : Nat → Int32 → Int32 → Mem → Option (Int32 × Mem), f = b_P_want)
noncomputable def sm_P_want (O : Type) (av : List AV) (σ : Mem) (K : AV → Mem → Option O) : Option O := match av with
  | [.inr (.inr (11, k0)), .inl v1, .inl v2] => (f_P_want k0 v1 v2 σ).bind fun r => K (.inl r.1) r.2
  | _ => none
def c_P_want : List (List CE) := [[(0, .iload_n 1, 1, 0, 0, 0), (1, .iconst 0, 1, 0, 0, 0), (2, .iconst 1, 1, 1, 0, 0), (3, .invokestatic 80, 3, 17, 3, 1), (6, .ifCond .ne 5, 3, 11, 0, 0), (9, .iconst (-1), 1, 1, 0, 1), (10, .ireturn, 1, 0, 0, 0), (11, .iload_n 1, 1, 0, 0, 0), (12, .ifCond .ne 16, 3, 28, 0, 0), (15, .aload_n 0, 1, 0, 0, 0)], [(16, .getfield 10, 3, 11, 0, 0), (19, .getfield 288, 3, 10, 2, 0), (22, .getfield 292, 3, 7, 0, 0), (25, .goto 13, 3, 38, 0, 0), (28, .aload_n 0, 1, 0, 0, 0), (29, .getfield 10, 3, 11, 0, 0)], [(32, .getfield 288, 3, 10, 2, 0), (35, .getfield 297, 3, 7, 1, 0), (38, .astore_n 3, 1, 0, 0, 0), (39, .iload_n 2, 1, 0, 0, 0), (40, .iconst (-1), 1, 1, 0, 1), (41, .if_icmp .ne 8, 3, 49, 0, 0), (44, .aload_n 3, 1, 0, 0, 0), (45, .invokevirtual 300, 3, 130, 1, 13)], [(48, .ireturn, 1, 0, 0, 0), (49, .iload_n 2, 1, 0, 0, 0), (50, .invokestatic 251, 3, 44, 1, 1), (53, .ifCond .eq 13, 3, 66, 0, 0), (56, .aload_n 3, 1, 0, 0, 0), (57, .iload_n 2, 1, 0, 0, 0), (58, .iconst 0, 1, 0, 0, 0), (59, .iconst 0, 1, 0, 0, 0), (60, .invokevirtual 303, 3, 134, 4, 13), (63, .goto 4, 3, 67, 0, 0)], [(66, .iconst (-1), 1, 1, 0, 1), (67, .ireturn, 1, 0, 0, 0)]]
set_option maxRecDepth 100000 in
theorem oc_P_want : okC 157 c_P_want = true := by decide +kernel
def cu_P_want : List (Nat × List Bool) := [(39, [false, false, true, true])]
noncomputable def F_P_want (O : Type) (a : Nat) (av : List AV) (σ : Mem) (K : AV → Mem → Option O) : Option O := if a = 17 then sm_P_within O av σ K else if a = 44 then sm_P_isMile O av σ K else if a = 130 then sm_Ro_clear O av σ K else if a = 134 then sm_Ro_add O av σ K else none
theorem fs_P_want {X : CXT} (hX : XC X) (O : Type) : FS X 3 (F_P_want O) := by
  intro a av σ K o h
  unfold F_P_want at h
  rcases ite_s h with ⟨rfl, h⟩ | ⟨_, h⟩
  · obtain ⟨r, h1, h2, h3⟩ := ok_P_within hX _ _ _ _ _ h
    exact ⟨r, fun ht => ⟨1, by decide, h1 ht⟩, h2, h3⟩
  rcases ite_s h with ⟨rfl, h⟩ | ⟨_, h⟩
  · obtain ⟨r, h1, h2, h3⟩ := ok_P_isMile hX _ _ _ _ _ h
    exact ⟨r, fun ht => ⟨2, by decide, h1 ht⟩, h2, h3⟩
  rcases ite_s h with ⟨rfl, h⟩ | ⟨_, h⟩
  · obtain ⟨r, h1, h2, h3⟩ := ok_Ro_clear hX _ _ _ _ _ h
    exact ⟨r, fun ht => ⟨1, by decide, h1 ht⟩, h2, h3⟩
  rcases ite_s h with ⟨rfl, h⟩ | ⟨_, h⟩
  · obtain ⟨r, h1, h2, h3⟩ := ok_Ro_add hX _ _ _ _ _ h
    exact ⟨r, fun ht => ⟨2, by decide, h1 ht⟩, h2, h3⟩
  cases h
def hd_P_want_39 {O : Type} (g : Int32 → Nat → Mem → Option O) (ls : OL) (st : List AV) (σ : Mem) : Option O := match ls, st with
  | [none, none, some (.inl v2), some (.inr (.inr (6, k3)))], [] => g v2 k3 σ
  | _, _ => none
theorem hs_P_want_39 {X : CXT} {g : Int32 → Nat → Mem → Option (Int32 × Mem)} (hg : ∀ (v2 : Int32) (k3 : Nat) (s : Mem) (o : Int32 × Mem), g v2 k3 s = some o → BSnd X 3 157 (ovI o) 39 [none, none, some (.inl v2), some (.inr (.inr (6, k3)))] [] s) : ∀ ls st σ o, hd_P_want_39 g ls st σ = some o → BSnd X 3 157 (ovI o) 39 ls st σ := by
  intro ls st σ o h
  unfold hd_P_want_39 at h
  split at h
  · exact hg _ _ _ _ h
  · cases h
set_option maxRecDepth 100000 in
theorem s_P_want_39 {X : CXT} (hX : XC X) : ∀ (v2 : Int32) (k3 : Nat) (s : Mem) (o : Int32 × Mem), f_P_want_39 v2 k3 s = some o → BSnd X 3 157 (ovI o) 39 [none, none, some (.inl v2), some (.inr (.inr (6, k3)))] [] s := by
  intro v2 k3 s o h
  exact evC (chs := c_P_want) (cuts := cu_P_want) (G := fun pc ls st σ => none) hX.2.1 hX.2.2 (F := F_P_want _) (fs_P_want hX _) (rt_I rfl) oc_P_want (by
    intro pc ls st σ o h
    cases h) 184 39 _ _ _ _ h
set_option maxRecDepth 100000 in
theorem s_P_want {X : CXT} (hX : XC X) : ∀ (k0 : Nat) (v1 : Int32) (v2 : Int32) (s : Mem) (o : Int32 × Mem), f_P_want k0 v1 v2 s = some o → BSnd X 3 157 (ovI o) 0 (entL [.inr (.inr (11, k0)), .inl v1, .inl v2]) [] s := by
  intro k0 v1 v2 s o h
  rw [f_P_want_eq] at h
  exact evC (chs := c_P_want) (cuts := cu_P_want) (G := fun pc ls st σ => if pc = 39 then hd_P_want_39 (fun v2 k3 s => f_P_want_39 v2 k3 s) ls st σ else none) hX.2.1 hX.2.2 (F := F_P_want _) (fs_P_want hX _) (rt_I rfl) oc_P_want (by
    intro pc ls st σ o h
    rcases ite_s h with ⟨rfl, h⟩ | ⟨_, h⟩
    · exact hs_P_want_39 (s_P_want_39 hX) _ _ _ _ h
    cases h) 184 0 _ _ _ _ h
theorem ok_P_want {X : CXT} (hX : XC X) : SemOK X 3 157 sm_P_want := by
  intro O av σ K o h
  unfold sm_P_want at h
  split at h
  · obtain ⟨r, hf, h⟩ := Option.bind_eq_some_iff.mp h
    exact ⟨ovI r, fun ht => sp_of hX.1 (by decide) (List.mem_range.mpr (by decide)) (by decide +kernel) ht (Nat.le_of_ble_eq_true rfl) (s_P_want hX _ _ _ _ _ hf), trivial, h⟩
  · cases h
noncomputable def b_P_isNear (v0 : Int32) (v1 : Int32) (s : Mem) : Option (Bool × Mem) :=
  cif (v0 = ((-1 : Int32))) (
    some (false, s)) (
    cif (((10 : Int32)) < (iab (v0 - v1))) (
      some (false, s)) (
      some (true, s)))
noncomputable def f_P_isNear : Int32 → Int32 → Mem → Option (Bool × Mem) := Classical.choose (⟨b_P_isNear, rfl⟩ : ∃ f : Int32 → Int32 → Mem → Option (Bool × Mem), f = b_P_isNear)
theorem f_P_isNear_eq : f_P_isNear = b_P_isNear := Classical.choose_spec (⟨b_P_isNear, rfl⟩ : ∃ f : Int32 → Int32 → Mem → Option (Bool × Mem), f = b_P_isNear)
noncomputable def sm_P_isNear (O : Type) (av : List AV) (σ : Mem) (K : AV → Mem → Option O) : Option O := match av with
  | [.inl v0, .inl v1] => (f_P_isNear v0 v1 σ).bind fun r => K (.inl (b2i r.1)) r.2
  | _ => none
def c_P_isNear : List (List CE) := [[(0, .iload_n 0, 1, 0, 0, 0), (1, .iconst (-1), 1, 1, 0, 1), (2, .if_icmp .eq 18, 3, 20, 0, 0), (5, .iload_n 0, 1, 0, 0, 0), (6, .iload_n 1, 1, 0, 0, 0), (7, .isub, 1, 0, 0, 0), (8, .invokestatic 446, 3, 156, 1, 4), (11, .bipush 10, 2, 10, 0, 0), (13, .if_icmp .gt 7, 3, 20, 0, 0)], [(16, .iconst 1, 1, 1, 0, 0), (17, .goto 4, 3, 21, 0, 0), (20, .iconst 0, 1, 0, 0, 0), (21, .ireturn, 1, 0, 0, 0)]]
set_option maxRecDepth 100000 in
theorem oc_P_isNear : okC 161 c_P_isNear = true := by decide +kernel
def cu_P_isNear : List (Nat × List Bool) := []
noncomputable def F_P_isNear (O : Type) (a : Nat) (av : List AV) (σ : Mem) (K : AV → Mem → Option O) : Option O := none
theorem fs_P_isNear {X : CXT} (hX : XC X) (O : Type) : FS X 1 (F_P_isNear O) := by
  intro a av σ K o h
  cases h
set_option maxRecDepth 100000 in
theorem s_P_isNear {X : CXT} (hX : XC X) : ∀ (v0 : Int32) (v1 : Int32) (s : Mem) (o : Bool × Mem), f_P_isNear v0 v1 s = some o → BSnd X 1 161 (ovZ o) 0 (entL [.inl v0, .inl v1]) [] s := by
  intro v0 v1 s o h
  rw [f_P_isNear_eq] at h
  exact evC (chs := c_P_isNear) (cuts := cu_P_isNear) (G := fun pc ls st σ => none) hX.2.1 hX.2.2 (F := F_P_isNear _) (fs_P_isNear hX _) (rt_Z rfl) oc_P_isNear (by
    intro pc ls st σ o h
    cases h) 92 0 _ _ _ _ h
theorem ok_P_isNear {X : CXT} (hX : XC X) : SemOK X 1 161 sm_P_isNear := by
  intro O av σ K o h
  unfold sm_P_isNear at h
  split at h
  · obtain ⟨r, hf, h⟩ := Option.bind_eq_some_iff.mp h
    exact ⟨ovZ r, fun ht => sp_of hX.1 (by decide) (List.mem_range.mpr (by decide)) (by decide +kernel) ht (Nat.le_of_ble_eq_true rfl) (s_P_isNear hX _ _ _ _ hf), trivial, h⟩
  · cases h
noncomputable def f_Th_isServed_2 : Nat → Nat → Int32 → Int32 → Int32 → Mem → Option (Bool × Mem)
  | 0, _, _, _, _, _ => none
  | n + 1, k0, v1, v2, v3, s =>
    cif ((rI s (k0 + 5) 3) ≤ v3) (
      some (false, s)) (
      cif (((v2 >>> (v3 &&& 31)) &&& ((1 : Int32))) = ((1 : Int32))) (
        (f_Ro_first (k0 + 5) v3 s).bind fun r1 =>
        (f_P_isNear r1.1 v1 r1.2).bind fun r2 =>
        cif ((b2i r2.1) = 0) (
          f_Th_isServed_2 n k0 v1 v2 (v3 + (1 : Int32)) r2.2) (
          some (true, r2.2))) (
        f_Th_isServed_2 n k0 v1 v2 (v3 + (1 : Int32)) s))
noncomputable def b_Th_isServed (k0 : Nat) (v1 : Int32) (v2 : Int32) (s : Mem) : Option (Bool × Mem) :=
  f_Th_isServed_2 FU k0 v1 v2 ((0 : Int32)) s
noncomputable def f_Th_isServed : Nat → Int32 → Int32 → Mem → Option (Bool × Mem) := Classical.choose (⟨b_Th_isServed, rfl⟩ : ∃ f : Nat → Int32 → Int32 → Mem → Option (Bool × Mem), f = b_Th_isServed)
theorem f_Th_isServed_eq : f_Th_isServed = b_Th_isServed := Classical.choose_spec (⟨b_Th_isServed, rfl⟩ : ∃ f : Nat → Int32 → Int32 → Mem → Option (Bool × Mem), f = b_Th_isServed)
noncomputable def sm_Th_isServed (O : Type) (av : List AV) (σ : Mem) (K : AV → Mem → Option O) : Option O := match av with
  | [.inr (.inr (7, k0)), .inl v1, .inl v2] => (f_Th_isServed k0 v1 v2 σ).bind fun r => K (.inl (b2i r.1)) r.2
  | _ => none
def c_Th_isServed : List (List CE) := [[(0, .iconst 0, 1, 0, 0, 0), (1, .istore_n 3, 1, 0, 0, 0), (2, .iload_n 3, 1, 0, 0, 0), (3, .aload_n 0, 1, 0, 0, 0), (4, .getfield 20, 3, 7, 1, 0), (7, .getfield 52, 3, 6, 3, 0), (10, .if_icmp .ge 35, 3, 45, 0, 0), (13, .iload_n 2, 1, 0, 0, 0), (14, .iload_n 3, 1, 0, 0, 0), (15, .ishr, 1, 0, 0, 0)], [(16, .iconst 1, 1, 1, 0, 0), (17, .iand, 1, 0, 0, 0), (18, .iconst 1, 1, 1, 0, 0), (19, .if_icmp .ne 20, 3, 39, 0, 0), (22, .aload_n 0, 1, 0, 0, 0), (23, .getfield 20, 3, 7, 1, 0), (26, .iload_n 3, 1, 0, 0, 0), (27, .invokevirtual 56, 3, 54, 2, 13), (30, .iload_n 1, 1, 0, 0, 0), (31, .invokestatic 60, 3, 161, 2, 1)], [(34, .ifCond .eq 5, 3, 39, 0, 0), (37, .iconst 1, 1, 1, 0, 0), (38, .ireturn, 1, 0, 0, 0), (39, .iinc 3 1, 3, 1, 0, 0), (42, .goto (-40), 3, 2, 0, 0), (45, .iconst 0, 1, 0, 0, 0), (46, .ireturn, 1, 0, 0, 0)]]
set_option maxRecDepth 100000 in
theorem oc_Th_isServed : okC 162 c_Th_isServed = true := by decide +kernel
def cu_Th_isServed : List (Nat × List Bool) := [(2, [true, true, true, true])]
noncomputable def F_Th_isServed (O : Type) (a : Nat) (av : List AV) (σ : Mem) (K : AV → Mem → Option O) : Option O := if a = 54 then sm_Ro_first O av σ K else if a = 161 then sm_P_isNear O av σ K else none
theorem fs_Th_isServed {X : CXT} (hX : XC X) (O : Type) : FS X 3 (F_Th_isServed O) := by
  intro a av σ K o h
  unfold F_Th_isServed at h
  rcases ite_s h with ⟨rfl, h⟩ | ⟨_, h⟩
  · obtain ⟨r, h1, h2, h3⟩ := ok_Ro_first hX _ _ _ _ _ h
    exact ⟨r, fun ht => ⟨2, by decide, h1 ht⟩, h2, h3⟩
  rcases ite_s h with ⟨rfl, h⟩ | ⟨_, h⟩
  · obtain ⟨r, h1, h2, h3⟩ := ok_P_isNear hX _ _ _ _ _ h
    exact ⟨r, fun ht => ⟨1, by decide, h1 ht⟩, h2, h3⟩
  cases h
def hd_Th_isServed_2 {O : Type} (g : Nat → Int32 → Int32 → Int32 → Mem → Option O) (ls : OL) (st : List AV) (σ : Mem) : Option O := match ls, st with
  | [some (.inr (.inr (7, k0))), some (.inl v1), some (.inl v2), some (.inl v3)], [] => g k0 v1 v2 v3 σ
  | _, _ => none
theorem hs_Th_isServed_2 {X : CXT} {g : Nat → Int32 → Int32 → Int32 → Mem → Option (Bool × Mem)} (hg : ∀ (k0 : Nat) (v1 : Int32) (v2 : Int32) (v3 : Int32) (s : Mem) (o : Bool × Mem), g k0 v1 v2 v3 s = some o → BSnd X 3 162 (ovZ o) 2 [some (.inr (.inr (7, k0))), some (.inl v1), some (.inl v2), some (.inl v3)] [] s) : ∀ ls st σ o, hd_Th_isServed_2 g ls st σ = some o → BSnd X 3 162 (ovZ o) 2 ls st σ := by
  intro ls st σ o h
  unfold hd_Th_isServed_2 at h
  split at h
  · exact hg _ _ _ _ _ _ h
  · cases h
set_option maxRecDepth 100000 in
theorem s_Th_isServed_2 {X : CXT} (hX : XC X) : ∀ n : Nat, ∀ (k0 : Nat) (v1 : Int32) (v2 : Int32) (v3 : Int32) (s : Mem) (o : Bool × Mem), f_Th_isServed_2 n k0 v1 v2 v3 s = some o → BSnd X 3 162 (ovZ o) 2 [some (.inr (.inr (7, k0))), some (.inl v1), some (.inl v2), some (.inl v3)] [] s := by
  intro n
  induction n with
  | zero => intro k0 v1 v2 v3 s o h; cases h
  | succ n ih =>
    intro k0 v1 v2 v3 s o h
    exact evC (chs := c_Th_isServed) (cuts := cu_Th_isServed) (G := fun pc ls st σ => if pc = 2 then hd_Th_isServed_2 (fun k0 v1 v2 v3 s => f_Th_isServed_2 n k0 v1 v2 v3 s) ls st σ else none) hX.2.1 hX.2.2 (F := F_Th_isServed _) (fs_Th_isServed hX _) (rt_Z rfl) oc_Th_isServed (by
    intro pc ls st σ o h
    rcases ite_s h with ⟨rfl, h⟩ | ⟨_, h⟩
    · exact hs_Th_isServed_2 ih _ _ _ _ h
    cases h) 148 2 _ _ _ _ h
set_option maxRecDepth 100000 in
theorem s_Th_isServed {X : CXT} (hX : XC X) : ∀ (k0 : Nat) (v1 : Int32) (v2 : Int32) (s : Mem) (o : Bool × Mem), f_Th_isServed k0 v1 v2 s = some o → BSnd X 3 162 (ovZ o) 0 (entL [.inr (.inr (7, k0)), .inl v1, .inl v2]) [] s := by
  intro k0 v1 v2 s o h
  rw [f_Th_isServed_eq] at h
  exact evC (chs := c_Th_isServed) (cuts := cu_Th_isServed) (G := fun pc ls st σ => if pc = 2 then hd_Th_isServed_2 (fun k0 v1 v2 v3 s => f_Th_isServed_2 FU k0 v1 v2 v3 s) ls st σ else none) hX.2.1 hX.2.2 (F := F_Th_isServed _) (fs_Th_isServed hX _) (rt_Z rfl) oc_Th_isServed (by
    intro pc ls st σ o h
    rcases ite_s h with ⟨rfl, h⟩ | ⟨_, h⟩
    · exact hs_Th_isServed_2 (s_Th_isServed_2 hX FU) _ _ _ _ h
    cases h) 148 0 _ _ _ _ h
theorem ok_Th_isServed {X : CXT} (hX : XC X) : SemOK X 3 162 sm_Th_isServed := by
  intro O av σ K o h
  unfold sm_Th_isServed at h
  split at h
  · obtain ⟨r, hf, h⟩ := Option.bind_eq_some_iff.mp h
    exact ⟨ovZ r, fun ht => sp_of hX.1 (by decide) (List.mem_range.mpr (by decide)) (by decide +kernel) ht (Nat.le_of_ble_eq_true rfl) (s_Th_isServed hX _ _ _ _ _ hf), trivial, h⟩
  · cases h
noncomputable def f_P_served_16 : Nat → Nat → Int32 → Nat → Int32 → Int32 → Mem → Option (Int32 × Mem)
  | 0, _, _, _, _, _, _ => none
  | n + 1, k0, v1, k2, v3, v4, s =>
    cif ((rI s k2 3) ≤ v4) (
      some (v3, s)) (
      (f_Ro_first k2 v4 s).bind fun r1 =>
      (f_To_nearestKiosk (k0 + 7) r1.1 (rI r1.2 (k0 + 2) 6) r1.2).bind fun r2 =>
      (f_P_isNear r2.1 r1.1 r2.2).bind fun r3 =>
      cif ((b2i r3.1) = 0) (
        (f_Th_isServed (k0 + 30) r1.1 v1 r3.2).bind fun r4 =>
        cif ((b2i r4.1) = 0) (
          f_P_served_16 n k0 v1 k2 v3 (v4 + (1 : Int32)) r4.2) (
          f_P_served_16 n k0 v1 k2 (v3 + (1 : Int32)) (v4 + (1 : Int32)) r4.2)) (
        f_P_served_16 n k0 v1 k2 (v3 + (1 : Int32)) (v4 + (1 : Int32)) r3.2))
noncomputable def b_P_served (k0 : Nat) (v1 : Int32) (s : Mem) : Option (Int32 × Mem) :=
  f_P_served_16 FU k0 v1 (k0 + 31) ((0 : Int32)) ((0 : Int32)) s
noncomputable def f_P_served : Nat → Int32 → Mem → Option (Int32 × Mem) := Classical.choose (⟨b_P_served, rfl⟩ : ∃ f : Nat → Int32 → Mem → Option (Int32 × Mem), f = b_P_served)
theorem f_P_served_eq : f_P_served = b_P_served := Classical.choose_spec (⟨b_P_served, rfl⟩ : ∃ f : Nat → Int32 → Mem → Option (Int32 × Mem), f = b_P_served)
noncomputable def sm_P_served (O : Type) (av : List AV) (σ : Mem) (K : AV → Mem → Option O) : Option O := match av with
  | [.inr (.inr (11, k0)), .inl v1] => (f_P_served k0 v1 σ).bind fun r => K (.inl r.1) r.2
  | _ => none
def c_P_served : List (List CE) := [[(0, .aload_n 0, 1, 0, 0, 0), (1, .getfield 10, 3, 11, 0, 0), (4, .getfield 288, 3, 10, 2, 0), (7, .getfield 292, 3, 7, 0, 0), (10, .astore_n 2, 1, 0, 0, 0), (11, .iconst 0, 1, 0, 0, 0), (12, .istore_n 3, 1, 0, 0, 0), (13, .iconst 0, 1, 0, 0, 0), (14, .istore 4, 2, 0, 0, 0)], [(16, .iload 4, 2, 0, 0, 0), (18, .aload_n 2, 1, 0, 0, 0), (19, .getfield 313, 3, 6, 3, 0), (22, .if_icmp .ge 70, 3, 92, 0, 0), (25, .aload_n 2, 1, 0, 0, 0), (26, .iload 4, 2, 0, 0, 0), (28, .invokevirtual 321, 3, 54, 2, 13), (31, .istore 5, 2, 0, 0, 0)], [(33, .aload_n 0, 1, 0, 0, 0), (34, .getfield 10, 3, 11, 0, 0), (37, .getfield 30, 3, 10, 1, 0), (40, .iload 5, 2, 0, 0, 0), (42, .aload_n 0, 1, 0, 0, 0), (43, .getfield 10, 3, 11, 0, 0), (46, .getfield 70, 3, 10, 0, 0)], [(49, .getfield 274, 3, 4, 6, 0), (52, .invokevirtual 285, 3, 154, 3, 17), (55, .istore 6, 2, 0, 0, 0), (57, .iload 6, 2, 0, 0, 0), (59, .iload 5, 2, 0, 0, 0), (61, .invokestatic 324, 3, 161, 2, 1)], [(64, .ifCond .ne 19, 3, 83, 0, 0), (67, .aload_n 0, 1, 0, 0, 0), (68, .getfield 10, 3, 11, 0, 0), (71, .getfield 288, 3, 10, 2, 0), (74, .iload 5, 2, 0, 0, 0), (76, .iload_n 1, 1, 0, 0, 0), (77, .invokevirtual 327, 3, 162, 3, 15)], [(80, .ifCond .eq 6, 3, 86, 0, 0), (83, .iinc 3 1, 3, 1, 0, 0), (86, .iinc 4 1, 3, 1, 0, 0), (89, .goto (-73), 3, 16, 0, 0), (92, .iload_n 3, 1, 0, 0, 0), (93, .ireturn, 1, 0, 0, 0)]]
set_option maxRecDepth 100000 in
theorem oc_P_served : okC 160 c_P_served = true := by decide +kernel
def cu_P_served : List (Nat × List Bool) := [(16, [true, true, true, true, true])]
noncomputable def F_P_served (O : Type) (a : Nat) (av : List AV) (σ : Mem) (K : AV → Mem → Option O) : Option O := if a = 54 then sm_Ro_first O av σ K else if a = 154 then sm_To_nearestKiosk O av σ K else if a = 161 then sm_P_isNear O av σ K else if a = 162 then sm_Th_isServed O av σ K else none
theorem fs_P_served {X : CXT} (hX : XC X) (O : Type) : FS X 4 (F_P_served O) := by
  intro a av σ K o h
  unfold F_P_served at h
  rcases ite_s h with ⟨rfl, h⟩ | ⟨_, h⟩
  · obtain ⟨r, h1, h2, h3⟩ := ok_Ro_first hX _ _ _ _ _ h
    exact ⟨r, fun ht => ⟨2, by decide, h1 ht⟩, h2, h3⟩
  rcases ite_s h with ⟨rfl, h⟩ | ⟨_, h⟩
  · obtain ⟨r, h1, h2, h3⟩ := ok_To_nearestKiosk hX _ _ _ _ _ h
    exact ⟨r, fun ht => ⟨3, by decide, h1 ht⟩, h2, h3⟩
  rcases ite_s h with ⟨rfl, h⟩ | ⟨_, h⟩
  · obtain ⟨r, h1, h2, h3⟩ := ok_P_isNear hX _ _ _ _ _ h
    exact ⟨r, fun ht => ⟨1, by decide, h1 ht⟩, h2, h3⟩
  rcases ite_s h with ⟨rfl, h⟩ | ⟨_, h⟩
  · obtain ⟨r, h1, h2, h3⟩ := ok_Th_isServed hX _ _ _ _ _ h
    exact ⟨r, fun ht => ⟨3, by decide, h1 ht⟩, h2, h3⟩
  cases h
def hd_P_served_16 {O : Type} (g : Nat → Int32 → Nat → Int32 → Int32 → Mem → Option O) (ls : OL) (st : List AV) (σ : Mem) : Option O := match ls, st with
  | [some (.inr (.inr (11, k0))), some (.inl v1), some (.inr (.inr (6, k2))), some (.inl v3), some (.inl v4)], [] => g k0 v1 k2 v3 v4 σ
  | _, _ => none
theorem hs_P_served_16 {X : CXT} {g : Nat → Int32 → Nat → Int32 → Int32 → Mem → Option (Int32 × Mem)} (hg : ∀ (k0 : Nat) (v1 : Int32) (k2 : Nat) (v3 : Int32) (v4 : Int32) (s : Mem) (o : Int32 × Mem), g k0 v1 k2 v3 v4 s = some o → BSnd X 4 160 (ovI o) 16 [some (.inr (.inr (11, k0))), some (.inl v1), some (.inr (.inr (6, k2))), some (.inl v3), some (.inl v4)] [] s) : ∀ ls st σ o, hd_P_served_16 g ls st σ = some o → BSnd X 4 160 (ovI o) 16 ls st σ := by
  intro ls st σ o h
  unfold hd_P_served_16 at h
  split at h
  · exact hg _ _ _ _ _ _ _ h
  · cases h
set_option maxRecDepth 100000 in
theorem s_P_served_16 {X : CXT} (hX : XC X) : ∀ n : Nat, ∀ (k0 : Nat) (v1 : Int32) (k2 : Nat) (v3 : Int32) (v4 : Int32) (s : Mem) (o : Int32 × Mem), f_P_served_16 n k0 v1 k2 v3 v4 s = some o → BSnd X 4 160 (ovI o) 16 [some (.inr (.inr (11, k0))), some (.inl v1), some (.inr (.inr (6, k2))), some (.inl v3), some (.inl v4)] [] s := by
  intro n
  induction n with
  | zero => intro k0 v1 k2 v3 v4 s o h; cases h
  | succ n ih =>
    intro k0 v1 k2 v3 v4 s o h
    exact evC (chs := c_P_served) (cuts := cu_P_served) (G := fun pc ls st σ => if pc = 16 then hd_P_served_16 (fun k0 v1 k2 v3 v4 s => f_P_served_16 n k0 v1 k2 v3 v4 s) ls st σ else none) hX.2.1 hX.2.2 (F := F_P_served _) (fs_P_served hX _) (rt_I rfl) oc_P_served (by
    intro pc ls st σ o h
    rcases ite_s h with ⟨rfl, h⟩ | ⟨_, h⟩
    · exact hs_P_served_16 ih _ _ _ _ h
    cases h) 212 16 _ _ _ _ h
set_option maxRecDepth 100000 in
theorem s_P_served {X : CXT} (hX : XC X) : ∀ (k0 : Nat) (v1 : Int32) (s : Mem) (o : Int32 × Mem), f_P_served k0 v1 s = some o → BSnd X 4 160 (ovI o) 0 (entL [.inr (.inr (11, k0)), .inl v1]) [] s := by
  intro k0 v1 s o h
  rw [f_P_served_eq] at h
  exact evC (chs := c_P_served) (cuts := cu_P_served) (G := fun pc ls st σ => if pc = 16 then hd_P_served_16 (fun k0 v1 k2 v3 v4 s => f_P_served_16 FU k0 v1 k2 v3 v4 s) ls st σ else none) hX.2.1 hX.2.2 (F := F_P_served _) (fs_P_served hX _) (rt_I rfl) oc_P_served (by
    intro pc ls st σ o h
    rcases ite_s h with ⟨rfl, h⟩ | ⟨_, h⟩
    · exact hs_P_served_16 (s_P_served_16 hX FU) _ _ _ _ h
    cases h) 212 0 _ _ _ _ h
theorem ok_P_served {X : CXT} (hX : XC X) : SemOK X 4 160 sm_P_served := by
  intro O av σ K o h
  unfold sm_P_served at h
  split at h
  · obtain ⟨r, hf, h⟩ := Option.bind_eq_some_iff.mp h
    exact ⟨ovI r, fun ht => sp_of hX.1 (by decide) (List.mem_range.mpr (by decide)) (by decide +kernel) ht (Nat.le_of_ble_eq_true rfl) (s_P_served hX _ _ _ _ hf), trivial, h⟩
  · cases h
noncomputable def b_In_bitCount (v0 : Int32) (s : Mem) : Option (Int32 × Mem) :=
  let x1 : Int32 := v0 - (((v0.toUInt32 >>> (((1 : Int32)).toUInt32 &&& Int32.toUInt32 31)).toInt32) &&& ((1431655765 : Int32)))
  let x2 : Int32 := (x1 &&& ((858993459 : Int32))) + (((x1.toUInt32 >>> (((2 : Int32)).toUInt32 &&& Int32.toUInt32 31)).toInt32) &&& ((858993459 : Int32)))
  let x3 : Int32 := (x2 + ((x2.toUInt32 >>> (((4 : Int32)).toUInt32 &&& Int32.toUInt32 31)).toInt32)) &&& ((252645135 : Int32))
  let x4 : Int32 := x3 + ((x3.toUInt32 >>> (((8 : Int32)).toUInt32 &&& Int32.toUInt32 31)).toInt32)
  let x5 : Int32 := x4 + ((x4.toUInt32 >>> (((16 : Int32)).toUInt32 &&& Int32.toUInt32 31)).toInt32)
  some (x5 &&& ((63 : Int32)), s)
noncomputable def f_In_bitCount : Int32 → Mem → Option (Int32 × Mem) := Classical.choose (⟨b_In_bitCount, rfl⟩ : ∃ f : Int32 → Mem → Option (Int32 × Mem), f = b_In_bitCount)
theorem f_In_bitCount_eq : f_In_bitCount = b_In_bitCount := Classical.choose_spec (⟨b_In_bitCount, rfl⟩ : ∃ f : Int32 → Mem → Option (Int32 × Mem), f = b_In_bitCount)
noncomputable def sm_In_bitCount (O : Type) (av : List AV) (σ : Mem) (K : AV → Mem → Option O) : Option O := match av with
  | [.inl v0] => (f_In_bitCount v0 σ).bind fun r => K (.inl r.1) r.2
  | _ => none
def c_In_bitCount : List (List CE) := [[(0, .iload_n 0, 1, 0, 0, 0), (1, .iload_n 0, 1, 0, 0, 0), (2, .iconst 1, 1, 1, 0, 0), (3, .iushr, 1, 0, 0, 0), (4, .ldc_w 265, 3, 1431655765, 0, 0), (7, .iand, 1, 0, 0, 0), (8, .isub, 1, 0, 0, 0), (9, .istore_n 0, 1, 0, 0, 0), (10, .iload_n 0, 1, 0, 0, 0), (11, .ldc_w 266, 3, 858993459, 0, 0), (14, .iand, 1, 0, 0, 0), (15, .iload_n 0, 1, 0, 0, 0)], [(16, .iconst 2, 1, 2, 0, 0), (17, .iushr, 1, 0, 0, 0), (18, .ldc_w 266, 3, 858993459, 0, 0), (21, .iand, 1, 0, 0, 0), (22, .iadd, 1, 0, 0, 0), (23, .istore_n 0, 1, 0, 0, 0), (24, .iload_n 0, 1, 0, 0, 0), (25, .iload_n 0, 1, 0, 0, 0), (26, .iconst 4, 1, 4, 0, 0), (27, .iushr, 1, 0, 0, 0), (28, .iadd, 1, 0, 0, 0), (29, .ldc_w 267, 3, 252645135, 0, 0)], [(32, .iand, 1, 0, 0, 0), (33, .istore_n 0, 1, 0, 0, 0), (34, .iload_n 0, 1, 0, 0, 0), (35, .iload_n 0, 1, 0, 0, 0), (36, .bipush 8, 2, 8, 0, 0), (38, .iushr, 1, 0, 0, 0), (39, .iadd, 1, 0, 0, 0), (40, .istore_n 0, 1, 0, 0, 0), (41, .iload_n 0, 1, 0, 0, 0), (42, .iload_n 0, 1, 0, 0, 0), (43, .bipush 16, 2, 16, 0, 0), (45, .iushr, 1, 0, 0, 0), (46, .iadd, 1, 0, 0, 0), (47, .istore_n 0, 1, 0, 0, 0)], [(48, .iload_n 0, 1, 0, 0, 0), (49, .bipush 63, 2, 63, 0, 0), (51, .iand, 1, 0, 0, 0), (52, .ireturn, 1, 0, 0, 0)]]
set_option maxRecDepth 100000 in
theorem oc_In_bitCount : okC 163 c_In_bitCount = true := by decide +kernel
def cu_In_bitCount : List (Nat × List Bool) := []
noncomputable def F_In_bitCount (O : Type) (a : Nat) (av : List AV) (σ : Mem) (K : AV → Mem → Option O) : Option O := none
theorem fs_In_bitCount {X : CXT} (hX : XJ X) (O : Type) : FS X 1 (F_In_bitCount O) := by
  intro a av σ K o h
  cases h
set_option maxRecDepth 100000 in
theorem s_In_bitCount {X : CXT} (hX : XJ X) : ∀ (v0 : Int32) (s : Mem) (o : Int32 × Mem), f_In_bitCount v0 s = some o → BSnd X 1 163 (ovI o) 0 (entL [.inl v0]) [] s := by
  intro v0 s o h
  rw [f_In_bitCount_eq] at h
  exact evC (chs := c_In_bitCount) (cuts := cu_In_bitCount) (G := fun pc ls st σ => none) rfl hX.2 (F := F_In_bitCount _) (fs_In_bitCount hX _) (rt_I rfl) oc_In_bitCount (by
    intro pc ls st σ o h
    cases h) 208 0 _ _ _ _ h
theorem ok_In_bitCount {X : CXT} (hX : XJ X) : SemOK X 1 163 sm_In_bitCount := by
  intro O av σ K o h
  unfold sm_In_bitCount at h
  split at h
  · obtain ⟨r, hf, h⟩ := Option.bind_eq_some_iff.mp h
    exact ⟨ovI r, fun ht => sp_of hX.1 (by decide) (List.mem_range.mpr (by decide)) (by decide +kernel) ht (Nat.le_of_ble_eq_true rfl) (s_In_bitCount hX _ _ _ hf), trivial, h⟩
  · cases h
noncomputable def f_P_bestSites_73 (KH : Nat → Int32 → Int32 → Int32 → Int32 → Int32 → Mem → Option (Int32 × Mem)) (k0 : Nat) (v1 : Int32) (v2 : Int32) (v3 : Int32) (v4 : Int32) (v5 : Int32) (v6 : Int32) (v7 : Int32) (s : Mem) : Option (Int32 × Mem) :=
  cif (v4 < v6) (
    KH k0 v1 v2 v5 v6 (v5 + (1 : Int32)) s) (
    cif (v6 = v4) (
      cif (v7 = 0) (
        KH k0 v1 v2 v3 v4 (v5 + (1 : Int32)) s) (
        KH k0 v1 v2 v5 v6 (v5 + (1 : Int32)) s)) (
      KH k0 v1 v2 v3 v4 (v5 + (1 : Int32)) s))
noncomputable def f_P_bestSites_28 : Nat → Nat → Int32 → Int32 → Int32 → Int32 → Int32 → Mem → Option (Int32 × Mem)
  | 0, _, _, _, _, _, _, _ => none
  | n + 1, k0, v1, v2, v3, v4, v5, s =>
    cif (v2 ≤ v5) (
      some (v3, s)) (
      (f_In_bitCount v5 s).bind fun r1 =>
      cif (r1.1 ≤ v1) (
        (f_P_served k0 v5 r1.2).bind fun r2 =>
        (f_In_bitCount v5 r2.2).bind fun r3 =>
        (f_In_bitCount v3 r3.2).bind fun r4 =>
        cif (r4.1 ≤ r3.1) (
          f_P_bestSites_73 (fun k0 v1 v2 v3 v4 v5 s => f_P_bestSites_28 n k0 v1 v2 v3 v4 v5 s) k0 v1 v2 v3 v4 v5 r2.1 ((0 : Int32)) r4.2) (
          f_P_bestSites_73 (fun k0 v1 v2 v3 v4 v5 s => f_P_bestSites_28 n k0 v1 v2 v3 v4 v5 s) k0 v1 v2 v3 v4 v5 r2.1 ((1 : Int32)) r4.2)) (
        f_P_bestSites_28 n k0 v1 v2 v3 v4 (v5 + (1 : Int32)) r1.2))
noncomputable def b_P_bestSites (k0 : Nat) (v1 : Int32) (s : Mem) : Option (Int32 × Mem) :=
  let x1 : Int32 := ((1 : Int32)) <<< ((rI s (k0 + 35) 3) &&& 31)
  (f_P_served k0 ((0 : Int32)) s).bind fun r2 =>
  f_P_bestSites_28 FU k0 v1 x1 ((0 : Int32)) r2.1 ((1 : Int32)) r2.2
noncomputable def f_P_bestSites : Nat → Int32 → Mem → Option (Int32 × Mem) := Classical.choose (⟨b_P_bestSites, rfl⟩ : ∃ f : Nat → Int32 → Mem → Option (Int32 × Mem), f = b_P_bestSites)
theorem f_P_bestSites_eq : f_P_bestSites = b_P_bestSites := Classical.choose_spec (⟨b_P_bestSites, rfl⟩ : ∃ f : Nat → Int32 → Mem → Option (Int32 × Mem), f = b_P_bestSites)
noncomputable def sm_P_bestSites (O : Type) (av : List AV) (σ : Mem) (K : AV → Mem → Option O) : Option O := match av with
  | [.inr (.inr (11, k0)), .inl v1] => (f_P_bestSites k0 v1 σ).bind fun r => K (.inl r.1) r.2
  | _ => none
def c_P_bestSites : List (List CE) := [[(0, .iconst 1, 1, 1, 0, 0), (1, .aload_n 0, 1, 0, 0, 0), (2, .getfield 10, 3, 11, 0, 0), (5, .getfield 288, 3, 10, 2, 0), (8, .getfield 297, 3, 7, 1, 0), (11, .getfield 313, 3, 6, 3, 0), (14, .ishl, 1, 0, 0, 0), (15, .istore_n 2, 1, 0, 0, 0)], [(16, .iconst 0, 1, 0, 0, 0), (17, .istore_n 3, 1, 0, 0, 0), (18, .aload_n 0, 1, 0, 0, 0), (19, .iconst 0, 1, 0, 0, 0), (20, .invokevirtual 310, 3, 160, 2, 23), (23, .istore 4, 2, 0, 0, 0), (25, .iconst 1, 1, 1, 0, 0), (26, .istore 5, 2, 0, 0, 0), (28, .iload 5, 2, 0, 0, 0), (30, .iload_n 2, 1, 0, 0, 0), (31, .if_icmp .ge 74, 3, 105, 0, 0)], [(34, .iload 5, 2, 0, 0, 0), (36, .invokestatic 316, 3, 163, 1, 1), (39, .iload_n 1, 1, 0, 0, 0), (40, .if_icmp .le 6, 3, 46, 0, 0), (43, .goto 56, 3, 99, 0, 0), (46, .aload_n 0, 1, 0, 0, 0), (47, .iload 5, 2, 0, 0, 0)], [(49, .invokevirtual 310, 3, 160, 2, 23), (52, .istore 6, 2, 0, 0, 0), (54, .iload 5, 2, 0, 0, 0), (56, .invokestatic 316, 3, 163, 1, 1), (59, .iload_n 3, 1, 0, 0, 0), (60, .invokestatic 316, 3, 163, 1, 1), (63, .if_icmp .ge 7, 3, 70, 0, 0)], [(66, .iconst 1, 1, 1, 0, 0), (67, .goto 4, 3, 71, 0, 0), (70, .iconst 0, 1, 0, 0, 0), (71, .istore 7, 2, 0, 0, 0), (73, .iload 6, 2, 0, 0, 0), (75, .iload 4, 2, 0, 0, 0), (77, .if_icmp .gt 15, 3, 92, 0, 0)], [(80, .iload 6, 2, 0, 0, 0), (82, .iload 4, 2, 0, 0, 0), (84, .if_icmp .ne 15, 3, 99, 0, 0), (87, .iload 7, 2, 0, 0, 0), (89, .ifCond .eq 10, 3, 99, 0, 0), (92, .iload 5, 2, 0, 0, 0), (94, .istore_n 3, 1, 0, 0, 0), (95, .iload 6, 2, 0, 0, 0)], [(97, .istore 4, 2, 0, 0, 0), (99, .iinc 5 1, 3, 1, 0, 0), (102, .goto (-74), 3, 28, 0, 0), (105, .iload_n 3, 1, 0, 0, 0), (106, .ireturn, 1, 0, 0, 0)]]
set_option maxRecDepth 100000 in
theorem oc_P_bestSites : okC 159 c_P_bestSites = true := by decide +kernel
def cu_P_bestSites : List (Nat × List Bool) := [(73, [true, true, true, true, true, true, true, true]), (28, [true, true, true, true, true, true])]
noncomputable def F_P_bestSites (O : Type) (a : Nat) (av : List AV) (σ : Mem) (K : AV → Mem → Option O) : Option O := if a = 160 then sm_P_served O av σ K else if a = 163 then sm_In_bitCount O av σ K else none
theorem fs_P_bestSites {X : CXT} (hX : XC X) (O : Type) : FS X 5 (F_P_bestSites O) := by
  intro a av σ K o h
  unfold F_P_bestSites at h
  rcases ite_s h with ⟨rfl, h⟩ | ⟨_, h⟩
  · obtain ⟨r, h1, h2, h3⟩ := ok_P_served hX _ _ _ _ _ h
    exact ⟨r, fun ht => ⟨4, by decide, h1 ht⟩, h2, h3⟩
  rcases ite_s h with ⟨rfl, h⟩ | ⟨_, h⟩
  · obtain ⟨r, h1, h2, h3⟩ := ok_In_bitCount hX.j _ _ _ _ _ h
    exact ⟨r, fun ht => ⟨1, by decide, h1 ht⟩, h2, h3⟩
  cases h
def hd_P_bestSites_73 {O : Type} (g : Nat → Int32 → Int32 → Int32 → Int32 → Int32 → Int32 → Int32 → Mem → Option O) (ls : OL) (st : List AV) (σ : Mem) : Option O := match ls, st with
  | [some (.inr (.inr (11, k0))), some (.inl v1), some (.inl v2), some (.inl v3), some (.inl v4), some (.inl v5), some (.inl v6), some (.inl v7)], [] => g k0 v1 v2 v3 v4 v5 v6 v7 σ
  | _, _ => none
theorem hs_P_bestSites_73 {X : CXT} {g : Nat → Int32 → Int32 → Int32 → Int32 → Int32 → Int32 → Int32 → Mem → Option (Int32 × Mem)} (hg : ∀ (k0 : Nat) (v1 : Int32) (v2 : Int32) (v3 : Int32) (v4 : Int32) (v5 : Int32) (v6 : Int32) (v7 : Int32) (s : Mem) (o : Int32 × Mem), g k0 v1 v2 v3 v4 v5 v6 v7 s = some o → BSnd X 5 159 (ovI o) 73 [some (.inr (.inr (11, k0))), some (.inl v1), some (.inl v2), some (.inl v3), some (.inl v4), some (.inl v5), some (.inl v6), some (.inl v7)] [] s) : ∀ ls st σ o, hd_P_bestSites_73 g ls st σ = some o → BSnd X 5 159 (ovI o) 73 ls st σ := by
  intro ls st σ o h
  unfold hd_P_bestSites_73 at h
  split at h
  · exact hg _ _ _ _ _ _ _ _ _ _ h
  · cases h
def hd_P_bestSites_28 {O : Type} (g : Nat → Int32 → Int32 → Int32 → Int32 → Int32 → Mem → Option O) (ls : OL) (st : List AV) (σ : Mem) : Option O := match ls, st with
  | [some (.inr (.inr (11, k0))), some (.inl v1), some (.inl v2), some (.inl v3), some (.inl v4), some (.inl v5)], [] => g k0 v1 v2 v3 v4 v5 σ
  | _, _ => none
theorem hs_P_bestSites_28 {X : CXT} {g : Nat → Int32 → Int32 → Int32 → Int32 → Int32 → Mem → Option (Int32 × Mem)} (hg : ∀ (k0 : Nat) (v1 : Int32) (v2 : Int32) (v3 : Int32) (v4 : Int32) (v5 : Int32) (s : Mem) (o : Int32 × Mem), g k0 v1 v2 v3 v4 v5 s = some o → BSnd X 5 159 (ovI o) 28 [some (.inr (.inr (11, k0))), some (.inl v1), some (.inl v2), some (.inl v3), some (.inl v4), some (.inl v5)] [] s) : ∀ ls st σ o, hd_P_bestSites_28 g ls st σ = some o → BSnd X 5 159 (ovI o) 28 ls st σ := by
  intro ls st σ o h
  unfold hd_P_bestSites_28 at h
  split at h
  · exact hg _ _ _ _ _ _ _ _ h
  · cases h
set_option maxRecDepth 100000 in
theorem s_P_bestSites_73 {X : CXT} (hX : XC X) {KH : Nat → Int32 → Int32 → Int32 → Int32 → Int32 → Mem → Option (Int32 × Mem)} (hKH : ∀ (k0 : Nat) (v1 : Int32) (v2 : Int32) (v3 : Int32) (v4 : Int32) (v5 : Int32) (s : Mem) (o : Int32 × Mem), KH k0 v1 v2 v3 v4 v5 s = some o → BSnd X 5 159 (ovI o) 28 [some (.inr (.inr (11, k0))), some (.inl v1), some (.inl v2), some (.inl v3), some (.inl v4), some (.inl v5)] [] s) : ∀ (k0 : Nat) (v1 : Int32) (v2 : Int32) (v3 : Int32) (v4 : Int32) (v5 : Int32) (v6 : Int32) (v7 : Int32) (s : Mem) (o : Int32 × Mem), f_P_bestSites_73 KH k0 v1 v2 v3 v4 v5 v6 v7 s = some o → BSnd X 5 159 (ovI o) 73 [some (.inr (.inr (11, k0))), some (.inl v1), some (.inl v2), some (.inl v3), some (.inl v4), some (.inl v5), some (.inl v6), some (.inl v7)] [] s := by
  intro k0 v1 v2 v3 v4 v5 v6 v7 s o h
  exact evC (chs := c_P_bestSites) (cuts := cu_P_bestSites) (G := fun pc ls st σ => if pc = 28 then hd_P_bestSites_28 (fun k0 v1 v2 v3 v4 v5 s => KH k0 v1 v2 v3 v4 v5 s) ls st σ else none) hX.2.1 hX.2.2 (F := F_P_bestSites _) (fs_P_bestSites hX _) (rt_I rfl) oc_P_bestSites (by
    intro pc ls st σ o h
    rcases ite_s h with ⟨rfl, h⟩ | ⟨_, h⟩
    · exact hs_P_bestSites_28 hKH _ _ _ _ h
    cases h) 252 73 _ _ _ _ h
set_option maxRecDepth 100000 in
theorem s_P_bestSites_28 {X : CXT} (hX : XC X) : ∀ n : Nat, ∀ (k0 : Nat) (v1 : Int32) (v2 : Int32) (v3 : Int32) (v4 : Int32) (v5 : Int32) (s : Mem) (o : Int32 × Mem), f_P_bestSites_28 n k0 v1 v2 v3 v4 v5 s = some o → BSnd X 5 159 (ovI o) 28 [some (.inr (.inr (11, k0))), some (.inl v1), some (.inl v2), some (.inl v3), some (.inl v4), some (.inl v5)] [] s := by
  intro n
  induction n with
  | zero => intro k0 v1 v2 v3 v4 v5 s o h; cases h
  | succ n ih =>
    intro k0 v1 v2 v3 v4 v5 s o h
    exact evC (chs := c_P_bestSites) (cuts := cu_P_bestSites) (G := fun pc ls st σ => if pc = 73 then hd_P_bestSites_73 (fun k0 v1 v2 v3 v4 v5 v6 v7 s => f_P_bestSites_73 (fun k0 v1 v2 v3 v4 v5 s => f_P_bestSites_28 n k0 v1 v2 v3 v4 v5 s) k0 v1 v2 v3 v4 v5 v6 v7 s) ls st σ else if pc = 28 then hd_P_bestSites_28 (fun k0 v1 v2 v3 v4 v5 s => f_P_bestSites_28 n k0 v1 v2 v3 v4 v5 s) ls st σ else none) hX.2.1 hX.2.2 (F := F_P_bestSites _) (fs_P_bestSites hX _) (rt_I rfl) oc_P_bestSites (by
    intro pc ls st σ o h
    rcases ite_s h with ⟨rfl, h⟩ | ⟨_, h⟩
    · exact hs_P_bestSites_73 (s_P_bestSites_73 hX ih) _ _ _ _ h
    rcases ite_s h with ⟨rfl, h⟩ | ⟨_, h⟩
    · exact hs_P_bestSites_28 ih _ _ _ _ h
    cases h) 252 28 _ _ _ _ h
set_option maxRecDepth 100000 in
theorem s_P_bestSites {X : CXT} (hX : XC X) : ∀ (k0 : Nat) (v1 : Int32) (s : Mem) (o : Int32 × Mem), f_P_bestSites k0 v1 s = some o → BSnd X 5 159 (ovI o) 0 (entL [.inr (.inr (11, k0)), .inl v1]) [] s := by
  intro k0 v1 s o h
  rw [f_P_bestSites_eq] at h
  exact evC (chs := c_P_bestSites) (cuts := cu_P_bestSites) (G := fun pc ls st σ => if pc = 28 then hd_P_bestSites_28 (fun k0 v1 v2 v3 v4 v5 s => f_P_bestSites_28 FU k0 v1 v2 v3 v4 v5 s) ls st σ else none) hX.2.1 hX.2.2 (F := F_P_bestSites _) (fs_P_bestSites hX _) (rt_I rfl) oc_P_bestSites (by
    intro pc ls st σ o h
    rcases ite_s h with ⟨rfl, h⟩ | ⟨_, h⟩
    · exact hs_P_bestSites_28 (s_P_bestSites_28 hX FU) _ _ _ _ h
    cases h) 252 0 _ _ _ _ h
theorem ok_P_bestSites {X : CXT} (hX : XC X) : SemOK X 5 159 sm_P_bestSites := by
  intro O av σ K o h
  unfold sm_P_bestSites at h
  split at h
  · obtain ⟨r, hf, h⟩ := Option.bind_eq_some_iff.mp h
    exact ⟨ovI r, fun ht => sp_of hX.1 (by decide) (List.mem_range.mpr (by decide)) (by decide +kernel) ht (Nat.le_of_ble_eq_true rfl) (s_P_bestSites hX _ _ _ _ hf), trivial, h⟩
  · cases h
noncomputable def b_P_serves (k0 : Nat) (v1 : Int32) (v2 : Int32) (s : Mem) : Option (Int32 × Mem) :=
  (f_P_within v1 ((1 : Int32)) ((6 : Int32)) s).bind fun r1 =>
  cif ((b2i r1.1) = 0) (
    some ((-1 : Int32), r1.2)) (
    (f_P_within v2 ((0 : Int32)) ((1 : Int32)) r1.2).bind fun r2 =>
    cif ((b2i r2.1) = 0) (
      some ((-1 : Int32), r2.2)) (
      (f_P_bestSites k0 v1 r2.2).bind fun r3 =>
      cif (v2 = 0) (
        (f_P_served k0 r3.1 r3.2).bind fun r4 =>
        some (r4.1, r4.2)) (
        some (r3.1, r3.2))))
noncomputable def f_P_serves : Nat → Int32 → Int32 → Mem → Option (Int32 × Mem) := Classical.choose (⟨b_P_serves, rfl⟩ : ∃ f : Nat → Int32 → Int32 → Mem → Option (Int32 × Mem), f = b_P_serves)
theorem f_P_serves_eq : f_P_serves = b_P_serves := Classical.choose_spec (⟨b_P_serves, rfl⟩ : ∃ f : Nat → Int32 → Int32 → Mem → Option (Int32 × Mem), f = b_P_serves)
noncomputable def sm_P_serves (O : Type) (av : List AV) (σ : Mem) (K : AV → Mem → Option O) : Option O := match av with
  | [.inr (.inr (11, k0)), .inl v1, .inl v2] => (f_P_serves k0 v1 v2 σ).bind fun r => K (.inl r.1) r.2
  | _ => none
def c_P_serves : List (List CE) := [[(0, .iload_n 1, 1, 0, 0, 0), (1, .iconst 1, 1, 1, 0, 0), (2, .bipush 6, 2, 6, 0, 0), (4, .invokestatic 80, 3, 17, 3, 1), (7, .ifCond .eq 12, 3, 19, 0, 0), (10, .iload_n 2, 1, 0, 0, 0), (11, .iconst 0, 1, 0, 0, 0), (12, .iconst 1, 1, 1, 0, 0), (13, .invokestatic 80, 3, 17, 3, 1)], [(16, .ifCond .ne 5, 3, 21, 0, 0), (19, .iconst (-1), 1, 1, 0, 1), (20, .ireturn, 1, 0, 0, 0), (21, .aload_n 0, 1, 0, 0, 0), (22, .iload_n 1, 1, 0, 0, 0), (23, .invokevirtual 306, 3, 159, 2, 23), (26, .istore_n 3, 1, 0, 0, 0), (27, .iload_n 2, 1, 0, 0, 0), (28, .ifCond .ne 11, 3, 39, 0, 0), (31, .aload_n 0, 1, 0, 0, 0)], [(32, .iload_n 3, 1, 0, 0, 0), (33, .invokevirtual 310, 3, 160, 2, 23), (36, .goto 4, 3, 40, 0, 0), (39, .iload_n 3, 1, 0, 0, 0), (40, .ireturn, 1, 0, 0, 0)]]
set_option maxRecDepth 100000 in
theorem oc_P_serves : okC 158 c_P_serves = true := by decide +kernel
def cu_P_serves : List (Nat × List Bool) := []
noncomputable def F_P_serves (O : Type) (a : Nat) (av : List AV) (σ : Mem) (K : AV → Mem → Option O) : Option O := if a = 17 then sm_P_within O av σ K else if a = 159 then sm_P_bestSites O av σ K else if a = 160 then sm_P_served O av σ K else none
theorem fs_P_serves {X : CXT} (hX : XC X) (O : Type) : FS X 6 (F_P_serves O) := by
  intro a av σ K o h
  unfold F_P_serves at h
  rcases ite_s h with ⟨rfl, h⟩ | ⟨_, h⟩
  · obtain ⟨r, h1, h2, h3⟩ := ok_P_within hX _ _ _ _ _ h
    exact ⟨r, fun ht => ⟨1, by decide, h1 ht⟩, h2, h3⟩
  rcases ite_s h with ⟨rfl, h⟩ | ⟨_, h⟩
  · obtain ⟨r, h1, h2, h3⟩ := ok_P_bestSites hX _ _ _ _ _ h
    exact ⟨r, fun ht => ⟨5, by decide, h1 ht⟩, h2, h3⟩
  rcases ite_s h with ⟨rfl, h⟩ | ⟨_, h⟩
  · obtain ⟨r, h1, h2, h3⟩ := ok_P_served hX _ _ _ _ _ h
    exact ⟨r, fun ht => ⟨4, by decide, h1 ht⟩, h2, h3⟩
  cases h
set_option maxRecDepth 100000 in
theorem s_P_serves {X : CXT} (hX : XC X) : ∀ (k0 : Nat) (v1 : Int32) (v2 : Int32) (s : Mem) (o : Int32 × Mem), f_P_serves k0 v1 v2 s = some o → BSnd X 6 158 (ovI o) 0 (entL [.inr (.inr (11, k0)), .inl v1, .inl v2]) [] s := by
  intro k0 v1 v2 s o h
  rw [f_P_serves_eq] at h
  exact evC (chs := c_P_serves) (cuts := cu_P_serves) (G := fun pc ls st σ => none) hX.2.1 hX.2.2 (F := F_P_serves _) (fs_P_serves hX _) (rt_I rfl) oc_P_serves (by
    intro pc ls st σ o h
    cases h) 136 0 _ _ _ _ h
theorem ok_P_serves {X : CXT} (hX : XC X) : SemOK X 6 158 sm_P_serves := by
  intro O av σ K o h
  unfold sm_P_serves at h
  split at h
  · obtain ⟨r, hf, h⟩ := Option.bind_eq_some_iff.mp h
    exact ⟨ovI r, fun ht => sp_of hX.1 (by decide) (List.mem_range.mpr (by decide)) (by decide +kernel) ht (Nat.le_of_ble_eq_true rfl) (s_P_serves hX _ _ _ _ _ hf), trivial, h⟩
  · cases h
noncomputable def f_Pi_firstBroken_2 : Nat → Nat → Int32 → Mem → Option (Int32 × Mem)
  | 0, _, _, _ => none
  | n + 1, k0, v1, s =>
    cif (((200 : Int32)) ≤ v1) (
      some ((200 : Int32), s)) (
      gd (inb v1 (lenC (k0 + 1))) <|
      cif ((rI s (k0 + 1) (ix v1)) = 0) (
        f_Pi_firstBroken_2 n k0 (v1 + (1 : Int32)) s) (
        some (v1, s)))
noncomputable def b_Pi_firstBroken (k0 : Nat) (s : Mem) : Option (Int32 × Mem) :=
  f_Pi_firstBroken_2 FU k0 ((0 : Int32)) s
noncomputable def f_Pi_firstBroken : Nat → Mem → Option (Int32 × Mem) := Classical.choose (⟨b_Pi_firstBroken, rfl⟩ : ∃ f : Nat → Mem → Option (Int32 × Mem), f = b_Pi_firstBroken)
theorem f_Pi_firstBroken_eq : f_Pi_firstBroken = b_Pi_firstBroken := Classical.choose_spec (⟨b_Pi_firstBroken, rfl⟩ : ∃ f : Nat → Mem → Option (Int32 × Mem), f = b_Pi_firstBroken)
noncomputable def sm_Pi_firstBroken (O : Type) (av : List AV) (σ : Mem) (K : AV → Mem → Option O) : Option O := match av with
  | [.inr (.inr (4, k0))] => (f_Pi_firstBroken k0 σ).bind fun r => K (.inl r.1) r.2
  | _ => none
def c_Pi_firstBroken : List (List CE) := [[(0, .iconst 0, 1, 0, 0, 0), (1, .istore_n 1, 1, 0, 0, 0), (2, .iload_n 1, 1, 0, 0, 0), (3, .sipush 200, 3, 200, 0, 0), (6, .if_icmp .ge 20, 3, 26, 0, 0), (9, .aload_n 0, 1, 0, 0, 0), (10, .getfield 9, 3, 4, 1, 0), (13, .iload_n 1, 1, 0, 0, 0), (14, .baload, 1, 0, 0, 0), (15, .ifCond .eq 5, 3, 20, 0, 0)], [(18, .iload_n 1, 1, 0, 0, 0), (19, .ireturn, 1, 0, 0, 0), (20, .iinc 1 1, 3, 1, 0, 0), (23, .goto (-21), 3, 2, 0, 0), (26, .sipush 200, 3, 200, 0, 0), (29, .ireturn, 1, 0, 0, 0)]]
set_option maxRecDepth 100000 in
theorem oc_Pi_firstBroken : okC 166 c_Pi_firstBroken = true := by decide +kernel
def cu_Pi_firstBroken : List (Nat × List Bool) := [(2, [true, true])]
noncomputable def F_Pi_firstBroken (O : Type) (a : Nat) (av : List AV) (σ : Mem) (K : AV → Mem → Option O) : Option O := none
theorem fs_Pi_firstBroken {X : CXT} (hX : XC X) (O : Type) : FS X 1 (F_Pi_firstBroken O) := by
  intro a av σ K o h
  cases h
def hd_Pi_firstBroken_2 {O : Type} (g : Nat → Int32 → Mem → Option O) (ls : OL) (st : List AV) (σ : Mem) : Option O := match ls, st with
  | [some (.inr (.inr (4, k0))), some (.inl v1)], [] => g k0 v1 σ
  | _, _ => none
theorem hs_Pi_firstBroken_2 {X : CXT} {g : Nat → Int32 → Mem → Option (Int32 × Mem)} (hg : ∀ (k0 : Nat) (v1 : Int32) (s : Mem) (o : Int32 × Mem), g k0 v1 s = some o → BSnd X 1 166 (ovI o) 2 [some (.inr (.inr (4, k0))), some (.inl v1)] [] s) : ∀ ls st σ o, hd_Pi_firstBroken_2 g ls st σ = some o → BSnd X 1 166 (ovI o) 2 ls st σ := by
  intro ls st σ o h
  unfold hd_Pi_firstBroken_2 at h
  split at h
  · exact hg _ _ _ _ h
  · cases h
set_option maxRecDepth 100000 in
theorem s_Pi_firstBroken_2 {X : CXT} (hX : XC X) : ∀ n : Nat, ∀ (k0 : Nat) (v1 : Int32) (s : Mem) (o : Int32 × Mem), f_Pi_firstBroken_2 n k0 v1 s = some o → BSnd X 1 166 (ovI o) 2 [some (.inr (.inr (4, k0))), some (.inl v1)] [] s := by
  intro n
  induction n with
  | zero => intro k0 v1 s o h; cases h
  | succ n ih =>
    intro k0 v1 s o h
    exact evC (chs := c_Pi_firstBroken) (cuts := cu_Pi_firstBroken) (G := fun pc ls st σ => if pc = 2 then hd_Pi_firstBroken_2 (fun k0 v1 s => f_Pi_firstBroken_2 n k0 v1 s) ls st σ else none) hX.2.1 hX.2.2 (F := F_Pi_firstBroken _) (fs_Pi_firstBroken hX _) (rt_I rfl) oc_Pi_firstBroken (by
    intro pc ls st σ o h
    rcases ite_s h with ⟨rfl, h⟩ | ⟨_, h⟩
    · exact hs_Pi_firstBroken_2 ih _ _ _ _ h
    cases h) 104 2 _ _ _ _ h
set_option maxRecDepth 100000 in
theorem s_Pi_firstBroken {X : CXT} (hX : XC X) : ∀ (k0 : Nat) (s : Mem) (o : Int32 × Mem), f_Pi_firstBroken k0 s = some o → BSnd X 1 166 (ovI o) 0 (entL [.inr (.inr (4, k0))]) [] s := by
  intro k0 s o h
  rw [f_Pi_firstBroken_eq] at h
  exact evC (chs := c_Pi_firstBroken) (cuts := cu_Pi_firstBroken) (G := fun pc ls st σ => if pc = 2 then hd_Pi_firstBroken_2 (fun k0 v1 s => f_Pi_firstBroken_2 FU k0 v1 s) ls st σ else none) hX.2.1 hX.2.2 (F := F_Pi_firstBroken _) (fs_Pi_firstBroken hX _) (rt_I rfl) oc_Pi_firstBroken (by
    intro pc ls st σ o h
    rcases ite_s h with ⟨rfl, h⟩ | ⟨_, h⟩
    · exact hs_Pi_firstBroken_2 (s_Pi_firstBroken_2 hX FU) _ _ _ _ h
    cases h) 104 0 _ _ _ _ h
theorem ok_Pi_firstBroken {X : CXT} (hX : XC X) : SemOK X 1 166 sm_Pi_firstBroken := by
  intro O av σ K o h
  unfold sm_Pi_firstBroken at h
  split at h
  · obtain ⟨r, hf, h⟩ := Option.bind_eq_some_iff.mp h
    exact ⟨ovI r, fun ht => sp_of hX.1 (by decide) (List.mem_range.mpr (by decide)) (by decide +kernel) ht (Nat.le_of_ble_eq_true rfl) (s_Pi_firstBroken hX _ _ _ hf), trivial, h⟩
  · cases h
noncomputable def f_Pi_countBeyond_9 : Nat → Nat → Int32 → Int32 → Int32 → Mem → Option (Int32 × Mem)
  | 0, _, _, _, _, _ => none
  | n + 1, k0, v1, v2, v3, s =>
    cif (((12 : Int32)) ≤ v3) (
      some (v2, s)) (
      gd (inb v3 (lenC (k0 + 2))) <|
      cif ((rI s (k0 + 2) (ix v3)) ≤ v1) (
        let x1 : Int32 := v2 + ((0 : Int32))
        f_Pi_countBeyond_9 n k0 v1 x1 (v3 + (1 : Int32)) s) (
        let x2 : Int32 := v2 + ((1 : Int32))
        f_Pi_countBeyond_9 n k0 v1 x2 (v3 + (1 : Int32)) s))
noncomputable def b_Pi_countBeyond (k0 : Nat) (s : Mem) : Option (Int32 × Mem) :=
  (f_Pi_firstBroken k0 s).bind fun r1 =>
  f_Pi_countBeyond_9 FU k0 r1.1 ((0 : Int32)) ((0 : Int32)) r1.2
noncomputable def f_Pi_countBeyond : Nat → Mem → Option (Int32 × Mem) := Classical.choose (⟨b_Pi_countBeyond, rfl⟩ : ∃ f : Nat → Mem → Option (Int32 × Mem), f = b_Pi_countBeyond)
theorem f_Pi_countBeyond_eq : f_Pi_countBeyond = b_Pi_countBeyond := Classical.choose_spec (⟨b_Pi_countBeyond, rfl⟩ : ∃ f : Nat → Mem → Option (Int32 × Mem), f = b_Pi_countBeyond)
noncomputable def sm_Pi_countBeyond (O : Type) (av : List AV) (σ : Mem) (K : AV → Mem → Option O) : Option O := match av with
  | [.inr (.inr (4, k0))] => (f_Pi_countBeyond k0 σ).bind fun r => K (.inl r.1) r.2
  | _ => none
def c_Pi_countBeyond : List (List CE) := [[(0, .aload_n 0, 1, 0, 0, 0), (1, .invokevirtual 58, 3, 166, 1, 9), (4, .istore_n 1, 1, 0, 0, 0), (5, .iconst 0, 1, 0, 0, 0), (6, .istore_n 2, 1, 0, 0, 0), (7, .iconst 0, 1, 0, 0, 0), (8, .istore_n 3, 1, 0, 0, 0), (9, .iload_n 3, 1, 0, 0, 0), (10, .bipush 12, 2, 12, 0, 0), (12, .if_icmp .ge 27, 3, 39, 0, 0), (15, .iload_n 2, 1, 0, 0, 0)], [(16, .aload_n 0, 1, 0, 0, 0), (17, .getfield 15, 3, 4, 2, 0), (20, .iload_n 3, 1, 0, 0, 0), (21, .iaload, 1, 0, 0, 0), (22, .iload_n 1, 1, 0, 0, 0), (23, .if_icmp .le 7, 3, 30, 0, 0), (26, .iconst 1, 1, 1, 0, 0), (27, .goto 4, 3, 31, 0, 0), (30, .iconst 0, 1, 0, 0, 0), (31, .iadd, 1, 0, 0, 0)], [(32, .istore_n 2, 1, 0, 0, 0), (33, .iinc 3 1, 3, 1, 0, 0), (36, .goto (-27), 3, 9, 0, 0), (39, .iload_n 2, 1, 0, 0, 0), (40, .ireturn, 1, 0, 0, 0)]]
set_option maxRecDepth 100000 in
theorem oc_Pi_countBeyond : okC 165 c_Pi_countBeyond = true := by decide +kernel
def cu_Pi_countBeyond : List (Nat × List Bool) := [(9, [true, true, true, true])]
noncomputable def F_Pi_countBeyond (O : Type) (a : Nat) (av : List AV) (σ : Mem) (K : AV → Mem → Option O) : Option O := if a = 166 then sm_Pi_firstBroken O av σ K else none
theorem fs_Pi_countBeyond {X : CXT} (hX : XC X) (O : Type) : FS X 2 (F_Pi_countBeyond O) := by
  intro a av σ K o h
  unfold F_Pi_countBeyond at h
  rcases ite_s h with ⟨rfl, h⟩ | ⟨_, h⟩
  · obtain ⟨r, h1, h2, h3⟩ := ok_Pi_firstBroken hX _ _ _ _ _ h
    exact ⟨r, fun ht => ⟨1, by decide, h1 ht⟩, h2, h3⟩
  cases h
def hd_Pi_countBeyond_9 {O : Type} (g : Nat → Int32 → Int32 → Int32 → Mem → Option O) (ls : OL) (st : List AV) (σ : Mem) : Option O := match ls, st with
  | [some (.inr (.inr (4, k0))), some (.inl v1), some (.inl v2), some (.inl v3)], [] => g k0 v1 v2 v3 σ
  | _, _ => none
theorem hs_Pi_countBeyond_9 {X : CXT} {g : Nat → Int32 → Int32 → Int32 → Mem → Option (Int32 × Mem)} (hg : ∀ (k0 : Nat) (v1 : Int32) (v2 : Int32) (v3 : Int32) (s : Mem) (o : Int32 × Mem), g k0 v1 v2 v3 s = some o → BSnd X 2 165 (ovI o) 9 [some (.inr (.inr (4, k0))), some (.inl v1), some (.inl v2), some (.inl v3)] [] s) : ∀ ls st σ o, hd_Pi_countBeyond_9 g ls st σ = some o → BSnd X 2 165 (ovI o) 9 ls st σ := by
  intro ls st σ o h
  unfold hd_Pi_countBeyond_9 at h
  split at h
  · exact hg _ _ _ _ _ _ h
  · cases h
set_option maxRecDepth 100000 in
theorem s_Pi_countBeyond_9 {X : CXT} (hX : XC X) : ∀ n : Nat, ∀ (k0 : Nat) (v1 : Int32) (v2 : Int32) (v3 : Int32) (s : Mem) (o : Int32 × Mem), f_Pi_countBeyond_9 n k0 v1 v2 v3 s = some o → BSnd X 2 165 (ovI o) 9 [some (.inr (.inr (4, k0))), some (.inl v1), some (.inl v2), some (.inl v3)] [] s := by
  intro n
  induction n with
  | zero => intro k0 v1 v2 v3 s o h; cases h
  | succ n ih =>
    intro k0 v1 v2 v3 s o h
    exact evC (chs := c_Pi_countBeyond) (cuts := cu_Pi_countBeyond) (G := fun pc ls st σ => if pc = 9 then hd_Pi_countBeyond_9 (fun k0 v1 v2 v3 s => f_Pi_countBeyond_9 n k0 v1 v2 v3 s) ls st σ else none) hX.2.1 hX.2.2 (F := F_Pi_countBeyond _) (fs_Pi_countBeyond hX _) (rt_I rfl) oc_Pi_countBeyond (by
    intro pc ls st σ o h
    rcases ite_s h with ⟨rfl, h⟩ | ⟨_, h⟩
    · exact hs_Pi_countBeyond_9 ih _ _ _ _ h
    cases h) 144 9 _ _ _ _ h
set_option maxRecDepth 100000 in
theorem s_Pi_countBeyond {X : CXT} (hX : XC X) : ∀ (k0 : Nat) (s : Mem) (o : Int32 × Mem), f_Pi_countBeyond k0 s = some o → BSnd X 2 165 (ovI o) 0 (entL [.inr (.inr (4, k0))]) [] s := by
  intro k0 s o h
  rw [f_Pi_countBeyond_eq] at h
  exact evC (chs := c_Pi_countBeyond) (cuts := cu_Pi_countBeyond) (G := fun pc ls st σ => if pc = 9 then hd_Pi_countBeyond_9 (fun k0 v1 v2 v3 s => f_Pi_countBeyond_9 FU k0 v1 v2 v3 s) ls st σ else none) hX.2.1 hX.2.2 (F := F_Pi_countBeyond _) (fs_Pi_countBeyond hX _) (rt_I rfl) oc_Pi_countBeyond (by
    intro pc ls st σ o h
    rcases ite_s h with ⟨rfl, h⟩ | ⟨_, h⟩
    · exact hs_Pi_countBeyond_9 (s_Pi_countBeyond_9 hX FU) _ _ _ _ h
    cases h) 144 0 _ _ _ _ h
theorem ok_Pi_countBeyond {X : CXT} (hX : XC X) : SemOK X 2 165 sm_Pi_countBeyond := by
  intro O av σ K o h
  unfold sm_Pi_countBeyond at h
  split at h
  · obtain ⟨r, hf, h⟩ := Option.bind_eq_some_iff.mp h
    exact ⟨ovI r, fun ht => sp_of hX.1 (by decide) (List.mem_range.mpr (by decide)) (by decide +kernel) ht (Nat.le_of_ble_eq_true rfl) (s_Pi_countBeyond hX _ _ _ hf), trivial, h⟩
  · cases h
noncomputable def b_Ma_floorDiv (v0 : Int32) (v1 : Int32) (s : Mem) : Option (Int32 × Mem) :=
  if v1 = 0 then none else
  let x1 : Int32 := v0 / v1
  cif (0 ≤ (v0 ^^^ v1)) (
    some (x1, s)) (
    cif ((x1 * v1) = v0) (
      some (x1, s)) (
      some (x1 - ((1 : Int32)), s)))
noncomputable def f_Ma_floorDiv : Int32 → Int32 → Mem → Option (Int32 × Mem) := Classical.choose (⟨b_Ma_floorDiv, rfl⟩ : ∃ f : Int32 → Int32 → Mem → Option (Int32 × Mem), f = b_Ma_floorDiv)
theorem f_Ma_floorDiv_eq : f_Ma_floorDiv = b_Ma_floorDiv := Classical.choose_spec (⟨b_Ma_floorDiv, rfl⟩ : ∃ f : Int32 → Int32 → Mem → Option (Int32 × Mem), f = b_Ma_floorDiv)
noncomputable def sm_Ma_floorDiv (O : Type) (av : List AV) (σ : Mem) (K : AV → Mem → Option O) : Option O := match av with
  | [.inl v0, .inl v1] => (f_Ma_floorDiv v0 v1 σ).bind fun r => K (.inl r.1) r.2
  | _ => none
def c_Ma_floorDiv : List (List CE) := [[(0, .iload_n 0, 1, 0, 0, 0), (1, .iload_n 1, 1, 0, 0, 0), (2, .idiv, 1, 0, 0, 0), (3, .istore_n 2, 1, 0, 0, 0), (4, .iload_n 0, 1, 0, 0, 0), (5, .iload_n 1, 1, 0, 0, 0), (6, .ixor, 1, 0, 0, 0), (7, .ifCond .ge 14, 3, 21, 0, 0), (10, .iload_n 2, 1, 0, 0, 0), (11, .iload_n 1, 1, 0, 0, 0), (12, .imul, 1, 0, 0, 0), (13, .iload_n 0, 1, 0, 0, 0), (14, .if_icmp .eq 7, 3, 21, 0, 0)], [(17, .iload_n 2, 1, 0, 0, 0), (18, .iconst 1, 1, 1, 0, 0), (19, .isub, 1, 0, 0, 0), (20, .ireturn, 1, 0, 0, 0), (21, .iload_n 2, 1, 0, 0, 0), (22, .ireturn, 1, 0, 0, 0)]]
set_option maxRecDepth 100000 in
theorem oc_Ma_floorDiv : okC 167 c_Ma_floorDiv = true := by decide +kernel
def cu_Ma_floorDiv : List (Nat × List Bool) := []
noncomputable def F_Ma_floorDiv (O : Type) (a : Nat) (av : List AV) (σ : Mem) (K : AV → Mem → Option O) : Option O := none
theorem fs_Ma_floorDiv {X : CXT} (hX : XJ X) (O : Type) : FS X 1 (F_Ma_floorDiv O) := by
  intro a av σ K o h
  cases h
set_option maxRecDepth 100000 in
theorem s_Ma_floorDiv {X : CXT} (hX : XJ X) : ∀ (v0 : Int32) (v1 : Int32) (s : Mem) (o : Int32 × Mem), f_Ma_floorDiv v0 v1 s = some o → BSnd X 1 167 (ovI o) 0 (entL [.inl v0, .inl v1]) [] s := by
  intro v0 v1 s o h
  rw [f_Ma_floorDiv_eq] at h
  exact evC (chs := c_Ma_floorDiv) (cuts := cu_Ma_floorDiv) (G := fun pc ls st σ => none) rfl hX.2 (F := F_Ma_floorDiv _) (fs_Ma_floorDiv hX _) (rt_I rfl) oc_Ma_floorDiv (by
    intro pc ls st σ o h
    cases h) 116 0 _ _ _ _ h
theorem ok_Ma_floorDiv {X : CXT} (hX : XJ X) : SemOK X 1 167 sm_Ma_floorDiv := by
  intro O av σ K o h
  unfold sm_Ma_floorDiv at h
  split at h
  · obtain ⟨r, hf, h⟩ := Option.bind_eq_some_iff.mp h
    exact ⟨ovI r, fun ht => sp_of hX.1 (by decide) (List.mem_range.mpr (by decide)) (by decide +kernel) ht (Nat.le_of_ble_eq_true rfl) (s_Ma_floorDiv hX _ _ _ _ hf), trivial, h⟩
  · cases h
noncomputable def b_P_boats (k0 : Nat) (v1 : Int32) (s : Mem) : Option (Int32 × Mem) :=
  (f_P_within v1 ((1 : Int32)) ((9 : Int32)) s).bind fun r1 =>
  cif ((b2i r1.1) = 0) (
    some ((-1 : Int32), r1.2)) (
    (f_Pi_countBeyond (k0 + 2) r1.2).bind fun r2 =>
    cif (((1 : Int32)) < r2.1) (
      cif (v1 = ((1 : Int32))) (
        some ((-1 : Int32), r2.2)) (
        (f_Ma_floorDiv (((r2.1 - ((1 : Int32))) + v1) - ((2 : Int32))) (v1 - ((1 : Int32))) r2.2).bind fun r3 =>
        some ((((2 : Int32)) * r3.1) - ((1 : Int32)), r3.2))) (
      some (r2.1, r2.2)))
noncomputable def f_P_boats : Nat → Int32 → Mem → Option (Int32 × Mem) := Classical.choose (⟨b_P_boats, rfl⟩ : ∃ f : Nat → Int32 → Mem → Option (Int32 × Mem), f = b_P_boats)
theorem f_P_boats_eq : f_P_boats = b_P_boats := Classical.choose_spec (⟨b_P_boats, rfl⟩ : ∃ f : Nat → Int32 → Mem → Option (Int32 × Mem), f = b_P_boats)
noncomputable def sm_P_boats (O : Type) (av : List AV) (σ : Mem) (K : AV → Mem → Option O) : Option O := match av with
  | [.inr (.inr (11, k0)), .inl v1] => (f_P_boats k0 v1 σ).bind fun r => K (.inl r.1) r.2
  | _ => none
def c_P_boats : List (List CE) := [[(0, .iload_n 1, 1, 0, 0, 0), (1, .iconst 1, 1, 1, 0, 0), (2, .bipush 9, 2, 9, 0, 0), (4, .invokestatic 80, 3, 17, 3, 1), (7, .ifCond .ne 5, 3, 12, 0, 0), (10, .iconst (-1), 1, 1, 0, 1), (11, .ireturn, 1, 0, 0, 0), (12, .aload_n 0, 1, 0, 0, 0), (13, .getfield 10, 3, 11, 0, 0)], [(16, .getfield 70, 3, 10, 0, 0), (19, .invokevirtual 330, 3, 165, 1, 9), (22, .istore_n 2, 1, 0, 0, 0), (23, .iload_n 2, 1, 0, 0, 0), (24, .iconst 1, 1, 1, 0, 0), (25, .if_icmp .gt 5, 3, 30, 0, 0), (28, .iload_n 2, 1, 0, 0, 0), (29, .ireturn, 1, 0, 0, 0), (30, .iload_n 1, 1, 0, 0, 0), (31, .iconst 1, 1, 1, 0, 0)], [(32, .if_icmp .ne 5, 3, 37, 0, 0), (35, .iconst (-1), 1, 1, 0, 1), (36, .ireturn, 1, 0, 0, 0), (37, .iload_n 2, 1, 0, 0, 0), (38, .iconst 1, 1, 1, 0, 0), (39, .isub, 1, 0, 0, 0), (40, .iload_n 1, 1, 0, 0, 0), (41, .iadd, 1, 0, 0, 0), (42, .iconst 2, 1, 2, 0, 0), (43, .isub, 1, 0, 0, 0), (44, .iload_n 1, 1, 0, 0, 0), (45, .iconst 1, 1, 1, 0, 0), (46, .isub, 1, 0, 0, 0), (47, .invokestatic 333, 3, 167, 2, 1)], [(50, .istore_n 3, 1, 0, 0, 0), (51, .iconst 2, 1, 2, 0, 0), (52, .iload_n 3, 1, 0, 0, 0), (53, .imul, 1, 0, 0, 0), (54, .iconst 1, 1, 1, 0, 0), (55, .isub, 1, 0, 0, 0), (56, .ireturn, 1, 0, 0, 0)]]
set_option maxRecDepth 100000 in
theorem oc_P_boats : okC 164 c_P_boats = true := by decide +kernel
def cu_P_boats : List (Nat × List Bool) := []
noncomputable def F_P_boats (O : Type) (a : Nat) (av : List AV) (σ : Mem) (K : AV → Mem → Option O) : Option O := if a = 17 then sm_P_within O av σ K else if a = 165 then sm_Pi_countBeyond O av σ K else if a = 167 then sm_Ma_floorDiv O av σ K else none
theorem fs_P_boats {X : CXT} (hX : XC X) (O : Type) : FS X 3 (F_P_boats O) := by
  intro a av σ K o h
  unfold F_P_boats at h
  rcases ite_s h with ⟨rfl, h⟩ | ⟨_, h⟩
  · obtain ⟨r, h1, h2, h3⟩ := ok_P_within hX _ _ _ _ _ h
    exact ⟨r, fun ht => ⟨1, by decide, h1 ht⟩, h2, h3⟩
  rcases ite_s h with ⟨rfl, h⟩ | ⟨_, h⟩
  · obtain ⟨r, h1, h2, h3⟩ := ok_Pi_countBeyond hX _ _ _ _ _ h
    exact ⟨r, fun ht => ⟨2, by decide, h1 ht⟩, h2, h3⟩
  rcases ite_s h with ⟨rfl, h⟩ | ⟨_, h⟩
  · obtain ⟨r, h1, h2, h3⟩ := ok_Ma_floorDiv hX.j _ _ _ _ _ h
    exact ⟨r, fun ht => ⟨1, by decide, h1 ht⟩, h2, h3⟩
  cases h
set_option maxRecDepth 100000 in
theorem s_P_boats {X : CXT} (hX : XC X) : ∀ (k0 : Nat) (v1 : Int32) (s : Mem) (o : Int32 × Mem), f_P_boats k0 v1 s = some o → BSnd X 3 164 (ovI o) 0 (entL [.inr (.inr (11, k0)), .inl v1]) [] s := by
  intro k0 v1 s o h
  rw [f_P_boats_eq] at h
  exact evC (chs := c_P_boats) (cuts := cu_P_boats) (G := fun pc ls st σ => none) hX.2.1 hX.2.2 (F := F_P_boats _) (fs_P_boats hX _) (rt_I rfl) oc_P_boats (by
    intro pc ls st σ o h
    cases h) 200 0 _ _ _ _ h
theorem ok_P_boats {X : CXT} (hX : XC X) : SemOK X 3 164 sm_P_boats := by
  intro O av σ K o h
  unfold sm_P_boats at h
  split at h
  · obtain ⟨r, hf, h⟩ := Option.bind_eq_some_iff.mp h
    exact ⟨ovI r, fun ht => sp_of hX.1 (by decide) (List.mem_range.mpr (by decide)) (by decide +kernel) ht (Nat.le_of_ble_eq_true rfl) (s_P_boats hX _ _ _ _ hf), trivial, h⟩
  · cases h
noncomputable def b_P_isWord (v0 : Int32) (s : Mem) : Option (Bool × Mem) :=
  (f_P_within v0 ((0 : Int32)) ((9 : Int32)) s).bind fun r1 =>
  lf (rB (b2i r1.1)) r1.2
noncomputable def f_P_isWord : Int32 → Mem → Option (Bool × Mem) := Classical.choose (⟨b_P_isWord, rfl⟩ : ∃ f : Int32 → Mem → Option (Bool × Mem), f = b_P_isWord)
theorem f_P_isWord_eq : f_P_isWord = b_P_isWord := Classical.choose_spec (⟨b_P_isWord, rfl⟩ : ∃ f : Int32 → Mem → Option (Bool × Mem), f = b_P_isWord)
noncomputable def sm_P_isWord (O : Type) (av : List AV) (σ : Mem) (K : AV → Mem → Option O) : Option O := match av with
  | [.inl v0] => (f_P_isWord v0 σ).bind fun r => K (.inl (b2i r.1)) r.2
  | _ => none
def c_P_isWord : List (List CE) := [[(0, .iload_n 0, 1, 0, 0, 0), (1, .iconst 0, 1, 0, 0, 0), (2, .bipush 9, 2, 9, 0, 0), (4, .invokestatic 80, 3, 17, 3, 1), (7, .ireturn, 1, 0, 0, 0)]]
set_option maxRecDepth 100000 in
theorem oc_P_isWord : okC 169 c_P_isWord = true := by decide +kernel
def cu_P_isWord : List (Nat × List Bool) := []
noncomputable def F_P_isWord (O : Type) (a : Nat) (av : List AV) (σ : Mem) (K : AV → Mem → Option O) : Option O := if a = 17 then sm_P_within O av σ K else none
theorem fs_P_isWord {X : CXT} (hX : XC X) (O : Type) : FS X 2 (F_P_isWord O) := by
  intro a av σ K o h
  unfold F_P_isWord at h
  rcases ite_s h with ⟨rfl, h⟩ | ⟨_, h⟩
  · obtain ⟨r, h1, h2, h3⟩ := ok_P_within hX _ _ _ _ _ h
    exact ⟨r, fun ht => ⟨1, by decide, h1 ht⟩, h2, h3⟩
  cases h
set_option maxRecDepth 100000 in
theorem s_P_isWord {X : CXT} (hX : XC X) : ∀ (v0 : Int32) (s : Mem) (o : Bool × Mem), f_P_isWord v0 s = some o → BSnd X 2 169 (ovZ o) 0 (entL [.inl v0]) [] s := by
  intro v0 s o h
  rw [f_P_isWord_eq] at h
  exact evC (chs := c_P_isWord) (cuts := cu_P_isWord) (G := fun pc ls st σ => none) hX.2.1 hX.2.2 (F := F_P_isWord _) (fs_P_isWord hX _) (rt_Z rfl) oc_P_isWord (by
    intro pc ls st σ o h
    cases h) 60 0 _ _ _ _ h
theorem ok_P_isWord {X : CXT} (hX : XC X) : SemOK X 2 169 sm_P_isWord := by
  intro O av σ K o h
  unfold sm_P_isWord at h
  split at h
  · obtain ⟨r, hf, h⟩ := Option.bind_eq_some_iff.mp h
    exact ⟨ovZ r, fun ht => sp_of hX.1 (by decide) (List.mem_range.mpr (by decide)) (by decide +kernel) ht (Nat.le_of_ble_eq_true rfl) (s_P_isWord hX _ _ _ hf), trivial, h⟩
  · cases h
noncomputable def b_P_talk (k0 : Nat) (v1 : Int32) (v2 : Int32) (v3 : Int32) (s : Mem) : Option (Int32 × Mem) :=
  cif (v3 = ((-1 : Int32))) (
    (f_Ro_clear (k0 + 39) s).bind fun r1 =>
    some (r1.1, r1.2)) (
    (f_P_isWord v1 s).bind fun r2 =>
    cif ((b2i r2.1) = 0) (
      some ((-1 : Int32), r2.2)) (
      (f_P_isWord v2 r2.2).bind fun r3 =>
      cif ((b2i r3.1) = 0) (
        some ((-1 : Int32), r3.2)) (
        (f_P_isMile v3 r3.2).bind fun r4 =>
        cif ((b2i r4.1) = 0) (
          some ((-1 : Int32), r4.2)) (
          (f_Ro_add (k0 + 39) v1 v2 v3 r4.2).bind fun r5 =>
          some (r5.1, r5.2)))))
noncomputable def f_P_talk : Nat → Int32 → Int32 → Int32 → Mem → Option (Int32 × Mem) := Classical.choose (⟨b_P_talk, rfl⟩ : ∃ f : Nat → Int32 → Int32 → Int32 → Mem → Option (Int32 × Mem), f = b_P_talk)
theorem f_P_talk_eq : f_P_talk = b_P_talk := Classical.choose_spec (⟨b_P_talk, rfl⟩ : ∃ f : Nat → Int32 → Int32 → Int32 → Mem → Option (Int32 × Mem), f = b_P_talk)
noncomputable def sm_P_talk (O : Type) (av : List AV) (σ : Mem) (K : AV → Mem → Option O) : Option O := match av with
  | [.inr (.inr (11, k0)), .inl v1, .inl v2, .inl v3] => (f_P_talk k0 v1 v2 v3 σ).bind fun r => K (.inl r.1) r.2
  | _ => none
def c_P_talk : List (List CE) := [[(0, .iload_n 3, 1, 0, 0, 0), (1, .iconst (-1), 1, 1, 0, 1), (2, .if_icmp .ne 17, 3, 19, 0, 0), (5, .aload_n 0, 1, 0, 0, 0), (6, .getfield 10, 3, 11, 0, 0), (9, .getfield 288, 3, 10, 2, 0), (12, .getfield 338, 3, 7, 2, 0), (15, .invokevirtual 300, 3, 130, 1, 13)], [(18, .ireturn, 1, 0, 0, 0), (19, .iload_n 1, 1, 0, 0, 0), (20, .invokestatic 341, 3, 169, 1, 1), (23, .ifCond .eq 36, 3, 59, 0, 0), (26, .iload_n 2, 1, 0, 0, 0), (27, .invokestatic 341, 3, 169, 1, 1), (30, .ifCond .eq 29, 3, 59, 0, 0)], [(33, .iload_n 3, 1, 0, 0, 0), (34, .invokestatic 251, 3, 44, 1, 1), (37, .ifCond .eq 22, 3, 59, 0, 0), (40, .aload_n 0, 1, 0, 0, 0), (41, .getfield 10, 3, 11, 0, 0), (44, .getfield 288, 3, 10, 2, 0), (47, .getfield 338, 3, 7, 2, 0)], [(50, .iload_n 1, 1, 0, 0, 0), (51, .iload_n 2, 1, 0, 0, 0), (52, .iload_n 3, 1, 0, 0, 0), (53, .invokevirtual 303, 3, 134, 4, 13), (56, .goto 4, 3, 60, 0, 0), (59, .iconst (-1), 1, 1, 0, 1), (60, .ireturn, 1, 0, 0, 0)]]
set_option maxRecDepth 100000 in
theorem oc_P_talk : okC 168 c_P_talk = true := by decide +kernel
def cu_P_talk : List (Nat × List Bool) := []
noncomputable def F_P_talk (O : Type) (a : Nat) (av : List AV) (σ : Mem) (K : AV → Mem → Option O) : Option O := if a = 44 then sm_P_isMile O av σ K else if a = 130 then sm_Ro_clear O av σ K else if a = 134 then sm_Ro_add O av σ K else if a = 169 then sm_P_isWord O av σ K else none
theorem fs_P_talk {X : CXT} (hX : XC X) (O : Type) : FS X 3 (F_P_talk O) := by
  intro a av σ K o h
  unfold F_P_talk at h
  rcases ite_s h with ⟨rfl, h⟩ | ⟨_, h⟩
  · obtain ⟨r, h1, h2, h3⟩ := ok_P_isMile hX _ _ _ _ _ h
    exact ⟨r, fun ht => ⟨2, by decide, h1 ht⟩, h2, h3⟩
  rcases ite_s h with ⟨rfl, h⟩ | ⟨_, h⟩
  · obtain ⟨r, h1, h2, h3⟩ := ok_Ro_clear hX _ _ _ _ _ h
    exact ⟨r, fun ht => ⟨1, by decide, h1 ht⟩, h2, h3⟩
  rcases ite_s h with ⟨rfl, h⟩ | ⟨_, h⟩
  · obtain ⟨r, h1, h2, h3⟩ := ok_Ro_add hX _ _ _ _ _ h
    exact ⟨r, fun ht => ⟨2, by decide, h1 ht⟩, h2, h3⟩
  rcases ite_s h with ⟨rfl, h⟩ | ⟨_, h⟩
  · obtain ⟨r, h1, h2, h3⟩ := ok_P_isWord hX _ _ _ _ _ h
    exact ⟨r, fun ht => ⟨2, by decide, h1 ht⟩, h2, h3⟩
  cases h
set_option maxRecDepth 100000 in
theorem s_P_talk {X : CXT} (hX : XC X) : ∀ (k0 : Nat) (v1 : Int32) (v2 : Int32) (v3 : Int32) (s : Mem) (o : Int32 × Mem), f_P_talk k0 v1 v2 v3 s = some o → BSnd X 3 168 (ovI o) 0 (entL [.inr (.inr (11, k0)), .inl v1, .inl v2, .inl v3]) [] s := by
  intro k0 v1 v2 v3 s o h
  rw [f_P_talk_eq] at h
  exact evC (chs := c_P_talk) (cuts := cu_P_talk) (G := fun pc ls st σ => none) hX.2.1 hX.2.2 (F := F_P_talk _) (fs_P_talk hX _) (rt_I rfl) oc_P_talk (by
    intro pc ls st σ o h
    cases h) 156 0 _ _ _ _ h
theorem ok_P_talk {X : CXT} (hX : XC X) : SemOK X 3 168 sm_P_talk := by
  intro O av σ K o h
  unfold sm_P_talk at h
  split at h
  · obtain ⟨r, hf, h⟩ := Option.bind_eq_some_iff.mp h
    exact ⟨ovI r, fun ht => sp_of hX.1 (by decide) (List.mem_range.mpr (by decide)) (by decide +kernel) ht (Nat.le_of_ble_eq_true rfl) (s_P_talk hX _ _ _ _ _ _ hf), trivial, h⟩
  · cases h
noncomputable def f_Th_saidAs_5 : Nat → Nat → Int32 → Int32 → Int32 → Mem → Option (Int32 × Mem)
  | 0, _, _, _, _, _ => none
  | n + 1, k0, v2, v3, v4, s =>
    cif ((rI s (k0 + 9) 3) ≤ v4) (
      some (v3, s)) (
      (f_Ro_third (k0 + 9) v4 s).bind fun r1 =>
      cif (v2 < r1.1) (
        f_Th_saidAs_5 n k0 v2 v3 (v4 + (1 : Int32)) r1.2) (
        (f_Ro_first (k0 + 9) v4 r1.2).bind fun r2 =>
        cif (r2.1 = v3) (
          (f_Ro_second (k0 + 9) v4 r2.2).bind fun r3 =>
          f_Th_saidAs_5 n k0 v2 r3.1 (v4 + (1 : Int32)) r3.2) (
          f_Th_saidAs_5 n k0 v2 v3 (v4 + (1 : Int32)) r2.2)))
noncomputable def b_Th_saidAs (k0 : Nat) (v1 : Int32) (v2 : Int32) (s : Mem) : Option (Int32 × Mem) :=
  f_Th_saidAs_5 FU k0 v2 v1 ((0 : Int32)) s
noncomputable def f_Th_saidAs : Nat → Int32 → Int32 → Mem → Option (Int32 × Mem) := Classical.choose (⟨b_Th_saidAs, rfl⟩ : ∃ f : Nat → Int32 → Int32 → Mem → Option (Int32 × Mem), f = b_Th_saidAs)
theorem f_Th_saidAs_eq : f_Th_saidAs = b_Th_saidAs := Classical.choose_spec (⟨b_Th_saidAs, rfl⟩ : ∃ f : Nat → Int32 → Int32 → Mem → Option (Int32 × Mem), f = b_Th_saidAs)
noncomputable def sm_Th_saidAs (O : Type) (av : List AV) (σ : Mem) (K : AV → Mem → Option O) : Option O := match av with
  | [.inr (.inr (7, k0)), .inl v1, .inl v2] => (f_Th_saidAs k0 v1 v2 σ).bind fun r => K (.inl r.1) r.2
  | _ => none
def c_Th_saidAs : List (List CE) := [[(0, .iload_n 1, 1, 0, 0, 0), (1, .istore_n 3, 1, 0, 0, 0), (2, .iconst 0, 1, 0, 0, 0), (3, .istore 4, 2, 0, 0, 0), (5, .iload 4, 2, 0, 0, 0), (7, .aload_n 0, 1, 0, 0, 0), (8, .getfield 23, 3, 7, 2, 0), (11, .getfield 52, 3, 6, 3, 0), (14, .if_icmp .ge 45, 3, 59, 0, 0)], [(17, .aload_n 0, 1, 0, 0, 0), (18, .getfield 23, 3, 7, 2, 0), (21, .iload 4, 2, 0, 0, 0), (23, .invokevirtual 64, 3, 56, 2, 13), (26, .iload_n 2, 1, 0, 0, 0), (27, .if_icmp .gt 26, 3, 53, 0, 0), (30, .aload_n 0, 1, 0, 0, 0), (31, .getfield 23, 3, 7, 2, 0)], [(34, .iload 4, 2, 0, 0, 0), (36, .invokevirtual 56, 3, 54, 2, 13), (39, .iload_n 3, 1, 0, 0, 0), (40, .if_icmp .ne 13, 3, 53, 0, 0), (43, .aload_n 0, 1, 0, 0, 0), (44, .getfield 23, 3, 7, 2, 0), (47, .iload 4, 2, 0, 0, 0)], [(49, .invokevirtual 67, 3, 55, 2, 13), (52, .istore_n 3, 1, 0, 0, 0), (53, .iinc 4 1, 3, 1, 0, 0), (56, .goto (-51), 3, 5, 0, 0), (59, .iload_n 3, 1, 0, 0, 0), (60, .ireturn, 1, 0, 0, 0)]]
set_option maxRecDepth 100000 in
theorem oc_Th_saidAs : okC 171 c_Th_saidAs = true := by decide +kernel
def cu_Th_saidAs : List (Nat × List Bool) := [(5, [true, false, true, true, true])]
noncomputable def F_Th_saidAs (O : Type) (a : Nat) (av : List AV) (σ : Mem) (K : AV → Mem → Option O) : Option O := if a = 54 then sm_Ro_first O av σ K else if a = 55 then sm_Ro_second O av σ K else if a = 56 then sm_Ro_third O av σ K else none
theorem fs_Th_saidAs {X : CXT} (hX : XC X) (O : Type) : FS X 3 (F_Th_saidAs O) := by
  intro a av σ K o h
  unfold F_Th_saidAs at h
  rcases ite_s h with ⟨rfl, h⟩ | ⟨_, h⟩
  · obtain ⟨r, h1, h2, h3⟩ := ok_Ro_first hX _ _ _ _ _ h
    exact ⟨r, fun ht => ⟨2, by decide, h1 ht⟩, h2, h3⟩
  rcases ite_s h with ⟨rfl, h⟩ | ⟨_, h⟩
  · obtain ⟨r, h1, h2, h3⟩ := ok_Ro_second hX _ _ _ _ _ h
    exact ⟨r, fun ht => ⟨2, by decide, h1 ht⟩, h2, h3⟩
  rcases ite_s h with ⟨rfl, h⟩ | ⟨_, h⟩
  · obtain ⟨r, h1, h2, h3⟩ := ok_Ro_third hX _ _ _ _ _ h
    exact ⟨r, fun ht => ⟨2, by decide, h1 ht⟩, h2, h3⟩
  cases h
def hd_Th_saidAs_5 {O : Type} (g : Nat → Int32 → Int32 → Int32 → Mem → Option O) (ls : OL) (st : List AV) (σ : Mem) : Option O := match ls, st with
  | [some (.inr (.inr (7, k0))), none, some (.inl v2), some (.inl v3), some (.inl v4)], [] => g k0 v2 v3 v4 σ
  | _, _ => none
theorem hs_Th_saidAs_5 {X : CXT} {g : Nat → Int32 → Int32 → Int32 → Mem → Option (Int32 × Mem)} (hg : ∀ (k0 : Nat) (v2 : Int32) (v3 : Int32) (v4 : Int32) (s : Mem) (o : Int32 × Mem), g k0 v2 v3 v4 s = some o → BSnd X 3 171 (ovI o) 5 [some (.inr (.inr (7, k0))), none, some (.inl v2), some (.inl v3), some (.inl v4)] [] s) : ∀ ls st σ o, hd_Th_saidAs_5 g ls st σ = some o → BSnd X 3 171 (ovI o) 5 ls st σ := by
  intro ls st σ o h
  unfold hd_Th_saidAs_5 at h
  split at h
  · exact hg _ _ _ _ _ _ h
  · cases h
set_option maxRecDepth 100000 in
theorem s_Th_saidAs_5 {X : CXT} (hX : XC X) : ∀ n : Nat, ∀ (k0 : Nat) (v2 : Int32) (v3 : Int32) (v4 : Int32) (s : Mem) (o : Int32 × Mem), f_Th_saidAs_5 n k0 v2 v3 v4 s = some o → BSnd X 3 171 (ovI o) 5 [some (.inr (.inr (7, k0))), none, some (.inl v2), some (.inl v3), some (.inl v4)] [] s := by
  intro n
  induction n with
  | zero => intro k0 v2 v3 v4 s o h; cases h
  | succ n ih =>
    intro k0 v2 v3 v4 s o h
    exact evC (chs := c_Th_saidAs) (cuts := cu_Th_saidAs) (G := fun pc ls st σ => if pc = 5 then hd_Th_saidAs_5 (fun k0 v2 v3 v4 s => f_Th_saidAs_5 n k0 v2 v3 v4 s) ls st σ else none) hX.2.1 hX.2.2 (F := F_Th_saidAs _) (fs_Th_saidAs hX _) (rt_I rfl) oc_Th_saidAs (by
    intro pc ls st σ o h
    rcases ite_s h with ⟨rfl, h⟩ | ⟨_, h⟩
    · exact hs_Th_saidAs_5 ih _ _ _ _ h
    cases h) 160 5 _ _ _ _ h
set_option maxRecDepth 100000 in
theorem s_Th_saidAs {X : CXT} (hX : XC X) : ∀ (k0 : Nat) (v1 : Int32) (v2 : Int32) (s : Mem) (o : Int32 × Mem), f_Th_saidAs k0 v1 v2 s = some o → BSnd X 3 171 (ovI o) 0 (entL [.inr (.inr (7, k0)), .inl v1, .inl v2]) [] s := by
  intro k0 v1 v2 s o h
  rw [f_Th_saidAs_eq] at h
  exact evC (chs := c_Th_saidAs) (cuts := cu_Th_saidAs) (G := fun pc ls st σ => if pc = 5 then hd_Th_saidAs_5 (fun k0 v2 v3 v4 s => f_Th_saidAs_5 FU k0 v2 v3 v4 s) ls st σ else none) hX.2.1 hX.2.2 (F := F_Th_saidAs _) (fs_Th_saidAs hX _) (rt_I rfl) oc_Th_saidAs (by
    intro pc ls st σ o h
    rcases ite_s h with ⟨rfl, h⟩ | ⟨_, h⟩
    · exact hs_Th_saidAs_5 (s_Th_saidAs_5 hX FU) _ _ _ _ h
    cases h) 160 0 _ _ _ _ h
theorem ok_Th_saidAs {X : CXT} (hX : XC X) : SemOK X 3 171 sm_Th_saidAs := by
  intro O av σ K o h
  unfold sm_Th_saidAs at h
  split at h
  · obtain ⟨r, hf, h⟩ := Option.bind_eq_some_iff.mp h
    exact ⟨ovI r, fun ht => sp_of hX.1 (by decide) (List.mem_range.mpr (by decide)) (by decide +kernel) ht (Nat.le_of_ble_eq_true rfl) (s_Th_saidAs hX _ _ _ _ _ hf), trivial, h⟩
  · cases h
noncomputable def f_Th_apart_5 : Nat → Nat → Int32 → Int32 → Int32 → Int32 → Mem → Option (Int32 × Mem)
  | 0, _, _, _, _, _, _ => none
  | n + 1, k0, v1, v2, v3, v4, s =>
    cif (((10 : Int32)) ≤ v4) (
      some (v3, s)) (
      (f_Th_saidAs k0 v4 v1 s).bind fun r1 =>
      (f_Th_saidAs k0 v4 v2 r1.2).bind fun r2 =>
      cif (r1.1 = r2.1) (
        let x3 : Int32 := v3 + ((0 : Int32))
        f_Th_apart_5 n k0 v1 v2 x3 (v4 + (1 : Int32)) r2.2) (
        let x4 : Int32 := v3 + ((1 : Int32))
        f_Th_apart_5 n k0 v1 v2 x4 (v4 + (1 : Int32)) r2.2))
noncomputable def b_Th_apart (k0 : Nat) (v1 : Int32) (v2 : Int32) (s : Mem) : Option (Int32 × Mem) :=
  f_Th_apart_5 FU k0 v1 v2 ((0 : Int32)) ((0 : Int32)) s
noncomputable def f_Th_apart : Nat → Int32 → Int32 → Mem → Option (Int32 × Mem) := Classical.choose (⟨b_Th_apart, rfl⟩ : ∃ f : Nat → Int32 → Int32 → Mem → Option (Int32 × Mem), f = b_Th_apart)
theorem f_Th_apart_eq : f_Th_apart = b_Th_apart := Classical.choose_spec (⟨b_Th_apart, rfl⟩ : ∃ f : Nat → Int32 → Int32 → Mem → Option (Int32 × Mem), f = b_Th_apart)
noncomputable def sm_Th_apart (O : Type) (av : List AV) (σ : Mem) (K : AV → Mem → Option O) : Option O := match av with
  | [.inr (.inr (7, k0)), .inl v1, .inl v2] => (f_Th_apart k0 v1 v2 σ).bind fun r => K (.inl r.1) r.2
  | _ => none
def c_Th_apart : List (List CE) := [[(0, .iconst 0, 1, 0, 0, 0), (1, .istore_n 3, 1, 0, 0, 0), (2, .iconst 0, 1, 0, 0, 0), (3, .istore 4, 2, 0, 0, 0), (5, .iload 4, 2, 0, 0, 0), (7, .bipush 10, 2, 10, 0, 0), (9, .if_icmp .ge 34, 3, 43, 0, 0), (12, .iload_n 3, 1, 0, 0, 0), (13, .aload_n 0, 1, 0, 0, 0), (14, .iload 4, 2, 0, 0, 0)], [(16, .iload_n 1, 1, 0, 0, 0), (17, .invokevirtual 70, 3, 171, 3, 15), (20, .aload_n 0, 1, 0, 0, 0), (21, .iload 4, 2, 0, 0, 0), (23, .iload_n 2, 1, 0, 0, 0), (24, .invokevirtual 70, 3, 171, 3, 15), (27, .if_icmp .eq 7, 3, 34, 0, 0), (30, .iconst 1, 1, 1, 0, 0), (31, .goto 4, 3, 35, 0, 0)], [(34, .iconst 0, 1, 0, 0, 0), (35, .iadd, 1, 0, 0, 0), (36, .istore_n 3, 1, 0, 0, 0), (37, .iinc 4 1, 3, 1, 0, 0), (40, .goto (-35), 3, 5, 0, 0), (43, .iload_n 3, 1, 0, 0, 0), (44, .ireturn, 1, 0, 0, 0)]]
set_option maxRecDepth 100000 in
theorem oc_Th_apart : okC 172 c_Th_apart = true := by decide +kernel
def cu_Th_apart : List (Nat × List Bool) := [(5, [true, true, true, true, true])]
noncomputable def F_Th_apart (O : Type) (a : Nat) (av : List AV) (σ : Mem) (K : AV → Mem → Option O) : Option O := if a = 171 then sm_Th_saidAs O av σ K else none
theorem fs_Th_apart {X : CXT} (hX : XC X) (O : Type) : FS X 4 (F_Th_apart O) := by
  intro a av σ K o h
  unfold F_Th_apart at h
  rcases ite_s h with ⟨rfl, h⟩ | ⟨_, h⟩
  · obtain ⟨r, h1, h2, h3⟩ := ok_Th_saidAs hX _ _ _ _ _ h
    exact ⟨r, fun ht => ⟨3, by decide, h1 ht⟩, h2, h3⟩
  cases h
def hd_Th_apart_5 {O : Type} (g : Nat → Int32 → Int32 → Int32 → Int32 → Mem → Option O) (ls : OL) (st : List AV) (σ : Mem) : Option O := match ls, st with
  | [some (.inr (.inr (7, k0))), some (.inl v1), some (.inl v2), some (.inl v3), some (.inl v4)], [] => g k0 v1 v2 v3 v4 σ
  | _, _ => none
theorem hs_Th_apart_5 {X : CXT} {g : Nat → Int32 → Int32 → Int32 → Int32 → Mem → Option (Int32 × Mem)} (hg : ∀ (k0 : Nat) (v1 : Int32) (v2 : Int32) (v3 : Int32) (v4 : Int32) (s : Mem) (o : Int32 × Mem), g k0 v1 v2 v3 v4 s = some o → BSnd X 4 172 (ovI o) 5 [some (.inr (.inr (7, k0))), some (.inl v1), some (.inl v2), some (.inl v3), some (.inl v4)] [] s) : ∀ ls st σ o, hd_Th_apart_5 g ls st σ = some o → BSnd X 4 172 (ovI o) 5 ls st σ := by
  intro ls st σ o h
  unfold hd_Th_apart_5 at h
  split at h
  · exact hg _ _ _ _ _ _ _ h
  · cases h
set_option maxRecDepth 100000 in
theorem s_Th_apart_5 {X : CXT} (hX : XC X) : ∀ n : Nat, ∀ (k0 : Nat) (v1 : Int32) (v2 : Int32) (v3 : Int32) (v4 : Int32) (s : Mem) (o : Int32 × Mem), f_Th_apart_5 n k0 v1 v2 v3 v4 s = some o → BSnd X 4 172 (ovI o) 5 [some (.inr (.inr (7, k0))), some (.inl v1), some (.inl v2), some (.inl v3), some (.inl v4)] [] s := by
  intro n
  induction n with
  | zero => intro k0 v1 v2 v3 v4 s o h; cases h
  | succ n ih =>
    intro k0 v1 v2 v3 v4 s o h
    exact evC (chs := c_Th_apart) (cuts := cu_Th_apart) (G := fun pc ls st σ => if pc = 5 then hd_Th_apart_5 (fun k0 v1 v2 v3 v4 s => f_Th_apart_5 n k0 v1 v2 v3 v4 s) ls st σ else none) hX.2.1 hX.2.2 (F := F_Th_apart _) (fs_Th_apart hX _) (rt_I rfl) oc_Th_apart (by
    intro pc ls st σ o h
    rcases ite_s h with ⟨rfl, h⟩ | ⟨_, h⟩
    · exact hs_Th_apart_5 ih _ _ _ _ h
    cases h) 144 5 _ _ _ _ h
set_option maxRecDepth 100000 in
theorem s_Th_apart {X : CXT} (hX : XC X) : ∀ (k0 : Nat) (v1 : Int32) (v2 : Int32) (s : Mem) (o : Int32 × Mem), f_Th_apart k0 v1 v2 s = some o → BSnd X 4 172 (ovI o) 0 (entL [.inr (.inr (7, k0)), .inl v1, .inl v2]) [] s := by
  intro k0 v1 v2 s o h
  rw [f_Th_apart_eq] at h
  exact evC (chs := c_Th_apart) (cuts := cu_Th_apart) (G := fun pc ls st σ => if pc = 5 then hd_Th_apart_5 (fun k0 v1 v2 v3 v4 s => f_Th_apart_5 FU k0 v1 v2 v3 v4 s) ls st σ else none) hX.2.1 hX.2.2 (F := F_Th_apart _) (fs_Th_apart hX _) (rt_I rfl) oc_Th_apart (by
    intro pc ls st σ o h
    rcases ite_s h with ⟨rfl, h⟩ | ⟨_, h⟩
    · exact hs_Th_apart_5 (s_Th_apart_5 hX FU) _ _ _ _ h
    cases h) 144 0 _ _ _ _ h
theorem ok_Th_apart {X : CXT} (hX : XC X) : SemOK X 4 172 sm_Th_apart := by
  intro O av σ K o h
  unfold sm_Th_apart at h
  split at h
  · obtain ⟨r, hf, h⟩ := Option.bind_eq_some_iff.mp h
    exact ⟨ovI r, fun ht => sp_of hX.1 (by decide) (List.mem_range.mpr (by decide)) (by decide +kernel) ht (Nat.le_of_ble_eq_true rfl) (s_Th_apart hX _ _ _ _ _ hf), trivial, h⟩
  · cases h
noncomputable def b_P_said (k0 : Nat) (v1 : Int32) (v2 : Int32) (v3 : Int32) (s : Mem) : Option (Int32 × Mem) :=
  (f_P_isMile v2 s).bind fun r1 =>
  cif ((b2i r1.1) = 0) (
    some ((-1 : Int32), r1.2)) (
    (f_P_isWord v1 r1.2).bind fun r2 =>
    cif ((b2i r2.1) = 0) (
      cif (v1 = ((-1 : Int32))) (
        (f_P_isMile v3 r2.2).bind fun r3 =>
        cif ((b2i r3.1) = 0) (
          some ((-1 : Int32), r3.2)) (
          (f_Th_apart (k0 + 30) v2 v3 r3.2).bind fun r4 =>
          some (r4.1, r4.2))) (
        some ((-1 : Int32), r2.2))) (
      (f_Th_saidAs (k0 + 30) v1 v2 r2.2).bind fun r5 =>
      some (r5.1, r5.2)))
noncomputable def f_P_said : Nat → Int32 → Int32 → Int32 → Mem → Option (Int32 × Mem) := Classical.choose (⟨b_P_said, rfl⟩ : ∃ f : Nat → Int32 → Int32 → Int32 → Mem → Option (Int32 × Mem), f = b_P_said)
theorem f_P_said_eq : f_P_said = b_P_said := Classical.choose_spec (⟨b_P_said, rfl⟩ : ∃ f : Nat → Int32 → Int32 → Int32 → Mem → Option (Int32 × Mem), f = b_P_said)
noncomputable def sm_P_said (O : Type) (av : List AV) (σ : Mem) (K : AV → Mem → Option O) : Option O := match av with
  | [.inr (.inr (11, k0)), .inl v1, .inl v2, .inl v3] => (f_P_said k0 v1 v2 v3 σ).bind fun r => K (.inl r.1) r.2
  | _ => none
def c_P_said : List (List CE) := [[(0, .iload_n 2, 1, 0, 0, 0), (1, .invokestatic 251, 3, 44, 1, 1), (4, .ifCond .ne 5, 3, 9, 0, 0), (7, .iconst (-1), 1, 1, 0, 1), (8, .ireturn, 1, 0, 0, 0), (9, .iload_n 1, 1, 0, 0, 0), (10, .invokestatic 341, 3, 169, 1, 1), (13, .ifCond .eq 16, 3, 29, 0, 0)], [(16, .aload_n 0, 1, 0, 0, 0), (17, .getfield 10, 3, 11, 0, 0), (20, .getfield 288, 3, 10, 2, 0), (23, .iload_n 1, 1, 0, 0, 0), (24, .iload_n 2, 1, 0, 0, 0), (25, .invokevirtual 344, 3, 171, 3, 15), (28, .ireturn, 1, 0, 0, 0), (29, .iload_n 1, 1, 0, 0, 0), (30, .iconst (-1), 1, 1, 0, 1), (31, .if_icmp .ne 25, 3, 56, 0, 0)], [(34, .iload_n 3, 1, 0, 0, 0), (35, .invokestatic 251, 3, 44, 1, 1), (38, .ifCond .eq 18, 3, 56, 0, 0), (41, .aload_n 0, 1, 0, 0, 0), (42, .getfield 10, 3, 11, 0, 0), (45, .getfield 288, 3, 10, 2, 0)], [(48, .iload_n 2, 1, 0, 0, 0), (49, .iload_n 3, 1, 0, 0, 0), (50, .invokevirtual 347, 3, 172, 3, 15), (53, .goto 4, 3, 57, 0, 0), (56, .iconst (-1), 1, 1, 0, 1), (57, .ireturn, 1, 0, 0, 0)]]
set_option maxRecDepth 100000 in
theorem oc_P_said : okC 170 c_P_said = true := by decide +kernel
def cu_P_said : List (Nat × List Bool) := []
noncomputable def F_P_said (O : Type) (a : Nat) (av : List AV) (σ : Mem) (K : AV → Mem → Option O) : Option O := if a = 44 then sm_P_isMile O av σ K else if a = 169 then sm_P_isWord O av σ K else if a = 171 then sm_Th_saidAs O av σ K else if a = 172 then sm_Th_apart O av σ K else none
theorem fs_P_said {X : CXT} (hX : XC X) (O : Type) : FS X 5 (F_P_said O) := by
  intro a av σ K o h
  unfold F_P_said at h
  rcases ite_s h with ⟨rfl, h⟩ | ⟨_, h⟩
  · obtain ⟨r, h1, h2, h3⟩ := ok_P_isMile hX _ _ _ _ _ h
    exact ⟨r, fun ht => ⟨2, by decide, h1 ht⟩, h2, h3⟩
  rcases ite_s h with ⟨rfl, h⟩ | ⟨_, h⟩
  · obtain ⟨r, h1, h2, h3⟩ := ok_P_isWord hX _ _ _ _ _ h
    exact ⟨r, fun ht => ⟨2, by decide, h1 ht⟩, h2, h3⟩
  rcases ite_s h with ⟨rfl, h⟩ | ⟨_, h⟩
  · obtain ⟨r, h1, h2, h3⟩ := ok_Th_saidAs hX _ _ _ _ _ h
    exact ⟨r, fun ht => ⟨3, by decide, h1 ht⟩, h2, h3⟩
  rcases ite_s h with ⟨rfl, h⟩ | ⟨_, h⟩
  · obtain ⟨r, h1, h2, h3⟩ := ok_Th_apart hX _ _ _ _ _ h
    exact ⟨r, fun ht => ⟨4, by decide, h1 ht⟩, h2, h3⟩
  cases h
set_option maxRecDepth 100000 in
theorem s_P_said {X : CXT} (hX : XC X) : ∀ (k0 : Nat) (v1 : Int32) (v2 : Int32) (v3 : Int32) (s : Mem) (o : Int32 × Mem), f_P_said k0 v1 v2 v3 s = some o → BSnd X 5 170 (ovI o) 0 (entL [.inr (.inr (11, k0)), .inl v1, .inl v2, .inl v3]) [] s := by
  intro k0 v1 v2 v3 s o h
  rw [f_P_said_eq] at h
  exact evC (chs := c_P_said) (cuts := cu_P_said) (G := fun pc ls st σ => none) hX.2.1 hX.2.2 (F := F_P_said _) (fs_P_said hX _) (rt_I rfl) oc_P_said (by
    intro pc ls st σ o h
    cases h) 160 0 _ _ _ _ h
theorem ok_P_said {X : CXT} (hX : XC X) : SemOK X 5 170 sm_P_said := by
  intro O av σ K o h
  unfold sm_P_said at h
  split at h
  · obtain ⟨r, hf, h⟩ := Option.bind_eq_some_iff.mp h
    exact ⟨ovI r, fun ht => sp_of hX.1 (by decide) (List.mem_range.mpr (by decide)) (by decide +kernel) ht (Nat.le_of_ble_eq_true rfl) (s_P_said hX _ _ _ _ _ _ hf), trivial, h⟩
  · cases h
noncomputable def f_P_did_44 (k0 : Nat) (v1 : Int32) (v2 : Int32) (s : Mem) : Option (Int32 × Mem) :=
  cif (((0 : Int32)) = 0) (
    some ((-1 : Int32), s)) (
    (f_Ro_add (k0 + 43) v1 v2 ((0 : Int32)) s).bind fun r1 =>
    some (r1.1, r1.2))
noncomputable def b_P_did (k0 : Nat) (v1 : Int32) (v2 : Int32) (s : Mem) : Option (Int32 × Mem) :=
  cif (v1 = ((-1 : Int32))) (
    (f_Ro_clear (k0 + 43) s).bind fun r1 =>
    some (r1.1, r1.2)) (
    (f_P_within v1 ((0 : Int32)) ((11 : Int32)) s).bind fun r2 =>
    cif ((b2i r2.1) = 0) (
      f_P_did_44 k0 v1 v2 r2.2) (
      (f_P_within v2 ((0 : Int32)) ((200 : Int32)) r2.2).bind fun r3 =>
      cif ((b2i r3.1) = 0) (
        f_P_did_44 k0 v1 v2 r3.2) (
        cif (((1 : Int32)) = 0) (
          some ((-1 : Int32), r3.2)) (
          (f_Ro_add (k0 + 43) v1 v2 ((0 : Int32)) r3.2).bind fun r4 =>
          some (r4.1, r4.2)))))
noncomputable def f_P_did : Nat → Int32 → Int32 → Mem → Option (Int32 × Mem) := Classical.choose (⟨b_P_did, rfl⟩ : ∃ f : Nat → Int32 → Int32 → Mem → Option (Int32 × Mem), f = b_P_did)
theorem f_P_did_eq : f_P_did = b_P_did := Classical.choose_spec (⟨b_P_did, rfl⟩ : ∃ f : Nat → Int32 → Int32 → Mem → Option (Int32 × Mem), f = b_P_did)
noncomputable def sm_P_did (O : Type) (av : List AV) (σ : Mem) (K : AV → Mem → Option O) : Option O := match av with
  | [.inr (.inr (11, k0)), .inl v1, .inl v2] => (f_P_did k0 v1 v2 σ).bind fun r => K (.inl r.1) r.2
  | _ => none
def c_P_did : List (List CE) := [[(0, .iload_n 1, 1, 0, 0, 0), (1, .iconst (-1), 1, 1, 0, 1), (2, .if_icmp .ne 17, 3, 19, 0, 0), (5, .aload_n 0, 1, 0, 0, 0), (6, .getfield 10, 3, 11, 0, 0), (9, .getfield 288, 3, 10, 2, 0), (12, .getfield 350, 3, 7, 3, 0), (15, .invokevirtual 300, 3, 130, 1, 13)], [(18, .ireturn, 1, 0, 0, 0), (19, .iload_n 1, 1, 0, 0, 0), (20, .iconst 0, 1, 0, 0, 0), (21, .bipush 11, 2, 11, 0, 0), (23, .invokestatic 80, 3, 17, 3, 1), (26, .ifCond .eq 18, 3, 44, 0, 0), (29, .iload_n 2, 1, 0, 0, 0), (30, .iconst 0, 1, 0, 0, 0), (31, .sipush 200, 3, 200, 0, 0)], [(34, .invokestatic 80, 3, 17, 3, 1), (37, .ifCond .eq 7, 3, 44, 0, 0), (40, .iconst 1, 1, 1, 0, 0), (41, .goto 4, 3, 45, 0, 0), (44, .iconst 0, 1, 0, 0, 0), (45, .istore_n 3, 1, 0, 0, 0), (46, .iload_n 3, 1, 0, 0, 0), (47, .ifCond .eq 22, 3, 69, 0, 0)], [(50, .aload_n 0, 1, 0, 0, 0), (51, .getfield 10, 3, 11, 0, 0), (54, .getfield 288, 3, 10, 2, 0), (57, .getfield 350, 3, 7, 3, 0), (60, .iload_n 1, 1, 0, 0, 0), (61, .iload_n 2, 1, 0, 0, 0), (62, .iconst 0, 1, 0, 0, 0), (63, .invokevirtual 303, 3, 134, 4, 13)], [(66, .goto 4, 3, 70, 0, 0), (69, .iconst (-1), 1, 1, 0, 1), (70, .ireturn, 1, 0, 0, 0)]]
set_option maxRecDepth 100000 in
theorem oc_P_did : okC 173 c_P_did = true := by decide +kernel
def cu_P_did : List (Nat × List Bool) := [(44, [true, true, true])]
noncomputable def F_P_did (O : Type) (a : Nat) (av : List AV) (σ : Mem) (K : AV → Mem → Option O) : Option O := if a = 17 then sm_P_within O av σ K else if a = 130 then sm_Ro_clear O av σ K else if a = 134 then sm_Ro_add O av σ K else none
theorem fs_P_did {X : CXT} (hX : XC X) (O : Type) : FS X 3 (F_P_did O) := by
  intro a av σ K o h
  unfold F_P_did at h
  rcases ite_s h with ⟨rfl, h⟩ | ⟨_, h⟩
  · obtain ⟨r, h1, h2, h3⟩ := ok_P_within hX _ _ _ _ _ h
    exact ⟨r, fun ht => ⟨1, by decide, h1 ht⟩, h2, h3⟩
  rcases ite_s h with ⟨rfl, h⟩ | ⟨_, h⟩
  · obtain ⟨r, h1, h2, h3⟩ := ok_Ro_clear hX _ _ _ _ _ h
    exact ⟨r, fun ht => ⟨1, by decide, h1 ht⟩, h2, h3⟩
  rcases ite_s h with ⟨rfl, h⟩ | ⟨_, h⟩
  · obtain ⟨r, h1, h2, h3⟩ := ok_Ro_add hX _ _ _ _ _ h
    exact ⟨r, fun ht => ⟨2, by decide, h1 ht⟩, h2, h3⟩
  cases h
def hd_P_did_44 {O : Type} (g : Nat → Int32 → Int32 → Mem → Option O) (ls : OL) (st : List AV) (σ : Mem) : Option O := match ls, st with
  | [some (.inr (.inr (11, k0))), some (.inl v1), some (.inl v2)], [] => g k0 v1 v2 σ
  | _, _ => none
theorem hs_P_did_44 {X : CXT} {g : Nat → Int32 → Int32 → Mem → Option (Int32 × Mem)} (hg : ∀ (k0 : Nat) (v1 : Int32) (v2 : Int32) (s : Mem) (o : Int32 × Mem), g k0 v1 v2 s = some o → BSnd X 3 173 (ovI o) 44 [some (.inr (.inr (11, k0))), some (.inl v1), some (.inl v2)] [] s) : ∀ ls st σ o, hd_P_did_44 g ls st σ = some o → BSnd X 3 173 (ovI o) 44 ls st σ := by
  intro ls st σ o h
  unfold hd_P_did_44 at h
  split at h
  · exact hg _ _ _ _ _ h
  · cases h
set_option maxRecDepth 100000 in
theorem s_P_did_44 {X : CXT} (hX : XC X) : ∀ (k0 : Nat) (v1 : Int32) (v2 : Int32) (s : Mem) (o : Int32 × Mem), f_P_did_44 k0 v1 v2 s = some o → BSnd X 3 173 (ovI o) 44 [some (.inr (.inr (11, k0))), some (.inl v1), some (.inl v2)] [] s := by
  intro k0 v1 v2 s o h
  exact evC (chs := c_P_did) (cuts := cu_P_did) (G := fun pc ls st σ => none) hX.2.1 hX.2.2 (F := F_P_did _) (fs_P_did hX _) (rt_I rfl) oc_P_did (by
    intro pc ls st σ o h
    cases h) 184 44 _ _ _ _ h
set_option maxRecDepth 100000 in
theorem s_P_did {X : CXT} (hX : XC X) : ∀ (k0 : Nat) (v1 : Int32) (v2 : Int32) (s : Mem) (o : Int32 × Mem), f_P_did k0 v1 v2 s = some o → BSnd X 3 173 (ovI o) 0 (entL [.inr (.inr (11, k0)), .inl v1, .inl v2]) [] s := by
  intro k0 v1 v2 s o h
  rw [f_P_did_eq] at h
  exact evC (chs := c_P_did) (cuts := cu_P_did) (G := fun pc ls st σ => if pc = 44 then hd_P_did_44 (fun k0 v1 v2 s => f_P_did_44 k0 v1 v2 s) ls st σ else none) hX.2.1 hX.2.2 (F := F_P_did _) (fs_P_did hX _) (rt_I rfl) oc_P_did (by
    intro pc ls st σ o h
    rcases ite_s h with ⟨rfl, h⟩ | ⟨_, h⟩
    · exact hs_P_did_44 (s_P_did_44 hX) _ _ _ _ h
    cases h) 184 0 _ _ _ _ h
theorem ok_P_did {X : CXT} (hX : XC X) : SemOK X 3 173 sm_P_did := by
  intro O av σ K o h
  unfold sm_P_did at h
  split at h
  · obtain ⟨r, hf, h⟩ := Option.bind_eq_some_iff.mp h
    exact ⟨ovI r, fun ht => sp_of hX.1 (by decide) (List.mem_range.mpr (by decide)) (by decide +kernel) ht (Nat.le_of_ble_eq_true rfl) (s_P_did hX _ _ _ _ _ hf), trivial, h⟩
  · cases h
noncomputable def b_Wa_longer (v0 : Int32) (v1 : Int32) (s : Mem) : Option (Int32 × Mem) :=
  some (imn ((200 : Int32)) (v0 + ((v1 + ((1 : Int32))) * ((3 : Int32)))), s)
noncomputable def f_Wa_longer : Int32 → Int32 → Mem → Option (Int32 × Mem) := Classical.choose (⟨b_Wa_longer, rfl⟩ : ∃ f : Int32 → Int32 → Mem → Option (Int32 × Mem), f = b_Wa_longer)
theorem f_Wa_longer_eq : f_Wa_longer = b_Wa_longer := Classical.choose_spec (⟨b_Wa_longer, rfl⟩ : ∃ f : Int32 → Int32 → Mem → Option (Int32 × Mem), f = b_Wa_longer)
noncomputable def sm_Wa_longer (O : Type) (av : List AV) (σ : Mem) (K : AV → Mem → Option O) : Option O := match av with
  | [.inl v0, .inl v1] => (f_Wa_longer v0 v1 σ).bind fun r => K (.inl r.1) r.2
  | _ => none
def c_Wa_longer : List (List CE) := [[(0, .sipush 200, 3, 200, 0, 0), (3, .iload_n 0, 1, 0, 0, 0), (4, .iload_n 1, 1, 0, 0, 0), (5, .iconst 1, 1, 1, 0, 0), (6, .iadd, 1, 0, 0, 0), (7, .iconst 3, 1, 3, 0, 0), (8, .imul, 1, 0, 0, 0), (9, .iadd, 1, 0, 0, 0), (10, .invokestatic 26, 3, 32, 2, 3), (13, .ireturn, 1, 0, 0, 0)]]
set_option maxRecDepth 100000 in
theorem oc_Wa_longer : okC 177 c_Wa_longer = true := by decide +kernel
def cu_Wa_longer : List (Nat × List Bool) := []
noncomputable def F_Wa_longer (O : Type) (a : Nat) (av : List AV) (σ : Mem) (K : AV → Mem → Option O) : Option O := none
theorem fs_Wa_longer {X : CXT} (hX : XC X) (O : Type) : FS X 1 (F_Wa_longer O) := by
  intro a av σ K o h
  cases h
set_option maxRecDepth 100000 in
theorem s_Wa_longer {X : CXT} (hX : XC X) : ∀ (v0 : Int32) (v1 : Int32) (s : Mem) (o : Int32 × Mem), f_Wa_longer v0 v1 s = some o → BSnd X 1 177 (ovI o) 0 (entL [.inl v0, .inl v1]) [] s := by
  intro v0 v1 s o h
  rw [f_Wa_longer_eq] at h
  exact evC (chs := c_Wa_longer) (cuts := cu_Wa_longer) (G := fun pc ls st σ => none) hX.2.1 hX.2.2 (F := F_Wa_longer _) (fs_Wa_longer hX _) (rt_I rfl) oc_Wa_longer (by
    intro pc ls st σ o h
    cases h) 80 0 _ _ _ _ h
theorem ok_Wa_longer {X : CXT} (hX : XC X) : SemOK X 1 177 sm_Wa_longer := by
  intro O av σ K o h
  unfold sm_Wa_longer at h
  split at h
  · obtain ⟨r, hf, h⟩ := Option.bind_eq_some_iff.mp h
    exact ⟨ovI r, fun ht => sp_of hX.1 (by decide) (List.mem_range.mpr (by decide)) (by decide +kernel) ht (Nat.le_of_ble_eq_true rfl) (s_Wa_longer hX _ _ _ _ hf), trivial, h⟩
  · cases h
noncomputable def f_Wa_isTold_2 : Nat → Nat → Int32 → Int32 → Int32 → Mem → Option (Bool × Mem)
  | 0, _, _, _, _, _ => none
  | n + 1, k0, v1, v2, v3, s =>
    cif ((rI s k0 3) ≤ v3) (
      some (true, s)) (
      (f_Ro_first k0 v3 s).bind fun r1 =>
      cif (r1.1 = v1) (
        (f_Ro_second k0 v3 r1.2).bind fun r2 =>
        cif (r2.1 = v2) (
          f_Wa_isTold_2 n k0 v1 v2 (v3 + (1 : Int32)) r2.2) (
          some (false, r2.2))) (
        f_Wa_isTold_2 n k0 v1 v2 (v3 + (1 : Int32)) r1.2))
noncomputable def b_Wa_isTold (k0 : Nat) (v1 : Int32) (v2 : Int32) (s : Mem) : Option (Bool × Mem) :=
  f_Wa_isTold_2 FU k0 v1 v2 ((0 : Int32)) s
noncomputable def f_Wa_isTold : Nat → Int32 → Int32 → Mem → Option (Bool × Mem) := Classical.choose (⟨b_Wa_isTold, rfl⟩ : ∃ f : Nat → Int32 → Int32 → Mem → Option (Bool × Mem), f = b_Wa_isTold)
theorem f_Wa_isTold_eq : f_Wa_isTold = b_Wa_isTold := Classical.choose_spec (⟨b_Wa_isTold, rfl⟩ : ∃ f : Nat → Int32 → Int32 → Mem → Option (Bool × Mem), f = b_Wa_isTold)
noncomputable def sm_Wa_isTold (O : Type) (av : List AV) (σ : Mem) (K : AV → Mem → Option O) : Option O := match av with
  | [.inr (.inr (6, k0)), .inl v1, .inl v2] => (f_Wa_isTold k0 v1 v2 σ).bind fun r => K (.inl (b2i r.1)) r.2
  | _ => none
def c_Wa_isTold : List (List CE) := [[(0, .iconst 0, 1, 0, 0, 0), (1, .istore_n 3, 1, 0, 0, 0), (2, .iload_n 3, 1, 0, 0, 0), (3, .aload_n 0, 1, 0, 0, 0), (4, .getfield 32, 3, 6, 3, 0), (7, .if_icmp .ge 29, 3, 36, 0, 0), (10, .aload_n 0, 1, 0, 0, 0), (11, .iload_n 3, 1, 0, 0, 0), (12, .invokevirtual 38, 3, 54, 2, 13), (15, .iload_n 1, 1, 0, 0, 0)], [(16, .if_icmp .ne 14, 3, 30, 0, 0), (19, .aload_n 0, 1, 0, 0, 0), (20, .iload_n 3, 1, 0, 0, 0), (21, .invokevirtual 42, 3, 55, 2, 13), (24, .iload_n 2, 1, 0, 0, 0), (25, .if_icmp .eq 5, 3, 30, 0, 0), (28, .iconst 0, 1, 0, 0, 0), (29, .ireturn, 1, 0, 0, 0), (30, .iinc 3 1, 3, 1, 0, 0)], [(33, .goto (-31), 3, 2, 0, 0), (36, .iconst 1, 1, 1, 0, 0), (37, .ireturn, 1, 0, 0, 0)]]
set_option maxRecDepth 100000 in
theorem oc_Wa_isTold : okC 178 c_Wa_isTold = true := by decide +kernel
def cu_Wa_isTold : List (Nat × List Bool) := [(2, [true, true, true, true])]
noncomputable def F_Wa_isTold (O : Type) (a : Nat) (av : List AV) (σ : Mem) (K : AV → Mem → Option O) : Option O := if a = 54 then sm_Ro_first O av σ K else if a = 55 then sm_Ro_second O av σ K else none
theorem fs_Wa_isTold {X : CXT} (hX : XC X) (O : Type) : FS X 3 (F_Wa_isTold O) := by
  intro a av σ K o h
  unfold F_Wa_isTold at h
  rcases ite_s h with ⟨rfl, h⟩ | ⟨_, h⟩
  · obtain ⟨r, h1, h2, h3⟩ := ok_Ro_first hX _ _ _ _ _ h
    exact ⟨r, fun ht => ⟨2, by decide, h1 ht⟩, h2, h3⟩
  rcases ite_s h with ⟨rfl, h⟩ | ⟨_, h⟩
  · obtain ⟨r, h1, h2, h3⟩ := ok_Ro_second hX _ _ _ _ _ h
    exact ⟨r, fun ht => ⟨2, by decide, h1 ht⟩, h2, h3⟩
  cases h
def hd_Wa_isTold_2 {O : Type} (g : Nat → Int32 → Int32 → Int32 → Mem → Option O) (ls : OL) (st : List AV) (σ : Mem) : Option O := match ls, st with
  | [some (.inr (.inr (6, k0))), some (.inl v1), some (.inl v2), some (.inl v3)], [] => g k0 v1 v2 v3 σ
  | _, _ => none
theorem hs_Wa_isTold_2 {X : CXT} {g : Nat → Int32 → Int32 → Int32 → Mem → Option (Bool × Mem)} (hg : ∀ (k0 : Nat) (v1 : Int32) (v2 : Int32) (v3 : Int32) (s : Mem) (o : Bool × Mem), g k0 v1 v2 v3 s = some o → BSnd X 3 178 (ovZ o) 2 [some (.inr (.inr (6, k0))), some (.inl v1), some (.inl v2), some (.inl v3)] [] s) : ∀ ls st σ o, hd_Wa_isTold_2 g ls st σ = some o → BSnd X 3 178 (ovZ o) 2 ls st σ := by
  intro ls st σ o h
  unfold hd_Wa_isTold_2 at h
  split at h
  · exact hg _ _ _ _ _ _ h
  · cases h
set_option maxRecDepth 100000 in
theorem s_Wa_isTold_2 {X : CXT} (hX : XC X) : ∀ n : Nat, ∀ (k0 : Nat) (v1 : Int32) (v2 : Int32) (v3 : Int32) (s : Mem) (o : Bool × Mem), f_Wa_isTold_2 n k0 v1 v2 v3 s = some o → BSnd X 3 178 (ovZ o) 2 [some (.inr (.inr (6, k0))), some (.inl v1), some (.inl v2), some (.inl v3)] [] s := by
  intro n
  induction n with
  | zero => intro k0 v1 v2 v3 s o h; cases h
  | succ n ih =>
    intro k0 v1 v2 v3 s o h
    exact evC (chs := c_Wa_isTold) (cuts := cu_Wa_isTold) (G := fun pc ls st σ => if pc = 2 then hd_Wa_isTold_2 (fun k0 v1 v2 v3 s => f_Wa_isTold_2 n k0 v1 v2 v3 s) ls st σ else none) hX.2.1 hX.2.2 (F := F_Wa_isTold _) (fs_Wa_isTold hX _) (rt_Z rfl) oc_Wa_isTold (by
    intro pc ls st σ o h
    rcases ite_s h with ⟨rfl, h⟩ | ⟨_, h⟩
    · exact hs_Wa_isTold_2 ih _ _ _ _ h
    cases h) 128 2 _ _ _ _ h
set_option maxRecDepth 100000 in
theorem s_Wa_isTold {X : CXT} (hX : XC X) : ∀ (k0 : Nat) (v1 : Int32) (v2 : Int32) (s : Mem) (o : Bool × Mem), f_Wa_isTold k0 v1 v2 s = some o → BSnd X 3 178 (ovZ o) 0 (entL [.inr (.inr (6, k0)), .inl v1, .inl v2]) [] s := by
  intro k0 v1 v2 s o h
  rw [f_Wa_isTold_eq] at h
  exact evC (chs := c_Wa_isTold) (cuts := cu_Wa_isTold) (G := fun pc ls st σ => if pc = 2 then hd_Wa_isTold_2 (fun k0 v1 v2 v3 s => f_Wa_isTold_2 FU k0 v1 v2 v3 s) ls st σ else none) hX.2.1 hX.2.2 (F := F_Wa_isTold _) (fs_Wa_isTold hX _) (rt_Z rfl) oc_Wa_isTold (by
    intro pc ls st σ o h
    rcases ite_s h with ⟨rfl, h⟩ | ⟨_, h⟩
    · exact hs_Wa_isTold_2 (s_Wa_isTold_2 hX FU) _ _ _ _ h
    cases h) 128 0 _ _ _ _ h
theorem ok_Wa_isTold {X : CXT} (hX : XC X) : SemOK X 3 178 sm_Wa_isTold := by
  intro O av σ K o h
  unfold sm_Wa_isTold at h
  split at h
  · obtain ⟨r, hf, h⟩ := Option.bind_eq_some_iff.mp h
    exact ⟨ovZ r, fun ht => sp_of hX.1 (by decide) (List.mem_range.mpr (by decide)) (by decide +kernel) ht (Nat.le_of_ble_eq_true rfl) (s_Wa_isTold hX _ _ _ _ _ hf), trivial, h⟩
  · cases h
noncomputable def f_Wa_countHere_10 (K32 : Nat → Nat → Int32 → Mem → Option (Mem)) : Nat → Nat → Nat → Int32 → Int32 → Mem → Option (Mem)
  | 0, _, _, _, _, _ => none
  | n + 1, k0, k1, v2, v3, s =>
    cif (((200 : Int32)) < v3) (
      K32 k0 k1 v2 s) (
      gd (inb v2 (lenC (k0 + 1))) <|
      gd (inb v3 (lenC (k0 + 1 + 1 + ix v2))) <|
      let s1 : Mem := wJ s (k0 + 1 + 1 + ix v2) (ix v3) ((0 : Int64))
      f_Wa_countHere_10 K32 n k0 k1 v2 (v3 + (1 : Int32)) s1)
noncomputable def f_Wa_countHere_72 (K110 : Nat → Nat → Int32 → Int32 → Mem → Option (Mem)) : Nat → Nat → Nat → Int32 → Int32 → Int64 → Int32 → Mem → Option (Mem)
  | 0, _, _, _, _, _, _, _ => none
  | n + 1, k0, k1, v2, v3, v4, v6, s =>
    cif ((lg_cmp v4 ((0 : Int64))) ≤ 0) (
      K110 k0 k1 v2 v3 s) (
      cif (((6 : Int32)) ≤ v6) (
        K110 k0 k1 v2 v3 s) (
        gd (inb v2 (lenC (k0 + 1))) <|
        (f_Wa_longer v3 v6 s).bind fun r1 =>
        gd (inb r1.1 (lenC (k0 + 1 + 1 + ix v2))) <|
        gd (inb r1.1 (lenC (k0 + 1 + 1 + ix v2))) <|
        let s2 : Mem := wJ r1.2 (k0 + 1 + 1 + ix v2) (ix r1.1) ((rJ r1.2 (k0 + 1 + 1 + ix v2) (ix r1.1)) + v4)
        f_Wa_countHere_72 K110 n k0 k1 v2 v3 v4 (v6 + (1 : Int32)) s2))
noncomputable def f_Wa_countHere_110 (KH : Nat → Nat → Int32 → Int32 → Mem → Option (Mem)) (K116 : Nat → Nat → Int32 → Mem → Option (Mem)) (k0 : Nat) (k1 : Nat) (v2 : Int32) (v3 : Int32) (s : Mem) : Option (Mem) :=
  KH k0 k1 v2 (v3 + (1 : Int32)) s
noncomputable def f_Wa_countHere_34 (K116 : Nat → Nat → Int32 → Mem → Option (Mem)) : Nat → Nat → Nat → Int32 → Int32 → Mem → Option (Mem)
  | 0, _, _, _, _, _ => none
  | n + 1, k0, k1, v2, v3, s =>
    cif (((200 : Int32)) < v3) (
      K116 k0 k1 v2 s) (
      cif (v2 ≤ 0) (
        cif (v3 = 0) (
          let x1 : Int64 := (1 : Int64)
          f_Wa_countHere_72 (fun k0 k1 v2 v3 s => f_Wa_countHere_110 (fun k0 k1 v2 v3 s => f_Wa_countHere_34 K116 n k0 k1 v2 v3 s) K116 k0 k1 v2 v3 s) FU k0 k1 v2 v3 x1 ((0 : Int32)) s) (
          let x2 : Int64 := (0 : Int64)
          f_Wa_countHere_72 (fun k0 k1 v2 v3 s => f_Wa_countHere_110 (fun k0 k1 v2 v3 s => f_Wa_countHere_34 K116 n k0 k1 v2 v3 s) K116 k0 k1 v2 v3 s) FU k0 k1 v2 v3 x2 ((0 : Int32)) s)) (
        gd (inb (v2 - ((1 : Int32))) (lenC (k0 + 1))) <|
        gd (inb v3 (lenC (k0 + 1 + 1 + ix (v2 - ((1 : Int32)))))) <|
        let x3 : Int64 := rJ s (k0 + 1 + 1 + ix (v2 - ((1 : Int32)))) (ix v3)
        f_Wa_countHere_72 (fun k0 k1 v2 v3 s => f_Wa_countHere_110 (fun k0 k1 v2 v3 s => f_Wa_countHere_34 K116 n k0 k1 v2 v3 s) K116 k0 k1 v2 v3 s) FU k0 k1 v2 v3 x3 ((0 : Int32)) s))
noncomputable def f_Wa_countHere_118 (K160 : Nat → Nat → Int32 → Mem → Option (Mem)) : Nat → Nat → Nat → Int32 → Int32 → Mem → Option (Mem)
  | 0, _, _, _, _, _ => none
  | n + 1, k0, k1, v2, v3, s =>
    cif (((200 : Int32)) < v3) (
      K160 k0 k1 v2 s) (
      gd (inb v2 (lenC (k0 + 1))) <|
      (f_Wa_isTold k1 v2 v3 s).bind fun r1 =>
      cif ((b2i r1.1) = 0) (
        gd (inb v3 (lenC (k0 + 1 + 1 + ix v2))) <|
        let s2 : Mem := wJ r1.2 (k0 + 1 + 1 + ix v2) (ix v3) ((0 : Int64))
        f_Wa_countHere_118 K160 n k0 k1 v2 (v3 + (1 : Int32)) s2) (
        gd (inb v2 (lenC (k0 + 1))) <|
        gd (inb v3 (lenC (k0 + 1 + 1 + ix v2))) <|
        gd (inb v3 (lenC (k0 + 1 + 1 + ix v2))) <|
        let s3 : Mem := wJ r1.2 (k0 + 1 + 1 + ix v2) (ix v3) (rJ r1.2 (k0 + 1 + 1 + ix v2) (ix v3))
        f_Wa_countHere_118 K160 n k0 k1 v2 (v3 + (1 : Int32)) s3))
noncomputable def f_Wa_countHere_160 (KH : Nat → Nat → Int32 → Mem → Option (Mem)) (k0 : Nat) (k1 : Nat) (v2 : Int32) (s : Mem) : Option (Mem) :=
  KH k0 k1 (v2 + (1 : Int32)) s
noncomputable def f_Wa_countHere_116 (KH : Nat → Nat → Int32 → Mem → Option (Mem)) (k0 : Nat) (k1 : Nat) (v2 : Int32) (s : Mem) : Option (Mem) :=
  f_Wa_countHere_118 (fun k0 k1 v2 s => f_Wa_countHere_160 (KH) k0 k1 v2 s) FU k0 k1 v2 ((0 : Int32)) s
noncomputable def f_Wa_countHere_32 (KH : Nat → Nat → Int32 → Mem → Option (Mem)) (k0 : Nat) (k1 : Nat) (v2 : Int32) (s : Mem) : Option (Mem) :=
  f_Wa_countHere_34 (fun k0 k1 v2 s => f_Wa_countHere_116 (KH) k0 k1 v2 s) FU k0 k1 v2 ((0 : Int32)) s
noncomputable def f_Wa_countHere_2 : Nat → Nat → Nat → Int32 → Mem → Option (Mem)
  | 0, _, _, _, _ => none
  | n + 1, k0, k1, v2, s =>
    cif (((12 : Int32)) ≤ v2) (
      some s) (
      f_Wa_countHere_10 (fun k0 k1 v2 s => f_Wa_countHere_32 (fun k0 k1 v2 s => f_Wa_countHere_2 n k0 k1 v2 s) k0 k1 v2 s) FU k0 k1 v2 ((0 : Int32)) s)
noncomputable def b_Wa_countHere (k0 : Nat) (k1 : Nat) (s : Mem) : Option (Mem) :=
  f_Wa_countHere_2 FU k0 k1 ((0 : Int32)) s
noncomputable def f_Wa_countHere : Nat → Nat → Mem → Option (Mem) := Classical.choose (⟨b_Wa_countHere, rfl⟩ : ∃ f : Nat → Nat → Mem → Option (Mem), f = b_Wa_countHere)
theorem f_Wa_countHere_eq : f_Wa_countHere = b_Wa_countHere := Classical.choose_spec (⟨b_Wa_countHere, rfl⟩ : ∃ f : Nat → Nat → Mem → Option (Mem), f = b_Wa_countHere)
noncomputable def sm_Wa_countHere (O : Type) (av : List AV) (σ : Mem) (K : AV → Mem → Option O) : Option O := match av with
  | [.inr (.inr (9, k0)), .inr (.inr (6, k1))] => (f_Wa_countHere k0 k1 σ).bind fun r => K (.inl 0) r
  | _ => none
def c_Wa_countHere : List (List CE) := [[(0, .iconst 0, 1, 0, 0, 0), (1, .istore_n 2, 1, 0, 0, 0), (2, .iload_n 2, 1, 0, 0, 0), (3, .bipush 12, 2, 12, 0, 0), (5, .if_icmp .ge 161, 3, 166, 0, 0), (8, .iconst 0, 1, 0, 0, 0), (9, .istore_n 3, 1, 0, 0, 0), (10, .iload_n 3, 1, 0, 0, 0), (11, .sipush 200, 3, 200, 0, 0), (14, .if_icmp .gt 18, 3, 32, 0, 0)], [(17, .aload_n 0, 1, 0, 0, 0), (18, .getfield 13, 3, 9, 0, 0), (21, .iload_n 2, 1, 0, 0, 0), (22, .aaload, 1, 0, 0, 0), (23, .iload_n 3, 1, 0, 0, 0), (24, .lconst 0, 1, 0, 0, 0), (25, .lastore, 1, 0, 0, 0), (26, .iinc 3 1, 3, 1, 0, 0), (29, .goto (-19), 3, 10, 0, 0)], [(32, .iconst 0, 1, 0, 0, 0), (33, .istore_n 3, 1, 0, 0, 0), (34, .iload_n 3, 1, 0, 0, 0), (35, .sipush 200, 3, 200, 0, 0), (38, .if_icmp .gt 78, 3, 116, 0, 0), (41, .iload_n 2, 1, 0, 0, 0), (42, .ifCond .le 16, 3, 58, 0, 0), (45, .aload_n 0, 1, 0, 0, 0), (46, .getfield 13, 3, 9, 0, 0)], [(49, .iload_n 2, 1, 0, 0, 0), (50, .iconst 1, 1, 1, 0, 0), (51, .isub, 1, 0, 0, 0), (52, .aaload, 1, 0, 0, 0), (53, .iload_n 3, 1, 0, 0, 0), (54, .laload, 1, 0, 0, 0), (55, .goto 12, 3, 67, 0, 0), (58, .iload_n 3, 1, 0, 0, 0), (59, .ifCond .ne 7, 3, 66, 0, 0), (62, .lconst 1, 1, 0, 0, 0), (63, .goto 4, 3, 67, 0, 0)], [(66, .lconst 0, 1, 0, 0, 0), (67, .lstore 4, 2, 0, 0, 0), (69, .iconst 0, 1, 0, 0, 0), (70, .istore 6, 2, 0, 0, 0), (72, .lload 4, 2, 0, 0, 0), (74, .lconst 0, 1, 0, 0, 0), (75, .lcmp, 1, 0, 0, 0), (76, .ifCond .le 34, 3, 110, 0, 0), (79, .iload 6, 2, 0, 0, 0)], [(81, .bipush 6, 2, 6, 0, 0), (83, .if_icmp .ge 27, 3, 110, 0, 0), (86, .aload_n 0, 1, 0, 0, 0), (87, .getfield 13, 3, 9, 0, 0), (90, .iload_n 2, 1, 0, 0, 0), (91, .aaload, 1, 0, 0, 0), (92, .iload_n 3, 1, 0, 0, 0), (93, .iload 6, 2, 0, 0, 0), (95, .invokestatic 45, 3, 177, 2, 1)], [(98, .dup2, 1, 0, 0, 0), (99, .laload, 1, 0, 0, 0), (100, .lload 4, 2, 0, 0, 0), (102, .ladd, 1, 0, 0, 0), (103, .lastore, 1, 0, 0, 0), (104, .iinc 6 1, 3, 1, 0, 0), (107, .goto (-35), 3, 72, 0, 0), (110, .iinc 3 1, 3, 1, 0, 0)], [(113, .goto (-79), 3, 34, 0, 0), (116, .iconst 0, 1, 0, 0, 0), (117, .istore_n 3, 1, 0, 0, 0), (118, .iload_n 3, 1, 0, 0, 0), (119, .sipush 200, 3, 200, 0, 0), (122, .if_icmp .gt 38, 3, 160, 0, 0), (125, .aload_n 0, 1, 0, 0, 0), (126, .getfield 13, 3, 9, 0, 0)], [(129, .iload_n 2, 1, 0, 0, 0), (130, .aaload, 1, 0, 0, 0), (131, .iload_n 3, 1, 0, 0, 0), (132, .aload_n 1, 1, 0, 0, 0), (133, .iload_n 2, 1, 0, 0, 0), (134, .iload_n 3, 1, 0, 0, 0), (135, .invokestatic 48, 3, 178, 3, 1), (138, .ifCond .eq 14, 3, 152, 0, 0), (141, .aload_n 0, 1, 0, 0, 0), (142, .getfield 13, 3, 9, 0, 0)], [(145, .iload_n 2, 1, 0, 0, 0), (146, .aaload, 1, 0, 0, 0), (147, .iload_n 3, 1, 0, 0, 0), (148, .laload, 1, 0, 0, 0), (149, .goto 4, 3, 153, 0, 0), (152, .lconst 0, 1, 0, 0, 0), (153, .lastore, 1, 0, 0, 0), (154, .iinc 3 1, 3, 1, 0, 0), (157, .goto (-39), 3, 118, 0, 0)], [(160, .iinc 2 1, 3, 1, 0, 0), (163, .goto (-161), 3, 2, 0, 0), (166, .return_, 1, 0, 0, 0)]]
set_option maxRecDepth 100000 in
theorem oc_Wa_countHere : okC 176 c_Wa_countHere = true := by decide +kernel
def cu_Wa_countHere : List (Nat × List Bool) := [(10, [true, true, true, true]), (72, [true, true, true, true, true, false, true]), (110, [true, true, true, true]), (34, [true, true, true, true]), (118, [true, true, true, true]), (160, [true, true, true]), (116, [true, true, true]), (32, [true, true, true]), (2, [true, true, true])]
noncomputable def F_Wa_countHere (O : Type) (a : Nat) (av : List AV) (σ : Mem) (K : AV → Mem → Option O) : Option O := if a = 177 then sm_Wa_longer O av σ K else if a = 178 then sm_Wa_isTold O av σ K else none
theorem fs_Wa_countHere {X : CXT} (hX : XC X) (O : Type) : FS X 4 (F_Wa_countHere O) := by
  intro a av σ K o h
  unfold F_Wa_countHere at h
  rcases ite_s h with ⟨rfl, h⟩ | ⟨_, h⟩
  · obtain ⟨r, h1, h2, h3⟩ := ok_Wa_longer hX _ _ _ _ _ h
    exact ⟨r, fun ht => ⟨1, by decide, h1 ht⟩, h2, h3⟩
  rcases ite_s h with ⟨rfl, h⟩ | ⟨_, h⟩
  · obtain ⟨r, h1, h2, h3⟩ := ok_Wa_isTold hX _ _ _ _ _ h
    exact ⟨r, fun ht => ⟨3, by decide, h1 ht⟩, h2, h3⟩
  cases h
def hd_Wa_countHere_10 {O : Type} (g : Nat → Nat → Int32 → Int32 → Mem → Option O) (ls : OL) (st : List AV) (σ : Mem) : Option O := match ls, st with
  | [some (.inr (.inr (9, k0))), some (.inr (.inr (6, k1))), some (.inl v2), some (.inl v3)], [] => g k0 k1 v2 v3 σ
  | _, _ => none
theorem hs_Wa_countHere_10 {X : CXT} {g : Nat → Nat → Int32 → Int32 → Mem → Option (Mem)} (hg : ∀ (k0 : Nat) (k1 : Nat) (v2 : Int32) (v3 : Int32) (s : Mem) (o : Mem), g k0 k1 v2 v3 s = some o → BSnd X 4 176 (ovV o) 10 [some (.inr (.inr (9, k0))), some (.inr (.inr (6, k1))), some (.inl v2), some (.inl v3)] [] s) : ∀ ls st σ o, hd_Wa_countHere_10 g ls st σ = some o → BSnd X 4 176 (ovV o) 10 ls st σ := by
  intro ls st σ o h
  unfold hd_Wa_countHere_10 at h
  split at h
  · exact hg _ _ _ _ _ _ h
  · cases h
def hd_Wa_countHere_72 {O : Type} (g : Nat → Nat → Int32 → Int32 → Int64 → Int32 → Mem → Option O) (ls : OL) (st : List AV) (σ : Mem) : Option O := match ls, st with
  | [some (.inr (.inr (9, k0))), some (.inr (.inr (6, k1))), some (.inl v2), some (.inl v3), some (.inr (.inl v4)), none, some (.inl v6)], [] => g k0 k1 v2 v3 v4 v6 σ
  | _, _ => none
theorem hs_Wa_countHere_72 {X : CXT} {g : Nat → Nat → Int32 → Int32 → Int64 → Int32 → Mem → Option (Mem)} (hg : ∀ (k0 : Nat) (k1 : Nat) (v2 : Int32) (v3 : Int32) (v4 : Int64) (v6 : Int32) (s : Mem) (o : Mem), g k0 k1 v2 v3 v4 v6 s = some o → BSnd X 4 176 (ovV o) 72 [some (.inr (.inr (9, k0))), some (.inr (.inr (6, k1))), some (.inl v2), some (.inl v3), some (.inr (.inl v4)), none, some (.inl v6)] [] s) : ∀ ls st σ o, hd_Wa_countHere_72 g ls st σ = some o → BSnd X 4 176 (ovV o) 72 ls st σ := by
  intro ls st σ o h
  unfold hd_Wa_countHere_72 at h
  split at h
  · exact hg _ _ _ _ _ _ _ _ h
  · cases h
def hd_Wa_countHere_110 {O : Type} (g : Nat → Nat → Int32 → Int32 → Mem → Option O) (ls : OL) (st : List AV) (σ : Mem) : Option O := match ls, st with
  | [some (.inr (.inr (9, k0))), some (.inr (.inr (6, k1))), some (.inl v2), some (.inl v3)], [] => g k0 k1 v2 v3 σ
  | _, _ => none
theorem hs_Wa_countHere_110 {X : CXT} {g : Nat → Nat → Int32 → Int32 → Mem → Option (Mem)} (hg : ∀ (k0 : Nat) (k1 : Nat) (v2 : Int32) (v3 : Int32) (s : Mem) (o : Mem), g k0 k1 v2 v3 s = some o → BSnd X 4 176 (ovV o) 110 [some (.inr (.inr (9, k0))), some (.inr (.inr (6, k1))), some (.inl v2), some (.inl v3)] [] s) : ∀ ls st σ o, hd_Wa_countHere_110 g ls st σ = some o → BSnd X 4 176 (ovV o) 110 ls st σ := by
  intro ls st σ o h
  unfold hd_Wa_countHere_110 at h
  split at h
  · exact hg _ _ _ _ _ _ h
  · cases h
def hd_Wa_countHere_34 {O : Type} (g : Nat → Nat → Int32 → Int32 → Mem → Option O) (ls : OL) (st : List AV) (σ : Mem) : Option O := match ls, st with
  | [some (.inr (.inr (9, k0))), some (.inr (.inr (6, k1))), some (.inl v2), some (.inl v3)], [] => g k0 k1 v2 v3 σ
  | _, _ => none
theorem hs_Wa_countHere_34 {X : CXT} {g : Nat → Nat → Int32 → Int32 → Mem → Option (Mem)} (hg : ∀ (k0 : Nat) (k1 : Nat) (v2 : Int32) (v3 : Int32) (s : Mem) (o : Mem), g k0 k1 v2 v3 s = some o → BSnd X 4 176 (ovV o) 34 [some (.inr (.inr (9, k0))), some (.inr (.inr (6, k1))), some (.inl v2), some (.inl v3)] [] s) : ∀ ls st σ o, hd_Wa_countHere_34 g ls st σ = some o → BSnd X 4 176 (ovV o) 34 ls st σ := by
  intro ls st σ o h
  unfold hd_Wa_countHere_34 at h
  split at h
  · exact hg _ _ _ _ _ _ h
  · cases h
def hd_Wa_countHere_118 {O : Type} (g : Nat → Nat → Int32 → Int32 → Mem → Option O) (ls : OL) (st : List AV) (σ : Mem) : Option O := match ls, st with
  | [some (.inr (.inr (9, k0))), some (.inr (.inr (6, k1))), some (.inl v2), some (.inl v3)], [] => g k0 k1 v2 v3 σ
  | _, _ => none
theorem hs_Wa_countHere_118 {X : CXT} {g : Nat → Nat → Int32 → Int32 → Mem → Option (Mem)} (hg : ∀ (k0 : Nat) (k1 : Nat) (v2 : Int32) (v3 : Int32) (s : Mem) (o : Mem), g k0 k1 v2 v3 s = some o → BSnd X 4 176 (ovV o) 118 [some (.inr (.inr (9, k0))), some (.inr (.inr (6, k1))), some (.inl v2), some (.inl v3)] [] s) : ∀ ls st σ o, hd_Wa_countHere_118 g ls st σ = some o → BSnd X 4 176 (ovV o) 118 ls st σ := by
  intro ls st σ o h
  unfold hd_Wa_countHere_118 at h
  split at h
  · exact hg _ _ _ _ _ _ h
  · cases h
def hd_Wa_countHere_160 {O : Type} (g : Nat → Nat → Int32 → Mem → Option O) (ls : OL) (st : List AV) (σ : Mem) : Option O := match ls, st with
  | [some (.inr (.inr (9, k0))), some (.inr (.inr (6, k1))), some (.inl v2)], [] => g k0 k1 v2 σ
  | _, _ => none
theorem hs_Wa_countHere_160 {X : CXT} {g : Nat → Nat → Int32 → Mem → Option (Mem)} (hg : ∀ (k0 : Nat) (k1 : Nat) (v2 : Int32) (s : Mem) (o : Mem), g k0 k1 v2 s = some o → BSnd X 4 176 (ovV o) 160 [some (.inr (.inr (9, k0))), some (.inr (.inr (6, k1))), some (.inl v2)] [] s) : ∀ ls st σ o, hd_Wa_countHere_160 g ls st σ = some o → BSnd X 4 176 (ovV o) 160 ls st σ := by
  intro ls st σ o h
  unfold hd_Wa_countHere_160 at h
  split at h
  · exact hg _ _ _ _ _ h
  · cases h
def hd_Wa_countHere_116 {O : Type} (g : Nat → Nat → Int32 → Mem → Option O) (ls : OL) (st : List AV) (σ : Mem) : Option O := match ls, st with
  | [some (.inr (.inr (9, k0))), some (.inr (.inr (6, k1))), some (.inl v2)], [] => g k0 k1 v2 σ
  | _, _ => none
theorem hs_Wa_countHere_116 {X : CXT} {g : Nat → Nat → Int32 → Mem → Option (Mem)} (hg : ∀ (k0 : Nat) (k1 : Nat) (v2 : Int32) (s : Mem) (o : Mem), g k0 k1 v2 s = some o → BSnd X 4 176 (ovV o) 116 [some (.inr (.inr (9, k0))), some (.inr (.inr (6, k1))), some (.inl v2)] [] s) : ∀ ls st σ o, hd_Wa_countHere_116 g ls st σ = some o → BSnd X 4 176 (ovV o) 116 ls st σ := by
  intro ls st σ o h
  unfold hd_Wa_countHere_116 at h
  split at h
  · exact hg _ _ _ _ _ h
  · cases h
def hd_Wa_countHere_32 {O : Type} (g : Nat → Nat → Int32 → Mem → Option O) (ls : OL) (st : List AV) (σ : Mem) : Option O := match ls, st with
  | [some (.inr (.inr (9, k0))), some (.inr (.inr (6, k1))), some (.inl v2)], [] => g k0 k1 v2 σ
  | _, _ => none
theorem hs_Wa_countHere_32 {X : CXT} {g : Nat → Nat → Int32 → Mem → Option (Mem)} (hg : ∀ (k0 : Nat) (k1 : Nat) (v2 : Int32) (s : Mem) (o : Mem), g k0 k1 v2 s = some o → BSnd X 4 176 (ovV o) 32 [some (.inr (.inr (9, k0))), some (.inr (.inr (6, k1))), some (.inl v2)] [] s) : ∀ ls st σ o, hd_Wa_countHere_32 g ls st σ = some o → BSnd X 4 176 (ovV o) 32 ls st σ := by
  intro ls st σ o h
  unfold hd_Wa_countHere_32 at h
  split at h
  · exact hg _ _ _ _ _ h
  · cases h
def hd_Wa_countHere_2 {O : Type} (g : Nat → Nat → Int32 → Mem → Option O) (ls : OL) (st : List AV) (σ : Mem) : Option O := match ls, st with
  | [some (.inr (.inr (9, k0))), some (.inr (.inr (6, k1))), some (.inl v2)], [] => g k0 k1 v2 σ
  | _, _ => none
theorem hs_Wa_countHere_2 {X : CXT} {g : Nat → Nat → Int32 → Mem → Option (Mem)} (hg : ∀ (k0 : Nat) (k1 : Nat) (v2 : Int32) (s : Mem) (o : Mem), g k0 k1 v2 s = some o → BSnd X 4 176 (ovV o) 2 [some (.inr (.inr (9, k0))), some (.inr (.inr (6, k1))), some (.inl v2)] [] s) : ∀ ls st σ o, hd_Wa_countHere_2 g ls st σ = some o → BSnd X 4 176 (ovV o) 2 ls st σ := by
  intro ls st σ o h
  unfold hd_Wa_countHere_2 at h
  split at h
  · exact hg _ _ _ _ _ h
  · cases h
set_option maxRecDepth 100000 in
theorem s_Wa_countHere_10 {X : CXT} (hX : XC X) {K32 : Nat → Nat → Int32 → Mem → Option (Mem)} (hK32 : ∀ (k0 : Nat) (k1 : Nat) (v2 : Int32) (s : Mem) (o : Mem), K32 k0 k1 v2 s = some o → BSnd X 4 176 (ovV o) 32 [some (.inr (.inr (9, k0))), some (.inr (.inr (6, k1))), some (.inl v2)] [] s) : ∀ n : Nat, ∀ (k0 : Nat) (k1 : Nat) (v2 : Int32) (v3 : Int32) (s : Mem) (o : Mem), f_Wa_countHere_10 K32 n k0 k1 v2 v3 s = some o → BSnd X 4 176 (ovV o) 10 [some (.inr (.inr (9, k0))), some (.inr (.inr (6, k1))), some (.inl v2), some (.inl v3)] [] s := by
  intro n
  induction n with
  | zero => intro k0 k1 v2 v3 s o h; cases h
  | succ n ih =>
    intro k0 k1 v2 v3 s o h
    exact evC (chs := c_Wa_countHere) (cuts := cu_Wa_countHere) (G := fun pc ls st σ => if pc = 10 then hd_Wa_countHere_10 (fun k0 k1 v2 v3 s => f_Wa_countHere_10 K32 n k0 k1 v2 v3 s) ls st σ else if pc = 32 then hd_Wa_countHere_32 (fun k0 k1 v2 s => K32 k0 k1 v2 s) ls st σ else none) hX.2.1 hX.2.2 (F := F_Wa_countHere _) (fs_Wa_countHere hX _) (rt_V rfl) oc_Wa_countHere (by
    intro pc ls st σ o h
    rcases ite_s h with ⟨rfl, h⟩ | ⟨_, h⟩
    · exact hs_Wa_countHere_10 ih _ _ _ _ h
    rcases ite_s h with ⟨rfl, h⟩ | ⟨_, h⟩
    · exact hs_Wa_countHere_32 hK32 _ _ _ _ h
    cases h) 420 10 _ _ _ _ h
set_option maxRecDepth 100000 in
theorem s_Wa_countHere_72 {X : CXT} (hX : XC X) {K110 : Nat → Nat → Int32 → Int32 → Mem → Option (Mem)} (hK110 : ∀ (k0 : Nat) (k1 : Nat) (v2 : Int32) (v3 : Int32) (s : Mem) (o : Mem), K110 k0 k1 v2 v3 s = some o → BSnd X 4 176 (ovV o) 110 [some (.inr (.inr (9, k0))), some (.inr (.inr (6, k1))), some (.inl v2), some (.inl v3)] [] s) : ∀ n : Nat, ∀ (k0 : Nat) (k1 : Nat) (v2 : Int32) (v3 : Int32) (v4 : Int64) (v6 : Int32) (s : Mem) (o : Mem), f_Wa_countHere_72 K110 n k0 k1 v2 v3 v4 v6 s = some o → BSnd X 4 176 (ovV o) 72 [some (.inr (.inr (9, k0))), some (.inr (.inr (6, k1))), some (.inl v2), some (.inl v3), some (.inr (.inl v4)), none, some (.inl v6)] [] s := by
  intro n
  induction n with
  | zero => intro k0 k1 v2 v3 v4 v6 s o h; cases h
  | succ n ih =>
    intro k0 k1 v2 v3 v4 v6 s o h
    exact evC (chs := c_Wa_countHere) (cuts := cu_Wa_countHere) (G := fun pc ls st σ => if pc = 72 then hd_Wa_countHere_72 (fun k0 k1 v2 v3 v4 v6 s => f_Wa_countHere_72 K110 n k0 k1 v2 v3 v4 v6 s) ls st σ else if pc = 110 then hd_Wa_countHere_110 (fun k0 k1 v2 v3 s => K110 k0 k1 v2 v3 s) ls st σ else none) hX.2.1 hX.2.2 (F := F_Wa_countHere _) (fs_Wa_countHere hX _) (rt_V rfl) oc_Wa_countHere (by
    intro pc ls st σ o h
    rcases ite_s h with ⟨rfl, h⟩ | ⟨_, h⟩
    · exact hs_Wa_countHere_72 ih _ _ _ _ h
    rcases ite_s h with ⟨rfl, h⟩ | ⟨_, h⟩
    · exact hs_Wa_countHere_110 hK110 _ _ _ _ h
    cases h) 420 72 _ _ _ _ h
set_option maxRecDepth 100000 in
theorem s_Wa_countHere_110 {X : CXT} (hX : XC X) {KH : Nat → Nat → Int32 → Int32 → Mem → Option (Mem)} {K116 : Nat → Nat → Int32 → Mem → Option (Mem)} (hKH : ∀ (k0 : Nat) (k1 : Nat) (v2 : Int32) (v3 : Int32) (s : Mem) (o : Mem), KH k0 k1 v2 v3 s = some o → BSnd X 4 176 (ovV o) 34 [some (.inr (.inr (9, k0))), some (.inr (.inr (6, k1))), some (.inl v2), some (.inl v3)] [] s) (hK116 : ∀ (k0 : Nat) (k1 : Nat) (v2 : Int32) (s : Mem) (o : Mem), K116 k0 k1 v2 s = some o → BSnd X 4 176 (ovV o) 116 [some (.inr (.inr (9, k0))), some (.inr (.inr (6, k1))), some (.inl v2)] [] s) : ∀ (k0 : Nat) (k1 : Nat) (v2 : Int32) (v3 : Int32) (s : Mem) (o : Mem), f_Wa_countHere_110 KH K116 k0 k1 v2 v3 s = some o → BSnd X 4 176 (ovV o) 110 [some (.inr (.inr (9, k0))), some (.inr (.inr (6, k1))), some (.inl v2), some (.inl v3)] [] s := by
  intro k0 k1 v2 v3 s o h
  exact evC (chs := c_Wa_countHere) (cuts := cu_Wa_countHere) (G := fun pc ls st σ => if pc = 34 then hd_Wa_countHere_34 (fun k0 k1 v2 v3 s => KH k0 k1 v2 v3 s) ls st σ else none) hX.2.1 hX.2.2 (F := F_Wa_countHere _) (fs_Wa_countHere hX _) (rt_V rfl) oc_Wa_countHere (by
    intro pc ls st σ o h
    rcases ite_s h with ⟨rfl, h⟩ | ⟨_, h⟩
    · exact hs_Wa_countHere_34 hKH _ _ _ _ h
    cases h) 420 110 _ _ _ _ h
set_option maxRecDepth 100000 in
theorem s_Wa_countHere_34 {X : CXT} (hX : XC X) {K116 : Nat → Nat → Int32 → Mem → Option (Mem)} (hK116 : ∀ (k0 : Nat) (k1 : Nat) (v2 : Int32) (s : Mem) (o : Mem), K116 k0 k1 v2 s = some o → BSnd X 4 176 (ovV o) 116 [some (.inr (.inr (9, k0))), some (.inr (.inr (6, k1))), some (.inl v2)] [] s) : ∀ n : Nat, ∀ (k0 : Nat) (k1 : Nat) (v2 : Int32) (v3 : Int32) (s : Mem) (o : Mem), f_Wa_countHere_34 K116 n k0 k1 v2 v3 s = some o → BSnd X 4 176 (ovV o) 34 [some (.inr (.inr (9, k0))), some (.inr (.inr (6, k1))), some (.inl v2), some (.inl v3)] [] s := by
  intro n
  induction n with
  | zero => intro k0 k1 v2 v3 s o h; cases h
  | succ n ih =>
    intro k0 k1 v2 v3 s o h
    exact evC (chs := c_Wa_countHere) (cuts := cu_Wa_countHere) (G := fun pc ls st σ => if pc = 72 then hd_Wa_countHere_72 (fun k0 k1 v2 v3 v4 v6 s => f_Wa_countHere_72 (fun k0 k1 v2 v3 s => f_Wa_countHere_110 (fun k0 k1 v2 v3 s => f_Wa_countHere_34 K116 n k0 k1 v2 v3 s) K116 k0 k1 v2 v3 s) FU k0 k1 v2 v3 v4 v6 s) ls st σ else if pc = 110 then hd_Wa_countHere_110 (fun k0 k1 v2 v3 s => f_Wa_countHere_110 (fun k0 k1 v2 v3 s => f_Wa_countHere_34 K116 n k0 k1 v2 v3 s) K116 k0 k1 v2 v3 s) ls st σ else if pc = 34 then hd_Wa_countHere_34 (fun k0 k1 v2 v3 s => f_Wa_countHere_34 K116 n k0 k1 v2 v3 s) ls st σ else if pc = 116 then hd_Wa_countHere_116 (fun k0 k1 v2 s => K116 k0 k1 v2 s) ls st σ else none) hX.2.1 hX.2.2 (F := F_Wa_countHere _) (fs_Wa_countHere hX _) (rt_V rfl) oc_Wa_countHere (by
    intro pc ls st σ o h
    rcases ite_s h with ⟨rfl, h⟩ | ⟨_, h⟩
    · exact hs_Wa_countHere_72 (s_Wa_countHere_72 hX (s_Wa_countHere_110 hX ih hK116) FU) _ _ _ _ h
    rcases ite_s h with ⟨rfl, h⟩ | ⟨_, h⟩
    · exact hs_Wa_countHere_110 (s_Wa_countHere_110 hX ih hK116) _ _ _ _ h
    rcases ite_s h with ⟨rfl, h⟩ | ⟨_, h⟩
    · exact hs_Wa_countHere_34 ih _ _ _ _ h
    rcases ite_s h with ⟨rfl, h⟩ | ⟨_, h⟩
    · exact hs_Wa_countHere_116 hK116 _ _ _ _ h
    cases h) 420 34 _ _ _ _ h
set_option maxRecDepth 100000 in
theorem s_Wa_countHere_118 {X : CXT} (hX : XC X) {K160 : Nat → Nat → Int32 → Mem → Option (Mem)} (hK160 : ∀ (k0 : Nat) (k1 : Nat) (v2 : Int32) (s : Mem) (o : Mem), K160 k0 k1 v2 s = some o → BSnd X 4 176 (ovV o) 160 [some (.inr (.inr (9, k0))), some (.inr (.inr (6, k1))), some (.inl v2)] [] s) : ∀ n : Nat, ∀ (k0 : Nat) (k1 : Nat) (v2 : Int32) (v3 : Int32) (s : Mem) (o : Mem), f_Wa_countHere_118 K160 n k0 k1 v2 v3 s = some o → BSnd X 4 176 (ovV o) 118 [some (.inr (.inr (9, k0))), some (.inr (.inr (6, k1))), some (.inl v2), some (.inl v3)] [] s := by
  intro n
  induction n with
  | zero => intro k0 k1 v2 v3 s o h; cases h
  | succ n ih =>
    intro k0 k1 v2 v3 s o h
    exact evC (chs := c_Wa_countHere) (cuts := cu_Wa_countHere) (G := fun pc ls st σ => if pc = 118 then hd_Wa_countHere_118 (fun k0 k1 v2 v3 s => f_Wa_countHere_118 K160 n k0 k1 v2 v3 s) ls st σ else if pc = 160 then hd_Wa_countHere_160 (fun k0 k1 v2 s => K160 k0 k1 v2 s) ls st σ else none) hX.2.1 hX.2.2 (F := F_Wa_countHere _) (fs_Wa_countHere hX _) (rt_V rfl) oc_Wa_countHere (by
    intro pc ls st σ o h
    rcases ite_s h with ⟨rfl, h⟩ | ⟨_, h⟩
    · exact hs_Wa_countHere_118 ih _ _ _ _ h
    rcases ite_s h with ⟨rfl, h⟩ | ⟨_, h⟩
    · exact hs_Wa_countHere_160 hK160 _ _ _ _ h
    cases h) 420 118 _ _ _ _ h
set_option maxRecDepth 100000 in
theorem s_Wa_countHere_160 {X : CXT} (hX : XC X) {KH : Nat → Nat → Int32 → Mem → Option (Mem)} (hKH : ∀ (k0 : Nat) (k1 : Nat) (v2 : Int32) (s : Mem) (o : Mem), KH k0 k1 v2 s = some o → BSnd X 4 176 (ovV o) 2 [some (.inr (.inr (9, k0))), some (.inr (.inr (6, k1))), some (.inl v2)] [] s) : ∀ (k0 : Nat) (k1 : Nat) (v2 : Int32) (s : Mem) (o : Mem), f_Wa_countHere_160 KH k0 k1 v2 s = some o → BSnd X 4 176 (ovV o) 160 [some (.inr (.inr (9, k0))), some (.inr (.inr (6, k1))), some (.inl v2)] [] s := by
  intro k0 k1 v2 s o h
  exact evC (chs := c_Wa_countHere) (cuts := cu_Wa_countHere) (G := fun pc ls st σ => if pc = 2 then hd_Wa_countHere_2 (fun k0 k1 v2 s => KH k0 k1 v2 s) ls st σ else none) hX.2.1 hX.2.2 (F := F_Wa_countHere _) (fs_Wa_countHere hX _) (rt_V rfl) oc_Wa_countHere (by
    intro pc ls st σ o h
    rcases ite_s h with ⟨rfl, h⟩ | ⟨_, h⟩
    · exact hs_Wa_countHere_2 hKH _ _ _ _ h
    cases h) 420 160 _ _ _ _ h
set_option maxRecDepth 100000 in
theorem s_Wa_countHere_116 {X : CXT} (hX : XC X) {KH : Nat → Nat → Int32 → Mem → Option (Mem)} (hKH : ∀ (k0 : Nat) (k1 : Nat) (v2 : Int32) (s : Mem) (o : Mem), KH k0 k1 v2 s = some o → BSnd X 4 176 (ovV o) 2 [some (.inr (.inr (9, k0))), some (.inr (.inr (6, k1))), some (.inl v2)] [] s) : ∀ (k0 : Nat) (k1 : Nat) (v2 : Int32) (s : Mem) (o : Mem), f_Wa_countHere_116 KH k0 k1 v2 s = some o → BSnd X 4 176 (ovV o) 116 [some (.inr (.inr (9, k0))), some (.inr (.inr (6, k1))), some (.inl v2)] [] s := by
  intro k0 k1 v2 s o h
  exact evC (chs := c_Wa_countHere) (cuts := cu_Wa_countHere) (G := fun pc ls st σ => if pc = 118 then hd_Wa_countHere_118 (fun k0 k1 v2 v3 s => f_Wa_countHere_118 (fun k0 k1 v2 s => f_Wa_countHere_160 (KH) k0 k1 v2 s) FU k0 k1 v2 v3 s) ls st σ else if pc = 160 then hd_Wa_countHere_160 (fun k0 k1 v2 s => f_Wa_countHere_160 (KH) k0 k1 v2 s) ls st σ else if pc = 2 then hd_Wa_countHere_2 (fun k0 k1 v2 s => KH k0 k1 v2 s) ls st σ else none) hX.2.1 hX.2.2 (F := F_Wa_countHere _) (fs_Wa_countHere hX _) (rt_V rfl) oc_Wa_countHere (by
    intro pc ls st σ o h
    rcases ite_s h with ⟨rfl, h⟩ | ⟨_, h⟩
    · exact hs_Wa_countHere_118 (s_Wa_countHere_118 hX (s_Wa_countHere_160 hX hKH) FU) _ _ _ _ h
    rcases ite_s h with ⟨rfl, h⟩ | ⟨_, h⟩
    · exact hs_Wa_countHere_160 (s_Wa_countHere_160 hX hKH) _ _ _ _ h
    rcases ite_s h with ⟨rfl, h⟩ | ⟨_, h⟩
    · exact hs_Wa_countHere_2 hKH _ _ _ _ h
    cases h) 420 116 _ _ _ _ h
set_option maxRecDepth 100000 in
theorem s_Wa_countHere_32 {X : CXT} (hX : XC X) {KH : Nat → Nat → Int32 → Mem → Option (Mem)} (hKH : ∀ (k0 : Nat) (k1 : Nat) (v2 : Int32) (s : Mem) (o : Mem), KH k0 k1 v2 s = some o → BSnd X 4 176 (ovV o) 2 [some (.inr (.inr (9, k0))), some (.inr (.inr (6, k1))), some (.inl v2)] [] s) : ∀ (k0 : Nat) (k1 : Nat) (v2 : Int32) (s : Mem) (o : Mem), f_Wa_countHere_32 KH k0 k1 v2 s = some o → BSnd X 4 176 (ovV o) 32 [some (.inr (.inr (9, k0))), some (.inr (.inr (6, k1))), some (.inl v2)] [] s := by
  intro k0 k1 v2 s o h
  exact evC (chs := c_Wa_countHere) (cuts := cu_Wa_countHere) (G := fun pc ls st σ => if pc = 34 then hd_Wa_countHere_34 (fun k0 k1 v2 v3 s => f_Wa_countHere_34 (fun k0 k1 v2 s => f_Wa_countHere_116 (KH) k0 k1 v2 s) FU k0 k1 v2 v3 s) ls st σ else if pc = 116 then hd_Wa_countHere_116 (fun k0 k1 v2 s => f_Wa_countHere_116 (KH) k0 k1 v2 s) ls st σ else if pc = 2 then hd_Wa_countHere_2 (fun k0 k1 v2 s => KH k0 k1 v2 s) ls st σ else none) hX.2.1 hX.2.2 (F := F_Wa_countHere _) (fs_Wa_countHere hX _) (rt_V rfl) oc_Wa_countHere (by
    intro pc ls st σ o h
    rcases ite_s h with ⟨rfl, h⟩ | ⟨_, h⟩
    · exact hs_Wa_countHere_34 (s_Wa_countHere_34 hX (s_Wa_countHere_116 hX hKH) FU) _ _ _ _ h
    rcases ite_s h with ⟨rfl, h⟩ | ⟨_, h⟩
    · exact hs_Wa_countHere_116 (s_Wa_countHere_116 hX hKH) _ _ _ _ h
    rcases ite_s h with ⟨rfl, h⟩ | ⟨_, h⟩
    · exact hs_Wa_countHere_2 hKH _ _ _ _ h
    cases h) 420 32 _ _ _ _ h
set_option maxRecDepth 100000 in
theorem s_Wa_countHere_2 {X : CXT} (hX : XC X) : ∀ n : Nat, ∀ (k0 : Nat) (k1 : Nat) (v2 : Int32) (s : Mem) (o : Mem), f_Wa_countHere_2 n k0 k1 v2 s = some o → BSnd X 4 176 (ovV o) 2 [some (.inr (.inr (9, k0))), some (.inr (.inr (6, k1))), some (.inl v2)] [] s := by
  intro n
  induction n with
  | zero => intro k0 k1 v2 s o h; cases h
  | succ n ih =>
    intro k0 k1 v2 s o h
    exact evC (chs := c_Wa_countHere) (cuts := cu_Wa_countHere) (G := fun pc ls st σ => if pc = 10 then hd_Wa_countHere_10 (fun k0 k1 v2 v3 s => f_Wa_countHere_10 (fun k0 k1 v2 s => f_Wa_countHere_32 (fun k0 k1 v2 s => f_Wa_countHere_2 n k0 k1 v2 s) k0 k1 v2 s) FU k0 k1 v2 v3 s) ls st σ else if pc = 32 then hd_Wa_countHere_32 (fun k0 k1 v2 s => f_Wa_countHere_32 (fun k0 k1 v2 s => f_Wa_countHere_2 n k0 k1 v2 s) k0 k1 v2 s) ls st σ else if pc = 2 then hd_Wa_countHere_2 (fun k0 k1 v2 s => f_Wa_countHere_2 n k0 k1 v2 s) ls st σ else none) hX.2.1 hX.2.2 (F := F_Wa_countHere _) (fs_Wa_countHere hX _) (rt_V rfl) oc_Wa_countHere (by
    intro pc ls st σ o h
    rcases ite_s h with ⟨rfl, h⟩ | ⟨_, h⟩
    · exact hs_Wa_countHere_10 (s_Wa_countHere_10 hX (s_Wa_countHere_32 hX ih) FU) _ _ _ _ h
    rcases ite_s h with ⟨rfl, h⟩ | ⟨_, h⟩
    · exact hs_Wa_countHere_32 (s_Wa_countHere_32 hX ih) _ _ _ _ h
    rcases ite_s h with ⟨rfl, h⟩ | ⟨_, h⟩
    · exact hs_Wa_countHere_2 ih _ _ _ _ h
    cases h) 420 2 _ _ _ _ h
set_option maxRecDepth 100000 in
theorem s_Wa_countHere {X : CXT} (hX : XC X) : ∀ (k0 : Nat) (k1 : Nat) (s : Mem) (o : Mem), f_Wa_countHere k0 k1 s = some o → BSnd X 4 176 (ovV o) 0 (entL [.inr (.inr (9, k0)), .inr (.inr (6, k1))]) [] s := by
  intro k0 k1 s o h
  rw [f_Wa_countHere_eq] at h
  exact evC (chs := c_Wa_countHere) (cuts := cu_Wa_countHere) (G := fun pc ls st σ => if pc = 2 then hd_Wa_countHere_2 (fun k0 k1 v2 s => f_Wa_countHere_2 FU k0 k1 v2 s) ls st σ else none) hX.2.1 hX.2.2 (F := F_Wa_countHere _) (fs_Wa_countHere hX _) (rt_V rfl) oc_Wa_countHere (by
    intro pc ls st σ o h
    rcases ite_s h with ⟨rfl, h⟩ | ⟨_, h⟩
    · exact hs_Wa_countHere_2 (s_Wa_countHere_2 hX FU) _ _ _ _ h
    cases h) 420 0 _ _ _ _ h
theorem ok_Wa_countHere {X : CXT} (hX : XC X) : SemOK X 4 176 sm_Wa_countHere := by
  intro O av σ K o h
  unfold sm_Wa_countHere at h
  split at h
  · obtain ⟨r, hf, h⟩ := Option.bind_eq_some_iff.mp h
    exact ⟨ovV r, fun ht => sp_of hX.1 (by decide) (List.mem_range.mpr (by decide)) (by decide +kernel) ht (Nat.le_of_ble_eq_true rfl) (s_Wa_countHere hX _ _ _ _ hf), trivial, h⟩
  · cases h
noncomputable def f_Wa_onwardFrom_6 : Nat → Nat → Nat → Int32 → Int32 → Int64 → Int32 → Mem → Option (Int64 × Mem)
  | 0, _, _, _, _, _, _, _ => none
  | n + 1, k0, k1, v2, v3, v4, v6, s =>
    cif (((6 : Int32)) ≤ v6) (
      some (v4, s)) (
      cif (((12 : Int32)) ≤ v2) (
        some (v4, s)) (
        (f_Wa_longer v3 v6 s).bind fun r1 =>
        (f_Wa_isTold k1 v2 r1.1 r1.2).bind fun r2 =>
        cif ((b2i r2.1) = 0) (
          let x3 : Int64 := v4 + ((0 : Int64))
          f_Wa_onwardFrom_6 n k0 k1 v2 v3 x3 (v6 + (1 : Int32)) r2.2) (
          gd (inb v2 (lenC (k0 + 14))) <|
          gd (inb r1.1 (lenC (k0 + 14 + 1 + ix v2))) <|
          let x4 : Int64 := v4 + (rJ r2.2 (k0 + 14 + 1 + ix v2) (ix r1.1))
          f_Wa_onwardFrom_6 n k0 k1 v2 v3 x4 (v6 + (1 : Int32)) r2.2)))
noncomputable def b_Wa_onwardFrom (k0 : Nat) (k1 : Nat) (v2 : Int32) (v3 : Int32) (s : Mem) : Option (Int64 × Mem) :=
  let x1 : Int64 := (0 : Int64)
  f_Wa_onwardFrom_6 FU k0 k1 v2 v3 x1 ((0 : Int32)) s
noncomputable def f_Wa_onwardFrom : Nat → Nat → Int32 → Int32 → Mem → Option (Int64 × Mem) := Classical.choose (⟨b_Wa_onwardFrom, rfl⟩ : ∃ f : Nat → Nat → Int32 → Int32 → Mem → Option (Int64 × Mem), f = b_Wa_onwardFrom)
theorem f_Wa_onwardFrom_eq : f_Wa_onwardFrom = b_Wa_onwardFrom := Classical.choose_spec (⟨b_Wa_onwardFrom, rfl⟩ : ∃ f : Nat → Nat → Int32 → Int32 → Mem → Option (Int64 × Mem), f = b_Wa_onwardFrom)
noncomputable def sm_Wa_onwardFrom (O : Type) (av : List AV) (σ : Mem) (K : AV → Mem → Option O) : Option O := match av with
  | [.inr (.inr (9, k0)), .inr (.inr (6, k1)), .inl v2, .inl v3] => (f_Wa_onwardFrom k0 k1 v2 v3 σ).bind fun r => K (.inr (.inl r.1)) r.2
  | _ => none
def c_Wa_onwardFrom : List (List CE) := [[(0, .lconst 0, 1, 0, 0, 0), (1, .lstore 4, 2, 0, 0, 0), (3, .iconst 0, 1, 0, 0, 0), (4, .istore 6, 2, 0, 0, 0), (6, .iload 6, 2, 0, 0, 0), (8, .bipush 6, 2, 6, 0, 0), (10, .if_icmp .ge 51, 3, 61, 0, 0), (13, .iload_n 2, 1, 0, 0, 0), (14, .bipush 12, 2, 12, 0, 0)], [(16, .if_icmp .ge 45, 3, 61, 0, 0), (19, .iload_n 3, 1, 0, 0, 0), (20, .iload 6, 2, 0, 0, 0), (22, .invokestatic 45, 3, 177, 2, 1), (25, .istore 7, 2, 0, 0, 0), (27, .lload 4, 2, 0, 0, 0), (29, .aload_n 1, 1, 0, 0, 0), (30, .iload_n 2, 1, 0, 0, 0), (31, .iload 7, 2, 0, 0, 0)], [(33, .invokestatic 48, 3, 178, 3, 1), (36, .ifCond .eq 15, 3, 51, 0, 0), (39, .aload_n 0, 1, 0, 0, 0), (40, .getfield 16, 3, 9, 1, 0), (43, .iload_n 2, 1, 0, 0, 0), (44, .aaload, 1, 0, 0, 0), (45, .iload 7, 2, 0, 0, 0), (47, .laload, 1, 0, 0, 0)], [(48, .goto 4, 3, 52, 0, 0), (51, .lconst 0, 1, 0, 0, 0), (52, .ladd, 1, 0, 0, 0), (53, .lstore 4, 2, 0, 0, 0), (55, .iinc 6 1, 3, 1, 0, 0), (58, .goto (-52), 3, 6, 0, 0), (61, .lload 4, 2, 0, 0, 0), (63, .lreturn, 1, 0, 0, 0)]]
set_option maxRecDepth 100000 in
theorem oc_Wa_onwardFrom : okC 180 c_Wa_onwardFrom = true := by decide +kernel
def cu_Wa_onwardFrom : List (Nat × List Bool) := [(6, [true, true, true, true, true, false, true])]
noncomputable def F_Wa_onwardFrom (O : Type) (a : Nat) (av : List AV) (σ : Mem) (K : AV → Mem → Option O) : Option O := if a = 177 then sm_Wa_longer O av σ K else if a = 178 then sm_Wa_isTold O av σ K else none
theorem fs_Wa_onwardFrom {X : CXT} (hX : XC X) (O : Type) : FS X 4 (F_Wa_onwardFrom O) := by
  intro a av σ K o h
  unfold F_Wa_onwardFrom at h
  rcases ite_s h with ⟨rfl, h⟩ | ⟨_, h⟩
  · obtain ⟨r, h1, h2, h3⟩ := ok_Wa_longer hX _ _ _ _ _ h
    exact ⟨r, fun ht => ⟨1, by decide, h1 ht⟩, h2, h3⟩
  rcases ite_s h with ⟨rfl, h⟩ | ⟨_, h⟩
  · obtain ⟨r, h1, h2, h3⟩ := ok_Wa_isTold hX _ _ _ _ _ h
    exact ⟨r, fun ht => ⟨3, by decide, h1 ht⟩, h2, h3⟩
  cases h
def hd_Wa_onwardFrom_6 {O : Type} (g : Nat → Nat → Int32 → Int32 → Int64 → Int32 → Mem → Option O) (ls : OL) (st : List AV) (σ : Mem) : Option O := match ls, st with
  | [some (.inr (.inr (9, k0))), some (.inr (.inr (6, k1))), some (.inl v2), some (.inl v3), some (.inr (.inl v4)), none, some (.inl v6)], [] => g k0 k1 v2 v3 v4 v6 σ
  | _, _ => none
theorem hs_Wa_onwardFrom_6 {X : CXT} {g : Nat → Nat → Int32 → Int32 → Int64 → Int32 → Mem → Option (Int64 × Mem)} (hg : ∀ (k0 : Nat) (k1 : Nat) (v2 : Int32) (v3 : Int32) (v4 : Int64) (v6 : Int32) (s : Mem) (o : Int64 × Mem), g k0 k1 v2 v3 v4 v6 s = some o → BSnd X 4 180 (ovL o) 6 [some (.inr (.inr (9, k0))), some (.inr (.inr (6, k1))), some (.inl v2), some (.inl v3), some (.inr (.inl v4)), none, some (.inl v6)] [] s) : ∀ ls st σ o, hd_Wa_onwardFrom_6 g ls st σ = some o → BSnd X 4 180 (ovL o) 6 ls st σ := by
  intro ls st σ o h
  unfold hd_Wa_onwardFrom_6 at h
  split at h
  · exact hg _ _ _ _ _ _ _ _ h
  · cases h
set_option maxRecDepth 100000 in
theorem s_Wa_onwardFrom_6 {X : CXT} (hX : XC X) : ∀ n : Nat, ∀ (k0 : Nat) (k1 : Nat) (v2 : Int32) (v3 : Int32) (v4 : Int64) (v6 : Int32) (s : Mem) (o : Int64 × Mem), f_Wa_onwardFrom_6 n k0 k1 v2 v3 v4 v6 s = some o → BSnd X 4 180 (ovL o) 6 [some (.inr (.inr (9, k0))), some (.inr (.inr (6, k1))), some (.inl v2), some (.inl v3), some (.inr (.inl v4)), none, some (.inl v6)] [] s := by
  intro n
  induction n with
  | zero => intro k0 k1 v2 v3 v4 v6 s o h; cases h
  | succ n ih =>
    intro k0 k1 v2 v3 v4 v6 s o h
    exact evC (chs := c_Wa_onwardFrom) (cuts := cu_Wa_onwardFrom) (G := fun pc ls st σ => if pc = 6 then hd_Wa_onwardFrom_6 (fun k0 k1 v2 v3 v4 v6 s => f_Wa_onwardFrom_6 n k0 k1 v2 v3 v4 v6 s) ls st σ else none) hX.2.1 hX.2.2 (F := F_Wa_onwardFrom _) (fs_Wa_onwardFrom hX _) (rt_L rfl) oc_Wa_onwardFrom (by
    intro pc ls st σ o h
    rcases ite_s h with ⟨rfl, h⟩ | ⟨_, h⟩
    · exact hs_Wa_onwardFrom_6 ih _ _ _ _ h
    cases h) 176 6 _ _ _ _ h
set_option maxRecDepth 100000 in
theorem s_Wa_onwardFrom {X : CXT} (hX : XC X) : ∀ (k0 : Nat) (k1 : Nat) (v2 : Int32) (v3 : Int32) (s : Mem) (o : Int64 × Mem), f_Wa_onwardFrom k0 k1 v2 v3 s = some o → BSnd X 4 180 (ovL o) 0 (entL [.inr (.inr (9, k0)), .inr (.inr (6, k1)), .inl v2, .inl v3]) [] s := by
  intro k0 k1 v2 v3 s o h
  rw [f_Wa_onwardFrom_eq] at h
  exact evC (chs := c_Wa_onwardFrom) (cuts := cu_Wa_onwardFrom) (G := fun pc ls st σ => if pc = 6 then hd_Wa_onwardFrom_6 (fun k0 k1 v2 v3 v4 v6 s => f_Wa_onwardFrom_6 FU k0 k1 v2 v3 v4 v6 s) ls st σ else none) hX.2.1 hX.2.2 (F := F_Wa_onwardFrom _) (fs_Wa_onwardFrom hX _) (rt_L rfl) oc_Wa_onwardFrom (by
    intro pc ls st σ o h
    rcases ite_s h with ⟨rfl, h⟩ | ⟨_, h⟩
    · exact hs_Wa_onwardFrom_6 (s_Wa_onwardFrom_6 hX FU) _ _ _ _ h
    cases h) 176 0 _ _ _ _ h
theorem ok_Wa_onwardFrom {X : CXT} (hX : XC X) : SemOK X 4 180 sm_Wa_onwardFrom := by
  intro O av σ K o h
  unfold sm_Wa_onwardFrom at h
  split at h
  · obtain ⟨r, hf, h⟩ := Option.bind_eq_some_iff.mp h
    exact ⟨ovL r, fun ht => sp_of hX.1 (by decide) (List.mem_range.mpr (by decide)) (by decide +kernel) ht (Nat.le_of_ble_eq_true rfl) (s_Wa_onwardFrom hX _ _ _ _ _ _ hf), trivial, h⟩
  · cases h
noncomputable def f_Wa_countOnward_9 (K49 : Nat → Nat → Int32 → Mem → Option (Mem)) : Nat → Nat → Nat → Int32 → Int32 → Mem → Option (Mem)
  | 0, _, _, _, _, _ => none
  | n + 1, k0, k1, v2, v3, s =>
    cif (((200 : Int32)) < v3) (
      K49 k0 k1 v2 s) (
      gd (inb v2 (lenC (k0 + 14))) <|
      cif (v2 = ((11 : Int32))) (
        gd (inb v3 (lenC (k0 + 14 + 1 + ix v2))) <|
        let s1 : Mem := wJ s (k0 + 14 + 1 + ix v2) (ix v3) ((1 : Int64))
        f_Wa_countOnward_9 K49 n k0 k1 v2 (v3 + (1 : Int32)) s1) (
        (f_Wa_onwardFrom k0 k1 (v2 + ((1 : Int32))) v3 s).bind fun r2 =>
        gd (inb v3 (lenC (k0 + 14 + 1 + ix v2))) <|
        let s3 : Mem := wJ r2.2 (k0 + 14 + 1 + ix v2) (ix v3) r2.1
        f_Wa_countOnward_9 K49 n k0 k1 v2 (v3 + (1 : Int32)) s3))
noncomputable def f_Wa_countOnward_49 (KH : Nat → Nat → Int32 → Mem → Option (Mem)) (k0 : Nat) (k1 : Nat) (v2 : Int32) (s : Mem) : Option (Mem) :=
  KH k0 k1 (v2 - (1 : Int32)) s
noncomputable def f_Wa_countOnward_3 : Nat → Nat → Nat → Int32 → Mem → Option (Mem)
  | 0, _, _, _, _ => none
  | n + 1, k0, k1, v2, s =>
    cif (v2 < 0) (
      some s) (
      f_Wa_countOnward_9 (fun k0 k1 v2 s => f_Wa_countOnward_49 (fun k0 k1 v2 s => f_Wa_countOnward_3 n k0 k1 v2 s) k0 k1 v2 s) FU k0 k1 v2 ((0 : Int32)) s)
noncomputable def b_Wa_countOnward (k0 : Nat) (k1 : Nat) (s : Mem) : Option (Mem) :=
  f_Wa_countOnward_3 FU k0 k1 ((11 : Int32)) s
noncomputable def f_Wa_countOnward : Nat → Nat → Mem → Option (Mem) := Classical.choose (⟨b_Wa_countOnward, rfl⟩ : ∃ f : Nat → Nat → Mem → Option (Mem), f = b_Wa_countOnward)
theorem f_Wa_countOnward_eq : f_Wa_countOnward = b_Wa_countOnward := Classical.choose_spec (⟨b_Wa_countOnward, rfl⟩ : ∃ f : Nat → Nat → Mem → Option (Mem), f = b_Wa_countOnward)
noncomputable def sm_Wa_countOnward (O : Type) (av : List AV) (σ : Mem) (K : AV → Mem → Option O) : Option O := match av with
  | [.inr (.inr (9, k0)), .inr (.inr (6, k1))] => (f_Wa_countOnward k0 k1 σ).bind fun r => K (.inl 0) r
  | _ => none
def c_Wa_countOnward : List (List CE) := [[(0, .bipush 11, 2, 11, 0, 0), (2, .istore_n 2, 1, 0, 0, 0), (3, .iload_n 2, 1, 0, 0, 0), (4, .ifCond .lt 51, 3, 55, 0, 0), (7, .iconst 0, 1, 0, 0, 0), (8, .istore_n 3, 1, 0, 0, 0), (9, .iload_n 3, 1, 0, 0, 0), (10, .sipush 200, 3, 200, 0, 0), (13, .if_icmp .gt 36, 3, 49, 0, 0)], [(16, .aload_n 0, 1, 0, 0, 0), (17, .getfield 16, 3, 9, 1, 0), (20, .iload_n 2, 1, 0, 0, 0), (21, .aaload, 1, 0, 0, 0), (22, .iload_n 3, 1, 0, 0, 0), (23, .iload_n 2, 1, 0, 0, 0), (24, .bipush 11, 2, 11, 0, 0), (26, .if_icmp .ne 7, 3, 33, 0, 0), (29, .lconst 1, 1, 0, 0, 0), (30, .goto 12, 3, 42, 0, 0)], [(33, .aload_n 0, 1, 0, 0, 0), (34, .aload_n 1, 1, 0, 0, 0), (35, .iload_n 2, 1, 0, 0, 0), (36, .iconst 1, 1, 1, 0, 0), (37, .iadd, 1, 0, 0, 0), (38, .iload_n 3, 1, 0, 0, 0), (39, .invokevirtual 52, 3, 180, 4, 19), (42, .lastore, 1, 0, 0, 0), (43, .iinc 3 1, 3, 1, 0, 0), (46, .goto (-37), 3, 9, 0, 0)], [(49, .iinc 2 (-1), 3, 1, 0, 1), (52, .goto (-49), 3, 3, 0, 0), (55, .return_, 1, 0, 0, 0)]]
set_option maxRecDepth 100000 in
theorem oc_Wa_countOnward : okC 179 c_Wa_countOnward = true := by decide +kernel
def cu_Wa_countOnward : List (Nat × List Bool) := [(9, [true, true, true, true]), (49, [true, true, true]), (3, [true, true, true])]
noncomputable def F_Wa_countOnward (O : Type) (a : Nat) (av : List AV) (σ : Mem) (K : AV → Mem → Option O) : Option O := if a = 180 then sm_Wa_onwardFrom O av σ K else none
theorem fs_Wa_countOnward {X : CXT} (hX : XC X) (O : Type) : FS X 5 (F_Wa_countOnward O) := by
  intro a av σ K o h
  unfold F_Wa_countOnward at h
  rcases ite_s h with ⟨rfl, h⟩ | ⟨_, h⟩
  · obtain ⟨r, h1, h2, h3⟩ := ok_Wa_onwardFrom hX _ _ _ _ _ h
    exact ⟨r, fun ht => ⟨4, by decide, h1 ht⟩, h2, h3⟩
  cases h
def hd_Wa_countOnward_9 {O : Type} (g : Nat → Nat → Int32 → Int32 → Mem → Option O) (ls : OL) (st : List AV) (σ : Mem) : Option O := match ls, st with
  | [some (.inr (.inr (9, k0))), some (.inr (.inr (6, k1))), some (.inl v2), some (.inl v3)], [] => g k0 k1 v2 v3 σ
  | _, _ => none
theorem hs_Wa_countOnward_9 {X : CXT} {g : Nat → Nat → Int32 → Int32 → Mem → Option (Mem)} (hg : ∀ (k0 : Nat) (k1 : Nat) (v2 : Int32) (v3 : Int32) (s : Mem) (o : Mem), g k0 k1 v2 v3 s = some o → BSnd X 5 179 (ovV o) 9 [some (.inr (.inr (9, k0))), some (.inr (.inr (6, k1))), some (.inl v2), some (.inl v3)] [] s) : ∀ ls st σ o, hd_Wa_countOnward_9 g ls st σ = some o → BSnd X 5 179 (ovV o) 9 ls st σ := by
  intro ls st σ o h
  unfold hd_Wa_countOnward_9 at h
  split at h
  · exact hg _ _ _ _ _ _ h
  · cases h
def hd_Wa_countOnward_49 {O : Type} (g : Nat → Nat → Int32 → Mem → Option O) (ls : OL) (st : List AV) (σ : Mem) : Option O := match ls, st with
  | [some (.inr (.inr (9, k0))), some (.inr (.inr (6, k1))), some (.inl v2)], [] => g k0 k1 v2 σ
  | _, _ => none
theorem hs_Wa_countOnward_49 {X : CXT} {g : Nat → Nat → Int32 → Mem → Option (Mem)} (hg : ∀ (k0 : Nat) (k1 : Nat) (v2 : Int32) (s : Mem) (o : Mem), g k0 k1 v2 s = some o → BSnd X 5 179 (ovV o) 49 [some (.inr (.inr (9, k0))), some (.inr (.inr (6, k1))), some (.inl v2)] [] s) : ∀ ls st σ o, hd_Wa_countOnward_49 g ls st σ = some o → BSnd X 5 179 (ovV o) 49 ls st σ := by
  intro ls st σ o h
  unfold hd_Wa_countOnward_49 at h
  split at h
  · exact hg _ _ _ _ _ h
  · cases h
def hd_Wa_countOnward_3 {O : Type} (g : Nat → Nat → Int32 → Mem → Option O) (ls : OL) (st : List AV) (σ : Mem) : Option O := match ls, st with
  | [some (.inr (.inr (9, k0))), some (.inr (.inr (6, k1))), some (.inl v2)], [] => g k0 k1 v2 σ
  | _, _ => none
theorem hs_Wa_countOnward_3 {X : CXT} {g : Nat → Nat → Int32 → Mem → Option (Mem)} (hg : ∀ (k0 : Nat) (k1 : Nat) (v2 : Int32) (s : Mem) (o : Mem), g k0 k1 v2 s = some o → BSnd X 5 179 (ovV o) 3 [some (.inr (.inr (9, k0))), some (.inr (.inr (6, k1))), some (.inl v2)] [] s) : ∀ ls st σ o, hd_Wa_countOnward_3 g ls st σ = some o → BSnd X 5 179 (ovV o) 3 ls st σ := by
  intro ls st σ o h
  unfold hd_Wa_countOnward_3 at h
  split at h
  · exact hg _ _ _ _ _ h
  · cases h
set_option maxRecDepth 100000 in
theorem s_Wa_countOnward_9 {X : CXT} (hX : XC X) {K49 : Nat → Nat → Int32 → Mem → Option (Mem)} (hK49 : ∀ (k0 : Nat) (k1 : Nat) (v2 : Int32) (s : Mem) (o : Mem), K49 k0 k1 v2 s = some o → BSnd X 5 179 (ovV o) 49 [some (.inr (.inr (9, k0))), some (.inr (.inr (6, k1))), some (.inl v2)] [] s) : ∀ n : Nat, ∀ (k0 : Nat) (k1 : Nat) (v2 : Int32) (v3 : Int32) (s : Mem) (o : Mem), f_Wa_countOnward_9 K49 n k0 k1 v2 v3 s = some o → BSnd X 5 179 (ovV o) 9 [some (.inr (.inr (9, k0))), some (.inr (.inr (6, k1))), some (.inl v2), some (.inl v3)] [] s := by
  intro n
  induction n with
  | zero => intro k0 k1 v2 v3 s o h; cases h
  | succ n ih =>
    intro k0 k1 v2 v3 s o h
    exact evC (chs := c_Wa_countOnward) (cuts := cu_Wa_countOnward) (G := fun pc ls st σ => if pc = 9 then hd_Wa_countOnward_9 (fun k0 k1 v2 v3 s => f_Wa_countOnward_9 K49 n k0 k1 v2 v3 s) ls st σ else if pc = 49 then hd_Wa_countOnward_49 (fun k0 k1 v2 s => K49 k0 k1 v2 s) ls st σ else none) hX.2.1 hX.2.2 (F := F_Wa_countOnward _) (fs_Wa_countOnward hX _) (rt_V rfl) oc_Wa_countOnward (by
    intro pc ls st σ o h
    rcases ite_s h with ⟨rfl, h⟩ | ⟨_, h⟩
    · exact hs_Wa_countOnward_9 ih _ _ _ _ h
    rcases ite_s h with ⟨rfl, h⟩ | ⟨_, h⟩
    · exact hs_Wa_countOnward_49 hK49 _ _ _ _ h
    cases h) 168 9 _ _ _ _ h
set_option maxRecDepth 100000 in
theorem s_Wa_countOnward_49 {X : CXT} (hX : XC X) {KH : Nat → Nat → Int32 → Mem → Option (Mem)} (hKH : ∀ (k0 : Nat) (k1 : Nat) (v2 : Int32) (s : Mem) (o : Mem), KH k0 k1 v2 s = some o → BSnd X 5 179 (ovV o) 3 [some (.inr (.inr (9, k0))), some (.inr (.inr (6, k1))), some (.inl v2)] [] s) : ∀ (k0 : Nat) (k1 : Nat) (v2 : Int32) (s : Mem) (o : Mem), f_Wa_countOnward_49 KH k0 k1 v2 s = some o → BSnd X 5 179 (ovV o) 49 [some (.inr (.inr (9, k0))), some (.inr (.inr (6, k1))), some (.inl v2)] [] s := by
  intro k0 k1 v2 s o h
  exact evC (chs := c_Wa_countOnward) (cuts := cu_Wa_countOnward) (G := fun pc ls st σ => if pc = 3 then hd_Wa_countOnward_3 (fun k0 k1 v2 s => KH k0 k1 v2 s) ls st σ else none) hX.2.1 hX.2.2 (F := F_Wa_countOnward _) (fs_Wa_countOnward hX _) (rt_V rfl) oc_Wa_countOnward (by
    intro pc ls st σ o h
    rcases ite_s h with ⟨rfl, h⟩ | ⟨_, h⟩
    · exact hs_Wa_countOnward_3 hKH _ _ _ _ h
    cases h) 168 49 _ _ _ _ h
set_option maxRecDepth 100000 in
theorem s_Wa_countOnward_3 {X : CXT} (hX : XC X) : ∀ n : Nat, ∀ (k0 : Nat) (k1 : Nat) (v2 : Int32) (s : Mem) (o : Mem), f_Wa_countOnward_3 n k0 k1 v2 s = some o → BSnd X 5 179 (ovV o) 3 [some (.inr (.inr (9, k0))), some (.inr (.inr (6, k1))), some (.inl v2)] [] s := by
  intro n
  induction n with
  | zero => intro k0 k1 v2 s o h; cases h
  | succ n ih =>
    intro k0 k1 v2 s o h
    exact evC (chs := c_Wa_countOnward) (cuts := cu_Wa_countOnward) (G := fun pc ls st σ => if pc = 9 then hd_Wa_countOnward_9 (fun k0 k1 v2 v3 s => f_Wa_countOnward_9 (fun k0 k1 v2 s => f_Wa_countOnward_49 (fun k0 k1 v2 s => f_Wa_countOnward_3 n k0 k1 v2 s) k0 k1 v2 s) FU k0 k1 v2 v3 s) ls st σ else if pc = 49 then hd_Wa_countOnward_49 (fun k0 k1 v2 s => f_Wa_countOnward_49 (fun k0 k1 v2 s => f_Wa_countOnward_3 n k0 k1 v2 s) k0 k1 v2 s) ls st σ else if pc = 3 then hd_Wa_countOnward_3 (fun k0 k1 v2 s => f_Wa_countOnward_3 n k0 k1 v2 s) ls st σ else none) hX.2.1 hX.2.2 (F := F_Wa_countOnward _) (fs_Wa_countOnward hX _) (rt_V rfl) oc_Wa_countOnward (by
    intro pc ls st σ o h
    rcases ite_s h with ⟨rfl, h⟩ | ⟨_, h⟩
    · exact hs_Wa_countOnward_9 (s_Wa_countOnward_9 hX (s_Wa_countOnward_49 hX ih) FU) _ _ _ _ h
    rcases ite_s h with ⟨rfl, h⟩ | ⟨_, h⟩
    · exact hs_Wa_countOnward_49 (s_Wa_countOnward_49 hX ih) _ _ _ _ h
    rcases ite_s h with ⟨rfl, h⟩ | ⟨_, h⟩
    · exact hs_Wa_countOnward_3 ih _ _ _ _ h
    cases h) 168 3 _ _ _ _ h
set_option maxRecDepth 100000 in
theorem s_Wa_countOnward {X : CXT} (hX : XC X) : ∀ (k0 : Nat) (k1 : Nat) (s : Mem) (o : Mem), f_Wa_countOnward k0 k1 s = some o → BSnd X 5 179 (ovV o) 0 (entL [.inr (.inr (9, k0)), .inr (.inr (6, k1))]) [] s := by
  intro k0 k1 s o h
  rw [f_Wa_countOnward_eq] at h
  exact evC (chs := c_Wa_countOnward) (cuts := cu_Wa_countOnward) (G := fun pc ls st σ => if pc = 3 then hd_Wa_countOnward_3 (fun k0 k1 v2 s => f_Wa_countOnward_3 FU k0 k1 v2 s) ls st σ else none) hX.2.1 hX.2.2 (F := F_Wa_countOnward _) (fs_Wa_countOnward hX _) (rt_V rfl) oc_Wa_countOnward (by
    intro pc ls st σ o h
    rcases ite_s h with ⟨rfl, h⟩ | ⟨_, h⟩
    · exact hs_Wa_countOnward_3 (s_Wa_countOnward_3 hX FU) _ _ _ _ h
    cases h) 168 0 _ _ _ _ h
theorem ok_Wa_countOnward {X : CXT} (hX : XC X) : SemOK X 5 179 sm_Wa_countOnward := by
  intro O av σ K o h
  unfold sm_Wa_countOnward at h
  split at h
  · obtain ⟨r, hf, h⟩ := Option.bind_eq_some_iff.mp h
    exact ⟨ovV r, fun ht => sp_of hX.1 (by decide) (List.mem_range.mpr (by decide)) (by decide +kernel) ht (Nat.le_of_ble_eq_true rfl) (s_Wa_countOnward hX _ _ _ _ hf), trivial, h⟩
  · cases h
noncomputable def b_Wa_count (k0 : Nat) (k1 : Nat) (s : Mem) : Option (Mem) :=
  (f_Wa_countHere k0 k1 s).bind fun r1 =>
  (f_Wa_countOnward k0 k1 r1).bind fun r2 =>
  some r2
noncomputable def f_Wa_count : Nat → Nat → Mem → Option (Mem) := Classical.choose (⟨b_Wa_count, rfl⟩ : ∃ f : Nat → Nat → Mem → Option (Mem), f = b_Wa_count)
theorem f_Wa_count_eq : f_Wa_count = b_Wa_count := Classical.choose_spec (⟨b_Wa_count, rfl⟩ : ∃ f : Nat → Nat → Mem → Option (Mem), f = b_Wa_count)
noncomputable def sm_Wa_count (O : Type) (av : List AV) (σ : Mem) (K : AV → Mem → Option O) : Option O := match av with
  | [.inr (.inr (9, k0)), .inr (.inr (6, k1))] => (f_Wa_count k0 k1 σ).bind fun r => K (.inl 0) r
  | _ => none
def c_Wa_count : List (List CE) := [[(0, .aload_n 0, 1, 0, 0, 0), (1, .aload_n 1, 1, 0, 0, 0), (2, .invokevirtual 19, 3, 176, 2, 18), (5, .aload_n 0, 1, 0, 0, 0), (6, .aload_n 1, 1, 0, 0, 0), (7, .invokevirtual 23, 3, 179, 2, 18), (10, .return_, 1, 0, 0, 0)]]
set_option maxRecDepth 100000 in
theorem oc_Wa_count : okC 175 c_Wa_count = true := by decide +kernel
def cu_Wa_count : List (Nat × List Bool) := []
noncomputable def F_Wa_count (O : Type) (a : Nat) (av : List AV) (σ : Mem) (K : AV → Mem → Option O) : Option O := if a = 176 then sm_Wa_countHere O av σ K else if a = 179 then sm_Wa_countOnward O av σ K else none
theorem fs_Wa_count {X : CXT} (hX : XC X) (O : Type) : FS X 6 (F_Wa_count O) := by
  intro a av σ K o h
  unfold F_Wa_count at h
  rcases ite_s h with ⟨rfl, h⟩ | ⟨_, h⟩
  · obtain ⟨r, h1, h2, h3⟩ := ok_Wa_countHere hX _ _ _ _ _ h
    exact ⟨r, fun ht => ⟨4, by decide, h1 ht⟩, h2, h3⟩
  rcases ite_s h with ⟨rfl, h⟩ | ⟨_, h⟩
  · obtain ⟨r, h1, h2, h3⟩ := ok_Wa_countOnward hX _ _ _ _ _ h
    exact ⟨r, fun ht => ⟨5, by decide, h1 ht⟩, h2, h3⟩
  cases h
set_option maxRecDepth 100000 in
theorem s_Wa_count {X : CXT} (hX : XC X) : ∀ (k0 : Nat) (k1 : Nat) (s : Mem) (o : Mem), f_Wa_count k0 k1 s = some o → BSnd X 6 175 (ovV o) 0 (entL [.inr (.inr (9, k0)), .inr (.inr (6, k1))]) [] s := by
  intro k0 k1 s o h
  rw [f_Wa_count_eq] at h
  exact evC (chs := c_Wa_count) (cuts := cu_Wa_count) (G := fun pc ls st σ => none) hX.2.1 hX.2.2 (F := F_Wa_count _) (fs_Wa_count hX _) (rt_V rfl) oc_Wa_count (by
    intro pc ls st σ o h
    cases h) 68 0 _ _ _ _ h
theorem ok_Wa_count {X : CXT} (hX : XC X) : SemOK X 6 175 sm_Wa_count := by
  intro O av σ K o h
  unfold sm_Wa_count at h
  split at h
  · obtain ⟨r, hf, h⟩ := Option.bind_eq_some_iff.mp h
    exact ⟨ovV r, fun ht => sp_of hX.1 (by decide) (List.mem_range.mpr (by decide)) (by decide +kernel) ht (Nat.le_of_ble_eq_true rfl) (s_Wa_count hX _ _ _ _ hf), trivial, h⟩
  · cases h
noncomputable def f_Wa_all_4 : Nat → Nat → Int64 → Int32 → Mem → Option (Int32 × Mem)
  | 0, _, _, _, _ => none
  | n + 1, k0, v1, v3, s =>
    cif (((200 : Int32)) < v3) (
      some ((v1 - v1 / ((1000000007 : Int64)) * ((1000000007 : Int64))).toInt32, s)) (
      gd (inb ((11 : Int32)) (lenC (k0 + 1))) <|
      gd (inb v3 (lenC (k0 + 1 + 1 + ix ((11 : Int32))))) <|
      let x1 : Int64 := v1 + (rJ s (k0 + 1 + 1 + ix ((11 : Int32))) (ix v3))
      f_Wa_all_4 n k0 x1 (v3 + (1 : Int32)) s)
noncomputable def b_Wa_all (k0 : Nat) (s : Mem) : Option (Int32 × Mem) :=
  let x1 : Int64 := (0 : Int64)
  f_Wa_all_4 FU k0 x1 ((0 : Int32)) s
noncomputable def f_Wa_all : Nat → Mem → Option (Int32 × Mem) := Classical.choose (⟨b_Wa_all, rfl⟩ : ∃ f : Nat → Mem → Option (Int32 × Mem), f = b_Wa_all)
theorem f_Wa_all_eq : f_Wa_all = b_Wa_all := Classical.choose_spec (⟨b_Wa_all, rfl⟩ : ∃ f : Nat → Mem → Option (Int32 × Mem), f = b_Wa_all)
noncomputable def sm_Wa_all (O : Type) (av : List AV) (σ : Mem) (K : AV → Mem → Option O) : Option O := match av with
  | [.inr (.inr (9, k0))] => (f_Wa_all k0 σ).bind fun r => K (.inl r.1) r.2
  | _ => none
def c_Wa_all : List (List CE) := [[(0, .lconst 0, 1, 0, 0, 0), (1, .lstore_n 1, 1, 0, 0, 0), (2, .iconst 0, 1, 0, 0, 0), (3, .istore_n 3, 1, 0, 0, 0), (4, .iload_n 3, 1, 0, 0, 0), (5, .sipush 200, 3, 200, 0, 0), (8, .if_icmp .gt 21, 3, 29, 0, 0), (11, .lload_n 1, 1, 0, 0, 0), (12, .aload_n 0, 1, 0, 0, 0), (13, .getfield 13, 3, 9, 0, 0)], [(16, .bipush 11, 2, 11, 0, 0), (18, .aaload, 1, 0, 0, 0), (19, .iload_n 3, 1, 0, 0, 0), (20, .laload, 1, 0, 0, 0), (21, .ladd, 1, 0, 0, 0), (22, .lstore_n 1, 1, 0, 0, 0), (23, .iinc 3 1, 3, 1, 0, 0), (26, .goto (-22), 3, 4, 0, 0), (29, .lload_n 1, 1, 0, 0, 0), (30, .ldc2_w 56, 3, 1000000007, 0, 0)], [(33, .lrem, 1, 0, 0, 0), (34, .l2i, 1, 0, 0, 0), (35, .ireturn, 1, 0, 0, 0)]]
set_option maxRecDepth 100000 in
theorem oc_Wa_all : okC 181 c_Wa_all = true := by decide +kernel
def cu_Wa_all : List (Nat × List Bool) := [(4, [true, true, false, true])]
noncomputable def F_Wa_all (O : Type) (a : Nat) (av : List AV) (σ : Mem) (K : AV → Mem → Option O) : Option O := none
theorem fs_Wa_all {X : CXT} (hX : XC X) (O : Type) : FS X 1 (F_Wa_all O) := by
  intro a av σ K o h
  cases h
def hd_Wa_all_4 {O : Type} (g : Nat → Int64 → Int32 → Mem → Option O) (ls : OL) (st : List AV) (σ : Mem) : Option O := match ls, st with
  | [some (.inr (.inr (9, k0))), some (.inr (.inl v1)), none, some (.inl v3)], [] => g k0 v1 v3 σ
  | _, _ => none
theorem hs_Wa_all_4 {X : CXT} {g : Nat → Int64 → Int32 → Mem → Option (Int32 × Mem)} (hg : ∀ (k0 : Nat) (v1 : Int64) (v3 : Int32) (s : Mem) (o : Int32 × Mem), g k0 v1 v3 s = some o → BSnd X 1 181 (ovI o) 4 [some (.inr (.inr (9, k0))), some (.inr (.inl v1)), none, some (.inl v3)] [] s) : ∀ ls st σ o, hd_Wa_all_4 g ls st σ = some o → BSnd X 1 181 (ovI o) 4 ls st σ := by
  intro ls st σ o h
  unfold hd_Wa_all_4 at h
  split at h
  · exact hg _ _ _ _ _ h
  · cases h
set_option maxRecDepth 100000 in
theorem s_Wa_all_4 {X : CXT} (hX : XC X) : ∀ n : Nat, ∀ (k0 : Nat) (v1 : Int64) (v3 : Int32) (s : Mem) (o : Int32 × Mem), f_Wa_all_4 n k0 v1 v3 s = some o → BSnd X 1 181 (ovI o) 4 [some (.inr (.inr (9, k0))), some (.inr (.inl v1)), none, some (.inl v3)] [] s := by
  intro n
  induction n with
  | zero => intro k0 v1 v3 s o h; cases h
  | succ n ih =>
    intro k0 v1 v3 s o h
    exact evC (chs := c_Wa_all) (cuts := cu_Wa_all) (G := fun pc ls st σ => if pc = 4 then hd_Wa_all_4 (fun k0 v1 v3 s => f_Wa_all_4 n k0 v1 v3 s) ls st σ else none) hX.2.1 hX.2.2 (F := F_Wa_all _) (fs_Wa_all hX _) (rt_I rfl) oc_Wa_all (by
    intro pc ls st σ o h
    rcases ite_s h with ⟨rfl, h⟩ | ⟨_, h⟩
    · exact hs_Wa_all_4 ih _ _ _ _ h
    cases h) 132 4 _ _ _ _ h
set_option maxRecDepth 100000 in
theorem s_Wa_all {X : CXT} (hX : XC X) : ∀ (k0 : Nat) (s : Mem) (o : Int32 × Mem), f_Wa_all k0 s = some o → BSnd X 1 181 (ovI o) 0 (entL [.inr (.inr (9, k0))]) [] s := by
  intro k0 s o h
  rw [f_Wa_all_eq] at h
  exact evC (chs := c_Wa_all) (cuts := cu_Wa_all) (G := fun pc ls st σ => if pc = 4 then hd_Wa_all_4 (fun k0 v1 v3 s => f_Wa_all_4 FU k0 v1 v3 s) ls st σ else none) hX.2.1 hX.2.2 (F := F_Wa_all _) (fs_Wa_all hX _) (rt_I rfl) oc_Wa_all (by
    intro pc ls st σ o h
    rcases ite_s h with ⟨rfl, h⟩ | ⟨_, h⟩
    · exact hs_Wa_all_4 (s_Wa_all_4 hX FU) _ _ _ _ h
    cases h) 132 0 _ _ _ _ h
theorem ok_Wa_all {X : CXT} (hX : XC X) : SemOK X 1 181 sm_Wa_all := by
  intro O av σ K o h
  unfold sm_Wa_all at h
  split at h
  · obtain ⟨r, hf, h⟩ := Option.bind_eq_some_iff.mp h
    exact ⟨ovI r, fun ht => sp_of hX.1 (by decide) (List.mem_range.mpr (by decide)) (by decide +kernel) ht (Nat.le_of_ble_eq_true rfl) (s_Wa_all hX _ _ _ hf), trivial, h⟩
  · cases h
noncomputable def f_Wa_greatest_5 : Nat → Nat → Int32 → Int64 → Int32 → Mem → Option (Int64 × Mem)
  | 0, _, _, _, _, _ => none
  | n + 1, k0, v1, v2, v4, s =>
    cif (((200 : Int32)) < v4) (
      some (v2, s)) (
      gd (inb v1 (lenC (k0 + 1))) <|
      gd (inb v4 (lenC (k0 + 1 + 1 + ix v1))) <|
      gd (inb v1 (lenC (k0 + 14))) <|
      gd (inb v4 (lenC (k0 + 14 + 1 + ix v1))) <|
      let x1 : Int64 := lmx v2 ((rJ s (k0 + 1 + 1 + ix v1) (ix v4)) * (rJ s (k0 + 14 + 1 + ix v1) (ix v4)))
      f_Wa_greatest_5 n k0 v1 x1 (v4 + (1 : Int32)) s)
noncomputable def b_Wa_greatest (k0 : Nat) (v1 : Int32) (s : Mem) : Option (Int64 × Mem) :=
  let x1 : Int64 := (0 : Int64)
  f_Wa_greatest_5 FU k0 v1 x1 ((0 : Int32)) s
noncomputable def f_Wa_greatest : Nat → Int32 → Mem → Option (Int64 × Mem) := Classical.choose (⟨b_Wa_greatest, rfl⟩ : ∃ f : Nat → Int32 → Mem → Option (Int64 × Mem), f = b_Wa_greatest)
theorem f_Wa_greatest_eq : f_Wa_greatest = b_Wa_greatest := Classical.choose_spec (⟨b_Wa_greatest, rfl⟩ : ∃ f : Nat → Int32 → Mem → Option (Int64 × Mem), f = b_Wa_greatest)
noncomputable def sm_Wa_greatest (O : Type) (av : List AV) (σ : Mem) (K : AV → Mem → Option O) : Option O := match av with
  | [.inr (.inr (9, k0)), .inl v1] => (f_Wa_greatest k0 v1 σ).bind fun r => K (.inr (.inl r.1)) r.2
  | _ => none
def c_Wa_greatest : List (List CE) := [[(0, .lconst 0, 1, 0, 0, 0), (1, .lstore_n 2, 1, 0, 0, 0), (2, .iconst 0, 1, 0, 0, 0), (3, .istore 4, 2, 0, 0, 0), (5, .iload 4, 2, 0, 0, 0), (7, .sipush 200, 3, 200, 0, 0), (10, .if_icmp .gt 33, 3, 43, 0, 0), (13, .lload_n 2, 1, 0, 0, 0), (14, .aload_n 0, 1, 0, 0, 0), (15, .getfield 13, 3, 9, 0, 0)], [(18, .iload_n 1, 1, 0, 0, 0), (19, .aaload, 1, 0, 0, 0), (20, .iload 4, 2, 0, 0, 0), (22, .laload, 1, 0, 0, 0), (23, .aload_n 0, 1, 0, 0, 0), (24, .getfield 16, 3, 9, 1, 0), (27, .iload_n 1, 1, 0, 0, 0), (28, .aaload, 1, 0, 0, 0), (29, .iload 4, 2, 0, 0, 0), (31, .laload, 1, 0, 0, 0)], [(32, .lmul, 1, 0, 0, 0), (33, .invokestatic 58, 3, 184, 2, 5), (36, .lstore_n 2, 1, 0, 0, 0), (37, .iinc 4 1, 3, 1, 0, 0), (40, .goto (-35), 3, 5, 0, 0), (43, .lload_n 2, 1, 0, 0, 0), (44, .lreturn, 1, 0, 0, 0)]]
set_option maxRecDepth 100000 in
theorem oc_Wa_greatest : okC 183 c_Wa_greatest = true := by decide +kernel
def cu_Wa_greatest : List (Nat × List Bool) := [(5, [true, true, true, false, true])]
noncomputable def F_Wa_greatest (O : Type) (a : Nat) (av : List AV) (σ : Mem) (K : AV → Mem → Option O) : Option O := none
theorem fs_Wa_greatest {X : CXT} (hX : XC X) (O : Type) : FS X 1 (F_Wa_greatest O) := by
  intro a av σ K o h
  cases h
def hd_Wa_greatest_5 {O : Type} (g : Nat → Int32 → Int64 → Int32 → Mem → Option O) (ls : OL) (st : List AV) (σ : Mem) : Option O := match ls, st with
  | [some (.inr (.inr (9, k0))), some (.inl v1), some (.inr (.inl v2)), none, some (.inl v4)], [] => g k0 v1 v2 v4 σ
  | _, _ => none
theorem hs_Wa_greatest_5 {X : CXT} {g : Nat → Int32 → Int64 → Int32 → Mem → Option (Int64 × Mem)} (hg : ∀ (k0 : Nat) (v1 : Int32) (v2 : Int64) (v4 : Int32) (s : Mem) (o : Int64 × Mem), g k0 v1 v2 v4 s = some o → BSnd X 1 183 (ovL o) 5 [some (.inr (.inr (9, k0))), some (.inl v1), some (.inr (.inl v2)), none, some (.inl v4)] [] s) : ∀ ls st σ o, hd_Wa_greatest_5 g ls st σ = some o → BSnd X 1 183 (ovL o) 5 ls st σ := by
  intro ls st σ o h
  unfold hd_Wa_greatest_5 at h
  split at h
  · exact hg _ _ _ _ _ _ h
  · cases h
set_option maxRecDepth 100000 in
theorem s_Wa_greatest_5 {X : CXT} (hX : XC X) : ∀ n : Nat, ∀ (k0 : Nat) (v1 : Int32) (v2 : Int64) (v4 : Int32) (s : Mem) (o : Int64 × Mem), f_Wa_greatest_5 n k0 v1 v2 v4 s = some o → BSnd X 1 183 (ovL o) 5 [some (.inr (.inr (9, k0))), some (.inl v1), some (.inr (.inl v2)), none, some (.inl v4)] [] s := by
  intro n
  induction n with
  | zero => intro k0 v1 v2 v4 s o h; cases h
  | succ n ih =>
    intro k0 v1 v2 v4 s o h
    exact evC (chs := c_Wa_greatest) (cuts := cu_Wa_greatest) (G := fun pc ls st σ => if pc = 5 then hd_Wa_greatest_5 (fun k0 v1 v2 v4 s => f_Wa_greatest_5 n k0 v1 v2 v4 s) ls st σ else none) hX.2.1 hX.2.2 (F := F_Wa_greatest _) (fs_Wa_greatest hX _) (rt_L rfl) oc_Wa_greatest (by
    intro pc ls st σ o h
    rcases ite_s h with ⟨rfl, h⟩ | ⟨_, h⟩
    · exact hs_Wa_greatest_5 ih _ _ _ _ h
    cases h) 148 5 _ _ _ _ h
set_option maxRecDepth 100000 in
theorem s_Wa_greatest {X : CXT} (hX : XC X) : ∀ (k0 : Nat) (v1 : Int32) (s : Mem) (o : Int64 × Mem), f_Wa_greatest k0 v1 s = some o → BSnd X 1 183 (ovL o) 0 (entL [.inr (.inr (9, k0)), .inl v1]) [] s := by
  intro k0 v1 s o h
  rw [f_Wa_greatest_eq] at h
  exact evC (chs := c_Wa_greatest) (cuts := cu_Wa_greatest) (G := fun pc ls st σ => if pc = 5 then hd_Wa_greatest_5 (fun k0 v1 v2 v4 s => f_Wa_greatest_5 FU k0 v1 v2 v4 s) ls st σ else none) hX.2.1 hX.2.2 (F := F_Wa_greatest _) (fs_Wa_greatest hX _) (rt_L rfl) oc_Wa_greatest (by
    intro pc ls st σ o h
    rcases ite_s h with ⟨rfl, h⟩ | ⟨_, h⟩
    · exact hs_Wa_greatest_5 (s_Wa_greatest_5 hX FU) _ _ _ _ h
    cases h) 148 0 _ _ _ _ h
theorem ok_Wa_greatest {X : CXT} (hX : XC X) : SemOK X 1 183 sm_Wa_greatest := by
  intro O av σ K o h
  unfold sm_Wa_greatest at h
  split at h
  · obtain ⟨r, hf, h⟩ := Option.bind_eq_some_iff.mp h
    exact ⟨ovL r, fun ht => sp_of hX.1 (by decide) (List.mem_range.mpr (by decide)) (by decide +kernel) ht (Nat.le_of_ble_eq_true rfl) (s_Wa_greatest hX _ _ _ _ hf), trivial, h⟩
  · cases h
noncomputable def f_Wa_yearToAsk_4 (K36 : Nat → Int32 → Mem → Option (Int32 × Mem)) : Nat → Nat → Int32 → Int32 → Mem → Option (Int32 × Mem)
  | 0, _, _, _, _ => none
  | n + 1, k0, v1, v2, s =>
    cif (((12 : Int32)) ≤ v2) (
      K36 k0 v1 s) (
      (f_Wa_greatest k0 v2 s).bind fun r1 =>
      (f_Wa_greatest k0 v1 r1.2).bind fun r2 =>
      cif (0 ≤ (lg_cmp r1.1 r2.1)) (
        f_Wa_yearToAsk_4 K36 n k0 v1 (v2 + (1 : Int32)) r2.2) (
        f_Wa_yearToAsk_4 K36 n k0 v2 (v2 + (1 : Int32)) r2.2))
noncomputable def f_Wa_yearToAsk_36 (k0 : Nat) (v1 : Int32) (s : Mem) : Option (Int32 × Mem) :=
  (f_Wa_greatest k0 v1 s).bind fun r1 =>
  cif ((lg_cmp r1.1 ((0 : Int64))) ≤ 0) (
    some ((-1 : Int32), r1.2)) (
    some (v1, r1.2))
noncomputable def b_Wa_yearToAsk (k0 : Nat) (s : Mem) : Option (Int32 × Mem) :=
  f_Wa_yearToAsk_4 (fun k0 v1 s => f_Wa_yearToAsk_36 k0 v1 s) FU k0 ((0 : Int32)) ((1 : Int32)) s
noncomputable def f_Wa_yearToAsk : Nat → Mem → Option (Int32 × Mem) := Classical.choose (⟨b_Wa_yearToAsk, rfl⟩ : ∃ f : Nat → Mem → Option (Int32 × Mem), f = b_Wa_yearToAsk)
theorem f_Wa_yearToAsk_eq : f_Wa_yearToAsk = b_Wa_yearToAsk := Classical.choose_spec (⟨b_Wa_yearToAsk, rfl⟩ : ∃ f : Nat → Mem → Option (Int32 × Mem), f = b_Wa_yearToAsk)
noncomputable def sm_Wa_yearToAsk (O : Type) (av : List AV) (σ : Mem) (K : AV → Mem → Option O) : Option O := match av with
  | [.inr (.inr (9, k0))] => (f_Wa_yearToAsk k0 σ).bind fun r => K (.inl r.1) r.2
  | _ => none
def c_Wa_yearToAsk : List (List CE) := [[(0, .iconst 0, 1, 0, 0, 0), (1, .istore_n 1, 1, 0, 0, 0), (2, .iconst 1, 1, 1, 0, 0), (3, .istore_n 2, 1, 0, 0, 0), (4, .iload_n 2, 1, 0, 0, 0), (5, .bipush 12, 2, 12, 0, 0), (7, .if_icmp .ge 29, 3, 36, 0, 0), (10, .aload_n 0, 1, 0, 0, 0), (11, .iload_n 2, 1, 0, 0, 0), (12, .invokevirtual 62, 3, 183, 2, 19), (15, .aload_n 0, 1, 0, 0, 0)], [(16, .iload_n 1, 1, 0, 0, 0), (17, .invokevirtual 62, 3, 183, 2, 19), (20, .lcmp, 1, 0, 0, 0), (21, .ifCond .ge 7, 3, 28, 0, 0), (24, .iload_n 2, 1, 0, 0, 0), (25, .goto 4, 3, 29, 0, 0), (28, .iload_n 1, 1, 0, 0, 0), (29, .istore_n 1, 1, 0, 0, 0), (30, .iinc 2 1, 3, 1, 0, 0)], [(33, .goto (-29), 3, 4, 0, 0), (36, .aload_n 0, 1, 0, 0, 0), (37, .iload_n 1, 1, 0, 0, 0), (38, .invokevirtual 62, 3, 183, 2, 19), (41, .lconst 0, 1, 0, 0, 0), (42, .lcmp, 1, 0, 0, 0), (43, .ifCond .le 7, 3, 50, 0, 0), (46, .iload_n 1, 1, 0, 0, 0), (47, .goto 4, 3, 51, 0, 0)], [(50, .iconst (-1), 1, 1, 0, 1), (51, .ireturn, 1, 0, 0, 0)]]
set_option maxRecDepth 100000 in
theorem oc_Wa_yearToAsk : okC 182 c_Wa_yearToAsk = true := by decide +kernel
def cu_Wa_yearToAsk : List (Nat × List Bool) := [(4, [true, true, true]), (36, [true, true])]
noncomputable def F_Wa_yearToAsk (O : Type) (a : Nat) (av : List AV) (σ : Mem) (K : AV → Mem → Option O) : Option O := if a = 183 then sm_Wa_greatest O av σ K else none
theorem fs_Wa_yearToAsk {X : CXT} (hX : XC X) (O : Type) : FS X 2 (F_Wa_yearToAsk O) := by
  intro a av σ K o h
  unfold F_Wa_yearToAsk at h
  rcases ite_s h with ⟨rfl, h⟩ | ⟨_, h⟩
  · obtain ⟨r, h1, h2, h3⟩ := ok_Wa_greatest hX _ _ _ _ _ h
    exact ⟨r, fun ht => ⟨1, by decide, h1 ht⟩, h2, h3⟩
  cases h
def hd_Wa_yearToAsk_4 {O : Type} (g : Nat → Int32 → Int32 → Mem → Option O) (ls : OL) (st : List AV) (σ : Mem) : Option O := match ls, st with
  | [some (.inr (.inr (9, k0))), some (.inl v1), some (.inl v2)], [] => g k0 v1 v2 σ
  | _, _ => none
theorem hs_Wa_yearToAsk_4 {X : CXT} {g : Nat → Int32 → Int32 → Mem → Option (Int32 × Mem)} (hg : ∀ (k0 : Nat) (v1 : Int32) (v2 : Int32) (s : Mem) (o : Int32 × Mem), g k0 v1 v2 s = some o → BSnd X 2 182 (ovI o) 4 [some (.inr (.inr (9, k0))), some (.inl v1), some (.inl v2)] [] s) : ∀ ls st σ o, hd_Wa_yearToAsk_4 g ls st σ = some o → BSnd X 2 182 (ovI o) 4 ls st σ := by
  intro ls st σ o h
  unfold hd_Wa_yearToAsk_4 at h
  split at h
  · exact hg _ _ _ _ _ h
  · cases h
def hd_Wa_yearToAsk_36 {O : Type} (g : Nat → Int32 → Mem → Option O) (ls : OL) (st : List AV) (σ : Mem) : Option O := match ls, st with
  | [some (.inr (.inr (9, k0))), some (.inl v1)], [] => g k0 v1 σ
  | _, _ => none
theorem hs_Wa_yearToAsk_36 {X : CXT} {g : Nat → Int32 → Mem → Option (Int32 × Mem)} (hg : ∀ (k0 : Nat) (v1 : Int32) (s : Mem) (o : Int32 × Mem), g k0 v1 s = some o → BSnd X 2 182 (ovI o) 36 [some (.inr (.inr (9, k0))), some (.inl v1)] [] s) : ∀ ls st σ o, hd_Wa_yearToAsk_36 g ls st σ = some o → BSnd X 2 182 (ovI o) 36 ls st σ := by
  intro ls st σ o h
  unfold hd_Wa_yearToAsk_36 at h
  split at h
  · exact hg _ _ _ _ h
  · cases h
set_option maxRecDepth 100000 in
theorem s_Wa_yearToAsk_4 {X : CXT} (hX : XC X) {K36 : Nat → Int32 → Mem → Option (Int32 × Mem)} (hK36 : ∀ (k0 : Nat) (v1 : Int32) (s : Mem) (o : Int32 × Mem), K36 k0 v1 s = some o → BSnd X 2 182 (ovI o) 36 [some (.inr (.inr (9, k0))), some (.inl v1)] [] s) : ∀ n : Nat, ∀ (k0 : Nat) (v1 : Int32) (v2 : Int32) (s : Mem) (o : Int32 × Mem), f_Wa_yearToAsk_4 K36 n k0 v1 v2 s = some o → BSnd X 2 182 (ovI o) 4 [some (.inr (.inr (9, k0))), some (.inl v1), some (.inl v2)] [] s := by
  intro n
  induction n with
  | zero => intro k0 v1 v2 s o h; cases h
  | succ n ih =>
    intro k0 v1 v2 s o h
    exact evC (chs := c_Wa_yearToAsk) (cuts := cu_Wa_yearToAsk) (G := fun pc ls st σ => if pc = 4 then hd_Wa_yearToAsk_4 (fun k0 v1 v2 s => f_Wa_yearToAsk_4 K36 n k0 v1 v2 s) ls st σ else if pc = 36 then hd_Wa_yearToAsk_36 (fun k0 v1 s => K36 k0 v1 s) ls st σ else none) hX.2.1 hX.2.2 (F := F_Wa_yearToAsk _) (fs_Wa_yearToAsk hX _) (rt_I rfl) oc_Wa_yearToAsk (by
    intro pc ls st σ o h
    rcases ite_s h with ⟨rfl, h⟩ | ⟨_, h⟩
    · exact hs_Wa_yearToAsk_4 ih _ _ _ _ h
    rcases ite_s h with ⟨rfl, h⟩ | ⟨_, h⟩
    · exact hs_Wa_yearToAsk_36 hK36 _ _ _ _ h
    cases h) 164 4 _ _ _ _ h
set_option maxRecDepth 100000 in
theorem s_Wa_yearToAsk_36 {X : CXT} (hX : XC X) : ∀ (k0 : Nat) (v1 : Int32) (s : Mem) (o : Int32 × Mem), f_Wa_yearToAsk_36 k0 v1 s = some o → BSnd X 2 182 (ovI o) 36 [some (.inr (.inr (9, k0))), some (.inl v1)] [] s := by
  intro k0 v1 s o h
  exact evC (chs := c_Wa_yearToAsk) (cuts := cu_Wa_yearToAsk) (G := fun pc ls st σ => none) hX.2.1 hX.2.2 (F := F_Wa_yearToAsk _) (fs_Wa_yearToAsk hX _) (rt_I rfl) oc_Wa_yearToAsk (by
    intro pc ls st σ o h
    cases h) 164 36 _ _ _ _ h
set_option maxRecDepth 100000 in
theorem s_Wa_yearToAsk {X : CXT} (hX : XC X) : ∀ (k0 : Nat) (s : Mem) (o : Int32 × Mem), f_Wa_yearToAsk k0 s = some o → BSnd X 2 182 (ovI o) 0 (entL [.inr (.inr (9, k0))]) [] s := by
  intro k0 s o h
  rw [f_Wa_yearToAsk_eq] at h
  exact evC (chs := c_Wa_yearToAsk) (cuts := cu_Wa_yearToAsk) (G := fun pc ls st σ => if pc = 4 then hd_Wa_yearToAsk_4 (fun k0 v1 v2 s => f_Wa_yearToAsk_4 (fun k0 v1 s => f_Wa_yearToAsk_36 k0 v1 s) FU k0 v1 v2 s) ls st σ else if pc = 36 then hd_Wa_yearToAsk_36 (fun k0 v1 s => f_Wa_yearToAsk_36 k0 v1 s) ls st σ else none) hX.2.1 hX.2.2 (F := F_Wa_yearToAsk _) (fs_Wa_yearToAsk hX _) (rt_I rfl) oc_Wa_yearToAsk (by
    intro pc ls st σ o h
    rcases ite_s h with ⟨rfl, h⟩ | ⟨_, h⟩
    · exact hs_Wa_yearToAsk_4 (s_Wa_yearToAsk_4 hX (s_Wa_yearToAsk_36 hX) FU) _ _ _ _ h
    rcases ite_s h with ⟨rfl, h⟩ | ⟨_, h⟩
    · exact hs_Wa_yearToAsk_36 (s_Wa_yearToAsk_36 hX) _ _ _ _ h
    cases h) 164 0 _ _ _ _ h
theorem ok_Wa_yearToAsk {X : CXT} (hX : XC X) : SemOK X 2 182 sm_Wa_yearToAsk := by
  intro O av σ K o h
  unfold sm_Wa_yearToAsk at h
  split at h
  · obtain ⟨r, hf, h⟩ := Option.bind_eq_some_iff.mp h
    exact ⟨ovI r, fun ht => sp_of hX.1 (by decide) (List.mem_range.mpr (by decide)) (by decide +kernel) ht (Nat.le_of_ble_eq_true rfl) (s_Wa_yearToAsk hX _ _ _ hf), trivial, h⟩
  · cases h
noncomputable def b_P_fits (k0 : Nat) (v1 : Int32) (s : Mem) : Option (Int32 × Mem) :=
  (f_P_within v1 ((0 : Int32)) ((1 : Int32)) s).bind fun r1 =>
  cif ((b2i r1.1) = 0) (
    some ((-1 : Int32), r1.2)) (
    (f_Wa_count (k0 + 176) (k0 + 43) r1.2).bind fun r2 =>
    cif (v1 = 0) (
      (f_Wa_all (k0 + 176) r2).bind fun r3 =>
      some (r3.1, r3.2)) (
      (f_Wa_yearToAsk (k0 + 176) r2).bind fun r4 =>
      some (r4.1, r4.2)))
noncomputable def f_P_fits : Nat → Int32 → Mem → Option (Int32 × Mem) := Classical.choose (⟨b_P_fits, rfl⟩ : ∃ f : Nat → Int32 → Mem → Option (Int32 × Mem), f = b_P_fits)
theorem f_P_fits_eq : f_P_fits = b_P_fits := Classical.choose_spec (⟨b_P_fits, rfl⟩ : ∃ f : Nat → Int32 → Mem → Option (Int32 × Mem), f = b_P_fits)
noncomputable def sm_P_fits (O : Type) (av : List AV) (σ : Mem) (K : AV → Mem → Option O) : Option O := match av with
  | [.inr (.inr (11, k0)), .inl v1] => (f_P_fits k0 v1 σ).bind fun r => K (.inl r.1) r.2
  | _ => none
def c_P_fits : List (List CE) := [[(0, .iload_n 1, 1, 0, 0, 0), (1, .iconst 0, 1, 0, 0, 0), (2, .iconst 1, 1, 1, 0, 0), (3, .invokestatic 80, 3, 17, 3, 1), (6, .ifCond .ne 5, 3, 11, 0, 0), (9, .iconst (-1), 1, 1, 0, 1), (10, .ireturn, 1, 0, 0, 0), (11, .aload_n 0, 1, 0, 0, 0), (12, .getfield 62, 3, 11, 6, 0), (15, .aload_n 0, 1, 0, 0, 0)], [(16, .getfield 10, 3, 11, 0, 0), (19, .getfield 288, 3, 10, 2, 0), (22, .getfield 350, 3, 7, 3, 0), (25, .invokevirtual 353, 3, 175, 2, 18), (28, .iload_n 1, 1, 0, 0, 0), (29, .ifCond .ne 13, 3, 42, 0, 0)], [(32, .aload_n 0, 1, 0, 0, 0), (33, .getfield 62, 3, 11, 6, 0), (36, .invokevirtual 356, 3, 181, 1, 19), (39, .goto 10, 3, 49, 0, 0), (42, .aload_n 0, 1, 0, 0, 0), (43, .getfield 62, 3, 11, 6, 0), (46, .invokevirtual 359, 3, 182, 1, 19)], [(49, .ireturn, 1, 0, 0, 0)]]
set_option maxRecDepth 100000 in
theorem oc_P_fits : okC 174 c_P_fits = true := by decide +kernel
def cu_P_fits : List (Nat × List Bool) := []
noncomputable def F_P_fits (O : Type) (a : Nat) (av : List AV) (σ : Mem) (K : AV → Mem → Option O) : Option O := if a = 17 then sm_P_within O av σ K else if a = 175 then sm_Wa_count O av σ K else if a = 181 then sm_Wa_all O av σ K else if a = 182 then sm_Wa_yearToAsk O av σ K else none
theorem fs_P_fits {X : CXT} (hX : XC X) (O : Type) : FS X 7 (F_P_fits O) := by
  intro a av σ K o h
  unfold F_P_fits at h
  rcases ite_s h with ⟨rfl, h⟩ | ⟨_, h⟩
  · obtain ⟨r, h1, h2, h3⟩ := ok_P_within hX _ _ _ _ _ h
    exact ⟨r, fun ht => ⟨1, by decide, h1 ht⟩, h2, h3⟩
  rcases ite_s h with ⟨rfl, h⟩ | ⟨_, h⟩
  · obtain ⟨r, h1, h2, h3⟩ := ok_Wa_count hX _ _ _ _ _ h
    exact ⟨r, fun ht => ⟨6, by decide, h1 ht⟩, h2, h3⟩
  rcases ite_s h with ⟨rfl, h⟩ | ⟨_, h⟩
  · obtain ⟨r, h1, h2, h3⟩ := ok_Wa_all hX _ _ _ _ _ h
    exact ⟨r, fun ht => ⟨1, by decide, h1 ht⟩, h2, h3⟩
  rcases ite_s h with ⟨rfl, h⟩ | ⟨_, h⟩
  · obtain ⟨r, h1, h2, h3⟩ := ok_Wa_yearToAsk hX _ _ _ _ _ h
    exact ⟨r, fun ht => ⟨2, by decide, h1 ht⟩, h2, h3⟩
  cases h
set_option maxRecDepth 100000 in
theorem s_P_fits {X : CXT} (hX : XC X) : ∀ (k0 : Nat) (v1 : Int32) (s : Mem) (o : Int32 × Mem), f_P_fits k0 v1 s = some o → BSnd X 7 174 (ovI o) 0 (entL [.inr (.inr (11, k0)), .inl v1]) [] s := by
  intro k0 v1 s o h
  rw [f_P_fits_eq] at h
  exact evC (chs := c_P_fits) (cuts := cu_P_fits) (G := fun pc ls st σ => none) hX.2.1 hX.2.2 (F := F_P_fits _) (fs_P_fits hX _) (rt_I rfl) oc_P_fits (by
    intro pc ls st σ o h
    cases h) 136 0 _ _ _ _ h
theorem ok_P_fits {X : CXT} (hX : XC X) : SemOK X 7 174 sm_P_fits := by
  intro O av σ K o h
  unfold sm_P_fits at h
  split at h
  · obtain ⟨r, hf, h⟩ := Option.bind_eq_some_iff.mp h
    exact ⟨ovI r, fun ht => sp_of hX.1 (by decide) (List.mem_range.mpr (by decide)) (by decide +kernel) ht (Nat.le_of_ble_eq_true rfl) (s_P_fits hX _ _ _ _ hf), trivial, h⟩
  · cases h
noncomputable def b_P_deed (k0 : Nat) (v1 : Int32) (v2 : Int32) (s : Mem) : Option (Int32 × Mem) :=
  cif (v1 = ((-1 : Int32))) (
    (f_Ro_clear (k0 + 47) s).bind fun r1 =>
    some (r1.1, r1.2)) (
    (f_P_within v1 ((0 : Int32)) ((99 : Int32)) s).bind fun r2 =>
    cif ((b2i r2.1) = 0) (
      some ((-1 : Int32), r2.2)) (
      (f_P_within v2 ((0 : Int32)) ((9 : Int32)) r2.2).bind fun r3 =>
      cif ((b2i r3.1) = 0) (
        some ((-1 : Int32), r3.2)) (
        (f_Ro_add (k0 + 47) v1 v2 ((0 : Int32)) r3.2).bind fun r4 =>
        some (r4.1, r4.2))))
noncomputable def f_P_deed : Nat → Int32 → Int32 → Mem → Option (Int32 × Mem) := Classical.choose (⟨b_P_deed, rfl⟩ : ∃ f : Nat → Int32 → Int32 → Mem → Option (Int32 × Mem), f = b_P_deed)
theorem f_P_deed_eq : f_P_deed = b_P_deed := Classical.choose_spec (⟨b_P_deed, rfl⟩ : ∃ f : Nat → Int32 → Int32 → Mem → Option (Int32 × Mem), f = b_P_deed)
noncomputable def sm_P_deed (O : Type) (av : List AV) (σ : Mem) (K : AV → Mem → Option O) : Option O := match av with
  | [.inr (.inr (11, k0)), .inl v1, .inl v2] => (f_P_deed k0 v1 v2 σ).bind fun r => K (.inl r.1) r.2
  | _ => none
def c_P_deed : List (List CE) := [[(0, .iload_n 1, 1, 0, 0, 0), (1, .iconst (-1), 1, 1, 0, 1), (2, .if_icmp .ne 17, 3, 19, 0, 0), (5, .aload_n 0, 1, 0, 0, 0), (6, .getfield 10, 3, 11, 0, 0), (9, .getfield 288, 3, 10, 2, 0), (12, .getfield 362, 3, 7, 4, 0), (15, .invokevirtual 300, 3, 130, 1, 13)], [(18, .ireturn, 1, 0, 0, 0), (19, .iload_n 1, 1, 0, 0, 0), (20, .iconst 0, 1, 0, 0, 0), (21, .bipush 99, 2, 99, 0, 0), (23, .invokestatic 80, 3, 17, 3, 1), (26, .ifCond .eq 32, 3, 58, 0, 0), (29, .iload_n 2, 1, 0, 0, 0), (30, .iconst 0, 1, 0, 0, 0), (31, .bipush 9, 2, 9, 0, 0)], [(33, .invokestatic 80, 3, 17, 3, 1), (36, .ifCond .eq 22, 3, 58, 0, 0), (39, .aload_n 0, 1, 0, 0, 0), (40, .getfield 10, 3, 11, 0, 0), (43, .getfield 288, 3, 10, 2, 0), (46, .getfield 362, 3, 7, 4, 0)], [(49, .iload_n 1, 1, 0, 0, 0), (50, .iload_n 2, 1, 0, 0, 0), (51, .iconst 0, 1, 0, 0, 0), (52, .invokevirtual 303, 3, 134, 4, 13), (55, .goto 4, 3, 59, 0, 0), (58, .iconst (-1), 1, 1, 0, 1), (59, .ireturn, 1, 0, 0, 0)]]
set_option maxRecDepth 100000 in
theorem oc_P_deed : okC 185 c_P_deed = true := by decide +kernel
def cu_P_deed : List (Nat × List Bool) := []
noncomputable def F_P_deed (O : Type) (a : Nat) (av : List AV) (σ : Mem) (K : AV → Mem → Option O) : Option O := if a = 17 then sm_P_within O av σ K else if a = 130 then sm_Ro_clear O av σ K else if a = 134 then sm_Ro_add O av σ K else none
theorem fs_P_deed {X : CXT} (hX : XC X) (O : Type) : FS X 3 (F_P_deed O) := by
  intro a av σ K o h
  unfold F_P_deed at h
  rcases ite_s h with ⟨rfl, h⟩ | ⟨_, h⟩
  · obtain ⟨r, h1, h2, h3⟩ := ok_P_within hX _ _ _ _ _ h
    exact ⟨r, fun ht => ⟨1, by decide, h1 ht⟩, h2, h3⟩
  rcases ite_s h with ⟨rfl, h⟩ | ⟨_, h⟩
  · obtain ⟨r, h1, h2, h3⟩ := ok_Ro_clear hX _ _ _ _ _ h
    exact ⟨r, fun ht => ⟨1, by decide, h1 ht⟩, h2, h3⟩
  rcases ite_s h with ⟨rfl, h⟩ | ⟨_, h⟩
  · obtain ⟨r, h1, h2, h3⟩ := ok_Ro_add hX _ _ _ _ _ h
    exact ⟨r, fun ht => ⟨2, by decide, h1 ht⟩, h2, h3⟩
  cases h
set_option maxRecDepth 100000 in
theorem s_P_deed {X : CXT} (hX : XC X) : ∀ (k0 : Nat) (v1 : Int32) (v2 : Int32) (s : Mem) (o : Int32 × Mem), f_P_deed k0 v1 v2 s = some o → BSnd X 3 185 (ovI o) 0 (entL [.inr (.inr (11, k0)), .inl v1, .inl v2]) [] s := by
  intro k0 v1 v2 s o h
  rw [f_P_deed_eq] at h
  exact evC (chs := c_P_deed) (cuts := cu_P_deed) (G := fun pc ls st σ => none) hX.2.1 hX.2.2 (F := F_P_deed _) (fs_P_deed hX _) (rt_I rfl) oc_P_deed (by
    intro pc ls st σ o h
    cases h) 160 0 _ _ _ _ h
theorem ok_P_deed {X : CXT} (hX : XC X) : SemOK X 3 185 sm_P_deed := by
  intro O av σ K o h
  unfold sm_P_deed at h
  split at h
  · obtain ⟨r, hf, h⟩ := Option.bind_eq_some_iff.mp h
    exact ⟨ovI r, fun ht => sp_of hX.1 (by decide) (List.mem_range.mpr (by decide)) (by decide +kernel) ht (Nat.le_of_ble_eq_true rfl) (s_P_deed hX _ _ _ _ _ hf), trivial, h⟩
  · cases h
noncomputable def f_Th_worthOf_4 : Nat → Nat → Int32 → Int32 → Int32 → Mem → Option (Int32 × Mem)
  | 0, _, _, _, _, _ => none
  | n + 1, k0, v1, v2, v3, s =>
    cif ((rI s (k0 + 17) 3) ≤ v3) (
      some (v2, s)) (
      cif (((v1 >>> (v3 &&& 31)) &&& ((1 : Int32))) = ((1 : Int32))) (
        (f_Ro_first (k0 + 17) v3 s).bind fun r1 =>
        let x2 : Int32 := v2 + r1.1
        f_Th_worthOf_4 n k0 v1 x2 (v3 + (1 : Int32)) r1.2) (
        let x3 : Int32 := v2 + ((0 : Int32))
        f_Th_worthOf_4 n k0 v1 x3 (v3 + (1 : Int32)) s))
noncomputable def b_Th_worthOf (k0 : Nat) (v1 : Int32) (s : Mem) : Option (Int32 × Mem) :=
  f_Th_worthOf_4 FU k0 v1 ((0 : Int32)) ((0 : Int32)) s
noncomputable def f_Th_worthOf : Nat → Int32 → Mem → Option (Int32 × Mem) := Classical.choose (⟨b_Th_worthOf, rfl⟩ : ∃ f : Nat → Int32 → Mem → Option (Int32 × Mem), f = b_Th_worthOf)
theorem f_Th_worthOf_eq : f_Th_worthOf = b_Th_worthOf := Classical.choose_spec (⟨b_Th_worthOf, rfl⟩ : ∃ f : Nat → Int32 → Mem → Option (Int32 × Mem), f = b_Th_worthOf)
noncomputable def sm_Th_worthOf (O : Type) (av : List AV) (σ : Mem) (K : AV → Mem → Option O) : Option O := match av with
  | [.inr (.inr (7, k0)), .inl v1] => (f_Th_worthOf k0 v1 σ).bind fun r => K (.inl r.1) r.2
  | _ => none
def c_Th_worthOf : List (List CE) := [[(0, .iconst 0, 1, 0, 0, 0), (1, .istore_n 2, 1, 0, 0, 0), (2, .iconst 0, 1, 0, 0, 0), (3, .istore_n 3, 1, 0, 0, 0), (4, .iload_n 3, 1, 0, 0, 0), (5, .aload_n 0, 1, 0, 0, 0), (6, .getfield 29, 3, 7, 4, 0), (9, .getfield 52, 3, 6, 3, 0), (12, .if_icmp .ge 33, 3, 45, 0, 0), (15, .iload_n 2, 1, 0, 0, 0)], [(16, .iload_n 1, 1, 0, 0, 0), (17, .iload_n 3, 1, 0, 0, 0), (18, .ishr, 1, 0, 0, 0), (19, .iconst 1, 1, 1, 0, 0), (20, .iand, 1, 0, 0, 0), (21, .iconst 1, 1, 1, 0, 0), (22, .if_icmp .ne 14, 3, 36, 0, 0), (25, .aload_n 0, 1, 0, 0, 0), (26, .getfield 29, 3, 7, 4, 0), (29, .iload_n 3, 1, 0, 0, 0), (30, .invokevirtual 56, 3, 54, 2, 13)], [(33, .goto 4, 3, 37, 0, 0), (36, .iconst 0, 1, 0, 0, 0), (37, .iadd, 1, 0, 0, 0), (38, .istore_n 2, 1, 0, 0, 0), (39, .iinc 3 1, 3, 1, 0, 0), (42, .goto (-38), 3, 4, 0, 0), (45, .iload_n 2, 1, 0, 0, 0), (46, .ireturn, 1, 0, 0, 0)]]
set_option maxRecDepth 100000 in
theorem oc_Th_worthOf : okC 188 c_Th_worthOf = true := by decide +kernel
def cu_Th_worthOf : List (Nat × List Bool) := [(4, [true, true, true, true])]
noncomputable def F_Th_worthOf (O : Type) (a : Nat) (av : List AV) (σ : Mem) (K : AV → Mem → Option O) : Option O := if a = 54 then sm_Ro_first O av σ K else none
theorem fs_Th_worthOf {X : CXT} (hX : XC X) (O : Type) : FS X 3 (F_Th_worthOf O) := by
  intro a av σ K o h
  unfold F_Th_worthOf at h
  rcases ite_s h with ⟨rfl, h⟩ | ⟨_, h⟩
  · obtain ⟨r, h1, h2, h3⟩ := ok_Ro_first hX _ _ _ _ _ h
    exact ⟨r, fun ht => ⟨2, by decide, h1 ht⟩, h2, h3⟩
  cases h
def hd_Th_worthOf_4 {O : Type} (g : Nat → Int32 → Int32 → Int32 → Mem → Option O) (ls : OL) (st : List AV) (σ : Mem) : Option O := match ls, st with
  | [some (.inr (.inr (7, k0))), some (.inl v1), some (.inl v2), some (.inl v3)], [] => g k0 v1 v2 v3 σ
  | _, _ => none
theorem hs_Th_worthOf_4 {X : CXT} {g : Nat → Int32 → Int32 → Int32 → Mem → Option (Int32 × Mem)} (hg : ∀ (k0 : Nat) (v1 : Int32) (v2 : Int32) (v3 : Int32) (s : Mem) (o : Int32 × Mem), g k0 v1 v2 v3 s = some o → BSnd X 3 188 (ovI o) 4 [some (.inr (.inr (7, k0))), some (.inl v1), some (.inl v2), some (.inl v3)] [] s) : ∀ ls st σ o, hd_Th_worthOf_4 g ls st σ = some o → BSnd X 3 188 (ovI o) 4 ls st σ := by
  intro ls st σ o h
  unfold hd_Th_worthOf_4 at h
  split at h
  · exact hg _ _ _ _ _ _ h
  · cases h
set_option maxRecDepth 100000 in
theorem s_Th_worthOf_4 {X : CXT} (hX : XC X) : ∀ n : Nat, ∀ (k0 : Nat) (v1 : Int32) (v2 : Int32) (v3 : Int32) (s : Mem) (o : Int32 × Mem), f_Th_worthOf_4 n k0 v1 v2 v3 s = some o → BSnd X 3 188 (ovI o) 4 [some (.inr (.inr (7, k0))), some (.inl v1), some (.inl v2), some (.inl v3)] [] s := by
  intro n
  induction n with
  | zero => intro k0 v1 v2 v3 s o h; cases h
  | succ n ih =>
    intro k0 v1 v2 v3 s o h
    exact evC (chs := c_Th_worthOf) (cuts := cu_Th_worthOf) (G := fun pc ls st σ => if pc = 4 then hd_Th_worthOf_4 (fun k0 v1 v2 v3 s => f_Th_worthOf_4 n k0 v1 v2 v3 s) ls st σ else none) hX.2.1 hX.2.2 (F := F_Th_worthOf _) (fs_Th_worthOf hX _) (rt_I rfl) oc_Th_worthOf (by
    intro pc ls st σ o h
    rcases ite_s h with ⟨rfl, h⟩ | ⟨_, h⟩
    · exact hs_Th_worthOf_4 ih _ _ _ _ h
    cases h) 156 4 _ _ _ _ h
set_option maxRecDepth 100000 in
theorem s_Th_worthOf {X : CXT} (hX : XC X) : ∀ (k0 : Nat) (v1 : Int32) (s : Mem) (o : Int32 × Mem), f_Th_worthOf k0 v1 s = some o → BSnd X 3 188 (ovI o) 0 (entL [.inr (.inr (7, k0)), .inl v1]) [] s := by
  intro k0 v1 s o h
  rw [f_Th_worthOf_eq] at h
  exact evC (chs := c_Th_worthOf) (cuts := cu_Th_worthOf) (G := fun pc ls st σ => if pc = 4 then hd_Th_worthOf_4 (fun k0 v1 v2 v3 s => f_Th_worthOf_4 FU k0 v1 v2 v3 s) ls st σ else none) hX.2.1 hX.2.2 (F := F_Th_worthOf _) (fs_Th_worthOf hX _) (rt_I rfl) oc_Th_worthOf (by
    intro pc ls st σ o h
    rcases ite_s h with ⟨rfl, h⟩ | ⟨_, h⟩
    · exact hs_Th_worthOf_4 (s_Th_worthOf_4 hX FU) _ _ _ _ h
    cases h) 156 0 _ _ _ _ h
theorem ok_Th_worthOf {X : CXT} (hX : XC X) : SemOK X 3 188 sm_Th_worthOf := by
  intro O av σ K o h
  unfold sm_Th_worthOf at h
  split at h
  · obtain ⟨r, hf, h⟩ := Option.bind_eq_some_iff.mp h
    exact ⟨ovI r, fun ht => sp_of hX.1 (by decide) (List.mem_range.mpr (by decide)) (by decide +kernel) ht (Nat.le_of_ble_eq_true rfl) (s_Th_worthOf hX _ _ _ _ hf), trivial, h⟩
  · cases h
noncomputable def f_Th_hiddenBy_4 : Nat → Nat → Int32 → Int32 → Int32 → Mem → Option (Int32 × Mem)
  | 0, _, _, _, _, _ => none
  | n + 1, k0, v1, v2, v3, s =>
    cif ((rI s (k0 + 17) 3) ≤ v3) (
      some (v2, s)) (
      cif (((v1 >>> (v3 &&& 31)) &&& ((1 : Int32))) = 0) (
        (f_Ro_second (k0 + 17) v3 s).bind fun r1 =>
        let x2 : Int32 := v2 + r1.1
        f_Th_hiddenBy_4 n k0 v1 x2 (v3 + (1 : Int32)) r1.2) (
        let x3 : Int32 := v2 + ((0 : Int32))
        f_Th_hiddenBy_4 n k0 v1 x3 (v3 + (1 : Int32)) s))
noncomputable def b_Th_hiddenBy (k0 : Nat) (v1 : Int32) (s : Mem) : Option (Int32 × Mem) :=
  f_Th_hiddenBy_4 FU k0 v1 ((0 : Int32)) ((0 : Int32)) s
noncomputable def f_Th_hiddenBy : Nat → Int32 → Mem → Option (Int32 × Mem) := Classical.choose (⟨b_Th_hiddenBy, rfl⟩ : ∃ f : Nat → Int32 → Mem → Option (Int32 × Mem), f = b_Th_hiddenBy)
theorem f_Th_hiddenBy_eq : f_Th_hiddenBy = b_Th_hiddenBy := Classical.choose_spec (⟨b_Th_hiddenBy, rfl⟩ : ∃ f : Nat → Int32 → Mem → Option (Int32 × Mem), f = b_Th_hiddenBy)
noncomputable def sm_Th_hiddenBy (O : Type) (av : List AV) (σ : Mem) (K : AV → Mem → Option O) : Option O := match av with
  | [.inr (.inr (7, k0)), .inl v1] => (f_Th_hiddenBy k0 v1 σ).bind fun r => K (.inl r.1) r.2
  | _ => none
def c_Th_hiddenBy : List (List CE) := [[(0, .iconst 0, 1, 0, 0, 0), (1, .istore_n 2, 1, 0, 0, 0), (2, .iconst 0, 1, 0, 0, 0), (3, .istore_n 3, 1, 0, 0, 0), (4, .iload_n 3, 1, 0, 0, 0), (5, .aload_n 0, 1, 0, 0, 0), (6, .getfield 29, 3, 7, 4, 0), (9, .getfield 52, 3, 6, 3, 0), (12, .if_icmp .ge 32, 3, 44, 0, 0), (15, .iload_n 2, 1, 0, 0, 0)], [(16, .iload_n 1, 1, 0, 0, 0), (17, .iload_n 3, 1, 0, 0, 0), (18, .ishr, 1, 0, 0, 0), (19, .iconst 1, 1, 1, 0, 0), (20, .iand, 1, 0, 0, 0), (21, .ifCond .ne 14, 3, 35, 0, 0), (24, .aload_n 0, 1, 0, 0, 0), (25, .getfield 29, 3, 7, 4, 0), (28, .iload_n 3, 1, 0, 0, 0), (29, .invokevirtual 67, 3, 55, 2, 13)], [(32, .goto 4, 3, 36, 0, 0), (35, .iconst 0, 1, 0, 0, 0), (36, .iadd, 1, 0, 0, 0), (37, .istore_n 2, 1, 0, 0, 0), (38, .iinc 3 1, 3, 1, 0, 0), (41, .goto (-37), 3, 4, 0, 0), (44, .iload_n 2, 1, 0, 0, 0), (45, .ireturn, 1, 0, 0, 0)]]
set_option maxRecDepth 100000 in
theorem oc_Th_hiddenBy : okC 189 c_Th_hiddenBy = true := by decide +kernel
def cu_Th_hiddenBy : List (Nat × List Bool) := [(4, [true, true, true, true])]
noncomputable def F_Th_hiddenBy (O : Type) (a : Nat) (av : List AV) (σ : Mem) (K : AV → Mem → Option O) : Option O := if a = 55 then sm_Ro_second O av σ K else none
theorem fs_Th_hiddenBy {X : CXT} (hX : XC X) (O : Type) : FS X 3 (F_Th_hiddenBy O) := by
  intro a av σ K o h
  unfold F_Th_hiddenBy at h
  rcases ite_s h with ⟨rfl, h⟩ | ⟨_, h⟩
  · obtain ⟨r, h1, h2, h3⟩ := ok_Ro_second hX _ _ _ _ _ h
    exact ⟨r, fun ht => ⟨2, by decide, h1 ht⟩, h2, h3⟩
  cases h
def hd_Th_hiddenBy_4 {O : Type} (g : Nat → Int32 → Int32 → Int32 → Mem → Option O) (ls : OL) (st : List AV) (σ : Mem) : Option O := match ls, st with
  | [some (.inr (.inr (7, k0))), some (.inl v1), some (.inl v2), some (.inl v3)], [] => g k0 v1 v2 v3 σ
  | _, _ => none
theorem hs_Th_hiddenBy_4 {X : CXT} {g : Nat → Int32 → Int32 → Int32 → Mem → Option (Int32 × Mem)} (hg : ∀ (k0 : Nat) (v1 : Int32) (v2 : Int32) (v3 : Int32) (s : Mem) (o : Int32 × Mem), g k0 v1 v2 v3 s = some o → BSnd X 3 189 (ovI o) 4 [some (.inr (.inr (7, k0))), some (.inl v1), some (.inl v2), some (.inl v3)] [] s) : ∀ ls st σ o, hd_Th_hiddenBy_4 g ls st σ = some o → BSnd X 3 189 (ovI o) 4 ls st σ := by
  intro ls st σ o h
  unfold hd_Th_hiddenBy_4 at h
  split at h
  · exact hg _ _ _ _ _ _ h
  · cases h
set_option maxRecDepth 100000 in
theorem s_Th_hiddenBy_4 {X : CXT} (hX : XC X) : ∀ n : Nat, ∀ (k0 : Nat) (v1 : Int32) (v2 : Int32) (v3 : Int32) (s : Mem) (o : Int32 × Mem), f_Th_hiddenBy_4 n k0 v1 v2 v3 s = some o → BSnd X 3 189 (ovI o) 4 [some (.inr (.inr (7, k0))), some (.inl v1), some (.inl v2), some (.inl v3)] [] s := by
  intro n
  induction n with
  | zero => intro k0 v1 v2 v3 s o h; cases h
  | succ n ih =>
    intro k0 v1 v2 v3 s o h
    exact evC (chs := c_Th_hiddenBy) (cuts := cu_Th_hiddenBy) (G := fun pc ls st σ => if pc = 4 then hd_Th_hiddenBy_4 (fun k0 v1 v2 v3 s => f_Th_hiddenBy_4 n k0 v1 v2 v3 s) ls st σ else none) hX.2.1 hX.2.2 (F := F_Th_hiddenBy _) (fs_Th_hiddenBy hX _) (rt_I rfl) oc_Th_hiddenBy (by
    intro pc ls st σ o h
    rcases ite_s h with ⟨rfl, h⟩ | ⟨_, h⟩
    · exact hs_Th_hiddenBy_4 ih _ _ _ _ h
    cases h) 152 4 _ _ _ _ h
set_option maxRecDepth 100000 in
theorem s_Th_hiddenBy {X : CXT} (hX : XC X) : ∀ (k0 : Nat) (v1 : Int32) (s : Mem) (o : Int32 × Mem), f_Th_hiddenBy k0 v1 s = some o → BSnd X 3 189 (ovI o) 0 (entL [.inr (.inr (7, k0)), .inl v1]) [] s := by
  intro k0 v1 s o h
  rw [f_Th_hiddenBy_eq] at h
  exact evC (chs := c_Th_hiddenBy) (cuts := cu_Th_hiddenBy) (G := fun pc ls st σ => if pc = 4 then hd_Th_hiddenBy_4 (fun k0 v1 v2 v3 s => f_Th_hiddenBy_4 FU k0 v1 v2 v3 s) ls st σ else none) hX.2.1 hX.2.2 (F := F_Th_hiddenBy _) (fs_Th_hiddenBy hX _) (rt_I rfl) oc_Th_hiddenBy (by
    intro pc ls st σ o h
    rcases ite_s h with ⟨rfl, h⟩ | ⟨_, h⟩
    · exact hs_Th_hiddenBy_4 (s_Th_hiddenBy_4 hX FU) _ _ _ _ h
    cases h) 152 0 _ _ _ _ h
theorem ok_Th_hiddenBy {X : CXT} (hX : XC X) : SemOK X 3 189 sm_Th_hiddenBy := by
  intro O av σ K o h
  unfold sm_Th_hiddenBy at h
  split at h
  · obtain ⟨r, hf, h⟩ := Option.bind_eq_some_iff.mp h
    exact ⟨ovI r, fun ht => sp_of hX.1 (by decide) (List.mem_range.mpr (by decide)) (by decide +kernel) ht (Nat.le_of_ble_eq_true rfl) (s_Th_hiddenBy hX _ _ _ _ hf), trivial, h⟩
  · cases h
noncomputable def f_Th_cheapestOwned_64 (KH : Nat → Int32 → Int32 → Int32 → Int32 → Mem → Option (Int32 × Mem)) (k0 : Nat) (v1 : Int32) (v2 : Int32) (v3 : Int32) (v4 : Int32) (v5 : Int32) (s : Mem) : Option (Int32 × Mem) :=
  cif (v5 = 0) (
    KH k0 v1 v2 v3 (v4 + (1 : Int32)) s) (
    (f_Th_hiddenBy k0 v4 s).bind fun r1 =>
    cif (v1 < r1.1) (
      KH k0 v1 v2 v3 (v4 + (1 : Int32)) r1.2) (
      KH k0 v1 v2 v4 (v4 + (1 : Int32)) r1.2))
noncomputable def f_Th_cheapestOwned_57 (KH : Nat → Int32 → Int32 → Int32 → Int32 → Mem → Option (Int32 × Mem)) (k0 : Nat) (v1 : Int32) (v2 : Int32) (v3 : Int32) (v4 : Int32) (s : Mem) : Option (Int32 × Mem) :=
  f_Th_cheapestOwned_64 (KH) k0 v1 v2 v3 v4 ((1 : Int32)) s
noncomputable def f_Th_cheapestOwned_61 (KH : Nat → Int32 → Int32 → Int32 → Int32 → Mem → Option (Int32 × Mem)) (k0 : Nat) (v1 : Int32) (v2 : Int32) (v3 : Int32) (v4 : Int32) (s : Mem) : Option (Int32 × Mem) :=
  f_Th_cheapestOwned_64 (KH) k0 v1 v2 v3 v4 ((0 : Int32)) s
noncomputable def f_Th_cheapestOwned_17 : Nat → Nat → Int32 → Int32 → Int32 → Int32 → Mem → Option (Int32 × Mem)
  | 0, _, _, _, _, _, _ => none
  | n + 1, k0, v1, v2, v3, v4, s =>
    cif (v2 < v4) (
      some (v3, s)) (
      (f_Th_worthOf k0 v4 s).bind fun r1 =>
      (f_Th_worthOf k0 v3 r1.2).bind fun r2 =>
      cif (r1.1 < r2.1) (
        f_Th_cheapestOwned_57 (fun k0 v1 v2 v3 v4 s => f_Th_cheapestOwned_17 n k0 v1 v2 v3 v4 s) k0 v1 v2 v3 v4 r2.2) (
        (f_Th_worthOf k0 v4 r2.2).bind fun r3 =>
        (f_Th_worthOf k0 v3 r3.2).bind fun r4 =>
        cif (r3.1 = r4.1) (
          cif (v3 ≤ v4) (
            f_Th_cheapestOwned_61 (fun k0 v1 v2 v3 v4 s => f_Th_cheapestOwned_17 n k0 v1 v2 v3 v4 s) k0 v1 v2 v3 v4 r4.2) (
            f_Th_cheapestOwned_57 (fun k0 v1 v2 v3 v4 s => f_Th_cheapestOwned_17 n k0 v1 v2 v3 v4 s) k0 v1 v2 v3 v4 r4.2)) (
          f_Th_cheapestOwned_61 (fun k0 v1 v2 v3 v4 s => f_Th_cheapestOwned_17 n k0 v1 v2 v3 v4 s) k0 v1 v2 v3 v4 r4.2)))
noncomputable def b_Th_cheapestOwned (k0 : Nat) (v1 : Int32) (s : Mem) : Option (Int32 × Mem) :=
  let x1 : Int32 := (((1 : Int32)) <<< ((rI s (k0 + 17) 3) &&& 31)) - ((1 : Int32))
  f_Th_cheapestOwned_17 FU k0 v1 x1 x1 ((0 : Int32)) s
noncomputable def f_Th_cheapestOwned : Nat → Int32 → Mem → Option (Int32 × Mem) := Classical.choose (⟨b_Th_cheapestOwned, rfl⟩ : ∃ f : Nat → Int32 → Mem → Option (Int32 × Mem), f = b_Th_cheapestOwned)
theorem f_Th_cheapestOwned_eq : f_Th_cheapestOwned = b_Th_cheapestOwned := Classical.choose_spec (⟨b_Th_cheapestOwned, rfl⟩ : ∃ f : Nat → Int32 → Mem → Option (Int32 × Mem), f = b_Th_cheapestOwned)
noncomputable def sm_Th_cheapestOwned (O : Type) (av : List AV) (σ : Mem) (K : AV → Mem → Option O) : Option O := match av with
  | [.inr (.inr (7, k0)), .inl v1] => (f_Th_cheapestOwned k0 v1 σ).bind fun r => K (.inl r.1) r.2
  | _ => none
def c_Th_cheapestOwned : List (List CE) := [[(0, .iconst 1, 1, 1, 0, 0), (1, .aload_n 0, 1, 0, 0, 0), (2, .getfield 29, 3, 7, 4, 0), (5, .getfield 52, 3, 6, 3, 0), (8, .ishl, 1, 0, 0, 0), (9, .iconst 1, 1, 1, 0, 0), (10, .isub, 1, 0, 0, 0), (11, .istore_n 2, 1, 0, 0, 0), (12, .iload_n 2, 1, 0, 0, 0), (13, .istore_n 3, 1, 0, 0, 0), (14, .iconst 0, 1, 0, 0, 0), (15, .istore 4, 2, 0, 0, 0)], [(17, .iload 4, 2, 0, 0, 0), (19, .iload_n 2, 1, 0, 0, 0), (20, .if_icmp .gt 68, 3, 88, 0, 0), (23, .aload_n 0, 1, 0, 0, 0), (24, .iload 4, 2, 0, 0, 0), (26, .invokevirtual 74, 3, 188, 2, 15), (29, .aload_n 0, 1, 0, 0, 0), (30, .iload_n 3, 1, 0, 0, 0), (31, .invokevirtual 74, 3, 188, 2, 15)], [(34, .if_icmp .lt 23, 3, 57, 0, 0), (37, .aload_n 0, 1, 0, 0, 0), (38, .iload 4, 2, 0, 0, 0), (40, .invokevirtual 74, 3, 188, 2, 15), (43, .aload_n 0, 1, 0, 0, 0), (44, .iload_n 3, 1, 0, 0, 0), (45, .invokevirtual 74, 3, 188, 2, 15)], [(48, .if_icmp .ne 13, 3, 61, 0, 0), (51, .iload 4, 2, 0, 0, 0), (53, .iload_n 3, 1, 0, 0, 0), (54, .if_icmp .ge 7, 3, 61, 0, 0), (57, .iconst 1, 1, 1, 0, 0), (58, .goto 4, 3, 62, 0, 0), (61, .iconst 0, 1, 0, 0, 0), (62, .istore 5, 2, 0, 0, 0)], [(64, .iload 5, 2, 0, 0, 0), (66, .ifCond .eq 16, 3, 82, 0, 0), (69, .aload_n 0, 1, 0, 0, 0), (70, .iload 4, 2, 0, 0, 0), (72, .invokevirtual 77, 3, 189, 2, 15), (75, .iload_n 1, 1, 0, 0, 0), (76, .if_icmp .gt 6, 3, 82, 0, 0), (79, .iload 4, 2, 0, 0, 0)], [(81, .istore_n 3, 1, 0, 0, 0), (82, .iinc 4 1, 3, 1, 0, 0), (85, .goto (-68), 3, 17, 0, 0), (88, .iload_n 3, 1, 0, 0, 0), (89, .ireturn, 1, 0, 0, 0)]]
set_option maxRecDepth 100000 in
theorem oc_Th_cheapestOwned : okC 187 c_Th_cheapestOwned = true := by decide +kernel
def cu_Th_cheapestOwned : List (Nat × List Bool) := [(64, [true, true, true, true, true, true]), (57, [true, true, true, true, true]), (61, [true, true, true, true, true]), (17, [true, true, true, true, true])]
noncomputable def F_Th_cheapestOwned (O : Type) (a : Nat) (av : List AV) (σ : Mem) (K : AV → Mem → Option O) : Option O := if a = 188 then sm_Th_worthOf O av σ K else if a = 189 then sm_Th_hiddenBy O av σ K else none
theorem fs_Th_cheapestOwned {X : CXT} (hX : XC X) (O : Type) : FS X 4 (F_Th_cheapestOwned O) := by
  intro a av σ K o h
  unfold F_Th_cheapestOwned at h
  rcases ite_s h with ⟨rfl, h⟩ | ⟨_, h⟩
  · obtain ⟨r, h1, h2, h3⟩ := ok_Th_worthOf hX _ _ _ _ _ h
    exact ⟨r, fun ht => ⟨3, by decide, h1 ht⟩, h2, h3⟩
  rcases ite_s h with ⟨rfl, h⟩ | ⟨_, h⟩
  · obtain ⟨r, h1, h2, h3⟩ := ok_Th_hiddenBy hX _ _ _ _ _ h
    exact ⟨r, fun ht => ⟨3, by decide, h1 ht⟩, h2, h3⟩
  cases h
def hd_Th_cheapestOwned_64 {O : Type} (g : Nat → Int32 → Int32 → Int32 → Int32 → Int32 → Mem → Option O) (ls : OL) (st : List AV) (σ : Mem) : Option O := match ls, st with
  | [some (.inr (.inr (7, k0))), some (.inl v1), some (.inl v2), some (.inl v3), some (.inl v4), some (.inl v5)], [] => g k0 v1 v2 v3 v4 v5 σ
  | _, _ => none
theorem hs_Th_cheapestOwned_64 {X : CXT} {g : Nat → Int32 → Int32 → Int32 → Int32 → Int32 → Mem → Option (Int32 × Mem)} (hg : ∀ (k0 : Nat) (v1 : Int32) (v2 : Int32) (v3 : Int32) (v4 : Int32) (v5 : Int32) (s : Mem) (o : Int32 × Mem), g k0 v1 v2 v3 v4 v5 s = some o → BSnd X 4 187 (ovI o) 64 [some (.inr (.inr (7, k0))), some (.inl v1), some (.inl v2), some (.inl v3), some (.inl v4), some (.inl v5)] [] s) : ∀ ls st σ o, hd_Th_cheapestOwned_64 g ls st σ = some o → BSnd X 4 187 (ovI o) 64 ls st σ := by
  intro ls st σ o h
  unfold hd_Th_cheapestOwned_64 at h
  split at h
  · exact hg _ _ _ _ _ _ _ _ h
  · cases h
def hd_Th_cheapestOwned_57 {O : Type} (g : Nat → Int32 → Int32 → Int32 → Int32 → Mem → Option O) (ls : OL) (st : List AV) (σ : Mem) : Option O := match ls, st with
  | [some (.inr (.inr (7, k0))), some (.inl v1), some (.inl v2), some (.inl v3), some (.inl v4)], [] => g k0 v1 v2 v3 v4 σ
  | _, _ => none
theorem hs_Th_cheapestOwned_57 {X : CXT} {g : Nat → Int32 → Int32 → Int32 → Int32 → Mem → Option (Int32 × Mem)} (hg : ∀ (k0 : Nat) (v1 : Int32) (v2 : Int32) (v3 : Int32) (v4 : Int32) (s : Mem) (o : Int32 × Mem), g k0 v1 v2 v3 v4 s = some o → BSnd X 4 187 (ovI o) 57 [some (.inr (.inr (7, k0))), some (.inl v1), some (.inl v2), some (.inl v3), some (.inl v4)] [] s) : ∀ ls st σ o, hd_Th_cheapestOwned_57 g ls st σ = some o → BSnd X 4 187 (ovI o) 57 ls st σ := by
  intro ls st σ o h
  unfold hd_Th_cheapestOwned_57 at h
  split at h
  · exact hg _ _ _ _ _ _ _ h
  · cases h
def hd_Th_cheapestOwned_61 {O : Type} (g : Nat → Int32 → Int32 → Int32 → Int32 → Mem → Option O) (ls : OL) (st : List AV) (σ : Mem) : Option O := match ls, st with
  | [some (.inr (.inr (7, k0))), some (.inl v1), some (.inl v2), some (.inl v3), some (.inl v4)], [] => g k0 v1 v2 v3 v4 σ
  | _, _ => none
theorem hs_Th_cheapestOwned_61 {X : CXT} {g : Nat → Int32 → Int32 → Int32 → Int32 → Mem → Option (Int32 × Mem)} (hg : ∀ (k0 : Nat) (v1 : Int32) (v2 : Int32) (v3 : Int32) (v4 : Int32) (s : Mem) (o : Int32 × Mem), g k0 v1 v2 v3 v4 s = some o → BSnd X 4 187 (ovI o) 61 [some (.inr (.inr (7, k0))), some (.inl v1), some (.inl v2), some (.inl v3), some (.inl v4)] [] s) : ∀ ls st σ o, hd_Th_cheapestOwned_61 g ls st σ = some o → BSnd X 4 187 (ovI o) 61 ls st σ := by
  intro ls st σ o h
  unfold hd_Th_cheapestOwned_61 at h
  split at h
  · exact hg _ _ _ _ _ _ _ h
  · cases h
def hd_Th_cheapestOwned_17 {O : Type} (g : Nat → Int32 → Int32 → Int32 → Int32 → Mem → Option O) (ls : OL) (st : List AV) (σ : Mem) : Option O := match ls, st with
  | [some (.inr (.inr (7, k0))), some (.inl v1), some (.inl v2), some (.inl v3), some (.inl v4)], [] => g k0 v1 v2 v3 v4 σ
  | _, _ => none
theorem hs_Th_cheapestOwned_17 {X : CXT} {g : Nat → Int32 → Int32 → Int32 → Int32 → Mem → Option (Int32 × Mem)} (hg : ∀ (k0 : Nat) (v1 : Int32) (v2 : Int32) (v3 : Int32) (v4 : Int32) (s : Mem) (o : Int32 × Mem), g k0 v1 v2 v3 v4 s = some o → BSnd X 4 187 (ovI o) 17 [some (.inr (.inr (7, k0))), some (.inl v1), some (.inl v2), some (.inl v3), some (.inl v4)] [] s) : ∀ ls st σ o, hd_Th_cheapestOwned_17 g ls st σ = some o → BSnd X 4 187 (ovI o) 17 ls st σ := by
  intro ls st σ o h
  unfold hd_Th_cheapestOwned_17 at h
  split at h
  · exact hg _ _ _ _ _ _ _ h
  · cases h
set_option maxRecDepth 100000 in
theorem s_Th_cheapestOwned_64 {X : CXT} (hX : XC X) {KH : Nat → Int32 → Int32 → Int32 → Int32 → Mem → Option (Int32 × Mem)} (hKH : ∀ (k0 : Nat) (v1 : Int32) (v2 : Int32) (v3 : Int32) (v4 : Int32) (s : Mem) (o : Int32 × Mem), KH k0 v1 v2 v3 v4 s = some o → BSnd X 4 187 (ovI o) 17 [some (.inr (.inr (7, k0))), some (.inl v1), some (.inl v2), some (.inl v3), some (.inl v4)] [] s) : ∀ (k0 : Nat) (v1 : Int32) (v2 : Int32) (v3 : Int32) (v4 : Int32) (v5 : Int32) (s : Mem) (o : Int32 × Mem), f_Th_cheapestOwned_64 KH k0 v1 v2 v3 v4 v5 s = some o → BSnd X 4 187 (ovI o) 64 [some (.inr (.inr (7, k0))), some (.inl v1), some (.inl v2), some (.inl v3), some (.inl v4), some (.inl v5)] [] s := by
  intro k0 v1 v2 v3 v4 v5 s o h
  exact evC (chs := c_Th_cheapestOwned) (cuts := cu_Th_cheapestOwned) (G := fun pc ls st σ => if pc = 17 then hd_Th_cheapestOwned_17 (fun k0 v1 v2 v3 v4 s => KH k0 v1 v2 v3 v4 s) ls st σ else none) hX.2.1 hX.2.2 (F := F_Th_cheapestOwned _) (fs_Th_cheapestOwned hX _) (rt_I rfl) oc_Th_cheapestOwned (by
    intro pc ls st σ o h
    rcases ite_s h with ⟨rfl, h⟩ | ⟨_, h⟩
    · exact hs_Th_cheapestOwned_17 hKH _ _ _ _ h
    cases h) 236 64 _ _ _ _ h
set_option maxRecDepth 100000 in
theorem s_Th_cheapestOwned_57 {X : CXT} (hX : XC X) {KH : Nat → Int32 → Int32 → Int32 → Int32 → Mem → Option (Int32 × Mem)} (hKH : ∀ (k0 : Nat) (v1 : Int32) (v2 : Int32) (v3 : Int32) (v4 : Int32) (s : Mem) (o : Int32 × Mem), KH k0 v1 v2 v3 v4 s = some o → BSnd X 4 187 (ovI o) 17 [some (.inr (.inr (7, k0))), some (.inl v1), some (.inl v2), some (.inl v3), some (.inl v4)] [] s) : ∀ (k0 : Nat) (v1 : Int32) (v2 : Int32) (v3 : Int32) (v4 : Int32) (s : Mem) (o : Int32 × Mem), f_Th_cheapestOwned_57 KH k0 v1 v2 v3 v4 s = some o → BSnd X 4 187 (ovI o) 57 [some (.inr (.inr (7, k0))), some (.inl v1), some (.inl v2), some (.inl v3), some (.inl v4)] [] s := by
  intro k0 v1 v2 v3 v4 s o h
  exact evC (chs := c_Th_cheapestOwned) (cuts := cu_Th_cheapestOwned) (G := fun pc ls st σ => if pc = 64 then hd_Th_cheapestOwned_64 (fun k0 v1 v2 v3 v4 v5 s => f_Th_cheapestOwned_64 (KH) k0 v1 v2 v3 v4 v5 s) ls st σ else if pc = 17 then hd_Th_cheapestOwned_17 (fun k0 v1 v2 v3 v4 s => KH k0 v1 v2 v3 v4 s) ls st σ else none) hX.2.1 hX.2.2 (F := F_Th_cheapestOwned _) (fs_Th_cheapestOwned hX _) (rt_I rfl) oc_Th_cheapestOwned (by
    intro pc ls st σ o h
    rcases ite_s h with ⟨rfl, h⟩ | ⟨_, h⟩
    · exact hs_Th_cheapestOwned_64 (s_Th_cheapestOwned_64 hX hKH) _ _ _ _ h
    rcases ite_s h with ⟨rfl, h⟩ | ⟨_, h⟩
    · exact hs_Th_cheapestOwned_17 hKH _ _ _ _ h
    cases h) 236 57 _ _ _ _ h
set_option maxRecDepth 100000 in
theorem s_Th_cheapestOwned_61 {X : CXT} (hX : XC X) {KH : Nat → Int32 → Int32 → Int32 → Int32 → Mem → Option (Int32 × Mem)} (hKH : ∀ (k0 : Nat) (v1 : Int32) (v2 : Int32) (v3 : Int32) (v4 : Int32) (s : Mem) (o : Int32 × Mem), KH k0 v1 v2 v3 v4 s = some o → BSnd X 4 187 (ovI o) 17 [some (.inr (.inr (7, k0))), some (.inl v1), some (.inl v2), some (.inl v3), some (.inl v4)] [] s) : ∀ (k0 : Nat) (v1 : Int32) (v2 : Int32) (v3 : Int32) (v4 : Int32) (s : Mem) (o : Int32 × Mem), f_Th_cheapestOwned_61 KH k0 v1 v2 v3 v4 s = some o → BSnd X 4 187 (ovI o) 61 [some (.inr (.inr (7, k0))), some (.inl v1), some (.inl v2), some (.inl v3), some (.inl v4)] [] s := by
  intro k0 v1 v2 v3 v4 s o h
  exact evC (chs := c_Th_cheapestOwned) (cuts := cu_Th_cheapestOwned) (G := fun pc ls st σ => if pc = 64 then hd_Th_cheapestOwned_64 (fun k0 v1 v2 v3 v4 v5 s => f_Th_cheapestOwned_64 (KH) k0 v1 v2 v3 v4 v5 s) ls st σ else if pc = 17 then hd_Th_cheapestOwned_17 (fun k0 v1 v2 v3 v4 s => KH k0 v1 v2 v3 v4 s) ls st σ else none) hX.2.1 hX.2.2 (F := F_Th_cheapestOwned _) (fs_Th_cheapestOwned hX _) (rt_I rfl) oc_Th_cheapestOwned (by
    intro pc ls st σ o h
    rcases ite_s h with ⟨rfl, h⟩ | ⟨_, h⟩
    · exact hs_Th_cheapestOwned_64 (s_Th_cheapestOwned_64 hX hKH) _ _ _ _ h
    rcases ite_s h with ⟨rfl, h⟩ | ⟨_, h⟩
    · exact hs_Th_cheapestOwned_17 hKH _ _ _ _ h
    cases h) 236 61 _ _ _ _ h
set_option maxRecDepth 100000 in
theorem s_Th_cheapestOwned_17 {X : CXT} (hX : XC X) : ∀ n : Nat, ∀ (k0 : Nat) (v1 : Int32) (v2 : Int32) (v3 : Int32) (v4 : Int32) (s : Mem) (o : Int32 × Mem), f_Th_cheapestOwned_17 n k0 v1 v2 v3 v4 s = some o → BSnd X 4 187 (ovI o) 17 [some (.inr (.inr (7, k0))), some (.inl v1), some (.inl v2), some (.inl v3), some (.inl v4)] [] s := by
  intro n
  induction n with
  | zero => intro k0 v1 v2 v3 v4 s o h; cases h
  | succ n ih =>
    intro k0 v1 v2 v3 v4 s o h
    exact evC (chs := c_Th_cheapestOwned) (cuts := cu_Th_cheapestOwned) (G := fun pc ls st σ => if pc = 57 then hd_Th_cheapestOwned_57 (fun k0 v1 v2 v3 v4 s => f_Th_cheapestOwned_57 (fun k0 v1 v2 v3 v4 s => f_Th_cheapestOwned_17 n k0 v1 v2 v3 v4 s) k0 v1 v2 v3 v4 s) ls st σ else if pc = 61 then hd_Th_cheapestOwned_61 (fun k0 v1 v2 v3 v4 s => f_Th_cheapestOwned_61 (fun k0 v1 v2 v3 v4 s => f_Th_cheapestOwned_17 n k0 v1 v2 v3 v4 s) k0 v1 v2 v3 v4 s) ls st σ else if pc = 17 then hd_Th_cheapestOwned_17 (fun k0 v1 v2 v3 v4 s => f_Th_cheapestOwned_17 n k0 v1 v2 v3 v4 s) ls st σ else none) hX.2.1 hX.2.2 (F := F_Th_cheapestOwned _) (fs_Th_cheapestOwned hX _) (rt_I rfl) oc_Th_cheapestOwned (by
    intro pc ls st σ o h
    rcases ite_s h with ⟨rfl, h⟩ | ⟨_, h⟩
    · exact hs_Th_cheapestOwned_57 (s_Th_cheapestOwned_57 hX ih) _ _ _ _ h
    rcases ite_s h with ⟨rfl, h⟩ | ⟨_, h⟩
    · exact hs_Th_cheapestOwned_61 (s_Th_cheapestOwned_61 hX ih) _ _ _ _ h
    rcases ite_s h with ⟨rfl, h⟩ | ⟨_, h⟩
    · exact hs_Th_cheapestOwned_17 ih _ _ _ _ h
    cases h) 236 17 _ _ _ _ h
set_option maxRecDepth 100000 in
theorem s_Th_cheapestOwned {X : CXT} (hX : XC X) : ∀ (k0 : Nat) (v1 : Int32) (s : Mem) (o : Int32 × Mem), f_Th_cheapestOwned k0 v1 s = some o → BSnd X 4 187 (ovI o) 0 (entL [.inr (.inr (7, k0)), .inl v1]) [] s := by
  intro k0 v1 s o h
  rw [f_Th_cheapestOwned_eq] at h
  exact evC (chs := c_Th_cheapestOwned) (cuts := cu_Th_cheapestOwned) (G := fun pc ls st σ => if pc = 17 then hd_Th_cheapestOwned_17 (fun k0 v1 v2 v3 v4 s => f_Th_cheapestOwned_17 FU k0 v1 v2 v3 v4 s) ls st σ else none) hX.2.1 hX.2.2 (F := F_Th_cheapestOwned _) (fs_Th_cheapestOwned hX _) (rt_I rfl) oc_Th_cheapestOwned (by
    intro pc ls st σ o h
    rcases ite_s h with ⟨rfl, h⟩ | ⟨_, h⟩
    · exact hs_Th_cheapestOwned_17 (s_Th_cheapestOwned_17 hX FU) _ _ _ _ h
    cases h) 236 0 _ _ _ _ h
theorem ok_Th_cheapestOwned {X : CXT} (hX : XC X) : SemOK X 4 187 sm_Th_cheapestOwned := by
  intro O av σ K o h
  unfold sm_Th_cheapestOwned at h
  split at h
  · obtain ⟨r, hf, h⟩ := Option.bind_eq_some_iff.mp h
    exact ⟨ovI r, fun ht => sp_of hX.1 (by decide) (List.mem_range.mpr (by decide)) (by decide +kernel) ht (Nat.le_of_ble_eq_true rfl) (s_Th_cheapestOwned hX _ _ _ _ hf), trivial, h⟩
  · cases h
noncomputable def b_P_ownsUp (k0 : Nat) (v1 : Int32) (v2 : Int32) (s : Mem) : Option (Int32 × Mem) :=
  (f_P_within v1 ((0 : Int32)) ((40 : Int32)) s).bind fun r1 =>
  cif ((b2i r1.1) = 0) (
    some ((-1 : Int32), r1.2)) (
    (f_P_within v2 ((0 : Int32)) ((1 : Int32)) r1.2).bind fun r2 =>
    cif ((b2i r2.1) = 0) (
      some ((-1 : Int32), r2.2)) (
      (f_Th_cheapestOwned (k0 + 30) v1 r2.2).bind fun r3 =>
      cif (v2 = 0) (
        (f_Th_worthOf (k0 + 30) r3.1 r3.2).bind fun r4 =>
        some (r4.1, r4.2)) (
        some (r3.1, r3.2))))
noncomputable def f_P_ownsUp : Nat → Int32 → Int32 → Mem → Option (Int32 × Mem) := Classical.choose (⟨b_P_ownsUp, rfl⟩ : ∃ f : Nat → Int32 → Int32 → Mem → Option (Int32 × Mem), f = b_P_ownsUp)
theorem f_P_ownsUp_eq : f_P_ownsUp = b_P_ownsUp := Classical.choose_spec (⟨b_P_ownsUp, rfl⟩ : ∃ f : Nat → Int32 → Int32 → Mem → Option (Int32 × Mem), f = b_P_ownsUp)
noncomputable def sm_P_ownsUp (O : Type) (av : List AV) (σ : Mem) (K : AV → Mem → Option O) : Option O := match av with
  | [.inr (.inr (11, k0)), .inl v1, .inl v2] => (f_P_ownsUp k0 v1 v2 σ).bind fun r => K (.inl r.1) r.2
  | _ => none
def c_P_ownsUp : List (List CE) := [[(0, .iload_n 1, 1, 0, 0, 0), (1, .iconst 0, 1, 0, 0, 0), (2, .bipush 40, 2, 40, 0, 0), (4, .invokestatic 80, 3, 17, 3, 1), (7, .ifCond .eq 12, 3, 19, 0, 0), (10, .iload_n 2, 1, 0, 0, 0), (11, .iconst 0, 1, 0, 0, 0), (12, .iconst 1, 1, 1, 0, 0), (13, .invokestatic 80, 3, 17, 3, 1)], [(16, .ifCond .ne 5, 3, 21, 0, 0), (19, .iconst (-1), 1, 1, 0, 1), (20, .ireturn, 1, 0, 0, 0), (21, .aload_n 0, 1, 0, 0, 0), (22, .getfield 10, 3, 11, 0, 0), (25, .getfield 288, 3, 10, 2, 0), (28, .iload_n 1, 1, 0, 0, 0), (29, .invokevirtual 365, 3, 187, 2, 15)], [(32, .istore_n 3, 1, 0, 0, 0), (33, .iload_n 2, 1, 0, 0, 0), (34, .ifCond .ne 17, 3, 51, 0, 0), (37, .aload_n 0, 1, 0, 0, 0), (38, .getfield 10, 3, 11, 0, 0), (41, .getfield 288, 3, 10, 2, 0), (44, .iload_n 3, 1, 0, 0, 0), (45, .invokevirtual 368, 3, 188, 2, 15)], [(48, .goto 4, 3, 52, 0, 0), (51, .iload_n 3, 1, 0, 0, 0), (52, .ireturn, 1, 0, 0, 0)]]
set_option maxRecDepth 100000 in
theorem oc_P_ownsUp : okC 186 c_P_ownsUp = true := by decide +kernel
def cu_P_ownsUp : List (Nat × List Bool) := []
noncomputable def F_P_ownsUp (O : Type) (a : Nat) (av : List AV) (σ : Mem) (K : AV → Mem → Option O) : Option O := if a = 17 then sm_P_within O av σ K else if a = 187 then sm_Th_cheapestOwned O av σ K else if a = 188 then sm_Th_worthOf O av σ K else none
theorem fs_P_ownsUp {X : CXT} (hX : XC X) (O : Type) : FS X 5 (F_P_ownsUp O) := by
  intro a av σ K o h
  unfold F_P_ownsUp at h
  rcases ite_s h with ⟨rfl, h⟩ | ⟨_, h⟩
  · obtain ⟨r, h1, h2, h3⟩ := ok_P_within hX _ _ _ _ _ h
    exact ⟨r, fun ht => ⟨1, by decide, h1 ht⟩, h2, h3⟩
  rcases ite_s h with ⟨rfl, h⟩ | ⟨_, h⟩
  · obtain ⟨r, h1, h2, h3⟩ := ok_Th_cheapestOwned hX _ _ _ _ _ h
    exact ⟨r, fun ht => ⟨4, by decide, h1 ht⟩, h2, h3⟩
  rcases ite_s h with ⟨rfl, h⟩ | ⟨_, h⟩
  · obtain ⟨r, h1, h2, h3⟩ := ok_Th_worthOf hX _ _ _ _ _ h
    exact ⟨r, fun ht => ⟨3, by decide, h1 ht⟩, h2, h3⟩
  cases h
set_option maxRecDepth 100000 in
theorem s_P_ownsUp {X : CXT} (hX : XC X) : ∀ (k0 : Nat) (v1 : Int32) (v2 : Int32) (s : Mem) (o : Int32 × Mem), f_P_ownsUp k0 v1 v2 s = some o → BSnd X 5 186 (ovI o) 0 (entL [.inr (.inr (11, k0)), .inl v1, .inl v2]) [] s := by
  intro k0 v1 v2 s o h
  rw [f_P_ownsUp_eq] at h
  exact evC (chs := c_P_ownsUp) (cuts := cu_P_ownsUp) (G := fun pc ls st σ => none) hX.2.1 hX.2.2 (F := F_P_ownsUp _) (fs_P_ownsUp hX _) (rt_I rfl) oc_P_ownsUp (by
    intro pc ls st σ o h
    cases h) 152 0 _ _ _ _ h
theorem ok_P_ownsUp {X : CXT} (hX : XC X) : SemOK X 5 186 sm_P_ownsUp := by
  intro O av σ K o h
  unfold sm_P_ownsUp at h
  split at h
  · obtain ⟨r, hf, h⟩ := Option.bind_eq_some_iff.mp h
    exact ⟨ovI r, fun ht => sp_of hX.1 (by decide) (List.mem_range.mpr (by decide)) (by decide +kernel) ht (Nat.le_of_ble_eq_true rfl) (s_P_ownsUp hX _ _ _ _ _ hf), trivial, h⟩
  · cases h
