noncomputable def b_P_price (k0 : Nat) (v1 : Int32) (s : Mem) : Option (Int32 × Mem) :=
  cif (v1 = ((-1 : Int32))) (
    (f_Ro_clear (k0 + 51) s).bind fun r1 =>
    some (r1.1, r1.2)) (
    (f_P_within v1 ((1 : Int32)) ((99 : Int32)) s).bind fun r2 =>
    cif ((b2i r2.1) = 0) (
      some ((-1 : Int32), r2.2)) (
      (f_Ro_add (k0 + 51) v1 ((0 : Int32)) ((0 : Int32)) r2.2).bind fun r3 =>
      some (r3.1, r3.2)))
noncomputable def f_P_price : Nat → Int32 → Mem → Option (Int32 × Mem) := Classical.choose (⟨b_P_price, rfl⟩ : ∃ f : Nat → Int32 → Mem → Option (Int32 × Mem), f = b_P_price)
theorem f_P_price_eq : f_P_price = b_P_price := Classical.choose_spec (⟨b_P_price, rfl⟩ : ∃ f : Nat → Int32 → Mem → Option (Int32 × Mem), f = b_P_price)
noncomputable def sm_P_price (O : Type) (av : List AV) (σ : Mem) (K : AV → Mem → Option O) : Option O := match av with
  | [.inr (.inr (11, k0)), .inl v1] => (f_P_price k0 v1 σ).bind fun r => K (.inl r.1) r.2
  | _ => none
def c_P_price : List (List CE) := [[(0, .iload_n 1, 1, 0, 0, 0), (1, .iconst (-1), 1, 1, 0, 1), (2, .if_icmp .ne 17, 3, 19, 0, 0), (5, .aload_n 0, 1, 0, 0, 0), (6, .getfield 10, 3, 11, 0, 0), (9, .getfield 288, 3, 10, 2, 0), (12, .getfield 371, 3, 7, 5, 0), (15, .invokevirtual 300, 3, 130, 1, 13)], [(18, .ireturn, 1, 0, 0, 0), (19, .iload_n 1, 1, 0, 0, 0), (20, .iconst 1, 1, 1, 0, 0), (21, .bipush 99, 2, 99, 0, 0), (23, .invokestatic 80, 3, 17, 3, 1), (26, .ifCond .eq 22, 3, 48, 0, 0), (29, .aload_n 0, 1, 0, 0, 0), (30, .getfield 10, 3, 11, 0, 0)], [(33, .getfield 288, 3, 10, 2, 0), (36, .getfield 371, 3, 7, 5, 0), (39, .iload_n 1, 1, 0, 0, 0), (40, .iconst 0, 1, 0, 0, 0), (41, .iconst 0, 1, 0, 0, 0), (42, .invokevirtual 303, 3, 134, 4, 13), (45, .goto 4, 3, 49, 0, 0)], [(48, .iconst (-1), 1, 1, 0, 1), (49, .ireturn, 1, 0, 0, 0)]]
set_option maxRecDepth 100000 in
theorem oc_P_price : okC 190 c_P_price = true := by decide +kernel
def cu_P_price : List (Nat × List Bool) := []
noncomputable def F_P_price (O : Type) (a : Nat) (av : List AV) (σ : Mem) (K : AV → Mem → Option O) : Option O := if a = 17 then sm_P_within O av σ K else if a = 130 then sm_Ro_clear O av σ K else if a = 134 then sm_Ro_add O av σ K else none
theorem fs_P_price {X : CXT} (hX : XC X) (O : Type) : FS X 3 (F_P_price O) := by
  intro a av σ K o h
  unfold F_P_price at h
  rcases ite_s h with ⟨rfl, h⟩ | ⟨_, h⟩
  · obtain ⟨r, h1, h2, h3⟩ := ok_P_within hX _ _ _ _ _ h
    exact ⟨r, fun ht => ⟨1, by decide, h1 ht⟩, h2, h3⟩
  rcases ite_s h with ⟨rfl, h⟩ | ⟨_, h⟩
  · obtain ⟨r, h1, h2, h3⟩ := ok_Ro_clear hX _ _ _ _ _ h
    exact ⟨r, fun ht => ⟨1, by decide, h1 ht⟩, h2, h3⟩
  rcases ite_s h with ⟨rfl, h⟩ | ⟨_, h⟩
  · obtain ⟨r, h1, h2, h3⟩ := ok_Ro_add hX _ _ _ _ _ h
    exact ⟨r, fun ht => ⟨2, by decide, h1 ht⟩, h2, h3⟩
  cases h
set_option maxRecDepth 100000 in
theorem s_P_price {X : CXT} (hX : XC X) : ∀ (k0 : Nat) (v1 : Int32) (s : Mem) (o : Int32 × Mem), f_P_price k0 v1 s = some o → BSnd X 3 190 (ovI o) 0 (entL [.inr (.inr (11, k0)), .inl v1]) [] s := by
  intro k0 v1 s o h
  rw [f_P_price_eq] at h
  exact evC (chs := c_P_price) (cuts := cu_P_price) (G := fun pc ls st σ => none) hX.2.1 hX.2.2 (F := F_P_price _) (fs_P_price hX _) (rt_I rfl) oc_P_price (by
    intro pc ls st σ o h
    cases h) 140 0 _ _ _ _ h
theorem ok_P_price {X : CXT} (hX : XC X) : SemOK X 3 190 sm_P_price := by
  intro O av σ K o h
  unfold sm_P_price at h
  split at h
  · obtain ⟨r, hf, h⟩ := Option.bind_eq_some_iff.mp h
    exact ⟨ovI r, fun ht => sp_of hX.1 (by decide) (List.mem_range.mpr (by decide)) (by decide +kernel) ht (Nat.le_of_ble_eq_true rfl) (s_P_price hX _ _ _ _ hf), trivial, h⟩
  · cases h
noncomputable def f_Th_raisedSum_6 : Nat → Nat → Int32 → Int32 → Int32 → Mem → Option (Int32 × Mem)
  | 0, _, _, _, _, _ => none
  | n + 1, k0, v1, v2, v3, s =>
    cif ((rI s (k0 + 21) 3) ≤ v3) (
      some (v2, s)) (
      (f_Ro_first (k0 + 21) v3 s).bind fun r1 =>
      let x2 : Int32 := imx v1 r1.1
      (f_Ro_first (k0 + 21) v3 r1.2).bind fun r3 =>
      let x4 : Int32 := v2 + (x2 - r3.1)
      f_Th_raisedSum_6 n k0 x2 x4 (v3 + (1 : Int32)) r3.2)
noncomputable def b_Th_raisedSum (k0 : Nat) (s : Mem) : Option (Int32 × Mem) :=
  f_Th_raisedSum_6 FU k0 ((0 : Int32)) ((0 : Int32)) ((0 : Int32)) s
noncomputable def f_Th_raisedSum : Nat → Mem → Option (Int32 × Mem) := Classical.choose (⟨b_Th_raisedSum, rfl⟩ : ∃ f : Nat → Mem → Option (Int32 × Mem), f = b_Th_raisedSum)
theorem f_Th_raisedSum_eq : f_Th_raisedSum = b_Th_raisedSum := Classical.choose_spec (⟨b_Th_raisedSum, rfl⟩ : ∃ f : Nat → Mem → Option (Int32 × Mem), f = b_Th_raisedSum)
noncomputable def sm_Th_raisedSum (O : Type) (av : List AV) (σ : Mem) (K : AV → Mem → Option O) : Option O := match av with
  | [.inr (.inr (7, k0))] => (f_Th_raisedSum k0 σ).bind fun r => K (.inl r.1) r.2
  | _ => none
def c_Th_raisedSum : List (List CE) := [[(0, .iconst 0, 1, 0, 0, 0), (1, .istore_n 1, 1, 0, 0, 0), (2, .iconst 0, 1, 0, 0, 0), (3, .istore_n 2, 1, 0, 0, 0), (4, .iconst 0, 1, 0, 0, 0), (5, .istore_n 3, 1, 0, 0, 0), (6, .iload_n 3, 1, 0, 0, 0), (7, .aload_n 0, 1, 0, 0, 0), (8, .getfield 32, 3, 7, 5, 0), (11, .getfield 52, 3, 6, 3, 0), (14, .if_icmp .ge 35, 3, 49, 0, 0)], [(17, .iload_n 1, 1, 0, 0, 0), (18, .aload_n 0, 1, 0, 0, 0), (19, .getfield 32, 3, 7, 5, 0), (22, .iload_n 3, 1, 0, 0, 0), (23, .invokevirtual 56, 3, 54, 2, 13), (26, .invokestatic 80, 3, 7, 2, 2), (29, .istore_n 1, 1, 0, 0, 0), (30, .iload_n 2, 1, 0, 0, 0), (31, .iload_n 1, 1, 0, 0, 0)], [(32, .aload_n 0, 1, 0, 0, 0), (33, .getfield 32, 3, 7, 5, 0), (36, .iload_n 3, 1, 0, 0, 0), (37, .invokevirtual 56, 3, 54, 2, 13), (40, .isub, 1, 0, 0, 0), (41, .iadd, 1, 0, 0, 0), (42, .istore_n 2, 1, 0, 0, 0), (43, .iinc 3 1, 3, 1, 0, 0), (46, .goto (-40), 3, 6, 0, 0)], [(49, .iload_n 2, 1, 0, 0, 0), (50, .ireturn, 1, 0, 0, 0)]]
set_option maxRecDepth 100000 in
theorem oc_Th_raisedSum : okC 192 c_Th_raisedSum = true := by decide +kernel
def cu_Th_raisedSum : List (Nat × List Bool) := [(6, [true, true, true, true])]
noncomputable def F_Th_raisedSum (O : Type) (a : Nat) (av : List AV) (σ : Mem) (K : AV → Mem → Option O) : Option O := if a = 54 then sm_Ro_first O av σ K else none
theorem fs_Th_raisedSum {X : CXT} (hX : XC X) (O : Type) : FS X 3 (F_Th_raisedSum O) := by
  intro a av σ K o h
  unfold F_Th_raisedSum at h
  rcases ite_s h with ⟨rfl, h⟩ | ⟨_, h⟩
  · obtain ⟨r, h1, h2, h3⟩ := ok_Ro_first hX _ _ _ _ _ h
    exact ⟨r, fun ht => ⟨2, by decide, h1 ht⟩, h2, h3⟩
  cases h
def hd_Th_raisedSum_6 {O : Type} (g : Nat → Int32 → Int32 → Int32 → Mem → Option O) (ls : OL) (st : List AV) (σ : Mem) : Option O := match ls, st with
  | [some (.inr (.inr (7, k0))), some (.inl v1), some (.inl v2), some (.inl v3)], [] => g k0 v1 v2 v3 σ
  | _, _ => none
theorem hs_Th_raisedSum_6 {X : CXT} {g : Nat → Int32 → Int32 → Int32 → Mem → Option (Int32 × Mem)} (hg : ∀ (k0 : Nat) (v1 : Int32) (v2 : Int32) (v3 : Int32) (s : Mem) (o : Int32 × Mem), g k0 v1 v2 v3 s = some o → BSnd X 3 192 (ovI o) 6 [some (.inr (.inr (7, k0))), some (.inl v1), some (.inl v2), some (.inl v3)] [] s) : ∀ ls st σ o, hd_Th_raisedSum_6 g ls st σ = some o → BSnd X 3 192 (ovI o) 6 ls st σ := by
  intro ls st σ o h
  unfold hd_Th_raisedSum_6 at h
  split at h
  · exact hg _ _ _ _ _ _ h
  · cases h
set_option maxRecDepth 100000 in
theorem s_Th_raisedSum_6 {X : CXT} (hX : XC X) : ∀ n : Nat, ∀ (k0 : Nat) (v1 : Int32) (v2 : Int32) (v3 : Int32) (s : Mem) (o : Int32 × Mem), f_Th_raisedSum_6 n k0 v1 v2 v3 s = some o → BSnd X 3 192 (ovI o) 6 [some (.inr (.inr (7, k0))), some (.inl v1), some (.inl v2), some (.inl v3)] [] s := by
  intro n
  induction n with
  | zero => intro k0 v1 v2 v3 s o h; cases h
  | succ n ih =>
    intro k0 v1 v2 v3 s o h
    exact evC (chs := c_Th_raisedSum) (cuts := cu_Th_raisedSum) (G := fun pc ls st σ => if pc = 6 then hd_Th_raisedSum_6 (fun k0 v1 v2 v3 s => f_Th_raisedSum_6 n k0 v1 v2 v3 s) ls st σ else none) hX.2.1 hX.2.2 (F := F_Th_raisedSum _) (fs_Th_raisedSum hX _) (rt_I rfl) oc_Th_raisedSum (by
    intro pc ls st σ o h
    rcases ite_s h with ⟨rfl, h⟩ | ⟨_, h⟩
    · exact hs_Th_raisedSum_6 ih _ _ _ _ h
    cases h) 164 6 _ _ _ _ h
set_option maxRecDepth 100000 in
theorem s_Th_raisedSum {X : CXT} (hX : XC X) : ∀ (k0 : Nat) (s : Mem) (o : Int32 × Mem), f_Th_raisedSum k0 s = some o → BSnd X 3 192 (ovI o) 0 (entL [.inr (.inr (7, k0))]) [] s := by
  intro k0 s o h
  rw [f_Th_raisedSum_eq] at h
  exact evC (chs := c_Th_raisedSum) (cuts := cu_Th_raisedSum) (G := fun pc ls st σ => if pc = 6 then hd_Th_raisedSum_6 (fun k0 v1 v2 v3 s => f_Th_raisedSum_6 FU k0 v1 v2 v3 s) ls st σ else none) hX.2.1 hX.2.2 (F := F_Th_raisedSum _) (fs_Th_raisedSum hX _) (rt_I rfl) oc_Th_raisedSum (by
    intro pc ls st σ o h
    rcases ite_s h with ⟨rfl, h⟩ | ⟨_, h⟩
    · exact hs_Th_raisedSum_6 (s_Th_raisedSum_6 hX FU) _ _ _ _ h
    cases h) 164 0 _ _ _ _ h
theorem ok_Th_raisedSum {X : CXT} (hX : XC X) : SemOK X 3 192 sm_Th_raisedSum := by
  intro O av σ K o h
  unfold sm_Th_raisedSum at h
  split at h
  · obtain ⟨r, hf, h⟩ := Option.bind_eq_some_iff.mp h
    exact ⟨ovI r, fun ht => sp_of hX.1 (by decide) (List.mem_range.mpr (by decide)) (by decide +kernel) ht (Nat.le_of_ble_eq_true rfl) (s_Th_raisedSum hX _ _ _ hf), trivial, h⟩
  · cases h
noncomputable def f_Th_highestPrice_4 : Nat → Nat → Int32 → Int32 → Mem → Option (Int32 × Mem)
  | 0, _, _, _, _ => none
  | n + 1, k0, v1, v2, s =>
    cif ((rI s (k0 + 21) 3) ≤ v2) (
      some (v1, s)) (
      (f_Ro_first (k0 + 21) v2 s).bind fun r1 =>
      let x2 : Int32 := imx v1 r1.1
      f_Th_highestPrice_4 n k0 x2 (v2 + (1 : Int32)) r1.2)
noncomputable def b_Th_highestPrice (k0 : Nat) (s : Mem) : Option (Int32 × Mem) :=
  f_Th_highestPrice_4 FU k0 ((0 : Int32)) ((0 : Int32)) s
noncomputable def f_Th_highestPrice : Nat → Mem → Option (Int32 × Mem) := Classical.choose (⟨b_Th_highestPrice, rfl⟩ : ∃ f : Nat → Mem → Option (Int32 × Mem), f = b_Th_highestPrice)
theorem f_Th_highestPrice_eq : f_Th_highestPrice = b_Th_highestPrice := Classical.choose_spec (⟨b_Th_highestPrice, rfl⟩ : ∃ f : Nat → Mem → Option (Int32 × Mem), f = b_Th_highestPrice)
noncomputable def sm_Th_highestPrice (O : Type) (av : List AV) (σ : Mem) (K : AV → Mem → Option O) : Option O := match av with
  | [.inr (.inr (7, k0))] => (f_Th_highestPrice k0 σ).bind fun r => K (.inl r.1) r.2
  | _ => none
def c_Th_highestPrice : List (List CE) := [[(0, .iconst 0, 1, 0, 0, 0), (1, .istore_n 1, 1, 0, 0, 0), (2, .iconst 0, 1, 0, 0, 0), (3, .istore_n 2, 1, 0, 0, 0), (4, .iload_n 2, 1, 0, 0, 0), (5, .aload_n 0, 1, 0, 0, 0), (6, .getfield 32, 3, 7, 5, 0), (9, .getfield 52, 3, 6, 3, 0), (12, .if_icmp .ge 22, 3, 34, 0, 0), (15, .iload_n 1, 1, 0, 0, 0)], [(16, .aload_n 0, 1, 0, 0, 0), (17, .getfield 32, 3, 7, 5, 0), (20, .iload_n 2, 1, 0, 0, 0), (21, .invokevirtual 56, 3, 54, 2, 13), (24, .invokestatic 80, 3, 7, 2, 2), (27, .istore_n 1, 1, 0, 0, 0), (28, .iinc 2 1, 3, 1, 0, 0), (31, .goto (-27), 3, 4, 0, 0)], [(34, .iload_n 1, 1, 0, 0, 0), (35, .ireturn, 1, 0, 0, 0)]]
set_option maxRecDepth 100000 in
theorem oc_Th_highestPrice : okC 193 c_Th_highestPrice = true := by decide +kernel
def cu_Th_highestPrice : List (Nat × List Bool) := [(4, [true, true, true])]
noncomputable def F_Th_highestPrice (O : Type) (a : Nat) (av : List AV) (σ : Mem) (K : AV → Mem → Option O) : Option O := if a = 54 then sm_Ro_first O av σ K else none
theorem fs_Th_highestPrice {X : CXT} (hX : XC X) (O : Type) : FS X 3 (F_Th_highestPrice O) := by
  intro a av σ K o h
  unfold F_Th_highestPrice at h
  rcases ite_s h with ⟨rfl, h⟩ | ⟨_, h⟩
  · obtain ⟨r, h1, h2, h3⟩ := ok_Ro_first hX _ _ _ _ _ h
    exact ⟨r, fun ht => ⟨2, by decide, h1 ht⟩, h2, h3⟩
  cases h
def hd_Th_highestPrice_4 {O : Type} (g : Nat → Int32 → Int32 → Mem → Option O) (ls : OL) (st : List AV) (σ : Mem) : Option O := match ls, st with
  | [some (.inr (.inr (7, k0))), some (.inl v1), some (.inl v2)], [] => g k0 v1 v2 σ
  | _, _ => none
theorem hs_Th_highestPrice_4 {X : CXT} {g : Nat → Int32 → Int32 → Mem → Option (Int32 × Mem)} (hg : ∀ (k0 : Nat) (v1 : Int32) (v2 : Int32) (s : Mem) (o : Int32 × Mem), g k0 v1 v2 s = some o → BSnd X 3 193 (ovI o) 4 [some (.inr (.inr (7, k0))), some (.inl v1), some (.inl v2)] [] s) : ∀ ls st σ o, hd_Th_highestPrice_4 g ls st σ = some o → BSnd X 3 193 (ovI o) 4 ls st σ := by
  intro ls st σ o h
  unfold hd_Th_highestPrice_4 at h
  split at h
  · exact hg _ _ _ _ _ h
  · cases h
set_option maxRecDepth 100000 in
theorem s_Th_highestPrice_4 {X : CXT} (hX : XC X) : ∀ n : Nat, ∀ (k0 : Nat) (v1 : Int32) (v2 : Int32) (s : Mem) (o : Int32 × Mem), f_Th_highestPrice_4 n k0 v1 v2 s = some o → BSnd X 3 193 (ovI o) 4 [some (.inr (.inr (7, k0))), some (.inl v1), some (.inl v2)] [] s := by
  intro n
  induction n with
  | zero => intro k0 v1 v2 s o h; cases h
  | succ n ih =>
    intro k0 v1 v2 s o h
    exact evC (chs := c_Th_highestPrice) (cuts := cu_Th_highestPrice) (G := fun pc ls st σ => if pc = 4 then hd_Th_highestPrice_4 (fun k0 v1 v2 s => f_Th_highestPrice_4 n k0 v1 v2 s) ls st σ else none) hX.2.1 hX.2.2 (F := F_Th_highestPrice _) (fs_Th_highestPrice hX _) (rt_I rfl) oc_Th_highestPrice (by
    intro pc ls st σ o h
    rcases ite_s h with ⟨rfl, h⟩ | ⟨_, h⟩
    · exact hs_Th_highestPrice_4 ih _ _ _ _ h
    cases h) 120 4 _ _ _ _ h
set_option maxRecDepth 100000 in
theorem s_Th_highestPrice {X : CXT} (hX : XC X) : ∀ (k0 : Nat) (s : Mem) (o : Int32 × Mem), f_Th_highestPrice k0 s = some o → BSnd X 3 193 (ovI o) 0 (entL [.inr (.inr (7, k0))]) [] s := by
  intro k0 s o h
  rw [f_Th_highestPrice_eq] at h
  exact evC (chs := c_Th_highestPrice) (cuts := cu_Th_highestPrice) (G := fun pc ls st σ => if pc = 4 then hd_Th_highestPrice_4 (fun k0 v1 v2 s => f_Th_highestPrice_4 FU k0 v1 v2 s) ls st σ else none) hX.2.1 hX.2.2 (F := F_Th_highestPrice _) (fs_Th_highestPrice hX _) (rt_I rfl) oc_Th_highestPrice (by
    intro pc ls st σ o h
    rcases ite_s h with ⟨rfl, h⟩ | ⟨_, h⟩
    · exact hs_Th_highestPrice_4 (s_Th_highestPrice_4 hX FU) _ _ _ _ h
    cases h) 120 0 _ _ _ _ h
theorem ok_Th_highestPrice {X : CXT} (hX : XC X) : SemOK X 3 193 sm_Th_highestPrice := by
  intro O av σ K o h
  unfold sm_Th_highestPrice at h
  split at h
  · obtain ⟨r, hf, h⟩ := Option.bind_eq_some_iff.mp h
    exact ⟨ovI r, fun ht => sp_of hX.1 (by decide) (List.mem_range.mpr (by decide)) (by decide +kernel) ht (Nat.le_of_ble_eq_true rfl) (s_Th_highestPrice hX _ _ _ hf), trivial, h⟩
  · cases h
noncomputable def b_P_prices (k0 : Nat) (v1 : Int32) (s : Mem) : Option (Int32 × Mem) :=
  cif (v1 = (0 : Int32)) (
    (f_Th_raisedSum (k0 + 30) s).bind fun r1 =>
    some (r1.1, r1.2)) (
    cif (v1 = (1 : Int32)) (
      (f_Th_highestPrice (k0 + 30) s).bind fun r2 =>
      some (r2.1, r2.2)) (
      some ((-1 : Int32), s)))
noncomputable def f_P_prices : Nat → Int32 → Mem → Option (Int32 × Mem) := Classical.choose (⟨b_P_prices, rfl⟩ : ∃ f : Nat → Int32 → Mem → Option (Int32 × Mem), f = b_P_prices)
theorem f_P_prices_eq : f_P_prices = b_P_prices := Classical.choose_spec (⟨b_P_prices, rfl⟩ : ∃ f : Nat → Int32 → Mem → Option (Int32 × Mem), f = b_P_prices)
noncomputable def sm_P_prices (O : Type) (av : List AV) (σ : Mem) (K : AV → Mem → Option O) : Option O := match av with
  | [.inr (.inr (11, k0)), .inl v1] => (f_P_prices k0 v1 σ).bind fun r => K (.inl r.1) r.2
  | _ => none
def c_P_prices : List (List CE) := [[(0, .iload_n 1, 1, 0, 0, 0), (1, .lookupswitch 49 #[(0, 27), (1, 38)], 27, 0, 0, 0)], [(28, .aload_n 0, 1, 0, 0, 0), (29, .getfield 10, 3, 11, 0, 0)], [(32, .getfield 288, 3, 10, 2, 0), (35, .invokevirtual 374, 3, 192, 1, 15), (38, .ireturn, 1, 0, 0, 0), (39, .aload_n 0, 1, 0, 0, 0), (40, .getfield 10, 3, 11, 0, 0), (43, .getfield 288, 3, 10, 2, 0), (46, .invokevirtual 377, 3, 193, 1, 15)], [(49, .ireturn, 1, 0, 0, 0), (50, .iconst (-1), 1, 1, 0, 1), (51, .ireturn, 1, 0, 0, 0)]]
set_option maxRecDepth 100000 in
theorem oc_P_prices : okC 191 c_P_prices = true := by decide +kernel
def cu_P_prices : List (Nat × List Bool) := []
noncomputable def F_P_prices (O : Type) (a : Nat) (av : List AV) (σ : Mem) (K : AV → Mem → Option O) : Option O := if a = 192 then sm_Th_raisedSum O av σ K else if a = 193 then sm_Th_highestPrice O av σ K else none
theorem fs_P_prices {X : CXT} (hX : XC X) (O : Type) : FS X 4 (F_P_prices O) := by
  intro a av σ K o h
  unfold F_P_prices at h
  rcases ite_s h with ⟨rfl, h⟩ | ⟨_, h⟩
  · obtain ⟨r, h1, h2, h3⟩ := ok_Th_raisedSum hX _ _ _ _ _ h
    exact ⟨r, fun ht => ⟨3, by decide, h1 ht⟩, h2, h3⟩
  rcases ite_s h with ⟨rfl, h⟩ | ⟨_, h⟩
  · obtain ⟨r, h1, h2, h3⟩ := ok_Th_highestPrice hX _ _ _ _ _ h
    exact ⟨r, fun ht => ⟨3, by decide, h1 ht⟩, h2, h3⟩
  cases h
set_option maxRecDepth 100000 in
theorem s_P_prices {X : CXT} (hX : XC X) : ∀ (k0 : Nat) (v1 : Int32) (s : Mem) (o : Int32 × Mem), f_P_prices k0 v1 s = some o → BSnd X 4 191 (ovI o) 0 (entL [.inr (.inr (11, k0)), .inl v1]) [] s := by
  intro k0 v1 s o h
  rw [f_P_prices_eq] at h
  exact evC (chs := c_P_prices) (cuts := cu_P_prices) (G := fun pc ls st σ => none) hX.2.1 hX.2.2 (F := F_P_prices _) (fs_P_prices hX _) (rt_I rfl) oc_P_prices (by
    intro pc ls st σ o h
    cases h) 96 0 _ _ _ _ h
theorem ok_P_prices {X : CXT} (hX : XC X) : SemOK X 4 191 sm_P_prices := by
  intro O av σ K o h
  unfold sm_P_prices at h
  split at h
  · obtain ⟨r, hf, h⟩ := Option.bind_eq_some_iff.mp h
    exact ⟨ovI r, fun ht => sp_of hX.1 (by decide) (List.mem_range.mpr (by decide)) (by decide +kernel) ht (Nat.le_of_ble_eq_true rfl) (s_P_prices hX _ _ _ _ hf), trivial, h⟩
  · cases h
noncomputable def b_P_areBits (v0 : Int32) (v1 : Int32) (s : Mem) : Option (Bool × Mem) :=
  cif (v0 < 0) (
    some (false, s)) (
    cif ((((1 : Int32)) <<< (v1 &&& 31)) ≤ v0) (
      some (false, s)) (
      some (true, s)))
noncomputable def f_P_areBits : Int32 → Int32 → Mem → Option (Bool × Mem) := Classical.choose (⟨b_P_areBits, rfl⟩ : ∃ f : Int32 → Int32 → Mem → Option (Bool × Mem), f = b_P_areBits)
theorem f_P_areBits_eq : f_P_areBits = b_P_areBits := Classical.choose_spec (⟨b_P_areBits, rfl⟩ : ∃ f : Int32 → Int32 → Mem → Option (Bool × Mem), f = b_P_areBits)
noncomputable def sm_P_areBits (O : Type) (av : List AV) (σ : Mem) (K : AV → Mem → Option O) : Option O := match av with
  | [.inl v0, .inl v1] => (f_P_areBits v0 v1 σ).bind fun r => K (.inl (b2i r.1)) r.2
  | _ => none
def c_P_areBits : List (List CE) := [[(0, .iload_n 0, 1, 0, 0, 0), (1, .ifCond .lt 14, 3, 15, 0, 0), (4, .iload_n 0, 1, 0, 0, 0), (5, .iconst 1, 1, 1, 0, 0), (6, .iload_n 1, 1, 0, 0, 0), (7, .ishl, 1, 0, 0, 0), (8, .if_icmp .ge 7, 3, 15, 0, 0), (11, .iconst 1, 1, 1, 0, 0), (12, .goto 4, 3, 16, 0, 0), (15, .iconst 0, 1, 0, 0, 0)], [(16, .ireturn, 1, 0, 0, 0)]]
set_option maxRecDepth 100000 in
theorem oc_P_areBits : okC 195 c_P_areBits = true := by decide +kernel
def cu_P_areBits : List (Nat × List Bool) := []
noncomputable def F_P_areBits (O : Type) (a : Nat) (av : List AV) (σ : Mem) (K : AV → Mem → Option O) : Option O := none
theorem fs_P_areBits {X : CXT} (hX : XC X) (O : Type) : FS X 1 (F_P_areBits O) := by
  intro a av σ K o h
  cases h
set_option maxRecDepth 100000 in
theorem s_P_areBits {X : CXT} (hX : XC X) : ∀ (v0 : Int32) (v1 : Int32) (s : Mem) (o : Bool × Mem), f_P_areBits v0 v1 s = some o → BSnd X 1 195 (ovZ o) 0 (entL [.inl v0, .inl v1]) [] s := by
  intro v0 v1 s o h
  rw [f_P_areBits_eq] at h
  exact evC (chs := c_P_areBits) (cuts := cu_P_areBits) (G := fun pc ls st σ => none) hX.2.1 hX.2.2 (F := F_P_areBits _) (fs_P_areBits hX _) (rt_Z rfl) oc_P_areBits (by
    intro pc ls st σ o h
    cases h) 84 0 _ _ _ _ h
theorem ok_P_areBits {X : CXT} (hX : XC X) : SemOK X 1 195 sm_P_areBits := by
  intro O av σ K o h
  unfold sm_P_areBits at h
  split at h
  · obtain ⟨r, hf, h⟩ := Option.bind_eq_some_iff.mp h
    exact ⟨ovZ r, fun ht => sp_of hX.1 (by decide) (List.mem_range.mpr (by decide)) (by decide +kernel) ht (Nat.le_of_ble_eq_true rfl) (s_P_areBits hX _ _ _ _ hf), trivial, h⟩
  · cases h
noncomputable def f_P_lamp_34 (k0 : Nat) (v1 : Int32) (v2 : Int32) (v3 : Int32) (v4 : Int32) (s : Mem) : Option (Bool × Mem) :=
  cif (v4 = 0) (
    lf (rB v4) s) (
    gd (inb v1 (lenC (k0 + 55))) <|
    let s1 : Mem := wI s (k0 + 55) (ix v1) v2
    gd (inb v1 (lenC (k0 + 56))) <|
    let s2 : Mem := wI s1 (k0 + 56) (ix v1) v3
    lf (rB v4) s2)
noncomputable def f_P_lamp_31 (k0 : Nat) (v1 : Int32) (v2 : Int32) (v3 : Int32) (s : Mem) : Option (Bool × Mem) :=
  f_P_lamp_34 k0 v1 v2 v3 ((0 : Int32)) s
noncomputable def b_P_lamp (k0 : Nat) (v1 : Int32) (v2 : Int32) (v3 : Int32) (s : Mem) : Option (Bool × Mem) :=
  (f_P_within v1 ((0 : Int32)) ((7 : Int32)) s).bind fun r1 =>
  cif ((b2i r1.1) = 0) (
    f_P_lamp_31 k0 v1 v2 v3 r1.2) (
    (f_P_within v2 ((0 : Int32)) ((5 : Int32)) r1.2).bind fun r2 =>
    cif ((b2i r2.1) = 0) (
      f_P_lamp_31 k0 v1 v2 v3 r2.2) (
      (f_P_areBits v3 v2 r2.2).bind fun r3 =>
      cif ((b2i r3.1) = 0) (
        f_P_lamp_31 k0 v1 v2 v3 r3.2) (
        f_P_lamp_34 k0 v1 v2 v3 ((1 : Int32)) r3.2)))
noncomputable def f_P_lamp : Nat → Int32 → Int32 → Int32 → Mem → Option (Bool × Mem) := Classical.choose (⟨b_P_lamp, rfl⟩ : ∃ f : Nat → Int32 → Int32 → Int32 → Mem → Option (Bool × Mem), f = b_P_lamp)
theorem f_P_lamp_eq : f_P_lamp = b_P_lamp := Classical.choose_spec (⟨b_P_lamp, rfl⟩ : ∃ f : Nat → Int32 → Int32 → Int32 → Mem → Option (Bool × Mem), f = b_P_lamp)
noncomputable def sm_P_lamp (O : Type) (av : List AV) (σ : Mem) (K : AV → Mem → Option O) : Option O := match av with
  | [.inr (.inr (11, k0)), .inl v1, .inl v2, .inl v3] => (f_P_lamp k0 v1 v2 v3 σ).bind fun r => K (.inl (b2i r.1)) r.2
  | _ => none
def c_P_lamp : List (List CE) := [[(0, .iload_n 1, 1, 0, 0, 0), (1, .iconst 0, 1, 0, 0, 0), (2, .bipush 7, 2, 7, 0, 0), (4, .invokestatic 80, 3, 17, 3, 1), (7, .ifCond .eq 24, 3, 31, 0, 0), (10, .iload_n 2, 1, 0, 0, 0), (11, .iconst 0, 1, 0, 0, 0), (12, .iconst 5, 1, 5, 0, 0), (13, .invokestatic 80, 3, 17, 3, 1)], [(16, .ifCond .eq 15, 3, 31, 0, 0), (19, .iload_n 3, 1, 0, 0, 0), (20, .iload_n 2, 1, 0, 0, 0), (21, .invokestatic 380, 3, 195, 2, 1), (24, .ifCond .eq 7, 3, 31, 0, 0), (27, .iconst 1, 1, 1, 0, 0), (28, .goto 4, 3, 32, 0, 0), (31, .iconst 0, 1, 0, 0, 0)], [(32, .istore 4, 2, 0, 0, 0), (34, .iload 4, 2, 0, 0, 0), (36, .ifCond .eq 29, 3, 65, 0, 0), (39, .aload_n 0, 1, 0, 0, 0), (40, .getfield 10, 3, 11, 0, 0), (43, .getfield 288, 3, 10, 2, 0), (46, .getfield 383, 3, 7, 6, 0)], [(49, .iload_n 1, 1, 0, 0, 0), (50, .iload_n 2, 1, 0, 0, 0), (51, .iastore, 1, 0, 0, 0), (52, .aload_n 0, 1, 0, 0, 0), (53, .getfield 10, 3, 11, 0, 0), (56, .getfield 288, 3, 10, 2, 0), (59, .getfield 386, 3, 7, 7, 0), (62, .iload_n 1, 1, 0, 0, 0), (63, .iload_n 3, 1, 0, 0, 0)], [(64, .iastore, 1, 0, 0, 0), (65, .iload 4, 2, 0, 0, 0), (67, .ireturn, 1, 0, 0, 0)]]
set_option maxRecDepth 100000 in
theorem oc_P_lamp : okC 194 c_P_lamp = true := by decide +kernel
def cu_P_lamp : List (Nat × List Bool) := [(34, [true, true, true, true, true]), (31, [true, true, true, true])]
noncomputable def F_P_lamp (O : Type) (a : Nat) (av : List AV) (σ : Mem) (K : AV → Mem → Option O) : Option O := if a = 17 then sm_P_within O av σ K else if a = 195 then sm_P_areBits O av σ K else none
theorem fs_P_lamp {X : CXT} (hX : XC X) (O : Type) : FS X 2 (F_P_lamp O) := by
  intro a av σ K o h
  unfold F_P_lamp at h
  rcases ite_s h with ⟨rfl, h⟩ | ⟨_, h⟩
  · obtain ⟨r, h1, h2, h3⟩ := ok_P_within hX _ _ _ _ _ h
    exact ⟨r, fun ht => ⟨1, by decide, h1 ht⟩, h2, h3⟩
  rcases ite_s h with ⟨rfl, h⟩ | ⟨_, h⟩
  · obtain ⟨r, h1, h2, h3⟩ := ok_P_areBits hX _ _ _ _ _ h
    exact ⟨r, fun ht => ⟨1, by decide, h1 ht⟩, h2, h3⟩
  cases h
def hd_P_lamp_34 {O : Type} (g : Nat → Int32 → Int32 → Int32 → Int32 → Mem → Option O) (ls : OL) (st : List AV) (σ : Mem) : Option O := match ls, st with
  | [some (.inr (.inr (11, k0))), some (.inl v1), some (.inl v2), some (.inl v3), some (.inl v4)], [] => g k0 v1 v2 v3 v4 σ
  | _, _ => none
theorem hs_P_lamp_34 {X : CXT} {g : Nat → Int32 → Int32 → Int32 → Int32 → Mem → Option (Bool × Mem)} (hg : ∀ (k0 : Nat) (v1 : Int32) (v2 : Int32) (v3 : Int32) (v4 : Int32) (s : Mem) (o : Bool × Mem), g k0 v1 v2 v3 v4 s = some o → BSnd X 2 194 (ovZ o) 34 [some (.inr (.inr (11, k0))), some (.inl v1), some (.inl v2), some (.inl v3), some (.inl v4)] [] s) : ∀ ls st σ o, hd_P_lamp_34 g ls st σ = some o → BSnd X 2 194 (ovZ o) 34 ls st σ := by
  intro ls st σ o h
  unfold hd_P_lamp_34 at h
  split at h
  · exact hg _ _ _ _ _ _ _ h
  · cases h
def hd_P_lamp_31 {O : Type} (g : Nat → Int32 → Int32 → Int32 → Mem → Option O) (ls : OL) (st : List AV) (σ : Mem) : Option O := match ls, st with
  | [some (.inr (.inr (11, k0))), some (.inl v1), some (.inl v2), some (.inl v3)], [] => g k0 v1 v2 v3 σ
  | _, _ => none
theorem hs_P_lamp_31 {X : CXT} {g : Nat → Int32 → Int32 → Int32 → Mem → Option (Bool × Mem)} (hg : ∀ (k0 : Nat) (v1 : Int32) (v2 : Int32) (v3 : Int32) (s : Mem) (o : Bool × Mem), g k0 v1 v2 v3 s = some o → BSnd X 2 194 (ovZ o) 31 [some (.inr (.inr (11, k0))), some (.inl v1), some (.inl v2), some (.inl v3)] [] s) : ∀ ls st σ o, hd_P_lamp_31 g ls st σ = some o → BSnd X 2 194 (ovZ o) 31 ls st σ := by
  intro ls st σ o h
  unfold hd_P_lamp_31 at h
  split at h
  · exact hg _ _ _ _ _ _ h
  · cases h
set_option maxRecDepth 100000 in
theorem s_P_lamp_34 {X : CXT} (hX : XC X) : ∀ (k0 : Nat) (v1 : Int32) (v2 : Int32) (v3 : Int32) (v4 : Int32) (s : Mem) (o : Bool × Mem), f_P_lamp_34 k0 v1 v2 v3 v4 s = some o → BSnd X 2 194 (ovZ o) 34 [some (.inr (.inr (11, k0))), some (.inl v1), some (.inl v2), some (.inl v3), some (.inl v4)] [] s := by
  intro k0 v1 v2 v3 v4 s o h
  exact evC (chs := c_P_lamp) (cuts := cu_P_lamp) (G := fun pc ls st σ => none) hX.2.1 hX.2.2 (F := F_P_lamp _) (fs_P_lamp hX _) (rt_Z rfl) oc_P_lamp (by
    intro pc ls st σ o h
    cases h) 184 34 _ _ _ _ h
set_option maxRecDepth 100000 in
theorem s_P_lamp_31 {X : CXT} (hX : XC X) : ∀ (k0 : Nat) (v1 : Int32) (v2 : Int32) (v3 : Int32) (s : Mem) (o : Bool × Mem), f_P_lamp_31 k0 v1 v2 v3 s = some o → BSnd X 2 194 (ovZ o) 31 [some (.inr (.inr (11, k0))), some (.inl v1), some (.inl v2), some (.inl v3)] [] s := by
  intro k0 v1 v2 v3 s o h
  exact evC (chs := c_P_lamp) (cuts := cu_P_lamp) (G := fun pc ls st σ => if pc = 34 then hd_P_lamp_34 (fun k0 v1 v2 v3 v4 s => f_P_lamp_34 k0 v1 v2 v3 v4 s) ls st σ else none) hX.2.1 hX.2.2 (F := F_P_lamp _) (fs_P_lamp hX _) (rt_Z rfl) oc_P_lamp (by
    intro pc ls st σ o h
    rcases ite_s h with ⟨rfl, h⟩ | ⟨_, h⟩
    · exact hs_P_lamp_34 (s_P_lamp_34 hX) _ _ _ _ h
    cases h) 184 31 _ _ _ _ h
set_option maxRecDepth 100000 in
theorem s_P_lamp {X : CXT} (hX : XC X) : ∀ (k0 : Nat) (v1 : Int32) (v2 : Int32) (v3 : Int32) (s : Mem) (o : Bool × Mem), f_P_lamp k0 v1 v2 v3 s = some o → BSnd X 2 194 (ovZ o) 0 (entL [.inr (.inr (11, k0)), .inl v1, .inl v2, .inl v3]) [] s := by
  intro k0 v1 v2 v3 s o h
  rw [f_P_lamp_eq] at h
  exact evC (chs := c_P_lamp) (cuts := cu_P_lamp) (G := fun pc ls st σ => if pc = 34 then hd_P_lamp_34 (fun k0 v1 v2 v3 v4 s => f_P_lamp_34 k0 v1 v2 v3 v4 s) ls st σ else if pc = 31 then hd_P_lamp_31 (fun k0 v1 v2 v3 s => f_P_lamp_31 k0 v1 v2 v3 s) ls st σ else none) hX.2.1 hX.2.2 (F := F_P_lamp _) (fs_P_lamp hX _) (rt_Z rfl) oc_P_lamp (by
    intro pc ls st σ o h
    rcases ite_s h with ⟨rfl, h⟩ | ⟨_, h⟩
    · exact hs_P_lamp_34 (s_P_lamp_34 hX) _ _ _ _ h
    rcases ite_s h with ⟨rfl, h⟩ | ⟨_, h⟩
    · exact hs_P_lamp_31 (s_P_lamp_31 hX) _ _ _ _ h
    cases h) 184 0 _ _ _ _ h
theorem ok_P_lamp {X : CXT} (hX : XC X) : SemOK X 2 194 sm_P_lamp := by
  intro O av σ K o h
  unfold sm_P_lamp at h
  split at h
  · obtain ⟨r, hf, h⟩ := Option.bind_eq_some_iff.mp h
    exact ⟨ovZ r, fun ht => sp_of hX.1 (by decide) (List.mem_range.mpr (by decide)) (by decide +kernel) ht (Nat.le_of_ble_eq_true rfl) (s_P_lamp hX _ _ _ _ _ _ hf), trivial, h⟩
  · cases h
noncomputable def f_Th_prefixCouples_14 (K83 : Nat → Int32 → Int32 → Mem → Option (Int32 × Mem)) : Nat → Nat → Int32 → Int32 → Int32 → Mem → Option (Int32 × Mem)
  | 0, _, _, _, _, _ => none
  | n + 1, k0, v1, v2, v3, s =>
    cif (((8 : Int32)) ≤ v3) (
      K83 k0 v1 v2 s) (
      gd (inb v2 (lenC (k0 + 25))) <|
      gd (inb v3 (lenC (k0 + 25))) <|
      let x1 : Int32 := imn (rI s (k0 + 25) (ix v2)) (rI s (k0 + 25) (ix v3))
      let x2 : Int32 := (((1 : Int32)) <<< (x1 &&& 31)) - ((1 : Int32))
      cif (x1 ≤ 0) (
        let x3 : Int32 := v1 + ((0 : Int32))
        f_Th_prefixCouples_14 K83 n k0 x3 v2 (v3 + (1 : Int32)) s) (
        gd (inb v2 (lenC (k0 + 26))) <|
        gd (inb v3 (lenC (k0 + 26))) <|
        cif ((((rI s (k0 + 26) (ix v2)) ^^^ (rI s (k0 + 26) (ix v3))) &&& x2) = 0) (
          let x4 : Int32 := v1 + ((1 : Int32))
          f_Th_prefixCouples_14 K83 n k0 x4 v2 (v3 + (1 : Int32)) s) (
          let x5 : Int32 := v1 + ((0 : Int32))
          f_Th_prefixCouples_14 K83 n k0 x5 v2 (v3 + (1 : Int32)) s)))
noncomputable def f_Th_prefixCouples_83 (KH : Nat → Int32 → Int32 → Mem → Option (Int32 × Mem)) (k0 : Nat) (v1 : Int32) (v2 : Int32) (s : Mem) : Option (Int32 × Mem) :=
  KH k0 v1 (v2 + (1 : Int32)) s
noncomputable def f_Th_prefixCouples_4 : Nat → Nat → Int32 → Int32 → Mem → Option (Int32 × Mem)
  | 0, _, _, _, _ => none
  | n + 1, k0, v1, v2, s =>
    cif (((8 : Int32)) ≤ v2) (
      some (v1, s)) (
      let x1 : Int32 := v2 + ((1 : Int32))
      f_Th_prefixCouples_14 (fun k0 v1 v2 s => f_Th_prefixCouples_83 (fun k0 v1 v2 s => f_Th_prefixCouples_4 n k0 v1 v2 s) k0 v1 v2 s) FU k0 v1 v2 x1 s)
noncomputable def b_Th_prefixCouples (k0 : Nat) (s : Mem) : Option (Int32 × Mem) :=
  f_Th_prefixCouples_4 FU k0 ((0 : Int32)) ((0 : Int32)) s
noncomputable def f_Th_prefixCouples : Nat → Mem → Option (Int32 × Mem) := Classical.choose (⟨b_Th_prefixCouples, rfl⟩ : ∃ f : Nat → Mem → Option (Int32 × Mem), f = b_Th_prefixCouples)
theorem f_Th_prefixCouples_eq : f_Th_prefixCouples = b_Th_prefixCouples := Classical.choose_spec (⟨b_Th_prefixCouples, rfl⟩ : ∃ f : Nat → Mem → Option (Int32 × Mem), f = b_Th_prefixCouples)
noncomputable def sm_Th_prefixCouples (O : Type) (av : List AV) (σ : Mem) (K : AV → Mem → Option O) : Option O := match av with
  | [.inr (.inr (7, k0))] => (f_Th_prefixCouples k0 σ).bind fun r => K (.inl r.1) r.2
  | _ => none
def c_Th_prefixCouples : List (List CE) := [[(0, .iconst 0, 1, 0, 0, 0), (1, .istore_n 1, 1, 0, 0, 0), (2, .iconst 0, 1, 0, 0, 0), (3, .istore_n 2, 1, 0, 0, 0), (4, .iload_n 2, 1, 0, 0, 0), (5, .bipush 8, 2, 8, 0, 0), (7, .if_icmp .ge 82, 3, 89, 0, 0), (10, .iload_n 2, 1, 0, 0, 0), (11, .iconst 1, 1, 1, 0, 0), (12, .iadd, 1, 0, 0, 0), (13, .istore_n 3, 1, 0, 0, 0), (14, .iload_n 3, 1, 0, 0, 0), (15, .bipush 8, 2, 8, 0, 0)], [(17, .if_icmp .ge 66, 3, 83, 0, 0), (20, .aload_n 0, 1, 0, 0, 0), (21, .getfield 35, 3, 7, 6, 0), (24, .iload_n 2, 1, 0, 0, 0), (25, .iaload, 1, 0, 0, 0), (26, .aload_n 0, 1, 0, 0, 0), (27, .getfield 35, 3, 7, 6, 0), (30, .iload_n 3, 1, 0, 0, 0), (31, .iaload, 1, 0, 0, 0)], [(32, .invokestatic 85, 3, 32, 2, 3), (35, .istore 4, 2, 0, 0, 0), (37, .iconst 1, 1, 1, 0, 0), (38, .iload 4, 2, 0, 0, 0), (40, .ishl, 1, 0, 0, 0), (41, .iconst 1, 1, 1, 0, 0), (42, .isub, 1, 0, 0, 0), (43, .istore 5, 2, 0, 0, 0), (45, .iload_n 1, 1, 0, 0, 0), (46, .iload 4, 2, 0, 0, 0)], [(48, .ifCond .le 26, 3, 74, 0, 0), (51, .aload_n 0, 1, 0, 0, 0), (52, .getfield 39, 3, 7, 7, 0), (55, .iload_n 2, 1, 0, 0, 0), (56, .iaload, 1, 0, 0, 0), (57, .aload_n 0, 1, 0, 0, 0), (58, .getfield 39, 3, 7, 7, 0), (61, .iload_n 3, 1, 0, 0, 0), (62, .iaload, 1, 0, 0, 0), (63, .ixor, 1, 0, 0, 0)], [(64, .iload 5, 2, 0, 0, 0), (66, .iand, 1, 0, 0, 0), (67, .ifCond .ne 7, 3, 74, 0, 0), (70, .iconst 1, 1, 1, 0, 0), (71, .goto 4, 3, 75, 0, 0), (74, .iconst 0, 1, 0, 0, 0), (75, .iadd, 1, 0, 0, 0), (76, .istore_n 1, 1, 0, 0, 0), (77, .iinc 3 1, 3, 1, 0, 0)], [(80, .goto (-66), 3, 14, 0, 0), (83, .iinc 2 1, 3, 1, 0, 0), (86, .goto (-82), 3, 4, 0, 0), (89, .iload_n 1, 1, 0, 0, 0), (90, .ireturn, 1, 0, 0, 0)]]
set_option maxRecDepth 100000 in
theorem oc_Th_prefixCouples : okC 197 c_Th_prefixCouples = true := by decide +kernel
def cu_Th_prefixCouples : List (Nat × List Bool) := [(14, [true, true, true, true]), (83, [true, true, true]), (4, [true, true, true])]
noncomputable def F_Th_prefixCouples (O : Type) (a : Nat) (av : List AV) (σ : Mem) (K : AV → Mem → Option O) : Option O := none
theorem fs_Th_prefixCouples {X : CXT} (hX : XC X) (O : Type) : FS X 1 (F_Th_prefixCouples O) := by
  intro a av σ K o h
  cases h
def hd_Th_prefixCouples_14 {O : Type} (g : Nat → Int32 → Int32 → Int32 → Mem → Option O) (ls : OL) (st : List AV) (σ : Mem) : Option O := match ls, st with
  | [some (.inr (.inr (7, k0))), some (.inl v1), some (.inl v2), some (.inl v3)], [] => g k0 v1 v2 v3 σ
  | _, _ => none
theorem hs_Th_prefixCouples_14 {X : CXT} {g : Nat → Int32 → Int32 → Int32 → Mem → Option (Int32 × Mem)} (hg : ∀ (k0 : Nat) (v1 : Int32) (v2 : Int32) (v3 : Int32) (s : Mem) (o : Int32 × Mem), g k0 v1 v2 v3 s = some o → BSnd X 1 197 (ovI o) 14 [some (.inr (.inr (7, k0))), some (.inl v1), some (.inl v2), some (.inl v3)] [] s) : ∀ ls st σ o, hd_Th_prefixCouples_14 g ls st σ = some o → BSnd X 1 197 (ovI o) 14 ls st σ := by
  intro ls st σ o h
  unfold hd_Th_prefixCouples_14 at h
  split at h
  · exact hg _ _ _ _ _ _ h
  · cases h
def hd_Th_prefixCouples_83 {O : Type} (g : Nat → Int32 → Int32 → Mem → Option O) (ls : OL) (st : List AV) (σ : Mem) : Option O := match ls, st with
  | [some (.inr (.inr (7, k0))), some (.inl v1), some (.inl v2)], [] => g k0 v1 v2 σ
  | _, _ => none
theorem hs_Th_prefixCouples_83 {X : CXT} {g : Nat → Int32 → Int32 → Mem → Option (Int32 × Mem)} (hg : ∀ (k0 : Nat) (v1 : Int32) (v2 : Int32) (s : Mem) (o : Int32 × Mem), g k0 v1 v2 s = some o → BSnd X 1 197 (ovI o) 83 [some (.inr (.inr (7, k0))), some (.inl v1), some (.inl v2)] [] s) : ∀ ls st σ o, hd_Th_prefixCouples_83 g ls st σ = some o → BSnd X 1 197 (ovI o) 83 ls st σ := by
  intro ls st σ o h
  unfold hd_Th_prefixCouples_83 at h
  split at h
  · exact hg _ _ _ _ _ h
  · cases h
def hd_Th_prefixCouples_4 {O : Type} (g : Nat → Int32 → Int32 → Mem → Option O) (ls : OL) (st : List AV) (σ : Mem) : Option O := match ls, st with
  | [some (.inr (.inr (7, k0))), some (.inl v1), some (.inl v2)], [] => g k0 v1 v2 σ
  | _, _ => none
theorem hs_Th_prefixCouples_4 {X : CXT} {g : Nat → Int32 → Int32 → Mem → Option (Int32 × Mem)} (hg : ∀ (k0 : Nat) (v1 : Int32) (v2 : Int32) (s : Mem) (o : Int32 × Mem), g k0 v1 v2 s = some o → BSnd X 1 197 (ovI o) 4 [some (.inr (.inr (7, k0))), some (.inl v1), some (.inl v2)] [] s) : ∀ ls st σ o, hd_Th_prefixCouples_4 g ls st σ = some o → BSnd X 1 197 (ovI o) 4 ls st σ := by
  intro ls st σ o h
  unfold hd_Th_prefixCouples_4 at h
  split at h
  · exact hg _ _ _ _ _ h
  · cases h
set_option maxRecDepth 100000 in
theorem s_Th_prefixCouples_14 {X : CXT} (hX : XC X) {K83 : Nat → Int32 → Int32 → Mem → Option (Int32 × Mem)} (hK83 : ∀ (k0 : Nat) (v1 : Int32) (v2 : Int32) (s : Mem) (o : Int32 × Mem), K83 k0 v1 v2 s = some o → BSnd X 1 197 (ovI o) 83 [some (.inr (.inr (7, k0))), some (.inl v1), some (.inl v2)] [] s) : ∀ n : Nat, ∀ (k0 : Nat) (v1 : Int32) (v2 : Int32) (v3 : Int32) (s : Mem) (o : Int32 × Mem), f_Th_prefixCouples_14 K83 n k0 v1 v2 v3 s = some o → BSnd X 1 197 (ovI o) 14 [some (.inr (.inr (7, k0))), some (.inl v1), some (.inl v2), some (.inl v3)] [] s := by
  intro n
  induction n with
  | zero => intro k0 v1 v2 v3 s o h; cases h
  | succ n ih =>
    intro k0 v1 v2 v3 s o h
    exact evC (chs := c_Th_prefixCouples) (cuts := cu_Th_prefixCouples) (G := fun pc ls st σ => if pc = 14 then hd_Th_prefixCouples_14 (fun k0 v1 v2 v3 s => f_Th_prefixCouples_14 K83 n k0 v1 v2 v3 s) ls st σ else if pc = 83 then hd_Th_prefixCouples_83 (fun k0 v1 v2 s => K83 k0 v1 v2 s) ls st σ else none) hX.2.1 hX.2.2 (F := F_Th_prefixCouples _) (fs_Th_prefixCouples hX _) (rt_I rfl) oc_Th_prefixCouples (by
    intro pc ls st σ o h
    rcases ite_s h with ⟨rfl, h⟩ | ⟨_, h⟩
    · exact hs_Th_prefixCouples_14 ih _ _ _ _ h
    rcases ite_s h with ⟨rfl, h⟩ | ⟨_, h⟩
    · exact hs_Th_prefixCouples_83 hK83 _ _ _ _ h
    cases h) 264 14 _ _ _ _ h
set_option maxRecDepth 100000 in
theorem s_Th_prefixCouples_83 {X : CXT} (hX : XC X) {KH : Nat → Int32 → Int32 → Mem → Option (Int32 × Mem)} (hKH : ∀ (k0 : Nat) (v1 : Int32) (v2 : Int32) (s : Mem) (o : Int32 × Mem), KH k0 v1 v2 s = some o → BSnd X 1 197 (ovI o) 4 [some (.inr (.inr (7, k0))), some (.inl v1), some (.inl v2)] [] s) : ∀ (k0 : Nat) (v1 : Int32) (v2 : Int32) (s : Mem) (o : Int32 × Mem), f_Th_prefixCouples_83 KH k0 v1 v2 s = some o → BSnd X 1 197 (ovI o) 83 [some (.inr (.inr (7, k0))), some (.inl v1), some (.inl v2)] [] s := by
  intro k0 v1 v2 s o h
  exact evC (chs := c_Th_prefixCouples) (cuts := cu_Th_prefixCouples) (G := fun pc ls st σ => if pc = 4 then hd_Th_prefixCouples_4 (fun k0 v1 v2 s => KH k0 v1 v2 s) ls st σ else none) hX.2.1 hX.2.2 (F := F_Th_prefixCouples _) (fs_Th_prefixCouples hX _) (rt_I rfl) oc_Th_prefixCouples (by
    intro pc ls st σ o h
    rcases ite_s h with ⟨rfl, h⟩ | ⟨_, h⟩
    · exact hs_Th_prefixCouples_4 hKH _ _ _ _ h
    cases h) 264 83 _ _ _ _ h
set_option maxRecDepth 100000 in
theorem s_Th_prefixCouples_4 {X : CXT} (hX : XC X) : ∀ n : Nat, ∀ (k0 : Nat) (v1 : Int32) (v2 : Int32) (s : Mem) (o : Int32 × Mem), f_Th_prefixCouples_4 n k0 v1 v2 s = some o → BSnd X 1 197 (ovI o) 4 [some (.inr (.inr (7, k0))), some (.inl v1), some (.inl v2)] [] s := by
  intro n
  induction n with
  | zero => intro k0 v1 v2 s o h; cases h
  | succ n ih =>
    intro k0 v1 v2 s o h
    exact evC (chs := c_Th_prefixCouples) (cuts := cu_Th_prefixCouples) (G := fun pc ls st σ => if pc = 14 then hd_Th_prefixCouples_14 (fun k0 v1 v2 v3 s => f_Th_prefixCouples_14 (fun k0 v1 v2 s => f_Th_prefixCouples_83 (fun k0 v1 v2 s => f_Th_prefixCouples_4 n k0 v1 v2 s) k0 v1 v2 s) FU k0 v1 v2 v3 s) ls st σ else if pc = 83 then hd_Th_prefixCouples_83 (fun k0 v1 v2 s => f_Th_prefixCouples_83 (fun k0 v1 v2 s => f_Th_prefixCouples_4 n k0 v1 v2 s) k0 v1 v2 s) ls st σ else if pc = 4 then hd_Th_prefixCouples_4 (fun k0 v1 v2 s => f_Th_prefixCouples_4 n k0 v1 v2 s) ls st σ else none) hX.2.1 hX.2.2 (F := F_Th_prefixCouples _) (fs_Th_prefixCouples hX _) (rt_I rfl) oc_Th_prefixCouples (by
    intro pc ls st σ o h
    rcases ite_s h with ⟨rfl, h⟩ | ⟨_, h⟩
    · exact hs_Th_prefixCouples_14 (s_Th_prefixCouples_14 hX (s_Th_prefixCouples_83 hX ih) FU) _ _ _ _ h
    rcases ite_s h with ⟨rfl, h⟩ | ⟨_, h⟩
    · exact hs_Th_prefixCouples_83 (s_Th_prefixCouples_83 hX ih) _ _ _ _ h
    rcases ite_s h with ⟨rfl, h⟩ | ⟨_, h⟩
    · exact hs_Th_prefixCouples_4 ih _ _ _ _ h
    cases h) 264 4 _ _ _ _ h
set_option maxRecDepth 100000 in
theorem s_Th_prefixCouples {X : CXT} (hX : XC X) : ∀ (k0 : Nat) (s : Mem) (o : Int32 × Mem), f_Th_prefixCouples k0 s = some o → BSnd X 1 197 (ovI o) 0 (entL [.inr (.inr (7, k0))]) [] s := by
  intro k0 s o h
  rw [f_Th_prefixCouples_eq] at h
  exact evC (chs := c_Th_prefixCouples) (cuts := cu_Th_prefixCouples) (G := fun pc ls st σ => if pc = 4 then hd_Th_prefixCouples_4 (fun k0 v1 v2 s => f_Th_prefixCouples_4 FU k0 v1 v2 s) ls st σ else none) hX.2.1 hX.2.2 (F := F_Th_prefixCouples _) (fs_Th_prefixCouples hX _) (rt_I rfl) oc_Th_prefixCouples (by
    intro pc ls st σ o h
    rcases ite_s h with ⟨rfl, h⟩ | ⟨_, h⟩
    · exact hs_Th_prefixCouples_4 (s_Th_prefixCouples_4 hX FU) _ _ _ _ h
    cases h) 264 0 _ _ _ _ h
theorem ok_Th_prefixCouples {X : CXT} (hX : XC X) : SemOK X 1 197 sm_Th_prefixCouples := by
  intro O av σ K o h
  unfold sm_Th_prefixCouples at h
  split at h
  · obtain ⟨r, hf, h⟩ := Option.bind_eq_some_iff.mp h
    exact ⟨ovI r, fun ht => sp_of hX.1 (by decide) (List.mem_range.mpr (by decide)) (by decide +kernel) ht (Nat.le_of_ble_eq_true rfl) (s_Th_prefixCouples hX _ _ _ hf), trivial, h⟩
  · cases h
noncomputable def b_Th_isWordAt (k0 : Nat) (v1 : Int32) (v2 : Int32) (v3 : Int32) (s : Mem) : Option (Bool × Mem) :=
  gd (inb v1 (lenC (k0 + 25))) <|
  let x1 : Int32 := (((1 : Int32)) <<< ((rI s (k0 + 25) (ix v1)) &&& 31)) - ((1 : Int32))
  gd (inb v1 (lenC (k0 + 26))) <|
  cif (((v2 >>> (v3 &&& 31)) &&& x1) = (rI s (k0 + 26) (ix v1))) (
    some (true, s)) (
    some (false, s))
noncomputable def f_Th_isWordAt : Nat → Int32 → Int32 → Int32 → Mem → Option (Bool × Mem) := Classical.choose (⟨b_Th_isWordAt, rfl⟩ : ∃ f : Nat → Int32 → Int32 → Int32 → Mem → Option (Bool × Mem), f = b_Th_isWordAt)
theorem f_Th_isWordAt_eq : f_Th_isWordAt = b_Th_isWordAt := Classical.choose_spec (⟨b_Th_isWordAt, rfl⟩ : ∃ f : Nat → Int32 → Int32 → Int32 → Mem → Option (Bool × Mem), f = b_Th_isWordAt)
noncomputable def sm_Th_isWordAt (O : Type) (av : List AV) (σ : Mem) (K : AV → Mem → Option O) : Option O := match av with
  | [.inr (.inr (7, k0)), .inl v1, .inl v2, .inl v3] => (f_Th_isWordAt k0 v1 v2 v3 σ).bind fun r => K (.inl (b2i r.1)) r.2
  | _ => none
def c_Th_isWordAt : List (List CE) := [[(0, .iconst 1, 1, 1, 0, 0), (1, .aload_n 0, 1, 0, 0, 0), (2, .getfield 35, 3, 7, 6, 0), (5, .iload_n 1, 1, 0, 0, 0), (6, .iaload, 1, 0, 0, 0), (7, .ishl, 1, 0, 0, 0), (8, .iconst 1, 1, 1, 0, 0), (9, .isub, 1, 0, 0, 0), (10, .istore 4, 2, 0, 0, 0), (12, .iload_n 2, 1, 0, 0, 0), (13, .iload_n 3, 1, 0, 0, 0), (14, .ishr, 1, 0, 0, 0), (15, .iload 4, 2, 0, 0, 0)], [(17, .iand, 1, 0, 0, 0), (18, .aload_n 0, 1, 0, 0, 0), (19, .getfield 39, 3, 7, 7, 0), (22, .iload_n 1, 1, 0, 0, 0), (23, .iaload, 1, 0, 0, 0), (24, .if_icmp .ne 7, 3, 31, 0, 0), (27, .iconst 1, 1, 1, 0, 0), (28, .goto 4, 3, 32, 0, 0), (31, .iconst 0, 1, 0, 0, 0)], [(32, .ireturn, 1, 0, 0, 0)]]
set_option maxRecDepth 100000 in
theorem oc_Th_isWordAt : okC 199 c_Th_isWordAt = true := by decide +kernel
def cu_Th_isWordAt : List (Nat × List Bool) := []
noncomputable def F_Th_isWordAt (O : Type) (a : Nat) (av : List AV) (σ : Mem) (K : AV → Mem → Option O) : Option O := none
theorem fs_Th_isWordAt {X : CXT} (hX : XC X) (O : Type) : FS X 1 (F_Th_isWordAt O) := by
  intro a av σ K o h
  cases h
set_option maxRecDepth 100000 in
theorem s_Th_isWordAt {X : CXT} (hX : XC X) : ∀ (k0 : Nat) (v1 : Int32) (v2 : Int32) (v3 : Int32) (s : Mem) (o : Bool × Mem), f_Th_isWordAt k0 v1 v2 v3 s = some o → BSnd X 1 199 (ovZ o) 0 (entL [.inr (.inr (7, k0)), .inl v1, .inl v2, .inl v3]) [] s := by
  intro k0 v1 v2 v3 s o h
  rw [f_Th_isWordAt_eq] at h
  exact evC (chs := c_Th_isWordAt) (cuts := cu_Th_isWordAt) (G := fun pc ls st σ => none) hX.2.1 hX.2.2 (F := F_Th_isWordAt _) (fs_Th_isWordAt hX _) (rt_Z rfl) oc_Th_isWordAt (by
    intro pc ls st σ o h
    cases h) 132 0 _ _ _ _ h
theorem ok_Th_isWordAt {X : CXT} (hX : XC X) : SemOK X 1 199 sm_Th_isWordAt := by
  intro O av σ K o h
  unfold sm_Th_isWordAt at h
  split at h
  · obtain ⟨r, hf, h⟩ := Option.bind_eq_some_iff.mp h
    exact ⟨ovZ r, fun ht => sp_of hX.1 (by decide) (List.mem_range.mpr (by decide)) (by decide +kernel) ht (Nat.le_of_ble_eq_true rfl) (s_Th_isWordAt hX _ _ _ _ _ _ hf), trivial, h⟩
  · cases h
noncomputable def f_Th_readings_82 (KH : Nat → Int32 → Int32 → Int32 → Int32 → Mem → Option (Int32 × Mem)) (K113 : Nat → Int32 → Int32 → Int32 → Mem → Option (Int32 × Mem)) (k0 : Nat) (v1 : Int32) (v2 : Int32) (v3 : Int32) (v4 : Int32) (v5 : Int32) (v6 : Int32) (s : Mem) : Option (Int32 × Mem) :=
  gd (inb v3 (lenC (k0 + 28))) <|
  cif (v6 = 0) (
    gd (inb v3 (lenC (k0 + 28))) <|
    let s1 : Mem := wI s (k0 + 28) (ix v3) ((rI s (k0 + 28) (ix v3)) + ((0 : Int32)))
    KH k0 v1 v2 v3 (v4 + (1 : Int32)) s1) (
    gd (inb v5 (lenC (k0 + 28))) <|
    gd (inb v3 (lenC (k0 + 28))) <|
    let s2 : Mem := wI s (k0 + 28) (ix v3) ((rI s (k0 + 28) (ix v3)) + (rI s (k0 + 28) (ix v5)))
    KH k0 v1 v2 v3 (v4 + (1 : Int32)) s2)
noncomputable def f_Th_readings_79 (KH : Nat → Int32 → Int32 → Int32 → Int32 → Mem → Option (Int32 × Mem)) (K113 : Nat → Int32 → Int32 → Int32 → Mem → Option (Int32 × Mem)) (k0 : Nat) (v1 : Int32) (v2 : Int32) (v3 : Int32) (v4 : Int32) (v5 : Int32) (s : Mem) : Option (Int32 × Mem) :=
  f_Th_readings_82 (KH) K113 k0 v1 v2 v3 v4 v5 ((0 : Int32)) s
noncomputable def f_Th_readings_30 (K113 : Nat → Int32 → Int32 → Int32 → Mem → Option (Int32 × Mem)) : Nat → Nat → Int32 → Int32 → Int32 → Int32 → Mem → Option (Int32 × Mem)
  | 0, _, _, _, _, _, _ => none
  | n + 1, k0, v1, v2, v3, v4, s =>
    cif (((8 : Int32)) ≤ v4) (
      K113 k0 v1 v2 v3 s) (
      gd (inb v4 (lenC (k0 + 25))) <|
      let x1 : Int32 := v3 - (rI s (k0 + 25) (ix v4))
      gd (inb v4 (lenC (k0 + 25))) <|
      cif ((rI s (k0 + 25) (ix v4)) ≤ 0) (
        f_Th_readings_79 (fun k0 v1 v2 v3 v4 s => f_Th_readings_30 K113 n k0 v1 v2 v3 v4 s) K113 k0 v1 v2 v3 v4 x1 s) (
        cif (x1 < 0) (
          f_Th_readings_79 (fun k0 v1 v2 v3 v4 s => f_Th_readings_30 K113 n k0 v1 v2 v3 v4 s) K113 k0 v1 v2 v3 v4 x1 s) (
          (f_Th_isWordAt k0 v4 v2 x1 s).bind fun r2 =>
          cif ((b2i r2.1) = 0) (
            f_Th_readings_79 (fun k0 v1 v2 v3 v4 s => f_Th_readings_30 K113 n k0 v1 v2 v3 v4 s) K113 k0 v1 v2 v3 v4 x1 r2.2) (
            f_Th_readings_82 (fun k0 v1 v2 v3 v4 s => f_Th_readings_30 K113 n k0 v1 v2 v3 v4 s) K113 k0 v1 v2 v3 v4 x1 ((1 : Int32)) r2.2))))
noncomputable def f_Th_readings_113 (KH : Nat → Int32 → Int32 → Int32 → Mem → Option (Int32 × Mem)) (K119 : Nat → Int32 → Mem → Option (Int32 × Mem)) (k0 : Nat) (v1 : Int32) (v2 : Int32) (v3 : Int32) (s : Mem) : Option (Int32 × Mem) :=
  KH k0 v1 v2 (v3 + (1 : Int32)) s
noncomputable def f_Th_readings_9 (K119 : Nat → Int32 → Mem → Option (Int32 × Mem)) : Nat → Nat → Int32 → Int32 → Int32 → Mem → Option (Int32 × Mem)
  | 0, _, _, _, _, _ => none
  | n + 1, k0, v1, v2, v3, s =>
    cif (v1 < v3) (
      K119 k0 v1 s) (
      cif (((10 : Int32)) < v3) (
        K119 k0 v1 s) (
        gd (inb v3 (lenC (k0 + 28))) <|
        let s1 : Mem := wI s (k0 + 28) (ix v3) ((0 : Int32))
        f_Th_readings_30 (fun k0 v1 v2 v3 s => f_Th_readings_113 (fun k0 v1 v2 v3 s => f_Th_readings_9 K119 n k0 v1 v2 v3 s) K119 k0 v1 v2 v3 s) FU k0 v1 v2 v3 ((0 : Int32)) s1))
noncomputable def f_Th_readings_119 (k0 : Nat) (v1 : Int32) (s : Mem) : Option (Int32 × Mem) :=
  (f_P_within v1 ((0 : Int32)) ((10 : Int32)) s).bind fun r1 =>
  cif ((b2i r1.1) = 0) (
    some ((0 : Int32), r1.2)) (
    gd (inb v1 (lenC (k0 + 28))) <|
    some (rI r1.2 (k0 + 28) (ix v1), r1.2))
noncomputable def b_Th_readings (k0 : Nat) (v1 : Int32) (v2 : Int32) (s : Mem) : Option (Int32 × Mem) :=
  gd (inb ((0 : Int32)) (lenC (k0 + 28))) <|
  let s1 : Mem := wI s (k0 + 28) (ix ((0 : Int32))) ((1 : Int32))
  f_Th_readings_9 (fun k0 v1 s => f_Th_readings_119 k0 v1 s) FU k0 v1 v2 ((1 : Int32)) s1
noncomputable def f_Th_readings : Nat → Int32 → Int32 → Mem → Option (Int32 × Mem) := Classical.choose (⟨b_Th_readings, rfl⟩ : ∃ f : Nat → Int32 → Int32 → Mem → Option (Int32 × Mem), f = b_Th_readings)
theorem f_Th_readings_eq : f_Th_readings = b_Th_readings := Classical.choose_spec (⟨b_Th_readings, rfl⟩ : ∃ f : Nat → Int32 → Int32 → Mem → Option (Int32 × Mem), f = b_Th_readings)
noncomputable def sm_Th_readings (O : Type) (av : List AV) (σ : Mem) (K : AV → Mem → Option O) : Option O := match av with
  | [.inr (.inr (7, k0)), .inl v1, .inl v2] => (f_Th_readings k0 v1 v2 σ).bind fun r => K (.inl r.1) r.2
  | _ => none
def c_Th_readings : List (List CE) := [[(0, .aload_n 0, 1, 0, 0, 0), (1, .getfield 45, 3, 7, 9, 0), (4, .iconst 0, 1, 0, 0, 0), (5, .iconst 1, 1, 1, 0, 0), (6, .iastore, 1, 0, 0, 0), (7, .iconst 1, 1, 1, 0, 0), (8, .istore_n 3, 1, 0, 0, 0), (9, .iload_n 3, 1, 0, 0, 0), (10, .iload_n 1, 1, 0, 0, 0), (11, .if_icmp .gt 108, 3, 119, 0, 0), (14, .iload_n 3, 1, 0, 0, 0), (15, .bipush 10, 2, 10, 0, 0)], [(17, .if_icmp .gt 102, 3, 119, 0, 0), (20, .aload_n 0, 1, 0, 0, 0), (21, .getfield 45, 3, 7, 9, 0), (24, .iload_n 3, 1, 0, 0, 0), (25, .iconst 0, 1, 0, 0, 0), (26, .iastore, 1, 0, 0, 0), (27, .iconst 0, 1, 0, 0, 0), (28, .istore 4, 2, 0, 0, 0), (30, .iload 4, 2, 0, 0, 0)], [(32, .bipush 8, 2, 8, 0, 0), (34, .if_icmp .ge 79, 3, 113, 0, 0), (37, .iload_n 3, 1, 0, 0, 0), (38, .aload_n 0, 1, 0, 0, 0), (39, .getfield 35, 3, 7, 6, 0), (42, .iload 4, 2, 0, 0, 0), (44, .iaload, 1, 0, 0, 0), (45, .isub, 1, 0, 0, 0), (46, .istore 5, 2, 0, 0, 0)], [(48, .aload_n 0, 1, 0, 0, 0), (49, .getfield 35, 3, 7, 6, 0), (52, .iload 4, 2, 0, 0, 0), (54, .iaload, 1, 0, 0, 0), (55, .ifCond .le 24, 3, 79, 0, 0), (58, .iload 5, 2, 0, 0, 0), (60, .ifCond .lt 19, 3, 79, 0, 0), (63, .aload_n 0, 1, 0, 0, 0)], [(64, .iload 4, 2, 0, 0, 0), (66, .iload_n 2, 1, 0, 0, 0), (67, .iload 5, 2, 0, 0, 0), (69, .invokevirtual 88, 3, 199, 4, 15), (72, .ifCond .eq 7, 3, 79, 0, 0), (75, .iconst 1, 1, 1, 0, 0), (76, .goto 4, 3, 80, 0, 0), (79, .iconst 0, 1, 0, 0, 0)], [(80, .istore 6, 2, 0, 0, 0), (82, .aload_n 0, 1, 0, 0, 0), (83, .getfield 45, 3, 7, 9, 0), (86, .iload_n 3, 1, 0, 0, 0), (87, .dup2, 1, 0, 0, 0), (88, .iaload, 1, 0, 0, 0), (89, .iload 6, 2, 0, 0, 0), (91, .ifCond .eq 13, 3, 104, 0, 0), (94, .aload_n 0, 1, 0, 0, 0), (95, .getfield 45, 3, 7, 9, 0)], [(98, .iload 5, 2, 0, 0, 0), (100, .iaload, 1, 0, 0, 0), (101, .goto 4, 3, 105, 0, 0), (104, .iconst 0, 1, 0, 0, 0), (105, .iadd, 1, 0, 0, 0), (106, .iastore, 1, 0, 0, 0), (107, .iinc 4 1, 3, 1, 0, 0), (110, .goto (-80), 3, 30, 0, 0)], [(113, .iinc 3 1, 3, 1, 0, 0), (116, .goto (-107), 3, 9, 0, 0), (119, .iload_n 1, 1, 0, 0, 0), (120, .iconst 0, 1, 0, 0, 0), (121, .bipush 10, 2, 10, 0, 0), (123, .invokestatic 92, 3, 17, 3, 1), (126, .ifCond .eq 12, 3, 138, 0, 0)], [(129, .aload_n 0, 1, 0, 0, 0), (130, .getfield 45, 3, 7, 9, 0), (133, .iload_n 1, 1, 0, 0, 0), (134, .iaload, 1, 0, 0, 0), (135, .goto 4, 3, 139, 0, 0), (138, .iconst 0, 1, 0, 0, 0), (139, .ireturn, 1, 0, 0, 0)]]
set_option maxRecDepth 100000 in
theorem oc_Th_readings : okC 198 c_Th_readings = true := by decide +kernel
def cu_Th_readings : List (Nat × List Bool) := [(82, [true, true, true, true, true, true, true]), (79, [true, true, true, true, true, true]), (30, [true, true, true, true, true]), (113, [true, true, true, true]), (9, [true, true, true, true]), (119, [true, true])]
noncomputable def F_Th_readings (O : Type) (a : Nat) (av : List AV) (σ : Mem) (K : AV → Mem → Option O) : Option O := if a = 17 then sm_P_within O av σ K else if a = 199 then sm_Th_isWordAt O av σ K else none
theorem fs_Th_readings {X : CXT} (hX : XC X) (O : Type) : FS X 2 (F_Th_readings O) := by
  intro a av σ K o h
  unfold F_Th_readings at h
  rcases ite_s h with ⟨rfl, h⟩ | ⟨_, h⟩
  · obtain ⟨r, h1, h2, h3⟩ := ok_P_within hX _ _ _ _ _ h
    exact ⟨r, fun ht => ⟨1, by decide, h1 ht⟩, h2, h3⟩
  rcases ite_s h with ⟨rfl, h⟩ | ⟨_, h⟩
  · obtain ⟨r, h1, h2, h3⟩ := ok_Th_isWordAt hX _ _ _ _ _ h
    exact ⟨r, fun ht => ⟨1, by decide, h1 ht⟩, h2, h3⟩
  cases h
def hd_Th_readings_82 {O : Type} (g : Nat → Int32 → Int32 → Int32 → Int32 → Int32 → Int32 → Mem → Option O) (ls : OL) (st : List AV) (σ : Mem) : Option O := match ls, st with
  | [some (.inr (.inr (7, k0))), some (.inl v1), some (.inl v2), some (.inl v3), some (.inl v4), some (.inl v5), some (.inl v6)], [] => g k0 v1 v2 v3 v4 v5 v6 σ
  | _, _ => none
theorem hs_Th_readings_82 {X : CXT} {g : Nat → Int32 → Int32 → Int32 → Int32 → Int32 → Int32 → Mem → Option (Int32 × Mem)} (hg : ∀ (k0 : Nat) (v1 : Int32) (v2 : Int32) (v3 : Int32) (v4 : Int32) (v5 : Int32) (v6 : Int32) (s : Mem) (o : Int32 × Mem), g k0 v1 v2 v3 v4 v5 v6 s = some o → BSnd X 2 198 (ovI o) 82 [some (.inr (.inr (7, k0))), some (.inl v1), some (.inl v2), some (.inl v3), some (.inl v4), some (.inl v5), some (.inl v6)] [] s) : ∀ ls st σ o, hd_Th_readings_82 g ls st σ = some o → BSnd X 2 198 (ovI o) 82 ls st σ := by
  intro ls st σ o h
  unfold hd_Th_readings_82 at h
  split at h
  · exact hg _ _ _ _ _ _ _ _ _ h
  · cases h
def hd_Th_readings_79 {O : Type} (g : Nat → Int32 → Int32 → Int32 → Int32 → Int32 → Mem → Option O) (ls : OL) (st : List AV) (σ : Mem) : Option O := match ls, st with
  | [some (.inr (.inr (7, k0))), some (.inl v1), some (.inl v2), some (.inl v3), some (.inl v4), some (.inl v5)], [] => g k0 v1 v2 v3 v4 v5 σ
  | _, _ => none
theorem hs_Th_readings_79 {X : CXT} {g : Nat → Int32 → Int32 → Int32 → Int32 → Int32 → Mem → Option (Int32 × Mem)} (hg : ∀ (k0 : Nat) (v1 : Int32) (v2 : Int32) (v3 : Int32) (v4 : Int32) (v5 : Int32) (s : Mem) (o : Int32 × Mem), g k0 v1 v2 v3 v4 v5 s = some o → BSnd X 2 198 (ovI o) 79 [some (.inr (.inr (7, k0))), some (.inl v1), some (.inl v2), some (.inl v3), some (.inl v4), some (.inl v5)] [] s) : ∀ ls st σ o, hd_Th_readings_79 g ls st σ = some o → BSnd X 2 198 (ovI o) 79 ls st σ := by
  intro ls st σ o h
  unfold hd_Th_readings_79 at h
  split at h
  · exact hg _ _ _ _ _ _ _ _ h
  · cases h
def hd_Th_readings_30 {O : Type} (g : Nat → Int32 → Int32 → Int32 → Int32 → Mem → Option O) (ls : OL) (st : List AV) (σ : Mem) : Option O := match ls, st with
  | [some (.inr (.inr (7, k0))), some (.inl v1), some (.inl v2), some (.inl v3), some (.inl v4)], [] => g k0 v1 v2 v3 v4 σ
  | _, _ => none
theorem hs_Th_readings_30 {X : CXT} {g : Nat → Int32 → Int32 → Int32 → Int32 → Mem → Option (Int32 × Mem)} (hg : ∀ (k0 : Nat) (v1 : Int32) (v2 : Int32) (v3 : Int32) (v4 : Int32) (s : Mem) (o : Int32 × Mem), g k0 v1 v2 v3 v4 s = some o → BSnd X 2 198 (ovI o) 30 [some (.inr (.inr (7, k0))), some (.inl v1), some (.inl v2), some (.inl v3), some (.inl v4)] [] s) : ∀ ls st σ o, hd_Th_readings_30 g ls st σ = some o → BSnd X 2 198 (ovI o) 30 ls st σ := by
  intro ls st σ o h
  unfold hd_Th_readings_30 at h
  split at h
  · exact hg _ _ _ _ _ _ _ h
  · cases h
def hd_Th_readings_113 {O : Type} (g : Nat → Int32 → Int32 → Int32 → Mem → Option O) (ls : OL) (st : List AV) (σ : Mem) : Option O := match ls, st with
  | [some (.inr (.inr (7, k0))), some (.inl v1), some (.inl v2), some (.inl v3)], [] => g k0 v1 v2 v3 σ
  | _, _ => none
theorem hs_Th_readings_113 {X : CXT} {g : Nat → Int32 → Int32 → Int32 → Mem → Option (Int32 × Mem)} (hg : ∀ (k0 : Nat) (v1 : Int32) (v2 : Int32) (v3 : Int32) (s : Mem) (o : Int32 × Mem), g k0 v1 v2 v3 s = some o → BSnd X 2 198 (ovI o) 113 [some (.inr (.inr (7, k0))), some (.inl v1), some (.inl v2), some (.inl v3)] [] s) : ∀ ls st σ o, hd_Th_readings_113 g ls st σ = some o → BSnd X 2 198 (ovI o) 113 ls st σ := by
  intro ls st σ o h
  unfold hd_Th_readings_113 at h
  split at h
  · exact hg _ _ _ _ _ _ h
  · cases h
def hd_Th_readings_9 {O : Type} (g : Nat → Int32 → Int32 → Int32 → Mem → Option O) (ls : OL) (st : List AV) (σ : Mem) : Option O := match ls, st with
  | [some (.inr (.inr (7, k0))), some (.inl v1), some (.inl v2), some (.inl v3)], [] => g k0 v1 v2 v3 σ
  | _, _ => none
theorem hs_Th_readings_9 {X : CXT} {g : Nat → Int32 → Int32 → Int32 → Mem → Option (Int32 × Mem)} (hg : ∀ (k0 : Nat) (v1 : Int32) (v2 : Int32) (v3 : Int32) (s : Mem) (o : Int32 × Mem), g k0 v1 v2 v3 s = some o → BSnd X 2 198 (ovI o) 9 [some (.inr (.inr (7, k0))), some (.inl v1), some (.inl v2), some (.inl v3)] [] s) : ∀ ls st σ o, hd_Th_readings_9 g ls st σ = some o → BSnd X 2 198 (ovI o) 9 ls st σ := by
  intro ls st σ o h
  unfold hd_Th_readings_9 at h
  split at h
  · exact hg _ _ _ _ _ _ h
  · cases h
def hd_Th_readings_119 {O : Type} (g : Nat → Int32 → Mem → Option O) (ls : OL) (st : List AV) (σ : Mem) : Option O := match ls, st with
  | [some (.inr (.inr (7, k0))), some (.inl v1)], [] => g k0 v1 σ
  | _, _ => none
theorem hs_Th_readings_119 {X : CXT} {g : Nat → Int32 → Mem → Option (Int32 × Mem)} (hg : ∀ (k0 : Nat) (v1 : Int32) (s : Mem) (o : Int32 × Mem), g k0 v1 s = some o → BSnd X 2 198 (ovI o) 119 [some (.inr (.inr (7, k0))), some (.inl v1)] [] s) : ∀ ls st σ o, hd_Th_readings_119 g ls st σ = some o → BSnd X 2 198 (ovI o) 119 ls st σ := by
  intro ls st σ o h
  unfold hd_Th_readings_119 at h
  split at h
  · exact hg _ _ _ _ h
  · cases h
set_option maxRecDepth 100000 in
theorem s_Th_readings_82 {X : CXT} (hX : XC X) {KH : Nat → Int32 → Int32 → Int32 → Int32 → Mem → Option (Int32 × Mem)} {K113 : Nat → Int32 → Int32 → Int32 → Mem → Option (Int32 × Mem)} (hKH : ∀ (k0 : Nat) (v1 : Int32) (v2 : Int32) (v3 : Int32) (v4 : Int32) (s : Mem) (o : Int32 × Mem), KH k0 v1 v2 v3 v4 s = some o → BSnd X 2 198 (ovI o) 30 [some (.inr (.inr (7, k0))), some (.inl v1), some (.inl v2), some (.inl v3), some (.inl v4)] [] s) (hK113 : ∀ (k0 : Nat) (v1 : Int32) (v2 : Int32) (v3 : Int32) (s : Mem) (o : Int32 × Mem), K113 k0 v1 v2 v3 s = some o → BSnd X 2 198 (ovI o) 113 [some (.inr (.inr (7, k0))), some (.inl v1), some (.inl v2), some (.inl v3)] [] s) : ∀ (k0 : Nat) (v1 : Int32) (v2 : Int32) (v3 : Int32) (v4 : Int32) (v5 : Int32) (v6 : Int32) (s : Mem) (o : Int32 × Mem), f_Th_readings_82 KH K113 k0 v1 v2 v3 v4 v5 v6 s = some o → BSnd X 2 198 (ovI o) 82 [some (.inr (.inr (7, k0))), some (.inl v1), some (.inl v2), some (.inl v3), some (.inl v4), some (.inl v5), some (.inl v6)] [] s := by
  intro k0 v1 v2 v3 v4 v5 v6 s o h
  exact evC (chs := c_Th_readings) (cuts := cu_Th_readings) (G := fun pc ls st σ => if pc = 30 then hd_Th_readings_30 (fun k0 v1 v2 v3 v4 s => KH k0 v1 v2 v3 v4 s) ls st σ else none) hX.2.1 hX.2.2 (F := F_Th_readings _) (fs_Th_readings hX _) (rt_I rfl) oc_Th_readings (by
    intro pc ls st σ o h
    rcases ite_s h with ⟨rfl, h⟩ | ⟨_, h⟩
    · exact hs_Th_readings_30 hKH _ _ _ _ h
    cases h) 352 82 _ _ _ _ h
set_option maxRecDepth 100000 in
theorem s_Th_readings_79 {X : CXT} (hX : XC X) {KH : Nat → Int32 → Int32 → Int32 → Int32 → Mem → Option (Int32 × Mem)} {K113 : Nat → Int32 → Int32 → Int32 → Mem → Option (Int32 × Mem)} (hKH : ∀ (k0 : Nat) (v1 : Int32) (v2 : Int32) (v3 : Int32) (v4 : Int32) (s : Mem) (o : Int32 × Mem), KH k0 v1 v2 v3 v4 s = some o → BSnd X 2 198 (ovI o) 30 [some (.inr (.inr (7, k0))), some (.inl v1), some (.inl v2), some (.inl v3), some (.inl v4)] [] s) (hK113 : ∀ (k0 : Nat) (v1 : Int32) (v2 : Int32) (v3 : Int32) (s : Mem) (o : Int32 × Mem), K113 k0 v1 v2 v3 s = some o → BSnd X 2 198 (ovI o) 113 [some (.inr (.inr (7, k0))), some (.inl v1), some (.inl v2), some (.inl v3)] [] s) : ∀ (k0 : Nat) (v1 : Int32) (v2 : Int32) (v3 : Int32) (v4 : Int32) (v5 : Int32) (s : Mem) (o : Int32 × Mem), f_Th_readings_79 KH K113 k0 v1 v2 v3 v4 v5 s = some o → BSnd X 2 198 (ovI o) 79 [some (.inr (.inr (7, k0))), some (.inl v1), some (.inl v2), some (.inl v3), some (.inl v4), some (.inl v5)] [] s := by
  intro k0 v1 v2 v3 v4 v5 s o h
  exact evC (chs := c_Th_readings) (cuts := cu_Th_readings) (G := fun pc ls st σ => if pc = 82 then hd_Th_readings_82 (fun k0 v1 v2 v3 v4 v5 v6 s => f_Th_readings_82 (KH) K113 k0 v1 v2 v3 v4 v5 v6 s) ls st σ else if pc = 30 then hd_Th_readings_30 (fun k0 v1 v2 v3 v4 s => KH k0 v1 v2 v3 v4 s) ls st σ else if pc = 113 then hd_Th_readings_113 (fun k0 v1 v2 v3 s => K113 k0 v1 v2 v3 s) ls st σ else none) hX.2.1 hX.2.2 (F := F_Th_readings _) (fs_Th_readings hX _) (rt_I rfl) oc_Th_readings (by
    intro pc ls st σ o h
    rcases ite_s h with ⟨rfl, h⟩ | ⟨_, h⟩
    · exact hs_Th_readings_82 (s_Th_readings_82 hX hKH hK113) _ _ _ _ h
    rcases ite_s h with ⟨rfl, h⟩ | ⟨_, h⟩
    · exact hs_Th_readings_30 hKH _ _ _ _ h
    rcases ite_s h with ⟨rfl, h⟩ | ⟨_, h⟩
    · exact hs_Th_readings_113 hK113 _ _ _ _ h
    cases h) 352 79 _ _ _ _ h
set_option maxRecDepth 100000 in
theorem s_Th_readings_30 {X : CXT} (hX : XC X) {K113 : Nat → Int32 → Int32 → Int32 → Mem → Option (Int32 × Mem)} (hK113 : ∀ (k0 : Nat) (v1 : Int32) (v2 : Int32) (v3 : Int32) (s : Mem) (o : Int32 × Mem), K113 k0 v1 v2 v3 s = some o → BSnd X 2 198 (ovI o) 113 [some (.inr (.inr (7, k0))), some (.inl v1), some (.inl v2), some (.inl v3)] [] s) : ∀ n : Nat, ∀ (k0 : Nat) (v1 : Int32) (v2 : Int32) (v3 : Int32) (v4 : Int32) (s : Mem) (o : Int32 × Mem), f_Th_readings_30 K113 n k0 v1 v2 v3 v4 s = some o → BSnd X 2 198 (ovI o) 30 [some (.inr (.inr (7, k0))), some (.inl v1), some (.inl v2), some (.inl v3), some (.inl v4)] [] s := by
  intro n
  induction n with
  | zero => intro k0 v1 v2 v3 v4 s o h; cases h
  | succ n ih =>
    intro k0 v1 v2 v3 v4 s o h
    exact evC (chs := c_Th_readings) (cuts := cu_Th_readings) (G := fun pc ls st σ => if pc = 82 then hd_Th_readings_82 (fun k0 v1 v2 v3 v4 v5 v6 s => f_Th_readings_82 (fun k0 v1 v2 v3 v4 s => f_Th_readings_30 K113 n k0 v1 v2 v3 v4 s) K113 k0 v1 v2 v3 v4 v5 v6 s) ls st σ else if pc = 79 then hd_Th_readings_79 (fun k0 v1 v2 v3 v4 v5 s => f_Th_readings_79 (fun k0 v1 v2 v3 v4 s => f_Th_readings_30 K113 n k0 v1 v2 v3 v4 s) K113 k0 v1 v2 v3 v4 v5 s) ls st σ else if pc = 30 then hd_Th_readings_30 (fun k0 v1 v2 v3 v4 s => f_Th_readings_30 K113 n k0 v1 v2 v3 v4 s) ls st σ else if pc = 113 then hd_Th_readings_113 (fun k0 v1 v2 v3 s => K113 k0 v1 v2 v3 s) ls st σ else none) hX.2.1 hX.2.2 (F := F_Th_readings _) (fs_Th_readings hX _) (rt_I rfl) oc_Th_readings (by
    intro pc ls st σ o h
    rcases ite_s h with ⟨rfl, h⟩ | ⟨_, h⟩
    · exact hs_Th_readings_82 (s_Th_readings_82 hX ih hK113) _ _ _ _ h
    rcases ite_s h with ⟨rfl, h⟩ | ⟨_, h⟩
    · exact hs_Th_readings_79 (s_Th_readings_79 hX ih hK113) _ _ _ _ h
    rcases ite_s h with ⟨rfl, h⟩ | ⟨_, h⟩
    · exact hs_Th_readings_30 ih _ _ _ _ h
    rcases ite_s h with ⟨rfl, h⟩ | ⟨_, h⟩
    · exact hs_Th_readings_113 hK113 _ _ _ _ h
    cases h) 352 30 _ _ _ _ h
set_option maxRecDepth 100000 in
theorem s_Th_readings_113 {X : CXT} (hX : XC X) {KH : Nat → Int32 → Int32 → Int32 → Mem → Option (Int32 × Mem)} {K119 : Nat → Int32 → Mem → Option (Int32 × Mem)} (hKH : ∀ (k0 : Nat) (v1 : Int32) (v2 : Int32) (v3 : Int32) (s : Mem) (o : Int32 × Mem), KH k0 v1 v2 v3 s = some o → BSnd X 2 198 (ovI o) 9 [some (.inr (.inr (7, k0))), some (.inl v1), some (.inl v2), some (.inl v3)] [] s) (hK119 : ∀ (k0 : Nat) (v1 : Int32) (s : Mem) (o : Int32 × Mem), K119 k0 v1 s = some o → BSnd X 2 198 (ovI o) 119 [some (.inr (.inr (7, k0))), some (.inl v1)] [] s) : ∀ (k0 : Nat) (v1 : Int32) (v2 : Int32) (v3 : Int32) (s : Mem) (o : Int32 × Mem), f_Th_readings_113 KH K119 k0 v1 v2 v3 s = some o → BSnd X 2 198 (ovI o) 113 [some (.inr (.inr (7, k0))), some (.inl v1), some (.inl v2), some (.inl v3)] [] s := by
  intro k0 v1 v2 v3 s o h
  exact evC (chs := c_Th_readings) (cuts := cu_Th_readings) (G := fun pc ls st σ => if pc = 9 then hd_Th_readings_9 (fun k0 v1 v2 v3 s => KH k0 v1 v2 v3 s) ls st σ else none) hX.2.1 hX.2.2 (F := F_Th_readings _) (fs_Th_readings hX _) (rt_I rfl) oc_Th_readings (by
    intro pc ls st σ o h
    rcases ite_s h with ⟨rfl, h⟩ | ⟨_, h⟩
    · exact hs_Th_readings_9 hKH _ _ _ _ h
    cases h) 352 113 _ _ _ _ h
set_option maxRecDepth 100000 in
theorem s_Th_readings_9 {X : CXT} (hX : XC X) {K119 : Nat → Int32 → Mem → Option (Int32 × Mem)} (hK119 : ∀ (k0 : Nat) (v1 : Int32) (s : Mem) (o : Int32 × Mem), K119 k0 v1 s = some o → BSnd X 2 198 (ovI o) 119 [some (.inr (.inr (7, k0))), some (.inl v1)] [] s) : ∀ n : Nat, ∀ (k0 : Nat) (v1 : Int32) (v2 : Int32) (v3 : Int32) (s : Mem) (o : Int32 × Mem), f_Th_readings_9 K119 n k0 v1 v2 v3 s = some o → BSnd X 2 198 (ovI o) 9 [some (.inr (.inr (7, k0))), some (.inl v1), some (.inl v2), some (.inl v3)] [] s := by
  intro n
  induction n with
  | zero => intro k0 v1 v2 v3 s o h; cases h
  | succ n ih =>
    intro k0 v1 v2 v3 s o h
    exact evC (chs := c_Th_readings) (cuts := cu_Th_readings) (G := fun pc ls st σ => if pc = 30 then hd_Th_readings_30 (fun k0 v1 v2 v3 v4 s => f_Th_readings_30 (fun k0 v1 v2 v3 s => f_Th_readings_113 (fun k0 v1 v2 v3 s => f_Th_readings_9 K119 n k0 v1 v2 v3 s) K119 k0 v1 v2 v3 s) FU k0 v1 v2 v3 v4 s) ls st σ else if pc = 113 then hd_Th_readings_113 (fun k0 v1 v2 v3 s => f_Th_readings_113 (fun k0 v1 v2 v3 s => f_Th_readings_9 K119 n k0 v1 v2 v3 s) K119 k0 v1 v2 v3 s) ls st σ else if pc = 9 then hd_Th_readings_9 (fun k0 v1 v2 v3 s => f_Th_readings_9 K119 n k0 v1 v2 v3 s) ls st σ else if pc = 119 then hd_Th_readings_119 (fun k0 v1 s => K119 k0 v1 s) ls st σ else none) hX.2.1 hX.2.2 (F := F_Th_readings _) (fs_Th_readings hX _) (rt_I rfl) oc_Th_readings (by
    intro pc ls st σ o h
    rcases ite_s h with ⟨rfl, h⟩ | ⟨_, h⟩
    · exact hs_Th_readings_30 (s_Th_readings_30 hX (s_Th_readings_113 hX ih hK119) FU) _ _ _ _ h
    rcases ite_s h with ⟨rfl, h⟩ | ⟨_, h⟩
    · exact hs_Th_readings_113 (s_Th_readings_113 hX ih hK119) _ _ _ _ h
    rcases ite_s h with ⟨rfl, h⟩ | ⟨_, h⟩
    · exact hs_Th_readings_9 ih _ _ _ _ h
    rcases ite_s h with ⟨rfl, h⟩ | ⟨_, h⟩
    · exact hs_Th_readings_119 hK119 _ _ _ _ h
    cases h) 352 9 _ _ _ _ h
set_option maxRecDepth 100000 in
theorem s_Th_readings_119 {X : CXT} (hX : XC X) : ∀ (k0 : Nat) (v1 : Int32) (s : Mem) (o : Int32 × Mem), f_Th_readings_119 k0 v1 s = some o → BSnd X 2 198 (ovI o) 119 [some (.inr (.inr (7, k0))), some (.inl v1)] [] s := by
  intro k0 v1 s o h
  exact evC (chs := c_Th_readings) (cuts := cu_Th_readings) (G := fun pc ls st σ => none) hX.2.1 hX.2.2 (F := F_Th_readings _) (fs_Th_readings hX _) (rt_I rfl) oc_Th_readings (by
    intro pc ls st σ o h
    cases h) 352 119 _ _ _ _ h
set_option maxRecDepth 100000 in
theorem s_Th_readings {X : CXT} (hX : XC X) : ∀ (k0 : Nat) (v1 : Int32) (v2 : Int32) (s : Mem) (o : Int32 × Mem), f_Th_readings k0 v1 v2 s = some o → BSnd X 2 198 (ovI o) 0 (entL [.inr (.inr (7, k0)), .inl v1, .inl v2]) [] s := by
  intro k0 v1 v2 s o h
  rw [f_Th_readings_eq] at h
  exact evC (chs := c_Th_readings) (cuts := cu_Th_readings) (G := fun pc ls st σ => if pc = 9 then hd_Th_readings_9 (fun k0 v1 v2 v3 s => f_Th_readings_9 (fun k0 v1 s => f_Th_readings_119 k0 v1 s) FU k0 v1 v2 v3 s) ls st σ else if pc = 119 then hd_Th_readings_119 (fun k0 v1 s => f_Th_readings_119 k0 v1 s) ls st σ else none) hX.2.1 hX.2.2 (F := F_Th_readings _) (fs_Th_readings hX _) (rt_I rfl) oc_Th_readings (by
    intro pc ls st σ o h
    rcases ite_s h with ⟨rfl, h⟩ | ⟨_, h⟩
    · exact hs_Th_readings_9 (s_Th_readings_9 hX (s_Th_readings_119 hX) FU) _ _ _ _ h
    rcases ite_s h with ⟨rfl, h⟩ | ⟨_, h⟩
    · exact hs_Th_readings_119 (s_Th_readings_119 hX) _ _ _ _ h
    cases h) 352 0 _ _ _ _ h
theorem ok_Th_readings {X : CXT} (hX : XC X) : SemOK X 2 198 sm_Th_readings := by
  intro O av σ K o h
  unfold sm_Th_readings at h
  split at h
  · obtain ⟨r, hf, h⟩ := Option.bind_eq_some_iff.mp h
    exact ⟨ovI r, fun ht => sp_of hX.1 (by decide) (List.mem_range.mpr (by decide)) (by decide +kernel) ht (Nat.le_of_ble_eq_true rfl) (s_Th_readings hX _ _ _ _ _ hf), trivial, h⟩
  · cases h
noncomputable def b_P_reads (k0 : Nat) (v1 : Int32) (v2 : Int32) (s : Mem) : Option (Int32 × Mem) :=
  cif (v1 = ((-1 : Int32))) (
    (f_Th_prefixCouples (k0 + 30) s).bind fun r1 =>
    some (r1.1, r1.2)) (
    (f_P_within v1 ((0 : Int32)) ((10 : Int32)) s).bind fun r2 =>
    cif ((b2i r2.1) = 0) (
      some ((-1 : Int32), r2.2)) (
      (f_P_areBits v2 v1 r2.2).bind fun r3 =>
      cif ((b2i r3.1) = 0) (
        some ((-1 : Int32), r3.2)) (
        (f_Th_readings (k0 + 30) v1 v2 r3.2).bind fun r4 =>
        some (r4.1, r4.2))))
noncomputable def f_P_reads : Nat → Int32 → Int32 → Mem → Option (Int32 × Mem) := Classical.choose (⟨b_P_reads, rfl⟩ : ∃ f : Nat → Int32 → Int32 → Mem → Option (Int32 × Mem), f = b_P_reads)
theorem f_P_reads_eq : f_P_reads = b_P_reads := Classical.choose_spec (⟨b_P_reads, rfl⟩ : ∃ f : Nat → Int32 → Int32 → Mem → Option (Int32 × Mem), f = b_P_reads)
noncomputable def sm_P_reads (O : Type) (av : List AV) (σ : Mem) (K : AV → Mem → Option O) : Option O := match av with
  | [.inr (.inr (11, k0)), .inl v1, .inl v2] => (f_P_reads k0 v1 v2 σ).bind fun r => K (.inl r.1) r.2
  | _ => none
def c_P_reads : List (List CE) := [[(0, .iload_n 1, 1, 0, 0, 0), (1, .iconst (-1), 1, 1, 0, 1), (2, .if_icmp .ne 14, 3, 16, 0, 0), (5, .aload_n 0, 1, 0, 0, 0), (6, .getfield 10, 3, 11, 0, 0), (9, .getfield 288, 3, 10, 2, 0), (12, .invokevirtual 389, 3, 197, 1, 15), (15, .ireturn, 1, 0, 0, 0)], [(16, .iload_n 1, 1, 0, 0, 0), (17, .iconst 0, 1, 0, 0, 0), (18, .bipush 10, 2, 10, 0, 0), (20, .invokestatic 80, 3, 17, 3, 1), (23, .ifCond .eq 26, 3, 49, 0, 0), (26, .iload_n 2, 1, 0, 0, 0), (27, .iload_n 1, 1, 0, 0, 0), (28, .invokestatic 380, 3, 195, 2, 1), (31, .ifCond .eq 18, 3, 49, 0, 0)], [(34, .aload_n 0, 1, 0, 0, 0), (35, .getfield 10, 3, 11, 0, 0), (38, .getfield 288, 3, 10, 2, 0), (41, .iload_n 1, 1, 0, 0, 0), (42, .iload_n 2, 1, 0, 0, 0), (43, .invokevirtual 392, 3, 198, 3, 15), (46, .goto 4, 3, 50, 0, 0)], [(49, .iconst (-1), 1, 1, 0, 1), (50, .ireturn, 1, 0, 0, 0)]]
set_option maxRecDepth 100000 in
theorem oc_P_reads : okC 196 c_P_reads = true := by decide +kernel
def cu_P_reads : List (Nat × List Bool) := []
noncomputable def F_P_reads (O : Type) (a : Nat) (av : List AV) (σ : Mem) (K : AV → Mem → Option O) : Option O := if a = 17 then sm_P_within O av σ K else if a = 195 then sm_P_areBits O av σ K else if a = 197 then sm_Th_prefixCouples O av σ K else if a = 198 then sm_Th_readings O av σ K else none
theorem fs_P_reads {X : CXT} (hX : XC X) (O : Type) : FS X 3 (F_P_reads O) := by
  intro a av σ K o h
  unfold F_P_reads at h
  rcases ite_s h with ⟨rfl, h⟩ | ⟨_, h⟩
  · obtain ⟨r, h1, h2, h3⟩ := ok_P_within hX _ _ _ _ _ h
    exact ⟨r, fun ht => ⟨1, by decide, h1 ht⟩, h2, h3⟩
  rcases ite_s h with ⟨rfl, h⟩ | ⟨_, h⟩
  · obtain ⟨r, h1, h2, h3⟩ := ok_P_areBits hX _ _ _ _ _ h
    exact ⟨r, fun ht => ⟨1, by decide, h1 ht⟩, h2, h3⟩
  rcases ite_s h with ⟨rfl, h⟩ | ⟨_, h⟩
  · obtain ⟨r, h1, h2, h3⟩ := ok_Th_prefixCouples hX _ _ _ _ _ h
    exact ⟨r, fun ht => ⟨1, by decide, h1 ht⟩, h2, h3⟩
  rcases ite_s h with ⟨rfl, h⟩ | ⟨_, h⟩
  · obtain ⟨r, h1, h2, h3⟩ := ok_Th_readings hX _ _ _ _ _ h
    exact ⟨r, fun ht => ⟨2, by decide, h1 ht⟩, h2, h3⟩
  cases h
set_option maxRecDepth 100000 in
theorem s_P_reads {X : CXT} (hX : XC X) : ∀ (k0 : Nat) (v1 : Int32) (v2 : Int32) (s : Mem) (o : Int32 × Mem), f_P_reads k0 v1 v2 s = some o → BSnd X 3 196 (ovI o) 0 (entL [.inr (.inr (11, k0)), .inl v1, .inl v2]) [] s := by
  intro k0 v1 v2 s o h
  rw [f_P_reads_eq] at h
  exact evC (chs := c_P_reads) (cuts := cu_P_reads) (G := fun pc ls st σ => none) hX.2.1 hX.2.2 (F := F_P_reads _) (fs_P_reads hX _) (rt_I rfl) oc_P_reads (by
    intro pc ls st σ o h
    cases h) 144 0 _ _ _ _ h
theorem ok_P_reads {X : CXT} (hX : XC X) : SemOK X 3 196 sm_P_reads := by
  intro O av σ K o h
  unfold sm_P_reads at h
  split at h
  · obtain ⟨r, hf, h⟩ := Option.bind_eq_some_iff.mp h
    exact ⟨ovI r, fun ht => sp_of hX.1 (by decide) (List.mem_range.mpr (by decide)) (by decide +kernel) ht (Nat.le_of_ble_eq_true rfl) (s_P_reads hX _ _ _ _ _ hf), trivial, h⟩
  · cases h
noncomputable def f_P_odds_21 (k0 : Nat) (v1 : Int32) (v2 : Int32) (s : Mem) : Option (Bool × Mem) :=
  cif (((0 : Int32)) = 0) (
    some (false, s)) (
    gd (inb v1 (lenC (k0 + 57))) <|
    let s1 : Mem := wI s (k0 + 57) (ix v1) v2
    some (false, s1))
noncomputable def b_P_odds (k0 : Nat) (v1 : Int32) (v2 : Int32) (s : Mem) : Option (Bool × Mem) :=
  (f_P_isPart v1 s).bind fun r1 =>
  cif ((b2i r1.1) = 0) (
    f_P_odds_21 k0 v1 v2 r1.2) (
    (f_P_within v2 ((0 : Int32)) ((100 : Int32)) r1.2).bind fun r2 =>
    cif ((b2i r2.1) = 0) (
      f_P_odds_21 k0 v1 v2 r2.2) (
      cif (((1 : Int32)) = 0) (
        some (true, r2.2)) (
        gd (inb v1 (lenC (k0 + 57))) <|
        let s3 : Mem := wI r2.2 (k0 + 57) (ix v1) v2
        some (true, s3))))
noncomputable def f_P_odds : Nat → Int32 → Int32 → Mem → Option (Bool × Mem) := Classical.choose (⟨b_P_odds, rfl⟩ : ∃ f : Nat → Int32 → Int32 → Mem → Option (Bool × Mem), f = b_P_odds)
theorem f_P_odds_eq : f_P_odds = b_P_odds := Classical.choose_spec (⟨b_P_odds, rfl⟩ : ∃ f : Nat → Int32 → Int32 → Mem → Option (Bool × Mem), f = b_P_odds)
noncomputable def sm_P_odds (O : Type) (av : List AV) (σ : Mem) (K : AV → Mem → Option O) : Option O := match av with
  | [.inr (.inr (11, k0)), .inl v1, .inl v2] => (f_P_odds k0 v1 v2 σ).bind fun r => K (.inl (b2i r.1)) r.2
  | _ => none
def c_P_odds : List (List CE) := [[(0, .iload_n 1, 1, 0, 0, 0), (1, .invokestatic 395, 3, 26, 1, 1), (4, .ifCond .eq 17, 3, 21, 0, 0), (7, .iload_n 2, 1, 0, 0, 0), (8, .iconst 0, 1, 0, 0, 0), (9, .bipush 100, 2, 100, 0, 0), (11, .invokestatic 80, 3, 17, 3, 1), (14, .ifCond .eq 7, 3, 21, 0, 0)], [(17, .iconst 1, 1, 1, 0, 0), (18, .goto 4, 3, 22, 0, 0), (21, .iconst 0, 1, 0, 0, 0), (22, .istore_n 3, 1, 0, 0, 0), (23, .iload_n 3, 1, 0, 0, 0), (24, .ifCond .eq 16, 3, 40, 0, 0), (27, .aload_n 0, 1, 0, 0, 0), (28, .getfield 10, 3, 11, 0, 0), (31, .getfield 288, 3, 10, 2, 0)], [(34, .getfield 398, 3, 7, 8, 0), (37, .iload_n 1, 1, 0, 0, 0), (38, .iload_n 2, 1, 0, 0, 0), (39, .iastore, 1, 0, 0, 0), (40, .iload_n 3, 1, 0, 0, 0), (41, .ireturn, 1, 0, 0, 0)]]
set_option maxRecDepth 100000 in
theorem oc_P_odds : okC 200 c_P_odds = true := by decide +kernel
def cu_P_odds : List (Nat × List Bool) := [(21, [true, true, true])]
noncomputable def F_P_odds (O : Type) (a : Nat) (av : List AV) (σ : Mem) (K : AV → Mem → Option O) : Option O := if a = 17 then sm_P_within O av σ K else if a = 26 then sm_P_isPart O av σ K else none
theorem fs_P_odds {X : CXT} (hX : XC X) (O : Type) : FS X 3 (F_P_odds O) := by
  intro a av σ K o h
  unfold F_P_odds at h
  rcases ite_s h with ⟨rfl, h⟩ | ⟨_, h⟩
  · obtain ⟨r, h1, h2, h3⟩ := ok_P_within hX _ _ _ _ _ h
    exact ⟨r, fun ht => ⟨1, by decide, h1 ht⟩, h2, h3⟩
  rcases ite_s h with ⟨rfl, h⟩ | ⟨_, h⟩
  · obtain ⟨r, h1, h2, h3⟩ := ok_P_isPart hX _ _ _ _ _ h
    exact ⟨r, fun ht => ⟨2, by decide, h1 ht⟩, h2, h3⟩
  cases h
def hd_P_odds_21 {O : Type} (g : Nat → Int32 → Int32 → Mem → Option O) (ls : OL) (st : List AV) (σ : Mem) : Option O := match ls, st with
  | [some (.inr (.inr (11, k0))), some (.inl v1), some (.inl v2)], [] => g k0 v1 v2 σ
  | _, _ => none
theorem hs_P_odds_21 {X : CXT} {g : Nat → Int32 → Int32 → Mem → Option (Bool × Mem)} (hg : ∀ (k0 : Nat) (v1 : Int32) (v2 : Int32) (s : Mem) (o : Bool × Mem), g k0 v1 v2 s = some o → BSnd X 3 200 (ovZ o) 21 [some (.inr (.inr (11, k0))), some (.inl v1), some (.inl v2)] [] s) : ∀ ls st σ o, hd_P_odds_21 g ls st σ = some o → BSnd X 3 200 (ovZ o) 21 ls st σ := by
  intro ls st σ o h
  unfold hd_P_odds_21 at h
  split at h
  · exact hg _ _ _ _ _ h
  · cases h
set_option maxRecDepth 100000 in
theorem s_P_odds_21 {X : CXT} (hX : XC X) : ∀ (k0 : Nat) (v1 : Int32) (v2 : Int32) (s : Mem) (o : Bool × Mem), f_P_odds_21 k0 v1 v2 s = some o → BSnd X 3 200 (ovZ o) 21 [some (.inr (.inr (11, k0))), some (.inl v1), some (.inl v2)] [] s := by
  intro k0 v1 v2 s o h
  exact evC (chs := c_P_odds) (cuts := cu_P_odds) (G := fun pc ls st σ => none) hX.2.1 hX.2.2 (F := F_P_odds _) (fs_P_odds hX _) (rt_Z rfl) oc_P_odds (by
    intro pc ls st σ o h
    cases h) 132 21 _ _ _ _ h
set_option maxRecDepth 100000 in
theorem s_P_odds {X : CXT} (hX : XC X) : ∀ (k0 : Nat) (v1 : Int32) (v2 : Int32) (s : Mem) (o : Bool × Mem), f_P_odds k0 v1 v2 s = some o → BSnd X 3 200 (ovZ o) 0 (entL [.inr (.inr (11, k0)), .inl v1, .inl v2]) [] s := by
  intro k0 v1 v2 s o h
  rw [f_P_odds_eq] at h
  exact evC (chs := c_P_odds) (cuts := cu_P_odds) (G := fun pc ls st σ => if pc = 21 then hd_P_odds_21 (fun k0 v1 v2 s => f_P_odds_21 k0 v1 v2 s) ls st σ else none) hX.2.1 hX.2.2 (F := F_P_odds _) (fs_P_odds hX _) (rt_Z rfl) oc_P_odds (by
    intro pc ls st σ o h
    rcases ite_s h with ⟨rfl, h⟩ | ⟨_, h⟩
    · exact hs_P_odds_21 (s_P_odds_21 hX) _ _ _ _ h
    cases h) 132 0 _ _ _ _ h
theorem ok_P_odds {X : CXT} (hX : XC X) : SemOK X 3 200 sm_P_odds := by
  intro O av σ K o h
  unfold sm_P_odds at h
  split at h
  · obtain ⟨r, hf, h⟩ := Option.bind_eq_some_iff.mp h
    exact ⟨ovZ r, fun ht => sp_of hX.1 (by decide) (List.mem_range.mpr (by decide)) (by decide +kernel) ht (Nat.le_of_ble_eq_true rfl) (s_P_odds hX _ _ _ _ _ hf), trivial, h⟩
  · cases h
noncomputable def b_Th_holds (k0 : Nat) (v1 : Int32) (v2 : Int32) (s : Mem) : Option (Int32 × Mem) :=
  cif (((v2 >>> (v1 &&& 31)) &&& ((1 : Int32))) = ((1 : Int32))) (
    gd (inb v1 (lenC (k0 + 27))) <|
    let x1 : Int32 := (rI s (k0 + 27) (ix v1)) / ((2 : Int32))
    some (((100 : Int32)) - x1, s)) (
    gd (inb v1 (lenC (k0 + 27))) <|
    let x2 : Int32 := rI s (k0 + 27) (ix v1)
    some (((100 : Int32)) - x2, s))
noncomputable def f_Th_holds : Nat → Int32 → Int32 → Mem → Option (Int32 × Mem) := Classical.choose (⟨b_Th_holds, rfl⟩ : ∃ f : Nat → Int32 → Int32 → Mem → Option (Int32 × Mem), f = b_Th_holds)
theorem f_Th_holds_eq : f_Th_holds = b_Th_holds := Classical.choose_spec (⟨b_Th_holds, rfl⟩ : ∃ f : Nat → Int32 → Int32 → Mem → Option (Int32 × Mem), f = b_Th_holds)
noncomputable def sm_Th_holds (O : Type) (av : List AV) (σ : Mem) (K : AV → Mem → Option O) : Option O := match av with
  | [.inr (.inr (7, k0)), .inl v1, .inl v2] => (f_Th_holds k0 v1 v2 σ).bind fun r => K (.inl r.1) r.2
  | _ => none
def c_Th_holds : List (List CE) := [[(0, .iload_n 2, 1, 0, 0, 0), (1, .iload_n 1, 1, 0, 0, 0), (2, .ishr, 1, 0, 0, 0), (3, .iconst 1, 1, 1, 0, 0), (4, .iand, 1, 0, 0, 0), (5, .iconst 1, 1, 1, 0, 0), (6, .if_icmp .ne 14, 3, 20, 0, 0), (9, .aload_n 0, 1, 0, 0, 0), (10, .getfield 42, 3, 7, 8, 0), (13, .iload_n 1, 1, 0, 0, 0), (14, .iaload, 1, 0, 0, 0), (15, .iconst 2, 1, 2, 0, 0)], [(16, .idiv, 1, 0, 0, 0), (17, .goto 9, 3, 26, 0, 0), (20, .aload_n 0, 1, 0, 0, 0), (21, .getfield 42, 3, 7, 8, 0), (24, .iload_n 1, 1, 0, 0, 0), (25, .iaload, 1, 0, 0, 0), (26, .istore_n 3, 1, 0, 0, 0), (27, .bipush 100, 2, 100, 0, 0), (29, .iload_n 3, 1, 0, 0, 0), (30, .isub, 1, 0, 0, 0), (31, .ireturn, 1, 0, 0, 0)]]
set_option maxRecDepth 100000 in
theorem oc_Th_holds : okC 206 c_Th_holds = true := by decide +kernel
def cu_Th_holds : List (Nat × List Bool) := []
noncomputable def F_Th_holds (O : Type) (a : Nat) (av : List AV) (σ : Mem) (K : AV → Mem → Option O) : Option O := none
theorem fs_Th_holds {X : CXT} (hX : XC X) (O : Type) : FS X 1 (F_Th_holds O) := by
  intro a av σ K o h
  cases h
set_option maxRecDepth 100000 in
theorem s_Th_holds {X : CXT} (hX : XC X) : ∀ (k0 : Nat) (v1 : Int32) (v2 : Int32) (s : Mem) (o : Int32 × Mem), f_Th_holds k0 v1 v2 s = some o → BSnd X 1 206 (ovI o) 0 (entL [.inr (.inr (7, k0)), .inl v1, .inl v2]) [] s := by
  intro k0 v1 v2 s o h
  rw [f_Th_holds_eq] at h
  exact evC (chs := c_Th_holds) (cuts := cu_Th_holds) (G := fun pc ls st σ => none) hX.2.1 hX.2.2 (F := F_Th_holds _) (fs_Th_holds hX _) (rt_I rfl) oc_Th_holds (by
    intro pc ls st σ o h
    cases h) 132 0 _ _ _ _ h
theorem ok_Th_holds {X : CXT} (hX : XC X) : SemOK X 1 206 sm_Th_holds := by
  intro O av σ K o h
  unfold sm_Th_holds at h
  split at h
  · obtain ⟨r, hf, h⟩ := Option.bind_eq_some_iff.mp h
    exact ⟨ovI r, fun ht => sp_of hX.1 (by decide) (List.mem_range.mpr (by decide)) (by decide +kernel) ht (Nat.le_of_ble_eq_true rfl) (s_Th_holds hX _ _ _ _ _ hf), trivial, h⟩
  · cases h
noncomputable def f_Th_product_6 : Nat → Nat → Int32 → Int32 → Int64 → Int32 → Mem → Option (Int64 × Mem)
  | 0, _, _, _, _, _, _ => none
  | n + 1, k0, v2, v3, v4, v6, s =>
    cif (v2 ≤ v6) (
      some (v4, s)) (
      cif (((10 : Int32)) ≤ v6) (
        some (v4, s)) (
        (f_Th_holds k0 v6 v3 s).bind fun r1 =>
        let x2 : Int64 := v4 * r1.1.toInt64
        f_Th_product_6 n k0 v2 v3 x2 (v6 + (1 : Int32)) r1.2))
noncomputable def b_Th_product (k0 : Nat) (v1 : Int32) (v2 : Int32) (v3 : Int32) (s : Mem) : Option (Int64 × Mem) :=
  let x1 : Int64 := (1 : Int64)
  f_Th_product_6 FU k0 v2 v3 x1 v1 s
noncomputable def f_Th_product : Nat → Int32 → Int32 → Int32 → Mem → Option (Int64 × Mem) := Classical.choose (⟨b_Th_product, rfl⟩ : ∃ f : Nat → Int32 → Int32 → Int32 → Mem → Option (Int64 × Mem), f = b_Th_product)
theorem f_Th_product_eq : f_Th_product = b_Th_product := Classical.choose_spec (⟨b_Th_product, rfl⟩ : ∃ f : Nat → Int32 → Int32 → Int32 → Mem → Option (Int64 × Mem), f = b_Th_product)
noncomputable def sm_Th_product (O : Type) (av : List AV) (σ : Mem) (K : AV → Mem → Option O) : Option O := match av with
  | [.inr (.inr (7, k0)), .inl v1, .inl v2, .inl v3] => (f_Th_product k0 v1 v2 v3 σ).bind fun r => K (.inr (.inl r.1)) r.2
  | _ => none
def c_Th_product : List (List CE) := [[(0, .lconst 1, 1, 0, 0, 0), (1, .lstore 4, 2, 0, 0, 0), (3, .iload_n 1, 1, 0, 0, 0), (4, .istore 6, 2, 0, 0, 0), (6, .iload 6, 2, 0, 0, 0), (8, .iload_n 2, 1, 0, 0, 0), (9, .if_icmp .ge 29, 3, 38, 0, 0), (12, .iload 6, 2, 0, 0, 0), (14, .bipush 10, 2, 10, 0, 0)], [(16, .if_icmp .ge 22, 3, 38, 0, 0), (19, .lload 4, 2, 0, 0, 0), (21, .aload_n 0, 1, 0, 0, 0), (22, .iload 6, 2, 0, 0, 0), (24, .iload_n 3, 1, 0, 0, 0), (25, .invokevirtual 95, 3, 206, 3, 15), (28, .i2l, 1, 0, 0, 0), (29, .lmul, 1, 0, 0, 0), (30, .lstore 4, 2, 0, 0, 0)], [(32, .iinc 6 1, 3, 1, 0, 0), (35, .goto (-29), 3, 6, 0, 0), (38, .lload 4, 2, 0, 0, 0), (40, .lreturn, 1, 0, 0, 0)]]
set_option maxRecDepth 100000 in
theorem oc_Th_product : okC 205 c_Th_product = true := by decide +kernel
def cu_Th_product : List (Nat × List Bool) := [(6, [true, false, true, true, true, false, true])]
noncomputable def F_Th_product (O : Type) (a : Nat) (av : List AV) (σ : Mem) (K : AV → Mem → Option O) : Option O := if a = 206 then sm_Th_holds O av σ K else none
theorem fs_Th_product {X : CXT} (hX : XC X) (O : Type) : FS X 2 (F_Th_product O) := by
  intro a av σ K o h
  unfold F_Th_product at h
  rcases ite_s h with ⟨rfl, h⟩ | ⟨_, h⟩
  · obtain ⟨r, h1, h2, h3⟩ := ok_Th_holds hX _ _ _ _ _ h
    exact ⟨r, fun ht => ⟨1, by decide, h1 ht⟩, h2, h3⟩
  cases h
def hd_Th_product_6 {O : Type} (g : Nat → Int32 → Int32 → Int64 → Int32 → Mem → Option O) (ls : OL) (st : List AV) (σ : Mem) : Option O := match ls, st with
  | [some (.inr (.inr (7, k0))), none, some (.inl v2), some (.inl v3), some (.inr (.inl v4)), none, some (.inl v6)], [] => g k0 v2 v3 v4 v6 σ
  | _, _ => none
theorem hs_Th_product_6 {X : CXT} {g : Nat → Int32 → Int32 → Int64 → Int32 → Mem → Option (Int64 × Mem)} (hg : ∀ (k0 : Nat) (v2 : Int32) (v3 : Int32) (v4 : Int64) (v6 : Int32) (s : Mem) (o : Int64 × Mem), g k0 v2 v3 v4 v6 s = some o → BSnd X 2 205 (ovL o) 6 [some (.inr (.inr (7, k0))), none, some (.inl v2), some (.inl v3), some (.inr (.inl v4)), none, some (.inl v6)] [] s) : ∀ ls st σ o, hd_Th_product_6 g ls st σ = some o → BSnd X 2 205 (ovL o) 6 ls st σ := by
  intro ls st σ o h
  unfold hd_Th_product_6 at h
  split at h
  · exact hg _ _ _ _ _ _ _ h
  · cases h
set_option maxRecDepth 100000 in
theorem s_Th_product_6 {X : CXT} (hX : XC X) : ∀ n : Nat, ∀ (k0 : Nat) (v2 : Int32) (v3 : Int32) (v4 : Int64) (v6 : Int32) (s : Mem) (o : Int64 × Mem), f_Th_product_6 n k0 v2 v3 v4 v6 s = some o → BSnd X 2 205 (ovL o) 6 [some (.inr (.inr (7, k0))), none, some (.inl v2), some (.inl v3), some (.inr (.inl v4)), none, some (.inl v6)] [] s := by
  intro n
  induction n with
  | zero => intro k0 v2 v3 v4 v6 s o h; cases h
  | succ n ih =>
    intro k0 v2 v3 v4 v6 s o h
    exact evC (chs := c_Th_product) (cuts := cu_Th_product) (G := fun pc ls st σ => if pc = 6 then hd_Th_product_6 (fun k0 v2 v3 v4 v6 s => f_Th_product_6 n k0 v2 v3 v4 v6 s) ls st σ else none) hX.2.1 hX.2.2 (F := F_Th_product _) (fs_Th_product hX _) (rt_L rfl) oc_Th_product (by
    intro pc ls st σ o h
    rcases ite_s h with ⟨rfl, h⟩ | ⟨_, h⟩
    · exact hs_Th_product_6 ih _ _ _ _ h
    cases h) 128 6 _ _ _ _ h
set_option maxRecDepth 100000 in
theorem s_Th_product {X : CXT} (hX : XC X) : ∀ (k0 : Nat) (v1 : Int32) (v2 : Int32) (v3 : Int32) (s : Mem) (o : Int64 × Mem), f_Th_product k0 v1 v2 v3 s = some o → BSnd X 2 205 (ovL o) 0 (entL [.inr (.inr (7, k0)), .inl v1, .inl v2, .inl v3]) [] s := by
  intro k0 v1 v2 v3 s o h
  rw [f_Th_product_eq] at h
  exact evC (chs := c_Th_product) (cuts := cu_Th_product) (G := fun pc ls st σ => if pc = 6 then hd_Th_product_6 (fun k0 v2 v3 v4 v6 s => f_Th_product_6 FU k0 v2 v3 v4 v6 s) ls st σ else none) hX.2.1 hX.2.2 (F := F_Th_product _) (fs_Th_product hX _) (rt_L rfl) oc_Th_product (by
    intro pc ls st σ o h
    rcases ite_s h with ⟨rfl, h⟩ | ⟨_, h⟩
    · exact hs_Th_product_6 (s_Th_product_6 hX FU) _ _ _ _ h
    cases h) 128 0 _ _ _ _ h
theorem ok_Th_product {X : CXT} (hX : XC X) : SemOK X 2 205 sm_Th_product := by
  intro O av σ K o h
  unfold sm_Th_product at h
  split at h
  · obtain ⟨r, hf, h⟩ := Option.bind_eq_some_iff.mp h
    exact ⟨ovL r, fun ht => sp_of hX.1 (by decide) (List.mem_range.mpr (by decide)) (by decide +kernel) ht (Nat.le_of_ble_eq_true rfl) (s_Th_product hX _ _ _ _ _ _ hf), trivial, h⟩
  · cases h
noncomputable def b_Th_highOf (k0 : Nat) (v1 : Int32) (s : Mem) : Option (Int64 × Mem) :=
  (f_Th_product k0 ((0 : Int32)) ((5 : Int32)) v1 s).bind fun r1 =>
  (f_Th_product k0 ((5 : Int32)) ((10 : Int32)) v1 r1.2).bind fun r2 =>
  some ((r1.1 * (r2.1 / ((100000 : Int64)))) + ((r1.1 * (r2.1 - r2.1 / ((100000 : Int64)) * ((100000 : Int64)))) / ((100000 : Int64))), r2.2)
noncomputable def f_Th_highOf : Nat → Int32 → Mem → Option (Int64 × Mem) := Classical.choose (⟨b_Th_highOf, rfl⟩ : ∃ f : Nat → Int32 → Mem → Option (Int64 × Mem), f = b_Th_highOf)
theorem f_Th_highOf_eq : f_Th_highOf = b_Th_highOf := Classical.choose_spec (⟨b_Th_highOf, rfl⟩ : ∃ f : Nat → Int32 → Mem → Option (Int64 × Mem), f = b_Th_highOf)
noncomputable def sm_Th_highOf (O : Type) (av : List AV) (σ : Mem) (K : AV → Mem → Option O) : Option O := match av with
  | [.inr (.inr (7, k0)), .inl v1] => (f_Th_highOf k0 v1 σ).bind fun r => K (.inr (.inl r.1)) r.2
  | _ => none
def c_Th_highOf : List (List CE) := [[(0, .aload_n 0, 1, 0, 0, 0), (1, .iconst 0, 1, 0, 0, 0), (2, .iconst 5, 1, 5, 0, 0), (3, .iload_n 1, 1, 0, 0, 0), (4, .invokevirtual 105, 3, 205, 4, 15), (7, .lstore_n 2, 1, 0, 0, 0), (8, .aload_n 0, 1, 0, 0, 0), (9, .iconst 5, 1, 5, 0, 0), (10, .bipush 10, 2, 10, 0, 0), (12, .iload_n 1, 1, 0, 0, 0), (13, .invokevirtual 105, 3, 205, 4, 15)], [(16, .lstore 4, 2, 0, 0, 0), (18, .lload_n 2, 1, 0, 0, 0), (19, .lload 4, 2, 0, 0, 0), (21, .ldc2_w 109, 3, 100000, 0, 0), (24, .ldiv, 1, 0, 0, 0), (25, .lmul, 1, 0, 0, 0), (26, .lload_n 2, 1, 0, 0, 0), (27, .lload 4, 2, 0, 0, 0), (29, .ldc2_w 109, 3, 100000, 0, 0)], [(32, .lrem, 1, 0, 0, 0), (33, .lmul, 1, 0, 0, 0), (34, .ldc2_w 109, 3, 100000, 0, 0), (37, .ldiv, 1, 0, 0, 0), (38, .ladd, 1, 0, 0, 0), (39, .lreturn, 1, 0, 0, 0)]]
set_option maxRecDepth 100000 in
theorem oc_Th_highOf : okC 204 c_Th_highOf = true := by decide +kernel
def cu_Th_highOf : List (Nat × List Bool) := []
noncomputable def F_Th_highOf (O : Type) (a : Nat) (av : List AV) (σ : Mem) (K : AV → Mem → Option O) : Option O := if a = 205 then sm_Th_product O av σ K else none
theorem fs_Th_highOf {X : CXT} (hX : XC X) (O : Type) : FS X 3 (F_Th_highOf O) := by
  intro a av σ K o h
  unfold F_Th_highOf at h
  rcases ite_s h with ⟨rfl, h⟩ | ⟨_, h⟩
  · obtain ⟨r, h1, h2, h3⟩ := ok_Th_product hX _ _ _ _ _ h
    exact ⟨r, fun ht => ⟨2, by decide, h1 ht⟩, h2, h3⟩
  cases h
set_option maxRecDepth 100000 in
theorem s_Th_highOf {X : CXT} (hX : XC X) : ∀ (k0 : Nat) (v1 : Int32) (s : Mem) (o : Int64 × Mem), f_Th_highOf k0 v1 s = some o → BSnd X 3 204 (ovL o) 0 (entL [.inr (.inr (7, k0)), .inl v1]) [] s := by
  intro k0 v1 s o h
  rw [f_Th_highOf_eq] at h
  exact evC (chs := c_Th_highOf) (cuts := cu_Th_highOf) (G := fun pc ls st σ => none) hX.2.1 hX.2.2 (F := F_Th_highOf _) (fs_Th_highOf hX _) (rt_L rfl) oc_Th_highOf (by
    intro pc ls st σ o h
    cases h) 144 0 _ _ _ _ h
theorem ok_Th_highOf {X : CXT} (hX : XC X) : SemOK X 3 204 sm_Th_highOf := by
  intro O av σ K o h
  unfold sm_Th_highOf at h
  split at h
  · obtain ⟨r, hf, h⟩ := Option.bind_eq_some_iff.mp h
    exact ⟨ovL r, fun ht => sp_of hX.1 (by decide) (List.mem_range.mpr (by decide)) (by decide +kernel) ht (Nat.le_of_ble_eq_true rfl) (s_Th_highOf hX _ _ _ _ hf), trivial, h⟩
  · cases h
noncomputable def b_Th_lowOf (k0 : Nat) (v1 : Int32) (s : Mem) : Option (Int64 × Mem) :=
  (f_Th_product k0 ((0 : Int32)) ((5 : Int32)) v1 s).bind fun r1 =>
  (f_Th_product k0 ((5 : Int32)) ((10 : Int32)) v1 r1.2).bind fun r2 =>
  some ((r1.1 * (r2.1 - r2.1 / ((100000 : Int64)) * ((100000 : Int64)))) - (r1.1 * (r2.1 - r2.1 / ((100000 : Int64)) * ((100000 : Int64)))) / ((100000 : Int64)) * ((100000 : Int64)), r2.2)
noncomputable def f_Th_lowOf : Nat → Int32 → Mem → Option (Int64 × Mem) := Classical.choose (⟨b_Th_lowOf, rfl⟩ : ∃ f : Nat → Int32 → Mem → Option (Int64 × Mem), f = b_Th_lowOf)
theorem f_Th_lowOf_eq : f_Th_lowOf = b_Th_lowOf := Classical.choose_spec (⟨b_Th_lowOf, rfl⟩ : ∃ f : Nat → Int32 → Mem → Option (Int64 × Mem), f = b_Th_lowOf)
noncomputable def sm_Th_lowOf (O : Type) (av : List AV) (σ : Mem) (K : AV → Mem → Option O) : Option O := match av with
  | [.inr (.inr (7, k0)), .inl v1] => (f_Th_lowOf k0 v1 σ).bind fun r => K (.inr (.inl r.1)) r.2
  | _ => none
def c_Th_lowOf : List (List CE) := [[(0, .aload_n 0, 1, 0, 0, 0), (1, .iconst 0, 1, 0, 0, 0), (2, .iconst 5, 1, 5, 0, 0), (3, .iload_n 1, 1, 0, 0, 0), (4, .invokevirtual 105, 3, 205, 4, 15), (7, .lstore_n 2, 1, 0, 0, 0), (8, .aload_n 0, 1, 0, 0, 0), (9, .iconst 5, 1, 5, 0, 0), (10, .bipush 10, 2, 10, 0, 0), (12, .iload_n 1, 1, 0, 0, 0), (13, .invokevirtual 105, 3, 205, 4, 15)], [(16, .lstore 4, 2, 0, 0, 0), (18, .lload_n 2, 1, 0, 0, 0), (19, .lload 4, 2, 0, 0, 0), (21, .ldc2_w 109, 3, 100000, 0, 0), (24, .lrem, 1, 0, 0, 0), (25, .lmul, 1, 0, 0, 0), (26, .ldc2_w 109, 3, 100000, 0, 0), (29, .lrem, 1, 0, 0, 0), (30, .lreturn, 1, 0, 0, 0)]]
set_option maxRecDepth 100000 in
theorem oc_Th_lowOf : okC 207 c_Th_lowOf = true := by decide +kernel
def cu_Th_lowOf : List (Nat × List Bool) := []
noncomputable def F_Th_lowOf (O : Type) (a : Nat) (av : List AV) (σ : Mem) (K : AV → Mem → Option O) : Option O := if a = 205 then sm_Th_product O av σ K else none
theorem fs_Th_lowOf {X : CXT} (hX : XC X) (O : Type) : FS X 3 (F_Th_lowOf O) := by
  intro a av σ K o h
  unfold F_Th_lowOf at h
  rcases ite_s h with ⟨rfl, h⟩ | ⟨_, h⟩
  · obtain ⟨r, h1, h2, h3⟩ := ok_Th_product hX _ _ _ _ _ h
    exact ⟨r, fun ht => ⟨2, by decide, h1 ht⟩, h2, h3⟩
  cases h
set_option maxRecDepth 100000 in
theorem s_Th_lowOf {X : CXT} (hX : XC X) : ∀ (k0 : Nat) (v1 : Int32) (s : Mem) (o : Int64 × Mem), f_Th_lowOf k0 v1 s = some o → BSnd X 3 207 (ovL o) 0 (entL [.inr (.inr (7, k0)), .inl v1]) [] s := by
  intro k0 v1 s o h
  rw [f_Th_lowOf_eq] at h
  exact evC (chs := c_Th_lowOf) (cuts := cu_Th_lowOf) (G := fun pc ls st σ => none) hX.2.1 hX.2.2 (F := F_Th_lowOf _) (fs_Th_lowOf hX _) (rt_L rfl) oc_Th_lowOf (by
    intro pc ls st σ o h
    cases h) 120 0 _ _ _ _ h
theorem ok_Th_lowOf {X : CXT} (hX : XC X) : SemOK X 3 207 sm_Th_lowOf := by
  intro O av σ K o h
  unfold sm_Th_lowOf at h
  split at h
  · obtain ⟨r, hf, h⟩ := Option.bind_eq_some_iff.mp h
    exact ⟨ovL r, fun ht => sp_of hX.1 (by decide) (List.mem_range.mpr (by decide)) (by decide +kernel) ht (Nat.le_of_ble_eq_true rfl) (s_Th_lowOf hX _ _ _ _ hf), trivial, h⟩
  · cases h
noncomputable def b_Th_isSafer (k0 : Nat) (v1 : Int32) (v2 : Int32) (s : Mem) : Option (Bool × Mem) :=
  (f_Th_highOf k0 v1 s).bind fun r1 =>
  (f_Th_highOf k0 v2 r1.2).bind fun r2 =>
  cif (0 < (lg_cmp r1.1 r2.1)) (
    some (true, r2.2)) (
    cif ((lg_cmp r1.1 r2.1) = 0) (
      (f_Th_lowOf k0 v1 r2.2).bind fun r3 =>
      (f_Th_lowOf k0 v2 r3.2).bind fun r4 =>
      cif ((lg_cmp r3.1 r4.1) ≤ 0) (
        some (false, r4.2)) (
        some (true, r4.2))) (
      some (false, r2.2)))
noncomputable def f_Th_isSafer : Nat → Int32 → Int32 → Mem → Option (Bool × Mem) := Classical.choose (⟨b_Th_isSafer, rfl⟩ : ∃ f : Nat → Int32 → Int32 → Mem → Option (Bool × Mem), f = b_Th_isSafer)
theorem f_Th_isSafer_eq : f_Th_isSafer = b_Th_isSafer := Classical.choose_spec (⟨b_Th_isSafer, rfl⟩ : ∃ f : Nat → Int32 → Int32 → Mem → Option (Bool × Mem), f = b_Th_isSafer)
noncomputable def sm_Th_isSafer (O : Type) (av : List AV) (σ : Mem) (K : AV → Mem → Option O) : Option O := match av with
  | [.inr (.inr (7, k0)), .inl v1, .inl v2] => (f_Th_isSafer k0 v1 v2 σ).bind fun r => K (.inl (b2i r.1)) r.2
  | _ => none
def c_Th_isSafer : List (List CE) := [[(0, .aload_n 0, 1, 0, 0, 0), (1, .iload_n 1, 1, 0, 0, 0), (2, .invokevirtual 98, 3, 204, 2, 15), (5, .lstore_n 3, 1, 0, 0, 0), (6, .aload_n 0, 1, 0, 0, 0), (7, .iload_n 2, 1, 0, 0, 0), (8, .invokevirtual 98, 3, 204, 2, 15), (11, .lstore 5, 2, 0, 0, 0), (13, .lload_n 3, 1, 0, 0, 0), (14, .lload 5, 2, 0, 0, 0)], [(16, .lcmp, 1, 0, 0, 0), (17, .ifCond .gt 24, 3, 41, 0, 0), (20, .lload_n 3, 1, 0, 0, 0), (21, .lload 5, 2, 0, 0, 0), (23, .lcmp, 1, 0, 0, 0), (24, .ifCond .ne 21, 3, 45, 0, 0), (27, .aload_n 0, 1, 0, 0, 0), (28, .iload_n 1, 1, 0, 0, 0), (29, .invokevirtual 102, 3, 207, 2, 15)], [(32, .aload_n 0, 1, 0, 0, 0), (33, .iload_n 2, 1, 0, 0, 0), (34, .invokevirtual 102, 3, 207, 2, 15), (37, .lcmp, 1, 0, 0, 0), (38, .ifCond .le 7, 3, 45, 0, 0), (41, .iconst 1, 1, 1, 0, 0), (42, .goto 4, 3, 46, 0, 0), (45, .iconst 0, 1, 0, 0, 0), (46, .ireturn, 1, 0, 0, 0)]]
set_option maxRecDepth 100000 in
theorem oc_Th_isSafer : okC 203 c_Th_isSafer = true := by decide +kernel
def cu_Th_isSafer : List (Nat × List Bool) := []
noncomputable def F_Th_isSafer (O : Type) (a : Nat) (av : List AV) (σ : Mem) (K : AV → Mem → Option O) : Option O := if a = 204 then sm_Th_highOf O av σ K else if a = 207 then sm_Th_lowOf O av σ K else none
theorem fs_Th_isSafer {X : CXT} (hX : XC X) (O : Type) : FS X 4 (F_Th_isSafer O) := by
  intro a av σ K o h
  unfold F_Th_isSafer at h
  rcases ite_s h with ⟨rfl, h⟩ | ⟨_, h⟩
  · obtain ⟨r, h1, h2, h3⟩ := ok_Th_highOf hX _ _ _ _ _ h
    exact ⟨r, fun ht => ⟨3, by decide, h1 ht⟩, h2, h3⟩
  rcases ite_s h with ⟨rfl, h⟩ | ⟨_, h⟩
  · obtain ⟨r, h1, h2, h3⟩ := ok_Th_lowOf hX _ _ _ _ _ h
    exact ⟨r, fun ht => ⟨3, by decide, h1 ht⟩, h2, h3⟩
  cases h
set_option maxRecDepth 100000 in
theorem s_Th_isSafer {X : CXT} (hX : XC X) : ∀ (k0 : Nat) (v1 : Int32) (v2 : Int32) (s : Mem) (o : Bool × Mem), f_Th_isSafer k0 v1 v2 s = some o → BSnd X 4 203 (ovZ o) 0 (entL [.inr (.inr (7, k0)), .inl v1, .inl v2]) [] s := by
  intro k0 v1 v2 s o h
  rw [f_Th_isSafer_eq] at h
  exact evC (chs := c_Th_isSafer) (cuts := cu_Th_isSafer) (G := fun pc ls st σ => none) hX.2.1 hX.2.2 (F := F_Th_isSafer _) (fs_Th_isSafer hX _) (rt_Z rfl) oc_Th_isSafer (by
    intro pc ls st σ o h
    cases h) 152 0 _ _ _ _ h
theorem ok_Th_isSafer {X : CXT} (hX : XC X) : SemOK X 4 203 sm_Th_isSafer := by
  intro O av σ K o h
  unfold sm_Th_isSafer at h
  split at h
  · obtain ⟨r, hf, h⟩ := Option.bind_eq_some_iff.mp h
    exact ⟨ovZ r, fun ht => sp_of hX.1 (by decide) (List.mem_range.mpr (by decide)) (by decide +kernel) ht (Nat.le_of_ble_eq_true rfl) (s_Th_isSafer hX _ _ _ _ _ hf), trivial, h⟩
  · cases h
noncomputable def f_Th_bestStrengthened_40 (KH : Nat → Int32 → Int32 → Int32 → Mem → Option (Int32 × Mem)) (k0 : Nat) (v1 : Int32) (v2 : Int32) (v3 : Int32) (v4 : Int32) (s : Mem) : Option (Int32 × Mem) :=
  (f_Th_isSafer k0 v3 v2 s).bind fun r1 =>
  cif ((b2i r1.1) = 0) (
    cif (v4 = 0) (
      KH k0 v1 v2 (v3 + (1 : Int32)) r1.2) (
      (f_Th_isSafer k0 v2 v3 r1.2).bind fun r2 =>
      cif ((b2i r2.1) = 0) (
        KH k0 v1 v3 (v3 + (1 : Int32)) r2.2) (
        KH k0 v1 v2 (v3 + (1 : Int32)) r2.2))) (
    KH k0 v1 v3 (v3 + (1 : Int32)) r1.2)
noncomputable def f_Th_bestStrengthened_4 : Nat → Nat → Int32 → Int32 → Int32 → Mem → Option (Int32 × Mem)
  | 0, _, _, _, _, _ => none
  | n + 1, k0, v1, v2, v3, s =>
    cif (((1024 : Int32)) ≤ v3) (
      some (v2, s)) (
      (f_In_bitCount v3 s).bind fun r1 =>
      cif (r1.1 ≤ v1) (
        (f_In_bitCount v3 r1.2).bind fun r2 =>
        (f_In_bitCount v2 r2.2).bind fun r3 =>
        cif (r3.1 ≤ r2.1) (
          f_Th_bestStrengthened_40 (fun k0 v1 v2 v3 s => f_Th_bestStrengthened_4 n k0 v1 v2 v3 s) k0 v1 v2 v3 ((0 : Int32)) r3.2) (
          f_Th_bestStrengthened_40 (fun k0 v1 v2 v3 s => f_Th_bestStrengthened_4 n k0 v1 v2 v3 s) k0 v1 v2 v3 ((1 : Int32)) r3.2)) (
        f_Th_bestStrengthened_4 n k0 v1 v2 (v3 + (1 : Int32)) r1.2))
noncomputable def b_Th_bestStrengthened (k0 : Nat) (v1 : Int32) (s : Mem) : Option (Int32 × Mem) :=
  f_Th_bestStrengthened_4 FU k0 v1 ((0 : Int32)) ((1 : Int32)) s
noncomputable def f_Th_bestStrengthened : Nat → Int32 → Mem → Option (Int32 × Mem) := Classical.choose (⟨b_Th_bestStrengthened, rfl⟩ : ∃ f : Nat → Int32 → Mem → Option (Int32 × Mem), f = b_Th_bestStrengthened)
theorem f_Th_bestStrengthened_eq : f_Th_bestStrengthened = b_Th_bestStrengthened := Classical.choose_spec (⟨b_Th_bestStrengthened, rfl⟩ : ∃ f : Nat → Int32 → Mem → Option (Int32 × Mem), f = b_Th_bestStrengthened)
noncomputable def sm_Th_bestStrengthened (O : Type) (av : List AV) (σ : Mem) (K : AV → Mem → Option O) : Option O := match av with
  | [.inr (.inr (7, k0)), .inl v1] => (f_Th_bestStrengthened k0 v1 σ).bind fun r => K (.inl r.1) r.2
  | _ => none
def c_Th_bestStrengthened : List (List CE) := [[(0, .iconst 0, 1, 0, 0, 0), (1, .istore_n 2, 1, 0, 0, 0), (2, .iconst 1, 1, 1, 0, 0), (3, .istore_n 3, 1, 0, 0, 0), (4, .iload_n 3, 1, 0, 0, 0), (5, .sipush 1024, 3, 1024, 0, 0), (8, .if_icmp .ge 63, 3, 71, 0, 0), (11, .iload_n 3, 1, 0, 0, 0), (12, .invokestatic 111, 3, 163, 1, 1), (15, .iload_n 1, 1, 0, 0, 0)], [(16, .if_icmp .le 6, 3, 22, 0, 0), (19, .goto 46, 3, 65, 0, 0), (22, .iload_n 3, 1, 0, 0, 0), (23, .invokestatic 111, 3, 163, 1, 1), (26, .iload_n 2, 1, 0, 0, 0), (27, .invokestatic 111, 3, 163, 1, 1), (30, .if_icmp .ge 7, 3, 37, 0, 0)], [(33, .iconst 1, 1, 1, 0, 0), (34, .goto 4, 3, 38, 0, 0), (37, .iconst 0, 1, 0, 0, 0), (38, .istore 4, 2, 0, 0, 0), (40, .aload_n 0, 1, 0, 0, 0), (41, .iload_n 3, 1, 0, 0, 0), (42, .iload_n 2, 1, 0, 0, 0), (43, .invokevirtual 116, 3, 203, 3, 15), (46, .ifCond .ne 17, 3, 63, 0, 0)], [(49, .iload 4, 2, 0, 0, 0), (51, .ifCond .eq 14, 3, 65, 0, 0), (54, .aload_n 0, 1, 0, 0, 0), (55, .iload_n 2, 1, 0, 0, 0), (56, .iload_n 3, 1, 0, 0, 0), (57, .invokevirtual 116, 3, 203, 3, 15), (60, .ifCond .ne 5, 3, 65, 0, 0), (63, .iload_n 3, 1, 0, 0, 0)], [(64, .istore_n 2, 1, 0, 0, 0), (65, .iinc 3 1, 3, 1, 0, 0), (68, .goto (-64), 3, 4, 0, 0), (71, .iload_n 2, 1, 0, 0, 0), (72, .ireturn, 1, 0, 0, 0)]]
set_option maxRecDepth 100000 in
theorem oc_Th_bestStrengthened : okC 202 c_Th_bestStrengthened = true := by decide +kernel
def cu_Th_bestStrengthened : List (Nat × List Bool) := [(40, [true, true, true, true, true]), (4, [true, true, true, true])]
noncomputable def F_Th_bestStrengthened (O : Type) (a : Nat) (av : List AV) (σ : Mem) (K : AV → Mem → Option O) : Option O := if a = 163 then sm_In_bitCount O av σ K else if a = 203 then sm_Th_isSafer O av σ K else none
theorem fs_Th_bestStrengthened {X : CXT} (hX : XC X) (O : Type) : FS X 5 (F_Th_bestStrengthened O) := by
  intro a av σ K o h
  unfold F_Th_bestStrengthened at h
  rcases ite_s h with ⟨rfl, h⟩ | ⟨_, h⟩
  · obtain ⟨r, h1, h2, h3⟩ := ok_In_bitCount hX.j _ _ _ _ _ h
    exact ⟨r, fun ht => ⟨1, by decide, h1 ht⟩, h2, h3⟩
  rcases ite_s h with ⟨rfl, h⟩ | ⟨_, h⟩
  · obtain ⟨r, h1, h2, h3⟩ := ok_Th_isSafer hX _ _ _ _ _ h
    exact ⟨r, fun ht => ⟨4, by decide, h1 ht⟩, h2, h3⟩
  cases h
def hd_Th_bestStrengthened_40 {O : Type} (g : Nat → Int32 → Int32 → Int32 → Int32 → Mem → Option O) (ls : OL) (st : List AV) (σ : Mem) : Option O := match ls, st with
  | [some (.inr (.inr (7, k0))), some (.inl v1), some (.inl v2), some (.inl v3), some (.inl v4)], [] => g k0 v1 v2 v3 v4 σ
  | _, _ => none
theorem hs_Th_bestStrengthened_40 {X : CXT} {g : Nat → Int32 → Int32 → Int32 → Int32 → Mem → Option (Int32 × Mem)} (hg : ∀ (k0 : Nat) (v1 : Int32) (v2 : Int32) (v3 : Int32) (v4 : Int32) (s : Mem) (o : Int32 × Mem), g k0 v1 v2 v3 v4 s = some o → BSnd X 5 202 (ovI o) 40 [some (.inr (.inr (7, k0))), some (.inl v1), some (.inl v2), some (.inl v3), some (.inl v4)] [] s) : ∀ ls st σ o, hd_Th_bestStrengthened_40 g ls st σ = some o → BSnd X 5 202 (ovI o) 40 ls st σ := by
  intro ls st σ o h
  unfold hd_Th_bestStrengthened_40 at h
  split at h
  · exact hg _ _ _ _ _ _ _ h
  · cases h
def hd_Th_bestStrengthened_4 {O : Type} (g : Nat → Int32 → Int32 → Int32 → Mem → Option O) (ls : OL) (st : List AV) (σ : Mem) : Option O := match ls, st with
  | [some (.inr (.inr (7, k0))), some (.inl v1), some (.inl v2), some (.inl v3)], [] => g k0 v1 v2 v3 σ
  | _, _ => none
theorem hs_Th_bestStrengthened_4 {X : CXT} {g : Nat → Int32 → Int32 → Int32 → Mem → Option (Int32 × Mem)} (hg : ∀ (k0 : Nat) (v1 : Int32) (v2 : Int32) (v3 : Int32) (s : Mem) (o : Int32 × Mem), g k0 v1 v2 v3 s = some o → BSnd X 5 202 (ovI o) 4 [some (.inr (.inr (7, k0))), some (.inl v1), some (.inl v2), some (.inl v3)] [] s) : ∀ ls st σ o, hd_Th_bestStrengthened_4 g ls st σ = some o → BSnd X 5 202 (ovI o) 4 ls st σ := by
  intro ls st σ o h
  unfold hd_Th_bestStrengthened_4 at h
  split at h
  · exact hg _ _ _ _ _ _ h
  · cases h
set_option maxRecDepth 100000 in
theorem s_Th_bestStrengthened_40 {X : CXT} (hX : XC X) {KH : Nat → Int32 → Int32 → Int32 → Mem → Option (Int32 × Mem)} (hKH : ∀ (k0 : Nat) (v1 : Int32) (v2 : Int32) (v3 : Int32) (s : Mem) (o : Int32 × Mem), KH k0 v1 v2 v3 s = some o → BSnd X 5 202 (ovI o) 4 [some (.inr (.inr (7, k0))), some (.inl v1), some (.inl v2), some (.inl v3)] [] s) : ∀ (k0 : Nat) (v1 : Int32) (v2 : Int32) (v3 : Int32) (v4 : Int32) (s : Mem) (o : Int32 × Mem), f_Th_bestStrengthened_40 KH k0 v1 v2 v3 v4 s = some o → BSnd X 5 202 (ovI o) 40 [some (.inr (.inr (7, k0))), some (.inl v1), some (.inl v2), some (.inl v3), some (.inl v4)] [] s := by
  intro k0 v1 v2 v3 v4 s o h
  exact evC (chs := c_Th_bestStrengthened) (cuts := cu_Th_bestStrengthened) (G := fun pc ls st σ => if pc = 4 then hd_Th_bestStrengthened_4 (fun k0 v1 v2 v3 s => KH k0 v1 v2 v3 s) ls st σ else none) hX.2.1 hX.2.2 (F := F_Th_bestStrengthened _) (fs_Th_bestStrengthened hX _) (rt_I rfl) oc_Th_bestStrengthened (by
    intro pc ls st σ o h
    rcases ite_s h with ⟨rfl, h⟩ | ⟨_, h⟩
    · exact hs_Th_bestStrengthened_4 hKH _ _ _ _ h
    cases h) 196 40 _ _ _ _ h
set_option maxRecDepth 100000 in
theorem s_Th_bestStrengthened_4 {X : CXT} (hX : XC X) : ∀ n : Nat, ∀ (k0 : Nat) (v1 : Int32) (v2 : Int32) (v3 : Int32) (s : Mem) (o : Int32 × Mem), f_Th_bestStrengthened_4 n k0 v1 v2 v3 s = some o → BSnd X 5 202 (ovI o) 4 [some (.inr (.inr (7, k0))), some (.inl v1), some (.inl v2), some (.inl v3)] [] s := by
  intro n
  induction n with
  | zero => intro k0 v1 v2 v3 s o h; cases h
  | succ n ih =>
    intro k0 v1 v2 v3 s o h
    exact evC (chs := c_Th_bestStrengthened) (cuts := cu_Th_bestStrengthened) (G := fun pc ls st σ => if pc = 40 then hd_Th_bestStrengthened_40 (fun k0 v1 v2 v3 v4 s => f_Th_bestStrengthened_40 (fun k0 v1 v2 v3 s => f_Th_bestStrengthened_4 n k0 v1 v2 v3 s) k0 v1 v2 v3 v4 s) ls st σ else if pc = 4 then hd_Th_bestStrengthened_4 (fun k0 v1 v2 v3 s => f_Th_bestStrengthened_4 n k0 v1 v2 v3 s) ls st σ else none) hX.2.1 hX.2.2 (F := F_Th_bestStrengthened _) (fs_Th_bestStrengthened hX _) (rt_I rfl) oc_Th_bestStrengthened (by
    intro pc ls st σ o h
    rcases ite_s h with ⟨rfl, h⟩ | ⟨_, h⟩
    · exact hs_Th_bestStrengthened_40 (s_Th_bestStrengthened_40 hX ih) _ _ _ _ h
    rcases ite_s h with ⟨rfl, h⟩ | ⟨_, h⟩
    · exact hs_Th_bestStrengthened_4 ih _ _ _ _ h
    cases h) 196 4 _ _ _ _ h
set_option maxRecDepth 100000 in
theorem s_Th_bestStrengthened {X : CXT} (hX : XC X) : ∀ (k0 : Nat) (v1 : Int32) (s : Mem) (o : Int32 × Mem), f_Th_bestStrengthened k0 v1 s = some o → BSnd X 5 202 (ovI o) 0 (entL [.inr (.inr (7, k0)), .inl v1]) [] s := by
  intro k0 v1 s o h
  rw [f_Th_bestStrengthened_eq] at h
  exact evC (chs := c_Th_bestStrengthened) (cuts := cu_Th_bestStrengthened) (G := fun pc ls st σ => if pc = 4 then hd_Th_bestStrengthened_4 (fun k0 v1 v2 v3 s => f_Th_bestStrengthened_4 FU k0 v1 v2 v3 s) ls st σ else none) hX.2.1 hX.2.2 (F := F_Th_bestStrengthened _) (fs_Th_bestStrengthened hX _) (rt_I rfl) oc_Th_bestStrengthened (by
    intro pc ls st σ o h
    rcases ite_s h with ⟨rfl, h⟩ | ⟨_, h⟩
    · exact hs_Th_bestStrengthened_4 (s_Th_bestStrengthened_4 hX FU) _ _ _ _ h
    cases h) 196 0 _ _ _ _ h
theorem ok_Th_bestStrengthened {X : CXT} (hX : XC X) : SemOK X 5 202 sm_Th_bestStrengthened := by
  intro O av σ K o h
  unfold sm_Th_bestStrengthened at h
  split at h
  · obtain ⟨r, hf, h⟩ := Option.bind_eq_some_iff.mp h
    exact ⟨ovI r, fun ht => sp_of hX.1 (by decide) (List.mem_range.mpr (by decide)) (by decide +kernel) ht (Nat.le_of_ble_eq_true rfl) (s_Th_bestStrengthened hX _ _ _ _ hf), trivial, h⟩
  · cases h
noncomputable def f_Th_millionth_5 : Nat → Nat → Int32 → Int32 → Int32 → Mem → Option (Int32 × Mem)
  | 0, _, _, _, _, _ => none
  | n + 1, k0, v1, v2, v3, s =>
    cif (((10 : Int32)) ≤ v3) (
      some (v2, s)) (
      (f_Th_holds k0 v3 v1 s).bind fun r1 =>
      let x2 : Int32 := (v2 * r1.1) / ((100 : Int32))
      f_Th_millionth_5 n k0 v1 x2 (v3 + (1 : Int32)) r1.2)
noncomputable def b_Th_millionth (k0 : Nat) (v1 : Int32) (s : Mem) : Option (Int32 × Mem) :=
  f_Th_millionth_5 FU k0 v1 ((1000000 : Int32)) ((0 : Int32)) s
noncomputable def f_Th_millionth : Nat → Int32 → Mem → Option (Int32 × Mem) := Classical.choose (⟨b_Th_millionth, rfl⟩ : ∃ f : Nat → Int32 → Mem → Option (Int32 × Mem), f = b_Th_millionth)
theorem f_Th_millionth_eq : f_Th_millionth = b_Th_millionth := Classical.choose_spec (⟨b_Th_millionth, rfl⟩ : ∃ f : Nat → Int32 → Mem → Option (Int32 × Mem), f = b_Th_millionth)
noncomputable def sm_Th_millionth (O : Type) (av : List AV) (σ : Mem) (K : AV → Mem → Option O) : Option O := match av with
  | [.inr (.inr (7, k0)), .inl v1] => (f_Th_millionth k0 v1 σ).bind fun r => K (.inl r.1) r.2
  | _ => none
def c_Th_millionth : List (List CE) := [[(0, .ldc 119, 2, 1000000, 0, 0), (2, .istore_n 2, 1, 0, 0, 0), (3, .iconst 0, 1, 0, 0, 0), (4, .istore_n 3, 1, 0, 0, 0), (5, .iload_n 3, 1, 0, 0, 0), (6, .bipush 10, 2, 10, 0, 0), (8, .if_icmp .ge 21, 3, 29, 0, 0), (11, .iload_n 2, 1, 0, 0, 0), (12, .aload_n 0, 1, 0, 0, 0), (13, .iload_n 3, 1, 0, 0, 0), (14, .iload_n 1, 1, 0, 0, 0), (15, .invokevirtual 95, 3, 206, 3, 15)], [(18, .imul, 1, 0, 0, 0), (19, .bipush 100, 2, 100, 0, 0), (21, .idiv, 1, 0, 0, 0), (22, .istore_n 2, 1, 0, 0, 0), (23, .iinc 3 1, 3, 1, 0, 0), (26, .goto (-21), 3, 5, 0, 0), (29, .iload_n 2, 1, 0, 0, 0), (30, .ireturn, 1, 0, 0, 0)]]
set_option maxRecDepth 100000 in
theorem oc_Th_millionth : okC 208 c_Th_millionth = true := by decide +kernel
def cu_Th_millionth : List (Nat × List Bool) := [(5, [true, true, true, true])]
noncomputable def F_Th_millionth (O : Type) (a : Nat) (av : List AV) (σ : Mem) (K : AV → Mem → Option O) : Option O := if a = 206 then sm_Th_holds O av σ K else none
theorem fs_Th_millionth {X : CXT} (hX : XC X) (O : Type) : FS X 2 (F_Th_millionth O) := by
  intro a av σ K o h
  unfold F_Th_millionth at h
  rcases ite_s h with ⟨rfl, h⟩ | ⟨_, h⟩
  · obtain ⟨r, h1, h2, h3⟩ := ok_Th_holds hX _ _ _ _ _ h
    exact ⟨r, fun ht => ⟨1, by decide, h1 ht⟩, h2, h3⟩
  cases h
def hd_Th_millionth_5 {O : Type} (g : Nat → Int32 → Int32 → Int32 → Mem → Option O) (ls : OL) (st : List AV) (σ : Mem) : Option O := match ls, st with
  | [some (.inr (.inr (7, k0))), some (.inl v1), some (.inl v2), some (.inl v3)], [] => g k0 v1 v2 v3 σ
  | _, _ => none
theorem hs_Th_millionth_5 {X : CXT} {g : Nat → Int32 → Int32 → Int32 → Mem → Option (Int32 × Mem)} (hg : ∀ (k0 : Nat) (v1 : Int32) (v2 : Int32) (v3 : Int32) (s : Mem) (o : Int32 × Mem), g k0 v1 v2 v3 s = some o → BSnd X 2 208 (ovI o) 5 [some (.inr (.inr (7, k0))), some (.inl v1), some (.inl v2), some (.inl v3)] [] s) : ∀ ls st σ o, hd_Th_millionth_5 g ls st σ = some o → BSnd X 2 208 (ovI o) 5 ls st σ := by
  intro ls st σ o h
  unfold hd_Th_millionth_5 at h
  split at h
  · exact hg _ _ _ _ _ _ h
  · cases h
set_option maxRecDepth 100000 in
theorem s_Th_millionth_5 {X : CXT} (hX : XC X) : ∀ n : Nat, ∀ (k0 : Nat) (v1 : Int32) (v2 : Int32) (v3 : Int32) (s : Mem) (o : Int32 × Mem), f_Th_millionth_5 n k0 v1 v2 v3 s = some o → BSnd X 2 208 (ovI o) 5 [some (.inr (.inr (7, k0))), some (.inl v1), some (.inl v2), some (.inl v3)] [] s := by
  intro n
  induction n with
  | zero => intro k0 v1 v2 v3 s o h; cases h
  | succ n ih =>
    intro k0 v1 v2 v3 s o h
    exact evC (chs := c_Th_millionth) (cuts := cu_Th_millionth) (G := fun pc ls st σ => if pc = 5 then hd_Th_millionth_5 (fun k0 v1 v2 v3 s => f_Th_millionth_5 n k0 v1 v2 v3 s) ls st σ else none) hX.2.1 hX.2.2 (F := F_Th_millionth _) (fs_Th_millionth hX _) (rt_I rfl) oc_Th_millionth (by
    intro pc ls st σ o h
    rcases ite_s h with ⟨rfl, h⟩ | ⟨_, h⟩
    · exact hs_Th_millionth_5 ih _ _ _ _ h
    cases h) 120 5 _ _ _ _ h
set_option maxRecDepth 100000 in
theorem s_Th_millionth {X : CXT} (hX : XC X) : ∀ (k0 : Nat) (v1 : Int32) (s : Mem) (o : Int32 × Mem), f_Th_millionth k0 v1 s = some o → BSnd X 2 208 (ovI o) 0 (entL [.inr (.inr (7, k0)), .inl v1]) [] s := by
  intro k0 v1 s o h
  rw [f_Th_millionth_eq] at h
  exact evC (chs := c_Th_millionth) (cuts := cu_Th_millionth) (G := fun pc ls st σ => if pc = 5 then hd_Th_millionth_5 (fun k0 v1 v2 v3 s => f_Th_millionth_5 FU k0 v1 v2 v3 s) ls st σ else none) hX.2.1 hX.2.2 (F := F_Th_millionth _) (fs_Th_millionth hX _) (rt_I rfl) oc_Th_millionth (by
    intro pc ls st σ o h
    rcases ite_s h with ⟨rfl, h⟩ | ⟨_, h⟩
    · exact hs_Th_millionth_5 (s_Th_millionth_5 hX FU) _ _ _ _ h
    cases h) 120 0 _ _ _ _ h
theorem ok_Th_millionth {X : CXT} (hX : XC X) : SemOK X 2 208 sm_Th_millionth := by
  intro O av σ K o h
  unfold sm_Th_millionth at h
  split at h
  · obtain ⟨r, hf, h⟩ := Option.bind_eq_some_iff.mp h
    exact ⟨ovI r, fun ht => sp_of hX.1 (by decide) (List.mem_range.mpr (by decide)) (by decide +kernel) ht (Nat.le_of_ble_eq_true rfl) (s_Th_millionth hX _ _ _ _ hf), trivial, h⟩
  · cases h
noncomputable def b_P_strength (k0 : Nat) (v1 : Int32) (v2 : Int32) (s : Mem) : Option (Int32 × Mem) :=
  (f_P_within v1 ((0 : Int32)) ((5 : Int32)) s).bind fun r1 =>
  cif ((b2i r1.1) = 0) (
    some ((-1 : Int32), r1.2)) (
    (f_P_within v2 ((0 : Int32)) ((1 : Int32)) r1.2).bind fun r2 =>
    cif ((b2i r2.1) = 0) (
      some ((-1 : Int32), r2.2)) (
      (f_Th_bestStrengthened (k0 + 30) v1 r2.2).bind fun r3 =>
      cif (v2 = 0) (
        some (r3.1, r3.2)) (
        (f_Th_millionth (k0 + 30) r3.1 r3.2).bind fun r4 =>
        some (r4.1, r4.2))))
noncomputable def f_P_strength : Nat → Int32 → Int32 → Mem → Option (Int32 × Mem) := Classical.choose (⟨b_P_strength, rfl⟩ : ∃ f : Nat → Int32 → Int32 → Mem → Option (Int32 × Mem), f = b_P_strength)
theorem f_P_strength_eq : f_P_strength = b_P_strength := Classical.choose_spec (⟨b_P_strength, rfl⟩ : ∃ f : Nat → Int32 → Int32 → Mem → Option (Int32 × Mem), f = b_P_strength)
noncomputable def sm_P_strength (O : Type) (av : List AV) (σ : Mem) (K : AV → Mem → Option O) : Option O := match av with
  | [.inr (.inr (11, k0)), .inl v1, .inl v2] => (f_P_strength k0 v1 v2 σ).bind fun r => K (.inl r.1) r.2
  | _ => none
def c_P_strength : List (List CE) := [[(0, .iload_n 1, 1, 0, 0, 0), (1, .iconst 0, 1, 0, 0, 0), (2, .iconst 5, 1, 5, 0, 0), (3, .invokestatic 80, 3, 17, 3, 1), (6, .ifCond .eq 12, 3, 18, 0, 0), (9, .iload_n 2, 1, 0, 0, 0), (10, .iconst 0, 1, 0, 0, 0), (11, .iconst 1, 1, 1, 0, 0), (12, .invokestatic 80, 3, 17, 3, 1), (15, .ifCond .ne 5, 3, 20, 0, 0)], [(18, .iconst (-1), 1, 1, 0, 1), (19, .ireturn, 1, 0, 0, 0), (20, .aload_n 0, 1, 0, 0, 0), (21, .getfield 10, 3, 11, 0, 0), (24, .getfield 288, 3, 10, 2, 0), (27, .iload_n 1, 1, 0, 0, 0), (28, .invokevirtual 401, 3, 202, 2, 15), (31, .istore_n 3, 1, 0, 0, 0)], [(32, .iload_n 2, 1, 0, 0, 0), (33, .ifCond .ne 7, 3, 40, 0, 0), (36, .iload_n 3, 1, 0, 0, 0), (37, .goto 14, 3, 51, 0, 0), (40, .aload_n 0, 1, 0, 0, 0), (41, .getfield 10, 3, 11, 0, 0), (44, .getfield 288, 3, 10, 2, 0), (47, .iload_n 3, 1, 0, 0, 0)], [(48, .invokevirtual 404, 3, 208, 2, 15), (51, .ireturn, 1, 0, 0, 0)]]
set_option maxRecDepth 100000 in
theorem oc_P_strength : okC 201 c_P_strength = true := by decide +kernel
def cu_P_strength : List (Nat × List Bool) := []
noncomputable def F_P_strength (O : Type) (a : Nat) (av : List AV) (σ : Mem) (K : AV → Mem → Option O) : Option O := if a = 17 then sm_P_within O av σ K else if a = 202 then sm_Th_bestStrengthened O av σ K else if a = 208 then sm_Th_millionth O av σ K else none
theorem fs_P_strength {X : CXT} (hX : XC X) (O : Type) : FS X 6 (F_P_strength O) := by
  intro a av σ K o h
  unfold F_P_strength at h
  rcases ite_s h with ⟨rfl, h⟩ | ⟨_, h⟩
  · obtain ⟨r, h1, h2, h3⟩ := ok_P_within hX _ _ _ _ _ h
    exact ⟨r, fun ht => ⟨1, by decide, h1 ht⟩, h2, h3⟩
  rcases ite_s h with ⟨rfl, h⟩ | ⟨_, h⟩
  · obtain ⟨r, h1, h2, h3⟩ := ok_Th_bestStrengthened hX _ _ _ _ _ h
    exact ⟨r, fun ht => ⟨5, by decide, h1 ht⟩, h2, h3⟩
  rcases ite_s h with ⟨rfl, h⟩ | ⟨_, h⟩
  · obtain ⟨r, h1, h2, h3⟩ := ok_Th_millionth hX _ _ _ _ _ h
    exact ⟨r, fun ht => ⟨2, by decide, h1 ht⟩, h2, h3⟩
  cases h
set_option maxRecDepth 100000 in
theorem s_P_strength {X : CXT} (hX : XC X) : ∀ (k0 : Nat) (v1 : Int32) (v2 : Int32) (s : Mem) (o : Int32 × Mem), f_P_strength k0 v1 v2 s = some o → BSnd X 6 201 (ovI o) 0 (entL [.inr (.inr (11, k0)), .inl v1, .inl v2]) [] s := by
  intro k0 v1 v2 s o h
  rw [f_P_strength_eq] at h
  exact evC (chs := c_P_strength) (cuts := cu_P_strength) (G := fun pc ls st σ => none) hX.2.1 hX.2.2 (F := F_P_strength _) (fs_P_strength hX _) (rt_I rfl) oc_P_strength (by
    intro pc ls st σ o h
    cases h) 152 0 _ _ _ _ h
theorem ok_P_strength {X : CXT} (hX : XC X) : SemOK X 6 201 sm_P_strength := by
  intro O av σ K o h
  unfold sm_P_strength at h
  split at h
  · obtain ⟨r, hf, h⟩ := Option.bind_eq_some_iff.mp h
    exact ⟨ovI r, fun ht => sp_of hX.1 (by decide) (List.mem_range.mpr (by decide)) (by decide +kernel) ht (Nat.le_of_ble_eq_true rfl) (s_P_strength hX _ _ _ _ _ hf), trivial, h⟩
  · cases h
noncomputable def f_P_furthestBed_72 (KH : Nat → Int32 → Nat → Int32 → Int32 → Mem → Option (Int32 × Mem)) (k0 : Nat) (v2 : Int32) (k3 : Nat) (v4 : Int32) (v5 : Int32) (v6 : Int32) (v7 : Int32) (s : Mem) : Option (Int32 × Mem) :=
  cif (v7 = 0) (
    KH k0 v2 k3 v4 (v5 + (1 : Int32)) s) (
    cif (v2 < v6) (
      KH k0 v2 k3 v4 (v5 + (1 : Int32)) s) (
      let x1 : Int32 := imx v4 v6
      KH k0 v2 k3 x1 (v5 + (1 : Int32)) s))
noncomputable def f_P_furthestBed_69 (KH : Nat → Int32 → Nat → Int32 → Int32 → Mem → Option (Int32 × Mem)) (k0 : Nat) (v2 : Int32) (k3 : Nat) (v4 : Int32) (v5 : Int32) (v6 : Int32) (s : Mem) : Option (Int32 × Mem) :=
  f_P_furthestBed_72 (KH) k0 v2 k3 v4 v5 v6 ((0 : Int32)) s
noncomputable def f_P_furthestBed_17 : Nat → Nat → Int32 → Nat → Int32 → Int32 → Mem → Option (Int32 × Mem)
  | 0, _, _, _, _, _, _ => none
  | n + 1, k0, v2, k3, v4, v5, s =>
    cif ((rI s k3 3) ≤ v5) (
      some (v4, s)) (
      (f_Ro_second k3 v5 s).bind fun r1 =>
      let x2 : Int32 := r1.1 + ((1 : Int32))
      (f_Ro_first k3 v5 r1.2).bind fun r3 =>
      cif (r3.1 = ((1 : Int32))) (
        (f_Ro_second k3 v5 r3.2).bind fun r4 =>
        (f_Pi_isWhole (k0 + 2) r4.1 r4.2).bind fun r5 =>
        cif ((b2i r5.1) = 0) (
          f_P_furthestBed_69 (fun k0 v2 k3 v4 v5 s => f_P_furthestBed_17 n k0 v2 k3 v4 v5 s) k0 v2 k3 v4 v5 x2 r5.2) (
          f_P_furthestBed_72 (fun k0 v2 k3 v4 v5 s => f_P_furthestBed_17 n k0 v2 k3 v4 v5 s) k0 v2 k3 v4 v5 x2 ((1 : Int32)) r5.2)) (
        f_P_furthestBed_69 (fun k0 v2 k3 v4 v5 s => f_P_furthestBed_17 n k0 v2 k3 v4 v5 s) k0 v2 k3 v4 v5 x2 r3.2))
noncomputable def b_P_furthestBed (k0 : Nat) (v1 : Int32) (v2 : Int32) (s : Mem) : Option (Int32 × Mem) :=
  f_P_furthestBed_17 FU k0 v2 (k0 + 22) v1 ((0 : Int32)) s
noncomputable def f_P_furthestBed : Nat → Int32 → Int32 → Mem → Option (Int32 × Mem) := Classical.choose (⟨b_P_furthestBed, rfl⟩ : ∃ f : Nat → Int32 → Int32 → Mem → Option (Int32 × Mem), f = b_P_furthestBed)
theorem f_P_furthestBed_eq : f_P_furthestBed = b_P_furthestBed := Classical.choose_spec (⟨b_P_furthestBed, rfl⟩ : ∃ f : Nat → Int32 → Int32 → Mem → Option (Int32 × Mem), f = b_P_furthestBed)
noncomputable def sm_P_furthestBed (O : Type) (av : List AV) (σ : Mem) (K : AV → Mem → Option O) : Option O := match av with
  | [.inr (.inr (11, k0)), .inl v1, .inl v2] => (f_P_furthestBed k0 v1 v2 σ).bind fun r => K (.inl r.1) r.2
  | _ => none
def c_P_furthestBed : List (List CE) := [[(0, .aload_n 0, 1, 0, 0, 0), (1, .getfield 10, 3, 11, 0, 0), (4, .getfield 30, 3, 10, 1, 0), (7, .getfield 197, 3, 8, 5, 0), (10, .astore_n 3, 1, 0, 0, 0), (11, .iload_n 1, 1, 0, 0, 0), (12, .istore 4, 2, 0, 0, 0), (14, .iconst 0, 1, 0, 0, 0), (15, .istore 5, 2, 0, 0, 0)], [(17, .iload 5, 2, 0, 0, 0), (19, .aload_n 3, 1, 0, 0, 0), (20, .getfield 313, 3, 6, 3, 0), (23, .if_icmp .ge 75, 3, 98, 0, 0), (26, .aload_n 3, 1, 0, 0, 0), (27, .iload 5, 2, 0, 0, 0), (29, .invokevirtual 413, 3, 55, 2, 13)], [(32, .iconst 1, 1, 1, 0, 0), (33, .iadd, 1, 0, 0, 0), (34, .istore 6, 2, 0, 0, 0), (36, .aload_n 3, 1, 0, 0, 0), (37, .iload 5, 2, 0, 0, 0), (39, .invokevirtual 321, 3, 54, 2, 13), (42, .iconst 1, 1, 1, 0, 0), (43, .if_icmp .ne 26, 3, 69, 0, 0), (46, .aload_n 0, 1, 0, 0, 0), (47, .getfield 10, 3, 11, 0, 0)], [(50, .getfield 70, 3, 10, 0, 0), (53, .aload_n 3, 1, 0, 0, 0), (54, .iload 5, 2, 0, 0, 0), (56, .invokevirtual 413, 3, 55, 2, 13), (59, .invokevirtual 134, 3, 43, 2, 9), (62, .ifCond .eq 7, 3, 69, 0, 0)], [(65, .iconst 1, 1, 1, 0, 0), (66, .goto 4, 3, 70, 0, 0), (69, .iconst 0, 1, 0, 0, 0), (70, .istore 7, 2, 0, 0, 0), (72, .iload 7, 2, 0, 0, 0), (74, .ifCond .eq 18, 3, 92, 0, 0), (77, .iload 6, 2, 0, 0, 0), (79, .iload_n 2, 1, 0, 0, 0)], [(80, .if_icmp .gt 12, 3, 92, 0, 0), (83, .iload 4, 2, 0, 0, 0), (85, .iload 6, 2, 0, 0, 0), (87, .invokestatic 416, 3, 7, 2, 2), (90, .istore 4, 2, 0, 0, 0), (92, .iinc 5 1, 3, 1, 0, 0), (95, .goto (-78), 3, 17, 0, 0)], [(98, .iload 4, 2, 0, 0, 0), (100, .ireturn, 1, 0, 0, 0)]]
set_option maxRecDepth 100000 in
theorem oc_P_furthestBed : okC 211 c_P_furthestBed = true := by decide +kernel
def cu_P_furthestBed : List (Nat × List Bool) := [(72, [true, false, true, true, true, true, true, true]), (69, [true, false, true, true, true, true, true]), (17, [true, false, true, true, true, true])]
noncomputable def F_P_furthestBed (O : Type) (a : Nat) (av : List AV) (σ : Mem) (K : AV → Mem → Option O) : Option O := if a = 43 then sm_Pi_isWhole O av σ K else if a = 54 then sm_Ro_first O av σ K else if a = 55 then sm_Ro_second O av σ K else none
theorem fs_P_furthestBed {X : CXT} (hX : XC X) (O : Type) : FS X 4 (F_P_furthestBed O) := by
  intro a av σ K o h
  unfold F_P_furthestBed at h
  rcases ite_s h with ⟨rfl, h⟩ | ⟨_, h⟩
  · obtain ⟨r, h1, h2, h3⟩ := ok_Pi_isWhole hX _ _ _ _ _ h
    exact ⟨r, fun ht => ⟨3, by decide, h1 ht⟩, h2, h3⟩
  rcases ite_s h with ⟨rfl, h⟩ | ⟨_, h⟩
  · obtain ⟨r, h1, h2, h3⟩ := ok_Ro_first hX _ _ _ _ _ h
    exact ⟨r, fun ht => ⟨2, by decide, h1 ht⟩, h2, h3⟩
  rcases ite_s h with ⟨rfl, h⟩ | ⟨_, h⟩
  · obtain ⟨r, h1, h2, h3⟩ := ok_Ro_second hX _ _ _ _ _ h
    exact ⟨r, fun ht => ⟨2, by decide, h1 ht⟩, h2, h3⟩
  cases h
def hd_P_furthestBed_72 {O : Type} (g : Nat → Int32 → Nat → Int32 → Int32 → Int32 → Int32 → Mem → Option O) (ls : OL) (st : List AV) (σ : Mem) : Option O := match ls, st with
  | [some (.inr (.inr (11, k0))), none, some (.inl v2), some (.inr (.inr (6, k3))), some (.inl v4), some (.inl v5), some (.inl v6), some (.inl v7)], [] => g k0 v2 k3 v4 v5 v6 v7 σ
  | _, _ => none
theorem hs_P_furthestBed_72 {X : CXT} {g : Nat → Int32 → Nat → Int32 → Int32 → Int32 → Int32 → Mem → Option (Int32 × Mem)} (hg : ∀ (k0 : Nat) (v2 : Int32) (k3 : Nat) (v4 : Int32) (v5 : Int32) (v6 : Int32) (v7 : Int32) (s : Mem) (o : Int32 × Mem), g k0 v2 k3 v4 v5 v6 v7 s = some o → BSnd X 4 211 (ovI o) 72 [some (.inr (.inr (11, k0))), none, some (.inl v2), some (.inr (.inr (6, k3))), some (.inl v4), some (.inl v5), some (.inl v6), some (.inl v7)] [] s) : ∀ ls st σ o, hd_P_furthestBed_72 g ls st σ = some o → BSnd X 4 211 (ovI o) 72 ls st σ := by
  intro ls st σ o h
  unfold hd_P_furthestBed_72 at h
  split at h
  · exact hg _ _ _ _ _ _ _ _ _ h
  · cases h
def hd_P_furthestBed_69 {O : Type} (g : Nat → Int32 → Nat → Int32 → Int32 → Int32 → Mem → Option O) (ls : OL) (st : List AV) (σ : Mem) : Option O := match ls, st with
  | [some (.inr (.inr (11, k0))), none, some (.inl v2), some (.inr (.inr (6, k3))), some (.inl v4), some (.inl v5), some (.inl v6)], [] => g k0 v2 k3 v4 v5 v6 σ
  | _, _ => none
theorem hs_P_furthestBed_69 {X : CXT} {g : Nat → Int32 → Nat → Int32 → Int32 → Int32 → Mem → Option (Int32 × Mem)} (hg : ∀ (k0 : Nat) (v2 : Int32) (k3 : Nat) (v4 : Int32) (v5 : Int32) (v6 : Int32) (s : Mem) (o : Int32 × Mem), g k0 v2 k3 v4 v5 v6 s = some o → BSnd X 4 211 (ovI o) 69 [some (.inr (.inr (11, k0))), none, some (.inl v2), some (.inr (.inr (6, k3))), some (.inl v4), some (.inl v5), some (.inl v6)] [] s) : ∀ ls st σ o, hd_P_furthestBed_69 g ls st σ = some o → BSnd X 4 211 (ovI o) 69 ls st σ := by
  intro ls st σ o h
  unfold hd_P_furthestBed_69 at h
  split at h
  · exact hg _ _ _ _ _ _ _ _ h
  · cases h
def hd_P_furthestBed_17 {O : Type} (g : Nat → Int32 → Nat → Int32 → Int32 → Mem → Option O) (ls : OL) (st : List AV) (σ : Mem) : Option O := match ls, st with
  | [some (.inr (.inr (11, k0))), none, some (.inl v2), some (.inr (.inr (6, k3))), some (.inl v4), some (.inl v5)], [] => g k0 v2 k3 v4 v5 σ
  | _, _ => none
theorem hs_P_furthestBed_17 {X : CXT} {g : Nat → Int32 → Nat → Int32 → Int32 → Mem → Option (Int32 × Mem)} (hg : ∀ (k0 : Nat) (v2 : Int32) (k3 : Nat) (v4 : Int32) (v5 : Int32) (s : Mem) (o : Int32 × Mem), g k0 v2 k3 v4 v5 s = some o → BSnd X 4 211 (ovI o) 17 [some (.inr (.inr (11, k0))), none, some (.inl v2), some (.inr (.inr (6, k3))), some (.inl v4), some (.inl v5)] [] s) : ∀ ls st σ o, hd_P_furthestBed_17 g ls st σ = some o → BSnd X 4 211 (ovI o) 17 ls st σ := by
  intro ls st σ o h
  unfold hd_P_furthestBed_17 at h
  split at h
  · exact hg _ _ _ _ _ _ _ h
  · cases h
set_option maxRecDepth 100000 in
theorem s_P_furthestBed_72 {X : CXT} (hX : XC X) {KH : Nat → Int32 → Nat → Int32 → Int32 → Mem → Option (Int32 × Mem)} (hKH : ∀ (k0 : Nat) (v2 : Int32) (k3 : Nat) (v4 : Int32) (v5 : Int32) (s : Mem) (o : Int32 × Mem), KH k0 v2 k3 v4 v5 s = some o → BSnd X 4 211 (ovI o) 17 [some (.inr (.inr (11, k0))), none, some (.inl v2), some (.inr (.inr (6, k3))), some (.inl v4), some (.inl v5)] [] s) : ∀ (k0 : Nat) (v2 : Int32) (k3 : Nat) (v4 : Int32) (v5 : Int32) (v6 : Int32) (v7 : Int32) (s : Mem) (o : Int32 × Mem), f_P_furthestBed_72 KH k0 v2 k3 v4 v5 v6 v7 s = some o → BSnd X 4 211 (ovI o) 72 [some (.inr (.inr (11, k0))), none, some (.inl v2), some (.inr (.inr (6, k3))), some (.inl v4), some (.inl v5), some (.inl v6), some (.inl v7)] [] s := by
  intro k0 v2 k3 v4 v5 v6 v7 s o h
  exact evC (chs := c_P_furthestBed) (cuts := cu_P_furthestBed) (G := fun pc ls st σ => if pc = 17 then hd_P_furthestBed_17 (fun k0 v2 k3 v4 v5 s => KH k0 v2 k3 v4 v5 s) ls st σ else none) hX.2.1 hX.2.2 (F := F_P_furthestBed _) (fs_P_furthestBed hX _) (rt_I rfl) oc_P_furthestBed (by
    intro pc ls st σ o h
    rcases ite_s h with ⟨rfl, h⟩ | ⟨_, h⟩
    · exact hs_P_furthestBed_17 hKH _ _ _ _ h
    cases h) 236 72 _ _ _ _ h
set_option maxRecDepth 100000 in
theorem s_P_furthestBed_69 {X : CXT} (hX : XC X) {KH : Nat → Int32 → Nat → Int32 → Int32 → Mem → Option (Int32 × Mem)} (hKH : ∀ (k0 : Nat) (v2 : Int32) (k3 : Nat) (v4 : Int32) (v5 : Int32) (s : Mem) (o : Int32 × Mem), KH k0 v2 k3 v4 v5 s = some o → BSnd X 4 211 (ovI o) 17 [some (.inr (.inr (11, k0))), none, some (.inl v2), some (.inr (.inr (6, k3))), some (.inl v4), some (.inl v5)] [] s) : ∀ (k0 : Nat) (v2 : Int32) (k3 : Nat) (v4 : Int32) (v5 : Int32) (v6 : Int32) (s : Mem) (o : Int32 × Mem), f_P_furthestBed_69 KH k0 v2 k3 v4 v5 v6 s = some o → BSnd X 4 211 (ovI o) 69 [some (.inr (.inr (11, k0))), none, some (.inl v2), some (.inr (.inr (6, k3))), some (.inl v4), some (.inl v5), some (.inl v6)] [] s := by
  intro k0 v2 k3 v4 v5 v6 s o h
  exact evC (chs := c_P_furthestBed) (cuts := cu_P_furthestBed) (G := fun pc ls st σ => if pc = 72 then hd_P_furthestBed_72 (fun k0 v2 k3 v4 v5 v6 v7 s => f_P_furthestBed_72 (KH) k0 v2 k3 v4 v5 v6 v7 s) ls st σ else if pc = 17 then hd_P_furthestBed_17 (fun k0 v2 k3 v4 v5 s => KH k0 v2 k3 v4 v5 s) ls st σ else none) hX.2.1 hX.2.2 (F := F_P_furthestBed _) (fs_P_furthestBed hX _) (rt_I rfl) oc_P_furthestBed (by
    intro pc ls st σ o h
    rcases ite_s h with ⟨rfl, h⟩ | ⟨_, h⟩
    · exact hs_P_furthestBed_72 (s_P_furthestBed_72 hX hKH) _ _ _ _ h
    rcases ite_s h with ⟨rfl, h⟩ | ⟨_, h⟩
    · exact hs_P_furthestBed_17 hKH _ _ _ _ h
    cases h) 236 69 _ _ _ _ h
set_option maxRecDepth 100000 in
theorem s_P_furthestBed_17 {X : CXT} (hX : XC X) : ∀ n : Nat, ∀ (k0 : Nat) (v2 : Int32) (k3 : Nat) (v4 : Int32) (v5 : Int32) (s : Mem) (o : Int32 × Mem), f_P_furthestBed_17 n k0 v2 k3 v4 v5 s = some o → BSnd X 4 211 (ovI o) 17 [some (.inr (.inr (11, k0))), none, some (.inl v2), some (.inr (.inr (6, k3))), some (.inl v4), some (.inl v5)] [] s := by
  intro n
  induction n with
  | zero => intro k0 v2 k3 v4 v5 s o h; cases h
  | succ n ih =>
    intro k0 v2 k3 v4 v5 s o h
    exact evC (chs := c_P_furthestBed) (cuts := cu_P_furthestBed) (G := fun pc ls st σ => if pc = 72 then hd_P_furthestBed_72 (fun k0 v2 k3 v4 v5 v6 v7 s => f_P_furthestBed_72 (fun k0 v2 k3 v4 v5 s => f_P_furthestBed_17 n k0 v2 k3 v4 v5 s) k0 v2 k3 v4 v5 v6 v7 s) ls st σ else if pc = 69 then hd_P_furthestBed_69 (fun k0 v2 k3 v4 v5 v6 s => f_P_furthestBed_69 (fun k0 v2 k3 v4 v5 s => f_P_furthestBed_17 n k0 v2 k3 v4 v5 s) k0 v2 k3 v4 v5 v6 s) ls st σ else if pc = 17 then hd_P_furthestBed_17 (fun k0 v2 k3 v4 v5 s => f_P_furthestBed_17 n k0 v2 k3 v4 v5 s) ls st σ else none) hX.2.1 hX.2.2 (F := F_P_furthestBed _) (fs_P_furthestBed hX _) (rt_I rfl) oc_P_furthestBed (by
    intro pc ls st σ o h
    rcases ite_s h with ⟨rfl, h⟩ | ⟨_, h⟩
    · exact hs_P_furthestBed_72 (s_P_furthestBed_72 hX ih) _ _ _ _ h
    rcases ite_s h with ⟨rfl, h⟩ | ⟨_, h⟩
    · exact hs_P_furthestBed_69 (s_P_furthestBed_69 hX ih) _ _ _ _ h
    rcases ite_s h with ⟨rfl, h⟩ | ⟨_, h⟩
    · exact hs_P_furthestBed_17 ih _ _ _ _ h
    cases h) 236 17 _ _ _ _ h
set_option maxRecDepth 100000 in
theorem s_P_furthestBed {X : CXT} (hX : XC X) : ∀ (k0 : Nat) (v1 : Int32) (v2 : Int32) (s : Mem) (o : Int32 × Mem), f_P_furthestBed k0 v1 v2 s = some o → BSnd X 4 211 (ovI o) 0 (entL [.inr (.inr (11, k0)), .inl v1, .inl v2]) [] s := by
  intro k0 v1 v2 s o h
  rw [f_P_furthestBed_eq] at h
  exact evC (chs := c_P_furthestBed) (cuts := cu_P_furthestBed) (G := fun pc ls st σ => if pc = 17 then hd_P_furthestBed_17 (fun k0 v2 k3 v4 v5 s => f_P_furthestBed_17 FU k0 v2 k3 v4 v5 s) ls st σ else none) hX.2.1 hX.2.2 (F := F_P_furthestBed _) (fs_P_furthestBed hX _) (rt_I rfl) oc_P_furthestBed (by
    intro pc ls st σ o h
    rcases ite_s h with ⟨rfl, h⟩ | ⟨_, h⟩
    · exact hs_P_furthestBed_17 (s_P_furthestBed_17 hX FU) _ _ _ _ h
    cases h) 236 0 _ _ _ _ h
theorem ok_P_furthestBed {X : CXT} (hX : XC X) : SemOK X 4 211 sm_P_furthestBed := by
  intro O av σ K o h
  unfold sm_P_furthestBed at h
  split at h
  · obtain ⟨r, hf, h⟩ := Option.bind_eq_some_iff.mp h
    exact ⟨ovI r, fun ht => sp_of hX.1 (by decide) (List.mem_range.mpr (by decide)) (by decide +kernel) ht (Nat.le_of_ble_eq_true rfl) (s_P_furthestBed hX _ _ _ _ _ hf), trivial, h⟩
  · cases h
noncomputable def f_P_nights_4 : Nat → Nat → Int32 → Int32 → Int32 → Mem → Option (Int32 × Mem)
  | 0, _, _, _, _, _ => none
  | n + 1, k0, v1, v2, v3, s =>
    cif (((16 : Int32)) < v3) (
      some ((-1 : Int32), s)) (
      cif (v1 < ((rI s (k0 + 2) 6) - v2)) (
        (f_P_furthestBed k0 v2 (v2 + v1) s).bind fun r1 =>
        cif (v2 < r1.1) (
          f_P_nights_4 n k0 v1 r1.1 (v3 + (1 : Int32)) r1.2) (
          some ((-1 : Int32), r1.2))) (
        some (v3, s)))
noncomputable def b_P_nights (k0 : Nat) (v1 : Int32) (s : Mem) : Option (Int32 × Mem) :=
  f_P_nights_4 FU k0 v1 ((0 : Int32)) ((0 : Int32)) s
noncomputable def f_P_nights : Nat → Int32 → Mem → Option (Int32 × Mem) := Classical.choose (⟨b_P_nights, rfl⟩ : ∃ f : Nat → Int32 → Mem → Option (Int32 × Mem), f = b_P_nights)
theorem f_P_nights_eq : f_P_nights = b_P_nights := Classical.choose_spec (⟨b_P_nights, rfl⟩ : ∃ f : Nat → Int32 → Mem → Option (Int32 × Mem), f = b_P_nights)
noncomputable def sm_P_nights (O : Type) (av : List AV) (σ : Mem) (K : AV → Mem → Option O) : Option O := match av with
  | [.inr (.inr (11, k0)), .inl v1] => (f_P_nights k0 v1 σ).bind fun r => K (.inl r.1) r.2
  | _ => none
def c_P_nights : List (List CE) := [[(0, .iconst 0, 1, 0, 0, 0), (1, .istore_n 2, 1, 0, 0, 0), (2, .iconst 0, 1, 0, 0, 0), (3, .istore_n 3, 1, 0, 0, 0), (4, .iload_n 3, 1, 0, 0, 0), (5, .bipush 16, 2, 16, 0, 0), (7, .if_icmp .gt 48, 3, 55, 0, 0), (10, .aload_n 0, 1, 0, 0, 0), (11, .getfield 10, 3, 11, 0, 0), (14, .getfield 70, 3, 10, 0, 0)], [(17, .getfield 274, 3, 4, 6, 0), (20, .iload_n 2, 1, 0, 0, 0), (21, .isub, 1, 0, 0, 0), (22, .iload_n 1, 1, 0, 0, 0), (23, .if_icmp .gt 5, 3, 28, 0, 0), (26, .iload_n 3, 1, 0, 0, 0), (27, .ireturn, 1, 0, 0, 0), (28, .aload_n 0, 1, 0, 0, 0), (29, .iload_n 2, 1, 0, 0, 0), (30, .iload_n 2, 1, 0, 0, 0), (31, .iload_n 1, 1, 0, 0, 0)], [(32, .iadd, 1, 0, 0, 0), (33, .invokevirtual 410, 3, 211, 3, 23), (36, .istore 4, 2, 0, 0, 0), (38, .iload 4, 2, 0, 0, 0), (40, .iload_n 2, 1, 0, 0, 0), (41, .if_icmp .gt 5, 3, 46, 0, 0), (44, .iconst (-1), 1, 1, 0, 1), (45, .ireturn, 1, 0, 0, 0), (46, .iload 4, 2, 0, 0, 0)], [(48, .istore_n 2, 1, 0, 0, 0), (49, .iinc 3 1, 3, 1, 0, 0), (52, .goto (-48), 3, 4, 0, 0), (55, .iconst (-1), 1, 1, 0, 1), (56, .ireturn, 1, 0, 0, 0)]]
set_option maxRecDepth 100000 in
theorem oc_P_nights : okC 210 c_P_nights = true := by decide +kernel
def cu_P_nights : List (Nat × List Bool) := [(4, [true, true, true, true])]
noncomputable def F_P_nights (O : Type) (a : Nat) (av : List AV) (σ : Mem) (K : AV → Mem → Option O) : Option O := if a = 211 then sm_P_furthestBed O av σ K else none
theorem fs_P_nights {X : CXT} (hX : XC X) (O : Type) : FS X 5 (F_P_nights O) := by
  intro a av σ K o h
  unfold F_P_nights at h
  rcases ite_s h with ⟨rfl, h⟩ | ⟨_, h⟩
  · obtain ⟨r, h1, h2, h3⟩ := ok_P_furthestBed hX _ _ _ _ _ h
    exact ⟨r, fun ht => ⟨4, by decide, h1 ht⟩, h2, h3⟩
  cases h
def hd_P_nights_4 {O : Type} (g : Nat → Int32 → Int32 → Int32 → Mem → Option O) (ls : OL) (st : List AV) (σ : Mem) : Option O := match ls, st with
  | [some (.inr (.inr (11, k0))), some (.inl v1), some (.inl v2), some (.inl v3)], [] => g k0 v1 v2 v3 σ
  | _, _ => none
theorem hs_P_nights_4 {X : CXT} {g : Nat → Int32 → Int32 → Int32 → Mem → Option (Int32 × Mem)} (hg : ∀ (k0 : Nat) (v1 : Int32) (v2 : Int32) (v3 : Int32) (s : Mem) (o : Int32 × Mem), g k0 v1 v2 v3 s = some o → BSnd X 5 210 (ovI o) 4 [some (.inr (.inr (11, k0))), some (.inl v1), some (.inl v2), some (.inl v3)] [] s) : ∀ ls st σ o, hd_P_nights_4 g ls st σ = some o → BSnd X 5 210 (ovI o) 4 ls st σ := by
  intro ls st σ o h
  unfold hd_P_nights_4 at h
  split at h
  · exact hg _ _ _ _ _ _ h
  · cases h
set_option maxRecDepth 100000 in
theorem s_P_nights_4 {X : CXT} (hX : XC X) : ∀ n : Nat, ∀ (k0 : Nat) (v1 : Int32) (v2 : Int32) (v3 : Int32) (s : Mem) (o : Int32 × Mem), f_P_nights_4 n k0 v1 v2 v3 s = some o → BSnd X 5 210 (ovI o) 4 [some (.inr (.inr (11, k0))), some (.inl v1), some (.inl v2), some (.inl v3)] [] s := by
  intro n
  induction n with
  | zero => intro k0 v1 v2 v3 s o h; cases h
  | succ n ih =>
    intro k0 v1 v2 v3 s o h
    exact evC (chs := c_P_nights) (cuts := cu_P_nights) (G := fun pc ls st σ => if pc = 4 then hd_P_nights_4 (fun k0 v1 v2 v3 s => f_P_nights_4 n k0 v1 v2 v3 s) ls st σ else none) hX.2.1 hX.2.2 (F := F_P_nights _) (fs_P_nights hX _) (rt_I rfl) oc_P_nights (by
    intro pc ls st σ o h
    rcases ite_s h with ⟨rfl, h⟩ | ⟨_, h⟩
    · exact hs_P_nights_4 ih _ _ _ _ h
    cases h) 180 4 _ _ _ _ h
set_option maxRecDepth 100000 in
theorem s_P_nights {X : CXT} (hX : XC X) : ∀ (k0 : Nat) (v1 : Int32) (s : Mem) (o : Int32 × Mem), f_P_nights k0 v1 s = some o → BSnd X 5 210 (ovI o) 0 (entL [.inr (.inr (11, k0)), .inl v1]) [] s := by
  intro k0 v1 s o h
  rw [f_P_nights_eq] at h
  exact evC (chs := c_P_nights) (cuts := cu_P_nights) (G := fun pc ls st σ => if pc = 4 then hd_P_nights_4 (fun k0 v1 v2 v3 s => f_P_nights_4 FU k0 v1 v2 v3 s) ls st σ else none) hX.2.1 hX.2.2 (F := F_P_nights _) (fs_P_nights hX _) (rt_I rfl) oc_P_nights (by
    intro pc ls st σ o h
    rcases ite_s h with ⟨rfl, h⟩ | ⟨_, h⟩
    · exact hs_P_nights_4 (s_P_nights_4 hX FU) _ _ _ _ h
    cases h) 180 0 _ _ _ _ h
theorem ok_P_nights {X : CXT} (hX : XC X) : SemOK X 5 210 sm_P_nights := by
  intro O av σ K o h
  unfold sm_P_nights at h
  split at h
  · obtain ⟨r, hf, h⟩ := Option.bind_eq_some_iff.mp h
    exact ⟨ovI r, fun ht => sp_of hX.1 (by decide) (List.mem_range.mpr (by decide)) (by decide +kernel) ht (Nat.le_of_ble_eq_true rfl) (s_P_nights hX _ _ _ _ hf), trivial, h⟩
  · cases h
noncomputable def b_P_sleeps (k0 : Nat) (v1 : Int32) (s : Mem) : Option (Int32 × Mem) :=
  (f_P_within v1 ((1 : Int32)) ((40 : Int32)) s).bind fun r1 =>
  cif ((b2i r1.1) = 0) (
    some ((-1 : Int32), r1.2)) (
    (f_P_nights k0 v1 r1.2).bind fun r2 =>
    some (r2.1, r2.2))
noncomputable def f_P_sleeps : Nat → Int32 → Mem → Option (Int32 × Mem) := Classical.choose (⟨b_P_sleeps, rfl⟩ : ∃ f : Nat → Int32 → Mem → Option (Int32 × Mem), f = b_P_sleeps)
theorem f_P_sleeps_eq : f_P_sleeps = b_P_sleeps := Classical.choose_spec (⟨b_P_sleeps, rfl⟩ : ∃ f : Nat → Int32 → Mem → Option (Int32 × Mem), f = b_P_sleeps)
noncomputable def sm_P_sleeps (O : Type) (av : List AV) (σ : Mem) (K : AV → Mem → Option O) : Option O := match av with
  | [.inr (.inr (11, k0)), .inl v1] => (f_P_sleeps k0 v1 σ).bind fun r => K (.inl r.1) r.2
  | _ => none
def c_P_sleeps : List (List CE) := [[(0, .iload_n 1, 1, 0, 0, 0), (1, .iconst 1, 1, 1, 0, 0), (2, .bipush 40, 2, 40, 0, 0), (4, .invokestatic 80, 3, 17, 3, 1), (7, .ifCond .eq 11, 3, 18, 0, 0), (10, .aload_n 0, 1, 0, 0, 0), (11, .iload_n 1, 1, 0, 0, 0), (12, .invokevirtual 407, 3, 210, 2, 23), (15, .goto 4, 3, 19, 0, 0)], [(18, .iconst (-1), 1, 1, 0, 1), (19, .ireturn, 1, 0, 0, 0)]]
set_option maxRecDepth 100000 in
theorem oc_P_sleeps : okC 209 c_P_sleeps = true := by decide +kernel
def cu_P_sleeps : List (Nat × List Bool) := []
noncomputable def F_P_sleeps (O : Type) (a : Nat) (av : List AV) (σ : Mem) (K : AV → Mem → Option O) : Option O := if a = 17 then sm_P_within O av σ K else if a = 210 then sm_P_nights O av σ K else none
theorem fs_P_sleeps {X : CXT} (hX : XC X) (O : Type) : FS X 6 (F_P_sleeps O) := by
  intro a av σ K o h
  unfold F_P_sleeps at h
  rcases ite_s h with ⟨rfl, h⟩ | ⟨_, h⟩
  · obtain ⟨r, h1, h2, h3⟩ := ok_P_within hX _ _ _ _ _ h
    exact ⟨r, fun ht => ⟨1, by decide, h1 ht⟩, h2, h3⟩
  rcases ite_s h with ⟨rfl, h⟩ | ⟨_, h⟩
  · obtain ⟨r, h1, h2, h3⟩ := ok_P_nights hX _ _ _ _ _ h
    exact ⟨r, fun ht => ⟨5, by decide, h1 ht⟩, h2, h3⟩
  cases h
set_option maxRecDepth 100000 in
theorem s_P_sleeps {X : CXT} (hX : XC X) : ∀ (k0 : Nat) (v1 : Int32) (s : Mem) (o : Int32 × Mem), f_P_sleeps k0 v1 s = some o → BSnd X 6 209 (ovI o) 0 (entL [.inr (.inr (11, k0)), .inl v1]) [] s := by
  intro k0 v1 s o h
  rw [f_P_sleeps_eq] at h
  exact evC (chs := c_P_sleeps) (cuts := cu_P_sleeps) (G := fun pc ls st σ => none) hX.2.1 hX.2.2 (F := F_P_sleeps _) (fs_P_sleeps hX _) (rt_I rfl) oc_P_sleeps (by
    intro pc ls st σ o h
    cases h) 84 0 _ _ _ _ h
theorem ok_P_sleeps {X : CXT} (hX : XC X) : SemOK X 6 209 sm_P_sleeps := by
  intro O av σ K o h
  unfold sm_P_sleeps at h
  split at h
  · obtain ⟨r, hf, h⟩ := Option.bind_eq_some_iff.mp h
    exact ⟨ovI r, fun ht => sp_of hX.1 (by decide) (List.mem_range.mpr (by decide)) (by decide +kernel) ht (Nat.le_of_ble_eq_true rfl) (s_P_sleeps hX _ _ _ _ hf), trivial, h⟩
  · cases h
noncomputable def f_P_meets_73 (K124 : Nat → Int32 → Int32 → Int32 → Mem → Option (Int32 × Mem)) : Nat → Nat → Int32 → Int32 → Int32 → Int32 → Mem → Option (Int32 × Mem)
  | 0, _, _, _, _, _, _ => none
  | n + 1, k0, v1, v2, v3, v5, s =>
    cif (((30 : Int32)) < v5) (
      some ((-1 : Int32), s)) (
      (f_Co_goDay (k0 + 126) (k0 + 121) s).bind fun r1 =>
      (f_Pi_isOnPier (k0 + 121) v1 r1.2).bind fun r2 =>
      cif ((b2i r2.1) = 0) (
        f_P_meets_73 K124 n k0 v1 v2 v3 (v5 + (1 : Int32)) r2.2) (
        gd (inb v1 (lenC (k0 + 123))) <|
        gd (inb v2 (lenC (k0 + 123))) <|
        cif ((rI r2.2 (k0 + 123) (ix v1)) = (rI r2.2 (k0 + 123) (ix v2))) (
          K124 k0 v1 v3 v5 r2.2) (
          f_P_meets_73 K124 n k0 v1 v2 v3 (v5 + (1 : Int32)) r2.2)))
noncomputable def f_P_meets_124 (k0 : Nat) (v1 : Int32) (v3 : Int32) (v5 : Int32) (s : Mem) : Option (Int32 × Mem) :=
  cif (v3 = 0) (
    some (v5, s)) (
    gd (inb v1 (lenC (k0 + 123))) <|
    some (rI s (k0 + 123) (ix v1), s))
noncomputable def f_P_meets_40 (k0 : Nat) (v1 : Int32) (v2 : Int32) (v3 : Int32) (v4 : Int32) (s : Mem) : Option (Int32 × Mem) :=
  cif (v4 = 0) (
    some ((-1 : Int32), s)) (
    (f_P_within v3 ((0 : Int32)) ((1 : Int32)) s).bind fun r1 =>
    cif ((b2i r1.1) = 0) (
      some ((-1 : Int32), r1.2)) (
      (f_Pi_copyFrom (k0 + 121) (k0 + 2) r1.2).bind fun r2 =>
      f_P_meets_73 (fun k0 v1 v3 v5 s => f_P_meets_124 k0 v1 v3 v5 s) FU k0 v1 v2 v3 ((0 : Int32)) r2))
noncomputable def f_P_meets_37 (k0 : Nat) (v1 : Int32) (v2 : Int32) (v3 : Int32) (s : Mem) : Option (Int32 × Mem) :=
  f_P_meets_40 k0 v1 v2 v3 ((0 : Int32)) s
noncomputable def b_P_meets (k0 : Nat) (v1 : Int32) (v2 : Int32) (v3 : Int32) (s : Mem) : Option (Int32 × Mem) :=
  (f_To_isWalker (k0 + 7) v1 s).bind fun r1 =>
  cif ((b2i r1.1) = 0) (
    f_P_meets_37 k0 v1 v2 v3 r1.2) (
    (f_To_isWalker (k0 + 7) v2 r1.2).bind fun r2 =>
    cif ((b2i r2.1) = 0) (
      f_P_meets_37 k0 v1 v2 v3 r2.2) (
      cif (v1 = v2) (
        f_P_meets_37 k0 v1 v2 v3 r2.2) (
        f_P_meets_40 k0 v1 v2 v3 ((1 : Int32)) r2.2)))
noncomputable def f_P_meets : Nat → Int32 → Int32 → Int32 → Mem → Option (Int32 × Mem) := Classical.choose (⟨b_P_meets, rfl⟩ : ∃ f : Nat → Int32 → Int32 → Int32 → Mem → Option (Int32 × Mem), f = b_P_meets)
theorem f_P_meets_eq : f_P_meets = b_P_meets := Classical.choose_spec (⟨b_P_meets, rfl⟩ : ∃ f : Nat → Int32 → Int32 → Int32 → Mem → Option (Int32 × Mem), f = b_P_meets)
noncomputable def sm_P_meets (O : Type) (av : List AV) (σ : Mem) (K : AV → Mem → Option O) : Option O := match av with
  | [.inr (.inr (11, k0)), .inl v1, .inl v2, .inl v3] => (f_P_meets k0 v1 v2 v3 σ).bind fun r => K (.inl r.1) r.2
  | _ => none
def c_P_meets : List (List CE) := [[(0, .aload_n 0, 1, 0, 0, 0), (1, .getfield 10, 3, 11, 0, 0), (4, .getfield 30, 3, 10, 1, 0), (7, .iload_n 1, 1, 0, 0, 0), (8, .invokevirtual 97, 3, 22, 2, 17), (11, .ifCond .eq 26, 3, 37, 0, 0), (14, .aload_n 0, 1, 0, 0, 0), (15, .getfield 10, 3, 11, 0, 0)], [(18, .getfield 30, 3, 10, 1, 0), (21, .iload_n 2, 1, 0, 0, 0), (22, .invokevirtual 97, 3, 22, 2, 17), (25, .ifCond .eq 12, 3, 37, 0, 0), (28, .iload_n 1, 1, 0, 0, 0), (29, .iload_n 2, 1, 0, 0, 0), (30, .if_icmp .eq 7, 3, 37, 0, 0)], [(33, .iconst 1, 1, 1, 0, 0), (34, .goto 4, 3, 38, 0, 0), (37, .iconst 0, 1, 0, 0, 0), (38, .istore 4, 2, 0, 0, 0), (40, .iload 4, 2, 0, 0, 0), (42, .ifCond .eq 12, 3, 54, 0, 0), (45, .iload_n 3, 1, 0, 0, 0), (46, .iconst 0, 1, 0, 0, 0), (47, .iconst 1, 1, 1, 0, 0)], [(48, .invokestatic 80, 3, 17, 3, 1), (51, .ifCond .ne 5, 3, 56, 0, 0), (54, .iconst (-1), 1, 1, 0, 1), (55, .ireturn, 1, 0, 0, 0), (56, .aload_n 0, 1, 0, 0, 0), (57, .getfield 24, 3, 11, 2, 0), (60, .aload_n 0, 1, 0, 0, 0), (61, .getfield 10, 3, 11, 0, 0)], [(64, .getfield 70, 3, 10, 0, 0), (67, .invokevirtual 272, 3, 31, 2, 8), (70, .iconst 0, 1, 0, 0, 0), (71, .istore 5, 2, 0, 0, 0), (73, .iload 5, 2, 0, 0, 0), (75, .bipush 30, 2, 30, 0, 0), (77, .if_icmp .gt 72, 3, 149, 0, 0)], [(80, .aload_n 0, 1, 0, 0, 0), (81, .getfield 41, 3, 11, 3, 0), (84, .aload_n 0, 1, 0, 0, 0), (85, .getfield 24, 3, 11, 2, 0), (88, .invokevirtual 155, 3, 61, 2, 1), (91, .pop, 1, 0, 0, 0), (92, .aload_n 0, 1, 0, 0, 0), (93, .getfield 24, 3, 11, 2, 0)], [(96, .iload_n 1, 1, 0, 0, 0), (97, .invokevirtual 100, 3, 23, 2, 9), (100, .ifCond .eq 43, 3, 143, 0, 0), (103, .aload_n 0, 1, 0, 0, 0), (104, .getfield 24, 3, 11, 2, 0), (107, .getfield 237, 3, 4, 2, 0), (110, .iload_n 1, 1, 0, 0, 0), (111, .iaload, 1, 0, 0, 0)], [(112, .aload_n 0, 1, 0, 0, 0), (113, .getfield 24, 3, 11, 2, 0), (116, .getfield 237, 3, 4, 2, 0), (119, .iload_n 2, 1, 0, 0, 0), (120, .iaload, 1, 0, 0, 0), (121, .if_icmp .ne 22, 3, 143, 0, 0), (124, .iload_n 3, 1, 0, 0, 0), (125, .ifCond .ne 8, 3, 133, 0, 0)], [(128, .iload 5, 2, 0, 0, 0), (130, .goto 12, 3, 142, 0, 0), (133, .aload_n 0, 1, 0, 0, 0), (134, .getfield 24, 3, 11, 2, 0), (137, .getfield 237, 3, 4, 2, 0), (140, .iload_n 1, 1, 0, 0, 0), (141, .iaload, 1, 0, 0, 0), (142, .ireturn, 1, 0, 0, 0), (143, .iinc 5 1, 3, 1, 0, 0)], [(146, .goto (-73), 3, 73, 0, 0), (149, .iconst (-1), 1, 1, 0, 1), (150, .ireturn, 1, 0, 0, 0)]]
set_option maxRecDepth 100000 in
theorem oc_P_meets : okC 212 c_P_meets = true := by decide +kernel
def cu_P_meets : List (Nat × List Bool) := [(73, [true, true, true, true, false, true]), (124, [true, true, false, true, false, true]), (40, [true, true, true, true, true]), (37, [true, true, true, true])]
noncomputable def F_P_meets (O : Type) (a : Nat) (av : List AV) (σ : Mem) (K : AV → Mem → Option O) : Option O := if a = 17 then sm_P_within O av σ K else if a = 22 then sm_To_isWalker O av σ K else if a = 23 then sm_Pi_isOnPier O av σ K else if a = 31 then sm_Pi_copyFrom O av σ K else if a = 61 then sm_Co_goDay O av σ K else none
theorem fs_P_meets {X : CXT} (hX : XC X) (O : Type) : FS X 7 (F_P_meets O) := by
  intro a av σ K o h
  unfold F_P_meets at h
  rcases ite_s h with ⟨rfl, h⟩ | ⟨_, h⟩
  · obtain ⟨r, h1, h2, h3⟩ := ok_P_within hX _ _ _ _ _ h
    exact ⟨r, fun ht => ⟨1, by decide, h1 ht⟩, h2, h3⟩
  rcases ite_s h with ⟨rfl, h⟩ | ⟨_, h⟩
  · obtain ⟨r, h1, h2, h3⟩ := ok_To_isWalker hX _ _ _ _ _ h
    exact ⟨r, fun ht => ⟨1, by decide, h1 ht⟩, h2, h3⟩
  rcases ite_s h with ⟨rfl, h⟩ | ⟨_, h⟩
  · obtain ⟨r, h1, h2, h3⟩ := ok_Pi_isOnPier hX _ _ _ _ _ h
    exact ⟨r, fun ht => ⟨2, by decide, h1 ht⟩, h2, h3⟩
  rcases ite_s h with ⟨rfl, h⟩ | ⟨_, h⟩
  · obtain ⟨r, h1, h2, h3⟩ := ok_Pi_copyFrom hX _ _ _ _ _ h
    exact ⟨r, fun ht => ⟨1, by decide, h1 ht⟩, h2, h3⟩
  rcases ite_s h with ⟨rfl, h⟩ | ⟨_, h⟩
  · obtain ⟨r, h1, h2, h3⟩ := ok_Co_goDay hX _ _ _ _ _ h
    exact ⟨r, fun ht => ⟨6, by decide, h1 ht⟩, h2, h3⟩
  cases h
def hd_P_meets_73 {O : Type} (g : Nat → Int32 → Int32 → Int32 → Int32 → Mem → Option O) (ls : OL) (st : List AV) (σ : Mem) : Option O := match ls, st with
  | [some (.inr (.inr (11, k0))), some (.inl v1), some (.inl v2), some (.inl v3), none, some (.inl v5)], [] => g k0 v1 v2 v3 v5 σ
  | _, _ => none
theorem hs_P_meets_73 {X : CXT} {g : Nat → Int32 → Int32 → Int32 → Int32 → Mem → Option (Int32 × Mem)} (hg : ∀ (k0 : Nat) (v1 : Int32) (v2 : Int32) (v3 : Int32) (v5 : Int32) (s : Mem) (o : Int32 × Mem), g k0 v1 v2 v3 v5 s = some o → BSnd X 7 212 (ovI o) 73 [some (.inr (.inr (11, k0))), some (.inl v1), some (.inl v2), some (.inl v3), none, some (.inl v5)] [] s) : ∀ ls st σ o, hd_P_meets_73 g ls st σ = some o → BSnd X 7 212 (ovI o) 73 ls st σ := by
  intro ls st σ o h
  unfold hd_P_meets_73 at h
  split at h
  · exact hg _ _ _ _ _ _ _ h
  · cases h
def hd_P_meets_124 {O : Type} (g : Nat → Int32 → Int32 → Int32 → Mem → Option O) (ls : OL) (st : List AV) (σ : Mem) : Option O := match ls, st with
  | [some (.inr (.inr (11, k0))), some (.inl v1), none, some (.inl v3), none, some (.inl v5)], [] => g k0 v1 v3 v5 σ
  | _, _ => none
theorem hs_P_meets_124 {X : CXT} {g : Nat → Int32 → Int32 → Int32 → Mem → Option (Int32 × Mem)} (hg : ∀ (k0 : Nat) (v1 : Int32) (v3 : Int32) (v5 : Int32) (s : Mem) (o : Int32 × Mem), g k0 v1 v3 v5 s = some o → BSnd X 7 212 (ovI o) 124 [some (.inr (.inr (11, k0))), some (.inl v1), none, some (.inl v3), none, some (.inl v5)] [] s) : ∀ ls st σ o, hd_P_meets_124 g ls st σ = some o → BSnd X 7 212 (ovI o) 124 ls st σ := by
  intro ls st σ o h
  unfold hd_P_meets_124 at h
  split at h
  · exact hg _ _ _ _ _ _ h
  · cases h
def hd_P_meets_40 {O : Type} (g : Nat → Int32 → Int32 → Int32 → Int32 → Mem → Option O) (ls : OL) (st : List AV) (σ : Mem) : Option O := match ls, st with
  | [some (.inr (.inr (11, k0))), some (.inl v1), some (.inl v2), some (.inl v3), some (.inl v4)], [] => g k0 v1 v2 v3 v4 σ
  | _, _ => none
theorem hs_P_meets_40 {X : CXT} {g : Nat → Int32 → Int32 → Int32 → Int32 → Mem → Option (Int32 × Mem)} (hg : ∀ (k0 : Nat) (v1 : Int32) (v2 : Int32) (v3 : Int32) (v4 : Int32) (s : Mem) (o : Int32 × Mem), g k0 v1 v2 v3 v4 s = some o → BSnd X 7 212 (ovI o) 40 [some (.inr (.inr (11, k0))), some (.inl v1), some (.inl v2), some (.inl v3), some (.inl v4)] [] s) : ∀ ls st σ o, hd_P_meets_40 g ls st σ = some o → BSnd X 7 212 (ovI o) 40 ls st σ := by
  intro ls st σ o h
  unfold hd_P_meets_40 at h
  split at h
  · exact hg _ _ _ _ _ _ _ h
  · cases h
def hd_P_meets_37 {O : Type} (g : Nat → Int32 → Int32 → Int32 → Mem → Option O) (ls : OL) (st : List AV) (σ : Mem) : Option O := match ls, st with
  | [some (.inr (.inr (11, k0))), some (.inl v1), some (.inl v2), some (.inl v3)], [] => g k0 v1 v2 v3 σ
  | _, _ => none
theorem hs_P_meets_37 {X : CXT} {g : Nat → Int32 → Int32 → Int32 → Mem → Option (Int32 × Mem)} (hg : ∀ (k0 : Nat) (v1 : Int32) (v2 : Int32) (v3 : Int32) (s : Mem) (o : Int32 × Mem), g k0 v1 v2 v3 s = some o → BSnd X 7 212 (ovI o) 37 [some (.inr (.inr (11, k0))), some (.inl v1), some (.inl v2), some (.inl v3)] [] s) : ∀ ls st σ o, hd_P_meets_37 g ls st σ = some o → BSnd X 7 212 (ovI o) 37 ls st σ := by
  intro ls st σ o h
  unfold hd_P_meets_37 at h
  split at h
  · exact hg _ _ _ _ _ _ h
  · cases h
set_option maxRecDepth 100000 in
theorem s_P_meets_73 {X : CXT} (hX : XC X) {K124 : Nat → Int32 → Int32 → Int32 → Mem → Option (Int32 × Mem)} (hK124 : ∀ (k0 : Nat) (v1 : Int32) (v3 : Int32) (v5 : Int32) (s : Mem) (o : Int32 × Mem), K124 k0 v1 v3 v5 s = some o → BSnd X 7 212 (ovI o) 124 [some (.inr (.inr (11, k0))), some (.inl v1), none, some (.inl v3), none, some (.inl v5)] [] s) : ∀ n : Nat, ∀ (k0 : Nat) (v1 : Int32) (v2 : Int32) (v3 : Int32) (v5 : Int32) (s : Mem) (o : Int32 × Mem), f_P_meets_73 K124 n k0 v1 v2 v3 v5 s = some o → BSnd X 7 212 (ovI o) 73 [some (.inr (.inr (11, k0))), some (.inl v1), some (.inl v2), some (.inl v3), none, some (.inl v5)] [] s := by
  intro n
  induction n with
  | zero => intro k0 v1 v2 v3 v5 s o h; cases h
  | succ n ih =>
    intro k0 v1 v2 v3 v5 s o h
    exact evC (chs := c_P_meets) (cuts := cu_P_meets) (G := fun pc ls st σ => if pc = 73 then hd_P_meets_73 (fun k0 v1 v2 v3 v5 s => f_P_meets_73 K124 n k0 v1 v2 v3 v5 s) ls st σ else if pc = 124 then hd_P_meets_124 (fun k0 v1 v3 v5 s => K124 k0 v1 v3 v5 s) ls st σ else none) hX.2.1 hX.2.2 (F := F_P_meets _) (fs_P_meets hX _) (rt_I rfl) oc_P_meets (by
    intro pc ls st σ o h
    rcases ite_s h with ⟨rfl, h⟩ | ⟨_, h⟩
    · exact hs_P_meets_73 ih _ _ _ _ h
    rcases ite_s h with ⟨rfl, h⟩ | ⟨_, h⟩
    · exact hs_P_meets_124 hK124 _ _ _ _ h
    cases h) 340 73 _ _ _ _ h
set_option maxRecDepth 100000 in
theorem s_P_meets_124 {X : CXT} (hX : XC X) : ∀ (k0 : Nat) (v1 : Int32) (v3 : Int32) (v5 : Int32) (s : Mem) (o : Int32 × Mem), f_P_meets_124 k0 v1 v3 v5 s = some o → BSnd X 7 212 (ovI o) 124 [some (.inr (.inr (11, k0))), some (.inl v1), none, some (.inl v3), none, some (.inl v5)] [] s := by
  intro k0 v1 v3 v5 s o h
  exact evC (chs := c_P_meets) (cuts := cu_P_meets) (G := fun pc ls st σ => none) hX.2.1 hX.2.2 (F := F_P_meets _) (fs_P_meets hX _) (rt_I rfl) oc_P_meets (by
    intro pc ls st σ o h
    cases h) 340 124 _ _ _ _ h
set_option maxRecDepth 100000 in
theorem s_P_meets_40 {X : CXT} (hX : XC X) : ∀ (k0 : Nat) (v1 : Int32) (v2 : Int32) (v3 : Int32) (v4 : Int32) (s : Mem) (o : Int32 × Mem), f_P_meets_40 k0 v1 v2 v3 v4 s = some o → BSnd X 7 212 (ovI o) 40 [some (.inr (.inr (11, k0))), some (.inl v1), some (.inl v2), some (.inl v3), some (.inl v4)] [] s := by
  intro k0 v1 v2 v3 v4 s o h
  exact evC (chs := c_P_meets) (cuts := cu_P_meets) (G := fun pc ls st σ => if pc = 73 then hd_P_meets_73 (fun k0 v1 v2 v3 v5 s => f_P_meets_73 (fun k0 v1 v3 v5 s => f_P_meets_124 k0 v1 v3 v5 s) FU k0 v1 v2 v3 v5 s) ls st σ else if pc = 124 then hd_P_meets_124 (fun k0 v1 v3 v5 s => f_P_meets_124 k0 v1 v3 v5 s) ls st σ else none) hX.2.1 hX.2.2 (F := F_P_meets _) (fs_P_meets hX _) (rt_I rfl) oc_P_meets (by
    intro pc ls st σ o h
    rcases ite_s h with ⟨rfl, h⟩ | ⟨_, h⟩
    · exact hs_P_meets_73 (s_P_meets_73 hX (s_P_meets_124 hX) FU) _ _ _ _ h
    rcases ite_s h with ⟨rfl, h⟩ | ⟨_, h⟩
    · exact hs_P_meets_124 (s_P_meets_124 hX) _ _ _ _ h
    cases h) 340 40 _ _ _ _ h
set_option maxRecDepth 100000 in
theorem s_P_meets_37 {X : CXT} (hX : XC X) : ∀ (k0 : Nat) (v1 : Int32) (v2 : Int32) (v3 : Int32) (s : Mem) (o : Int32 × Mem), f_P_meets_37 k0 v1 v2 v3 s = some o → BSnd X 7 212 (ovI o) 37 [some (.inr (.inr (11, k0))), some (.inl v1), some (.inl v2), some (.inl v3)] [] s := by
  intro k0 v1 v2 v3 s o h
  exact evC (chs := c_P_meets) (cuts := cu_P_meets) (G := fun pc ls st σ => if pc = 40 then hd_P_meets_40 (fun k0 v1 v2 v3 v4 s => f_P_meets_40 k0 v1 v2 v3 v4 s) ls st σ else none) hX.2.1 hX.2.2 (F := F_P_meets _) (fs_P_meets hX _) (rt_I rfl) oc_P_meets (by
    intro pc ls st σ o h
    rcases ite_s h with ⟨rfl, h⟩ | ⟨_, h⟩
    · exact hs_P_meets_40 (s_P_meets_40 hX) _ _ _ _ h
    cases h) 340 37 _ _ _ _ h
set_option maxRecDepth 100000 in
theorem s_P_meets {X : CXT} (hX : XC X) : ∀ (k0 : Nat) (v1 : Int32) (v2 : Int32) (v3 : Int32) (s : Mem) (o : Int32 × Mem), f_P_meets k0 v1 v2 v3 s = some o → BSnd X 7 212 (ovI o) 0 (entL [.inr (.inr (11, k0)), .inl v1, .inl v2, .inl v3]) [] s := by
  intro k0 v1 v2 v3 s o h
  rw [f_P_meets_eq] at h
  exact evC (chs := c_P_meets) (cuts := cu_P_meets) (G := fun pc ls st σ => if pc = 40 then hd_P_meets_40 (fun k0 v1 v2 v3 v4 s => f_P_meets_40 k0 v1 v2 v3 v4 s) ls st σ else if pc = 37 then hd_P_meets_37 (fun k0 v1 v2 v3 s => f_P_meets_37 k0 v1 v2 v3 s) ls st σ else none) hX.2.1 hX.2.2 (F := F_P_meets _) (fs_P_meets hX _) (rt_I rfl) oc_P_meets (by
    intro pc ls st σ o h
    rcases ite_s h with ⟨rfl, h⟩ | ⟨_, h⟩
    · exact hs_P_meets_40 (s_P_meets_40 hX) _ _ _ _ h
    rcases ite_s h with ⟨rfl, h⟩ | ⟨_, h⟩
    · exact hs_P_meets_37 (s_P_meets_37 hX) _ _ _ _ h
    cases h) 340 0 _ _ _ _ h
theorem ok_P_meets {X : CXT} (hX : XC X) : SemOK X 7 212 sm_P_meets := by
  intro O av σ K o h
  unfold sm_P_meets at h
  split at h
  · obtain ⟨r, hf, h⟩ := Option.bind_eq_some_iff.mp h
    exact ⟨ovI r, fun ht => sp_of hX.1 (by decide) (List.mem_range.mpr (by decide)) (by decide +kernel) ht (Nat.le_of_ble_eq_true rfl) (s_P_meets hX _ _ _ _ _ _ hf), trivial, h⟩
  · cases h
noncomputable def b_To_heapNumber (v0 : Int32) (s : Mem) : Option (Int32 × Mem) :=
  (f_P_within v0 ((0 : Int32)) ((Int32.ofNat (ext0 0).1) - ((1 : Int32))) s).bind fun r1 =>
  cif ((b2i r1.1) = 0) (
    some ((0 : Int32), r1.2)) (
    gd (inb v0 (ext0 0).1) <|
    some ((ext0 0).2 (ix v0), r1.2))
noncomputable def f_To_heapNumber : Int32 → Mem → Option (Int32 × Mem) := Classical.choose (⟨b_To_heapNumber, rfl⟩ : ∃ f : Int32 → Mem → Option (Int32 × Mem), f = b_To_heapNumber)
theorem f_To_heapNumber_eq : f_To_heapNumber = b_To_heapNumber := Classical.choose_spec (⟨b_To_heapNumber, rfl⟩ : ∃ f : Int32 → Mem → Option (Int32 × Mem), f = b_To_heapNumber)
noncomputable def sm_To_heapNumber (O : Type) (av : List AV) (σ : Mem) (K : AV → Mem → Option O) : Option O := match av with
  | [.inl v0] => (f_To_heapNumber v0 σ).bind fun r => K (.inl r.1) r.2
  | _ => none
def c_To_heapNumber : List (List CE) := [[(0, .iload_n 0, 1, 0, 0, 0), (1, .iconst 0, 1, 0, 0, 0), (2, .getstatic 96, 3, 0, 0, 0), (5, .arraylength, 1, 0, 0, 0), (6, .iconst 1, 1, 1, 0, 0), (7, .isub, 1, 0, 0, 0), (8, .invokestatic 60, 3, 17, 3, 1), (11, .ifCond .eq 11, 3, 22, 0, 0), (14, .getstatic 96, 3, 0, 0, 0)], [(17, .iload_n 0, 1, 0, 0, 0), (18, .iaload, 1, 0, 0, 0), (19, .goto 4, 3, 23, 0, 0), (22, .iconst 0, 1, 0, 0, 0), (23, .ireturn, 1, 0, 0, 0)]]
set_option maxRecDepth 100000 in
theorem oc_To_heapNumber : okC 215 c_To_heapNumber = true := by decide +kernel
def cu_To_heapNumber : List (Nat × List Bool) := []
noncomputable def F_To_heapNumber (O : Type) (a : Nat) (av : List AV) (σ : Mem) (K : AV → Mem → Option O) : Option O := if a = 17 then sm_P_within O av σ K else none
theorem fs_To_heapNumber {X : CXT} (hX : XC X) (O : Type) : FS X 2 (F_To_heapNumber O) := by
  intro a av σ K o h
  unfold F_To_heapNumber at h
  rcases ite_s h with ⟨rfl, h⟩ | ⟨_, h⟩
  · obtain ⟨r, h1, h2, h3⟩ := ok_P_within hX _ _ _ _ _ h
    exact ⟨r, fun ht => ⟨1, by decide, h1 ht⟩, h2, h3⟩
  cases h
set_option maxRecDepth 100000 in
theorem s_To_heapNumber {X : CXT} (hX : XC X) : ∀ (v0 : Int32) (s : Mem) (o : Int32 × Mem), f_To_heapNumber v0 s = some o → BSnd X 2 215 (ovI o) 0 (entL [.inl v0]) [] s := by
  intro v0 s o h
  rw [f_To_heapNumber_eq] at h
  exact evC (chs := c_To_heapNumber) (cuts := cu_To_heapNumber) (G := fun pc ls st σ => none) hX.2.1 hX.2.2 (F := F_To_heapNumber _) (fs_To_heapNumber hX _) (rt_I rfl) oc_To_heapNumber (by
    intro pc ls st σ o h
    cases h) 96 0 _ _ _ _ h
theorem ok_To_heapNumber {X : CXT} (hX : XC X) : SemOK X 2 215 sm_To_heapNumber := by
  intro O av σ K o h
  unfold sm_To_heapNumber at h
  split at h
  · obtain ⟨r, hf, h⟩ := Option.bind_eq_some_iff.mp h
    exact ⟨ovI r, fun ht => sp_of hX.1 (by decide) (List.mem_range.mpr (by decide)) (by decide +kernel) ht (Nat.le_of_ble_eq_true rfl) (s_To_heapNumber hX _ _ _ hf), trivial, h⟩
  · cases h
noncomputable def f_To_plankSum_4 : Nat → Nat → Int32 → Int32 → Mem → Option (Int32 × Mem)
  | 0, _, _, _, _ => none
  | n + 1, k0, v1, v2, s =>
    cif ((rI s k0 7) ≤ v2) (
      some (v1, s)) (
      cif (((12 : Int32)) ≤ v2) (
        some (v1, s)) (
        gd (inb v2 (lenC (k0 + 1))) <|
        (f_To_heapNumber (rI s (k0 + 1) (ix v2)) s).bind fun r1 =>
        let x2 : Int32 := v1 ^^^ r1.1
        f_To_plankSum_4 n k0 x2 (v2 + (1 : Int32)) r1.2))
noncomputable def b_To_plankSum (k0 : Nat) (s : Mem) : Option (Int32 × Mem) :=
  f_To_plankSum_4 FU k0 ((0 : Int32)) ((0 : Int32)) s
noncomputable def f_To_plankSum : Nat → Mem → Option (Int32 × Mem) := Classical.choose (⟨b_To_plankSum, rfl⟩ : ∃ f : Nat → Mem → Option (Int32 × Mem), f = b_To_plankSum)
theorem f_To_plankSum_eq : f_To_plankSum = b_To_plankSum := Classical.choose_spec (⟨b_To_plankSum, rfl⟩ : ∃ f : Nat → Mem → Option (Int32 × Mem), f = b_To_plankSum)
noncomputable def sm_To_plankSum (O : Type) (av : List AV) (σ : Mem) (K : AV → Mem → Option O) : Option O := match av with
  | [.inr (.inr (8, k0))] => (f_To_plankSum k0 σ).bind fun r => K (.inl r.1) r.2
  | _ => none
def c_To_plankSum : List (List CE) := [[(0, .iconst 0, 1, 0, 0, 0), (1, .istore_n 1, 1, 0, 0, 0), (2, .iconst 0, 1, 0, 0, 0), (3, .istore_n 2, 1, 0, 0, 0), (4, .iload_n 2, 1, 0, 0, 0), (5, .aload_n 0, 1, 0, 0, 0), (6, .getfield 43, 3, 8, 7, 0), (9, .if_icmp .ge 27, 3, 36, 0, 0), (12, .iload_n 2, 1, 0, 0, 0), (13, .bipush 12, 2, 12, 0, 0), (15, .if_icmp .ge 21, 3, 36, 0, 0)], [(18, .iload_n 1, 1, 0, 0, 0), (19, .aload_n 0, 1, 0, 0, 0), (20, .getfield 9, 3, 8, 0, 0), (23, .iload_n 2, 1, 0, 0, 0), (24, .iaload, 1, 0, 0, 0), (25, .invokestatic 99, 3, 215, 1, 1), (28, .ixor, 1, 0, 0, 0), (29, .istore_n 1, 1, 0, 0, 0), (30, .iinc 2 1, 3, 1, 0, 0)], [(33, .goto (-29), 3, 4, 0, 0), (36, .iload_n 1, 1, 0, 0, 0), (37, .ireturn, 1, 0, 0, 0)]]
set_option maxRecDepth 100000 in
theorem oc_To_plankSum : okC 214 c_To_plankSum = true := by decide +kernel
def cu_To_plankSum : List (Nat × List Bool) := [(4, [true, true, true])]
noncomputable def F_To_plankSum (O : Type) (a : Nat) (av : List AV) (σ : Mem) (K : AV → Mem → Option O) : Option O := if a = 215 then sm_To_heapNumber O av σ K else none
theorem fs_To_plankSum {X : CXT} (hX : XC X) (O : Type) : FS X 3 (F_To_plankSum O) := by
  intro a av σ K o h
  unfold F_To_plankSum at h
  rcases ite_s h with ⟨rfl, h⟩ | ⟨_, h⟩
  · obtain ⟨r, h1, h2, h3⟩ := ok_To_heapNumber hX _ _ _ _ _ h
    exact ⟨r, fun ht => ⟨2, by decide, h1 ht⟩, h2, h3⟩
  cases h
def hd_To_plankSum_4 {O : Type} (g : Nat → Int32 → Int32 → Mem → Option O) (ls : OL) (st : List AV) (σ : Mem) : Option O := match ls, st with
  | [some (.inr (.inr (8, k0))), some (.inl v1), some (.inl v2)], [] => g k0 v1 v2 σ
  | _, _ => none
theorem hs_To_plankSum_4 {X : CXT} {g : Nat → Int32 → Int32 → Mem → Option (Int32 × Mem)} (hg : ∀ (k0 : Nat) (v1 : Int32) (v2 : Int32) (s : Mem) (o : Int32 × Mem), g k0 v1 v2 s = some o → BSnd X 3 214 (ovI o) 4 [some (.inr (.inr (8, k0))), some (.inl v1), some (.inl v2)] [] s) : ∀ ls st σ o, hd_To_plankSum_4 g ls st σ = some o → BSnd X 3 214 (ovI o) 4 ls st σ := by
  intro ls st σ o h
  unfold hd_To_plankSum_4 at h
  split at h
  · exact hg _ _ _ _ _ h
  · cases h
set_option maxRecDepth 100000 in
theorem s_To_plankSum_4 {X : CXT} (hX : XC X) : ∀ n : Nat, ∀ (k0 : Nat) (v1 : Int32) (v2 : Int32) (s : Mem) (o : Int32 × Mem), f_To_plankSum_4 n k0 v1 v2 s = some o → BSnd X 3 214 (ovI o) 4 [some (.inr (.inr (8, k0))), some (.inl v1), some (.inl v2)] [] s := by
  intro n
  induction n with
  | zero => intro k0 v1 v2 s o h; cases h
  | succ n ih =>
    intro k0 v1 v2 s o h
    exact evC (chs := c_To_plankSum) (cuts := cu_To_plankSum) (G := fun pc ls st σ => if pc = 4 then hd_To_plankSum_4 (fun k0 v1 v2 s => f_To_plankSum_4 n k0 v1 v2 s) ls st σ else none) hX.2.1 hX.2.2 (F := F_To_plankSum _) (fs_To_plankSum hX _) (rt_I rfl) oc_To_plankSum (by
    intro pc ls st σ o h
    rcases ite_s h with ⟨rfl, h⟩ | ⟨_, h⟩
    · exact hs_To_plankSum_4 ih _ _ _ _ h
    cases h) 132 4 _ _ _ _ h
set_option maxRecDepth 100000 in
theorem s_To_plankSum {X : CXT} (hX : XC X) : ∀ (k0 : Nat) (s : Mem) (o : Int32 × Mem), f_To_plankSum k0 s = some o → BSnd X 3 214 (ovI o) 0 (entL [.inr (.inr (8, k0))]) [] s := by
  intro k0 s o h
  rw [f_To_plankSum_eq] at h
  exact evC (chs := c_To_plankSum) (cuts := cu_To_plankSum) (G := fun pc ls st σ => if pc = 4 then hd_To_plankSum_4 (fun k0 v1 v2 s => f_To_plankSum_4 FU k0 v1 v2 s) ls st σ else none) hX.2.1 hX.2.2 (F := F_To_plankSum _) (fs_To_plankSum hX _) (rt_I rfl) oc_To_plankSum (by
    intro pc ls st σ o h
    rcases ite_s h with ⟨rfl, h⟩ | ⟨_, h⟩
    · exact hs_To_plankSum_4 (s_To_plankSum_4 hX FU) _ _ _ _ h
    cases h) 132 0 _ _ _ _ h
theorem ok_To_plankSum {X : CXT} (hX : XC X) : SemOK X 3 214 sm_To_plankSum := by
  intro O av σ K o h
  unfold sm_To_plankSum at h
  split at h
  · obtain ⟨r, hf, h⟩ := Option.bind_eq_some_iff.mp h
    exact ⟨ovI r, fun ht => sp_of hX.1 (by decide) (List.mem_range.mpr (by decide)) (by decide +kernel) ht (Nat.le_of_ble_eq_true rfl) (s_To_plankSum hX _ _ _ hf), trivial, h⟩
  · cases h
noncomputable def b_To_winningTake (k0 : Nat) (v1 : Int32) (v2 : Int32) (s : Mem) : Option (Int32 × Mem) :=
  (f_To_isWalker k0 v1 s).bind fun r1 =>
  cif ((b2i r1.1) = 0) (
    some ((-1 : Int32), r1.2)) (
    gd (inb v1 (lenC (k0 + 1))) <|
    let x2 : Int32 := rI r1.2 (k0 + 1) (ix v1)
    (f_To_heapNumber x2 r1.2).bind fun r3 =>
    let x4 : Int32 := v2 ^^^ r3.1
    (f_Ma_floorDiv (x2 + ((2 : Int32))) ((3 : Int32)) r3.2).bind fun r5 =>
    (f_To_heapNumber (x2 - ((1 : Int32))) r5.2).bind fun r6 =>
    cif (r6.1 = x4) (
      some ((1 : Int32), r6.2)) (
      (f_To_heapNumber (x2 - r5.1) r6.2).bind fun r7 =>
      cif (r7.1 = x4) (
        some (r5.1, r7.2)) (
        some ((-1 : Int32), r7.2))))
noncomputable def f_To_winningTake : Nat → Int32 → Int32 → Mem → Option (Int32 × Mem) := Classical.choose (⟨b_To_winningTake, rfl⟩ : ∃ f : Nat → Int32 → Int32 → Mem → Option (Int32 × Mem), f = b_To_winningTake)
theorem f_To_winningTake_eq : f_To_winningTake = b_To_winningTake := Classical.choose_spec (⟨b_To_winningTake, rfl⟩ : ∃ f : Nat → Int32 → Int32 → Mem → Option (Int32 × Mem), f = b_To_winningTake)
noncomputable def sm_To_winningTake (O : Type) (av : List AV) (σ : Mem) (K : AV → Mem → Option O) : Option O := match av with
  | [.inr (.inr (8, k0)), .inl v1, .inl v2] => (f_To_winningTake k0 v1 v2 σ).bind fun r => K (.inl r.1) r.2
  | _ => none
def c_To_winningTake : List (List CE) := [[(0, .aload_n 0, 1, 0, 0, 0), (1, .iload_n 1, 1, 0, 0, 0), (2, .invokevirtual 64, 3, 22, 2, 17), (5, .ifCond .ne 5, 3, 10, 0, 0), (8, .iconst (-1), 1, 1, 0, 1), (9, .ireturn, 1, 0, 0, 0), (10, .aload_n 0, 1, 0, 0, 0), (11, .getfield 9, 3, 8, 0, 0), (14, .iload_n 1, 1, 0, 0, 0), (15, .iaload, 1, 0, 0, 0)], [(16, .istore_n 3, 1, 0, 0, 0), (17, .iload_n 2, 1, 0, 0, 0), (18, .iload_n 3, 1, 0, 0, 0), (19, .invokestatic 99, 3, 215, 1, 1), (22, .ixor, 1, 0, 0, 0), (23, .istore 4, 2, 0, 0, 0), (25, .iload_n 3, 1, 0, 0, 0), (26, .iconst 2, 1, 2, 0, 0), (27, .iadd, 1, 0, 0, 0), (28, .iconst 3, 1, 3, 0, 0), (29, .invokestatic 102, 3, 167, 2, 1)], [(32, .istore 5, 2, 0, 0, 0), (34, .iload_n 3, 1, 0, 0, 0), (35, .iconst 1, 1, 1, 0, 0), (36, .isub, 1, 0, 0, 0), (37, .invokestatic 99, 3, 215, 1, 1), (40, .iload 4, 2, 0, 0, 0), (42, .if_icmp .ne 5, 3, 47, 0, 0), (45, .iconst 1, 1, 1, 0, 0), (46, .ireturn, 1, 0, 0, 0), (47, .iload_n 3, 1, 0, 0, 0)], [(48, .iload 5, 2, 0, 0, 0), (50, .isub, 1, 0, 0, 0), (51, .invokestatic 99, 3, 215, 1, 1), (54, .iload 4, 2, 0, 0, 0), (56, .if_icmp .ne 8, 3, 64, 0, 0), (59, .iload 5, 2, 0, 0, 0), (61, .goto 4, 3, 65, 0, 0)], [(64, .iconst (-1), 1, 1, 0, 1), (65, .ireturn, 1, 0, 0, 0)]]
set_option maxRecDepth 100000 in
theorem oc_To_winningTake : okC 216 c_To_winningTake = true := by decide +kernel
def cu_To_winningTake : List (Nat × List Bool) := []
noncomputable def F_To_winningTake (O : Type) (a : Nat) (av : List AV) (σ : Mem) (K : AV → Mem → Option O) : Option O := if a = 22 then sm_To_isWalker O av σ K else if a = 167 then sm_Ma_floorDiv O av σ K else if a = 215 then sm_To_heapNumber O av σ K else none
theorem fs_To_winningTake {X : CXT} (hX : XC X) (O : Type) : FS X 3 (F_To_winningTake O) := by
  intro a av σ K o h
  unfold F_To_winningTake at h
  rcases ite_s h with ⟨rfl, h⟩ | ⟨_, h⟩
  · obtain ⟨r, h1, h2, h3⟩ := ok_To_isWalker hX _ _ _ _ _ h
    exact ⟨r, fun ht => ⟨1, by decide, h1 ht⟩, h2, h3⟩
  rcases ite_s h with ⟨rfl, h⟩ | ⟨_, h⟩
  · obtain ⟨r, h1, h2, h3⟩ := ok_Ma_floorDiv hX.j _ _ _ _ _ h
    exact ⟨r, fun ht => ⟨1, by decide, h1 ht⟩, h2, h3⟩
  rcases ite_s h with ⟨rfl, h⟩ | ⟨_, h⟩
  · obtain ⟨r, h1, h2, h3⟩ := ok_To_heapNumber hX _ _ _ _ _ h
    exact ⟨r, fun ht => ⟨2, by decide, h1 ht⟩, h2, h3⟩
  cases h
set_option maxRecDepth 100000 in
theorem s_To_winningTake {X : CXT} (hX : XC X) : ∀ (k0 : Nat) (v1 : Int32) (v2 : Int32) (s : Mem) (o : Int32 × Mem), f_To_winningTake k0 v1 v2 s = some o → BSnd X 3 216 (ovI o) 0 (entL [.inr (.inr (8, k0)), .inl v1, .inl v2]) [] s := by
  intro k0 v1 v2 s o h
  rw [f_To_winningTake_eq] at h
  exact evC (chs := c_To_winningTake) (cuts := cu_To_winningTake) (G := fun pc ls st σ => none) hX.2.1 hX.2.2 (F := F_To_winningTake _) (fs_To_winningTake hX _) (rt_I rfl) oc_To_winningTake (by
    intro pc ls st σ o h
    cases h) 200 0 _ _ _ _ h
theorem ok_To_winningTake {X : CXT} (hX : XC X) : SemOK X 3 216 sm_To_winningTake := by
  intro O av σ K o h
  unfold sm_To_winningTake at h
  split at h
  · obtain ⟨r, hf, h⟩ := Option.bind_eq_some_iff.mp h
    exact ⟨ovI r, fun ht => sp_of hX.1 (by decide) (List.mem_range.mpr (by decide)) (by decide +kernel) ht (Nat.le_of_ble_eq_true rfl) (s_To_winningTake hX _ _ _ _ _ hf), trivial, h⟩
  · cases h
noncomputable def f_P_game_28 (K62 : Int32 → Int32 → Int32 → Mem → Option (Int32 × Mem)) : Nat → Nat → Int32 → Int32 → Int32 → Mem → Option (Int32 × Mem)
  | 0, _, _, _, _, _ => none
  | n + 1, k0, v1, v2, v3, s =>
    cif ((rI s (k0 + 7) 7) ≤ v3) (
      some ((-1 : Int32), s)) (
      (f_To_winningTake (k0 + 7) v3 v2 s).bind fun r1 =>
      cif (r1.1 = ((-1 : Int32))) (
        f_P_game_28 K62 n k0 v1 v2 (v3 + (1 : Int32)) r1.2) (
        K62 v1 v3 r1.1 r1.2))
noncomputable def f_P_game_62 (v1 : Int32) (v3 : Int32) (v4 : Int32) (s : Mem) : Option (Int32 × Mem) :=
  cif (v1 = 0) (
    some (v3, s)) (
    some (v4, s))
noncomputable def b_P_game (k0 : Nat) (v1 : Int32) (s : Mem) : Option (Int32 × Mem) :=
  (f_To_plankSum (k0 + 7) s).bind fun r1 =>
  cif (r1.1 = 0) (
    some ((-1 : Int32), r1.2)) (
    (f_P_within v1 ((0 : Int32)) ((1 : Int32)) r1.2).bind fun r2 =>
    cif ((b2i r2.1) = 0) (
      some ((-1 : Int32), r2.2)) (
      f_P_game_28 (fun v1 v3 v4 s => f_P_game_62 v1 v3 v4 s) FU k0 v1 r1.1 ((0 : Int32)) r2.2))
noncomputable def f_P_game : Nat → Int32 → Mem → Option (Int32 × Mem) := Classical.choose (⟨b_P_game, rfl⟩ : ∃ f : Nat → Int32 → Mem → Option (Int32 × Mem), f = b_P_game)
theorem f_P_game_eq : f_P_game = b_P_game := Classical.choose_spec (⟨b_P_game, rfl⟩ : ∃ f : Nat → Int32 → Mem → Option (Int32 × Mem), f = b_P_game)
noncomputable def sm_P_game (O : Type) (av : List AV) (σ : Mem) (K : AV → Mem → Option O) : Option O := match av with
  | [.inr (.inr (11, k0)), .inl v1] => (f_P_game k0 v1 σ).bind fun r => K (.inl r.1) r.2
  | _ => none
def c_P_game : List (List CE) := [[(0, .aload_n 0, 1, 0, 0, 0), (1, .getfield 10, 3, 11, 0, 0), (4, .getfield 30, 3, 10, 1, 0), (7, .invokevirtual 419, 3, 214, 1, 17), (10, .istore_n 2, 1, 0, 0, 0), (11, .iload_n 2, 1, 0, 0, 0), (12, .ifCond .eq 12, 3, 24, 0, 0), (15, .iload_n 1, 1, 0, 0, 0)], [(16, .iconst 0, 1, 0, 0, 0), (17, .iconst 1, 1, 1, 0, 0), (18, .invokestatic 80, 3, 17, 3, 1), (21, .ifCond .ne 5, 3, 26, 0, 0), (24, .iconst (-1), 1, 1, 0, 1), (25, .ireturn, 1, 0, 0, 0), (26, .iconst 0, 1, 0, 0, 0), (27, .istore_n 3, 1, 0, 0, 0), (28, .iload_n 3, 1, 0, 0, 0), (29, .aload_n 0, 1, 0, 0, 0), (30, .getfield 10, 3, 11, 0, 0)], [(33, .getfield 30, 3, 10, 1, 0), (36, .getfield 209, 3, 8, 7, 0), (39, .if_icmp .ge 40, 3, 79, 0, 0), (42, .aload_n 0, 1, 0, 0, 0), (43, .getfield 10, 3, 11, 0, 0), (46, .getfield 30, 3, 10, 1, 0)], [(49, .iload_n 3, 1, 0, 0, 0), (50, .iload_n 2, 1, 0, 0, 0), (51, .invokevirtual 422, 3, 216, 3, 17), (54, .istore 4, 2, 0, 0, 0), (56, .iload 4, 2, 0, 0, 0), (58, .iconst (-1), 1, 1, 0, 1), (59, .if_icmp .eq 14, 3, 73, 0, 0), (62, .iload_n 1, 1, 0, 0, 0), (63, .ifCond .ne 7, 3, 70, 0, 0)], [(66, .iload_n 3, 1, 0, 0, 0), (67, .goto 5, 3, 72, 0, 0), (70, .iload 4, 2, 0, 0, 0), (72, .ireturn, 1, 0, 0, 0), (73, .iinc 3 1, 3, 1, 0, 0), (76, .goto (-48), 3, 28, 0, 0), (79, .iconst (-1), 1, 1, 0, 1)], [(80, .ireturn, 1, 0, 0, 0)]]
set_option maxRecDepth 100000 in
theorem oc_P_game : okC 213 c_P_game = true := by decide +kernel
def cu_P_game : List (Nat × List Bool) := [(28, [true, true, true, true]), (62, [false, true, false, true, true])]
noncomputable def F_P_game (O : Type) (a : Nat) (av : List AV) (σ : Mem) (K : AV → Mem → Option O) : Option O := if a = 17 then sm_P_within O av σ K else if a = 214 then sm_To_plankSum O av σ K else if a = 216 then sm_To_winningTake O av σ K else none
theorem fs_P_game {X : CXT} (hX : XC X) (O : Type) : FS X 4 (F_P_game O) := by
  intro a av σ K o h
  unfold F_P_game at h
  rcases ite_s h with ⟨rfl, h⟩ | ⟨_, h⟩
  · obtain ⟨r, h1, h2, h3⟩ := ok_P_within hX _ _ _ _ _ h
    exact ⟨r, fun ht => ⟨1, by decide, h1 ht⟩, h2, h3⟩
  rcases ite_s h with ⟨rfl, h⟩ | ⟨_, h⟩
  · obtain ⟨r, h1, h2, h3⟩ := ok_To_plankSum hX _ _ _ _ _ h
    exact ⟨r, fun ht => ⟨3, by decide, h1 ht⟩, h2, h3⟩
  rcases ite_s h with ⟨rfl, h⟩ | ⟨_, h⟩
  · obtain ⟨r, h1, h2, h3⟩ := ok_To_winningTake hX _ _ _ _ _ h
    exact ⟨r, fun ht => ⟨3, by decide, h1 ht⟩, h2, h3⟩
  cases h
def hd_P_game_28 {O : Type} (g : Nat → Int32 → Int32 → Int32 → Mem → Option O) (ls : OL) (st : List AV) (σ : Mem) : Option O := match ls, st with
  | [some (.inr (.inr (11, k0))), some (.inl v1), some (.inl v2), some (.inl v3)], [] => g k0 v1 v2 v3 σ
  | _, _ => none
theorem hs_P_game_28 {X : CXT} {g : Nat → Int32 → Int32 → Int32 → Mem → Option (Int32 × Mem)} (hg : ∀ (k0 : Nat) (v1 : Int32) (v2 : Int32) (v3 : Int32) (s : Mem) (o : Int32 × Mem), g k0 v1 v2 v3 s = some o → BSnd X 4 213 (ovI o) 28 [some (.inr (.inr (11, k0))), some (.inl v1), some (.inl v2), some (.inl v3)] [] s) : ∀ ls st σ o, hd_P_game_28 g ls st σ = some o → BSnd X 4 213 (ovI o) 28 ls st σ := by
  intro ls st σ o h
  unfold hd_P_game_28 at h
  split at h
  · exact hg _ _ _ _ _ _ h
  · cases h
def hd_P_game_62 {O : Type} (g : Int32 → Int32 → Int32 → Mem → Option O) (ls : OL) (st : List AV) (σ : Mem) : Option O := match ls, st with
  | [none, some (.inl v1), none, some (.inl v3), some (.inl v4)], [] => g v1 v3 v4 σ
  | _, _ => none
theorem hs_P_game_62 {X : CXT} {g : Int32 → Int32 → Int32 → Mem → Option (Int32 × Mem)} (hg : ∀ (v1 : Int32) (v3 : Int32) (v4 : Int32) (s : Mem) (o : Int32 × Mem), g v1 v3 v4 s = some o → BSnd X 4 213 (ovI o) 62 [none, some (.inl v1), none, some (.inl v3), some (.inl v4)] [] s) : ∀ ls st σ o, hd_P_game_62 g ls st σ = some o → BSnd X 4 213 (ovI o) 62 ls st σ := by
  intro ls st σ o h
  unfold hd_P_game_62 at h
  split at h
  · exact hg _ _ _ _ _ h
  · cases h
set_option maxRecDepth 100000 in
theorem s_P_game_28 {X : CXT} (hX : XC X) {K62 : Int32 → Int32 → Int32 → Mem → Option (Int32 × Mem)} (hK62 : ∀ (v1 : Int32) (v3 : Int32) (v4 : Int32) (s : Mem) (o : Int32 × Mem), K62 v1 v3 v4 s = some o → BSnd X 4 213 (ovI o) 62 [none, some (.inl v1), none, some (.inl v3), some (.inl v4)] [] s) : ∀ n : Nat, ∀ (k0 : Nat) (v1 : Int32) (v2 : Int32) (v3 : Int32) (s : Mem) (o : Int32 × Mem), f_P_game_28 K62 n k0 v1 v2 v3 s = some o → BSnd X 4 213 (ovI o) 28 [some (.inr (.inr (11, k0))), some (.inl v1), some (.inl v2), some (.inl v3)] [] s := by
  intro n
  induction n with
  | zero => intro k0 v1 v2 v3 s o h; cases h
  | succ n ih =>
    intro k0 v1 v2 v3 s o h
    exact evC (chs := c_P_game) (cuts := cu_P_game) (G := fun pc ls st σ => if pc = 28 then hd_P_game_28 (fun k0 v1 v2 v3 s => f_P_game_28 K62 n k0 v1 v2 v3 s) ls st σ else if pc = 62 then hd_P_game_62 (fun v1 v3 v4 s => K62 v1 v3 v4 s) ls st σ else none) hX.2.1 hX.2.2 (F := F_P_game _) (fs_P_game hX _) (rt_I rfl) oc_P_game (by
    intro pc ls st σ o h
    rcases ite_s h with ⟨rfl, h⟩ | ⟨_, h⟩
    · exact hs_P_game_28 ih _ _ _ _ h
    rcases ite_s h with ⟨rfl, h⟩ | ⟨_, h⟩
    · exact hs_P_game_62 hK62 _ _ _ _ h
    cases h) 208 28 _ _ _ _ h
set_option maxRecDepth 100000 in
theorem s_P_game_62 {X : CXT} (hX : XC X) : ∀ (v1 : Int32) (v3 : Int32) (v4 : Int32) (s : Mem) (o : Int32 × Mem), f_P_game_62 v1 v3 v4 s = some o → BSnd X 4 213 (ovI o) 62 [none, some (.inl v1), none, some (.inl v3), some (.inl v4)] [] s := by
  intro v1 v3 v4 s o h
  exact evC (chs := c_P_game) (cuts := cu_P_game) (G := fun pc ls st σ => none) hX.2.1 hX.2.2 (F := F_P_game _) (fs_P_game hX _) (rt_I rfl) oc_P_game (by
    intro pc ls st σ o h
    cases h) 208 62 _ _ _ _ h
set_option maxRecDepth 100000 in
theorem s_P_game {X : CXT} (hX : XC X) : ∀ (k0 : Nat) (v1 : Int32) (s : Mem) (o : Int32 × Mem), f_P_game k0 v1 s = some o → BSnd X 4 213 (ovI o) 0 (entL [.inr (.inr (11, k0)), .inl v1]) [] s := by
  intro k0 v1 s o h
  rw [f_P_game_eq] at h
  exact evC (chs := c_P_game) (cuts := cu_P_game) (G := fun pc ls st σ => if pc = 28 then hd_P_game_28 (fun k0 v1 v2 v3 s => f_P_game_28 (fun v1 v3 v4 s => f_P_game_62 v1 v3 v4 s) FU k0 v1 v2 v3 s) ls st σ else if pc = 62 then hd_P_game_62 (fun v1 v3 v4 s => f_P_game_62 v1 v3 v4 s) ls st σ else none) hX.2.1 hX.2.2 (F := F_P_game _) (fs_P_game hX _) (rt_I rfl) oc_P_game (by
    intro pc ls st σ o h
    rcases ite_s h with ⟨rfl, h⟩ | ⟨_, h⟩
    · exact hs_P_game_28 (s_P_game_28 hX (s_P_game_62 hX) FU) _ _ _ _ h
    rcases ite_s h with ⟨rfl, h⟩ | ⟨_, h⟩
    · exact hs_P_game_62 (s_P_game_62 hX) _ _ _ _ h
    cases h) 208 0 _ _ _ _ h
theorem ok_P_game {X : CXT} (hX : XC X) : SemOK X 4 213 sm_P_game := by
  intro O av σ K o h
  unfold sm_P_game at h
  split at h
  · obtain ⟨r, hf, h⟩ := Option.bind_eq_some_iff.mp h
    exact ⟨ovI r, fun ht => sp_of hX.1 (by decide) (List.mem_range.mpr (by decide)) (by decide +kernel) ht (Nat.le_of_ble_eq_true rfl) (s_P_game hX _ _ _ _ hf), trivial, h⟩
  · cases h
noncomputable def b_Ke_giveBack (k0 : Nat) (k1 : Nat) (s : Mem) : Option (Bool × Mem) :=
  gd (inb (rI s k0 1) (lenC (k0 + 1))) <|
  cif ((rI s k0 2) = 0) (
    some (false, s)) (
    (f_Pi_copyFrom k1 (k0 + 1 + 1 + 5 * ix (rI s k0 1)) s).bind fun r1 =>
    (f_Ma_floorMod ((rI r1 k0 1) - ((1 : Int32))) ((6 : Int32)) r1).bind fun r2 =>
    let s3 : Mem := wI r2.2 k0 1 r2.1
    let s4 : Mem := wI s3 k0 2 ((rI s3 k0 2) - ((1 : Int32)))
    some (true, s4))
noncomputable def f_Ke_giveBack : Nat → Nat → Mem → Option (Bool × Mem) := Classical.choose (⟨b_Ke_giveBack, rfl⟩ : ∃ f : Nat → Nat → Mem → Option (Bool × Mem), f = b_Ke_giveBack)
theorem f_Ke_giveBack_eq : f_Ke_giveBack = b_Ke_giveBack := Classical.choose_spec (⟨b_Ke_giveBack, rfl⟩ : ∃ f : Nat → Nat → Mem → Option (Bool × Mem), f = b_Ke_giveBack)
noncomputable def sm_Ke_giveBack (O : Type) (av : List AV) (σ : Mem) (K : AV → Mem → Option O) : Option O := match av with
  | [.inr (.inr (1, k0)), .inr (.inr (4, k1))] => (f_Ke_giveBack k0 k1 σ).bind fun r => K (.inl (b2i r.1)) r.2
  | _ => none
def c_Ke_giveBack : List (List CE) := [[(0, .aload_n 0, 1, 0, 0, 0), (1, .getfield 11, 3, 1, 0, 0), (4, .aload_n 0, 1, 0, 0, 0), (5, .getfield 17, 3, 1, 1, 0), (8, .aaload, 1, 0, 0, 0), (9, .astore_n 2, 1, 0, 0, 0), (10, .aload_n 0, 1, 0, 0, 0), (11, .getfield 21, 3, 1, 2, 0), (14, .ifCond .eq 7, 3, 21, 0, 0)], [(17, .aload_n 2, 1, 0, 0, 0), (18, .ifnonnull 5, 3, 23, 0, 0), (21, .iconst 0, 1, 0, 0, 0), (22, .ireturn, 1, 0, 0, 0), (23, .aload_n 1, 1, 0, 0, 0), (24, .aload_n 2, 1, 0, 0, 0), (25, .invokevirtual 33, 3, 31, 2, 8), (28, .aload_n 0, 1, 0, 0, 0), (29, .aload_n 0, 1, 0, 0, 0), (30, .getfield 17, 3, 1, 1, 0)], [(33, .iconst 1, 1, 1, 0, 0), (34, .isub, 1, 0, 0, 0), (35, .bipush 6, 2, 6, 0, 0), (37, .invokestatic 27, 3, 30, 2, 1), (40, .putfield 17, 3, 1, 1, 0), (43, .aload_n 0, 1, 0, 0, 0), (44, .dup, 1, 0, 0, 0), (45, .getfield 21, 3, 1, 2, 0)], [(48, .iconst 1, 1, 1, 0, 0), (49, .isub, 1, 0, 0, 0), (50, .putfield 21, 3, 1, 2, 0), (53, .iconst 1, 1, 1, 0, 0), (54, .ireturn, 1, 0, 0, 0)]]
set_option maxRecDepth 100000 in
theorem oc_Ke_giveBack : okC 218 c_Ke_giveBack = true := by decide +kernel
def cu_Ke_giveBack : List (Nat × List Bool) := []
noncomputable def F_Ke_giveBack (O : Type) (a : Nat) (av : List AV) (σ : Mem) (K : AV → Mem → Option O) : Option O := if a = 30 then sm_Ma_floorMod O av σ K else if a = 31 then sm_Pi_copyFrom O av σ K else none
theorem fs_Ke_giveBack {X : CXT} (hX : XC X) (O : Type) : FS X 2 (F_Ke_giveBack O) := by
  intro a av σ K o h
  unfold F_Ke_giveBack at h
  rcases ite_s h with ⟨rfl, h⟩ | ⟨_, h⟩
  · obtain ⟨r, h1, h2, h3⟩ := ok_Ma_floorMod hX.j _ _ _ _ _ h
    exact ⟨r, fun ht => ⟨1, by decide, h1 ht⟩, h2, h3⟩
  rcases ite_s h with ⟨rfl, h⟩ | ⟨_, h⟩
  · obtain ⟨r, h1, h2, h3⟩ := ok_Pi_copyFrom hX _ _ _ _ _ h
    exact ⟨r, fun ht => ⟨1, by decide, h1 ht⟩, h2, h3⟩
  cases h
set_option maxRecDepth 100000 in
theorem s_Ke_giveBack {X : CXT} (hX : XC X) : ∀ (k0 : Nat) (k1 : Nat) (s : Mem) (o : Bool × Mem), f_Ke_giveBack k0 k1 s = some o → BSnd X 2 218 (ovZ o) 0 (entL [.inr (.inr (1, k0)), .inr (.inr (4, k1))]) [] s := by
  intro k0 k1 s o h
  rw [f_Ke_giveBack_eq] at h
  exact evC (chs := c_Ke_giveBack) (cuts := cu_Ke_giveBack) (G := fun pc ls st σ => none) hX.2.1 hX.2.2 (F := F_Ke_giveBack _) (fs_Ke_giveBack hX _) (rt_Z rfl) oc_Ke_giveBack (by
    intro pc ls st σ o h
    cases h) 168 0 _ _ _ _ h
theorem ok_Ke_giveBack {X : CXT} (hX : XC X) : SemOK X 2 218 sm_Ke_giveBack := by
  intro O av σ K o h
  unfold sm_Ke_giveBack at h
  split at h
  · obtain ⟨r, hf, h⟩ := Option.bind_eq_some_iff.mp h
    exact ⟨ovZ r, fun ht => sp_of hX.1 (by decide) (List.mem_range.mpr (by decide)) (by decide +kernel) ht (Nat.le_of_ble_eq_true rfl) (s_Ke_giveBack hX _ _ _ _ hf), trivial, h⟩
  · cases h
noncomputable def b_P_undo (k0 : Nat) (s : Mem) : Option (Bool × Mem) :=
  (f_Ke_giveBack (k0 + 128) (k0 + 2) s).bind fun r1 =>
  lf (rB (b2i r1.1)) r1.2
noncomputable def f_P_undo : Nat → Mem → Option (Bool × Mem) := Classical.choose (⟨b_P_undo, rfl⟩ : ∃ f : Nat → Mem → Option (Bool × Mem), f = b_P_undo)
theorem f_P_undo_eq : f_P_undo = b_P_undo := Classical.choose_spec (⟨b_P_undo, rfl⟩ : ∃ f : Nat → Mem → Option (Bool × Mem), f = b_P_undo)
noncomputable def sm_P_undo (O : Type) (av : List AV) (σ : Mem) (K : AV → Mem → Option O) : Option O := match av with
  | [.inr (.inr (11, k0))] => (f_P_undo k0 σ).bind fun r => K (.inl (b2i r.1)) r.2
  | _ => none
def c_P_undo : List (List CE) := [[(0, .aload_n 0, 1, 0, 0, 0), (1, .getfield 48, 3, 11, 4, 0), (4, .aload_n 0, 1, 0, 0, 0), (5, .getfield 10, 3, 11, 0, 0), (8, .getfield 70, 3, 10, 0, 0), (11, .invokevirtual 425, 3, 218, 2, 3), (14, .ireturn, 1, 0, 0, 0)]]
set_option maxRecDepth 100000 in
theorem oc_P_undo : okC 217 c_P_undo = true := by decide +kernel
def cu_P_undo : List (Nat × List Bool) := []
noncomputable def F_P_undo (O : Type) (a : Nat) (av : List AV) (σ : Mem) (K : AV → Mem → Option O) : Option O := if a = 218 then sm_Ke_giveBack O av σ K else none
theorem fs_P_undo {X : CXT} (hX : XC X) (O : Type) : FS X 3 (F_P_undo O) := by
  intro a av σ K o h
  unfold F_P_undo at h
  rcases ite_s h with ⟨rfl, h⟩ | ⟨_, h⟩
  · obtain ⟨r, h1, h2, h3⟩ := ok_Ke_giveBack hX _ _ _ _ _ h
    exact ⟨r, fun ht => ⟨2, by decide, h1 ht⟩, h2, h3⟩
  cases h
set_option maxRecDepth 100000 in
theorem s_P_undo {X : CXT} (hX : XC X) : ∀ (k0 : Nat) (s : Mem) (o : Bool × Mem), f_P_undo k0 s = some o → BSnd X 3 217 (ovZ o) 0 (entL [.inr (.inr (11, k0))]) [] s := by
  intro k0 s o h
  rw [f_P_undo_eq] at h
  exact evC (chs := c_P_undo) (cuts := cu_P_undo) (G := fun pc ls st σ => none) hX.2.1 hX.2.2 (F := F_P_undo _) (fs_P_undo hX _) (rt_Z rfl) oc_P_undo (by
    intro pc ls st σ o h
    cases h) 68 0 _ _ _ _ h
theorem ok_P_undo {X : CXT} (hX : XC X) : SemOK X 3 217 sm_P_undo := by
  intro O av σ K o h
  unfold sm_P_undo at h
  split at h
  · obtain ⟨r, hf, h⟩ := Option.bind_eq_some_iff.mp h
    exact ⟨ovZ r, fun ht => sp_of hX.1 (by decide) (List.mem_range.mpr (by decide)) (by decide +kernel) ht (Nat.le_of_ble_eq_true rfl) (s_P_undo hX _ _ _ hf), trivial, h⟩
  · cases h
noncomputable def f_To_copyFrom_2 (K50 : Nat → Nat → Mem → Option (Mem)) : Nat → Nat → Nat → Int32 → Mem → Option (Mem)
  | 0, _, _, _, _ => none
  | n + 1, k0, k1, v2, s =>
    cif (((12 : Int32)) ≤ v2) (
      K50 k0 k1 s) (
      gd (inb v2 (lenC (k1 + 1))) <|
      gd (inb v2 (lenC (k0 + 1))) <|
      let s1 : Mem := wI s (k0 + 1) (ix v2) (rI s (k1 + 1) (ix v2))
      gd (inb v2 (lenC (k1 + 2))) <|
      gd (inb v2 (lenC (k0 + 2))) <|
      let s2 : Mem := wI s1 (k0 + 2) (ix v2) (rI s1 (k1 + 2) (ix v2))
      gd (inb v2 (lenC (k1 + 3))) <|
      gd (inb v2 (lenC (k0 + 3))) <|
      let s3 : Mem := wI s2 (k0 + 3) (ix v2) (rI s2 (k1 + 3) (ix v2))
      f_To_copyFrom_2 K50 n k0 k1 (v2 + (1 : Int32)) s3)
noncomputable def f_To_copyFrom_50 (k0 : Nat) (k1 : Nat) (s : Mem) : Option (Mem) :=
  (f_La_copyFrom (k0 + 4) (k1 + 4) s).bind fun r1 =>
  (f_Ro_copyFrom (k0 + 11) (k1 + 11) r1).bind fun r2 =>
  (f_Ro_copyFrom (k0 + 15) (k1 + 15) r2.2).bind fun r3 =>
  (f_Ro_copyFrom (k0 + 19) (k1 + 19) r3.2).bind fun r4 =>
  let s5 : Mem := wI r4.2 k0 7 (rI r4.2 k1 7)
  let s6 : Mem := wI s5 k0 8 (rI s5 k1 8)
  let s7 : Mem := wI s6 k0 9 (rI s6 k1 9)
  some s7
noncomputable def b_To_copyFrom (k0 : Nat) (k1 : Nat) (s : Mem) : Option (Mem) :=
  f_To_copyFrom_2 (fun k0 k1 s => f_To_copyFrom_50 k0 k1 s) FU k0 k1 ((0 : Int32)) s
noncomputable def f_To_copyFrom : Nat → Nat → Mem → Option (Mem) := Classical.choose (⟨b_To_copyFrom, rfl⟩ : ∃ f : Nat → Nat → Mem → Option (Mem), f = b_To_copyFrom)
theorem f_To_copyFrom_eq : f_To_copyFrom = b_To_copyFrom := Classical.choose_spec (⟨b_To_copyFrom, rfl⟩ : ∃ f : Nat → Nat → Mem → Option (Mem), f = b_To_copyFrom)
noncomputable def sm_To_copyFrom (O : Type) (av : List AV) (σ : Mem) (K : AV → Mem → Option O) : Option O := match av with
  | [.inr (.inr (8, k0)), .inr (.inr (8, k1))] => (f_To_copyFrom k0 k1 σ).bind fun r => K (.inl 0) r
  | _ => none
def c_To_copyFrom : List (List CE) := [[(0, .iconst 0, 1, 0, 0, 0), (1, .istore_n 2, 1, 0, 0, 0), (2, .iload_n 2, 1, 0, 0, 0), (3, .bipush 12, 2, 12, 0, 0), (5, .if_icmp .ge 45, 3, 50, 0, 0), (8, .aload_n 0, 1, 0, 0, 0), (9, .getfield 9, 3, 8, 0, 0), (12, .iload_n 2, 1, 0, 0, 0), (13, .aload_n 1, 1, 0, 0, 0), (14, .getfield 9, 3, 8, 0, 0)], [(17, .iload_n 2, 1, 0, 0, 0), (18, .iaload, 1, 0, 0, 0), (19, .iastore, 1, 0, 0, 0), (20, .aload_n 0, 1, 0, 0, 0), (21, .getfield 15, 3, 8, 1, 0), (24, .iload_n 2, 1, 0, 0, 0), (25, .aload_n 1, 1, 0, 0, 0), (26, .getfield 15, 3, 8, 1, 0), (29, .iload_n 2, 1, 0, 0, 0), (30, .iaload, 1, 0, 0, 0), (31, .iastore, 1, 0, 0, 0)], [(32, .aload_n 0, 1, 0, 0, 0), (33, .getfield 18, 3, 8, 2, 0), (36, .iload_n 2, 1, 0, 0, 0), (37, .aload_n 1, 1, 0, 0, 0), (38, .getfield 18, 3, 8, 2, 0), (41, .iload_n 2, 1, 0, 0, 0), (42, .iaload, 1, 0, 0, 0), (43, .iastore, 1, 0, 0, 0), (44, .iinc 2 1, 3, 1, 0, 0), (47, .goto (-45), 3, 2, 0, 0)], [(50, .aload_n 0, 1, 0, 0, 0), (51, .getfield 24, 3, 8, 3, 0), (54, .aload_n 1, 1, 0, 0, 0), (55, .getfield 24, 3, 8, 3, 0), (58, .invokevirtual 53, 3, 128, 2, 4), (61, .aload_n 0, 1, 0, 0, 0), (62, .getfield 33, 3, 8, 4, 0)], [(65, .aload_n 1, 1, 0, 0, 0), (66, .getfield 33, 3, 8, 4, 0), (69, .invokevirtual 57, 3, 136, 2, 13), (72, .pop, 1, 0, 0, 0), (73, .aload_n 0, 1, 0, 0, 0), (74, .getfield 37, 3, 8, 5, 0), (77, .aload_n 1, 1, 0, 0, 0), (78, .getfield 37, 3, 8, 5, 0)], [(81, .invokevirtual 57, 3, 136, 2, 13), (84, .pop, 1, 0, 0, 0), (85, .aload_n 0, 1, 0, 0, 0), (86, .getfield 40, 3, 8, 6, 0), (89, .aload_n 1, 1, 0, 0, 0), (90, .getfield 40, 3, 8, 6, 0), (93, .invokevirtual 57, 3, 136, 2, 13)], [(96, .pop, 1, 0, 0, 0), (97, .aload_n 0, 1, 0, 0, 0), (98, .aload_n 1, 1, 0, 0, 0), (99, .getfield 43, 3, 8, 7, 0), (102, .putfield 43, 3, 8, 7, 0), (105, .aload_n 0, 1, 0, 0, 0), (106, .aload_n 1, 1, 0, 0, 0), (107, .getfield 47, 3, 8, 8, 0), (110, .putfield 47, 3, 8, 8, 0)], [(113, .aload_n 0, 1, 0, 0, 0), (114, .aload_n 1, 1, 0, 0, 0), (115, .getfield 50, 3, 8, 9, 0), (118, .putfield 50, 3, 8, 9, 0), (121, .return_, 1, 0, 0, 0)]]
set_option maxRecDepth 100000 in
theorem oc_To_copyFrom : okC 221 c_To_copyFrom = true := by decide +kernel
def cu_To_copyFrom : List (Nat × List Bool) := [(2, [true, true, true]), (50, [true, true])]
noncomputable def F_To_copyFrom (O : Type) (a : Nat) (av : List AV) (σ : Mem) (K : AV → Mem → Option O) : Option O := if a = 128 then sm_La_copyFrom O av σ K else if a = 136 then sm_Ro_copyFrom O av σ K else none
theorem fs_To_copyFrom {X : CXT} (hX : XC X) (O : Type) : FS X 4 (F_To_copyFrom O) := by
  intro a av σ K o h
  unfold F_To_copyFrom at h
  rcases ite_s h with ⟨rfl, h⟩ | ⟨_, h⟩
  · obtain ⟨r, h1, h2, h3⟩ := ok_La_copyFrom hX _ _ _ _ _ h
    exact ⟨r, fun ht => ⟨1, by decide, h1 ht⟩, h2, h3⟩
  rcases ite_s h with ⟨rfl, h⟩ | ⟨_, h⟩
  · obtain ⟨r, h1, h2, h3⟩ := ok_Ro_copyFrom hX _ _ _ _ _ h
    exact ⟨r, fun ht => ⟨3, by decide, h1 ht⟩, h2, h3⟩
  cases h
def hd_To_copyFrom_2 {O : Type} (g : Nat → Nat → Int32 → Mem → Option O) (ls : OL) (st : List AV) (σ : Mem) : Option O := match ls, st with
  | [some (.inr (.inr (8, k0))), some (.inr (.inr (8, k1))), some (.inl v2)], [] => g k0 k1 v2 σ
  | _, _ => none
theorem hs_To_copyFrom_2 {X : CXT} {g : Nat → Nat → Int32 → Mem → Option (Mem)} (hg : ∀ (k0 : Nat) (k1 : Nat) (v2 : Int32) (s : Mem) (o : Mem), g k0 k1 v2 s = some o → BSnd X 4 221 (ovV o) 2 [some (.inr (.inr (8, k0))), some (.inr (.inr (8, k1))), some (.inl v2)] [] s) : ∀ ls st σ o, hd_To_copyFrom_2 g ls st σ = some o → BSnd X 4 221 (ovV o) 2 ls st σ := by
  intro ls st σ o h
  unfold hd_To_copyFrom_2 at h
  split at h
  · exact hg _ _ _ _ _ h
  · cases h
def hd_To_copyFrom_50 {O : Type} (g : Nat → Nat → Mem → Option O) (ls : OL) (st : List AV) (σ : Mem) : Option O := match ls, st with
  | [some (.inr (.inr (8, k0))), some (.inr (.inr (8, k1)))], [] => g k0 k1 σ
  | _, _ => none
theorem hs_To_copyFrom_50 {X : CXT} {g : Nat → Nat → Mem → Option (Mem)} (hg : ∀ (k0 : Nat) (k1 : Nat) (s : Mem) (o : Mem), g k0 k1 s = some o → BSnd X 4 221 (ovV o) 50 [some (.inr (.inr (8, k0))), some (.inr (.inr (8, k1)))] [] s) : ∀ ls st σ o, hd_To_copyFrom_50 g ls st σ = some o → BSnd X 4 221 (ovV o) 50 ls st σ := by
  intro ls st σ o h
  unfold hd_To_copyFrom_50 at h
  split at h
  · exact hg _ _ _ _ h
  · cases h
set_option maxRecDepth 100000 in
theorem s_To_copyFrom_2 {X : CXT} (hX : XC X) {K50 : Nat → Nat → Mem → Option (Mem)} (hK50 : ∀ (k0 : Nat) (k1 : Nat) (s : Mem) (o : Mem), K50 k0 k1 s = some o → BSnd X 4 221 (ovV o) 50 [some (.inr (.inr (8, k0))), some (.inr (.inr (8, k1)))] [] s) : ∀ n : Nat, ∀ (k0 : Nat) (k1 : Nat) (v2 : Int32) (s : Mem) (o : Mem), f_To_copyFrom_2 K50 n k0 k1 v2 s = some o → BSnd X 4 221 (ovV o) 2 [some (.inr (.inr (8, k0))), some (.inr (.inr (8, k1))), some (.inl v2)] [] s := by
  intro n
  induction n with
  | zero => intro k0 k1 v2 s o h; cases h
  | succ n ih =>
    intro k0 k1 v2 s o h
    exact evC (chs := c_To_copyFrom) (cuts := cu_To_copyFrom) (G := fun pc ls st σ => if pc = 2 then hd_To_copyFrom_2 (fun k0 k1 v2 s => f_To_copyFrom_2 K50 n k0 k1 v2 s) ls st σ else if pc = 50 then hd_To_copyFrom_50 (fun k0 k1 s => K50 k0 k1 s) ls st σ else none) hX.2.1 hX.2.2 (F := F_To_copyFrom _) (fs_To_copyFrom hX _) (rt_V rfl) oc_To_copyFrom (by
    intro pc ls st σ o h
    rcases ite_s h with ⟨rfl, h⟩ | ⟨_, h⟩
    · exact hs_To_copyFrom_2 ih _ _ _ _ h
    rcases ite_s h with ⟨rfl, h⟩ | ⟨_, h⟩
    · exact hs_To_copyFrom_50 hK50 _ _ _ _ h
    cases h) 308 2 _ _ _ _ h
set_option maxRecDepth 100000 in
theorem s_To_copyFrom_50 {X : CXT} (hX : XC X) : ∀ (k0 : Nat) (k1 : Nat) (s : Mem) (o : Mem), f_To_copyFrom_50 k0 k1 s = some o → BSnd X 4 221 (ovV o) 50 [some (.inr (.inr (8, k0))), some (.inr (.inr (8, k1)))] [] s := by
  intro k0 k1 s o h
  exact evC (chs := c_To_copyFrom) (cuts := cu_To_copyFrom) (G := fun pc ls st σ => none) hX.2.1 hX.2.2 (F := F_To_copyFrom _) (fs_To_copyFrom hX _) (rt_V rfl) oc_To_copyFrom (by
    intro pc ls st σ o h
    cases h) 308 50 _ _ _ _ h
set_option maxRecDepth 100000 in
theorem s_To_copyFrom {X : CXT} (hX : XC X) : ∀ (k0 : Nat) (k1 : Nat) (s : Mem) (o : Mem), f_To_copyFrom k0 k1 s = some o → BSnd X 4 221 (ovV o) 0 (entL [.inr (.inr (8, k0)), .inr (.inr (8, k1))]) [] s := by
  intro k0 k1 s o h
  rw [f_To_copyFrom_eq] at h
  exact evC (chs := c_To_copyFrom) (cuts := cu_To_copyFrom) (G := fun pc ls st σ => if pc = 2 then hd_To_copyFrom_2 (fun k0 k1 v2 s => f_To_copyFrom_2 (fun k0 k1 s => f_To_copyFrom_50 k0 k1 s) FU k0 k1 v2 s) ls st σ else if pc = 50 then hd_To_copyFrom_50 (fun k0 k1 s => f_To_copyFrom_50 k0 k1 s) ls st σ else none) hX.2.1 hX.2.2 (F := F_To_copyFrom _) (fs_To_copyFrom hX _) (rt_V rfl) oc_To_copyFrom (by
    intro pc ls st σ o h
    rcases ite_s h with ⟨rfl, h⟩ | ⟨_, h⟩
    · exact hs_To_copyFrom_2 (s_To_copyFrom_2 hX (s_To_copyFrom_50 hX) FU) _ _ _ _ h
    rcases ite_s h with ⟨rfl, h⟩ | ⟨_, h⟩
    · exact hs_To_copyFrom_50 (s_To_copyFrom_50 hX) _ _ _ _ h
    cases h) 308 0 _ _ _ _ h
theorem ok_To_copyFrom {X : CXT} (hX : XC X) : SemOK X 4 221 sm_To_copyFrom := by
  intro O av σ K o h
  unfold sm_To_copyFrom at h
  split at h
  · obtain ⟨r, hf, h⟩ := Option.bind_eq_some_iff.mp h
    exact ⟨ovV r, fun ht => sp_of hX.1 (by decide) (List.mem_range.mpr (by decide)) (by decide +kernel) ht (Nat.le_of_ble_eq_true rfl) (s_To_copyFrom hX _ _ _ _ hf), trivial, h⟩
  · cases h
noncomputable def f_Th_copyFrom_74 (K110 : Nat → Nat → Mem → Option (Mem)) : Nat → Nat → Nat → Int32 → Mem → Option (Mem)
  | 0, _, _, _, _ => none
  | n + 1, k0, k1, v2, s =>
    cif (((8 : Int32)) ≤ v2) (
      K110 k0 k1 s) (
      gd (inb v2 (lenC (k1 + 25))) <|
      gd (inb v2 (lenC (k0 + 25))) <|
      let s1 : Mem := wI s (k0 + 25) (ix v2) (rI s (k1 + 25) (ix v2))
      gd (inb v2 (lenC (k1 + 26))) <|
      gd (inb v2 (lenC (k0 + 26))) <|
      let s2 : Mem := wI s1 (k0 + 26) (ix v2) (rI s1 (k1 + 26) (ix v2))
      f_Th_copyFrom_74 K110 n k0 k1 (v2 + (1 : Int32)) s2)
noncomputable def f_Th_copyFrom_112 : Nat → Nat → Nat → Int32 → Mem → Option (Mem)
  | 0, _, _, _, _ => none
  | n + 1, k0, k1, v2, s =>
    cif (((10 : Int32)) ≤ v2) (
      some s) (
      gd (inb v2 (lenC (k1 + 27))) <|
      gd (inb v2 (lenC (k0 + 27))) <|
      let s1 : Mem := wI s (k0 + 27) (ix v2) (rI s (k1 + 27) (ix v2))
      f_Th_copyFrom_112 n k0 k1 (v2 + (1 : Int32)) s1)
noncomputable def f_Th_copyFrom_110 (k0 : Nat) (k1 : Nat) (s : Mem) : Option (Mem) :=
  f_Th_copyFrom_112 FU k0 k1 ((0 : Int32)) s
noncomputable def b_Th_copyFrom (k0 : Nat) (k1 : Nat) (s : Mem) : Option (Mem) :=
  (f_Ro_copyFrom (k0 + 1) (k1 + 1) s).bind fun r1 =>
  (f_Ro_copyFrom (k0 + 5) (k1 + 5) r1.2).bind fun r2 =>
  (f_Ro_copyFrom (k0 + 9) (k1 + 9) r2.2).bind fun r3 =>
  (f_Ro_copyFrom (k0 + 13) (k1 + 13) r3.2).bind fun r4 =>
  (f_Ro_copyFrom (k0 + 17) (k1 + 17) r4.2).bind fun r5 =>
  (f_Ro_copyFrom (k0 + 21) (k1 + 21) r5.2).bind fun r6 =>
  f_Th_copyFrom_74 (fun k0 k1 s => f_Th_copyFrom_110 k0 k1 s) FU k0 k1 ((0 : Int32)) r6.2
noncomputable def f_Th_copyFrom : Nat → Nat → Mem → Option (Mem) := Classical.choose (⟨b_Th_copyFrom, rfl⟩ : ∃ f : Nat → Nat → Mem → Option (Mem), f = b_Th_copyFrom)
theorem f_Th_copyFrom_eq : f_Th_copyFrom = b_Th_copyFrom := Classical.choose_spec (⟨b_Th_copyFrom, rfl⟩ : ∃ f : Nat → Nat → Mem → Option (Mem), f = b_Th_copyFrom)
noncomputable def sm_Th_copyFrom (O : Type) (av : List AV) (σ : Mem) (K : AV → Mem → Option O) : Option O := match av with
  | [.inr (.inr (7, k0)), .inr (.inr (7, k1))] => (f_Th_copyFrom k0 k1 σ).bind fun r => K (.inl 0) r
  | _ => none
def c_Th_copyFrom : List (List CE) := [[(0, .aload_n 0, 1, 0, 0, 0), (1, .getfield 14, 3, 7, 0, 0), (4, .aload_n 1, 1, 0, 0, 0), (5, .getfield 14, 3, 7, 0, 0), (8, .invokevirtual 48, 3, 136, 2, 13), (11, .pop, 1, 0, 0, 0), (12, .aload_n 0, 1, 0, 0, 0), (13, .getfield 20, 3, 7, 1, 0)], [(16, .aload_n 1, 1, 0, 0, 0), (17, .getfield 20, 3, 7, 1, 0), (20, .invokevirtual 48, 3, 136, 2, 13), (23, .pop, 1, 0, 0, 0), (24, .aload_n 0, 1, 0, 0, 0), (25, .getfield 23, 3, 7, 2, 0), (28, .aload_n 1, 1, 0, 0, 0), (29, .getfield 23, 3, 7, 2, 0)], [(32, .invokevirtual 48, 3, 136, 2, 13), (35, .pop, 1, 0, 0, 0), (36, .aload_n 0, 1, 0, 0, 0), (37, .getfield 26, 3, 7, 3, 0), (40, .aload_n 1, 1, 0, 0, 0), (41, .getfield 26, 3, 7, 3, 0), (44, .invokevirtual 48, 3, 136, 2, 13), (47, .pop, 1, 0, 0, 0)], [(48, .aload_n 0, 1, 0, 0, 0), (49, .getfield 29, 3, 7, 4, 0), (52, .aload_n 1, 1, 0, 0, 0), (53, .getfield 29, 3, 7, 4, 0), (56, .invokevirtual 48, 3, 136, 2, 13), (59, .pop, 1, 0, 0, 0), (60, .aload_n 0, 1, 0, 0, 0), (61, .getfield 32, 3, 7, 5, 0)], [(64, .aload_n 1, 1, 0, 0, 0), (65, .getfield 32, 3, 7, 5, 0), (68, .invokevirtual 48, 3, 136, 2, 13), (71, .pop, 1, 0, 0, 0), (72, .iconst 0, 1, 0, 0, 0), (73, .istore_n 2, 1, 0, 0, 0), (74, .iload_n 2, 1, 0, 0, 0), (75, .bipush 8, 2, 8, 0, 0), (77, .if_icmp .ge 33, 3, 110, 0, 0)], [(80, .aload_n 0, 1, 0, 0, 0), (81, .getfield 35, 3, 7, 6, 0), (84, .iload_n 2, 1, 0, 0, 0), (85, .aload_n 1, 1, 0, 0, 0), (86, .getfield 35, 3, 7, 6, 0), (89, .iload_n 2, 1, 0, 0, 0), (90, .iaload, 1, 0, 0, 0), (91, .iastore, 1, 0, 0, 0), (92, .aload_n 0, 1, 0, 0, 0), (93, .getfield 39, 3, 7, 7, 0)], [(96, .iload_n 2, 1, 0, 0, 0), (97, .aload_n 1, 1, 0, 0, 0), (98, .getfield 39, 3, 7, 7, 0), (101, .iload_n 2, 1, 0, 0, 0), (102, .iaload, 1, 0, 0, 0), (103, .iastore, 1, 0, 0, 0), (104, .iinc 2 1, 3, 1, 0, 0), (107, .goto (-33), 3, 74, 0, 0), (110, .iconst 0, 1, 0, 0, 0), (111, .istore_n 2, 1, 0, 0, 0)], [(112, .iload_n 2, 1, 0, 0, 0), (113, .bipush 10, 2, 10, 0, 0), (115, .if_icmp .ge 21, 3, 136, 0, 0), (118, .aload_n 0, 1, 0, 0, 0), (119, .getfield 42, 3, 7, 8, 0), (122, .iload_n 2, 1, 0, 0, 0), (123, .aload_n 1, 1, 0, 0, 0), (124, .getfield 42, 3, 7, 8, 0), (127, .iload_n 2, 1, 0, 0, 0)], [(128, .iaload, 1, 0, 0, 0), (129, .iastore, 1, 0, 0, 0), (130, .iinc 2 1, 3, 1, 0, 0), (133, .goto (-21), 3, 112, 0, 0), (136, .return_, 1, 0, 0, 0)]]
set_option maxRecDepth 100000 in
theorem oc_Th_copyFrom : okC 222 c_Th_copyFrom = true := by decide +kernel
def cu_Th_copyFrom : List (Nat × List Bool) := [(74, [true, true, true]), (112, [true, true, true]), (110, [true, true])]
noncomputable def F_Th_copyFrom (O : Type) (a : Nat) (av : List AV) (σ : Mem) (K : AV → Mem → Option O) : Option O := if a = 136 then sm_Ro_copyFrom O av σ K else none
theorem fs_Th_copyFrom {X : CXT} (hX : XC X) (O : Type) : FS X 4 (F_Th_copyFrom O) := by
  intro a av σ K o h
  unfold F_Th_copyFrom at h
  rcases ite_s h with ⟨rfl, h⟩ | ⟨_, h⟩
  · obtain ⟨r, h1, h2, h3⟩ := ok_Ro_copyFrom hX _ _ _ _ _ h
    exact ⟨r, fun ht => ⟨3, by decide, h1 ht⟩, h2, h3⟩
  cases h
def hd_Th_copyFrom_74 {O : Type} (g : Nat → Nat → Int32 → Mem → Option O) (ls : OL) (st : List AV) (σ : Mem) : Option O := match ls, st with
  | [some (.inr (.inr (7, k0))), some (.inr (.inr (7, k1))), some (.inl v2)], [] => g k0 k1 v2 σ
  | _, _ => none
theorem hs_Th_copyFrom_74 {X : CXT} {g : Nat → Nat → Int32 → Mem → Option (Mem)} (hg : ∀ (k0 : Nat) (k1 : Nat) (v2 : Int32) (s : Mem) (o : Mem), g k0 k1 v2 s = some o → BSnd X 4 222 (ovV o) 74 [some (.inr (.inr (7, k0))), some (.inr (.inr (7, k1))), some (.inl v2)] [] s) : ∀ ls st σ o, hd_Th_copyFrom_74 g ls st σ = some o → BSnd X 4 222 (ovV o) 74 ls st σ := by
  intro ls st σ o h
  unfold hd_Th_copyFrom_74 at h
  split at h
  · exact hg _ _ _ _ _ h
  · cases h
def hd_Th_copyFrom_112 {O : Type} (g : Nat → Nat → Int32 → Mem → Option O) (ls : OL) (st : List AV) (σ : Mem) : Option O := match ls, st with
  | [some (.inr (.inr (7, k0))), some (.inr (.inr (7, k1))), some (.inl v2)], [] => g k0 k1 v2 σ
  | _, _ => none
theorem hs_Th_copyFrom_112 {X : CXT} {g : Nat → Nat → Int32 → Mem → Option (Mem)} (hg : ∀ (k0 : Nat) (k1 : Nat) (v2 : Int32) (s : Mem) (o : Mem), g k0 k1 v2 s = some o → BSnd X 4 222 (ovV o) 112 [some (.inr (.inr (7, k0))), some (.inr (.inr (7, k1))), some (.inl v2)] [] s) : ∀ ls st σ o, hd_Th_copyFrom_112 g ls st σ = some o → BSnd X 4 222 (ovV o) 112 ls st σ := by
  intro ls st σ o h
  unfold hd_Th_copyFrom_112 at h
  split at h
  · exact hg _ _ _ _ _ h
  · cases h
def hd_Th_copyFrom_110 {O : Type} (g : Nat → Nat → Mem → Option O) (ls : OL) (st : List AV) (σ : Mem) : Option O := match ls, st with
  | [some (.inr (.inr (7, k0))), some (.inr (.inr (7, k1)))], [] => g k0 k1 σ
  | _, _ => none
theorem hs_Th_copyFrom_110 {X : CXT} {g : Nat → Nat → Mem → Option (Mem)} (hg : ∀ (k0 : Nat) (k1 : Nat) (s : Mem) (o : Mem), g k0 k1 s = some o → BSnd X 4 222 (ovV o) 110 [some (.inr (.inr (7, k0))), some (.inr (.inr (7, k1)))] [] s) : ∀ ls st σ o, hd_Th_copyFrom_110 g ls st σ = some o → BSnd X 4 222 (ovV o) 110 ls st σ := by
  intro ls st σ o h
  unfold hd_Th_copyFrom_110 at h
  split at h
  · exact hg _ _ _ _ h
  · cases h
set_option maxRecDepth 100000 in
theorem s_Th_copyFrom_74 {X : CXT} (hX : XC X) {K110 : Nat → Nat → Mem → Option (Mem)} (hK110 : ∀ (k0 : Nat) (k1 : Nat) (s : Mem) (o : Mem), K110 k0 k1 s = some o → BSnd X 4 222 (ovV o) 110 [some (.inr (.inr (7, k0))), some (.inr (.inr (7, k1)))] [] s) : ∀ n : Nat, ∀ (k0 : Nat) (k1 : Nat) (v2 : Int32) (s : Mem) (o : Mem), f_Th_copyFrom_74 K110 n k0 k1 v2 s = some o → BSnd X 4 222 (ovV o) 74 [some (.inr (.inr (7, k0))), some (.inr (.inr (7, k1))), some (.inl v2)] [] s := by
  intro n
  induction n with
  | zero => intro k0 k1 v2 s o h; cases h
  | succ n ih =>
    intro k0 k1 v2 s o h
    exact evC (chs := c_Th_copyFrom) (cuts := cu_Th_copyFrom) (G := fun pc ls st σ => if pc = 74 then hd_Th_copyFrom_74 (fun k0 k1 v2 s => f_Th_copyFrom_74 K110 n k0 k1 v2 s) ls st σ else if pc = 110 then hd_Th_copyFrom_110 (fun k0 k1 s => K110 k0 k1 s) ls st σ else none) hX.2.1 hX.2.2 (F := F_Th_copyFrom _) (fs_Th_copyFrom hX _) (rt_V rfl) oc_Th_copyFrom (by
    intro pc ls st σ o h
    rcases ite_s h with ⟨rfl, h⟩ | ⟨_, h⟩
    · exact hs_Th_copyFrom_74 ih _ _ _ _ h
    rcases ite_s h with ⟨rfl, h⟩ | ⟨_, h⟩
    · exact hs_Th_copyFrom_110 hK110 _ _ _ _ h
    cases h) 340 74 _ _ _ _ h
set_option maxRecDepth 100000 in
theorem s_Th_copyFrom_112 {X : CXT} (hX : XC X) : ∀ n : Nat, ∀ (k0 : Nat) (k1 : Nat) (v2 : Int32) (s : Mem) (o : Mem), f_Th_copyFrom_112 n k0 k1 v2 s = some o → BSnd X 4 222 (ovV o) 112 [some (.inr (.inr (7, k0))), some (.inr (.inr (7, k1))), some (.inl v2)] [] s := by
  intro n
  induction n with
  | zero => intro k0 k1 v2 s o h; cases h
  | succ n ih =>
    intro k0 k1 v2 s o h
    exact evC (chs := c_Th_copyFrom) (cuts := cu_Th_copyFrom) (G := fun pc ls st σ => if pc = 112 then hd_Th_copyFrom_112 (fun k0 k1 v2 s => f_Th_copyFrom_112 n k0 k1 v2 s) ls st σ else none) hX.2.1 hX.2.2 (F := F_Th_copyFrom _) (fs_Th_copyFrom hX _) (rt_V rfl) oc_Th_copyFrom (by
    intro pc ls st σ o h
    rcases ite_s h with ⟨rfl, h⟩ | ⟨_, h⟩
    · exact hs_Th_copyFrom_112 ih _ _ _ _ h
    cases h) 340 112 _ _ _ _ h
set_option maxRecDepth 100000 in
theorem s_Th_copyFrom_110 {X : CXT} (hX : XC X) : ∀ (k0 : Nat) (k1 : Nat) (s : Mem) (o : Mem), f_Th_copyFrom_110 k0 k1 s = some o → BSnd X 4 222 (ovV o) 110 [some (.inr (.inr (7, k0))), some (.inr (.inr (7, k1)))] [] s := by
  intro k0 k1 s o h
  exact evC (chs := c_Th_copyFrom) (cuts := cu_Th_copyFrom) (G := fun pc ls st σ => if pc = 112 then hd_Th_copyFrom_112 (fun k0 k1 v2 s => f_Th_copyFrom_112 FU k0 k1 v2 s) ls st σ else none) hX.2.1 hX.2.2 (F := F_Th_copyFrom _) (fs_Th_copyFrom hX _) (rt_V rfl) oc_Th_copyFrom (by
    intro pc ls st σ o h
    rcases ite_s h with ⟨rfl, h⟩ | ⟨_, h⟩
    · exact hs_Th_copyFrom_112 (s_Th_copyFrom_112 hX FU) _ _ _ _ h
    cases h) 340 110 _ _ _ _ h
set_option maxRecDepth 100000 in
theorem s_Th_copyFrom {X : CXT} (hX : XC X) : ∀ (k0 : Nat) (k1 : Nat) (s : Mem) (o : Mem), f_Th_copyFrom k0 k1 s = some o → BSnd X 4 222 (ovV o) 0 (entL [.inr (.inr (7, k0)), .inr (.inr (7, k1))]) [] s := by
  intro k0 k1 s o h
  rw [f_Th_copyFrom_eq] at h
  exact evC (chs := c_Th_copyFrom) (cuts := cu_Th_copyFrom) (G := fun pc ls st σ => if pc = 74 then hd_Th_copyFrom_74 (fun k0 k1 v2 s => f_Th_copyFrom_74 (fun k0 k1 s => f_Th_copyFrom_110 k0 k1 s) FU k0 k1 v2 s) ls st σ else if pc = 110 then hd_Th_copyFrom_110 (fun k0 k1 s => f_Th_copyFrom_110 k0 k1 s) ls st σ else none) hX.2.1 hX.2.2 (F := F_Th_copyFrom _) (fs_Th_copyFrom hX _) (rt_V rfl) oc_Th_copyFrom (by
    intro pc ls st σ o h
    rcases ite_s h with ⟨rfl, h⟩ | ⟨_, h⟩
    · exact hs_Th_copyFrom_74 (s_Th_copyFrom_74 hX (s_Th_copyFrom_110 hX) FU) _ _ _ _ h
    rcases ite_s h with ⟨rfl, h⟩ | ⟨_, h⟩
    · exact hs_Th_copyFrom_110 (s_Th_copyFrom_110 hX) _ _ _ _ h
    cases h) 340 0 _ _ _ _ h
theorem ok_Th_copyFrom {X : CXT} (hX : XC X) : SemOK X 4 222 sm_Th_copyFrom := by
  intro O av σ K o h
  unfold sm_Th_copyFrom at h
  split at h
  · obtain ⟨r, hf, h⟩ := Option.bind_eq_some_iff.mp h
    exact ⟨ovV r, fun ht => sp_of hX.1 (by decide) (List.mem_range.mpr (by decide)) (by decide +kernel) ht (Nat.le_of_ble_eq_true rfl) (s_Th_copyFrom hX _ _ _ _ hf), trivial, h⟩
  · cases h
noncomputable def f_Lo_copyFrom_2 : Nat → Nat → Nat → Int32 → Mem → Option (Mem)
  | 0, _, _, _, _ => none
  | n + 1, k0, k1, v2, s =>
    cif ((Int32.ofNat (lenC (k0 + 1))) ≤ v2) (
      some s) (
      cif ((Int32.ofNat (lenC (k1 + 1))) ≤ v2) (
        some s) (
        gd (inb v2 (lenC (k1 + 1))) <|
        gd (inb v2 (lenC (k0 + 1))) <|
        let s1 : Mem := wI s (k0 + 1) (ix v2) (rI s (k1 + 1) (ix v2))
        f_Lo_copyFrom_2 n k0 k1 (v2 + (1 : Int32)) s1))
noncomputable def b_Lo_copyFrom (k0 : Nat) (k1 : Nat) (s : Mem) : Option (Mem) :=
  f_Lo_copyFrom_2 FU k0 k1 ((0 : Int32)) s
noncomputable def f_Lo_copyFrom : Nat → Nat → Mem → Option (Mem) := Classical.choose (⟨b_Lo_copyFrom, rfl⟩ : ∃ f : Nat → Nat → Mem → Option (Mem), f = b_Lo_copyFrom)
theorem f_Lo_copyFrom_eq : f_Lo_copyFrom = b_Lo_copyFrom := Classical.choose_spec (⟨b_Lo_copyFrom, rfl⟩ : ∃ f : Nat → Nat → Mem → Option (Mem), f = b_Lo_copyFrom)
noncomputable def sm_Lo_copyFrom (O : Type) (av : List AV) (σ : Mem) (K : AV → Mem → Option O) : Option O := match av with
  | [.inr (.inr (3, k0)), .inr (.inr (3, k1))] => (f_Lo_copyFrom k0 k1 σ).bind fun r => K (.inl 0) r
  | _ => none
def c_Lo_copyFrom : List (List CE) := [[(0, .iconst 0, 1, 0, 0, 0), (1, .istore_n 2, 1, 0, 0, 0), (2, .iload_n 2, 1, 0, 0, 0), (3, .aload_n 0, 1, 0, 0, 0), (4, .getfield 11, 3, 3, 0, 0), (7, .arraylength, 1, 0, 0, 0), (8, .if_icmp .ge 30, 3, 38, 0, 0), (11, .iload_n 2, 1, 0, 0, 0), (12, .aload_n 1, 1, 0, 0, 0), (13, .getfield 11, 3, 3, 0, 0)], [(16, .arraylength, 1, 0, 0, 0), (17, .if_icmp .ge 21, 3, 38, 0, 0), (20, .aload_n 0, 1, 0, 0, 0), (21, .getfield 11, 3, 3, 0, 0), (24, .iload_n 2, 1, 0, 0, 0), (25, .aload_n 1, 1, 0, 0, 0), (26, .getfield 11, 3, 3, 0, 0), (29, .iload_n 2, 1, 0, 0, 0), (30, .iaload, 1, 0, 0, 0), (31, .iastore, 1, 0, 0, 0)], [(32, .iinc 2 1, 3, 1, 0, 0), (35, .goto (-33), 3, 2, 0, 0), (38, .return_, 1, 0, 0, 0)]]
set_option maxRecDepth 100000 in
theorem oc_Lo_copyFrom : okC 223 c_Lo_copyFrom = true := by decide +kernel
def cu_Lo_copyFrom : List (Nat × List Bool) := [(2, [true, true, true])]
noncomputable def F_Lo_copyFrom (O : Type) (a : Nat) (av : List AV) (σ : Mem) (K : AV → Mem → Option O) : Option O := none
theorem fs_Lo_copyFrom {X : CXT} (hX : XC X) (O : Type) : FS X 1 (F_Lo_copyFrom O) := by
  intro a av σ K o h
  cases h
def hd_Lo_copyFrom_2 {O : Type} (g : Nat → Nat → Int32 → Mem → Option O) (ls : OL) (st : List AV) (σ : Mem) : Option O := match ls, st with
  | [some (.inr (.inr (3, k0))), some (.inr (.inr (3, k1))), some (.inl v2)], [] => g k0 k1 v2 σ
  | _, _ => none
theorem hs_Lo_copyFrom_2 {X : CXT} {g : Nat → Nat → Int32 → Mem → Option (Mem)} (hg : ∀ (k0 : Nat) (k1 : Nat) (v2 : Int32) (s : Mem) (o : Mem), g k0 k1 v2 s = some o → BSnd X 1 223 (ovV o) 2 [some (.inr (.inr (3, k0))), some (.inr (.inr (3, k1))), some (.inl v2)] [] s) : ∀ ls st σ o, hd_Lo_copyFrom_2 g ls st σ = some o → BSnd X 1 223 (ovV o) 2 ls st σ := by
  intro ls st σ o h
  unfold hd_Lo_copyFrom_2 at h
  split at h
  · exact hg _ _ _ _ _ h
  · cases h
set_option maxRecDepth 100000 in
theorem s_Lo_copyFrom_2 {X : CXT} (hX : XC X) : ∀ n : Nat, ∀ (k0 : Nat) (k1 : Nat) (v2 : Int32) (s : Mem) (o : Mem), f_Lo_copyFrom_2 n k0 k1 v2 s = some o → BSnd X 1 223 (ovV o) 2 [some (.inr (.inr (3, k0))), some (.inr (.inr (3, k1))), some (.inl v2)] [] s := by
  intro n
  induction n with
  | zero => intro k0 k1 v2 s o h; cases h
  | succ n ih =>
    intro k0 k1 v2 s o h
    exact evC (chs := c_Lo_copyFrom) (cuts := cu_Lo_copyFrom) (G := fun pc ls st σ => if pc = 2 then hd_Lo_copyFrom_2 (fun k0 k1 v2 s => f_Lo_copyFrom_2 n k0 k1 v2 s) ls st σ else none) hX.2.1 hX.2.2 (F := F_Lo_copyFrom _) (fs_Lo_copyFrom hX _) (rt_V rfl) oc_Lo_copyFrom (by
    intro pc ls st σ o h
    rcases ite_s h with ⟨rfl, h⟩ | ⟨_, h⟩
    · exact hs_Lo_copyFrom_2 ih _ _ _ _ h
    cases h) 132 2 _ _ _ _ h
set_option maxRecDepth 100000 in
theorem s_Lo_copyFrom {X : CXT} (hX : XC X) : ∀ (k0 : Nat) (k1 : Nat) (s : Mem) (o : Mem), f_Lo_copyFrom k0 k1 s = some o → BSnd X 1 223 (ovV o) 0 (entL [.inr (.inr (3, k0)), .inr (.inr (3, k1))]) [] s := by
  intro k0 k1 s o h
  rw [f_Lo_copyFrom_eq] at h
  exact evC (chs := c_Lo_copyFrom) (cuts := cu_Lo_copyFrom) (G := fun pc ls st σ => if pc = 2 then hd_Lo_copyFrom_2 (fun k0 k1 v2 s => f_Lo_copyFrom_2 FU k0 k1 v2 s) ls st σ else none) hX.2.1 hX.2.2 (F := F_Lo_copyFrom _) (fs_Lo_copyFrom hX _) (rt_V rfl) oc_Lo_copyFrom (by
    intro pc ls st σ o h
    rcases ite_s h with ⟨rfl, h⟩ | ⟨_, h⟩
    · exact hs_Lo_copyFrom_2 (s_Lo_copyFrom_2 hX FU) _ _ _ _ h
    cases h) 132 0 _ _ _ _ h
theorem ok_Lo_copyFrom {X : CXT} (hX : XC X) : SemOK X 1 223 sm_Lo_copyFrom := by
  intro O av σ K o h
  unfold sm_Lo_copyFrom at h
  split at h
  · obtain ⟨r, hf, h⟩ := Option.bind_eq_some_iff.mp h
    exact ⟨ovV r, fun ht => sp_of hX.1 (by decide) (List.mem_range.mpr (by decide)) (by decide +kernel) ht (Nat.le_of_ble_eq_true rfl) (s_Lo_copyFrom hX _ _ _ _ hf), trivial, h⟩
  · cases h
noncomputable def b_Wh_copyFrom (k0 : Nat) (k1 : Nat) (s : Mem) : Option (Mem) :=
  (f_Pi_copyFrom (k0 + 1) (k1 + 1) s).bind fun r1 =>
  (f_To_copyFrom (k0 + 6) (k1 + 6) r1).bind fun r2 =>
  (f_Th_copyFrom (k0 + 29) (k1 + 29) r2).bind fun r3 =>
  (f_Lo_copyFrom (k0 + 58) (k1 + 58) r3).bind fun r4 =>
  some r4
noncomputable def f_Wh_copyFrom : Nat → Nat → Mem → Option (Mem) := Classical.choose (⟨b_Wh_copyFrom, rfl⟩ : ∃ f : Nat → Nat → Mem → Option (Mem), f = b_Wh_copyFrom)
theorem f_Wh_copyFrom_eq : f_Wh_copyFrom = b_Wh_copyFrom := Classical.choose_spec (⟨b_Wh_copyFrom, rfl⟩ : ∃ f : Nat → Nat → Mem → Option (Mem), f = b_Wh_copyFrom)
noncomputable def sm_Wh_copyFrom (O : Type) (av : List AV) (σ : Mem) (K : AV → Mem → Option O) : Option O := match av with
  | [.inr (.inr (10, k0)), .inr (.inr (10, k1))] => (f_Wh_copyFrom k0 k1 σ).bind fun r => K (.inl 0) r
  | _ => none
def c_Wh_copyFrom : List (List CE) := [[(0, .aload_n 0, 1, 0, 0, 0), (1, .getfield 12, 3, 10, 0, 0), (4, .aload_n 1, 1, 0, 0, 0), (5, .getfield 12, 3, 10, 0, 0), (8, .invokevirtual 39, 3, 31, 2, 8), (11, .aload_n 0, 1, 0, 0, 0), (12, .getfield 21, 3, 10, 1, 0), (15, .aload_n 1, 1, 0, 0, 0)], [(16, .getfield 21, 3, 10, 1, 0), (19, .invokevirtual 43, 3, 221, 2, 16), (22, .aload_n 0, 1, 0, 0, 0), (23, .getfield 28, 3, 10, 2, 0), (26, .aload_n 1, 1, 0, 0, 0), (27, .getfield 28, 3, 10, 2, 0), (30, .invokevirtual 46, 3, 222, 2, 14)], [(33, .aload_n 0, 1, 0, 0, 0), (34, .getfield 35, 3, 10, 3, 0), (37, .aload_n 1, 1, 0, 0, 0), (38, .getfield 35, 3, 10, 3, 0), (41, .invokevirtual 49, 3, 223, 2, 6), (44, .return_, 1, 0, 0, 0)]]
set_option maxRecDepth 100000 in
theorem oc_Wh_copyFrom : okC 220 c_Wh_copyFrom = true := by decide +kernel
def cu_Wh_copyFrom : List (Nat × List Bool) := []
noncomputable def F_Wh_copyFrom (O : Type) (a : Nat) (av : List AV) (σ : Mem) (K : AV → Mem → Option O) : Option O := if a = 31 then sm_Pi_copyFrom O av σ K else if a = 221 then sm_To_copyFrom O av σ K else if a = 222 then sm_Th_copyFrom O av σ K else if a = 223 then sm_Lo_copyFrom O av σ K else none
theorem fs_Wh_copyFrom {X : CXT} (hX : XC X) (O : Type) : FS X 5 (F_Wh_copyFrom O) := by
  intro a av σ K o h
  unfold F_Wh_copyFrom at h
  rcases ite_s h with ⟨rfl, h⟩ | ⟨_, h⟩
  · obtain ⟨r, h1, h2, h3⟩ := ok_Pi_copyFrom hX _ _ _ _ _ h
    exact ⟨r, fun ht => ⟨1, by decide, h1 ht⟩, h2, h3⟩
  rcases ite_s h with ⟨rfl, h⟩ | ⟨_, h⟩
  · obtain ⟨r, h1, h2, h3⟩ := ok_To_copyFrom hX _ _ _ _ _ h
    exact ⟨r, fun ht => ⟨4, by decide, h1 ht⟩, h2, h3⟩
  rcases ite_s h with ⟨rfl, h⟩ | ⟨_, h⟩
  · obtain ⟨r, h1, h2, h3⟩ := ok_Th_copyFrom hX _ _ _ _ _ h
    exact ⟨r, fun ht => ⟨4, by decide, h1 ht⟩, h2, h3⟩
  rcases ite_s h with ⟨rfl, h⟩ | ⟨_, h⟩
  · obtain ⟨r, h1, h2, h3⟩ := ok_Lo_copyFrom hX _ _ _ _ _ h
    exact ⟨r, fun ht => ⟨1, by decide, h1 ht⟩, h2, h3⟩
  cases h
set_option maxRecDepth 100000 in
theorem s_Wh_copyFrom {X : CXT} (hX : XC X) : ∀ (k0 : Nat) (k1 : Nat) (s : Mem) (o : Mem), f_Wh_copyFrom k0 k1 s = some o → BSnd X 5 220 (ovV o) 0 (entL [.inr (.inr (10, k0)), .inr (.inr (10, k1))]) [] s := by
  intro k0 k1 s o h
  rw [f_Wh_copyFrom_eq] at h
  exact evC (chs := c_Wh_copyFrom) (cuts := cu_Wh_copyFrom) (G := fun pc ls st σ => none) hX.2.1 hX.2.2 (F := F_Wh_copyFrom _) (fs_Wh_copyFrom hX _) (rt_V rfl) oc_Wh_copyFrom (by
    intro pc ls st σ o h
    cases h) 124 0 _ _ _ _ h
theorem ok_Wh_copyFrom {X : CXT} (hX : XC X) : SemOK X 5 220 sm_Wh_copyFrom := by
  intro O av σ K o h
  unfold sm_Wh_copyFrom at h
  split at h
  · obtain ⟨r, hf, h⟩ := Option.bind_eq_some_iff.mp h
    exact ⟨ovV r, fun ht => sp_of hX.1 (by decide) (List.mem_range.mpr (by decide)) (by decide +kernel) ht (Nat.le_of_ble_eq_true rfl) (s_Wh_copyFrom hX _ _ _ _ hf), trivial, h⟩
  · cases h
noncomputable def b_P_image (k0 : Nat) (v1 : Int32) (s : Mem) : Option (Bool × Mem) :=
  cif (v1 = 0) (
    cif ((rI s k0 7) = 0) (
      lf (rB (rI s k0 7)) s) (
      (f_Wh_copyFrom (k0 + 1) (k0 + 61) s).bind fun r1 =>
      (f_Ke_forget (k0 + 128) r1).bind fun r2 =>
      lf (rB (rI r2 k0 7)) r2)) (
    (f_Wh_copyFrom (k0 + 61) (k0 + 1) s).bind fun r3 =>
    let s4 : Mem := wI r3 k0 7 ((1 : Int32))
    lf (rB (rI s4 k0 7)) s4)
noncomputable def f_P_image : Nat → Int32 → Mem → Option (Bool × Mem) := Classical.choose (⟨b_P_image, rfl⟩ : ∃ f : Nat → Int32 → Mem → Option (Bool × Mem), f = b_P_image)
theorem f_P_image_eq : f_P_image = b_P_image := Classical.choose_spec (⟨b_P_image, rfl⟩ : ∃ f : Nat → Int32 → Mem → Option (Bool × Mem), f = b_P_image)
noncomputable def sm_P_image (O : Type) (av : List AV) (σ : Mem) (K : AV → Mem → Option O) : Option O := match av with
  | [.inr (.inr (11, k0)), .inl v1] => (f_P_image k0 v1 σ).bind fun r => K (.inl (b2i r.1)) r.2
  | _ => none
def c_P_image : List (List CE) := [[(0, .iload_n 1, 1, 0, 0, 0), (1, .ifCond .eq 22, 3, 23, 0, 0), (4, .aload_n 0, 1, 0, 0, 0), (5, .getfield 16, 3, 11, 1, 0), (8, .aload_n 0, 1, 0, 0, 0), (9, .getfield 10, 3, 11, 0, 0), (12, .invokevirtual 429, 3, 220, 2, 20), (15, .aload_n 0, 1, 0, 0, 0)], [(16, .iconst 1, 1, 1, 0, 0), (17, .putfield 66, 3, 11, 7, 0), (20, .goto 28, 3, 48, 0, 0), (23, .aload_n 0, 1, 0, 0, 0), (24, .getfield 66, 3, 11, 7, 0), (27, .ifCond .eq 21, 3, 48, 0, 0), (30, .aload_n 0, 1, 0, 0, 0), (31, .getfield 10, 3, 11, 0, 0)], [(34, .aload_n 0, 1, 0, 0, 0), (35, .getfield 16, 3, 11, 1, 0), (38, .invokevirtual 429, 3, 220, 2, 20), (41, .aload_n 0, 1, 0, 0, 0), (42, .getfield 48, 3, 11, 4, 0), (45, .invokevirtual 77, 3, 15, 1, 2)], [(48, .aload_n 0, 1, 0, 0, 0), (49, .getfield 66, 3, 11, 7, 0), (52, .ireturn, 1, 0, 0, 0)]]
set_option maxRecDepth 100000 in
theorem oc_P_image : okC 219 c_P_image = true := by decide +kernel
def cu_P_image : List (Nat × List Bool) := []
noncomputable def F_P_image (O : Type) (a : Nat) (av : List AV) (σ : Mem) (K : AV → Mem → Option O) : Option O := if a = 15 then sm_Ke_forget O av σ K else if a = 220 then sm_Wh_copyFrom O av σ K else none
theorem fs_P_image {X : CXT} (hX : XC X) (O : Type) : FS X 6 (F_P_image O) := by
  intro a av σ K o h
  unfold F_P_image at h
  rcases ite_s h with ⟨rfl, h⟩ | ⟨_, h⟩
  · obtain ⟨r, h1, h2, h3⟩ := ok_Ke_forget hX _ _ _ _ _ h
    exact ⟨r, fun ht => ⟨1, by decide, h1 ht⟩, h2, h3⟩
  rcases ite_s h with ⟨rfl, h⟩ | ⟨_, h⟩
  · obtain ⟨r, h1, h2, h3⟩ := ok_Wh_copyFrom hX _ _ _ _ _ h
    exact ⟨r, fun ht => ⟨5, by decide, h1 ht⟩, h2, h3⟩
  cases h
set_option maxRecDepth 100000 in
theorem s_P_image {X : CXT} (hX : XC X) : ∀ (k0 : Nat) (v1 : Int32) (s : Mem) (o : Bool × Mem), f_P_image k0 v1 s = some o → BSnd X 6 219 (ovZ o) 0 (entL [.inr (.inr (11, k0)), .inl v1]) [] s := by
  intro k0 v1 s o h
  rw [f_P_image_eq] at h
  exact evC (chs := c_P_image) (cuts := cu_P_image) (G := fun pc ls st σ => none) hX.2.1 hX.2.2 (F := F_P_image _) (fs_P_image hX _) (rt_Z rfl) oc_P_image (by
    intro pc ls st σ o h
    cases h) 140 0 _ _ _ _ h
theorem ok_P_image {X : CXT} (hX : XC X) : SemOK X 6 219 sm_P_image := by
  intro O av σ K o h
  unfold sm_P_image at h
  split at h
  · obtain ⟨r, hf, h⟩ := Option.bind_eq_some_iff.mp h
    exact ⟨ovZ r, fun ht => sp_of hX.1 (by decide) (List.mem_range.mpr (by decide)) (by decide +kernel) ht (Nat.le_of_ble_eq_true rfl) (s_P_image hX _ _ _ _ hf), trivial, h⟩
  · cases h
noncomputable def f_Pi_setOnPier_4 : Nat → Nat → Int32 → Int32 → Mem → Option (Int32 × Mem)
  | 0, _, _, _, _ => none
  | n + 1, k0, v1, v2, s =>
    cif (((12 : Int32)) ≤ v2) (
      some (v1, s)) (
      gd (inb v2 (lenC (k0 + 2))) <|
      cif ((rI s (k0 + 2) (ix v2)) = ((-1 : Int32))) (
        let x1 : Int32 := v1 ||| ((0 : Int32))
        f_Pi_setOnPier_4 n k0 x1 (v2 + (1 : Int32)) s) (
        let x2 : Int32 := v1 ||| (((1 : Int32)) <<< (v2 &&& 31))
        f_Pi_setOnPier_4 n k0 x2 (v2 + (1 : Int32)) s))
noncomputable def b_Pi_setOnPier (k0 : Nat) (s : Mem) : Option (Int32 × Mem) :=
  f_Pi_setOnPier_4 FU k0 ((0 : Int32)) ((0 : Int32)) s
noncomputable def f_Pi_setOnPier : Nat → Mem → Option (Int32 × Mem) := Classical.choose (⟨b_Pi_setOnPier, rfl⟩ : ∃ f : Nat → Mem → Option (Int32 × Mem), f = b_Pi_setOnPier)
theorem f_Pi_setOnPier_eq : f_Pi_setOnPier = b_Pi_setOnPier := Classical.choose_spec (⟨b_Pi_setOnPier, rfl⟩ : ∃ f : Nat → Mem → Option (Int32 × Mem), f = b_Pi_setOnPier)
noncomputable def sm_Pi_setOnPier (O : Type) (av : List AV) (σ : Mem) (K : AV → Mem → Option O) : Option O := match av with
  | [.inr (.inr (4, k0))] => (f_Pi_setOnPier k0 σ).bind fun r => K (.inl r.1) r.2
  | _ => none
def c_Pi_setOnPier : List (List CE) := [[(0, .iconst 0, 1, 0, 0, 0), (1, .istore_n 1, 1, 0, 0, 0), (2, .iconst 0, 1, 0, 0, 0), (3, .istore_n 2, 1, 0, 0, 0), (4, .iload_n 2, 1, 0, 0, 0), (5, .bipush 12, 2, 12, 0, 0), (7, .if_icmp .ge 29, 3, 36, 0, 0), (10, .iload_n 1, 1, 0, 0, 0), (11, .aload_n 0, 1, 0, 0, 0), (12, .getfield 15, 3, 4, 2, 0), (15, .iload_n 2, 1, 0, 0, 0)], [(16, .iaload, 1, 0, 0, 0), (17, .iconst (-1), 1, 1, 0, 1), (18, .if_icmp .eq 9, 3, 27, 0, 0), (21, .iconst 1, 1, 1, 0, 0), (22, .iload_n 2, 1, 0, 0, 0), (23, .ishl, 1, 0, 0, 0), (24, .goto 4, 3, 28, 0, 0), (27, .iconst 0, 1, 0, 0, 0), (28, .ior, 1, 0, 0, 0), (29, .istore_n 1, 1, 0, 0, 0), (30, .iinc 2 1, 3, 1, 0, 0)], [(33, .goto (-29), 3, 4, 0, 0), (36, .iload_n 1, 1, 0, 0, 0), (37, .ireturn, 1, 0, 0, 0)]]
set_option maxRecDepth 100000 in
theorem oc_Pi_setOnPier : okC 225 c_Pi_setOnPier = true := by decide +kernel
def cu_Pi_setOnPier : List (Nat × List Bool) := [(4, [true, true, true])]
noncomputable def F_Pi_setOnPier (O : Type) (a : Nat) (av : List AV) (σ : Mem) (K : AV → Mem → Option O) : Option O := none
theorem fs_Pi_setOnPier {X : CXT} (hX : XC X) (O : Type) : FS X 1 (F_Pi_setOnPier O) := by
  intro a av σ K o h
  cases h
def hd_Pi_setOnPier_4 {O : Type} (g : Nat → Int32 → Int32 → Mem → Option O) (ls : OL) (st : List AV) (σ : Mem) : Option O := match ls, st with
  | [some (.inr (.inr (4, k0))), some (.inl v1), some (.inl v2)], [] => g k0 v1 v2 σ
  | _, _ => none
theorem hs_Pi_setOnPier_4 {X : CXT} {g : Nat → Int32 → Int32 → Mem → Option (Int32 × Mem)} (hg : ∀ (k0 : Nat) (v1 : Int32) (v2 : Int32) (s : Mem) (o : Int32 × Mem), g k0 v1 v2 s = some o → BSnd X 1 225 (ovI o) 4 [some (.inr (.inr (4, k0))), some (.inl v1), some (.inl v2)] [] s) : ∀ ls st σ o, hd_Pi_setOnPier_4 g ls st σ = some o → BSnd X 1 225 (ovI o) 4 ls st σ := by
  intro ls st σ o h
  unfold hd_Pi_setOnPier_4 at h
  split at h
  · exact hg _ _ _ _ _ h
  · cases h
set_option maxRecDepth 100000 in
theorem s_Pi_setOnPier_4 {X : CXT} (hX : XC X) : ∀ n : Nat, ∀ (k0 : Nat) (v1 : Int32) (v2 : Int32) (s : Mem) (o : Int32 × Mem), f_Pi_setOnPier_4 n k0 v1 v2 s = some o → BSnd X 1 225 (ovI o) 4 [some (.inr (.inr (4, k0))), some (.inl v1), some (.inl v2)] [] s := by
  intro n
  induction n with
  | zero => intro k0 v1 v2 s o h; cases h
  | succ n ih =>
    intro k0 v1 v2 s o h
    exact evC (chs := c_Pi_setOnPier) (cuts := cu_Pi_setOnPier) (G := fun pc ls st σ => if pc = 4 then hd_Pi_setOnPier_4 (fun k0 v1 v2 s => f_Pi_setOnPier_4 n k0 v1 v2 s) ls st σ else none) hX.2.1 hX.2.2 (F := F_Pi_setOnPier _) (fs_Pi_setOnPier hX _) (rt_I rfl) oc_Pi_setOnPier (by
    intro pc ls st σ o h
    rcases ite_s h with ⟨rfl, h⟩ | ⟨_, h⟩
    · exact hs_Pi_setOnPier_4 ih _ _ _ _ h
    cases h) 140 4 _ _ _ _ h
set_option maxRecDepth 100000 in
theorem s_Pi_setOnPier {X : CXT} (hX : XC X) : ∀ (k0 : Nat) (s : Mem) (o : Int32 × Mem), f_Pi_setOnPier k0 s = some o → BSnd X 1 225 (ovI o) 0 (entL [.inr (.inr (4, k0))]) [] s := by
  intro k0 s o h
  rw [f_Pi_setOnPier_eq] at h
  exact evC (chs := c_Pi_setOnPier) (cuts := cu_Pi_setOnPier) (G := fun pc ls st σ => if pc = 4 then hd_Pi_setOnPier_4 (fun k0 v1 v2 s => f_Pi_setOnPier_4 FU k0 v1 v2 s) ls st σ else none) hX.2.1 hX.2.2 (F := F_Pi_setOnPier _) (fs_Pi_setOnPier hX _) (rt_I rfl) oc_Pi_setOnPier (by
    intro pc ls st σ o h
    rcases ite_s h with ⟨rfl, h⟩ | ⟨_, h⟩
    · exact hs_Pi_setOnPier_4 (s_Pi_setOnPier_4 hX FU) _ _ _ _ h
    cases h) 140 0 _ _ _ _ h
theorem ok_Pi_setOnPier {X : CXT} (hX : XC X) : SemOK X 1 225 sm_Pi_setOnPier := by
  intro O av σ K o h
  unfold sm_Pi_setOnPier at h
  split at h
  · obtain ⟨r, hf, h⟩ := Option.bind_eq_some_iff.mp h
    exact ⟨ovI r, fun ht => sp_of hX.1 (by decide) (List.mem_range.mpr (by decide)) (by decide +kernel) ht (Nat.le_of_ble_eq_true rfl) (s_Pi_setOnPier hX _ _ _ hf), trivial, h⟩
  · cases h
noncomputable def b_P_look (k0 : Nat) (v1 : Int32) (s : Mem) : Option (Int32 × Mem) :=
  cif (v1 = (0 : Int32)) (
    some (rI s (k0 + 7) 7, s)) (
    cif (v1 = (1 : Int32)) (
      some (rI s (k0 + 2) 6, s)) (
      cif (v1 = (2 : Int32)) (
        (f_Pi_countBroken (k0 + 2) s).bind fun r1 =>
        some (r1.1, r1.2)) (
        cif (v1 = (3 : Int32)) (
          some (rI s (k0 + 7) 8, s)) (
          cif (v1 = (4 : Int32)) (
            some (rI s (k0 + 2) 7, s)) (
            cif (v1 = (5 : Int32)) (
              some (rI s (k0 + 2) 8, s)) (
              cif (v1 = (6 : Int32)) (
                some (rI s (k0 + 2) 9, s)) (
                cif (v1 = (7 : Int32)) (
                  (f_Pi_setOnPier (k0 + 2) s).bind fun r2 =>
                  some (r2.1, r2.2)) (
                  cif (v1 = (8 : Int32)) (
                    some (rI s (k0 + 7) 9, s)) (
                    cif (v1 = (9 : Int32)) (
                      some (rI s (k0 + 2) 10, s)) (
                      cif (v1 = (10 : Int32)) (
                        some (rI s (k0 + 2) 5, s)) (
                        cif (v1 = (11 : Int32)) (
                          some (rI s (k0 + 11) 7, s)) (
                          cif (v1 = (12 : Int32)) (
                            some (rI s (k0 + 18) 3, s)) (
                            cif (v1 = (13 : Int32)) (
                              some (rI s (k0 + 22) 3, s)) (
                              cif (v1 = (14 : Int32)) (
                                some (rI s (k0 + 26) 3, s)) (
                                cif (v1 = (15 : Int32)) (
                                  some (rI s (k0 + 128) 2, s)) (
                                  some ((-1 : Int32), s)))))))))))))))))
noncomputable def f_P_look : Nat → Int32 → Mem → Option (Int32 × Mem) := Classical.choose (⟨b_P_look, rfl⟩ : ∃ f : Nat → Int32 → Mem → Option (Int32 × Mem), f = b_P_look)
theorem f_P_look_eq : f_P_look = b_P_look := Classical.choose_spec (⟨b_P_look, rfl⟩ : ∃ f : Nat → Int32 → Mem → Option (Int32 × Mem), f = b_P_look)
noncomputable def sm_P_look (O : Type) (av : List AV) (σ : Mem) (K : AV → Mem → Option O) : Option O := match av with
  | [.inr (.inr (11, k0)), .inl v1] => (f_P_look k0 v1 σ).bind fun r => K (.inl r.1) r.2
  | _ => none
def c_P_look : List (List CE) := [[(0, .iload_n 1, 1, 0, 0, 0), (1, .tableswitch 264 0 15 #[79, 90, 101, 112, 123, 134, 145, 156, 167, 178, 189, 200, 214, 228, 242, 256], 79, 0, 0, 0)], [], [], [], [], [(80, .aload_n 0, 1, 0, 0, 0), (81, .getfield 10, 3, 11, 0, 0), (84, .getfield 30, 3, 10, 1, 0), (87, .getfield 209, 3, 8, 7, 0), (90, .ireturn, 1, 0, 0, 0), (91, .aload_n 0, 1, 0, 0, 0), (92, .getfield 10, 3, 11, 0, 0), (95, .getfield 70, 3, 10, 0, 0)], [(98, .getfield 274, 3, 4, 6, 0), (101, .ireturn, 1, 0, 0, 0), (102, .aload_n 0, 1, 0, 0, 0), (103, .getfield 10, 3, 11, 0, 0), (106, .getfield 70, 3, 10, 0, 0), (109, .invokevirtual 275, 3, 150, 1, 9)], [(112, .ireturn, 1, 0, 0, 0), (113, .aload_n 0, 1, 0, 0, 0), (114, .getfield 10, 3, 11, 0, 0), (117, .getfield 30, 3, 10, 1, 0), (120, .getfield 432, 3, 8, 8, 0), (123, .ireturn, 1, 0, 0, 0), (124, .aload_n 0, 1, 0, 0, 0), (125, .getfield 10, 3, 11, 0, 0)], [(128, .getfield 70, 3, 10, 0, 0), (131, .getfield 144, 3, 4, 7, 0), (134, .ireturn, 1, 0, 0, 0), (135, .aload_n 0, 1, 0, 0, 0), (136, .getfield 10, 3, 11, 0, 0), (139, .getfield 70, 3, 10, 0, 0), (142, .getfield 151, 3, 4, 8, 0)], [(145, .ireturn, 1, 0, 0, 0), (146, .aload_n 0, 1, 0, 0, 0), (147, .getfield 10, 3, 11, 0, 0), (150, .getfield 70, 3, 10, 0, 0), (153, .getfield 282, 3, 4, 9, 0), (156, .ireturn, 1, 0, 0, 0), (157, .aload_n 0, 1, 0, 0, 0), (158, .getfield 10, 3, 11, 0, 0)], [(161, .getfield 70, 3, 10, 0, 0), (164, .invokevirtual 435, 3, 225, 1, 9), (167, .ireturn, 1, 0, 0, 0), (168, .aload_n 0, 1, 0, 0, 0), (169, .getfield 10, 3, 11, 0, 0), (172, .getfield 30, 3, 10, 1, 0), (175, .getfield 438, 3, 8, 9, 0)], [(178, .ireturn, 1, 0, 0, 0), (179, .aload_n 0, 1, 0, 0, 0), (180, .getfield 10, 3, 11, 0, 0), (183, .getfield 70, 3, 10, 0, 0), (186, .getfield 263, 3, 4, 10, 0), (189, .ireturn, 1, 0, 0, 0), (190, .aload_n 0, 1, 0, 0, 0), (191, .getfield 10, 3, 11, 0, 0)], [(194, .getfield 70, 3, 10, 0, 0), (197, .getfield 73, 3, 4, 5, 0), (200, .ireturn, 1, 0, 0, 0), (201, .aload_n 0, 1, 0, 0, 0), (202, .getfield 10, 3, 11, 0, 0), (205, .getfield 30, 3, 10, 1, 0)], [(208, .getfield 441, 3, 8, 3, 0), (211, .getfield 442, 3, 2, 7, 0), (214, .ireturn, 1, 0, 0, 0), (215, .aload_n 0, 1, 0, 0, 0), (216, .getfield 10, 3, 11, 0, 0), (219, .getfield 30, 3, 10, 1, 0), (222, .getfield 186, 3, 8, 4, 0)], [(225, .getfield 313, 3, 6, 3, 0), (228, .ireturn, 1, 0, 0, 0), (229, .aload_n 0, 1, 0, 0, 0), (230, .getfield 10, 3, 11, 0, 0), (233, .getfield 30, 3, 10, 1, 0), (236, .getfield 197, 3, 8, 5, 0), (239, .getfield 313, 3, 6, 3, 0)], [(242, .ireturn, 1, 0, 0, 0), (243, .aload_n 0, 1, 0, 0, 0), (244, .getfield 10, 3, 11, 0, 0), (247, .getfield 30, 3, 10, 1, 0), (250, .getfield 215, 3, 8, 6, 0), (253, .getfield 313, 3, 6, 3, 0)], [(256, .ireturn, 1, 0, 0, 0), (257, .aload_n 0, 1, 0, 0, 0), (258, .getfield 48, 3, 11, 4, 0), (261, .getfield 445, 3, 1, 2, 0), (264, .ireturn, 1, 0, 0, 0), (265, .iconst (-1), 1, 1, 0, 1), (266, .ireturn, 1, 0, 0, 0)]]
set_option maxRecDepth 100000 in
theorem oc_P_look : okC 224 c_P_look = true := by decide +kernel
def cu_P_look : List (Nat × List Bool) := []
noncomputable def F_P_look (O : Type) (a : Nat) (av : List AV) (σ : Mem) (K : AV → Mem → Option O) : Option O := if a = 150 then sm_Pi_countBroken O av σ K else if a = 225 then sm_Pi_setOnPier O av σ K else none
theorem fs_P_look {X : CXT} (hX : XC X) (O : Type) : FS X 2 (F_P_look O) := by
  intro a av σ K o h
  unfold F_P_look at h
  rcases ite_s h with ⟨rfl, h⟩ | ⟨_, h⟩
  · obtain ⟨r, h1, h2, h3⟩ := ok_Pi_countBroken hX _ _ _ _ _ h
    exact ⟨r, fun ht => ⟨1, by decide, h1 ht⟩, h2, h3⟩
  rcases ite_s h with ⟨rfl, h⟩ | ⟨_, h⟩
  · obtain ⟨r, h1, h2, h3⟩ := ok_Pi_setOnPier hX _ _ _ _ _ h
    exact ⟨r, fun ht => ⟨1, by decide, h1 ht⟩, h2, h3⟩
  cases h
set_option maxRecDepth 100000 in
theorem s_P_look {X : CXT} (hX : XC X) : ∀ (k0 : Nat) (v1 : Int32) (s : Mem) (o : Int32 × Mem), f_P_look k0 v1 s = some o → BSnd X 2 224 (ovI o) 0 (entL [.inr (.inr (11, k0)), .inl v1]) [] s := by
  intro k0 v1 s o h
  rw [f_P_look_eq] at h
  exact evC (chs := c_P_look) (cuts := cu_P_look) (G := fun pc ls st σ => none) hX.2.1 hX.2.2 (F := F_P_look _) (fs_P_look hX _) (rt_I rfl) oc_P_look (by
    intro pc ls st σ o h
    cases h) 388 0 _ _ _ _ h
theorem ok_P_look {X : CXT} (hX : XC X) : SemOK X 2 224 sm_P_look := by
  intro O av σ K o h
  unfold sm_P_look at h
  split at h
  · obtain ⟨r, hf, h⟩ := Option.bind_eq_some_iff.mp h
    exact ⟨ovI r, fun ht => sp_of hX.1 (by decide) (List.mem_range.mpr (by decide)) (by decide +kernel) ht (Nat.le_of_ble_eq_true rfl) (s_P_look hX _ _ _ _ hf), trivial, h⟩
  · cases h
noncomputable def b_M_forgets (k0 : Nat) (s : Mem) : Option (Mem) :=
  let s1 : Mem := wI s k0 4 ((0 : Int32))
  some s1
noncomputable def f_M_forgets : Nat → Mem → Option (Mem) := Classical.choose (⟨b_M_forgets, rfl⟩ : ∃ f : Nat → Mem → Option (Mem), f = b_M_forgets)
theorem f_M_forgets_eq : f_M_forgets = b_M_forgets := Classical.choose_spec (⟨b_M_forgets, rfl⟩ : ∃ f : Nat → Mem → Option (Mem), f = b_M_forgets)
noncomputable def sm_M_forgets (O : Type) (av : List AV) (σ : Mem) (K : AV → Mem → Option O) : Option O := match av with
  | [.inr (.inr (12, k0))] => (f_M_forgets k0 σ).bind fun r => K (.inl 0) r
  | _ => none
def c_M_forgets : List (List CE) := [[(0, .aload_n 0, 1, 0, 0, 0), (1, .iconst 0, 1, 0, 0, 0), (2, .putfield 64, 3, 12, 4, 0), (5, .return_, 1, 0, 0, 0)]]
set_option maxRecDepth 100000 in
theorem oc_M_forgets : okC 228 c_M_forgets = true := by decide +kernel
def cu_M_forgets : List (Nat × List Bool) := []
noncomputable def F_M_forgets (O : Type) (a : Nat) (av : List AV) (σ : Mem) (K : AV → Mem → Option O) : Option O := none
theorem fs_M_forgets {X : CXT} (hX : XM X) (O : Type) : FS X 1 (F_M_forgets O) := by
  intro a av σ K o h
  cases h
set_option maxRecDepth 100000 in
theorem s_M_forgets {X : CXT} (hX : XM X) : ∀ (k0 : Nat) (s : Mem) (o : Mem), f_M_forgets k0 s = some o → BSnd X 1 228 (ovV o) 0 (entL [.inr (.inr (12, k0))]) [] s := by
  intro k0 s o h
  rw [f_M_forgets_eq] at h
  exact evC (chs := c_M_forgets) (cuts := cu_M_forgets) (G := fun pc ls st σ => none) hX.2.1 hX.2.2 (F := F_M_forgets _) (fs_M_forgets hX _) (rt_V rfl) oc_M_forgets (by
    intro pc ls st σ o h
    cases h) 56 0 _ _ _ _ h
theorem ok_M_forgets {X : CXT} (hX : XM X) : SemOK X 1 228 sm_M_forgets := by
  intro O av σ K o h
  unfold sm_M_forgets at h
  split at h
  · obtain ⟨r, hf, h⟩ := Option.bind_eq_some_iff.mp h
    exact ⟨ovV r, fun ht => sp_of hX.1 (by decide) (List.mem_range.mpr (by decide)) (by decide +kernel) ht (Nat.le_of_ble_eq_true rfl) (s_M_forgets hX _ _ _ hf), trivial, h⟩
  · cases h
noncomputable def b_M_state (k0 : Nat) (v1 : Int32) (s : Mem) : Option (Int32 × Mem) :=
  gd (inb ((4 : Int32)) (lenM (k0 + 1))) <|
  let x1 : Int32 := rI s (k0 + 1) (ix ((4 : Int32)))
  gd (inb ((4 : Int32)) (lenM (k0 + 1))) <|
  let s2 : Mem := wI s (k0 + 1) (ix ((4 : Int32))) v1
  (f_M_forgets k0 s2).bind fun r3 =>
  some (x1, r3)
noncomputable def f_M_state : Nat → Int32 → Mem → Option (Int32 × Mem) := Classical.choose (⟨b_M_state, rfl⟩ : ∃ f : Nat → Int32 → Mem → Option (Int32 × Mem), f = b_M_state)
theorem f_M_state_eq : f_M_state = b_M_state := Classical.choose_spec (⟨b_M_state, rfl⟩ : ∃ f : Nat → Int32 → Mem → Option (Int32 × Mem), f = b_M_state)
noncomputable def sm_M_state (O : Type) (av : List AV) (σ : Mem) (K : AV → Mem → Option O) : Option O := match av with
  | [.inr (.inr (12, k0)), .inl v1] => (f_M_state k0 v1 σ).bind fun r => K (.inl r.1) r.2
  | _ => none
def c_M_state : List (List CE) := [[(0, .aload_n 0, 1, 0, 0, 0), (1, .getfield 7, 3, 12, 0, 0), (4, .iconst 4, 1, 4, 0, 0), (5, .iaload, 1, 0, 0, 0), (6, .istore_n 2, 1, 0, 0, 0), (7, .aload_n 0, 1, 0, 0, 0), (8, .getfield 7, 3, 12, 0, 0), (11, .iconst 4, 1, 4, 0, 0), (12, .iload_n 1, 1, 0, 0, 0), (13, .iastore, 1, 0, 0, 0), (14, .aload_n 0, 1, 0, 0, 0), (15, .invokevirtual 67, 3, 228, 1, 24)], [(18, .iload_n 2, 1, 0, 0, 0), (19, .ireturn, 1, 0, 0, 0)]]
set_option maxRecDepth 100000 in
theorem oc_M_state : okC 227 c_M_state = true := by decide +kernel
def cu_M_state : List (Nat × List Bool) := []
noncomputable def F_M_state (O : Type) (a : Nat) (av : List AV) (σ : Mem) (K : AV → Mem → Option O) : Option O := if a = 228 then sm_M_forgets O av σ K else none
theorem fs_M_state {X : CXT} (hX : XM X) (O : Type) : FS X 2 (F_M_state O) := by
  intro a av σ K o h
  unfold F_M_state at h
  rcases ite_s h with ⟨rfl, h⟩ | ⟨_, h⟩
  · obtain ⟨r, h1, h2, h3⟩ := ok_M_forgets hX _ _ _ _ _ h
    exact ⟨r, fun ht => ⟨1, by decide, h1 ht⟩, h2, h3⟩
  cases h
set_option maxRecDepth 100000 in
theorem s_M_state {X : CXT} (hX : XM X) : ∀ (k0 : Nat) (v1 : Int32) (s : Mem) (o : Int32 × Mem), f_M_state k0 v1 s = some o → BSnd X 2 227 (ovI o) 0 (entL [.inr (.inr (12, k0)), .inl v1]) [] s := by
  intro k0 v1 s o h
  rw [f_M_state_eq] at h
  exact evC (chs := c_M_state) (cuts := cu_M_state) (G := fun pc ls st σ => none) hX.2.1 hX.2.2 (F := F_M_state _) (fs_M_state hX _) (rt_I rfl) oc_M_state (by
    intro pc ls st σ o h
    cases h) 96 0 _ _ _ _ h
theorem ok_M_state {X : CXT} (hX : XM X) : SemOK X 2 227 sm_M_state := by
  intro O av σ K o h
  unfold sm_M_state at h
  split at h
  · obtain ⟨r, hf, h⟩ := Option.bind_eq_some_iff.mp h
    exact ⟨ovI r, fun ht => sp_of hX.1 (by decide) (List.mem_range.mpr (by decide)) (by decide +kernel) ht (Nat.le_of_ble_eq_true rfl) (s_M_state hX _ _ _ _ hf), trivial, h⟩
  · cases h
noncomputable def b_M_isIn (v0 : Int32) (v1 : Int32) (v2 : Int32) (s : Mem) : Option (Bool × Mem) :=
  cif (v0 < v1) (
    some (false, s)) (
    cif (v2 < v0) (
      some (false, s)) (
      some (true, s)))
noncomputable def f_M_isIn : Int32 → Int32 → Int32 → Mem → Option (Bool × Mem) := Classical.choose (⟨b_M_isIn, rfl⟩ : ∃ f : Int32 → Int32 → Int32 → Mem → Option (Bool × Mem), f = b_M_isIn)
theorem f_M_isIn_eq : f_M_isIn = b_M_isIn := Classical.choose_spec (⟨b_M_isIn, rfl⟩ : ∃ f : Int32 → Int32 → Int32 → Mem → Option (Bool × Mem), f = b_M_isIn)
noncomputable def sm_M_isIn (O : Type) (av : List AV) (σ : Mem) (K : AV → Mem → Option O) : Option O := match av with
  | [.inl v0, .inl v1, .inl v2] => (f_M_isIn v0 v1 v2 σ).bind fun r => K (.inl (b2i r.1)) r.2
  | _ => none
def c_M_isIn : List (List CE) := [[(0, .iload_n 0, 1, 0, 0, 0), (1, .iload_n 1, 1, 0, 0, 0), (2, .if_icmp .lt 12, 3, 14, 0, 0), (5, .iload_n 0, 1, 0, 0, 0), (6, .iload_n 2, 1, 0, 0, 0), (7, .if_icmp .gt 7, 3, 14, 0, 0), (10, .iconst 1, 1, 1, 0, 0), (11, .goto 4, 3, 15, 0, 0), (14, .iconst 0, 1, 0, 0, 0), (15, .ireturn, 1, 0, 0, 0)]]
set_option maxRecDepth 100000 in
theorem oc_M_isIn : okC 230 c_M_isIn = true := by decide +kernel
def cu_M_isIn : List (Nat × List Bool) := []
noncomputable def F_M_isIn (O : Type) (a : Nat) (av : List AV) (σ : Mem) (K : AV → Mem → Option O) : Option O := none
theorem fs_M_isIn {X : CXT} (hX : XM X) (O : Type) : FS X 1 (F_M_isIn O) := by
  intro a av σ K o h
  cases h
set_option maxRecDepth 100000 in
theorem s_M_isIn {X : CXT} (hX : XM X) : ∀ (v0 : Int32) (v1 : Int32) (v2 : Int32) (s : Mem) (o : Bool × Mem), f_M_isIn v0 v1 v2 s = some o → BSnd X 1 230 (ovZ o) 0 (entL [.inl v0, .inl v1, .inl v2]) [] s := by
  intro v0 v1 v2 s o h
  rw [f_M_isIn_eq] at h
  exact evC (chs := c_M_isIn) (cuts := cu_M_isIn) (G := fun pc ls st σ => none) hX.2.1 hX.2.2 (F := F_M_isIn _) (fs_M_isIn hX _) (rt_Z rfl) oc_M_isIn (by
    intro pc ls st σ o h
    cases h) 80 0 _ _ _ _ h
theorem ok_M_isIn {X : CXT} (hX : XM X) : SemOK X 1 230 sm_M_isIn := by
  intro O av σ K o h
  unfold sm_M_isIn at h
  split at h
  · obtain ⟨r, hf, h⟩ := Option.bind_eq_some_iff.mp h
    exact ⟨ovZ r, fun ht => sp_of hX.1 (by decide) (List.mem_range.mpr (by decide)) (by decide +kernel) ht (Nat.le_of_ble_eq_true rfl) (s_M_isIn hX _ _ _ _ _ hf), trivial, h⟩
  · cases h
noncomputable def b_M_walker (k0 : Nat) (v1 : Int32) (v2 : Int32) (v3 : Int32) (s : Mem) : Option (Int32 × Mem) :=
  (f_M_isIn v1 ((1 : Int32)) ((9 : Int32)) s).bind fun r1 =>
  cif ((b2i r1.1) = 0) (
    some ((-1 : Int32), r1.2)) (
    (f_M_isIn v2 ((1 : Int32)) ((30 : Int32)) r1.2).bind fun r2 =>
    cif ((b2i r2.1) = 0) (
      some ((-1 : Int32), r2.2)) (
      (f_M_isIn v3 ((0 : Int32)) ((9 : Int32)) r2.2).bind fun r3 =>
      cif ((b2i r3.1) = 0) (
        some ((-1 : Int32), r3.2)) (
        gd (inb ((49 : Int32)) (lenM (k0 + 1))) <|
        cif ((rI r3.2 (k0 + 1) (ix ((49 : Int32)))) = ((12 : Int32))) (
          some ((-1 : Int32), r3.2)) (
          gd (inb ((49 : Int32)) (lenM (k0 + 1))) <|
          let x4 : Int32 := rI r3.2 (k0 + 1) (ix ((49 : Int32)))
          gd (inb (((62 : Int32)) + x4) (lenM (k0 + 1))) <|
          let s5 : Mem := wI r3.2 (k0 + 1) (ix (((62 : Int32)) + x4)) v1
          gd (inb (((74 : Int32)) + x4) (lenM (k0 + 1))) <|
          let s6 : Mem := wI s5 (k0 + 1) (ix (((74 : Int32)) + x4)) v2
          gd (inb (((86 : Int32)) + x4) (lenM (k0 + 1))) <|
          let s7 : Mem := wI s6 (k0 + 1) (ix (((86 : Int32)) + x4)) v3
          gd (inb (((13 : Int32)) + x4) (lenM (k0 + 1))) <|
          let s8 : Mem := wI s7 (k0 + 1) (ix (((13 : Int32)) + x4)) ((-1 : Int32))
          gd (inb (((25 : Int32)) + x4) (lenM (k0 + 1))) <|
          let s9 : Mem := wI s8 (k0 + 1) (ix (((25 : Int32)) + x4)) ((0 : Int32))
          gd (inb (((37 : Int32)) + x4) (lenM (k0 + 1))) <|
          let s10 : Mem := wI s9 (k0 + 1) (ix (((37 : Int32)) + x4)) ((0 : Int32))
          gd (inb ((49 : Int32)) (lenM (k0 + 1))) <|
          gd (inb ((49 : Int32)) (lenM (k0 + 1))) <|
          let s11 : Mem := wI s10 (k0 + 1) (ix ((49 : Int32))) ((rI s10 (k0 + 1) (ix ((49 : Int32)))) + ((1 : Int32)))
          (f_M_forgets k0 s11).bind fun r12 =>
          some (x4, r12)))))
noncomputable def f_M_walker : Nat → Int32 → Int32 → Int32 → Mem → Option (Int32 × Mem) := Classical.choose (⟨b_M_walker, rfl⟩ : ∃ f : Nat → Int32 → Int32 → Int32 → Mem → Option (Int32 × Mem), f = b_M_walker)
theorem f_M_walker_eq : f_M_walker = b_M_walker := Classical.choose_spec (⟨b_M_walker, rfl⟩ : ∃ f : Nat → Int32 → Int32 → Int32 → Mem → Option (Int32 × Mem), f = b_M_walker)
noncomputable def sm_M_walker (O : Type) (av : List AV) (σ : Mem) (K : AV → Mem → Option O) : Option O := match av with
  | [.inr (.inr (12, k0)), .inl v1, .inl v2, .inl v3] => (f_M_walker k0 v1 v2 v3 σ).bind fun r => K (.inl r.1) r.2
  | _ => none
def c_M_walker : List (List CE) := [[(0, .iload_n 1, 1, 0, 0, 0), (1, .iconst 1, 1, 1, 0, 0), (2, .bipush 9, 2, 9, 0, 0), (4, .invokestatic 60, 3, 230, 3, 1), (7, .ifCond .eq 35, 3, 42, 0, 0), (10, .iload_n 2, 1, 0, 0, 0), (11, .iconst 1, 1, 1, 0, 0), (12, .bipush 30, 2, 30, 0, 0), (14, .invokestatic 60, 3, 230, 3, 1)], [(17, .ifCond .eq 25, 3, 42, 0, 0), (20, .iload_n 3, 1, 0, 0, 0), (21, .iconst 0, 1, 0, 0, 0), (22, .bipush 9, 2, 9, 0, 0), (24, .invokestatic 60, 3, 230, 3, 1), (27, .ifCond .eq 15, 3, 42, 0, 0), (30, .aload_n 0, 1, 0, 0, 0), (31, .getfield 7, 3, 12, 0, 0)], [(34, .bipush 49, 2, 49, 0, 0), (36, .iaload, 1, 0, 0, 0), (37, .bipush 12, 2, 12, 0, 0), (39, .if_icmp .ne 5, 3, 44, 0, 0), (42, .iconst (-1), 1, 1, 0, 1), (43, .ireturn, 1, 0, 0, 0), (44, .aload_n 0, 1, 0, 0, 0), (45, .getfield 7, 3, 12, 0, 0)], [(48, .bipush 49, 2, 49, 0, 0), (50, .iaload, 1, 0, 0, 0), (51, .istore 4, 2, 0, 0, 0), (53, .aload_n 0, 1, 0, 0, 0), (54, .getfield 7, 3, 12, 0, 0), (57, .bipush 62, 2, 62, 0, 0), (59, .iload 4, 2, 0, 0, 0), (61, .iadd, 1, 0, 0, 0), (62, .iload_n 1, 1, 0, 0, 0), (63, .iastore, 1, 0, 0, 0)], [(64, .aload_n 0, 1, 0, 0, 0), (65, .getfield 7, 3, 12, 0, 0), (68, .bipush 74, 2, 74, 0, 0), (70, .iload 4, 2, 0, 0, 0), (72, .iadd, 1, 0, 0, 0), (73, .iload_n 2, 1, 0, 0, 0), (74, .iastore, 1, 0, 0, 0), (75, .aload_n 0, 1, 0, 0, 0), (76, .getfield 7, 3, 12, 0, 0), (79, .bipush 86, 2, 86, 0, 0)], [(81, .iload 4, 2, 0, 0, 0), (83, .iadd, 1, 0, 0, 0), (84, .iload_n 3, 1, 0, 0, 0), (85, .iastore, 1, 0, 0, 0), (86, .aload_n 0, 1, 0, 0, 0), (87, .getfield 7, 3, 12, 0, 0), (90, .bipush 13, 2, 13, 0, 0), (92, .iload 4, 2, 0, 0, 0), (94, .iadd, 1, 0, 0, 0), (95, .iconst (-1), 1, 1, 0, 1)], [(96, .iastore, 1, 0, 0, 0), (97, .aload_n 0, 1, 0, 0, 0), (98, .getfield 7, 3, 12, 0, 0), (101, .bipush 25, 2, 25, 0, 0), (103, .iload 4, 2, 0, 0, 0), (105, .iadd, 1, 0, 0, 0), (106, .iconst 0, 1, 0, 0, 0), (107, .iastore, 1, 0, 0, 0), (108, .aload_n 0, 1, 0, 0, 0), (109, .getfield 7, 3, 12, 0, 0)], [(112, .bipush 37, 2, 37, 0, 0), (114, .iload 4, 2, 0, 0, 0), (116, .iadd, 1, 0, 0, 0), (117, .iconst 0, 1, 0, 0, 0), (118, .iastore, 1, 0, 0, 0), (119, .aload_n 0, 1, 0, 0, 0), (120, .getfield 7, 3, 12, 0, 0), (123, .bipush 49, 2, 49, 0, 0), (125, .dup2, 1, 0, 0, 0), (126, .iaload, 1, 0, 0, 0), (127, .iconst 1, 1, 1, 0, 0)], [(128, .iadd, 1, 0, 0, 0), (129, .iastore, 1, 0, 0, 0), (130, .aload_n 0, 1, 0, 0, 0), (131, .invokevirtual 67, 3, 228, 1, 24), (134, .iload 4, 2, 0, 0, 0), (136, .ireturn, 1, 0, 0, 0)]]
set_option maxRecDepth 100000 in
theorem oc_M_walker : okC 229 c_M_walker = true := by decide +kernel
def cu_M_walker : List (Nat × List Bool) := []
noncomputable def F_M_walker (O : Type) (a : Nat) (av : List AV) (σ : Mem) (K : AV → Mem → Option O) : Option O := if a = 228 then sm_M_forgets O av σ K else if a = 230 then sm_M_isIn O av σ K else none
theorem fs_M_walker {X : CXT} (hX : XM X) (O : Type) : FS X 2 (F_M_walker O) := by
  intro a av σ K o h
  unfold F_M_walker at h
  rcases ite_s h with ⟨rfl, h⟩ | ⟨_, h⟩
  · obtain ⟨r, h1, h2, h3⟩ := ok_M_forgets hX _ _ _ _ _ h
    exact ⟨r, fun ht => ⟨1, by decide, h1 ht⟩, h2, h3⟩
  rcases ite_s h with ⟨rfl, h⟩ | ⟨_, h⟩
  · obtain ⟨r, h1, h2, h3⟩ := ok_M_isIn hX _ _ _ _ _ h
    exact ⟨r, fun ht => ⟨1, by decide, h1 ht⟩, h2, h3⟩
  cases h
set_option maxRecDepth 100000 in
theorem s_M_walker {X : CXT} (hX : XM X) : ∀ (k0 : Nat) (v1 : Int32) (v2 : Int32) (v3 : Int32) (s : Mem) (o : Int32 × Mem), f_M_walker k0 v1 v2 v3 s = some o → BSnd X 2 229 (ovI o) 0 (entL [.inr (.inr (12, k0)), .inl v1, .inl v2, .inl v3]) [] s := by
  intro k0 v1 v2 v3 s o h
  rw [f_M_walker_eq] at h
  exact evC (chs := c_M_walker) (cuts := cu_M_walker) (G := fun pc ls st σ => none) hX.2.1 hX.2.2 (F := F_M_walker _) (fs_M_walker hX _) (rt_I rfl) oc_M_walker (by
    intro pc ls st σ o h
    cases h) 368 0 _ _ _ _ h
theorem ok_M_walker {X : CXT} (hX : XM X) : SemOK X 2 229 sm_M_walker := by
  intro O av σ K o h
  unfold sm_M_walker at h
  split at h
  · obtain ⟨r, hf, h⟩ := Option.bind_eq_some_iff.mp h
    exact ⟨ovI r, fun ht => sp_of hX.1 (by decide) (List.mem_range.mpr (by decide)) (by decide +kernel) ht (Nat.le_of_ble_eq_true rfl) (s_M_walker hX _ _ _ _ _ _ hf), trivial, h⟩
  · cases h
