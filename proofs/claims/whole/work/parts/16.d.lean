noncomputable def f_M_keeps_11 (K39 : Nat → Mem → Option (Mem)) : Nat → Nat → Int32 → Mem → Option (Mem)
  | 0, _, _, _ => none
  | n + 1, k0, v1, s =>
    cif (((245 : Int32)) ≤ v1) (
      K39 k0 s) (
      gd (inb (v1 + ((49 : Int32))) (lenM (k0 + 3))) <|
      gd (inb v1 (lenM (k0 + 3))) <|
      let s1 : Mem := wI s (k0 + 3) (ix v1) (rI s (k0 + 3) (ix (v1 + ((49 : Int32)))))
      f_M_keeps_11 K39 n k0 (v1 + (1 : Int32)) s1)
noncomputable def f_M_keeps_51 (K83 : Nat → Mem → Option (Mem)) : Nat → Nat → Int32 → Mem → Option (Mem)
  | 0, _, _, _ => none
  | n + 1, k0, v1, s =>
    cif (((49 : Int32)) ≤ v1) (
      K83 k0 s) (
      gd (inb v1 (lenM (k0 + 1))) <|
      gd (inb ((((49 : Int32)) * (rI s k0 4)) + v1) (lenM (k0 + 3))) <|
      let s1 : Mem := wI s (k0 + 3) (ix ((((49 : Int32)) * (rI s k0 4)) + v1)) (rI s (k0 + 1) (ix v1))
      f_M_keeps_51 K83 n k0 (v1 + (1 : Int32)) s1)
noncomputable def f_M_keeps_83 (k0 : Nat) (s : Mem) : Option (Mem) :=
  let s1 : Mem := wI s k0 4 ((rI s k0 4) + ((1 : Int32)))
  let s2 : Mem := wI s1 k0 26 ((1 : Int32))
  some s2
noncomputable def f_M_keeps_39 (k0 : Nat) (s : Mem) : Option (Mem) :=
  let s1 : Mem := wI s k0 4 ((rI s k0 4) - ((1 : Int32)))
  f_M_keeps_51 (fun k0 s => f_M_keeps_83 k0 s) FU k0 ((0 : Int32)) s1
noncomputable def b_M_keeps (k0 : Nat) (s : Mem) : Option (Mem) :=
  cif ((rI s k0 4) = ((6 : Int32))) (
    f_M_keeps_11 (fun k0 s => f_M_keeps_39 k0 s) FU k0 ((0 : Int32)) s) (
    f_M_keeps_51 (fun k0 s => f_M_keeps_83 k0 s) FU k0 ((0 : Int32)) s)
noncomputable def f_M_keeps : Nat → Mem → Option (Mem) := Classical.choose (⟨b_M_keeps, rfl⟩ : ∃ f : Nat → Mem → Option (Mem), f = b_M_keeps)
theorem f_M_keeps_eq : f_M_keeps = b_M_keeps := Classical.choose_spec (⟨b_M_keeps, rfl⟩ : ∃ f : Nat → Mem → Option (Mem), f = b_M_keeps)
noncomputable def sm_M_keeps (O : Type) (av : List AV) (σ : Mem) (K : AV → Mem → Option O) : Option O := match av with
  | [.inr (.inr (12, k0))] => (f_M_keeps k0 σ).bind fun r => K (.inl 0) r
  | _ => none
def c_M_keeps : List (List CE) := [[(0, .aload_n 0, 1, 0, 0, 0), (1, .getfield 64, 3, 12, 4, 0), (4, .bipush 6, 2, 6, 0, 0), (6, .if_icmp .ne 43, 3, 49, 0, 0), (9, .iconst 0, 1, 0, 0, 0), (10, .istore_n 1, 1, 0, 0, 0), (11, .iload_n 1, 1, 0, 0, 0), (12, .sipush 245, 3, 245, 0, 0), (15, .if_icmp .ge 24, 3, 39, 0, 0)], [(18, .aload_n 0, 1, 0, 0, 0), (19, .getfield 16, 3, 12, 2, 0), (22, .iload_n 1, 1, 0, 0, 0), (23, .aload_n 0, 1, 0, 0, 0), (24, .getfield 16, 3, 12, 2, 0), (27, .iload_n 1, 1, 0, 0, 0), (28, .bipush 49, 2, 49, 0, 0), (30, .iadd, 1, 0, 0, 0), (31, .iaload, 1, 0, 0, 0)], [(32, .iastore, 1, 0, 0, 0), (33, .iinc 1 1, 3, 1, 0, 0), (36, .goto (-25), 3, 11, 0, 0), (39, .aload_n 0, 1, 0, 0, 0), (40, .dup, 1, 0, 0, 0), (41, .getfield 64, 3, 12, 4, 0), (44, .iconst 1, 1, 1, 0, 0), (45, .isub, 1, 0, 0, 0), (46, .putfield 64, 3, 12, 4, 0)], [(49, .iconst 0, 1, 0, 0, 0), (50, .istore_n 1, 1, 0, 0, 0), (51, .iload_n 1, 1, 0, 0, 0), (52, .bipush 49, 2, 49, 0, 0), (54, .if_icmp .ge 29, 3, 83, 0, 0), (57, .aload_n 0, 1, 0, 0, 0), (58, .getfield 16, 3, 12, 2, 0), (61, .bipush 49, 2, 49, 0, 0), (63, .aload_n 0, 1, 0, 0, 0)], [(64, .getfield 64, 3, 12, 4, 0), (67, .imul, 1, 0, 0, 0), (68, .iload_n 1, 1, 0, 0, 0), (69, .iadd, 1, 0, 0, 0), (70, .aload_n 0, 1, 0, 0, 0), (71, .getfield 7, 3, 12, 0, 0), (74, .iload_n 1, 1, 0, 0, 0), (75, .iaload, 1, 0, 0, 0), (76, .iastore, 1, 0, 0, 0), (77, .iinc 1 1, 3, 1, 0, 0)], [(80, .goto (-29), 3, 51, 0, 0), (83, .aload_n 0, 1, 0, 0, 0), (84, .dup, 1, 0, 0, 0), (85, .getfield 64, 3, 12, 4, 0), (88, .iconst 1, 1, 1, 0, 0), (89, .iadd, 1, 0, 0, 0), (90, .putfield 64, 3, 12, 4, 0), (93, .aload_n 0, 1, 0, 0, 0), (94, .iconst 1, 1, 1, 0, 0), (95, .putfield 303, 3, 12, 26, 0)], [(98, .return_, 1, 0, 0, 0)]]
set_option maxRecDepth 100000 in
theorem oc_M_keeps : okC 274 c_M_keeps = true := by decide +kernel
def cu_M_keeps : List (Nat × List Bool) := [(11, [true, true]), (51, [true, true]), (83, [true]), (39, [true])]
noncomputable def F_M_keeps (O : Type) (a : Nat) (av : List AV) (σ : Mem) (K : AV → Mem → Option O) : Option O := none
theorem fs_M_keeps {X : CXT} (hX : XM X) (O : Type) : FS X 1 (F_M_keeps O) := by
  intro a av σ K o h
  cases h
def hd_M_keeps_11 {O : Type} (g : Nat → Int32 → Mem → Option O) (ls : OL) (st : List AV) (σ : Mem) : Option O := match ls, st with
  | [some (.inr (.inr (12, k0))), some (.inl v1)], [] => g k0 v1 σ
  | _, _ => none
theorem hs_M_keeps_11 {X : CXT} {g : Nat → Int32 → Mem → Option (Mem)} (hg : ∀ (k0 : Nat) (v1 : Int32) (s : Mem) (o : Mem), g k0 v1 s = some o → BSnd X 1 274 (ovV o) 11 [some (.inr (.inr (12, k0))), some (.inl v1)] [] s) : ∀ ls st σ o, hd_M_keeps_11 g ls st σ = some o → BSnd X 1 274 (ovV o) 11 ls st σ := by
  intro ls st σ o h
  unfold hd_M_keeps_11 at h
  split at h
  · exact hg _ _ _ _ h
  · cases h
def hd_M_keeps_51 {O : Type} (g : Nat → Int32 → Mem → Option O) (ls : OL) (st : List AV) (σ : Mem) : Option O := match ls, st with
  | [some (.inr (.inr (12, k0))), some (.inl v1)], [] => g k0 v1 σ
  | _, _ => none
theorem hs_M_keeps_51 {X : CXT} {g : Nat → Int32 → Mem → Option (Mem)} (hg : ∀ (k0 : Nat) (v1 : Int32) (s : Mem) (o : Mem), g k0 v1 s = some o → BSnd X 1 274 (ovV o) 51 [some (.inr (.inr (12, k0))), some (.inl v1)] [] s) : ∀ ls st σ o, hd_M_keeps_51 g ls st σ = some o → BSnd X 1 274 (ovV o) 51 ls st σ := by
  intro ls st σ o h
  unfold hd_M_keeps_51 at h
  split at h
  · exact hg _ _ _ _ h
  · cases h
def hd_M_keeps_83 {O : Type} (g : Nat → Mem → Option O) (ls : OL) (st : List AV) (σ : Mem) : Option O := match ls, st with
  | [some (.inr (.inr (12, k0)))], [] => g k0 σ
  | _, _ => none
theorem hs_M_keeps_83 {X : CXT} {g : Nat → Mem → Option (Mem)} (hg : ∀ (k0 : Nat) (s : Mem) (o : Mem), g k0 s = some o → BSnd X 1 274 (ovV o) 83 [some (.inr (.inr (12, k0)))] [] s) : ∀ ls st σ o, hd_M_keeps_83 g ls st σ = some o → BSnd X 1 274 (ovV o) 83 ls st σ := by
  intro ls st σ o h
  unfold hd_M_keeps_83 at h
  split at h
  · exact hg _ _ _ h
  · cases h
def hd_M_keeps_39 {O : Type} (g : Nat → Mem → Option O) (ls : OL) (st : List AV) (σ : Mem) : Option O := match ls, st with
  | [some (.inr (.inr (12, k0)))], [] => g k0 σ
  | _, _ => none
theorem hs_M_keeps_39 {X : CXT} {g : Nat → Mem → Option (Mem)} (hg : ∀ (k0 : Nat) (s : Mem) (o : Mem), g k0 s = some o → BSnd X 1 274 (ovV o) 39 [some (.inr (.inr (12, k0)))] [] s) : ∀ ls st σ o, hd_M_keeps_39 g ls st σ = some o → BSnd X 1 274 (ovV o) 39 ls st σ := by
  intro ls st σ o h
  unfold hd_M_keeps_39 at h
  split at h
  · exact hg _ _ _ h
  · cases h
set_option maxRecDepth 100000 in
theorem s_M_keeps_11 {X : CXT} (hX : XM X) {K39 : Nat → Mem → Option (Mem)} (hK39 : ∀ (k0 : Nat) (s : Mem) (o : Mem), K39 k0 s = some o → BSnd X 1 274 (ovV o) 39 [some (.inr (.inr (12, k0)))] [] s) : ∀ n : Nat, ∀ (k0 : Nat) (v1 : Int32) (s : Mem) (o : Mem), f_M_keeps_11 K39 n k0 v1 s = some o → BSnd X 1 274 (ovV o) 11 [some (.inr (.inr (12, k0))), some (.inl v1)] [] s := by
  intro n
  induction n with
  | zero => intro k0 v1 s o h; cases h
  | succ n ih =>
    intro k0 v1 s o h
    exact evC (chs := c_M_keeps) (cuts := cu_M_keeps) (G := fun pc ls st σ => if pc = 11 then hd_M_keeps_11 (fun k0 v1 s => f_M_keeps_11 K39 n k0 v1 s) ls st σ else if pc = 39 then hd_M_keeps_39 (fun k0 s => K39 k0 s) ls st σ else none) hX.2.1 hX.2.2 (F := F_M_keeps _) (fs_M_keeps hX _) (rt_V rfl) oc_M_keeps (by
    intro pc ls st σ o h
    rcases ite_s h with ⟨rfl, h⟩ | ⟨_, h⟩
    · exact hs_M_keeps_11 ih _ _ _ _ h
    rcases ite_s h with ⟨rfl, h⟩ | ⟨_, h⟩
    · exact hs_M_keeps_39 hK39 _ _ _ _ h
    cases h) 268 11 _ _ _ _ h
set_option maxRecDepth 100000 in
theorem s_M_keeps_51 {X : CXT} (hX : XM X) {K83 : Nat → Mem → Option (Mem)} (hK83 : ∀ (k0 : Nat) (s : Mem) (o : Mem), K83 k0 s = some o → BSnd X 1 274 (ovV o) 83 [some (.inr (.inr (12, k0)))] [] s) : ∀ n : Nat, ∀ (k0 : Nat) (v1 : Int32) (s : Mem) (o : Mem), f_M_keeps_51 K83 n k0 v1 s = some o → BSnd X 1 274 (ovV o) 51 [some (.inr (.inr (12, k0))), some (.inl v1)] [] s := by
  intro n
  induction n with
  | zero => intro k0 v1 s o h; cases h
  | succ n ih =>
    intro k0 v1 s o h
    exact evC (chs := c_M_keeps) (cuts := cu_M_keeps) (G := fun pc ls st σ => if pc = 51 then hd_M_keeps_51 (fun k0 v1 s => f_M_keeps_51 K83 n k0 v1 s) ls st σ else if pc = 83 then hd_M_keeps_83 (fun k0 s => K83 k0 s) ls st σ else none) hX.2.1 hX.2.2 (F := F_M_keeps _) (fs_M_keeps hX _) (rt_V rfl) oc_M_keeps (by
    intro pc ls st σ o h
    rcases ite_s h with ⟨rfl, h⟩ | ⟨_, h⟩
    · exact hs_M_keeps_51 ih _ _ _ _ h
    rcases ite_s h with ⟨rfl, h⟩ | ⟨_, h⟩
    · exact hs_M_keeps_83 hK83 _ _ _ _ h
    cases h) 268 51 _ _ _ _ h
set_option maxRecDepth 100000 in
theorem s_M_keeps_83 {X : CXT} (hX : XM X) : ∀ (k0 : Nat) (s : Mem) (o : Mem), f_M_keeps_83 k0 s = some o → BSnd X 1 274 (ovV o) 83 [some (.inr (.inr (12, k0)))] [] s := by
  intro k0 s o h
  exact evC (chs := c_M_keeps) (cuts := cu_M_keeps) (G := fun pc ls st σ => none) hX.2.1 hX.2.2 (F := F_M_keeps _) (fs_M_keeps hX _) (rt_V rfl) oc_M_keeps (by
    intro pc ls st σ o h
    cases h) 268 83 _ _ _ _ h
set_option maxRecDepth 100000 in
theorem s_M_keeps_39 {X : CXT} (hX : XM X) : ∀ (k0 : Nat) (s : Mem) (o : Mem), f_M_keeps_39 k0 s = some o → BSnd X 1 274 (ovV o) 39 [some (.inr (.inr (12, k0)))] [] s := by
  intro k0 s o h
  exact evC (chs := c_M_keeps) (cuts := cu_M_keeps) (G := fun pc ls st σ => if pc = 51 then hd_M_keeps_51 (fun k0 v1 s => f_M_keeps_51 (fun k0 s => f_M_keeps_83 k0 s) FU k0 v1 s) ls st σ else if pc = 83 then hd_M_keeps_83 (fun k0 s => f_M_keeps_83 k0 s) ls st σ else none) hX.2.1 hX.2.2 (F := F_M_keeps _) (fs_M_keeps hX _) (rt_V rfl) oc_M_keeps (by
    intro pc ls st σ o h
    rcases ite_s h with ⟨rfl, h⟩ | ⟨_, h⟩
    · exact hs_M_keeps_51 (s_M_keeps_51 hX (s_M_keeps_83 hX) FU) _ _ _ _ h
    rcases ite_s h with ⟨rfl, h⟩ | ⟨_, h⟩
    · exact hs_M_keeps_83 (s_M_keeps_83 hX) _ _ _ _ h
    cases h) 268 39 _ _ _ _ h
set_option maxRecDepth 100000 in
theorem s_M_keeps {X : CXT} (hX : XM X) : ∀ (k0 : Nat) (s : Mem) (o : Mem), f_M_keeps k0 s = some o → BSnd X 1 274 (ovV o) 0 (entL [.inr (.inr (12, k0))]) [] s := by
  intro k0 s o h
  rw [f_M_keeps_eq] at h
  exact evC (chs := c_M_keeps) (cuts := cu_M_keeps) (G := fun pc ls st σ => if pc = 11 then hd_M_keeps_11 (fun k0 v1 s => f_M_keeps_11 (fun k0 s => f_M_keeps_39 k0 s) FU k0 v1 s) ls st σ else if pc = 51 then hd_M_keeps_51 (fun k0 v1 s => f_M_keeps_51 (fun k0 s => f_M_keeps_83 k0 s) FU k0 v1 s) ls st σ else if pc = 83 then hd_M_keeps_83 (fun k0 s => f_M_keeps_83 k0 s) ls st σ else if pc = 39 then hd_M_keeps_39 (fun k0 s => f_M_keeps_39 k0 s) ls st σ else none) hX.2.1 hX.2.2 (F := F_M_keeps _) (fs_M_keeps hX _) (rt_V rfl) oc_M_keeps (by
    intro pc ls st σ o h
    rcases ite_s h with ⟨rfl, h⟩ | ⟨_, h⟩
    · exact hs_M_keeps_11 (s_M_keeps_11 hX (s_M_keeps_39 hX) FU) _ _ _ _ h
    rcases ite_s h with ⟨rfl, h⟩ | ⟨_, h⟩
    · exact hs_M_keeps_51 (s_M_keeps_51 hX (s_M_keeps_83 hX) FU) _ _ _ _ h
    rcases ite_s h with ⟨rfl, h⟩ | ⟨_, h⟩
    · exact hs_M_keeps_83 (s_M_keeps_83 hX) _ _ _ _ h
    rcases ite_s h with ⟨rfl, h⟩ | ⟨_, h⟩
    · exact hs_M_keeps_39 (s_M_keeps_39 hX) _ _ _ _ h
    cases h) 268 0 _ _ _ _ h
theorem ok_M_keeps {X : CXT} (hX : XM X) : SemOK X 1 274 sm_M_keeps := by
  intro O av σ K o h
  unfold sm_M_keeps at h
  split at h
  · obtain ⟨r, hf, h⟩ := Option.bind_eq_some_iff.mp h
    exact ⟨ovV r, fun ht => sp_of hX.1 (by decide) (List.mem_range.mpr (by decide)) (by decide +kernel) ht (Nat.le_of_ble_eq_true rfl) (s_M_keeps hX _ _ _ hf), trivial, h⟩
  · cases h
noncomputable def f_M_clearsFacts_2 : Nat → Nat → Int32 → Mem → Option (Mem)
  | 0, _, _, _ => none
  | n + 1, k0, v1, s =>
    cif ((Int32.ofNat (lenM (k0 + 10))) ≤ v1) (
      some s) (
      gd (inb v1 (lenM (k0 + 10))) <|
      let s1 : Mem := wI s (k0 + 10) (ix v1) ((0 : Int32))
      f_M_clearsFacts_2 n k0 (v1 + (1 : Int32)) s1)
noncomputable def b_M_clearsFacts (k0 : Nat) (s : Mem) : Option (Mem) :=
  f_M_clearsFacts_2 FU k0 ((0 : Int32)) s
noncomputable def f_M_clearsFacts : Nat → Mem → Option (Mem) := Classical.choose (⟨b_M_clearsFacts, rfl⟩ : ∃ f : Nat → Mem → Option (Mem), f = b_M_clearsFacts)
theorem f_M_clearsFacts_eq : f_M_clearsFacts = b_M_clearsFacts := Classical.choose_spec (⟨b_M_clearsFacts, rfl⟩ : ∃ f : Nat → Mem → Option (Mem), f = b_M_clearsFacts)
noncomputable def sm_M_clearsFacts (O : Type) (av : List AV) (σ : Mem) (K : AV → Mem → Option O) : Option O := match av with
  | [.inr (.inr (12, k0))] => (f_M_clearsFacts k0 σ).bind fun r => K (.inl 0) r
  | _ => none
def c_M_clearsFacts : List (List CE) := [[(0, .iconst 0, 1, 0, 0, 0), (1, .istore_n 1, 1, 0, 0, 0), (2, .iload_n 1, 1, 0, 0, 0), (3, .aload_n 0, 1, 0, 0, 0), (4, .getfield 37, 3, 12, 11, 0), (7, .arraylength, 1, 0, 0, 0), (8, .if_icmp .ge 16, 3, 24, 0, 0), (11, .aload_n 0, 1, 0, 0, 0), (12, .getfield 37, 3, 12, 11, 0), (15, .iload_n 1, 1, 0, 0, 0)], [(16, .iconst 0, 1, 0, 0, 0), (17, .iastore, 1, 0, 0, 0), (18, .iinc 1 1, 3, 1, 0, 0), (21, .goto (-19), 3, 2, 0, 0), (24, .return_, 1, 0, 0, 0)]]
set_option maxRecDepth 100000 in
theorem oc_M_clearsFacts : okC 277 c_M_clearsFacts = true := by decide +kernel
def cu_M_clearsFacts : List (Nat × List Bool) := [(2, [true, true])]
noncomputable def F_M_clearsFacts (O : Type) (a : Nat) (av : List AV) (σ : Mem) (K : AV → Mem → Option O) : Option O := none
theorem fs_M_clearsFacts {X : CXT} (hX : XM X) (O : Type) : FS X 1 (F_M_clearsFacts O) := by
  intro a av σ K o h
  cases h
def hd_M_clearsFacts_2 {O : Type} (g : Nat → Int32 → Mem → Option O) (ls : OL) (st : List AV) (σ : Mem) : Option O := match ls, st with
  | [some (.inr (.inr (12, k0))), some (.inl v1)], [] => g k0 v1 σ
  | _, _ => none
theorem hs_M_clearsFacts_2 {X : CXT} {g : Nat → Int32 → Mem → Option (Mem)} (hg : ∀ (k0 : Nat) (v1 : Int32) (s : Mem) (o : Mem), g k0 v1 s = some o → BSnd X 1 277 (ovV o) 2 [some (.inr (.inr (12, k0))), some (.inl v1)] [] s) : ∀ ls st σ o, hd_M_clearsFacts_2 g ls st σ = some o → BSnd X 1 277 (ovV o) 2 ls st σ := by
  intro ls st σ o h
  unfold hd_M_clearsFacts_2 at h
  split at h
  · exact hg _ _ _ _ h
  · cases h
set_option maxRecDepth 100000 in
theorem s_M_clearsFacts_2 {X : CXT} (hX : XM X) : ∀ n : Nat, ∀ (k0 : Nat) (v1 : Int32) (s : Mem) (o : Mem), f_M_clearsFacts_2 n k0 v1 s = some o → BSnd X 1 277 (ovV o) 2 [some (.inr (.inr (12, k0))), some (.inl v1)] [] s := by
  intro n
  induction n with
  | zero => intro k0 v1 s o h; cases h
  | succ n ih =>
    intro k0 v1 s o h
    exact evC (chs := c_M_clearsFacts) (cuts := cu_M_clearsFacts) (G := fun pc ls st σ => if pc = 2 then hd_M_clearsFacts_2 (fun k0 v1 s => f_M_clearsFacts_2 n k0 v1 s) ls st σ else none) hX.2.1 hX.2.2 (F := F_M_clearsFacts _) (fs_M_clearsFacts hX _) (rt_V rfl) oc_M_clearsFacts (by
    intro pc ls st σ o h
    rcases ite_s h with ⟨rfl, h⟩ | ⟨_, h⟩
    · exact hs_M_clearsFacts_2 ih _ _ _ _ h
    cases h) 100 2 _ _ _ _ h
set_option maxRecDepth 100000 in
theorem s_M_clearsFacts {X : CXT} (hX : XM X) : ∀ (k0 : Nat) (s : Mem) (o : Mem), f_M_clearsFacts k0 s = some o → BSnd X 1 277 (ovV o) 0 (entL [.inr (.inr (12, k0))]) [] s := by
  intro k0 s o h
  rw [f_M_clearsFacts_eq] at h
  exact evC (chs := c_M_clearsFacts) (cuts := cu_M_clearsFacts) (G := fun pc ls st σ => if pc = 2 then hd_M_clearsFacts_2 (fun k0 v1 s => f_M_clearsFacts_2 FU k0 v1 s) ls st σ else none) hX.2.1 hX.2.2 (F := F_M_clearsFacts _) (fs_M_clearsFacts hX _) (rt_V rfl) oc_M_clearsFacts (by
    intro pc ls st σ o h
    rcases ite_s h with ⟨rfl, h⟩ | ⟨_, h⟩
    · exact hs_M_clearsFacts_2 (s_M_clearsFacts_2 hX FU) _ _ _ _ h
    cases h) 100 0 _ _ _ _ h
theorem ok_M_clearsFacts {X : CXT} (hX : XM X) : SemOK X 1 277 sm_M_clearsFacts := by
  intro O av σ K o h
  unfold sm_M_clearsFacts at h
  split at h
  · obtain ⟨r, hf, h⟩ := Option.bind_eq_some_iff.mp h
    exact ⟨ovV r, fun ht => sp_of hX.1 (by decide) (List.mem_range.mpr (by decide)) (by decide +kernel) ht (Nat.le_of_ble_eq_true rfl) (s_M_clearsFacts hX _ _ _ hf), trivial, h⟩
  · cases h
noncomputable def b_M_both (v0 : Int32) (v1 : Int32) (v2 : Int32) (s : Mem) : Option (Int32 × Mem) :=
  cif (v0 = (23 : Int32)) (
    some (v1 + v2, s)) (
    cif (v0 = (24 : Int32)) (
      some (v1 - v2, s)) (
      cif (v0 = (25 : Int32)) (
        some (v1 * v2, s)) (
        cif (v0 = (26 : Int32)) (
          some (v1 ||| v2, s)) (
          cif (v0 = (27 : Int32)) (
            cif (v2 ≤ v1) (
              some ((0 : Int32), s)) (
              some ((1 : Int32), s))) (
            cif (v0 = (28 : Int32)) (
              cif (v1 = v2) (
                some ((1 : Int32), s)) (
                some ((0 : Int32), s))) (
              cif (v0 = (29 : Int32)) (
                cif (v1 ≤ v2) (
                  some ((0 : Int32), s)) (
                  some ((1 : Int32), s))) (
                cif (v0 = (30 : Int32)) (
                  some (v1 ||| v2, s)) (
                  cif (v0 = (31 : Int32)) (
                    some (v1 &&& v2, s)) (
                    some (v1 ||| v2, s))))))))))
noncomputable def f_M_both : Int32 → Int32 → Int32 → Mem → Option (Int32 × Mem) := Classical.choose (⟨b_M_both, rfl⟩ : ∃ f : Int32 → Int32 → Int32 → Mem → Option (Int32 × Mem), f = b_M_both)
theorem f_M_both_eq : f_M_both = b_M_both := Classical.choose_spec (⟨b_M_both, rfl⟩ : ∃ f : Int32 → Int32 → Int32 → Mem → Option (Int32 × Mem), f = b_M_both)
noncomputable def sm_M_both (O : Type) (av : List AV) (σ : Mem) (K : AV → Mem → Option O) : Option O := match av with
  | [.inl v0, .inl v1, .inl v2] => (f_M_both v0 v1 v2 σ).bind fun r => K (.inl r.1) r.2
  | _ => none
def c_M_both : List (List CE) := [[(0, .iload_n 0, 1, 0, 0, 0), (1, .tableswitch 100 23 31 #[51, 55, 59, 100, 63, 74, 85, 100, 96], 51, 0, 0, 0)], [], [], [(52, .iload_n 1, 1, 0, 0, 0), (53, .iload_n 2, 1, 0, 0, 0), (54, .iadd, 1, 0, 0, 0), (55, .ireturn, 1, 0, 0, 0), (56, .iload_n 1, 1, 0, 0, 0), (57, .iload_n 2, 1, 0, 0, 0), (58, .isub, 1, 0, 0, 0), (59, .ireturn, 1, 0, 0, 0), (60, .iload_n 1, 1, 0, 0, 0), (61, .iload_n 2, 1, 0, 0, 0), (62, .imul, 1, 0, 0, 0), (63, .ireturn, 1, 0, 0, 0)], [(64, .iload_n 1, 1, 0, 0, 0), (65, .iload_n 2, 1, 0, 0, 0), (66, .if_icmp .ge 7, 3, 73, 0, 0), (69, .iconst 1, 1, 1, 0, 0), (70, .goto 4, 3, 74, 0, 0), (73, .iconst 0, 1, 0, 0, 0), (74, .ireturn, 1, 0, 0, 0), (75, .iload_n 1, 1, 0, 0, 0), (76, .iload_n 2, 1, 0, 0, 0), (77, .if_icmp .ne 7, 3, 84, 0, 0)], [(80, .iconst 1, 1, 1, 0, 0), (81, .goto 4, 3, 85, 0, 0), (84, .iconst 0, 1, 0, 0, 0), (85, .ireturn, 1, 0, 0, 0), (86, .iload_n 1, 1, 0, 0, 0), (87, .iload_n 2, 1, 0, 0, 0), (88, .if_icmp .le 7, 3, 95, 0, 0), (91, .iconst 1, 1, 1, 0, 0), (92, .goto 4, 3, 96, 0, 0), (95, .iconst 0, 1, 0, 0, 0)], [(96, .ireturn, 1, 0, 0, 0), (97, .iload_n 1, 1, 0, 0, 0), (98, .iload_n 2, 1, 0, 0, 0), (99, .iand, 1, 0, 0, 0), (100, .ireturn, 1, 0, 0, 0), (101, .iload_n 1, 1, 0, 0, 0), (102, .iload_n 2, 1, 0, 0, 0), (103, .ior, 1, 0, 0, 0), (104, .ireturn, 1, 0, 0, 0)]]
set_option maxRecDepth 100000 in
theorem oc_M_both : okC 281 c_M_both = true := by decide +kernel
def cu_M_both : List (Nat × List Bool) := []
noncomputable def F_M_both (O : Type) (a : Nat) (av : List AV) (σ : Mem) (K : AV → Mem → Option O) : Option O := none
theorem fs_M_both {X : CXT} (hX : XM X) (O : Type) : FS X 1 (F_M_both O) := by
  intro a av σ K o h
  cases h
set_option maxRecDepth 100000 in
theorem s_M_both {X : CXT} (hX : XM X) : ∀ (v0 : Int32) (v1 : Int32) (v2 : Int32) (s : Mem) (o : Int32 × Mem), f_M_both v0 v1 v2 s = some o → BSnd X 1 281 (ovI o) 0 (entL [.inl v0, .inl v1, .inl v2]) [] s := by
  intro v0 v1 v2 s o h
  rw [f_M_both_eq] at h
  exact evC (chs := c_M_both) (cuts := cu_M_both) (G := fun pc ls st σ => none) hX.2.1 hX.2.2 (F := F_M_both _) (fs_M_both hX _) (rt_I rfl) oc_M_both (by
    intro pc ls st σ o h
    cases h) 212 0 _ _ _ _ h
theorem ok_M_both {X : CXT} (hX : XM X) : SemOK X 1 281 sm_M_both := by
  intro O av σ K o h
  unfold sm_M_both at h
  split at h
  · obtain ⟨r, hf, h⟩ := Option.bind_eq_some_iff.mp h
    exact ⟨ovI r, fun ht => sp_of hX.1 (by decide) (List.mem_range.mpr (by decide)) (by decide +kernel) ht (Nat.le_of_ble_eq_true rfl) (s_M_both hX _ _ _ _ _ hf), trivial, h⟩
  · cases h
noncomputable def f_M_comesTo_6 : Nat → Nat → Int32 → Int32 → Int32 → Int32 → Mem → Option (Int32 × Mem)
  | 0, _, _, _, _, _, _ => none
  | n + 1, k0, v1, v3, v4, v5, s =>
    cif (v3 ≤ v5) (
      gd (inb ((0 : Int32)) (lenM (k0 + 9))) <|
      some (rI s (k0 + 9) (ix ((0 : Int32))), s)) (
      gd (inb ((((1030 : Int32)) + (((820 : Int32)) * v1)) + (((2 : Int32)) * v5)) (lenM (k0 + 1))) <|
      let x1 : Int32 := rI s (k0 + 1) (ix ((((1030 : Int32)) + (((820 : Int32)) * v1)) + (((2 : Int32)) * v5)))
      gd (inb (((((1030 : Int32)) + (((820 : Int32)) * v1)) + (((2 : Int32)) * v5)) + ((1 : Int32))) (lenM (k0 + 1))) <|
      let x2 : Int32 := rI s (k0 + 1) (ix (((((1030 : Int32)) + (((820 : Int32)) * v1)) + (((2 : Int32)) * v5)) + ((1 : Int32))))
      cif (((23 : Int32)) ≤ x1) (
        cif (x1 = ((26 : Int32))) (
          gd (inb (v4 - ((1 : Int32))) (lenM (k0 + 9))) <|
          if x2 = 0 then none else
          gd (inb (v4 - ((1 : Int32))) (lenM (k0 + 9))) <|
          let s3 : Mem := wI s (k0 + 9) (ix (v4 - ((1 : Int32)))) ((rI s (k0 + 9) (ix (v4 - ((1 : Int32))))) / x2)
          f_M_comesTo_6 n k0 v1 v3 v4 (v5 + (1 : Int32)) s3) (
          cif (x1 = ((30 : Int32))) (
            gd (inb (v4 - ((1 : Int32))) (lenM (k0 + 9))) <|
            gd (inb (v4 - ((1 : Int32))) (lenM (k0 + 9))) <|
            let s4 : Mem := wI s (k0 + 9) (ix (v4 - ((1 : Int32)))) (((1 : Int32)) - (rI s (k0 + 9) (ix (v4 - ((1 : Int32))))))
            f_M_comesTo_6 n k0 v1 v3 v4 (v5 + (1 : Int32)) s4) (
            gd (inb ((v4 - (1 : Int32)) - ((1 : Int32))) (lenM (k0 + 9))) <|
            gd (inb (v4 - (1 : Int32)) (lenM (k0 + 9))) <|
            (f_M_both x1 (rI s (k0 + 9) (ix ((v4 - (1 : Int32)) - ((1 : Int32))))) (rI s (k0 + 9) (ix (v4 - (1 : Int32)))) s).bind fun r5 =>
            gd (inb ((v4 - (1 : Int32)) - ((1 : Int32))) (lenM (k0 + 9))) <|
            let s6 : Mem := wI r5.2 (k0 + 9) (ix ((v4 - (1 : Int32)) - ((1 : Int32)))) r5.1
            f_M_comesTo_6 n k0 v1 v3 (v4 - (1 : Int32)) (v5 + (1 : Int32)) s6))) (
        cif (x1 = 0) (
          gd (inb v4 (lenM (k0 + 9))) <|
          let s7 : Mem := wI s (k0 + 9) (ix v4) x2
          f_M_comesTo_6 n k0 v1 v3 (v4 + (1 : Int32)) (v5 + (1 : Int32)) s7) (
          gd (inb x1 (lenM (k0 + 10))) <|
          gd (inb v4 (lenM (k0 + 9))) <|
          let s8 : Mem := wI s (k0 + 9) (ix v4) (rI s (k0 + 10) (ix x1))
          f_M_comesTo_6 n k0 v1 v3 (v4 + (1 : Int32)) (v5 + (1 : Int32)) s8)))
noncomputable def b_M_comesTo (k0 : Nat) (v1 : Int32) (v2 : Int32) (v3 : Int32) (s : Mem) : Option (Int32 × Mem) :=
  f_M_comesTo_6 FU k0 v1 v3 ((0 : Int32)) v2 s
noncomputable def f_M_comesTo : Nat → Int32 → Int32 → Int32 → Mem → Option (Int32 × Mem) := Classical.choose (⟨b_M_comesTo, rfl⟩ : ∃ f : Nat → Int32 → Int32 → Int32 → Mem → Option (Int32 × Mem), f = b_M_comesTo)
theorem f_M_comesTo_eq : f_M_comesTo = b_M_comesTo := Classical.choose_spec (⟨b_M_comesTo, rfl⟩ : ∃ f : Nat → Int32 → Int32 → Int32 → Mem → Option (Int32 × Mem), f = b_M_comesTo)
noncomputable def sm_M_comesTo (O : Type) (av : List AV) (σ : Mem) (K : AV → Mem → Option O) : Option O := match av with
  | [.inr (.inr (12, k0)), .inl v1, .inl v2, .inl v3] => (f_M_comesTo k0 v1 v2 v3 σ).bind fun r => K (.inl r.1) r.2
  | _ => none
def c_M_comesTo : List (List CE) := [[(0, .iconst 0, 1, 0, 0, 0), (1, .istore 4, 2, 0, 0, 0), (3, .iload_n 2, 1, 0, 0, 0), (4, .istore 5, 2, 0, 0, 0), (6, .iload 5, 2, 0, 0, 0), (8, .iload_n 3, 1, 0, 0, 0), (9, .if_icmp .ge 177, 3, 186, 0, 0), (12, .aload_n 0, 1, 0, 0, 0), (13, .getfield 7, 3, 12, 0, 0)], [(16, .sipush 1030, 3, 1030, 0, 0), (19, .sipush 820, 3, 820, 0, 0), (22, .iload_n 1, 1, 0, 0, 0), (23, .imul, 1, 0, 0, 0), (24, .iadd, 1, 0, 0, 0), (25, .iconst 2, 1, 2, 0, 0), (26, .iload 5, 2, 0, 0, 0), (28, .imul, 1, 0, 0, 0), (29, .iadd, 1, 0, 0, 0), (30, .iaload, 1, 0, 0, 0), (31, .istore 6, 2, 0, 0, 0)], [(33, .aload_n 0, 1, 0, 0, 0), (34, .getfield 7, 3, 12, 0, 0), (37, .sipush 1030, 3, 1030, 0, 0), (40, .sipush 820, 3, 820, 0, 0), (43, .iload_n 1, 1, 0, 0, 0), (44, .imul, 1, 0, 0, 0), (45, .iadd, 1, 0, 0, 0), (46, .iconst 2, 1, 2, 0, 0), (47, .iload 5, 2, 0, 0, 0)], [(49, .imul, 1, 0, 0, 0), (50, .iadd, 1, 0, 0, 0), (51, .iconst 1, 1, 1, 0, 0), (52, .iadd, 1, 0, 0, 0), (53, .iaload, 1, 0, 0, 0), (54, .istore 7, 2, 0, 0, 0), (56, .iload 6, 2, 0, 0, 0), (58, .bipush 23, 2, 23, 0, 0), (60, .if_icmp .ge 33, 3, 93, 0, 0), (63, .aload_n 0, 1, 0, 0, 0)], [(64, .getfield 34, 3, 12, 10, 0), (67, .iload 4, 2, 0, 0, 0), (69, .iload 6, 2, 0, 0, 0), (71, .ifCond .ne 8, 3, 79, 0, 0), (74, .iload 7, 2, 0, 0, 0), (76, .goto 10, 3, 86, 0, 0), (79, .aload_n 0, 1, 0, 0, 0)], [(80, .getfield 37, 3, 12, 11, 0), (83, .iload 6, 2, 0, 0, 0), (85, .iaload, 1, 0, 0, 0), (86, .iastore, 1, 0, 0, 0), (87, .iinc 4 1, 3, 1, 0, 0), (90, .goto 90, 3, 180, 0, 0), (93, .iload 6, 2, 0, 0, 0), (95, .bipush 26, 2, 26, 0, 0)], [(97, .if_icmp .ne 20, 3, 117, 0, 0), (100, .aload_n 0, 1, 0, 0, 0), (101, .getfield 34, 3, 12, 10, 0), (104, .iload 4, 2, 0, 0, 0), (106, .iconst 1, 1, 1, 0, 0), (107, .isub, 1, 0, 0, 0), (108, .dup2, 1, 0, 0, 0), (109, .iaload, 1, 0, 0, 0), (110, .iload 7, 2, 0, 0, 0)], [(112, .idiv, 1, 0, 0, 0), (113, .iastore, 1, 0, 0, 0), (114, .goto 66, 3, 180, 0, 0), (117, .iload 6, 2, 0, 0, 0), (119, .bipush 30, 2, 30, 0, 0), (121, .if_icmp .ne 26, 3, 147, 0, 0), (124, .aload_n 0, 1, 0, 0, 0), (125, .getfield 34, 3, 12, 10, 0)], [(128, .iload 4, 2, 0, 0, 0), (130, .iconst 1, 1, 1, 0, 0), (131, .isub, 1, 0, 0, 0), (132, .iconst 1, 1, 1, 0, 0), (133, .aload_n 0, 1, 0, 0, 0), (134, .getfield 34, 3, 12, 10, 0), (137, .iload 4, 2, 0, 0, 0), (139, .iconst 1, 1, 1, 0, 0), (140, .isub, 1, 0, 0, 0), (141, .iaload, 1, 0, 0, 0), (142, .isub, 1, 0, 0, 0), (143, .iastore, 1, 0, 0, 0)], [(144, .goto 36, 3, 180, 0, 0), (147, .iinc 4 (-1), 3, 1, 0, 1), (150, .aload_n 0, 1, 0, 0, 0), (151, .getfield 34, 3, 12, 10, 0), (154, .iload 4, 2, 0, 0, 0), (156, .iconst 1, 1, 1, 0, 0), (157, .isub, 1, 0, 0, 0), (158, .iload 6, 2, 0, 0, 0)], [(160, .aload_n 0, 1, 0, 0, 0), (161, .getfield 34, 3, 12, 10, 0), (164, .iload 4, 2, 0, 0, 0), (166, .iconst 1, 1, 1, 0, 0), (167, .isub, 1, 0, 0, 0), (168, .iaload, 1, 0, 0, 0), (169, .aload_n 0, 1, 0, 0, 0), (170, .getfield 34, 3, 12, 10, 0), (173, .iload 4, 2, 0, 0, 0), (175, .iaload, 1, 0, 0, 0)], [(176, .invokestatic 281, 3, 281, 3, 1), (179, .iastore, 1, 0, 0, 0), (180, .iinc 5 1, 3, 1, 0, 0), (183, .goto (-177), 3, 6, 0, 0), (186, .aload_n 0, 1, 0, 0, 0), (187, .getfield 34, 3, 12, 10, 0), (190, .iconst 0, 1, 0, 0, 0), (191, .iaload, 1, 0, 0, 0)], [(192, .ireturn, 1, 0, 0, 0)]]
set_option maxRecDepth 100000 in
theorem oc_M_comesTo : okC 280 c_M_comesTo = true := by decide +kernel
def cu_M_comesTo : List (Nat × List Bool) := [(6, [true, true, false, true, true, true])]
noncomputable def F_M_comesTo (O : Type) (a : Nat) (av : List AV) (σ : Mem) (K : AV → Mem → Option O) : Option O := if a = 281 then sm_M_both O av σ K else none
theorem fs_M_comesTo {X : CXT} (hX : XM X) (O : Type) : FS X 2 (F_M_comesTo O) := by
  intro a av σ K o h
  unfold F_M_comesTo at h
  rcases ite_s h with ⟨rfl, h⟩ | ⟨_, h⟩
  · obtain ⟨r, h1, h2, h3⟩ := ok_M_both hX _ _ _ _ _ h
    exact ⟨r, fun ht => ⟨1, by decide, h1 ht⟩, h2, h3⟩
  cases h
def hd_M_comesTo_6 {O : Type} (g : Nat → Int32 → Int32 → Int32 → Int32 → Mem → Option O) (ls : OL) (st : List AV) (σ : Mem) : Option O := match ls, st with
  | [some (.inr (.inr (12, k0))), some (.inl v1), none, some (.inl v3), some (.inl v4), some (.inl v5)], [] => g k0 v1 v3 v4 v5 σ
  | _, _ => none
theorem hs_M_comesTo_6 {X : CXT} {g : Nat → Int32 → Int32 → Int32 → Int32 → Mem → Option (Int32 × Mem)} (hg : ∀ (k0 : Nat) (v1 : Int32) (v3 : Int32) (v4 : Int32) (v5 : Int32) (s : Mem) (o : Int32 × Mem), g k0 v1 v3 v4 v5 s = some o → BSnd X 2 280 (ovI o) 6 [some (.inr (.inr (12, k0))), some (.inl v1), none, some (.inl v3), some (.inl v4), some (.inl v5)] [] s) : ∀ ls st σ o, hd_M_comesTo_6 g ls st σ = some o → BSnd X 2 280 (ovI o) 6 ls st σ := by
  intro ls st σ o h
  unfold hd_M_comesTo_6 at h
  split at h
  · exact hg _ _ _ _ _ _ _ h
  · cases h
set_option maxRecDepth 100000 in
theorem s_M_comesTo_6 {X : CXT} (hX : XM X) : ∀ n : Nat, ∀ (k0 : Nat) (v1 : Int32) (v3 : Int32) (v4 : Int32) (v5 : Int32) (s : Mem) (o : Int32 × Mem), f_M_comesTo_6 n k0 v1 v3 v4 v5 s = some o → BSnd X 2 280 (ovI o) 6 [some (.inr (.inr (12, k0))), some (.inl v1), none, some (.inl v3), some (.inl v4), some (.inl v5)] [] s := by
  intro n
  induction n with
  | zero => intro k0 v1 v3 v4 v5 s o h; cases h
  | succ n ih =>
    intro k0 v1 v3 v4 v5 s o h
    exact evC (chs := c_M_comesTo) (cuts := cu_M_comesTo) (G := fun pc ls st σ => if pc = 6 then hd_M_comesTo_6 (fun k0 v1 v3 v4 v5 s => f_M_comesTo_6 n k0 v1 v3 v4 v5 s) ls st σ else none) hX.2.1 hX.2.2 (F := F_M_comesTo _) (fs_M_comesTo hX _) (rt_I rfl) oc_M_comesTo (by
    intro pc ls st σ o h
    rcases ite_s h with ⟨rfl, h⟩ | ⟨_, h⟩
    · exact hs_M_comesTo_6 ih _ _ _ _ h
    cases h) 480 6 _ _ _ _ h
set_option maxRecDepth 100000 in
theorem s_M_comesTo {X : CXT} (hX : XM X) : ∀ (k0 : Nat) (v1 : Int32) (v2 : Int32) (v3 : Int32) (s : Mem) (o : Int32 × Mem), f_M_comesTo k0 v1 v2 v3 s = some o → BSnd X 2 280 (ovI o) 0 (entL [.inr (.inr (12, k0)), .inl v1, .inl v2, .inl v3]) [] s := by
  intro k0 v1 v2 v3 s o h
  rw [f_M_comesTo_eq] at h
  exact evC (chs := c_M_comesTo) (cuts := cu_M_comesTo) (G := fun pc ls st σ => if pc = 6 then hd_M_comesTo_6 (fun k0 v1 v3 v4 v5 s => f_M_comesTo_6 FU k0 v1 v3 v4 v5 s) ls st σ else none) hX.2.1 hX.2.2 (F := F_M_comesTo _) (fs_M_comesTo hX _) (rt_I rfl) oc_M_comesTo (by
    intro pc ls st σ o h
    rcases ite_s h with ⟨rfl, h⟩ | ⟨_, h⟩
    · exact hs_M_comesTo_6 (s_M_comesTo_6 hX FU) _ _ _ _ h
    cases h) 480 0 _ _ _ _ h
theorem ok_M_comesTo {X : CXT} (hX : XM X) : SemOK X 2 280 sm_M_comesTo := by
  intro O av σ K o h
  unfold sm_M_comesTo at h
  split at h
  · obtain ⟨r, hf, h⟩ := Option.bind_eq_some_iff.mp h
    exact ⟨ovI r, fun ht => sp_of hX.1 (by decide) (List.mem_range.mpr (by decide)) (by decide +kernel) ht (Nat.le_of_ble_eq_true rfl) (s_M_comesTo hX _ _ _ _ _ _ hf), trivial, h⟩
  · cases h
noncomputable def b_M_isSo (k0 : Nat) (v1 : Int32) (s : Mem) : Option (Bool × Mem) :=
  gd (inb (((998 : Int32)) + v1) (lenM (k0 + 1))) <|
  gd (inb (((982 : Int32)) + v1) (lenM (k0 + 1))) <|
  cif ((rI s (k0 + 1) (ix (((998 : Int32)) + v1))) = (rI s (k0 + 1) (ix (((982 : Int32)) + v1)))) (
    some (true, s)) (
    gd (inb (((982 : Int32)) + v1) (lenM (k0 + 1))) <|
    gd (inb (((998 : Int32)) + v1) (lenM (k0 + 1))) <|
    (f_M_comesTo k0 ((0 : Int32)) (rI s (k0 + 1) (ix (((982 : Int32)) + v1))) (rI s (k0 + 1) (ix (((998 : Int32)) + v1))) s).bind fun r1 =>
    cif (r1.1 = ((1 : Int32))) (
      some (true, r1.2)) (
      some (false, r1.2)))
noncomputable def f_M_isSo : Nat → Int32 → Mem → Option (Bool × Mem) := Classical.choose (⟨b_M_isSo, rfl⟩ : ∃ f : Nat → Int32 → Mem → Option (Bool × Mem), f = b_M_isSo)
theorem f_M_isSo_eq : f_M_isSo = b_M_isSo := Classical.choose_spec (⟨b_M_isSo, rfl⟩ : ∃ f : Nat → Int32 → Mem → Option (Bool × Mem), f = b_M_isSo)
noncomputable def sm_M_isSo (O : Type) (av : List AV) (σ : Mem) (K : AV → Mem → Option O) : Option O := match av with
  | [.inr (.inr (12, k0)), .inl v1] => (f_M_isSo k0 v1 σ).bind fun r => K (.inl (b2i r.1)) r.2
  | _ => none
def c_M_isSo : List (List CE) := [[(0, .aload_n 0, 1, 0, 0, 0), (1, .getfield 7, 3, 12, 0, 0), (4, .sipush 998, 3, 998, 0, 0), (7, .iload_n 1, 1, 0, 0, 0), (8, .iadd, 1, 0, 0, 0), (9, .iaload, 1, 0, 0, 0), (10, .aload_n 0, 1, 0, 0, 0), (11, .getfield 7, 3, 12, 0, 0), (14, .sipush 982, 3, 982, 0, 0)], [(17, .iload_n 1, 1, 0, 0, 0), (18, .iadd, 1, 0, 0, 0), (19, .iaload, 1, 0, 0, 0), (20, .if_icmp .eq 32, 3, 52, 0, 0), (23, .aload_n 0, 1, 0, 0, 0), (24, .iconst 0, 1, 0, 0, 0), (25, .aload_n 0, 1, 0, 0, 0), (26, .getfield 7, 3, 12, 0, 0), (29, .sipush 982, 3, 982, 0, 0)], [(32, .iload_n 1, 1, 0, 0, 0), (33, .iadd, 1, 0, 0, 0), (34, .iaload, 1, 0, 0, 0), (35, .aload_n 0, 1, 0, 0, 0), (36, .getfield 7, 3, 12, 0, 0), (39, .sipush 998, 3, 998, 0, 0), (42, .iload_n 1, 1, 0, 0, 0), (43, .iadd, 1, 0, 0, 0), (44, .iaload, 1, 0, 0, 0), (45, .invokevirtual 284, 3, 280, 4, 25)], [(48, .iconst 1, 1, 1, 0, 0), (49, .if_icmp .ne 7, 3, 56, 0, 0), (52, .iconst 1, 1, 1, 0, 0), (53, .goto 4, 3, 57, 0, 0), (56, .iconst 0, 1, 0, 0, 0), (57, .ireturn, 1, 0, 0, 0)]]
set_option maxRecDepth 100000 in
theorem oc_M_isSo : okC 279 c_M_isSo = true := by decide +kernel
def cu_M_isSo : List (Nat × List Bool) := []
noncomputable def F_M_isSo (O : Type) (a : Nat) (av : List AV) (σ : Mem) (K : AV → Mem → Option O) : Option O := if a = 280 then sm_M_comesTo O av σ K else none
theorem fs_M_isSo {X : CXT} (hX : XM X) (O : Type) : FS X 3 (F_M_isSo O) := by
  intro a av σ K o h
  unfold F_M_isSo at h
  rcases ite_s h with ⟨rfl, h⟩ | ⟨_, h⟩
  · obtain ⟨r, h1, h2, h3⟩ := ok_M_comesTo hX _ _ _ _ _ h
    exact ⟨r, fun ht => ⟨2, by decide, h1 ht⟩, h2, h3⟩
  cases h
set_option maxRecDepth 100000 in
theorem s_M_isSo {X : CXT} (hX : XM X) : ∀ (k0 : Nat) (v1 : Int32) (s : Mem) (o : Bool × Mem), f_M_isSo k0 v1 s = some o → BSnd X 3 279 (ovZ o) 0 (entL [.inr (.inr (12, k0)), .inl v1]) [] s := by
  intro k0 v1 s o h
  rw [f_M_isSo_eq] at h
  exact evC (chs := c_M_isSo) (cuts := cu_M_isSo) (G := fun pc ls st σ => none) hX.2.1 hX.2.2 (F := F_M_isSo _) (fs_M_isSo hX _) (rt_Z rfl) oc_M_isSo (by
    intro pc ls st σ o h
    cases h) 176 0 _ _ _ _ h
theorem ok_M_isSo {X : CXT} (hX : XM X) : SemOK X 3 279 sm_M_isSo := by
  intro O av σ K o h
  unfold sm_M_isSo at h
  split at h
  · obtain ⟨r, hf, h⟩ := Option.bind_eq_some_iff.mp h
    exact ⟨ovZ r, fun ht => sp_of hX.1 (by decide) (List.mem_range.mpr (by decide)) (by decide +kernel) ht (Nat.le_of_ble_eq_true rfl) (s_M_isSo hX _ _ _ _ hf), trivial, h⟩
  · cases h
noncomputable def b_M_lesser (v0 : Int32) (v1 : Int32) (s : Mem) : Option (Int32 × Mem) :=
  cif (v1 ≤ v0) (
    some (v1, s)) (
    some (v0, s))
noncomputable def f_M_lesser : Int32 → Int32 → Mem → Option (Int32 × Mem) := Classical.choose (⟨b_M_lesser, rfl⟩ : ∃ f : Int32 → Int32 → Mem → Option (Int32 × Mem), f = b_M_lesser)
theorem f_M_lesser_eq : f_M_lesser = b_M_lesser := Classical.choose_spec (⟨b_M_lesser, rfl⟩ : ∃ f : Int32 → Int32 → Mem → Option (Int32 × Mem), f = b_M_lesser)
noncomputable def sm_M_lesser (O : Type) (av : List AV) (σ : Mem) (K : AV → Mem → Option O) : Option O := match av with
  | [.inl v0, .inl v1] => (f_M_lesser v0 v1 σ).bind fun r => K (.inl r.1) r.2
  | _ => none
def c_M_lesser : List (List CE) := [[(0, .iload_n 0, 1, 0, 0, 0), (1, .iload_n 1, 1, 0, 0, 0), (2, .if_icmp .ge 7, 3, 9, 0, 0), (5, .iload_n 0, 1, 0, 0, 0), (6, .goto 4, 3, 10, 0, 0), (9, .iload_n 1, 1, 0, 0, 0), (10, .ireturn, 1, 0, 0, 0)]]
set_option maxRecDepth 100000 in
theorem oc_M_lesser : okC 282 c_M_lesser = true := by decide +kernel
def cu_M_lesser : List (Nat × List Bool) := []
noncomputable def F_M_lesser (O : Type) (a : Nat) (av : List AV) (σ : Mem) (K : AV → Mem → Option O) : Option O := none
theorem fs_M_lesser {X : CXT} (hX : XM X) (O : Type) : FS X 1 (F_M_lesser O) := by
  intro a av σ K o h
  cases h
set_option maxRecDepth 100000 in
theorem s_M_lesser {X : CXT} (hX : XM X) : ∀ (v0 : Int32) (v1 : Int32) (s : Mem) (o : Int32 × Mem), f_M_lesser v0 v1 s = some o → BSnd X 1 282 (ovI o) 0 (entL [.inl v0, .inl v1]) [] s := by
  intro v0 v1 s o h
  rw [f_M_lesser_eq] at h
  exact evC (chs := c_M_lesser) (cuts := cu_M_lesser) (G := fun pc ls st σ => none) hX.2.1 hX.2.2 (F := F_M_lesser _) (fs_M_lesser hX _) (rt_I rfl) oc_M_lesser (by
    intro pc ls st σ o h
    cases h) 68 0 _ _ _ _ h
theorem ok_M_lesser {X : CXT} (hX : XM X) : SemOK X 1 282 sm_M_lesser := by
  intro O av σ K o h
  unfold sm_M_lesser at h
  split at h
  · obtain ⟨r, hf, h⟩ := Option.bind_eq_some_iff.mp h
    exact ⟨ovI r, fun ht => sp_of hX.1 (by decide) (List.mem_range.mpr (by decide)) (by decide +kernel) ht (Nat.le_of_ble_eq_true rfl) (s_M_lesser hX _ _ _ _ hf), trivial, h⟩
  · cases h
noncomputable def b_M_greater (v0 : Int32) (v1 : Int32) (s : Mem) : Option (Int32 × Mem) :=
  cif (v0 ≤ v1) (
    some (v1, s)) (
    some (v0, s))
noncomputable def f_M_greater : Int32 → Int32 → Mem → Option (Int32 × Mem) := Classical.choose (⟨b_M_greater, rfl⟩ : ∃ f : Int32 → Int32 → Mem → Option (Int32 × Mem), f = b_M_greater)
theorem f_M_greater_eq : f_M_greater = b_M_greater := Classical.choose_spec (⟨b_M_greater, rfl⟩ : ∃ f : Int32 → Int32 → Mem → Option (Int32 × Mem), f = b_M_greater)
noncomputable def sm_M_greater (O : Type) (av : List AV) (σ : Mem) (K : AV → Mem → Option O) : Option O := match av with
  | [.inl v0, .inl v1] => (f_M_greater v0 v1 σ).bind fun r => K (.inl r.1) r.2
  | _ => none
def c_M_greater : List (List CE) := [[(0, .iload_n 0, 1, 0, 0, 0), (1, .iload_n 1, 1, 0, 0, 0), (2, .if_icmp .le 7, 3, 9, 0, 0), (5, .iload_n 0, 1, 0, 0, 0), (6, .goto 4, 3, 10, 0, 0), (9, .iload_n 1, 1, 0, 0, 0), (10, .ireturn, 1, 0, 0, 0)]]
set_option maxRecDepth 100000 in
theorem oc_M_greater : okC 283 c_M_greater = true := by decide +kernel
def cu_M_greater : List (Nat × List Bool) := []
noncomputable def F_M_greater (O : Type) (a : Nat) (av : List AV) (σ : Mem) (K : AV → Mem → Option O) : Option O := none
theorem fs_M_greater {X : CXT} (hX : XM X) (O : Type) : FS X 1 (F_M_greater O) := by
  intro a av σ K o h
  cases h
set_option maxRecDepth 100000 in
theorem s_M_greater {X : CXT} (hX : XM X) : ∀ (v0 : Int32) (v1 : Int32) (s : Mem) (o : Int32 × Mem), f_M_greater v0 v1 s = some o → BSnd X 1 283 (ovI o) 0 (entL [.inl v0, .inl v1]) [] s := by
  intro v0 v1 s o h
  rw [f_M_greater_eq] at h
  exact evC (chs := c_M_greater) (cuts := cu_M_greater) (G := fun pc ls st σ => none) hX.2.1 hX.2.2 (F := F_M_greater _) (fs_M_greater hX _) (rt_I rfl) oc_M_greater (by
    intro pc ls st σ o h
    cases h) 68 0 _ _ _ _ h
theorem ok_M_greater {X : CXT} (hX : XM X) : SemOK X 1 283 sm_M_greater := by
  intro O av σ K o h
  unfold sm_M_greater at h
  split at h
  · obtain ⟨r, hf, h⟩ := Option.bind_eq_some_iff.mp h
    exact ⟨ovI r, fun ht => sp_of hX.1 (by decide) (List.mem_range.mpr (by decide)) (by decide +kernel) ht (Nat.le_of_ble_eq_true rfl) (s_M_greater hX _ _ _ _ hf), trivial, h⟩
  · cases h
noncomputable def f_M_says_32 (K74 : Nat → Int32 → Int32 → Int32 → Mem → Option (Int32 × Mem)) : Nat → Nat → Int32 → Int32 → Int32 → Int32 → Mem → Option (Int32 × Mem)
  | 0, _, _, _, _, _, _ => none
  | n + 1, k0, v1, v3, v4, v5, s =>
    gd (inb ((52 : Int32)) (lenM (k0 + 1))) <|
    cif ((rI s (k0 + 1) (ix ((52 : Int32)))) ≤ v5) (
      K74 k0 v3 v4 v5 s) (
      gd (inb (((1014 : Int32)) + v5) (lenM (k0 + 1))) <|
      cif ((rI s (k0 + 1) (ix (((1014 : Int32)) + v5))) = v1) (
        (f_M_isSo k0 v5 s).bind fun r1 =>
        cif ((b2i r1.1) = 0) (
          f_M_says_32 K74 n k0 v1 v3 v4 (v5 + (1 : Int32)) r1.2) (
          K74 k0 v3 v4 v5 r1.2)) (
        f_M_says_32 K74 n k0 v1 v3 v4 (v5 + (1 : Int32)) s))
noncomputable def f_M_says_74 (k0 : Nat) (v3 : Int32) (v4 : Int32) (v5 : Int32) (s : Mem) : Option (Int32 × Mem) :=
  gd (inb ((52 : Int32)) (lenM (k0 + 1))) <|
  cif ((rI s (k0 + 1) (ix ((52 : Int32)))) ≤ v5) (
    (f_M_lesser v3 v4 s).bind fun r1 =>
    (f_M_greater ((0 : Int32)) r1.1 r1.2).bind fun r2 =>
    some (r2.1, r2.2)) (
    gd (inb (((966 : Int32)) + v5) (lenM (k0 + 1))) <|
    gd (inb (((982 : Int32)) + v5) (lenM (k0 + 1))) <|
    (f_M_comesTo k0 ((0 : Int32)) (rI s (k0 + 1) (ix (((966 : Int32)) + v5))) (rI s (k0 + 1) (ix (((982 : Int32)) + v5))) s).bind fun r3 =>
    (f_M_lesser v3 r3.1 r3.2).bind fun r4 =>
    (f_M_greater ((0 : Int32)) r4.1 r4.2).bind fun r5 =>
    some (r5.1, r5.2))
noncomputable def b_M_says (k0 : Nat) (v1 : Int32) (v2 : Int32) (v3 : Int32) (s : Mem) : Option (Int32 × Mem) :=
  gd (inb ((0 : Int32)) (lenM (k0 + 1))) <|
  gd (inb ((3 : Int32)) (lenM (k0 + 10))) <|
  let s1 : Mem := wI s (k0 + 10) (ix ((3 : Int32))) (rI s (k0 + 1) (ix ((0 : Int32))))
  gd (inb ((50 : Int32)) (lenM (k0 + 1))) <|
  gd (inb ((8 : Int32)) (lenM (k0 + 10))) <|
  let s2 : Mem := wI s1 (k0 + 10) (ix ((8 : Int32))) (rI s1 (k0 + 1) (ix ((50 : Int32))))
  f_M_says_32 (fun k0 v3 v4 v5 s => f_M_says_74 k0 v3 v4 v5 s) FU k0 v1 v3 v2 ((0 : Int32)) s2
noncomputable def f_M_says : Nat → Int32 → Int32 → Int32 → Mem → Option (Int32 × Mem) := Classical.choose (⟨b_M_says, rfl⟩ : ∃ f : Nat → Int32 → Int32 → Int32 → Mem → Option (Int32 × Mem), f = b_M_says)
theorem f_M_says_eq : f_M_says = b_M_says := Classical.choose_spec (⟨b_M_says, rfl⟩ : ∃ f : Nat → Int32 → Int32 → Int32 → Mem → Option (Int32 × Mem), f = b_M_says)
noncomputable def sm_M_says (O : Type) (av : List AV) (σ : Mem) (K : AV → Mem → Option O) : Option O := match av with
  | [.inr (.inr (12, k0)), .inl v1, .inl v2, .inl v3] => (f_M_says k0 v1 v2 v3 σ).bind fun r => K (.inl r.1) r.2
  | _ => none
def c_M_says : List (List CE) := [[(0, .aload_n 0, 1, 0, 0, 0), (1, .getfield 37, 3, 12, 11, 0), (4, .iconst 3, 1, 3, 0, 0), (5, .aload_n 0, 1, 0, 0, 0), (6, .getfield 7, 3, 12, 0, 0), (9, .iconst 0, 1, 0, 0, 0), (10, .iaload, 1, 0, 0, 0), (11, .iastore, 1, 0, 0, 0), (12, .aload_n 0, 1, 0, 0, 0), (13, .getfield 37, 3, 12, 11, 0)], [(16, .bipush 8, 2, 8, 0, 0), (18, .aload_n 0, 1, 0, 0, 0), (19, .getfield 7, 3, 12, 0, 0), (22, .bipush 50, 2, 50, 0, 0), (24, .iaload, 1, 0, 0, 0), (25, .iastore, 1, 0, 0, 0), (26, .iload_n 2, 1, 0, 0, 0), (27, .istore 4, 2, 0, 0, 0), (29, .iconst 0, 1, 0, 0, 0), (30, .istore 5, 2, 0, 0, 0)], [(32, .iload 5, 2, 0, 0, 0), (34, .aload_n 0, 1, 0, 0, 0), (35, .getfield 7, 3, 12, 0, 0), (38, .bipush 52, 2, 52, 0, 0), (40, .iaload, 1, 0, 0, 0), (41, .if_icmp .ge 33, 3, 74, 0, 0), (44, .aload_n 0, 1, 0, 0, 0), (45, .getfield 7, 3, 12, 0, 0)], [(48, .sipush 1014, 3, 1014, 0, 0), (51, .iload 5, 2, 0, 0, 0), (53, .iadd, 1, 0, 0, 0), (54, .iaload, 1, 0, 0, 0), (55, .iload_n 1, 1, 0, 0, 0), (56, .if_icmp .ne 12, 3, 68, 0, 0), (59, .aload_n 0, 1, 0, 0, 0), (60, .iload 5, 2, 0, 0, 0), (62, .invokevirtual 287, 3, 279, 2, 25)], [(65, .ifCond .ne 9, 3, 74, 0, 0), (68, .iinc 5 1, 3, 1, 0, 0), (71, .goto (-39), 3, 32, 0, 0), (74, .iload 5, 2, 0, 0, 0), (76, .aload_n 0, 1, 0, 0, 0), (77, .getfield 7, 3, 12, 0, 0)], [(80, .bipush 52, 2, 52, 0, 0), (82, .iaload, 1, 0, 0, 0), (83, .if_icmp .ge 32, 3, 115, 0, 0), (86, .aload_n 0, 1, 0, 0, 0), (87, .iconst 0, 1, 0, 0, 0), (88, .aload_n 0, 1, 0, 0, 0), (89, .getfield 7, 3, 12, 0, 0), (92, .sipush 966, 3, 966, 0, 0), (95, .iload 5, 2, 0, 0, 0)], [(97, .iadd, 1, 0, 0, 0), (98, .iaload, 1, 0, 0, 0), (99, .aload_n 0, 1, 0, 0, 0), (100, .getfield 7, 3, 12, 0, 0), (103, .sipush 982, 3, 982, 0, 0), (106, .iload 5, 2, 0, 0, 0), (108, .iadd, 1, 0, 0, 0), (109, .iaload, 1, 0, 0, 0), (110, .invokevirtual 284, 3, 280, 4, 25)], [(113, .istore 4, 2, 0, 0, 0), (115, .iconst 0, 1, 0, 0, 0), (116, .iload_n 3, 1, 0, 0, 0), (117, .iload 4, 2, 0, 0, 0), (119, .invokestatic 290, 3, 282, 2, 1), (122, .invokestatic 294, 3, 283, 2, 1), (125, .ireturn, 1, 0, 0, 0)]]
set_option maxRecDepth 100000 in
theorem oc_M_says : okC 278 c_M_says = true := by decide +kernel
def cu_M_says : List (Nat × List Bool) := [(32, [true, true, false, true, true, true]), (74, [true, false, false, true, true, true])]
noncomputable def F_M_says (O : Type) (a : Nat) (av : List AV) (σ : Mem) (K : AV → Mem → Option O) : Option O := if a = 279 then sm_M_isSo O av σ K else if a = 280 then sm_M_comesTo O av σ K else if a = 282 then sm_M_lesser O av σ K else if a = 283 then sm_M_greater O av σ K else none
theorem fs_M_says {X : CXT} (hX : XM X) (O : Type) : FS X 4 (F_M_says O) := by
  intro a av σ K o h
  unfold F_M_says at h
  rcases ite_s h with ⟨rfl, h⟩ | ⟨_, h⟩
  · obtain ⟨r, h1, h2, h3⟩ := ok_M_isSo hX _ _ _ _ _ h
    exact ⟨r, fun ht => ⟨3, by decide, h1 ht⟩, h2, h3⟩
  rcases ite_s h with ⟨rfl, h⟩ | ⟨_, h⟩
  · obtain ⟨r, h1, h2, h3⟩ := ok_M_comesTo hX _ _ _ _ _ h
    exact ⟨r, fun ht => ⟨2, by decide, h1 ht⟩, h2, h3⟩
  rcases ite_s h with ⟨rfl, h⟩ | ⟨_, h⟩
  · obtain ⟨r, h1, h2, h3⟩ := ok_M_lesser hX _ _ _ _ _ h
    exact ⟨r, fun ht => ⟨1, by decide, h1 ht⟩, h2, h3⟩
  rcases ite_s h with ⟨rfl, h⟩ | ⟨_, h⟩
  · obtain ⟨r, h1, h2, h3⟩ := ok_M_greater hX _ _ _ _ _ h
    exact ⟨r, fun ht => ⟨1, by decide, h1 ht⟩, h2, h3⟩
  cases h
def hd_M_says_32 {O : Type} (g : Nat → Int32 → Int32 → Int32 → Int32 → Mem → Option O) (ls : OL) (st : List AV) (σ : Mem) : Option O := match ls, st with
  | [some (.inr (.inr (12, k0))), some (.inl v1), none, some (.inl v3), some (.inl v4), some (.inl v5)], [] => g k0 v1 v3 v4 v5 σ
  | _, _ => none
theorem hs_M_says_32 {X : CXT} {g : Nat → Int32 → Int32 → Int32 → Int32 → Mem → Option (Int32 × Mem)} (hg : ∀ (k0 : Nat) (v1 : Int32) (v3 : Int32) (v4 : Int32) (v5 : Int32) (s : Mem) (o : Int32 × Mem), g k0 v1 v3 v4 v5 s = some o → BSnd X 4 278 (ovI o) 32 [some (.inr (.inr (12, k0))), some (.inl v1), none, some (.inl v3), some (.inl v4), some (.inl v5)] [] s) : ∀ ls st σ o, hd_M_says_32 g ls st σ = some o → BSnd X 4 278 (ovI o) 32 ls st σ := by
  intro ls st σ o h
  unfold hd_M_says_32 at h
  split at h
  · exact hg _ _ _ _ _ _ _ h
  · cases h
def hd_M_says_74 {O : Type} (g : Nat → Int32 → Int32 → Int32 → Mem → Option O) (ls : OL) (st : List AV) (σ : Mem) : Option O := match ls, st with
  | [some (.inr (.inr (12, k0))), none, none, some (.inl v3), some (.inl v4), some (.inl v5)], [] => g k0 v3 v4 v5 σ
  | _, _ => none
theorem hs_M_says_74 {X : CXT} {g : Nat → Int32 → Int32 → Int32 → Mem → Option (Int32 × Mem)} (hg : ∀ (k0 : Nat) (v3 : Int32) (v4 : Int32) (v5 : Int32) (s : Mem) (o : Int32 × Mem), g k0 v3 v4 v5 s = some o → BSnd X 4 278 (ovI o) 74 [some (.inr (.inr (12, k0))), none, none, some (.inl v3), some (.inl v4), some (.inl v5)] [] s) : ∀ ls st σ o, hd_M_says_74 g ls st σ = some o → BSnd X 4 278 (ovI o) 74 ls st σ := by
  intro ls st σ o h
  unfold hd_M_says_74 at h
  split at h
  · exact hg _ _ _ _ _ _ h
  · cases h
set_option maxRecDepth 100000 in
theorem s_M_says_32 {X : CXT} (hX : XM X) {K74 : Nat → Int32 → Int32 → Int32 → Mem → Option (Int32 × Mem)} (hK74 : ∀ (k0 : Nat) (v3 : Int32) (v4 : Int32) (v5 : Int32) (s : Mem) (o : Int32 × Mem), K74 k0 v3 v4 v5 s = some o → BSnd X 4 278 (ovI o) 74 [some (.inr (.inr (12, k0))), none, none, some (.inl v3), some (.inl v4), some (.inl v5)] [] s) : ∀ n : Nat, ∀ (k0 : Nat) (v1 : Int32) (v3 : Int32) (v4 : Int32) (v5 : Int32) (s : Mem) (o : Int32 × Mem), f_M_says_32 K74 n k0 v1 v3 v4 v5 s = some o → BSnd X 4 278 (ovI o) 32 [some (.inr (.inr (12, k0))), some (.inl v1), none, some (.inl v3), some (.inl v4), some (.inl v5)] [] s := by
  intro n
  induction n with
  | zero => intro k0 v1 v3 v4 v5 s o h; cases h
  | succ n ih =>
    intro k0 v1 v3 v4 v5 s o h
    exact evC (chs := c_M_says) (cuts := cu_M_says) (G := fun pc ls st σ => if pc = 32 then hd_M_says_32 (fun k0 v1 v3 v4 v5 s => f_M_says_32 K74 n k0 v1 v3 v4 v5 s) ls st σ else if pc = 74 then hd_M_says_74 (fun k0 v3 v4 v5 s => K74 k0 v3 v4 v5 s) ls st σ else none) hX.2.1 hX.2.2 (F := F_M_says _) (fs_M_says hX _) (rt_I rfl) oc_M_says (by
    intro pc ls st σ o h
    rcases ite_s h with ⟨rfl, h⟩ | ⟨_, h⟩
    · exact hs_M_says_32 ih _ _ _ _ h
    rcases ite_s h with ⟨rfl, h⟩ | ⟨_, h⟩
    · exact hs_M_says_74 hK74 _ _ _ _ h
    cases h) 312 32 _ _ _ _ h
set_option maxRecDepth 100000 in
theorem s_M_says_74 {X : CXT} (hX : XM X) : ∀ (k0 : Nat) (v3 : Int32) (v4 : Int32) (v5 : Int32) (s : Mem) (o : Int32 × Mem), f_M_says_74 k0 v3 v4 v5 s = some o → BSnd X 4 278 (ovI o) 74 [some (.inr (.inr (12, k0))), none, none, some (.inl v3), some (.inl v4), some (.inl v5)] [] s := by
  intro k0 v3 v4 v5 s o h
  exact evC (chs := c_M_says) (cuts := cu_M_says) (G := fun pc ls st σ => none) hX.2.1 hX.2.2 (F := F_M_says _) (fs_M_says hX _) (rt_I rfl) oc_M_says (by
    intro pc ls st σ o h
    cases h) 312 74 _ _ _ _ h
set_option maxRecDepth 100000 in
theorem s_M_says {X : CXT} (hX : XM X) : ∀ (k0 : Nat) (v1 : Int32) (v2 : Int32) (v3 : Int32) (s : Mem) (o : Int32 × Mem), f_M_says k0 v1 v2 v3 s = some o → BSnd X 4 278 (ovI o) 0 (entL [.inr (.inr (12, k0)), .inl v1, .inl v2, .inl v3]) [] s := by
  intro k0 v1 v2 v3 s o h
  rw [f_M_says_eq] at h
  exact evC (chs := c_M_says) (cuts := cu_M_says) (G := fun pc ls st σ => if pc = 32 then hd_M_says_32 (fun k0 v1 v3 v4 v5 s => f_M_says_32 (fun k0 v3 v4 v5 s => f_M_says_74 k0 v3 v4 v5 s) FU k0 v1 v3 v4 v5 s) ls st σ else if pc = 74 then hd_M_says_74 (fun k0 v3 v4 v5 s => f_M_says_74 k0 v3 v4 v5 s) ls st σ else none) hX.2.1 hX.2.2 (F := F_M_says _) (fs_M_says hX _) (rt_I rfl) oc_M_says (by
    intro pc ls st σ o h
    rcases ite_s h with ⟨rfl, h⟩ | ⟨_, h⟩
    · exact hs_M_says_32 (s_M_says_32 hX (s_M_says_74 hX) FU) _ _ _ _ h
    rcases ite_s h with ⟨rfl, h⟩ | ⟨_, h⟩
    · exact hs_M_says_74 (s_M_says_74 hX) _ _ _ _ h
    cases h) 312 0 _ _ _ _ h
theorem ok_M_says {X : CXT} (hX : XM X) : SemOK X 4 278 sm_M_says := by
  intro O av σ K o h
  unfold sm_M_says at h
  split at h
  · obtain ⟨r, hf, h⟩ := Option.bind_eq_some_iff.mp h
    exact ⟨ovI r, fun ht => sp_of hX.1 (by decide) (List.mem_range.mpr (by decide)) (by decide +kernel) ht (Nat.le_of_ble_eq_true rfl) (s_M_says hX _ _ _ _ _ _ hf), trivial, h⟩
  · cases h
noncomputable def b_M_shameOf (k0 : Nat) (v1 : Int32) (v2 : Int32) (s : Mem) : Option (Int32 × Mem) :=
  (f_M_clearsFacts k0 s).bind fun r1 =>
  gd (inb ((1 : Int32)) (lenM (k0 + 10))) <|
  let s2 : Mem := wI r1 (k0 + 10) (ix ((1 : Int32))) v1
  gd (inb ((2 : Int32)) (lenM (k0 + 10))) <|
  let s3 : Mem := wI s2 (k0 + 10) (ix ((2 : Int32))) v2
  gd (inb ((1 : Int32)) (lenM (k0 + 1))) <|
  gd (inb ((9 : Int32)) (lenM (k0 + 10))) <|
  let s4 : Mem := wI s3 (k0 + 10) (ix ((9 : Int32))) (rI s3 (k0 + 1) (ix ((1 : Int32))))
  (f_M_says k0 ((20 : Int32)) ((v2 / ((9 : Int32))) + ((1 : Int32))) ((20 : Int32)) s4).bind fun r5 =>
  some (r5.1, r5.2)
noncomputable def f_M_shameOf : Nat → Int32 → Int32 → Mem → Option (Int32 × Mem) := Classical.choose (⟨b_M_shameOf, rfl⟩ : ∃ f : Nat → Int32 → Int32 → Mem → Option (Int32 × Mem), f = b_M_shameOf)
theorem f_M_shameOf_eq : f_M_shameOf = b_M_shameOf := Classical.choose_spec (⟨b_M_shameOf, rfl⟩ : ∃ f : Nat → Int32 → Int32 → Mem → Option (Int32 × Mem), f = b_M_shameOf)
noncomputable def sm_M_shameOf (O : Type) (av : List AV) (σ : Mem) (K : AV → Mem → Option O) : Option O := match av with
  | [.inr (.inr (12, k0)), .inl v1, .inl v2] => (f_M_shameOf k0 v1 v2 σ).bind fun r => K (.inl r.1) r.2
  | _ => none
def c_M_shameOf : List (List CE) := [[(0, .aload_n 0, 1, 0, 0, 0), (1, .invokevirtual 297, 3, 277, 1, 24), (4, .aload_n 0, 1, 0, 0, 0), (5, .getfield 37, 3, 12, 11, 0), (8, .iconst 1, 1, 1, 0, 0), (9, .iload_n 1, 1, 0, 0, 0), (10, .iastore, 1, 0, 0, 0), (11, .aload_n 0, 1, 0, 0, 0), (12, .getfield 37, 3, 12, 11, 0), (15, .iconst 2, 1, 2, 0, 0)], [(16, .iload_n 2, 1, 0, 0, 0), (17, .iastore, 1, 0, 0, 0), (18, .aload_n 0, 1, 0, 0, 0), (19, .getfield 37, 3, 12, 11, 0), (22, .bipush 9, 2, 9, 0, 0), (24, .aload_n 0, 1, 0, 0, 0), (25, .getfield 7, 3, 12, 0, 0), (28, .iconst 1, 1, 1, 0, 0), (29, .iaload, 1, 0, 0, 0), (30, .iastore, 1, 0, 0, 0), (31, .aload_n 0, 1, 0, 0, 0)], [(32, .bipush 20, 2, 20, 0, 0), (34, .iload_n 2, 1, 0, 0, 0), (35, .bipush 9, 2, 9, 0, 0), (37, .idiv, 1, 0, 0, 0), (38, .iconst 1, 1, 1, 0, 0), (39, .iadd, 1, 0, 0, 0), (40, .bipush 20, 2, 20, 0, 0), (42, .invokevirtual 300, 3, 278, 4, 25), (45, .ireturn, 1, 0, 0, 0)]]
set_option maxRecDepth 100000 in
theorem oc_M_shameOf : okC 276 c_M_shameOf = true := by decide +kernel
def cu_M_shameOf : List (Nat × List Bool) := []
noncomputable def F_M_shameOf (O : Type) (a : Nat) (av : List AV) (σ : Mem) (K : AV → Mem → Option O) : Option O := if a = 277 then sm_M_clearsFacts O av σ K else if a = 278 then sm_M_says O av σ K else none
theorem fs_M_shameOf {X : CXT} (hX : XM X) (O : Type) : FS X 5 (F_M_shameOf O) := by
  intro a av σ K o h
  unfold F_M_shameOf at h
  rcases ite_s h with ⟨rfl, h⟩ | ⟨_, h⟩
  · obtain ⟨r, h1, h2, h3⟩ := ok_M_clearsFacts hX _ _ _ _ _ h
    exact ⟨r, fun ht => ⟨1, by decide, h1 ht⟩, h2, h3⟩
  rcases ite_s h with ⟨rfl, h⟩ | ⟨_, h⟩
  · obtain ⟨r, h1, h2, h3⟩ := ok_M_says hX _ _ _ _ _ h
    exact ⟨r, fun ht => ⟨4, by decide, h1 ht⟩, h2, h3⟩
  cases h
set_option maxRecDepth 100000 in
theorem s_M_shameOf {X : CXT} (hX : XM X) : ∀ (k0 : Nat) (v1 : Int32) (v2 : Int32) (s : Mem) (o : Int32 × Mem), f_M_shameOf k0 v1 v2 s = some o → BSnd X 5 276 (ovI o) 0 (entL [.inr (.inr (12, k0)), .inl v1, .inl v2]) [] s := by
  intro k0 v1 v2 s o h
  rw [f_M_shameOf_eq] at h
  exact evC (chs := c_M_shameOf) (cuts := cu_M_shameOf) (G := fun pc ls st σ => none) hX.2.1 hX.2.2 (F := F_M_shameOf _) (fs_M_shameOf hX _) (rt_I rfl) oc_M_shameOf (by
    intro pc ls st σ o h
    cases h) 160 0 _ _ _ _ h
theorem ok_M_shameOf {X : CXT} (hX : XM X) : SemOK X 5 276 sm_M_shameOf := by
  intro O av σ K o h
  unfold sm_M_shameOf at h
  split at h
  · obtain ⟨r, hf, h⟩ := Option.bind_eq_some_iff.mp h
    exact ⟨ovI r, fun ht => sp_of hX.1 (by decide) (List.mem_range.mpr (by decide)) (by decide +kernel) ht (Nat.le_of_ble_eq_true rfl) (s_M_shameOf hX _ _ _ _ _ hf), trivial, h⟩
  · cases h
noncomputable def b_M_notes (k0 : Nat) (v1 : Int32) (v2 : Int32) (v3 : Int32) (s : Mem) : Option (Mem) :=
  cif ((rI s k0 26) = 0) (
    some s) (
    gd (inb ((5 : Int32)) (lenM (k0 + 1))) <|
    cif ((rI s (k0 + 1) (ix ((5 : Int32)))) = ((150 : Int32))) (
      some s) (
      gd (inb ((5 : Int32)) (lenM (k0 + 1))) <|
      let x1 : Int32 := ((366 : Int32)) + (((4 : Int32)) * (rI s (k0 + 1) (ix ((5 : Int32)))))
      gd (inb ((1 : Int32)) (lenM (k0 + 1))) <|
      gd (inb x1 (lenM (k0 + 1))) <|
      let s2 : Mem := wI s (k0 + 1) (ix x1) (rI s (k0 + 1) (ix ((1 : Int32))))
      gd (inb (x1 + ((1 : Int32))) (lenM (k0 + 1))) <|
      let s3 : Mem := wI s2 (k0 + 1) (ix (x1 + ((1 : Int32)))) v1
      gd (inb (x1 + ((2 : Int32))) (lenM (k0 + 1))) <|
      let s4 : Mem := wI s3 (k0 + 1) (ix (x1 + ((2 : Int32)))) v2
      gd (inb (x1 + ((3 : Int32))) (lenM (k0 + 1))) <|
      let s5 : Mem := wI s4 (k0 + 1) (ix (x1 + ((3 : Int32)))) v3
      gd (inb ((5 : Int32)) (lenM (k0 + 1))) <|
      gd (inb ((5 : Int32)) (lenM (k0 + 1))) <|
      let s6 : Mem := wI s5 (k0 + 1) (ix ((5 : Int32))) ((rI s5 (k0 + 1) (ix ((5 : Int32)))) + ((1 : Int32)))
      some s6))
noncomputable def f_M_notes : Nat → Int32 → Int32 → Int32 → Mem → Option (Mem) := Classical.choose (⟨b_M_notes, rfl⟩ : ∃ f : Nat → Int32 → Int32 → Int32 → Mem → Option (Mem), f = b_M_notes)
theorem f_M_notes_eq : f_M_notes = b_M_notes := Classical.choose_spec (⟨b_M_notes, rfl⟩ : ∃ f : Nat → Int32 → Int32 → Int32 → Mem → Option (Mem), f = b_M_notes)
noncomputable def sm_M_notes (O : Type) (av : List AV) (σ : Mem) (K : AV → Mem → Option O) : Option O := match av with
  | [.inr (.inr (12, k0)), .inl v1, .inl v2, .inl v3] => (f_M_notes k0 v1 v2 v3 σ).bind fun r => K (.inl 0) r
  | _ => none
def c_M_notes : List (List CE) := [[(0, .aload_n 0, 1, 0, 0, 0), (1, .getfield 303, 3, 12, 26, 0), (4, .ifCond .eq 15, 3, 19, 0, 0), (7, .aload_n 0, 1, 0, 0, 0), (8, .getfield 7, 3, 12, 0, 0), (11, .iconst 5, 1, 5, 0, 0), (12, .iaload, 1, 0, 0, 0), (13, .sipush 150, 3, 150, 0, 0)], [(16, .if_icmp .ne 4, 3, 20, 0, 0), (19, .return_, 1, 0, 0, 0), (20, .sipush 366, 3, 366, 0, 0), (23, .iconst 4, 1, 4, 0, 0), (24, .aload_n 0, 1, 0, 0, 0), (25, .getfield 7, 3, 12, 0, 0), (28, .iconst 5, 1, 5, 0, 0), (29, .iaload, 1, 0, 0, 0), (30, .imul, 1, 0, 0, 0), (31, .iadd, 1, 0, 0, 0)], [(32, .istore 4, 2, 0, 0, 0), (34, .aload_n 0, 1, 0, 0, 0), (35, .getfield 7, 3, 12, 0, 0), (38, .iload 4, 2, 0, 0, 0), (40, .aload_n 0, 1, 0, 0, 0), (41, .getfield 7, 3, 12, 0, 0), (44, .iconst 1, 1, 1, 0, 0), (45, .iaload, 1, 0, 0, 0), (46, .iastore, 1, 0, 0, 0), (47, .aload_n 0, 1, 0, 0, 0)], [(48, .getfield 7, 3, 12, 0, 0), (51, .iload 4, 2, 0, 0, 0), (53, .iconst 1, 1, 1, 0, 0), (54, .iadd, 1, 0, 0, 0), (55, .iload_n 1, 1, 0, 0, 0), (56, .iastore, 1, 0, 0, 0), (57, .aload_n 0, 1, 0, 0, 0), (58, .getfield 7, 3, 12, 0, 0), (61, .iload 4, 2, 0, 0, 0), (63, .iconst 2, 1, 2, 0, 0)], [(64, .iadd, 1, 0, 0, 0), (65, .iload_n 2, 1, 0, 0, 0), (66, .iastore, 1, 0, 0, 0), (67, .aload_n 0, 1, 0, 0, 0), (68, .getfield 7, 3, 12, 0, 0), (71, .iload 4, 2, 0, 0, 0), (73, .iconst 3, 1, 3, 0, 0), (74, .iadd, 1, 0, 0, 0), (75, .iload_n 3, 1, 0, 0, 0), (76, .iastore, 1, 0, 0, 0), (77, .aload_n 0, 1, 0, 0, 0), (78, .getfield 7, 3, 12, 0, 0)], [(81, .iconst 5, 1, 5, 0, 0), (82, .dup2, 1, 0, 0, 0), (83, .iaload, 1, 0, 0, 0), (84, .iconst 1, 1, 1, 0, 0), (85, .iadd, 1, 0, 0, 0), (86, .iastore, 1, 0, 0, 0), (87, .return_, 1, 0, 0, 0)]]
set_option maxRecDepth 100000 in
theorem oc_M_notes : okC 284 c_M_notes = true := by decide +kernel
def cu_M_notes : List (Nat × List Bool) := []
noncomputable def F_M_notes (O : Type) (a : Nat) (av : List AV) (σ : Mem) (K : AV → Mem → Option O) : Option O := none
theorem fs_M_notes {X : CXT} (hX : XM X) (O : Type) : FS X 1 (F_M_notes O) := by
  intro a av σ K o h
  cases h
set_option maxRecDepth 100000 in
theorem s_M_notes {X : CXT} (hX : XM X) : ∀ (k0 : Nat) (v1 : Int32) (v2 : Int32) (v3 : Int32) (s : Mem) (o : Mem), f_M_notes k0 v1 v2 v3 s = some o → BSnd X 1 284 (ovV o) 0 (entL [.inr (.inr (12, k0)), .inl v1, .inl v2, .inl v3]) [] s := by
  intro k0 v1 v2 v3 s o h
  rw [f_M_notes_eq] at h
  exact evC (chs := c_M_notes) (cuts := cu_M_notes) (G := fun pc ls st σ => none) hX.2.1 hX.2.2 (F := F_M_notes _) (fs_M_notes hX _) (rt_V rfl) oc_M_notes (by
    intro pc ls st σ o h
    cases h) 268 0 _ _ _ _ h
theorem ok_M_notes {X : CXT} (hX : XM X) : SemOK X 1 284 sm_M_notes := by
  intro O av σ K o h
  unfold sm_M_notes at h
  split at h
  · obtain ⟨r, hf, h⟩ := Option.bind_eq_some_iff.mp h
    exact ⟨ovV r, fun ht => sp_of hX.1 (by decide) (List.mem_range.mpr (by decide)) (by decide +kernel) ht (Nat.le_of_ble_eq_true rfl) (s_M_notes hX _ _ _ _ _ _ hf), trivial, h⟩
  · cases h
noncomputable def b_M_builds (k0 : Nat) (v1 : Int32) (v2 : Int32) (s : Mem) : Option (Int32 × Mem) :=
  (f_M_shameOf k0 v1 v2 s).bind fun r1 =>
  gd (inb ((0 : Int32)) (lenM (k0 + 1))) <|
  (f_M_lesser r1.1 (((200 : Int32)) - (rI r1.2 (k0 + 1) (ix ((0 : Int32))))) r1.2).bind fun r2 =>
  gd (inb ((0 : Int32)) (lenM (k0 + 1))) <|
  gd (inb ((0 : Int32)) (lenM (k0 + 1))) <|
  let s3 : Mem := wI r2.2 (k0 + 1) (ix ((0 : Int32))) ((rI r2.2 (k0 + 1) (ix ((0 : Int32)))) + r2.1)
  (f_M_notes k0 ((0 : Int32)) v1 r2.1 s3).bind fun r4 =>
  some (r2.1, r4)
noncomputable def f_M_builds : Nat → Int32 → Int32 → Mem → Option (Int32 × Mem) := Classical.choose (⟨b_M_builds, rfl⟩ : ∃ f : Nat → Int32 → Int32 → Mem → Option (Int32 × Mem), f = b_M_builds)
theorem f_M_builds_eq : f_M_builds = b_M_builds := Classical.choose_spec (⟨b_M_builds, rfl⟩ : ∃ f : Nat → Int32 → Int32 → Mem → Option (Int32 × Mem), f = b_M_builds)
noncomputable def sm_M_builds (O : Type) (av : List AV) (σ : Mem) (K : AV → Mem → Option O) : Option O := match av with
  | [.inr (.inr (12, k0)), .inl v1, .inl v2] => (f_M_builds k0 v1 v2 σ).bind fun r => K (.inl r.1) r.2
  | _ => none
def c_M_builds : List (List CE) := [[(0, .aload_n 0, 1, 0, 0, 0), (1, .iload_n 1, 1, 0, 0, 0), (2, .iload_n 2, 1, 0, 0, 0), (3, .invokevirtual 307, 3, 276, 3, 25), (6, .sipush 200, 3, 200, 0, 0), (9, .aload_n 0, 1, 0, 0, 0), (10, .getfield 7, 3, 12, 0, 0), (13, .iconst 0, 1, 0, 0, 0), (14, .iaload, 1, 0, 0, 0), (15, .isub, 1, 0, 0, 0)], [(16, .invokestatic 290, 3, 282, 2, 1), (19, .istore_n 3, 1, 0, 0, 0), (20, .aload_n 0, 1, 0, 0, 0), (21, .getfield 7, 3, 12, 0, 0), (24, .iconst 0, 1, 0, 0, 0), (25, .dup2, 1, 0, 0, 0), (26, .iaload, 1, 0, 0, 0), (27, .iload_n 3, 1, 0, 0, 0), (28, .iadd, 1, 0, 0, 0), (29, .iastore, 1, 0, 0, 0), (30, .aload_n 0, 1, 0, 0, 0), (31, .iconst 0, 1, 0, 0, 0)], [(32, .iload_n 1, 1, 0, 0, 0), (33, .iload_n 3, 1, 0, 0, 0), (34, .invokevirtual 310, 3, 284, 4, 24), (37, .iload_n 3, 1, 0, 0, 0), (38, .ireturn, 1, 0, 0, 0)]]
set_option maxRecDepth 100000 in
theorem oc_M_builds : okC 275 c_M_builds = true := by decide +kernel
def cu_M_builds : List (Nat × List Bool) := []
noncomputable def F_M_builds (O : Type) (a : Nat) (av : List AV) (σ : Mem) (K : AV → Mem → Option O) : Option O := if a = 276 then sm_M_shameOf O av σ K else if a = 282 then sm_M_lesser O av σ K else if a = 284 then sm_M_notes O av σ K else none
theorem fs_M_builds {X : CXT} (hX : XM X) (O : Type) : FS X 6 (F_M_builds O) := by
  intro a av σ K o h
  unfold F_M_builds at h
  rcases ite_s h with ⟨rfl, h⟩ | ⟨_, h⟩
  · obtain ⟨r, h1, h2, h3⟩ := ok_M_shameOf hX _ _ _ _ _ h
    exact ⟨r, fun ht => ⟨5, by decide, h1 ht⟩, h2, h3⟩
  rcases ite_s h with ⟨rfl, h⟩ | ⟨_, h⟩
  · obtain ⟨r, h1, h2, h3⟩ := ok_M_lesser hX _ _ _ _ _ h
    exact ⟨r, fun ht => ⟨1, by decide, h1 ht⟩, h2, h3⟩
  rcases ite_s h with ⟨rfl, h⟩ | ⟨_, h⟩
  · obtain ⟨r, h1, h2, h3⟩ := ok_M_notes hX _ _ _ _ _ h
    exact ⟨r, fun ht => ⟨1, by decide, h1 ht⟩, h2, h3⟩
  cases h
set_option maxRecDepth 100000 in
theorem s_M_builds {X : CXT} (hX : XM X) : ∀ (k0 : Nat) (v1 : Int32) (v2 : Int32) (s : Mem) (o : Int32 × Mem), f_M_builds k0 v1 v2 s = some o → BSnd X 6 275 (ovI o) 0 (entL [.inr (.inr (12, k0)), .inl v1, .inl v2]) [] s := by
  intro k0 v1 v2 s o h
  rw [f_M_builds_eq] at h
  exact evC (chs := c_M_builds) (cuts := cu_M_builds) (G := fun pc ls st σ => none) hX.2.1 hX.2.2 (F := F_M_builds _) (fs_M_builds hX _) (rt_I rfl) oc_M_builds (by
    intro pc ls st σ o h
    cases h) 148 0 _ _ _ _ h
theorem ok_M_builds {X : CXT} (hX : XM X) : SemOK X 6 275 sm_M_builds := by
  intro O av σ K o h
  unfold sm_M_builds at h
  split at h
  · obtain ⟨r, hf, h⟩ := Option.bind_eq_some_iff.mp h
    exact ⟨ovI r, fun ht => sp_of hX.1 (by decide) (List.mem_range.mpr (by decide)) (by decide +kernel) ht (Nat.le_of_ble_eq_true rfl) (s_M_builds hX _ _ _ _ _ hf), trivial, h⟩
  · cases h
noncomputable def b_M_owns (k0 : Nat) (v1 : Int32) (v2 : Int32) (s : Mem) : Option (Int32 × Mem) :=
  (f_M_isIn v1 ((0 : Int32)) ((5 : Int32)) s).bind fun r1 =>
  cif ((b2i r1.1) = 0) (
    some ((-1 : Int32), r1.2)) (
    (f_M_isIn v2 ((0 : Int32)) ((99 : Int32)) r1.2).bind fun r2 =>
    cif ((b2i r2.1) = 0) (
      some ((-1 : Int32), r2.2)) (
      (f_M_keeps k0 r2.2).bind fun r3 =>
      (f_M_builds k0 v1 v2 r3).bind fun r4 =>
      some (r4.1, r4.2)))
noncomputable def f_M_owns : Nat → Int32 → Int32 → Mem → Option (Int32 × Mem) := Classical.choose (⟨b_M_owns, rfl⟩ : ∃ f : Nat → Int32 → Int32 → Mem → Option (Int32 × Mem), f = b_M_owns)
theorem f_M_owns_eq : f_M_owns = b_M_owns := Classical.choose_spec (⟨b_M_owns, rfl⟩ : ∃ f : Nat → Int32 → Int32 → Mem → Option (Int32 × Mem), f = b_M_owns)
noncomputable def sm_M_owns (O : Type) (av : List AV) (σ : Mem) (K : AV → Mem → Option O) : Option O := match av with
  | [.inr (.inr (12, k0)), .inl v1, .inl v2] => (f_M_owns k0 v1 v2 σ).bind fun r => K (.inl r.1) r.2
  | _ => none
def c_M_owns : List (List CE) := [[(0, .iload_n 1, 1, 0, 0, 0), (1, .iconst 0, 1, 0, 0, 0), (2, .iconst 5, 1, 5, 0, 0), (3, .invokestatic 60, 3, 230, 3, 1), (6, .ifCond .eq 13, 3, 19, 0, 0), (9, .iload_n 2, 1, 0, 0, 0), (10, .iconst 0, 1, 0, 0, 0), (11, .bipush 99, 2, 99, 0, 0), (13, .invokestatic 60, 3, 230, 3, 1)], [(16, .ifCond .ne 5, 3, 21, 0, 0), (19, .iconst (-1), 1, 1, 0, 1), (20, .ireturn, 1, 0, 0, 0), (21, .aload_n 0, 1, 0, 0, 0), (22, .invokevirtual 314, 3, 274, 1, 24), (25, .aload_n 0, 1, 0, 0, 0), (26, .iload_n 1, 1, 0, 0, 0), (27, .iload_n 2, 1, 0, 0, 0), (28, .invokevirtual 317, 3, 275, 3, 25), (31, .ireturn, 1, 0, 0, 0)]]
set_option maxRecDepth 100000 in
theorem oc_M_owns : okC 273 c_M_owns = true := by decide +kernel
def cu_M_owns : List (Nat × List Bool) := []
noncomputable def F_M_owns (O : Type) (a : Nat) (av : List AV) (σ : Mem) (K : AV → Mem → Option O) : Option O := if a = 230 then sm_M_isIn O av σ K else if a = 274 then sm_M_keeps O av σ K else if a = 275 then sm_M_builds O av σ K else none
theorem fs_M_owns {X : CXT} (hX : XM X) (O : Type) : FS X 7 (F_M_owns O) := by
  intro a av σ K o h
  unfold F_M_owns at h
  rcases ite_s h with ⟨rfl, h⟩ | ⟨_, h⟩
  · obtain ⟨r, h1, h2, h3⟩ := ok_M_isIn hX _ _ _ _ _ h
    exact ⟨r, fun ht => ⟨1, by decide, h1 ht⟩, h2, h3⟩
  rcases ite_s h with ⟨rfl, h⟩ | ⟨_, h⟩
  · obtain ⟨r, h1, h2, h3⟩ := ok_M_keeps hX _ _ _ _ _ h
    exact ⟨r, fun ht => ⟨1, by decide, h1 ht⟩, h2, h3⟩
  rcases ite_s h with ⟨rfl, h⟩ | ⟨_, h⟩
  · obtain ⟨r, h1, h2, h3⟩ := ok_M_builds hX _ _ _ _ _ h
    exact ⟨r, fun ht => ⟨6, by decide, h1 ht⟩, h2, h3⟩
  cases h
set_option maxRecDepth 100000 in
theorem s_M_owns {X : CXT} (hX : XM X) : ∀ (k0 : Nat) (v1 : Int32) (v2 : Int32) (s : Mem) (o : Int32 × Mem), f_M_owns k0 v1 v2 s = some o → BSnd X 7 273 (ovI o) 0 (entL [.inr (.inr (12, k0)), .inl v1, .inl v2]) [] s := by
  intro k0 v1 v2 s o h
  rw [f_M_owns_eq] at h
  exact evC (chs := c_M_owns) (cuts := cu_M_owns) (G := fun pc ls st σ => none) hX.2.1 hX.2.2 (F := F_M_owns _) (fs_M_owns hX _) (rt_I rfl) oc_M_owns (by
    intro pc ls st σ o h
    cases h) 116 0 _ _ _ _ h
theorem ok_M_owns {X : CXT} (hX : XM X) : SemOK X 7 273 sm_M_owns := by
  intro O av σ K o h
  unfold sm_M_owns at h
  split at h
  · obtain ⟨r, hf, h⟩ := Option.bind_eq_some_iff.mp h
    exact ⟨ovI r, fun ht => sp_of hX.1 (by decide) (List.mem_range.mpr (by decide)) (by decide +kernel) ht (Nat.le_of_ble_eq_true rfl) (s_M_owns hX _ _ _ _ _ hf), trivial, h⟩
  · cases h
noncomputable def b_M_isBroken (k0 : Nat) (v1 : Int32) (s : Mem) : Option (Bool × Mem) :=
  gd (inb (((6 : Int32)) + (v1 / ((30 : Int32)))) (lenM (k0 + 1))) <|
  cif ((((rI s (k0 + 1) (ix (((6 : Int32)) + (v1 / ((30 : Int32)))))) >>> ((v1 - v1 / ((30 : Int32)) * ((30 : Int32))) &&& 31)) &&& ((1 : Int32))) = ((1 : Int32))) (
    some (true, s)) (
    some (false, s))
noncomputable def f_M_isBroken : Nat → Int32 → Mem → Option (Bool × Mem) := Classical.choose (⟨b_M_isBroken, rfl⟩ : ∃ f : Nat → Int32 → Mem → Option (Bool × Mem), f = b_M_isBroken)
theorem f_M_isBroken_eq : f_M_isBroken = b_M_isBroken := Classical.choose_spec (⟨b_M_isBroken, rfl⟩ : ∃ f : Nat → Int32 → Mem → Option (Bool × Mem), f = b_M_isBroken)
noncomputable def sm_M_isBroken (O : Type) (av : List AV) (σ : Mem) (K : AV → Mem → Option O) : Option O := match av with
  | [.inr (.inr (12, k0)), .inl v1] => (f_M_isBroken k0 v1 σ).bind fun r => K (.inl (b2i r.1)) r.2
  | _ => none
def c_M_isBroken : List (List CE) := [[(0, .aload_n 0, 1, 0, 0, 0), (1, .getfield 7, 3, 12, 0, 0), (4, .bipush 6, 2, 6, 0, 0), (6, .iload_n 1, 1, 0, 0, 0), (7, .bipush 30, 2, 30, 0, 0), (9, .idiv, 1, 0, 0, 0), (10, .iadd, 1, 0, 0, 0), (11, .iaload, 1, 0, 0, 0), (12, .iload_n 1, 1, 0, 0, 0), (13, .bipush 30, 2, 30, 0, 0), (15, .irem, 1, 0, 0, 0)], [(16, .ishr, 1, 0, 0, 0), (17, .iconst 1, 1, 1, 0, 0), (18, .iand, 1, 0, 0, 0), (19, .iconst 1, 1, 1, 0, 0), (20, .if_icmp .ne 7, 3, 27, 0, 0), (23, .iconst 1, 1, 1, 0, 0), (24, .goto 4, 3, 28, 0, 0), (27, .iconst 0, 1, 0, 0, 0), (28, .ireturn, 1, 0, 0, 0)]]
set_option maxRecDepth 100000 in
theorem oc_M_isBroken : okC 288 c_M_isBroken = true := by decide +kernel
def cu_M_isBroken : List (Nat × List Bool) := []
noncomputable def F_M_isBroken (O : Type) (a : Nat) (av : List AV) (σ : Mem) (K : AV → Mem → Option O) : Option O := none
theorem fs_M_isBroken {X : CXT} (hX : XM X) (O : Type) : FS X 1 (F_M_isBroken O) := by
  intro a av σ K o h
  cases h
set_option maxRecDepth 100000 in
theorem s_M_isBroken {X : CXT} (hX : XM X) : ∀ (k0 : Nat) (v1 : Int32) (s : Mem) (o : Bool × Mem), f_M_isBroken k0 v1 s = some o → BSnd X 1 288 (ovZ o) 0 (entL [.inr (.inr (12, k0)), .inl v1]) [] s := by
  intro k0 v1 s o h
  rw [f_M_isBroken_eq] at h
  exact evC (chs := c_M_isBroken) (cuts := cu_M_isBroken) (G := fun pc ls st σ => none) hX.2.1 hX.2.2 (F := F_M_isBroken _) (fs_M_isBroken hX _) (rt_Z rfl) oc_M_isBroken (by
    intro pc ls st σ o h
    cases h) 120 0 _ _ _ _ h
theorem ok_M_isBroken {X : CXT} (hX : XM X) : SemOK X 1 288 sm_M_isBroken := by
  intro O av σ K o h
  unfold sm_M_isBroken at h
  split at h
  · obtain ⟨r, hf, h⟩ := Option.bind_eq_some_iff.mp h
    exact ⟨ovZ r, fun ht => sp_of hX.1 (by decide) (List.mem_range.mpr (by decide)) (by decide +kernel) ht (Nat.le_of_ble_eq_true rfl) (s_M_isBroken hX _ _ _ _ hf), trivial, h⟩
  · cases h
noncomputable def b_M_canSetOff (k0 : Nat) (v1 : Int32) (s : Mem) : Option (Bool × Mem) :=
  (f_M_isAshore k0 v1 s).bind fun r1 =>
  cif ((b2i r1.1) = 0) (
    some (false, r1.2)) (
    gd (inb ((0 : Int32)) (lenM (k0 + 1))) <|
    cif ((rI r1.2 (k0 + 1) (ix ((0 : Int32)))) ≤ 0) (
      some (false, r1.2)) (
      (f_M_isBroken k0 ((0 : Int32)) r1.2).bind fun r2 =>
      cif ((b2i r2.1) = 0) (
        some (true, r2.2)) (
        some (false, r2.2))))
noncomputable def f_M_canSetOff : Nat → Int32 → Mem → Option (Bool × Mem) := Classical.choose (⟨b_M_canSetOff, rfl⟩ : ∃ f : Nat → Int32 → Mem → Option (Bool × Mem), f = b_M_canSetOff)
theorem f_M_canSetOff_eq : f_M_canSetOff = b_M_canSetOff := Classical.choose_spec (⟨b_M_canSetOff, rfl⟩ : ∃ f : Nat → Int32 → Mem → Option (Bool × Mem), f = b_M_canSetOff)
noncomputable def sm_M_canSetOff (O : Type) (av : List AV) (σ : Mem) (K : AV → Mem → Option O) : Option O := match av with
  | [.inr (.inr (12, k0)), .inl v1] => (f_M_canSetOff k0 v1 σ).bind fun r => K (.inl (b2i r.1)) r.2
  | _ => none
def c_M_canSetOff : List (List CE) := [[(0, .aload_n 0, 1, 0, 0, 0), (1, .iload_n 1, 1, 0, 0, 0), (2, .invokevirtual 80, 3, 234, 2, 25), (5, .ifCond .eq 24, 3, 29, 0, 0), (8, .aload_n 0, 1, 0, 0, 0), (9, .getfield 7, 3, 12, 0, 0), (12, .iconst 0, 1, 0, 0, 0), (13, .iaload, 1, 0, 0, 0), (14, .ifCond .le 15, 3, 29, 0, 0)], [(17, .aload_n 0, 1, 0, 0, 0), (18, .iconst 0, 1, 0, 0, 0), (19, .invokevirtual 320, 3, 288, 2, 25), (22, .ifCond .ne 7, 3, 29, 0, 0), (25, .iconst 1, 1, 1, 0, 0), (26, .goto 4, 3, 30, 0, 0), (29, .iconst 0, 1, 0, 0, 0), (30, .ireturn, 1, 0, 0, 0)]]
set_option maxRecDepth 100000 in
theorem oc_M_canSetOff : okC 287 c_M_canSetOff = true := by decide +kernel
def cu_M_canSetOff : List (Nat × List Bool) := []
noncomputable def F_M_canSetOff (O : Type) (a : Nat) (av : List AV) (σ : Mem) (K : AV → Mem → Option O) : Option O := if a = 234 then sm_M_isAshore O av σ K else if a = 288 then sm_M_isBroken O av σ K else none
theorem fs_M_canSetOff {X : CXT} (hX : XM X) (O : Type) : FS X 2 (F_M_canSetOff O) := by
  intro a av σ K o h
  unfold F_M_canSetOff at h
  rcases ite_s h with ⟨rfl, h⟩ | ⟨_, h⟩
  · obtain ⟨r, h1, h2, h3⟩ := ok_M_isAshore hX _ _ _ _ _ h
    exact ⟨r, fun ht => ⟨1, by decide, h1 ht⟩, h2, h3⟩
  rcases ite_s h with ⟨rfl, h⟩ | ⟨_, h⟩
  · obtain ⟨r, h1, h2, h3⟩ := ok_M_isBroken hX _ _ _ _ _ h
    exact ⟨r, fun ht => ⟨1, by decide, h1 ht⟩, h2, h3⟩
  cases h
set_option maxRecDepth 100000 in
theorem s_M_canSetOff {X : CXT} (hX : XM X) : ∀ (k0 : Nat) (v1 : Int32) (s : Mem) (o : Bool × Mem), f_M_canSetOff k0 v1 s = some o → BSnd X 2 287 (ovZ o) 0 (entL [.inr (.inr (12, k0)), .inl v1]) [] s := by
  intro k0 v1 s o h
  rw [f_M_canSetOff_eq] at h
  exact evC (chs := c_M_canSetOff) (cuts := cu_M_canSetOff) (G := fun pc ls st σ => none) hX.2.1 hX.2.2 (F := F_M_canSetOff _) (fs_M_canSetOff hX _) (rt_Z rfl) oc_M_canSetOff (by
    intro pc ls st σ o h
    cases h) 108 0 _ _ _ _ h
theorem ok_M_canSetOff {X : CXT} (hX : XM X) : SemOK X 2 287 sm_M_canSetOff := by
  intro O av σ K o h
  unfold sm_M_canSetOff at h
  split at h
  · obtain ⟨r, hf, h⟩ := Option.bind_eq_some_iff.mp h
    exact ⟨ovZ r, fun ht => sp_of hX.1 (by decide) (List.mem_range.mpr (by decide)) (by decide +kernel) ht (Nat.le_of_ble_eq_true rfl) (s_M_canSetOff hX _ _ _ _ hf), trivial, h⟩
  · cases h
noncomputable def b_M_canAct (k0 : Nat) (v1 : Int32) (v2 : Int32) (s : Mem) : Option (Bool × Mem) :=
  cif (v1 = ((2 : Int32))) (
    (f_M_isWalker k0 v2 s).bind fun r1 =>
    cif ((b2i r1.1) = 0) (
      some (false, r1.2)) (
      (f_M_canSetOff k0 v2 r1.2).bind fun r2 =>
      cif ((b2i r2.1) = 0) (
        some (false, r2.2)) (
        some (true, r2.2)))) (
    (f_M_isIn v1 ((0 : Int32)) ((1 : Int32)) s).bind fun r3 =>
    cif ((b2i r3.1) = 0) (
      some (false, r3.2)) (
      gd (inb ((0 : Int32)) (lenM (k0 + 1))) <|
      (f_M_isIn v2 ((0 : Int32)) ((rI r3.2 (k0 + 1) (ix ((0 : Int32)))) - ((1 : Int32))) r3.2).bind fun r4 =>
      cif ((b2i r4.1) = 0) (
        some (false, r4.2)) (
        (f_M_isBroken k0 v2 r4.2).bind fun r5 =>
        cif (v1 = ((1 : Int32))) (
          cif ((b2i r5.1) = ((1 : Int32))) (
            some (true, r5.2)) (
            some (false, r5.2))) (
          cif ((b2i r5.1) = ((0 : Int32))) (
            some (true, r5.2)) (
            some (false, r5.2))))))
noncomputable def f_M_canAct : Nat → Int32 → Int32 → Mem → Option (Bool × Mem) := Classical.choose (⟨b_M_canAct, rfl⟩ : ∃ f : Nat → Int32 → Int32 → Mem → Option (Bool × Mem), f = b_M_canAct)
theorem f_M_canAct_eq : f_M_canAct = b_M_canAct := Classical.choose_spec (⟨b_M_canAct, rfl⟩ : ∃ f : Nat → Int32 → Int32 → Mem → Option (Bool × Mem), f = b_M_canAct)
noncomputable def sm_M_canAct (O : Type) (av : List AV) (σ : Mem) (K : AV → Mem → Option O) : Option O := match av with
  | [.inr (.inr (12, k0)), .inl v1, .inl v2] => (f_M_canAct k0 v1 v2 σ).bind fun r => K (.inl (b2i r.1)) r.2
  | _ => none
def c_M_canAct : List (List CE) := [[(0, .iload_n 1, 1, 0, 0, 0), (1, .iconst 2, 1, 2, 0, 0), (2, .if_icmp .ne 25, 3, 27, 0, 0), (5, .aload_n 0, 1, 0, 0, 0), (6, .iload_n 2, 1, 0, 0, 0), (7, .invokevirtual 76, 3, 233, 2, 25), (10, .ifCond .eq 15, 3, 25, 0, 0), (13, .aload_n 0, 1, 0, 0, 0), (14, .iload_n 2, 1, 0, 0, 0), (15, .invokevirtual 323, 3, 287, 2, 25)], [(18, .ifCond .eq 7, 3, 25, 0, 0), (21, .iconst 1, 1, 1, 0, 0), (22, .goto 4, 3, 26, 0, 0), (25, .iconst 0, 1, 0, 0, 0), (26, .ireturn, 1, 0, 0, 0), (27, .iload_n 1, 1, 0, 0, 0), (28, .iconst 0, 1, 0, 0, 0), (29, .iconst 1, 1, 1, 0, 0), (30, .invokestatic 60, 3, 230, 3, 1)], [(33, .ifCond .eq 41, 3, 74, 0, 0), (36, .iload_n 2, 1, 0, 0, 0), (37, .iconst 0, 1, 0, 0, 0), (38, .aload_n 0, 1, 0, 0, 0), (39, .getfield 7, 3, 12, 0, 0), (42, .iconst 0, 1, 0, 0, 0), (43, .iaload, 1, 0, 0, 0), (44, .iconst 1, 1, 1, 0, 0), (45, .isub, 1, 0, 0, 0), (46, .invokestatic 60, 3, 230, 3, 1)], [(49, .ifCond .eq 25, 3, 74, 0, 0), (52, .aload_n 0, 1, 0, 0, 0), (53, .iload_n 2, 1, 0, 0, 0), (54, .invokevirtual 320, 3, 288, 2, 25), (57, .iload_n 1, 1, 0, 0, 0), (58, .iconst 1, 1, 1, 0, 0), (59, .if_icmp .ne 7, 3, 66, 0, 0), (62, .iconst 1, 1, 1, 0, 0), (63, .goto 4, 3, 67, 0, 0)], [(66, .iconst 0, 1, 0, 0, 0), (67, .if_icmp .ne 7, 3, 74, 0, 0), (70, .iconst 1, 1, 1, 0, 0), (71, .goto 4, 3, 75, 0, 0), (74, .iconst 0, 1, 0, 0, 0), (75, .ireturn, 1, 0, 0, 0)]]
set_option maxRecDepth 100000 in
theorem oc_M_canAct : okC 286 c_M_canAct = true := by decide +kernel
def cu_M_canAct : List (Nat × List Bool) := []
noncomputable def F_M_canAct (O : Type) (a : Nat) (av : List AV) (σ : Mem) (K : AV → Mem → Option O) : Option O := if a = 230 then sm_M_isIn O av σ K else if a = 233 then sm_M_isWalker O av σ K else if a = 287 then sm_M_canSetOff O av σ K else if a = 288 then sm_M_isBroken O av σ K else none
theorem fs_M_canAct {X : CXT} (hX : XM X) (O : Type) : FS X 3 (F_M_canAct O) := by
  intro a av σ K o h
  unfold F_M_canAct at h
  rcases ite_s h with ⟨rfl, h⟩ | ⟨_, h⟩
  · obtain ⟨r, h1, h2, h3⟩ := ok_M_isIn hX _ _ _ _ _ h
    exact ⟨r, fun ht => ⟨1, by decide, h1 ht⟩, h2, h3⟩
  rcases ite_s h with ⟨rfl, h⟩ | ⟨_, h⟩
  · obtain ⟨r, h1, h2, h3⟩ := ok_M_isWalker hX _ _ _ _ _ h
    exact ⟨r, fun ht => ⟨2, by decide, h1 ht⟩, h2, h3⟩
  rcases ite_s h with ⟨rfl, h⟩ | ⟨_, h⟩
  · obtain ⟨r, h1, h2, h3⟩ := ok_M_canSetOff hX _ _ _ _ _ h
    exact ⟨r, fun ht => ⟨2, by decide, h1 ht⟩, h2, h3⟩
  rcases ite_s h with ⟨rfl, h⟩ | ⟨_, h⟩
  · obtain ⟨r, h1, h2, h3⟩ := ok_M_isBroken hX _ _ _ _ _ h
    exact ⟨r, fun ht => ⟨1, by decide, h1 ht⟩, h2, h3⟩
  cases h
set_option maxRecDepth 100000 in
theorem s_M_canAct {X : CXT} (hX : XM X) : ∀ (k0 : Nat) (v1 : Int32) (v2 : Int32) (s : Mem) (o : Bool × Mem), f_M_canAct k0 v1 v2 s = some o → BSnd X 3 286 (ovZ o) 0 (entL [.inr (.inr (12, k0)), .inl v1, .inl v2]) [] s := by
  intro k0 v1 v2 s o h
  rw [f_M_canAct_eq] at h
  exact evC (chs := c_M_canAct) (cuts := cu_M_canAct) (G := fun pc ls st σ => none) hX.2.1 hX.2.2 (F := F_M_canAct _) (fs_M_canAct hX _) (rt_Z rfl) oc_M_canAct (by
    intro pc ls st σ o h
    cases h) 216 0 _ _ _ _ h
theorem ok_M_canAct {X : CXT} (hX : XM X) : SemOK X 3 286 sm_M_canAct := by
  intro O av σ K o h
  unfold sm_M_canAct at h
  split at h
  · obtain ⟨r, hf, h⟩ := Option.bind_eq_some_iff.mp h
    exact ⟨ovZ r, fun ht => sp_of hX.1 (by decide) (List.mem_range.mpr (by decide)) (by decide +kernel) ht (Nat.le_of_ble_eq_true rfl) (s_M_canAct hX _ _ _ _ _ hf), trivial, h⟩
  · cases h
noncomputable def b_M_setsOff (k0 : Nat) (v1 : Int32) (s : Mem) : Option (Mem) :=
  gd (inb (((13 : Int32)) + v1) (lenM (k0 + 1))) <|
  let s1 : Mem := wI s (k0 + 1) (ix (((13 : Int32)) + v1)) ((0 : Int32))
  gd (inb (((25 : Int32)) + v1) (lenM (k0 + 1))) <|
  let s2 : Mem := wI s1 (k0 + 1) (ix (((25 : Int32)) + v1)) ((1 : Int32))
  gd (inb (((74 : Int32)) + v1) (lenM (k0 + 1))) <|
  gd (inb (((37 : Int32)) + v1) (lenM (k0 + 1))) <|
  let s3 : Mem := wI s2 (k0 + 1) (ix (((37 : Int32)) + v1)) (rI s2 (k0 + 1) (ix (((74 : Int32)) + v1)))
  gd (inb ((2 : Int32)) (lenM (k0 + 1))) <|
  (f_M_notes k0 ((3 : Int32)) v1 (rI s3 (k0 + 1) (ix ((2 : Int32)))) s3).bind fun r4 =>
  some r4
noncomputable def f_M_setsOff : Nat → Int32 → Mem → Option (Mem) := Classical.choose (⟨b_M_setsOff, rfl⟩ : ∃ f : Nat → Int32 → Mem → Option (Mem), f = b_M_setsOff)
theorem f_M_setsOff_eq : f_M_setsOff = b_M_setsOff := Classical.choose_spec (⟨b_M_setsOff, rfl⟩ : ∃ f : Nat → Int32 → Mem → Option (Mem), f = b_M_setsOff)
noncomputable def sm_M_setsOff (O : Type) (av : List AV) (σ : Mem) (K : AV → Mem → Option O) : Option O := match av with
  | [.inr (.inr (12, k0)), .inl v1] => (f_M_setsOff k0 v1 σ).bind fun r => K (.inl 0) r
  | _ => none
def c_M_setsOff : List (List CE) := [[(0, .aload_n 0, 1, 0, 0, 0), (1, .getfield 7, 3, 12, 0, 0), (4, .bipush 13, 2, 13, 0, 0), (6, .iload_n 1, 1, 0, 0, 0), (7, .iadd, 1, 0, 0, 0), (8, .iconst 0, 1, 0, 0, 0), (9, .iastore, 1, 0, 0, 0), (10, .aload_n 0, 1, 0, 0, 0), (11, .getfield 7, 3, 12, 0, 0), (14, .bipush 25, 2, 25, 0, 0)], [(16, .iload_n 1, 1, 0, 0, 0), (17, .iadd, 1, 0, 0, 0), (18, .iconst 1, 1, 1, 0, 0), (19, .iastore, 1, 0, 0, 0), (20, .aload_n 0, 1, 0, 0, 0), (21, .getfield 7, 3, 12, 0, 0), (24, .bipush 37, 2, 37, 0, 0), (26, .iload_n 1, 1, 0, 0, 0), (27, .iadd, 1, 0, 0, 0), (28, .aload_n 0, 1, 0, 0, 0), (29, .getfield 7, 3, 12, 0, 0)], [(32, .bipush 74, 2, 74, 0, 0), (34, .iload_n 1, 1, 0, 0, 0), (35, .iadd, 1, 0, 0, 0), (36, .iaload, 1, 0, 0, 0), (37, .iastore, 1, 0, 0, 0), (38, .aload_n 0, 1, 0, 0, 0), (39, .iconst 3, 1, 3, 0, 0), (40, .iload_n 1, 1, 0, 0, 0), (41, .aload_n 0, 1, 0, 0, 0), (42, .getfield 7, 3, 12, 0, 0), (45, .iconst 2, 1, 2, 0, 0), (46, .iaload, 1, 0, 0, 0), (47, .invokevirtual 310, 3, 284, 4, 24)], [(50, .return_, 1, 0, 0, 0)]]
set_option maxRecDepth 100000 in
theorem oc_M_setsOff : okC 289 c_M_setsOff = true := by decide +kernel
def cu_M_setsOff : List (Nat × List Bool) := []
noncomputable def F_M_setsOff (O : Type) (a : Nat) (av : List AV) (σ : Mem) (K : AV → Mem → Option O) : Option O := if a = 284 then sm_M_notes O av σ K else none
theorem fs_M_setsOff {X : CXT} (hX : XM X) (O : Type) : FS X 2 (F_M_setsOff O) := by
  intro a av σ K o h
  unfold F_M_setsOff at h
  rcases ite_s h with ⟨rfl, h⟩ | ⟨_, h⟩
  · obtain ⟨r, h1, h2, h3⟩ := ok_M_notes hX _ _ _ _ _ h
    exact ⟨r, fun ht => ⟨1, by decide, h1 ht⟩, h2, h3⟩
  cases h
set_option maxRecDepth 100000 in
theorem s_M_setsOff {X : CXT} (hX : XM X) : ∀ (k0 : Nat) (v1 : Int32) (s : Mem) (o : Mem), f_M_setsOff k0 v1 s = some o → BSnd X 2 289 (ovV o) 0 (entL [.inr (.inr (12, k0)), .inl v1]) [] s := by
  intro k0 v1 s o h
  rw [f_M_setsOff_eq] at h
  exact evC (chs := c_M_setsOff) (cuts := cu_M_setsOff) (G := fun pc ls st σ => none) hX.2.1 hX.2.2 (F := F_M_setsOff _) (fs_M_setsOff hX _) (rt_V rfl) oc_M_setsOff (by
    intro pc ls st σ o h
    cases h) 180 0 _ _ _ _ h
theorem ok_M_setsOff {X : CXT} (hX : XM X) : SemOK X 2 289 sm_M_setsOff := by
  intro O av σ K o h
  unfold sm_M_setsOff at h
  split at h
  · obtain ⟨r, hf, h⟩ := Option.bind_eq_some_iff.mp h
    exact ⟨ovV r, fun ht => sp_of hX.1 (by decide) (List.mem_range.mpr (by decide)) (by decide +kernel) ht (Nat.le_of_ble_eq_true rfl) (s_M_setsOff hX _ _ _ _ hf), trivial, h⟩
  · cases h
noncomputable def f_M_act_42 (k0 : Nat) (v1 : Int32) (v2 : Int32) (s : Mem) : Option (Bool × Mem) :=
  cif (v1 = 0) (
    gd (inb ((0 : Int32)) (lenM (k0 + 1))) <|
    (f_M_notes k0 ((1 : Int32)) v2 (rI s (k0 + 1) (ix ((0 : Int32)))) s).bind fun r1 =>
    some (true, r1)) (
    gd (inb ((0 : Int32)) (lenM (k0 + 1))) <|
    (f_M_notes k0 ((2 : Int32)) v2 (rI s (k0 + 1) (ix ((0 : Int32)))) s).bind fun r2 =>
    some (true, r2))
noncomputable def b_M_act (k0 : Nat) (v1 : Int32) (v2 : Int32) (s : Mem) : Option (Bool × Mem) :=
  (f_M_canAct k0 v1 v2 s).bind fun r1 =>
  cif ((b2i r1.1) = 0) (
    some (false, r1.2)) (
    (f_M_keeps k0 r1.2).bind fun r2 =>
    cif (v1 = ((2 : Int32))) (
      (f_M_setsOff k0 v2 r2).bind fun r3 =>
      some (true, r3)) (
      cif (v1 = 0) (
        (f_M_breaks k0 v2 ((1 : Int32)) r2).bind fun r4 =>
        f_M_act_42 k0 v1 v2 r4) (
        (f_M_breaks k0 v2 ((0 : Int32)) r2).bind fun r5 =>
        f_M_act_42 k0 v1 v2 r5)))
noncomputable def f_M_act : Nat → Int32 → Int32 → Mem → Option (Bool × Mem) := Classical.choose (⟨b_M_act, rfl⟩ : ∃ f : Nat → Int32 → Int32 → Mem → Option (Bool × Mem), f = b_M_act)
theorem f_M_act_eq : f_M_act = b_M_act := Classical.choose_spec (⟨b_M_act, rfl⟩ : ∃ f : Nat → Int32 → Int32 → Mem → Option (Bool × Mem), f = b_M_act)
noncomputable def sm_M_act (O : Type) (av : List AV) (σ : Mem) (K : AV → Mem → Option O) : Option O := match av with
  | [.inr (.inr (12, k0)), .inl v1, .inl v2] => (f_M_act k0 v1 v2 σ).bind fun r => K (.inl (b2i r.1)) r.2
  | _ => none
def c_M_act : List (List CE) := [[(0, .aload_n 0, 1, 0, 0, 0), (1, .iload_n 1, 1, 0, 0, 0), (2, .iload_n 2, 1, 0, 0, 0), (3, .invokevirtual 326, 3, 286, 3, 25), (6, .ifCond .ne 5, 3, 11, 0, 0), (9, .iconst 0, 1, 0, 0, 0), (10, .ireturn, 1, 0, 0, 0), (11, .aload_n 0, 1, 0, 0, 0), (12, .invokevirtual 314, 3, 274, 1, 24), (15, .iload_n 1, 1, 0, 0, 0)], [(16, .iconst 2, 1, 2, 0, 0), (17, .if_icmp .ne 11, 3, 28, 0, 0), (20, .aload_n 0, 1, 0, 0, 0), (21, .iload_n 2, 1, 0, 0, 0), (22, .invokevirtual 330, 3, 289, 2, 24), (25, .goto 37, 3, 62, 0, 0), (28, .aload_n 0, 1, 0, 0, 0), (29, .iload_n 2, 1, 0, 0, 0), (30, .iload_n 1, 1, 0, 0, 0), (31, .ifCond .ne 7, 3, 38, 0, 0)], [(34, .iconst 1, 1, 1, 0, 0), (35, .goto 4, 3, 39, 0, 0), (38, .iconst 0, 1, 0, 0, 0), (39, .invokevirtual 72, 3, 236, 3, 24), (42, .aload_n 0, 1, 0, 0, 0), (43, .iload_n 1, 1, 0, 0, 0), (44, .ifCond .ne 7, 3, 51, 0, 0), (47, .iconst 1, 1, 1, 0, 0)], [(48, .goto 4, 3, 52, 0, 0), (51, .iconst 2, 1, 2, 0, 0), (52, .iload_n 2, 1, 0, 0, 0), (53, .aload_n 0, 1, 0, 0, 0), (54, .getfield 7, 3, 12, 0, 0), (57, .iconst 0, 1, 0, 0, 0), (58, .iaload, 1, 0, 0, 0), (59, .invokevirtual 310, 3, 284, 4, 24), (62, .iconst 1, 1, 1, 0, 0), (63, .ireturn, 1, 0, 0, 0)]]
set_option maxRecDepth 100000 in
theorem oc_M_act : okC 285 c_M_act = true := by decide +kernel
def cu_M_act : List (Nat × List Bool) := [(42, [true, true, true])]
noncomputable def F_M_act (O : Type) (a : Nat) (av : List AV) (σ : Mem) (K : AV → Mem → Option O) : Option O := if a = 236 then sm_M_breaks O av σ K else if a = 274 then sm_M_keeps O av σ K else if a = 284 then sm_M_notes O av σ K else if a = 286 then sm_M_canAct O av σ K else if a = 289 then sm_M_setsOff O av σ K else none
theorem fs_M_act {X : CXT} (hX : XM X) (O : Type) : FS X 4 (F_M_act O) := by
  intro a av σ K o h
  unfold F_M_act at h
  rcases ite_s h with ⟨rfl, h⟩ | ⟨_, h⟩
  · obtain ⟨r, h1, h2, h3⟩ := ok_M_breaks hX _ _ _ _ _ h
    exact ⟨r, fun ht => ⟨1, by decide, h1 ht⟩, h2, h3⟩
  rcases ite_s h with ⟨rfl, h⟩ | ⟨_, h⟩
  · obtain ⟨r, h1, h2, h3⟩ := ok_M_keeps hX _ _ _ _ _ h
    exact ⟨r, fun ht => ⟨1, by decide, h1 ht⟩, h2, h3⟩
  rcases ite_s h with ⟨rfl, h⟩ | ⟨_, h⟩
  · obtain ⟨r, h1, h2, h3⟩ := ok_M_notes hX _ _ _ _ _ h
    exact ⟨r, fun ht => ⟨1, by decide, h1 ht⟩, h2, h3⟩
  rcases ite_s h with ⟨rfl, h⟩ | ⟨_, h⟩
  · obtain ⟨r, h1, h2, h3⟩ := ok_M_canAct hX _ _ _ _ _ h
    exact ⟨r, fun ht => ⟨3, by decide, h1 ht⟩, h2, h3⟩
  rcases ite_s h with ⟨rfl, h⟩ | ⟨_, h⟩
  · obtain ⟨r, h1, h2, h3⟩ := ok_M_setsOff hX _ _ _ _ _ h
    exact ⟨r, fun ht => ⟨2, by decide, h1 ht⟩, h2, h3⟩
  cases h
def hd_M_act_42 {O : Type} (g : Nat → Int32 → Int32 → Mem → Option O) (ls : OL) (st : List AV) (σ : Mem) : Option O := match ls, st with
  | [some (.inr (.inr (12, k0))), some (.inl v1), some (.inl v2)], [] => g k0 v1 v2 σ
  | _, _ => none
theorem hs_M_act_42 {X : CXT} {g : Nat → Int32 → Int32 → Mem → Option (Bool × Mem)} (hg : ∀ (k0 : Nat) (v1 : Int32) (v2 : Int32) (s : Mem) (o : Bool × Mem), g k0 v1 v2 s = some o → BSnd X 4 285 (ovZ o) 42 [some (.inr (.inr (12, k0))), some (.inl v1), some (.inl v2)] [] s) : ∀ ls st σ o, hd_M_act_42 g ls st σ = some o → BSnd X 4 285 (ovZ o) 42 ls st σ := by
  intro ls st σ o h
  unfold hd_M_act_42 at h
  split at h
  · exact hg _ _ _ _ _ h
  · cases h
set_option maxRecDepth 100000 in
theorem s_M_act_42 {X : CXT} (hX : XM X) : ∀ (k0 : Nat) (v1 : Int32) (v2 : Int32) (s : Mem) (o : Bool × Mem), f_M_act_42 k0 v1 v2 s = some o → BSnd X 4 285 (ovZ o) 42 [some (.inr (.inr (12, k0))), some (.inl v1), some (.inl v2)] [] s := by
  intro k0 v1 v2 s o h
  exact evC (chs := c_M_act) (cuts := cu_M_act) (G := fun pc ls st σ => none) hX.2.1 hX.2.2 (F := F_M_act _) (fs_M_act hX _) (rt_Z rfl) oc_M_act (by
    intro pc ls st σ o h
    cases h) 192 42 _ _ _ _ h
set_option maxRecDepth 100000 in
theorem s_M_act {X : CXT} (hX : XM X) : ∀ (k0 : Nat) (v1 : Int32) (v2 : Int32) (s : Mem) (o : Bool × Mem), f_M_act k0 v1 v2 s = some o → BSnd X 4 285 (ovZ o) 0 (entL [.inr (.inr (12, k0)), .inl v1, .inl v2]) [] s := by
  intro k0 v1 v2 s o h
  rw [f_M_act_eq] at h
  exact evC (chs := c_M_act) (cuts := cu_M_act) (G := fun pc ls st σ => if pc = 42 then hd_M_act_42 (fun k0 v1 v2 s => f_M_act_42 k0 v1 v2 s) ls st σ else none) hX.2.1 hX.2.2 (F := F_M_act _) (fs_M_act hX _) (rt_Z rfl) oc_M_act (by
    intro pc ls st σ o h
    rcases ite_s h with ⟨rfl, h⟩ | ⟨_, h⟩
    · exact hs_M_act_42 (s_M_act_42 hX) _ _ _ _ h
    cases h) 192 0 _ _ _ _ h
theorem ok_M_act {X : CXT} (hX : XM X) : SemOK X 4 285 sm_M_act := by
  intro O av σ K o h
  unfold sm_M_act at h
  split at h
  · obtain ⟨r, hf, h⟩ := Option.bind_eq_some_iff.mp h
    exact ⟨ovZ r, fun ht => sp_of hX.1 (by decide) (List.mem_range.mpr (by decide)) (by decide +kernel) ht (Nat.le_of_ble_eq_true rfl) (s_M_act hX _ _ _ _ _ hf), trivial, h⟩
  · cases h
noncomputable def f_M_count_4 : Nat → Int32 → Int32 → Int32 → Mem → Option (Int32 × Mem)
  | 0, _, _, _, _ => none
  | n + 1, v0, v1, v2, s =>
    cif (((30 : Int32)) ≤ v2) (
      some (v1, s)) (
      let x1 : Int32 := v1 + ((v0 >>> (v2 &&& 31)) &&& ((1 : Int32)))
      f_M_count_4 n v0 x1 (v2 + (1 : Int32)) s)
noncomputable def b_M_count (v0 : Int32) (s : Mem) : Option (Int32 × Mem) :=
  f_M_count_4 FU v0 ((0 : Int32)) ((0 : Int32)) s
noncomputable def f_M_count : Int32 → Mem → Option (Int32 × Mem) := Classical.choose (⟨b_M_count, rfl⟩ : ∃ f : Int32 → Mem → Option (Int32 × Mem), f = b_M_count)
theorem f_M_count_eq : f_M_count = b_M_count := Classical.choose_spec (⟨b_M_count, rfl⟩ : ∃ f : Int32 → Mem → Option (Int32 × Mem), f = b_M_count)
noncomputable def sm_M_count (O : Type) (av : List AV) (σ : Mem) (K : AV → Mem → Option O) : Option O := match av with
  | [.inl v0] => (f_M_count v0 σ).bind fun r => K (.inl r.1) r.2
  | _ => none
def c_M_count : List (List CE) := [[(0, .iconst 0, 1, 0, 0, 0), (1, .istore_n 1, 1, 0, 0, 0), (2, .iconst 0, 1, 0, 0, 0), (3, .istore_n 2, 1, 0, 0, 0), (4, .iload_n 2, 1, 0, 0, 0), (5, .bipush 30, 2, 30, 0, 0), (7, .if_icmp .ge 17, 3, 24, 0, 0), (10, .iload_n 1, 1, 0, 0, 0), (11, .iload_n 0, 1, 0, 0, 0), (12, .iload_n 2, 1, 0, 0, 0), (13, .ishr, 1, 0, 0, 0), (14, .iconst 1, 1, 1, 0, 0), (15, .iand, 1, 0, 0, 0)], [(16, .iadd, 1, 0, 0, 0), (17, .istore_n 1, 1, 0, 0, 0), (18, .iinc 2 1, 3, 1, 0, 0), (21, .goto (-17), 3, 4, 0, 0), (24, .iload_n 1, 1, 0, 0, 0), (25, .ireturn, 1, 0, 0, 0)]]
set_option maxRecDepth 100000 in
theorem oc_M_count : okC 292 c_M_count = true := by decide +kernel
def cu_M_count : List (Nat × List Bool) := [(4, [true, true, true])]
noncomputable def F_M_count (O : Type) (a : Nat) (av : List AV) (σ : Mem) (K : AV → Mem → Option O) : Option O := none
theorem fs_M_count {X : CXT} (hX : XM X) (O : Type) : FS X 1 (F_M_count O) := by
  intro a av σ K o h
  cases h
def hd_M_count_4 {O : Type} (g : Int32 → Int32 → Int32 → Mem → Option O) (ls : OL) (st : List AV) (σ : Mem) : Option O := match ls, st with
  | [some (.inl v0), some (.inl v1), some (.inl v2)], [] => g v0 v1 v2 σ
  | _, _ => none
theorem hs_M_count_4 {X : CXT} {g : Int32 → Int32 → Int32 → Mem → Option (Int32 × Mem)} (hg : ∀ (v0 : Int32) (v1 : Int32) (v2 : Int32) (s : Mem) (o : Int32 × Mem), g v0 v1 v2 s = some o → BSnd X 1 292 (ovI o) 4 [some (.inl v0), some (.inl v1), some (.inl v2)] [] s) : ∀ ls st σ o, hd_M_count_4 g ls st σ = some o → BSnd X 1 292 (ovI o) 4 ls st σ := by
  intro ls st σ o h
  unfold hd_M_count_4 at h
  split at h
  · exact hg _ _ _ _ _ h
  · cases h
set_option maxRecDepth 100000 in
theorem s_M_count_4 {X : CXT} (hX : XM X) : ∀ n : Nat, ∀ (v0 : Int32) (v1 : Int32) (v2 : Int32) (s : Mem) (o : Int32 × Mem), f_M_count_4 n v0 v1 v2 s = some o → BSnd X 1 292 (ovI o) 4 [some (.inl v0), some (.inl v1), some (.inl v2)] [] s := by
  intro n
  induction n with
  | zero => intro v0 v1 v2 s o h; cases h
  | succ n ih =>
    intro v0 v1 v2 s o h
    exact evC (chs := c_M_count) (cuts := cu_M_count) (G := fun pc ls st σ => if pc = 4 then hd_M_count_4 (fun v0 v1 v2 s => f_M_count_4 n v0 v1 v2 s) ls st σ else none) hX.2.1 hX.2.2 (F := F_M_count _) (fs_M_count hX _) (rt_I rfl) oc_M_count (by
    intro pc ls st σ o h
    rcases ite_s h with ⟨rfl, h⟩ | ⟨_, h⟩
    · exact hs_M_count_4 ih _ _ _ _ h
    cases h) 116 4 _ _ _ _ h
set_option maxRecDepth 100000 in
theorem s_M_count {X : CXT} (hX : XM X) : ∀ (v0 : Int32) (s : Mem) (o : Int32 × Mem), f_M_count v0 s = some o → BSnd X 1 292 (ovI o) 0 (entL [.inl v0]) [] s := by
  intro v0 s o h
  rw [f_M_count_eq] at h
  exact evC (chs := c_M_count) (cuts := cu_M_count) (G := fun pc ls st σ => if pc = 4 then hd_M_count_4 (fun v0 v1 v2 s => f_M_count_4 FU v0 v1 v2 s) ls st σ else none) hX.2.1 hX.2.2 (F := F_M_count _) (fs_M_count hX _) (rt_I rfl) oc_M_count (by
    intro pc ls st σ o h
    rcases ite_s h with ⟨rfl, h⟩ | ⟨_, h⟩
    · exact hs_M_count_4 (s_M_count_4 hX FU) _ _ _ _ h
    cases h) 116 0 _ _ _ _ h
theorem ok_M_count {X : CXT} (hX : XM X) : SemOK X 1 292 sm_M_count := by
  intro O av σ K o h
  unfold sm_M_count at h
  split at h
  · obtain ⟨r, hf, h⟩ := Option.bind_eq_some_iff.mp h
    exact ⟨ovI r, fun ht => sp_of hX.1 (by decide) (List.mem_range.mpr (by decide)) (by decide +kernel) ht (Nat.le_of_ble_eq_true rfl) (s_M_count hX _ _ _ hf), trivial, h⟩
  · cases h
noncomputable def f_M_brokenMiles_4 : Nat → Nat → Int32 → Int32 → Mem → Option (Int32 × Mem)
  | 0, _, _, _, _ => none
  | n + 1, k0, v1, v2, s =>
    cif (((7 : Int32)) ≤ v2) (
      some (v1, s)) (
      gd (inb (((6 : Int32)) + v2) (lenM (k0 + 1))) <|
      (f_M_count (rI s (k0 + 1) (ix (((6 : Int32)) + v2))) s).bind fun r1 =>
      let x2 : Int32 := v1 + r1.1
      f_M_brokenMiles_4 n k0 x2 (v2 + (1 : Int32)) r1.2)
noncomputable def b_M_brokenMiles (k0 : Nat) (s : Mem) : Option (Int32 × Mem) :=
  f_M_brokenMiles_4 FU k0 ((0 : Int32)) ((0 : Int32)) s
noncomputable def f_M_brokenMiles : Nat → Mem → Option (Int32 × Mem) := Classical.choose (⟨b_M_brokenMiles, rfl⟩ : ∃ f : Nat → Mem → Option (Int32 × Mem), f = b_M_brokenMiles)
theorem f_M_brokenMiles_eq : f_M_brokenMiles = b_M_brokenMiles := Classical.choose_spec (⟨b_M_brokenMiles, rfl⟩ : ∃ f : Nat → Mem → Option (Int32 × Mem), f = b_M_brokenMiles)
noncomputable def sm_M_brokenMiles (O : Type) (av : List AV) (σ : Mem) (K : AV → Mem → Option O) : Option O := match av with
  | [.inr (.inr (12, k0))] => (f_M_brokenMiles k0 σ).bind fun r => K (.inl r.1) r.2
  | _ => none
def c_M_brokenMiles : List (List CE) := [[(0, .iconst 0, 1, 0, 0, 0), (1, .istore_n 1, 1, 0, 0, 0), (2, .iconst 0, 1, 0, 0, 0), (3, .istore_n 2, 1, 0, 0, 0), (4, .iload_n 2, 1, 0, 0, 0), (5, .bipush 7, 2, 7, 0, 0), (7, .if_icmp .ge 24, 3, 31, 0, 0), (10, .iload_n 1, 1, 0, 0, 0), (11, .aload_n 0, 1, 0, 0, 0), (12, .getfield 7, 3, 12, 0, 0), (15, .bipush 6, 2, 6, 0, 0)], [(17, .iload_n 2, 1, 0, 0, 0), (18, .iadd, 1, 0, 0, 0), (19, .iaload, 1, 0, 0, 0), (20, .invokestatic 333, 3, 292, 1, 1), (23, .iadd, 1, 0, 0, 0), (24, .istore_n 1, 1, 0, 0, 0), (25, .iinc 2 1, 3, 1, 0, 0), (28, .goto (-24), 3, 4, 0, 0), (31, .iload_n 1, 1, 0, 0, 0)], [(32, .ireturn, 1, 0, 0, 0)]]
set_option maxRecDepth 100000 in
theorem oc_M_brokenMiles : okC 291 c_M_brokenMiles = true := by decide +kernel
def cu_M_brokenMiles : List (Nat × List Bool) := [(4, [true, true, true])]
noncomputable def F_M_brokenMiles (O : Type) (a : Nat) (av : List AV) (σ : Mem) (K : AV → Mem → Option O) : Option O := if a = 292 then sm_M_count O av σ K else none
theorem fs_M_brokenMiles {X : CXT} (hX : XM X) (O : Type) : FS X 2 (F_M_brokenMiles O) := by
  intro a av σ K o h
  unfold F_M_brokenMiles at h
  rcases ite_s h with ⟨rfl, h⟩ | ⟨_, h⟩
  · obtain ⟨r, h1, h2, h3⟩ := ok_M_count hX _ _ _ _ _ h
    exact ⟨r, fun ht => ⟨1, by decide, h1 ht⟩, h2, h3⟩
  cases h
def hd_M_brokenMiles_4 {O : Type} (g : Nat → Int32 → Int32 → Mem → Option O) (ls : OL) (st : List AV) (σ : Mem) : Option O := match ls, st with
  | [some (.inr (.inr (12, k0))), some (.inl v1), some (.inl v2)], [] => g k0 v1 v2 σ
  | _, _ => none
theorem hs_M_brokenMiles_4 {X : CXT} {g : Nat → Int32 → Int32 → Mem → Option (Int32 × Mem)} (hg : ∀ (k0 : Nat) (v1 : Int32) (v2 : Int32) (s : Mem) (o : Int32 × Mem), g k0 v1 v2 s = some o → BSnd X 2 291 (ovI o) 4 [some (.inr (.inr (12, k0))), some (.inl v1), some (.inl v2)] [] s) : ∀ ls st σ o, hd_M_brokenMiles_4 g ls st σ = some o → BSnd X 2 291 (ovI o) 4 ls st σ := by
  intro ls st σ o h
  unfold hd_M_brokenMiles_4 at h
  split at h
  · exact hg _ _ _ _ _ h
  · cases h
set_option maxRecDepth 100000 in
theorem s_M_brokenMiles_4 {X : CXT} (hX : XM X) : ∀ n : Nat, ∀ (k0 : Nat) (v1 : Int32) (v2 : Int32) (s : Mem) (o : Int32 × Mem), f_M_brokenMiles_4 n k0 v1 v2 s = some o → BSnd X 2 291 (ovI o) 4 [some (.inr (.inr (12, k0))), some (.inl v1), some (.inl v2)] [] s := by
  intro n
  induction n with
  | zero => intro k0 v1 v2 s o h; cases h
  | succ n ih =>
    intro k0 v1 v2 s o h
    exact evC (chs := c_M_brokenMiles) (cuts := cu_M_brokenMiles) (G := fun pc ls st σ => if pc = 4 then hd_M_brokenMiles_4 (fun k0 v1 v2 s => f_M_brokenMiles_4 n k0 v1 v2 s) ls st σ else none) hX.2.1 hX.2.2 (F := F_M_brokenMiles _) (fs_M_brokenMiles hX _) (rt_I rfl) oc_M_brokenMiles (by
    intro pc ls st σ o h
    rcases ite_s h with ⟨rfl, h⟩ | ⟨_, h⟩
    · exact hs_M_brokenMiles_4 ih _ _ _ _ h
    cases h) 124 4 _ _ _ _ h
set_option maxRecDepth 100000 in
theorem s_M_brokenMiles {X : CXT} (hX : XM X) : ∀ (k0 : Nat) (s : Mem) (o : Int32 × Mem), f_M_brokenMiles k0 s = some o → BSnd X 2 291 (ovI o) 0 (entL [.inr (.inr (12, k0))]) [] s := by
  intro k0 s o h
  rw [f_M_brokenMiles_eq] at h
  exact evC (chs := c_M_brokenMiles) (cuts := cu_M_brokenMiles) (G := fun pc ls st σ => if pc = 4 then hd_M_brokenMiles_4 (fun k0 v1 v2 s => f_M_brokenMiles_4 FU k0 v1 v2 s) ls st σ else none) hX.2.1 hX.2.2 (F := F_M_brokenMiles _) (fs_M_brokenMiles hX _) (rt_I rfl) oc_M_brokenMiles (by
    intro pc ls st σ o h
    rcases ite_s h with ⟨rfl, h⟩ | ⟨_, h⟩
    · exact hs_M_brokenMiles_4 (s_M_brokenMiles_4 hX FU) _ _ _ _ h
    cases h) 124 0 _ _ _ _ h
theorem ok_M_brokenMiles {X : CXT} (hX : XM X) : SemOK X 2 291 sm_M_brokenMiles := by
  intro O av σ K o h
  unfold sm_M_brokenMiles at h
  split at h
  · obtain ⟨r, hf, h⟩ := Option.bind_eq_some_iff.mp h
    exact ⟨ovI r, fun ht => sp_of hX.1 (by decide) (List.mem_range.mpr (by decide)) (by decide +kernel) ht (Nat.le_of_ble_eq_true rfl) (s_M_brokenMiles hX _ _ _ hf), trivial, h⟩
  · cases h
noncomputable def b_M_stormOf (k0 : Nat) (v1 : Int32) (s : Mem) : Option (Int32 × Mem) :=
  (f_M_clearsFacts k0 s).bind fun r1 =>
  gd (inb ((7 : Int32)) (lenM (k0 + 10))) <|
  let s2 : Mem := wI r1 (k0 + 10) (ix ((7 : Int32))) (((20 : Int32)) * v1)
  gd (inb ((1 : Int32)) (lenM (k0 + 1))) <|
  gd (inb ((9 : Int32)) (lenM (k0 + 10))) <|
  let s3 : Mem := wI s2 (k0 + 10) (ix ((9 : Int32))) (rI s2 (k0 + 1) (ix ((1 : Int32))))
  gd (inb ((51 : Int32)) (lenM (k0 + 1))) <|
  gd (inb ((10 : Int32)) (lenM (k0 + 10))) <|
  let s4 : Mem := wI s3 (k0 + 10) (ix ((10 : Int32))) (((rI s3 (k0 + 1) (ix ((51 : Int32)))) >>> (v1 &&& 31)) &&& ((1 : Int32)))
  gd (inb ((50 : Int32)) (lenM (k0 + 1))) <|
  (f_M_says k0 ((22 : Int32)) (((10 : Int32)) * (rI s4 (k0 + 1) (ix ((50 : Int32))))) ((1000 : Int32)) s4).bind fun r5 =>
  some (r5.1, r5.2)
noncomputable def f_M_stormOf : Nat → Int32 → Mem → Option (Int32 × Mem) := Classical.choose (⟨b_M_stormOf, rfl⟩ : ∃ f : Nat → Int32 → Mem → Option (Int32 × Mem), f = b_M_stormOf)
theorem f_M_stormOf_eq : f_M_stormOf = b_M_stormOf := Classical.choose_spec (⟨b_M_stormOf, rfl⟩ : ∃ f : Nat → Int32 → Mem → Option (Int32 × Mem), f = b_M_stormOf)
noncomputable def sm_M_stormOf (O : Type) (av : List AV) (σ : Mem) (K : AV → Mem → Option O) : Option O := match av with
  | [.inr (.inr (12, k0)), .inl v1] => (f_M_stormOf k0 v1 σ).bind fun r => K (.inl r.1) r.2
  | _ => none
def c_M_stormOf : List (List CE) := [[(0, .aload_n 0, 1, 0, 0, 0), (1, .invokevirtual 297, 3, 277, 1, 24), (4, .aload_n 0, 1, 0, 0, 0), (5, .getfield 37, 3, 12, 11, 0), (8, .bipush 7, 2, 7, 0, 0), (10, .bipush 20, 2, 20, 0, 0), (12, .iload_n 1, 1, 0, 0, 0), (13, .imul, 1, 0, 0, 0), (14, .iastore, 1, 0, 0, 0), (15, .aload_n 0, 1, 0, 0, 0)], [(16, .getfield 37, 3, 12, 11, 0), (19, .bipush 9, 2, 9, 0, 0), (21, .aload_n 0, 1, 0, 0, 0), (22, .getfield 7, 3, 12, 0, 0), (25, .iconst 1, 1, 1, 0, 0), (26, .iaload, 1, 0, 0, 0), (27, .iastore, 1, 0, 0, 0), (28, .aload_n 0, 1, 0, 0, 0), (29, .getfield 37, 3, 12, 11, 0)], [(32, .bipush 10, 2, 10, 0, 0), (34, .aload_n 0, 1, 0, 0, 0), (35, .getfield 7, 3, 12, 0, 0), (38, .bipush 51, 2, 51, 0, 0), (40, .iaload, 1, 0, 0, 0), (41, .iload_n 1, 1, 0, 0, 0), (42, .ishr, 1, 0, 0, 0), (43, .iconst 1, 1, 1, 0, 0), (44, .iand, 1, 0, 0, 0), (45, .iastore, 1, 0, 0, 0), (46, .aload_n 0, 1, 0, 0, 0), (47, .bipush 22, 2, 22, 0, 0)], [(49, .bipush 10, 2, 10, 0, 0), (51, .aload_n 0, 1, 0, 0, 0), (52, .getfield 7, 3, 12, 0, 0), (55, .bipush 50, 2, 50, 0, 0), (57, .iaload, 1, 0, 0, 0), (58, .imul, 1, 0, 0, 0), (59, .sipush 1000, 3, 1000, 0, 0), (62, .invokevirtual 300, 3, 278, 4, 25)], [(65, .ireturn, 1, 0, 0, 0)]]
set_option maxRecDepth 100000 in
theorem oc_M_stormOf : okC 295 c_M_stormOf = true := by decide +kernel
def cu_M_stormOf : List (Nat × List Bool) := []
noncomputable def F_M_stormOf (O : Type) (a : Nat) (av : List AV) (σ : Mem) (K : AV → Mem → Option O) : Option O := if a = 277 then sm_M_clearsFacts O av σ K else if a = 278 then sm_M_says O av σ K else none
theorem fs_M_stormOf {X : CXT} (hX : XM X) (O : Type) : FS X 5 (F_M_stormOf O) := by
  intro a av σ K o h
  unfold F_M_stormOf at h
  rcases ite_s h with ⟨rfl, h⟩ | ⟨_, h⟩
  · obtain ⟨r, h1, h2, h3⟩ := ok_M_clearsFacts hX _ _ _ _ _ h
    exact ⟨r, fun ht => ⟨1, by decide, h1 ht⟩, h2, h3⟩
  rcases ite_s h with ⟨rfl, h⟩ | ⟨_, h⟩
  · obtain ⟨r, h1, h2, h3⟩ := ok_M_says hX _ _ _ _ _ h
    exact ⟨r, fun ht => ⟨4, by decide, h1 ht⟩, h2, h3⟩
  cases h
set_option maxRecDepth 100000 in
theorem s_M_stormOf {X : CXT} (hX : XM X) : ∀ (k0 : Nat) (v1 : Int32) (s : Mem) (o : Int32 × Mem), f_M_stormOf k0 v1 s = some o → BSnd X 5 295 (ovI o) 0 (entL [.inr (.inr (12, k0)), .inl v1]) [] s := by
  intro k0 v1 s o h
  rw [f_M_stormOf_eq] at h
  exact evC (chs := c_M_stormOf) (cuts := cu_M_stormOf) (G := fun pc ls st σ => none) hX.2.1 hX.2.2 (F := F_M_stormOf _) (fs_M_stormOf hX _) (rt_I rfl) oc_M_stormOf (by
    intro pc ls st σ o h
    cases h) 200 0 _ _ _ _ h
theorem ok_M_stormOf {X : CXT} (hX : XM X) : SemOK X 5 295 sm_M_stormOf := by
  intro O av σ K o h
  unfold sm_M_stormOf at h
  split at h
  · obtain ⟨r, hf, h⟩ := Option.bind_eq_some_iff.mp h
    exact ⟨ovI r, fun ht => sp_of hX.1 (by decide) (List.mem_range.mpr (by decide)) (by decide +kernel) ht (Nat.le_of_ble_eq_true rfl) (s_M_stormOf hX _ _ _ _ hf), trivial, h⟩
  · cases h
noncomputable def b_M_draw (k0 : Nat) (v1 : Int32) (s : Mem) : Option (Int32 × Mem) :=
  gd (inb ((4 : Int32)) (lenM (k0 + 1))) <|
  gd (inb ((4 : Int32)) (lenM (k0 + 1))) <|
  let s1 : Mem := wI s (k0 + 1) (ix ((4 : Int32))) ((((1664525 : Int32)) * (rI s (k0 + 1) (ix ((4 : Int32))))) + ((1013904223 : Int32)))
  gd (inb ((4 : Int32)) (lenM (k0 + 1))) <|
  if v1 = 0 then none else
  some ((((rI s1 (k0 + 1) (ix ((4 : Int32)))).toUInt32 >>> (((8 : Int32)).toUInt32 &&& Int32.toUInt32 31)).toInt32) - (((rI s1 (k0 + 1) (ix ((4 : Int32)))).toUInt32 >>> (((8 : Int32)).toUInt32 &&& Int32.toUInt32 31)).toInt32) / v1 * v1, s1)
noncomputable def f_M_draw : Nat → Int32 → Mem → Option (Int32 × Mem) := Classical.choose (⟨b_M_draw, rfl⟩ : ∃ f : Nat → Int32 → Mem → Option (Int32 × Mem), f = b_M_draw)
theorem f_M_draw_eq : f_M_draw = b_M_draw := Classical.choose_spec (⟨b_M_draw, rfl⟩ : ∃ f : Nat → Int32 → Mem → Option (Int32 × Mem), f = b_M_draw)
noncomputable def sm_M_draw (O : Type) (av : List AV) (σ : Mem) (K : AV → Mem → Option O) : Option O := match av with
  | [.inr (.inr (12, k0)), .inl v1] => (f_M_draw k0 v1 σ).bind fun r => K (.inl r.1) r.2
  | _ => none
def c_M_draw : List (List CE) := [[(0, .aload_n 0, 1, 0, 0, 0), (1, .getfield 7, 3, 12, 0, 0), (4, .iconst 4, 1, 4, 0, 0), (5, .ldc 70, 2, 1664525, 0, 0), (7, .aload_n 0, 1, 0, 0, 0), (8, .getfield 7, 3, 12, 0, 0), (11, .iconst 4, 1, 4, 0, 0), (12, .iaload, 1, 0, 0, 0), (13, .imul, 1, 0, 0, 0), (14, .ldc 71, 2, 1013904223, 0, 0)], [(16, .iadd, 1, 0, 0, 0), (17, .iastore, 1, 0, 0, 0), (18, .aload_n 0, 1, 0, 0, 0), (19, .getfield 7, 3, 12, 0, 0), (22, .iconst 4, 1, 4, 0, 0), (23, .iaload, 1, 0, 0, 0), (24, .bipush 8, 2, 8, 0, 0), (26, .iushr, 1, 0, 0, 0), (27, .iload_n 1, 1, 0, 0, 0), (28, .irem, 1, 0, 0, 0), (29, .ireturn, 1, 0, 0, 0)]]
set_option maxRecDepth 100000 in
theorem oc_M_draw : okC 296 c_M_draw = true := by decide +kernel
def cu_M_draw : List (Nat × List Bool) := []
noncomputable def F_M_draw (O : Type) (a : Nat) (av : List AV) (σ : Mem) (K : AV → Mem → Option O) : Option O := none
theorem fs_M_draw {X : CXT} (hX : XM X) (O : Type) : FS X 1 (F_M_draw O) := by
  intro a av σ K o h
  cases h
set_option maxRecDepth 100000 in
theorem s_M_draw {X : CXT} (hX : XM X) : ∀ (k0 : Nat) (v1 : Int32) (s : Mem) (o : Int32 × Mem), f_M_draw k0 v1 s = some o → BSnd X 1 296 (ovI o) 0 (entL [.inr (.inr (12, k0)), .inl v1]) [] s := by
  intro k0 v1 s o h
  rw [f_M_draw_eq] at h
  exact evC (chs := c_M_draw) (cuts := cu_M_draw) (G := fun pc ls st σ => none) hX.2.1 hX.2.2 (F := F_M_draw _) (fs_M_draw hX _) (rt_I rfl) oc_M_draw (by
    intro pc ls st σ o h
    cases h) 124 0 _ _ _ _ h
theorem ok_M_draw {X : CXT} (hX : XM X) : SemOK X 1 296 sm_M_draw := by
  intro O av σ K o h
  unfold sm_M_draw at h
  split at h
  · obtain ⟨r, hf, h⟩ := Option.bind_eq_some_iff.mp h
    exact ⟨ovI r, fun ht => sp_of hX.1 (by decide) (List.mem_range.mpr (by decide)) (by decide +kernel) ht (Nat.le_of_ble_eq_true rfl) (s_M_draw hX _ _ _ _ hf), trivial, h⟩
  · cases h
noncomputable def f_M_storms_73 (k0 : Nat) (v4 : Int32) (s : Mem) : Option (Mem) :=
  gd (inb ((0 : Int32)) (lenM (k0 + 1))) <|
  cif ((rI s (k0 + 1) (ix ((0 : Int32)))) ≤ v4) (
    some s) (
    (f_M_isBroken k0 v4 s).bind fun r1 =>
    cif ((b2i r1.1) = 0) (
      (f_M_breaks k0 v4 ((1 : Int32)) r1.2).bind fun r2 =>
      gd (inb ((0 : Int32)) (lenM (k0 + 1))) <|
      (f_M_notes k0 ((1 : Int32)) v4 (rI r2 (k0 + 1) (ix ((0 : Int32)))) r2).bind fun r3 =>
      some r3) (
      some r1.2))
noncomputable def f_M_storms_44 (k0 : Nat) (v1 : Int32) (v3 : Int32) (s : Mem) : Option (Mem) :=
  cif (v3 = 0) (
    some s) (
    cif ((rI s k0 26) = 0) (
      let x1 : Int32 := (((20 : Int32)) * v1) + ((0 : Int32))
      f_M_storms_73 k0 x1 s) (
      (f_M_draw k0 ((20 : Int32)) s).bind fun r2 =>
      let x3 : Int32 := (((20 : Int32)) * v1) + r2.1
      f_M_storms_73 k0 x3 r2.2))
noncomputable def f_M_storms_38 (k0 : Nat) (v1 : Int32) (s : Mem) : Option (Mem) :=
  f_M_storms_44 k0 v1 ((1 : Int32)) s
noncomputable def f_M_storms_42 (k0 : Nat) (v1 : Int32) (s : Mem) : Option (Mem) :=
  f_M_storms_44 k0 v1 ((0 : Int32)) s
noncomputable def b_M_storms (k0 : Nat) (v1 : Int32) (s : Mem) : Option (Mem) :=
  (f_M_stormOf k0 v1 s).bind fun r1 =>
  cif (r1.1 ≤ 0) (
    f_M_storms_42 k0 v1 r1.2) (
    cif ((rI r1.2 k0 26) = 0) (
      cif (r1.1 < ((500 : Int32))) (
        f_M_storms_42 k0 v1 r1.2) (
        f_M_storms_38 k0 v1 r1.2)) (
      (f_M_draw k0 ((1000 : Int32)) r1.2).bind fun r2 =>
      cif (r1.1 ≤ r2.1) (
        f_M_storms_42 k0 v1 r2.2) (
        f_M_storms_38 k0 v1 r2.2)))
noncomputable def f_M_storms : Nat → Int32 → Mem → Option (Mem) := Classical.choose (⟨b_M_storms, rfl⟩ : ∃ f : Nat → Int32 → Mem → Option (Mem), f = b_M_storms)
theorem f_M_storms_eq : f_M_storms = b_M_storms := Classical.choose_spec (⟨b_M_storms, rfl⟩ : ∃ f : Nat → Int32 → Mem → Option (Mem), f = b_M_storms)
noncomputable def sm_M_storms (O : Type) (av : List AV) (σ : Mem) (K : AV → Mem → Option O) : Option O := match av with
  | [.inr (.inr (12, k0)), .inl v1] => (f_M_storms k0 v1 σ).bind fun r => K (.inl 0) r
  | _ => none
def c_M_storms : List (List CE) := [[(0, .aload_n 0, 1, 0, 0, 0), (1, .iload_n 1, 1, 0, 0, 0), (2, .invokevirtual 336, 3, 295, 2, 25), (5, .istore_n 2, 1, 0, 0, 0), (6, .iload_n 2, 1, 0, 0, 0), (7, .ifCond .le 35, 3, 42, 0, 0), (10, .aload_n 0, 1, 0, 0, 0), (11, .getfield 303, 3, 12, 26, 0), (14, .ifCond .eq 17, 3, 31, 0, 0)], [(17, .aload_n 0, 1, 0, 0, 0), (18, .sipush 1000, 3, 1000, 0, 0), (21, .invokevirtual 339, 3, 296, 2, 25), (24, .iload_n 2, 1, 0, 0, 0), (25, .if_icmp .ge 17, 3, 42, 0, 0), (28, .goto 10, 3, 38, 0, 0), (31, .iload_n 2, 1, 0, 0, 0)], [(32, .sipush 500, 3, 500, 0, 0), (35, .if_icmp .lt 7, 3, 42, 0, 0), (38, .iconst 1, 1, 1, 0, 0), (39, .goto 4, 3, 43, 0, 0), (42, .iconst 0, 1, 0, 0, 0), (43, .istore_n 3, 1, 0, 0, 0), (44, .iload_n 3, 1, 0, 0, 0), (45, .ifCond .ne 4, 3, 49, 0, 0)], [(48, .return_, 1, 0, 0, 0), (49, .bipush 20, 2, 20, 0, 0), (51, .iload_n 1, 1, 0, 0, 0), (52, .imul, 1, 0, 0, 0), (53, .aload_n 0, 1, 0, 0, 0), (54, .getfield 303, 3, 12, 26, 0), (57, .ifCond .eq 12, 3, 69, 0, 0), (60, .aload_n 0, 1, 0, 0, 0), (61, .bipush 20, 2, 20, 0, 0), (63, .invokevirtual 339, 3, 296, 2, 25)], [(66, .goto 4, 3, 70, 0, 0), (69, .iconst 0, 1, 0, 0, 0), (70, .iadd, 1, 0, 0, 0), (71, .istore 4, 2, 0, 0, 0), (73, .iload 4, 2, 0, 0, 0), (75, .aload_n 0, 1, 0, 0, 0), (76, .getfield 7, 3, 12, 0, 0), (79, .iconst 0, 1, 0, 0, 0)], [(80, .iaload, 1, 0, 0, 0), (81, .if_icmp .ge 12, 3, 93, 0, 0), (84, .aload_n 0, 1, 0, 0, 0), (85, .iload 4, 2, 0, 0, 0), (87, .invokevirtual 320, 3, 288, 2, 25), (90, .ifCond .eq 4, 3, 94, 0, 0), (93, .return_, 1, 0, 0, 0), (94, .aload_n 0, 1, 0, 0, 0), (95, .iload 4, 2, 0, 0, 0)], [(97, .iconst 1, 1, 1, 0, 0), (98, .invokevirtual 72, 3, 236, 3, 24), (101, .aload_n 0, 1, 0, 0, 0), (102, .iconst 1, 1, 1, 0, 0), (103, .iload 4, 2, 0, 0, 0), (105, .aload_n 0, 1, 0, 0, 0), (106, .getfield 7, 3, 12, 0, 0), (109, .iconst 0, 1, 0, 0, 0), (110, .iaload, 1, 0, 0, 0), (111, .invokevirtual 310, 3, 284, 4, 24)], [(114, .return_, 1, 0, 0, 0)]]
set_option maxRecDepth 100000 in
theorem oc_M_storms : okC 294 c_M_storms = true := by decide +kernel
def cu_M_storms : List (Nat × List Bool) := [(73, [true, false, false, false, true]), (44, [true, true, false, true]), (38, [true, true]), (42, [true, true])]
noncomputable def F_M_storms (O : Type) (a : Nat) (av : List AV) (σ : Mem) (K : AV → Mem → Option O) : Option O := if a = 236 then sm_M_breaks O av σ K else if a = 284 then sm_M_notes O av σ K else if a = 288 then sm_M_isBroken O av σ K else if a = 295 then sm_M_stormOf O av σ K else if a = 296 then sm_M_draw O av σ K else none
theorem fs_M_storms {X : CXT} (hX : XM X) (O : Type) : FS X 6 (F_M_storms O) := by
  intro a av σ K o h
  unfold F_M_storms at h
  rcases ite_s h with ⟨rfl, h⟩ | ⟨_, h⟩
  · obtain ⟨r, h1, h2, h3⟩ := ok_M_breaks hX _ _ _ _ _ h
    exact ⟨r, fun ht => ⟨1, by decide, h1 ht⟩, h2, h3⟩
  rcases ite_s h with ⟨rfl, h⟩ | ⟨_, h⟩
  · obtain ⟨r, h1, h2, h3⟩ := ok_M_notes hX _ _ _ _ _ h
    exact ⟨r, fun ht => ⟨1, by decide, h1 ht⟩, h2, h3⟩
  rcases ite_s h with ⟨rfl, h⟩ | ⟨_, h⟩
  · obtain ⟨r, h1, h2, h3⟩ := ok_M_isBroken hX _ _ _ _ _ h
    exact ⟨r, fun ht => ⟨1, by decide, h1 ht⟩, h2, h3⟩
  rcases ite_s h with ⟨rfl, h⟩ | ⟨_, h⟩
  · obtain ⟨r, h1, h2, h3⟩ := ok_M_stormOf hX _ _ _ _ _ h
    exact ⟨r, fun ht => ⟨5, by decide, h1 ht⟩, h2, h3⟩
  rcases ite_s h with ⟨rfl, h⟩ | ⟨_, h⟩
  · obtain ⟨r, h1, h2, h3⟩ := ok_M_draw hX _ _ _ _ _ h
    exact ⟨r, fun ht => ⟨1, by decide, h1 ht⟩, h2, h3⟩
  cases h
def hd_M_storms_73 {O : Type} (g : Nat → Int32 → Mem → Option O) (ls : OL) (st : List AV) (σ : Mem) : Option O := match ls, st with
  | [some (.inr (.inr (12, k0))), none, none, none, some (.inl v4)], [] => g k0 v4 σ
  | _, _ => none
theorem hs_M_storms_73 {X : CXT} {g : Nat → Int32 → Mem → Option (Mem)} (hg : ∀ (k0 : Nat) (v4 : Int32) (s : Mem) (o : Mem), g k0 v4 s = some o → BSnd X 6 294 (ovV o) 73 [some (.inr (.inr (12, k0))), none, none, none, some (.inl v4)] [] s) : ∀ ls st σ o, hd_M_storms_73 g ls st σ = some o → BSnd X 6 294 (ovV o) 73 ls st σ := by
  intro ls st σ o h
  unfold hd_M_storms_73 at h
  split at h
  · exact hg _ _ _ _ h
  · cases h
def hd_M_storms_44 {O : Type} (g : Nat → Int32 → Int32 → Mem → Option O) (ls : OL) (st : List AV) (σ : Mem) : Option O := match ls, st with
  | [some (.inr (.inr (12, k0))), some (.inl v1), none, some (.inl v3)], [] => g k0 v1 v3 σ
  | _, _ => none
theorem hs_M_storms_44 {X : CXT} {g : Nat → Int32 → Int32 → Mem → Option (Mem)} (hg : ∀ (k0 : Nat) (v1 : Int32) (v3 : Int32) (s : Mem) (o : Mem), g k0 v1 v3 s = some o → BSnd X 6 294 (ovV o) 44 [some (.inr (.inr (12, k0))), some (.inl v1), none, some (.inl v3)] [] s) : ∀ ls st σ o, hd_M_storms_44 g ls st σ = some o → BSnd X 6 294 (ovV o) 44 ls st σ := by
  intro ls st σ o h
  unfold hd_M_storms_44 at h
  split at h
  · exact hg _ _ _ _ _ h
  · cases h
def hd_M_storms_38 {O : Type} (g : Nat → Int32 → Mem → Option O) (ls : OL) (st : List AV) (σ : Mem) : Option O := match ls, st with
  | [some (.inr (.inr (12, k0))), some (.inl v1)], [] => g k0 v1 σ
  | _, _ => none
theorem hs_M_storms_38 {X : CXT} {g : Nat → Int32 → Mem → Option (Mem)} (hg : ∀ (k0 : Nat) (v1 : Int32) (s : Mem) (o : Mem), g k0 v1 s = some o → BSnd X 6 294 (ovV o) 38 [some (.inr (.inr (12, k0))), some (.inl v1)] [] s) : ∀ ls st σ o, hd_M_storms_38 g ls st σ = some o → BSnd X 6 294 (ovV o) 38 ls st σ := by
  intro ls st σ o h
  unfold hd_M_storms_38 at h
  split at h
  · exact hg _ _ _ _ h
  · cases h
def hd_M_storms_42 {O : Type} (g : Nat → Int32 → Mem → Option O) (ls : OL) (st : List AV) (σ : Mem) : Option O := match ls, st with
  | [some (.inr (.inr (12, k0))), some (.inl v1)], [] => g k0 v1 σ
  | _, _ => none
theorem hs_M_storms_42 {X : CXT} {g : Nat → Int32 → Mem → Option (Mem)} (hg : ∀ (k0 : Nat) (v1 : Int32) (s : Mem) (o : Mem), g k0 v1 s = some o → BSnd X 6 294 (ovV o) 42 [some (.inr (.inr (12, k0))), some (.inl v1)] [] s) : ∀ ls st σ o, hd_M_storms_42 g ls st σ = some o → BSnd X 6 294 (ovV o) 42 ls st σ := by
  intro ls st σ o h
  unfold hd_M_storms_42 at h
  split at h
  · exact hg _ _ _ _ h
  · cases h
set_option maxRecDepth 100000 in
theorem s_M_storms_73 {X : CXT} (hX : XM X) : ∀ (k0 : Nat) (v4 : Int32) (s : Mem) (o : Mem), f_M_storms_73 k0 v4 s = some o → BSnd X 6 294 (ovV o) 73 [some (.inr (.inr (12, k0))), none, none, none, some (.inl v4)] [] s := by
  intro k0 v4 s o h
  exact evC (chs := c_M_storms) (cuts := cu_M_storms) (G := fun pc ls st σ => none) hX.2.1 hX.2.2 (F := F_M_storms _) (fs_M_storms hX _) (rt_V rfl) oc_M_storms (by
    intro pc ls st σ o h
    cases h) 288 73 _ _ _ _ h
set_option maxRecDepth 100000 in
theorem s_M_storms_44 {X : CXT} (hX : XM X) : ∀ (k0 : Nat) (v1 : Int32) (v3 : Int32) (s : Mem) (o : Mem), f_M_storms_44 k0 v1 v3 s = some o → BSnd X 6 294 (ovV o) 44 [some (.inr (.inr (12, k0))), some (.inl v1), none, some (.inl v3)] [] s := by
  intro k0 v1 v3 s o h
  exact evC (chs := c_M_storms) (cuts := cu_M_storms) (G := fun pc ls st σ => if pc = 73 then hd_M_storms_73 (fun k0 v4 s => f_M_storms_73 k0 v4 s) ls st σ else none) hX.2.1 hX.2.2 (F := F_M_storms _) (fs_M_storms hX _) (rt_V rfl) oc_M_storms (by
    intro pc ls st σ o h
    rcases ite_s h with ⟨rfl, h⟩ | ⟨_, h⟩
    · exact hs_M_storms_73 (s_M_storms_73 hX) _ _ _ _ h
    cases h) 288 44 _ _ _ _ h
set_option maxRecDepth 100000 in
theorem s_M_storms_38 {X : CXT} (hX : XM X) : ∀ (k0 : Nat) (v1 : Int32) (s : Mem) (o : Mem), f_M_storms_38 k0 v1 s = some o → BSnd X 6 294 (ovV o) 38 [some (.inr (.inr (12, k0))), some (.inl v1)] [] s := by
  intro k0 v1 s o h
  exact evC (chs := c_M_storms) (cuts := cu_M_storms) (G := fun pc ls st σ => if pc = 44 then hd_M_storms_44 (fun k0 v1 v3 s => f_M_storms_44 k0 v1 v3 s) ls st σ else none) hX.2.1 hX.2.2 (F := F_M_storms _) (fs_M_storms hX _) (rt_V rfl) oc_M_storms (by
    intro pc ls st σ o h
    rcases ite_s h with ⟨rfl, h⟩ | ⟨_, h⟩
    · exact hs_M_storms_44 (s_M_storms_44 hX) _ _ _ _ h
    cases h) 288 38 _ _ _ _ h
set_option maxRecDepth 100000 in
theorem s_M_storms_42 {X : CXT} (hX : XM X) : ∀ (k0 : Nat) (v1 : Int32) (s : Mem) (o : Mem), f_M_storms_42 k0 v1 s = some o → BSnd X 6 294 (ovV o) 42 [some (.inr (.inr (12, k0))), some (.inl v1)] [] s := by
  intro k0 v1 s o h
  exact evC (chs := c_M_storms) (cuts := cu_M_storms) (G := fun pc ls st σ => if pc = 44 then hd_M_storms_44 (fun k0 v1 v3 s => f_M_storms_44 k0 v1 v3 s) ls st σ else none) hX.2.1 hX.2.2 (F := F_M_storms _) (fs_M_storms hX _) (rt_V rfl) oc_M_storms (by
    intro pc ls st σ o h
    rcases ite_s h with ⟨rfl, h⟩ | ⟨_, h⟩
    · exact hs_M_storms_44 (s_M_storms_44 hX) _ _ _ _ h
    cases h) 288 42 _ _ _ _ h
set_option maxRecDepth 100000 in
theorem s_M_storms {X : CXT} (hX : XM X) : ∀ (k0 : Nat) (v1 : Int32) (s : Mem) (o : Mem), f_M_storms k0 v1 s = some o → BSnd X 6 294 (ovV o) 0 (entL [.inr (.inr (12, k0)), .inl v1]) [] s := by
  intro k0 v1 s o h
  rw [f_M_storms_eq] at h
  exact evC (chs := c_M_storms) (cuts := cu_M_storms) (G := fun pc ls st σ => if pc = 38 then hd_M_storms_38 (fun k0 v1 s => f_M_storms_38 k0 v1 s) ls st σ else if pc = 42 then hd_M_storms_42 (fun k0 v1 s => f_M_storms_42 k0 v1 s) ls st σ else none) hX.2.1 hX.2.2 (F := F_M_storms _) (fs_M_storms hX _) (rt_V rfl) oc_M_storms (by
    intro pc ls st σ o h
    rcases ite_s h with ⟨rfl, h⟩ | ⟨_, h⟩
    · exact hs_M_storms_38 (s_M_storms_38 hX) _ _ _ _ h
    rcases ite_s h with ⟨rfl, h⟩ | ⟨_, h⟩
    · exact hs_M_storms_42 (s_M_storms_42 hX) _ _ _ _ h
    cases h) 288 0 _ _ _ _ h
theorem ok_M_storms {X : CXT} (hX : XM X) : SemOK X 6 294 sm_M_storms := by
  intro O av σ K o h
  unfold sm_M_storms at h
  split at h
  · obtain ⟨r, hf, h⟩ := Option.bind_eq_some_iff.mp h
    exact ⟨ovV r, fun ht => sp_of hX.1 (by decide) (List.mem_range.mpr (by decide)) (by decide +kernel) ht (Nat.le_of_ble_eq_true rfl) (s_M_storms hX _ _ _ _ hf), trivial, h⟩
  · cases h
noncomputable def f_M_aYear_2 (K70 : Nat → Mem → Option (Mem)) : Nat → Nat → Int32 → Mem → Option (Mem)
  | 0, _, _, _ => none
  | n + 1, k0, v1, s =>
    gd (inb ((53 : Int32)) (lenM (k0 + 1))) <|
    cif ((rI s (k0 + 1) (ix ((53 : Int32)))) ≤ v1) (
      K70 k0 s) (
      gd (inb (((98 : Int32)) + (((3 : Int32)) * v1)) (lenM (k0 + 1))) <|
      gd (inb ((1 : Int32)) (lenM (k0 + 1))) <|
      cif ((rI s (k0 + 1) (ix (((98 : Int32)) + (((3 : Int32)) * v1)))) = (rI s (k0 + 1) (ix ((1 : Int32))))) (
        gd (inb ((((98 : Int32)) + (((3 : Int32)) * v1)) + ((1 : Int32))) (lenM (k0 + 1))) <|
        gd (inb ((((98 : Int32)) + (((3 : Int32)) * v1)) + ((2 : Int32))) (lenM (k0 + 1))) <|
        (f_M_builds k0 (rI s (k0 + 1) (ix ((((98 : Int32)) + (((3 : Int32)) * v1)) + ((1 : Int32))))) (rI s (k0 + 1) (ix ((((98 : Int32)) + (((3 : Int32)) * v1)) + ((2 : Int32))))) s).bind fun r1 =>
        f_M_aYear_2 K70 n k0 (v1 + (1 : Int32)) r1.2) (
        f_M_aYear_2 K70 n k0 (v1 + (1 : Int32)) s))
noncomputable def f_M_aYear_72 (K102 : Nat → Mem → Option (Mem)) : Nat → Nat → Int32 → Mem → Option (Mem)
  | 0, _, _, _ => none
  | n + 1, k0, v1, s =>
    cif (((10 : Int32)) ≤ v1) (
      K102 k0 s) (
      gd (inb ((0 : Int32)) (lenM (k0 + 1))) <|
      cif ((rI s (k0 + 1) (ix ((0 : Int32)))) ≤ (((20 : Int32)) * v1)) (
        f_M_aYear_72 K102 n k0 (v1 + (1 : Int32)) s) (
        (f_M_storms k0 v1 s).bind fun r1 =>
        f_M_aYear_72 K102 n k0 (v1 + (1 : Int32)) r1))
noncomputable def f_M_aYear_102 (k0 : Nat) (s : Mem) : Option (Mem) :=
  gd (inb ((1 : Int32)) (lenM (k0 + 1))) <|
  gd (inb ((1 : Int32)) (lenM (k0 + 1))) <|
  let s1 : Mem := wI s (k0 + 1) (ix ((1 : Int32))) ((rI s (k0 + 1) (ix ((1 : Int32)))) + ((1 : Int32)))
  some s1
noncomputable def f_M_aYear_70 (k0 : Nat) (s : Mem) : Option (Mem) :=
  f_M_aYear_72 (fun k0 s => f_M_aYear_102 k0 s) FU k0 ((0 : Int32)) s
noncomputable def b_M_aYear (k0 : Nat) (s : Mem) : Option (Mem) :=
  f_M_aYear_2 (fun k0 s => f_M_aYear_70 k0 s) FU k0 ((0 : Int32)) s
noncomputable def f_M_aYear : Nat → Mem → Option (Mem) := Classical.choose (⟨b_M_aYear, rfl⟩ : ∃ f : Nat → Mem → Option (Mem), f = b_M_aYear)
theorem f_M_aYear_eq : f_M_aYear = b_M_aYear := Classical.choose_spec (⟨b_M_aYear, rfl⟩ : ∃ f : Nat → Mem → Option (Mem), f = b_M_aYear)
noncomputable def sm_M_aYear (O : Type) (av : List AV) (σ : Mem) (K : AV → Mem → Option O) : Option O := match av with
  | [.inr (.inr (12, k0))] => (f_M_aYear k0 σ).bind fun r => K (.inl 0) r
  | _ => none
def c_M_aYear : List (List CE) := [[(0, .iconst 0, 1, 0, 0, 0), (1, .istore_n 1, 1, 0, 0, 0), (2, .iload_n 1, 1, 0, 0, 0), (3, .aload_n 0, 1, 0, 0, 0), (4, .getfield 7, 3, 12, 0, 0), (7, .bipush 53, 2, 53, 0, 0), (9, .iaload, 1, 0, 0, 0), (10, .if_icmp .ge 60, 3, 70, 0, 0), (13, .aload_n 0, 1, 0, 0, 0), (14, .getfield 7, 3, 12, 0, 0)], [(17, .bipush 98, 2, 98, 0, 0), (19, .iconst 3, 1, 3, 0, 0), (20, .iload_n 1, 1, 0, 0, 0), (21, .imul, 1, 0, 0, 0), (22, .iadd, 1, 0, 0, 0), (23, .iaload, 1, 0, 0, 0), (24, .aload_n 0, 1, 0, 0, 0), (25, .getfield 7, 3, 12, 0, 0), (28, .iconst 1, 1, 1, 0, 0), (29, .iaload, 1, 0, 0, 0), (30, .if_icmp .ne 34, 3, 64, 0, 0)], [(33, .aload_n 0, 1, 0, 0, 0), (34, .aload_n 0, 1, 0, 0, 0), (35, .getfield 7, 3, 12, 0, 0), (38, .bipush 98, 2, 98, 0, 0), (40, .iconst 3, 1, 3, 0, 0), (41, .iload_n 1, 1, 0, 0, 0), (42, .imul, 1, 0, 0, 0), (43, .iadd, 1, 0, 0, 0), (44, .iconst 1, 1, 1, 0, 0), (45, .iadd, 1, 0, 0, 0), (46, .iaload, 1, 0, 0, 0), (47, .aload_n 0, 1, 0, 0, 0)], [(48, .getfield 7, 3, 12, 0, 0), (51, .bipush 98, 2, 98, 0, 0), (53, .iconst 3, 1, 3, 0, 0), (54, .iload_n 1, 1, 0, 0, 0), (55, .imul, 1, 0, 0, 0), (56, .iadd, 1, 0, 0, 0), (57, .iconst 2, 1, 2, 0, 0), (58, .iadd, 1, 0, 0, 0), (59, .iaload, 1, 0, 0, 0), (60, .invokevirtual 317, 3, 275, 3, 25), (63, .pop, 1, 0, 0, 0)], [(64, .iinc 1 1, 3, 1, 0, 0), (67, .goto (-65), 3, 2, 0, 0), (70, .iconst 0, 1, 0, 0, 0), (71, .istore_n 1, 1, 0, 0, 0), (72, .iload_n 1, 1, 0, 0, 0), (73, .bipush 10, 2, 10, 0, 0), (75, .if_icmp .ge 27, 3, 102, 0, 0), (78, .bipush 20, 2, 20, 0, 0)], [(80, .iload_n 1, 1, 0, 0, 0), (81, .imul, 1, 0, 0, 0), (82, .aload_n 0, 1, 0, 0, 0), (83, .getfield 7, 3, 12, 0, 0), (86, .iconst 0, 1, 0, 0, 0), (87, .iaload, 1, 0, 0, 0), (88, .if_icmp .ge 8, 3, 96, 0, 0), (91, .aload_n 0, 1, 0, 0, 0), (92, .iload_n 1, 1, 0, 0, 0), (93, .invokevirtual 342, 3, 294, 2, 24)], [(96, .iinc 1 1, 3, 1, 0, 0), (99, .goto (-27), 3, 72, 0, 0), (102, .aload_n 0, 1, 0, 0, 0), (103, .getfield 7, 3, 12, 0, 0), (106, .iconst 1, 1, 1, 0, 0), (107, .dup2, 1, 0, 0, 0), (108, .iaload, 1, 0, 0, 0), (109, .iconst 1, 1, 1, 0, 0), (110, .iadd, 1, 0, 0, 0), (111, .iastore, 1, 0, 0, 0)], [(112, .return_, 1, 0, 0, 0)]]
set_option maxRecDepth 100000 in
theorem oc_M_aYear : okC 293 c_M_aYear = true := by decide +kernel
def cu_M_aYear : List (Nat × List Bool) := [(2, [true, true]), (72, [true, true]), (102, [true]), (70, [true])]
noncomputable def F_M_aYear (O : Type) (a : Nat) (av : List AV) (σ : Mem) (K : AV → Mem → Option O) : Option O := if a = 275 then sm_M_builds O av σ K else if a = 294 then sm_M_storms O av σ K else none
theorem fs_M_aYear {X : CXT} (hX : XM X) (O : Type) : FS X 7 (F_M_aYear O) := by
  intro a av σ K o h
  unfold F_M_aYear at h
  rcases ite_s h with ⟨rfl, h⟩ | ⟨_, h⟩
  · obtain ⟨r, h1, h2, h3⟩ := ok_M_builds hX _ _ _ _ _ h
    exact ⟨r, fun ht => ⟨6, by decide, h1 ht⟩, h2, h3⟩
  rcases ite_s h with ⟨rfl, h⟩ | ⟨_, h⟩
  · obtain ⟨r, h1, h2, h3⟩ := ok_M_storms hX _ _ _ _ _ h
    exact ⟨r, fun ht => ⟨6, by decide, h1 ht⟩, h2, h3⟩
  cases h
def hd_M_aYear_2 {O : Type} (g : Nat → Int32 → Mem → Option O) (ls : OL) (st : List AV) (σ : Mem) : Option O := match ls, st with
  | [some (.inr (.inr (12, k0))), some (.inl v1)], [] => g k0 v1 σ
  | _, _ => none
theorem hs_M_aYear_2 {X : CXT} {g : Nat → Int32 → Mem → Option (Mem)} (hg : ∀ (k0 : Nat) (v1 : Int32) (s : Mem) (o : Mem), g k0 v1 s = some o → BSnd X 7 293 (ovV o) 2 [some (.inr (.inr (12, k0))), some (.inl v1)] [] s) : ∀ ls st σ o, hd_M_aYear_2 g ls st σ = some o → BSnd X 7 293 (ovV o) 2 ls st σ := by
  intro ls st σ o h
  unfold hd_M_aYear_2 at h
  split at h
  · exact hg _ _ _ _ h
  · cases h
def hd_M_aYear_72 {O : Type} (g : Nat → Int32 → Mem → Option O) (ls : OL) (st : List AV) (σ : Mem) : Option O := match ls, st with
  | [some (.inr (.inr (12, k0))), some (.inl v1)], [] => g k0 v1 σ
  | _, _ => none
theorem hs_M_aYear_72 {X : CXT} {g : Nat → Int32 → Mem → Option (Mem)} (hg : ∀ (k0 : Nat) (v1 : Int32) (s : Mem) (o : Mem), g k0 v1 s = some o → BSnd X 7 293 (ovV o) 72 [some (.inr (.inr (12, k0))), some (.inl v1)] [] s) : ∀ ls st σ o, hd_M_aYear_72 g ls st σ = some o → BSnd X 7 293 (ovV o) 72 ls st σ := by
  intro ls st σ o h
  unfold hd_M_aYear_72 at h
  split at h
  · exact hg _ _ _ _ h
  · cases h
def hd_M_aYear_102 {O : Type} (g : Nat → Mem → Option O) (ls : OL) (st : List AV) (σ : Mem) : Option O := match ls, st with
  | [some (.inr (.inr (12, k0)))], [] => g k0 σ
  | _, _ => none
theorem hs_M_aYear_102 {X : CXT} {g : Nat → Mem → Option (Mem)} (hg : ∀ (k0 : Nat) (s : Mem) (o : Mem), g k0 s = some o → BSnd X 7 293 (ovV o) 102 [some (.inr (.inr (12, k0)))] [] s) : ∀ ls st σ o, hd_M_aYear_102 g ls st σ = some o → BSnd X 7 293 (ovV o) 102 ls st σ := by
  intro ls st σ o h
  unfold hd_M_aYear_102 at h
  split at h
  · exact hg _ _ _ h
  · cases h
def hd_M_aYear_70 {O : Type} (g : Nat → Mem → Option O) (ls : OL) (st : List AV) (σ : Mem) : Option O := match ls, st with
  | [some (.inr (.inr (12, k0)))], [] => g k0 σ
  | _, _ => none
theorem hs_M_aYear_70 {X : CXT} {g : Nat → Mem → Option (Mem)} (hg : ∀ (k0 : Nat) (s : Mem) (o : Mem), g k0 s = some o → BSnd X 7 293 (ovV o) 70 [some (.inr (.inr (12, k0)))] [] s) : ∀ ls st σ o, hd_M_aYear_70 g ls st σ = some o → BSnd X 7 293 (ovV o) 70 ls st σ := by
  intro ls st σ o h
  unfold hd_M_aYear_70 at h
  split at h
  · exact hg _ _ _ h
  · cases h
set_option maxRecDepth 100000 in
theorem s_M_aYear_2 {X : CXT} (hX : XM X) {K70 : Nat → Mem → Option (Mem)} (hK70 : ∀ (k0 : Nat) (s : Mem) (o : Mem), K70 k0 s = some o → BSnd X 7 293 (ovV o) 70 [some (.inr (.inr (12, k0)))] [] s) : ∀ n : Nat, ∀ (k0 : Nat) (v1 : Int32) (s : Mem) (o : Mem), f_M_aYear_2 K70 n k0 v1 s = some o → BSnd X 7 293 (ovV o) 2 [some (.inr (.inr (12, k0))), some (.inl v1)] [] s := by
  intro n
  induction n with
  | zero => intro k0 v1 s o h; cases h
  | succ n ih =>
    intro k0 v1 s o h
    exact evC (chs := c_M_aYear) (cuts := cu_M_aYear) (G := fun pc ls st σ => if pc = 2 then hd_M_aYear_2 (fun k0 v1 s => f_M_aYear_2 K70 n k0 v1 s) ls st σ else if pc = 70 then hd_M_aYear_70 (fun k0 s => K70 k0 s) ls st σ else none) hX.2.1 hX.2.2 (F := F_M_aYear _) (fs_M_aYear hX _) (rt_V rfl) oc_M_aYear (by
    intro pc ls st σ o h
    rcases ite_s h with ⟨rfl, h⟩ | ⟨_, h⟩
    · exact hs_M_aYear_2 ih _ _ _ _ h
    rcases ite_s h with ⟨rfl, h⟩ | ⟨_, h⟩
    · exact hs_M_aYear_70 hK70 _ _ _ _ h
    cases h) 332 2 _ _ _ _ h
set_option maxRecDepth 100000 in
theorem s_M_aYear_72 {X : CXT} (hX : XM X) {K102 : Nat → Mem → Option (Mem)} (hK102 : ∀ (k0 : Nat) (s : Mem) (o : Mem), K102 k0 s = some o → BSnd X 7 293 (ovV o) 102 [some (.inr (.inr (12, k0)))] [] s) : ∀ n : Nat, ∀ (k0 : Nat) (v1 : Int32) (s : Mem) (o : Mem), f_M_aYear_72 K102 n k0 v1 s = some o → BSnd X 7 293 (ovV o) 72 [some (.inr (.inr (12, k0))), some (.inl v1)] [] s := by
  intro n
  induction n with
  | zero => intro k0 v1 s o h; cases h
  | succ n ih =>
    intro k0 v1 s o h
    exact evC (chs := c_M_aYear) (cuts := cu_M_aYear) (G := fun pc ls st σ => if pc = 72 then hd_M_aYear_72 (fun k0 v1 s => f_M_aYear_72 K102 n k0 v1 s) ls st σ else if pc = 102 then hd_M_aYear_102 (fun k0 s => K102 k0 s) ls st σ else none) hX.2.1 hX.2.2 (F := F_M_aYear _) (fs_M_aYear hX _) (rt_V rfl) oc_M_aYear (by
    intro pc ls st σ o h
    rcases ite_s h with ⟨rfl, h⟩ | ⟨_, h⟩
    · exact hs_M_aYear_72 ih _ _ _ _ h
    rcases ite_s h with ⟨rfl, h⟩ | ⟨_, h⟩
    · exact hs_M_aYear_102 hK102 _ _ _ _ h
    cases h) 332 72 _ _ _ _ h
set_option maxRecDepth 100000 in
theorem s_M_aYear_102 {X : CXT} (hX : XM X) : ∀ (k0 : Nat) (s : Mem) (o : Mem), f_M_aYear_102 k0 s = some o → BSnd X 7 293 (ovV o) 102 [some (.inr (.inr (12, k0)))] [] s := by
  intro k0 s o h
  exact evC (chs := c_M_aYear) (cuts := cu_M_aYear) (G := fun pc ls st σ => none) hX.2.1 hX.2.2 (F := F_M_aYear _) (fs_M_aYear hX _) (rt_V rfl) oc_M_aYear (by
    intro pc ls st σ o h
    cases h) 332 102 _ _ _ _ h
set_option maxRecDepth 100000 in
theorem s_M_aYear_70 {X : CXT} (hX : XM X) : ∀ (k0 : Nat) (s : Mem) (o : Mem), f_M_aYear_70 k0 s = some o → BSnd X 7 293 (ovV o) 70 [some (.inr (.inr (12, k0)))] [] s := by
  intro k0 s o h
  exact evC (chs := c_M_aYear) (cuts := cu_M_aYear) (G := fun pc ls st σ => if pc = 72 then hd_M_aYear_72 (fun k0 v1 s => f_M_aYear_72 (fun k0 s => f_M_aYear_102 k0 s) FU k0 v1 s) ls st σ else if pc = 102 then hd_M_aYear_102 (fun k0 s => f_M_aYear_102 k0 s) ls st σ else none) hX.2.1 hX.2.2 (F := F_M_aYear _) (fs_M_aYear hX _) (rt_V rfl) oc_M_aYear (by
    intro pc ls st σ o h
    rcases ite_s h with ⟨rfl, h⟩ | ⟨_, h⟩
    · exact hs_M_aYear_72 (s_M_aYear_72 hX (s_M_aYear_102 hX) FU) _ _ _ _ h
    rcases ite_s h with ⟨rfl, h⟩ | ⟨_, h⟩
    · exact hs_M_aYear_102 (s_M_aYear_102 hX) _ _ _ _ h
    cases h) 332 70 _ _ _ _ h
set_option maxRecDepth 100000 in
theorem s_M_aYear {X : CXT} (hX : XM X) : ∀ (k0 : Nat) (s : Mem) (o : Mem), f_M_aYear k0 s = some o → BSnd X 7 293 (ovV o) 0 (entL [.inr (.inr (12, k0))]) [] s := by
  intro k0 s o h
  rw [f_M_aYear_eq] at h
  exact evC (chs := c_M_aYear) (cuts := cu_M_aYear) (G := fun pc ls st σ => if pc = 2 then hd_M_aYear_2 (fun k0 v1 s => f_M_aYear_2 (fun k0 s => f_M_aYear_70 k0 s) FU k0 v1 s) ls st σ else if pc = 70 then hd_M_aYear_70 (fun k0 s => f_M_aYear_70 k0 s) ls st σ else none) hX.2.1 hX.2.2 (F := F_M_aYear _) (fs_M_aYear hX _) (rt_V rfl) oc_M_aYear (by
    intro pc ls st σ o h
    rcases ite_s h with ⟨rfl, h⟩ | ⟨_, h⟩
    · exact hs_M_aYear_2 (s_M_aYear_2 hX (s_M_aYear_70 hX) FU) _ _ _ _ h
    rcases ite_s h with ⟨rfl, h⟩ | ⟨_, h⟩
    · exact hs_M_aYear_70 (s_M_aYear_70 hX) _ _ _ _ h
    cases h) 332 0 _ _ _ _ h
theorem ok_M_aYear {X : CXT} (hX : XM X) : SemOK X 7 293 sm_M_aYear := by
  intro O av σ K o h
  unfold sm_M_aYear at h
  split at h
  · obtain ⟨r, hf, h⟩ := Option.bind_eq_some_iff.mp h
    exact ⟨ovV r, fun ht => sp_of hX.1 (by decide) (List.mem_range.mpr (by decide)) (by decide +kernel) ht (Nat.le_of_ble_eq_true rfl) (s_M_aYear hX _ _ _ hf), trivial, h⟩
  · cases h
noncomputable def f_M_years_33 : Nat → Nat → Int32 → Int32 → Int32 → Mem → Option (Int32 × Mem)
  | 0, _, _, _, _, _ => none
  | n + 1, k0, v1, v2, v3, s =>
    cif (v1 ≤ v3) (
      (f_M_brokenMiles k0 s).bind fun r1 =>
      some (r1.1 - v2, r1.2)) (
      (f_M_keeps k0 s).bind fun r2 =>
      (f_M_aYear k0 r2).bind fun r3 =>
      f_M_years_33 n k0 v1 v2 (v3 + (1 : Int32)) r3)
noncomputable def b_M_years (k0 : Nat) (v1 : Int32) (s : Mem) : Option (Int32 × Mem) :=
  (f_M_isIn v1 ((1 : Int32)) ((60 : Int32)) s).bind fun r1 =>
  cif ((b2i r1.1) = 0) (
    some ((-1 : Int32), r1.2)) (
    gd (inb ((1 : Int32)) (lenM (k0 + 1))) <|
    cif (((rI r1.2 (k0 + 1) (ix ((1 : Int32)))) + v1) ≤ ((9999 : Int32))) (
      (f_M_brokenMiles k0 r1.2).bind fun r2 =>
      f_M_years_33 FU k0 v1 r2.1 ((0 : Int32)) r2.2) (
      some ((-1 : Int32), r1.2)))
noncomputable def f_M_years : Nat → Int32 → Mem → Option (Int32 × Mem) := Classical.choose (⟨b_M_years, rfl⟩ : ∃ f : Nat → Int32 → Mem → Option (Int32 × Mem), f = b_M_years)
theorem f_M_years_eq : f_M_years = b_M_years := Classical.choose_spec (⟨b_M_years, rfl⟩ : ∃ f : Nat → Int32 → Mem → Option (Int32 × Mem), f = b_M_years)
noncomputable def sm_M_years (O : Type) (av : List AV) (σ : Mem) (K : AV → Mem → Option O) : Option O := match av with
  | [.inr (.inr (12, k0)), .inl v1] => (f_M_years k0 v1 σ).bind fun r => K (.inl r.1) r.2
  | _ => none
def c_M_years : List (List CE) := [[(0, .iload_n 1, 1, 0, 0, 0), (1, .iconst 1, 1, 1, 0, 0), (2, .bipush 60, 2, 60, 0, 0), (4, .invokestatic 60, 3, 230, 3, 1), (7, .ifCond .eq 17, 3, 24, 0, 0), (10, .aload_n 0, 1, 0, 0, 0), (11, .getfield 7, 3, 12, 0, 0), (14, .iconst 1, 1, 1, 0, 0), (15, .iaload, 1, 0, 0, 0)], [(16, .iload_n 1, 1, 0, 0, 0), (17, .iadd, 1, 0, 0, 0), (18, .sipush 9999, 3, 9999, 0, 0), (21, .if_icmp .le 5, 3, 26, 0, 0), (24, .iconst (-1), 1, 1, 0, 1), (25, .ireturn, 1, 0, 0, 0), (26, .aload_n 0, 1, 0, 0, 0), (27, .invokevirtual 345, 3, 291, 1, 25), (30, .istore_n 2, 1, 0, 0, 0), (31, .iconst 0, 1, 0, 0, 0)], [(32, .istore_n 3, 1, 0, 0, 0), (33, .iload_n 3, 1, 0, 0, 0), (34, .iload_n 1, 1, 0, 0, 0), (35, .if_icmp .ge 17, 3, 52, 0, 0), (38, .aload_n 0, 1, 0, 0, 0), (39, .invokevirtual 314, 3, 274, 1, 24), (42, .aload_n 0, 1, 0, 0, 0), (43, .invokevirtual 348, 3, 293, 1, 24), (46, .iinc 3 1, 3, 1, 0, 0)], [(49, .goto (-16), 3, 33, 0, 0), (52, .aload_n 0, 1, 0, 0, 0), (53, .invokevirtual 345, 3, 291, 1, 25), (56, .iload_n 2, 1, 0, 0, 0), (57, .isub, 1, 0, 0, 0), (58, .ireturn, 1, 0, 0, 0)]]
set_option maxRecDepth 100000 in
theorem oc_M_years : okC 290 c_M_years = true := by decide +kernel
def cu_M_years : List (Nat × List Bool) := [(33, [true, true, true, true])]
noncomputable def F_M_years (O : Type) (a : Nat) (av : List AV) (σ : Mem) (K : AV → Mem → Option O) : Option O := if a = 230 then sm_M_isIn O av σ K else if a = 274 then sm_M_keeps O av σ K else if a = 291 then sm_M_brokenMiles O av σ K else if a = 293 then sm_M_aYear O av σ K else none
theorem fs_M_years {X : CXT} (hX : XM X) (O : Type) : FS X 8 (F_M_years O) := by
  intro a av σ K o h
  unfold F_M_years at h
  rcases ite_s h with ⟨rfl, h⟩ | ⟨_, h⟩
  · obtain ⟨r, h1, h2, h3⟩ := ok_M_isIn hX _ _ _ _ _ h
    exact ⟨r, fun ht => ⟨1, by decide, h1 ht⟩, h2, h3⟩
  rcases ite_s h with ⟨rfl, h⟩ | ⟨_, h⟩
  · obtain ⟨r, h1, h2, h3⟩ := ok_M_keeps hX _ _ _ _ _ h
    exact ⟨r, fun ht => ⟨1, by decide, h1 ht⟩, h2, h3⟩
  rcases ite_s h with ⟨rfl, h⟩ | ⟨_, h⟩
  · obtain ⟨r, h1, h2, h3⟩ := ok_M_brokenMiles hX _ _ _ _ _ h
    exact ⟨r, fun ht => ⟨2, by decide, h1 ht⟩, h2, h3⟩
  rcases ite_s h with ⟨rfl, h⟩ | ⟨_, h⟩
  · obtain ⟨r, h1, h2, h3⟩ := ok_M_aYear hX _ _ _ _ _ h
    exact ⟨r, fun ht => ⟨7, by decide, h1 ht⟩, h2, h3⟩
  cases h
def hd_M_years_33 {O : Type} (g : Nat → Int32 → Int32 → Int32 → Mem → Option O) (ls : OL) (st : List AV) (σ : Mem) : Option O := match ls, st with
  | [some (.inr (.inr (12, k0))), some (.inl v1), some (.inl v2), some (.inl v3)], [] => g k0 v1 v2 v3 σ
  | _, _ => none
theorem hs_M_years_33 {X : CXT} {g : Nat → Int32 → Int32 → Int32 → Mem → Option (Int32 × Mem)} (hg : ∀ (k0 : Nat) (v1 : Int32) (v2 : Int32) (v3 : Int32) (s : Mem) (o : Int32 × Mem), g k0 v1 v2 v3 s = some o → BSnd X 8 290 (ovI o) 33 [some (.inr (.inr (12, k0))), some (.inl v1), some (.inl v2), some (.inl v3)] [] s) : ∀ ls st σ o, hd_M_years_33 g ls st σ = some o → BSnd X 8 290 (ovI o) 33 ls st σ := by
  intro ls st σ o h
  unfold hd_M_years_33 at h
  split at h
  · exact hg _ _ _ _ _ _ h
  · cases h
set_option maxRecDepth 100000 in
theorem s_M_years_33 {X : CXT} (hX : XM X) : ∀ n : Nat, ∀ (k0 : Nat) (v1 : Int32) (v2 : Int32) (v3 : Int32) (s : Mem) (o : Int32 × Mem), f_M_years_33 n k0 v1 v2 v3 s = some o → BSnd X 8 290 (ovI o) 33 [some (.inr (.inr (12, k0))), some (.inl v1), some (.inl v2), some (.inl v3)] [] s := by
  intro n
  induction n with
  | zero => intro k0 v1 v2 v3 s o h; cases h
  | succ n ih =>
    intro k0 v1 v2 v3 s o h
    exact evC (chs := c_M_years) (cuts := cu_M_years) (G := fun pc ls st σ => if pc = 33 then hd_M_years_33 (fun k0 v1 v2 v3 s => f_M_years_33 n k0 v1 v2 v3 s) ls st σ else none) hX.2.1 hX.2.2 (F := F_M_years _) (fs_M_years hX _) (rt_I rfl) oc_M_years (by
    intro pc ls st σ o h
    rcases ite_s h with ⟨rfl, h⟩ | ⟨_, h⟩
    · exact hs_M_years_33 ih _ _ _ _ h
    cases h) 176 33 _ _ _ _ h
set_option maxRecDepth 100000 in
theorem s_M_years {X : CXT} (hX : XM X) : ∀ (k0 : Nat) (v1 : Int32) (s : Mem) (o : Int32 × Mem), f_M_years k0 v1 s = some o → BSnd X 8 290 (ovI o) 0 (entL [.inr (.inr (12, k0)), .inl v1]) [] s := by
  intro k0 v1 s o h
  rw [f_M_years_eq] at h
  exact evC (chs := c_M_years) (cuts := cu_M_years) (G := fun pc ls st σ => if pc = 33 then hd_M_years_33 (fun k0 v1 v2 v3 s => f_M_years_33 FU k0 v1 v2 v3 s) ls st σ else none) hX.2.1 hX.2.2 (F := F_M_years _) (fs_M_years hX _) (rt_I rfl) oc_M_years (by
    intro pc ls st σ o h
    rcases ite_s h with ⟨rfl, h⟩ | ⟨_, h⟩
    · exact hs_M_years_33 (s_M_years_33 hX FU) _ _ _ _ h
    cases h) 176 0 _ _ _ _ h
theorem ok_M_years {X : CXT} (hX : XM X) : SemOK X 8 290 sm_M_years := by
  intro O av σ K o h
  unfold sm_M_years at h
  split at h
  · obtain ⟨r, hf, h⟩ := Option.bind_eq_some_iff.mp h
    exact ⟨ovI r, fun ht => sp_of hX.1 (by decide) (List.mem_range.mpr (by decide)) (by decide +kernel) ht (Nat.le_of_ble_eq_true rfl) (s_M_years hX _ _ _ _ hf), trivial, h⟩
  · cases h
noncomputable def b_M_turnsBack (k0 : Nat) (v1 : Int32) (s : Mem) : Option (Mem) :=
  gd (inb (((25 : Int32)) + v1) (lenM (k0 + 1))) <|
  let s1 : Mem := wI s (k0 + 1) (ix (((25 : Int32)) + v1)) ((0 : Int32))
  gd (inb (((13 : Int32)) + v1) (lenM (k0 + 1))) <|
  (f_M_notes k0 ((4 : Int32)) v1 (rI s1 (k0 + 1) (ix (((13 : Int32)) + v1))) s1).bind fun r2 =>
  some r2
noncomputable def f_M_turnsBack : Nat → Int32 → Mem → Option (Mem) := Classical.choose (⟨b_M_turnsBack, rfl⟩ : ∃ f : Nat → Int32 → Mem → Option (Mem), f = b_M_turnsBack)
theorem f_M_turnsBack_eq : f_M_turnsBack = b_M_turnsBack := Classical.choose_spec (⟨b_M_turnsBack, rfl⟩ : ∃ f : Nat → Int32 → Mem → Option (Mem), f = b_M_turnsBack)
noncomputable def sm_M_turnsBack (O : Type) (av : List AV) (σ : Mem) (K : AV → Mem → Option O) : Option O := match av with
  | [.inr (.inr (12, k0)), .inl v1] => (f_M_turnsBack k0 v1 σ).bind fun r => K (.inl 0) r
  | _ => none
def c_M_turnsBack : List (List CE) := [[(0, .aload_n 0, 1, 0, 0, 0), (1, .getfield 7, 3, 12, 0, 0), (4, .bipush 25, 2, 25, 0, 0), (6, .iload_n 1, 1, 0, 0, 0), (7, .iadd, 1, 0, 0, 0), (8, .iconst 0, 1, 0, 0, 0), (9, .iastore, 1, 0, 0, 0), (10, .aload_n 0, 1, 0, 0, 0), (11, .iconst 4, 1, 4, 0, 0), (12, .iload_n 1, 1, 0, 0, 0), (13, .aload_n 0, 1, 0, 0, 0), (14, .getfield 7, 3, 12, 0, 0)], [(17, .bipush 13, 2, 13, 0, 0), (19, .iload_n 1, 1, 0, 0, 0), (20, .iadd, 1, 0, 0, 0), (21, .iaload, 1, 0, 0, 0), (22, .invokevirtual 310, 3, 284, 4, 24), (25, .return_, 1, 0, 0, 0)]]
set_option maxRecDepth 100000 in
theorem oc_M_turnsBack : okC 300 c_M_turnsBack = true := by decide +kernel
def cu_M_turnsBack : List (Nat × List Bool) := []
noncomputable def F_M_turnsBack (O : Type) (a : Nat) (av : List AV) (σ : Mem) (K : AV → Mem → Option O) : Option O := if a = 284 then sm_M_notes O av σ K else none
theorem fs_M_turnsBack {X : CXT} (hX : XM X) (O : Type) : FS X 2 (F_M_turnsBack O) := by
  intro a av σ K o h
  unfold F_M_turnsBack at h
  rcases ite_s h with ⟨rfl, h⟩ | ⟨_, h⟩
  · obtain ⟨r, h1, h2, h3⟩ := ok_M_notes hX _ _ _ _ _ h
    exact ⟨r, fun ht => ⟨1, by decide, h1 ht⟩, h2, h3⟩
  cases h
set_option maxRecDepth 100000 in
theorem s_M_turnsBack {X : CXT} (hX : XM X) : ∀ (k0 : Nat) (v1 : Int32) (s : Mem) (o : Mem), f_M_turnsBack k0 v1 s = some o → BSnd X 2 300 (ovV o) 0 (entL [.inr (.inr (12, k0)), .inl v1]) [] s := by
  intro k0 v1 s o h
  rw [f_M_turnsBack_eq] at h
  exact evC (chs := c_M_turnsBack) (cuts := cu_M_turnsBack) (G := fun pc ls st σ => none) hX.2.1 hX.2.2 (F := F_M_turnsBack _) (fs_M_turnsBack hX _) (rt_V rfl) oc_M_turnsBack (by
    intro pc ls st σ o h
    cases h) 112 0 _ _ _ _ h
theorem ok_M_turnsBack {X : CXT} (hX : XM X) : SemOK X 2 300 sm_M_turnsBack := by
  intro O av σ K o h
  unfold sm_M_turnsBack at h
  split at h
  · obtain ⟨r, hf, h⟩ := Option.bind_eq_some_iff.mp h
    exact ⟨ovV r, fun ht => sp_of hX.1 (by decide) (List.mem_range.mpr (by decide)) (by decide +kernel) ht (Nat.le_of_ble_eq_true rfl) (s_M_turnsBack hX _ _ _ _ hf), trivial, h⟩
  · cases h
noncomputable def b_M_walksOf (k0 : Nat) (v1 : Int32) (s : Mem) : Option (Int32 × Mem) :=
  (f_M_clearsFacts k0 s).bind fun r1 =>
  gd (inb (((62 : Int32)) + v1) (lenM (k0 + 1))) <|
  gd (inb ((4 : Int32)) (lenM (k0 + 10))) <|
  let s2 : Mem := wI r1 (k0 + 10) (ix ((4 : Int32))) (rI r1 (k0 + 1) (ix (((62 : Int32)) + v1)))
  gd (inb (((86 : Int32)) + v1) (lenM (k0 + 1))) <|
  gd (inb ((5 : Int32)) (lenM (k0 + 10))) <|
  let s3 : Mem := wI s2 (k0 + 10) (ix ((5 : Int32))) (rI s2 (k0 + 1) (ix (((86 : Int32)) + v1)))
  gd (inb (((37 : Int32)) + v1) (lenM (k0 + 1))) <|
  gd (inb ((6 : Int32)) (lenM (k0 + 10))) <|
  let s4 : Mem := wI s3 (k0 + 10) (ix ((6 : Int32))) (rI s3 (k0 + 1) (ix (((37 : Int32)) + v1)))
  gd (inb (((13 : Int32)) + v1) (lenM (k0 + 1))) <|
  (f_M_greater ((0 : Int32)) (rI s4 (k0 + 1) (ix (((13 : Int32)) + v1))) s4).bind fun r5 =>
  gd (inb ((7 : Int32)) (lenM (k0 + 10))) <|
  let s6 : Mem := wI r5.2 (k0 + 10) (ix ((7 : Int32))) r5.1
  gd (inb (((62 : Int32)) + v1) (lenM (k0 + 1))) <|
  (f_M_says k0 ((21 : Int32)) (rI s6 (k0 + 1) (ix (((62 : Int32)) + v1))) ((20 : Int32)) s6).bind fun r7 =>
  some (r7.1, r7.2)
noncomputable def f_M_walksOf : Nat → Int32 → Mem → Option (Int32 × Mem) := Classical.choose (⟨b_M_walksOf, rfl⟩ : ∃ f : Nat → Int32 → Mem → Option (Int32 × Mem), f = b_M_walksOf)
theorem f_M_walksOf_eq : f_M_walksOf = b_M_walksOf := Classical.choose_spec (⟨b_M_walksOf, rfl⟩ : ∃ f : Nat → Int32 → Mem → Option (Int32 × Mem), f = b_M_walksOf)
noncomputable def sm_M_walksOf (O : Type) (av : List AV) (σ : Mem) (K : AV → Mem → Option O) : Option O := match av with
  | [.inr (.inr (12, k0)), .inl v1] => (f_M_walksOf k0 v1 σ).bind fun r => K (.inl r.1) r.2
  | _ => none
def c_M_walksOf : List (List CE) := [[(0, .aload_n 0, 1, 0, 0, 0), (1, .invokevirtual 297, 3, 277, 1, 24), (4, .aload_n 0, 1, 0, 0, 0), (5, .getfield 37, 3, 12, 11, 0), (8, .iconst 4, 1, 4, 0, 0), (9, .aload_n 0, 1, 0, 0, 0), (10, .getfield 7, 3, 12, 0, 0), (13, .bipush 62, 2, 62, 0, 0), (15, .iload_n 1, 1, 0, 0, 0)], [(16, .iadd, 1, 0, 0, 0), (17, .iaload, 1, 0, 0, 0), (18, .iastore, 1, 0, 0, 0), (19, .aload_n 0, 1, 0, 0, 0), (20, .getfield 37, 3, 12, 11, 0), (23, .iconst 5, 1, 5, 0, 0), (24, .aload_n 0, 1, 0, 0, 0), (25, .getfield 7, 3, 12, 0, 0), (28, .bipush 86, 2, 86, 0, 0), (30, .iload_n 1, 1, 0, 0, 0), (31, .iadd, 1, 0, 0, 0)], [(32, .iaload, 1, 0, 0, 0), (33, .iastore, 1, 0, 0, 0), (34, .aload_n 0, 1, 0, 0, 0), (35, .getfield 37, 3, 12, 11, 0), (38, .bipush 6, 2, 6, 0, 0), (40, .aload_n 0, 1, 0, 0, 0), (41, .getfield 7, 3, 12, 0, 0), (44, .bipush 37, 2, 37, 0, 0), (46, .iload_n 1, 1, 0, 0, 0), (47, .iadd, 1, 0, 0, 0)], [(48, .iaload, 1, 0, 0, 0), (49, .iastore, 1, 0, 0, 0), (50, .aload_n 0, 1, 0, 0, 0), (51, .getfield 37, 3, 12, 11, 0), (54, .bipush 7, 2, 7, 0, 0), (56, .iconst 0, 1, 0, 0, 0), (57, .aload_n 0, 1, 0, 0, 0), (58, .getfield 7, 3, 12, 0, 0), (61, .bipush 13, 2, 13, 0, 0), (63, .iload_n 1, 1, 0, 0, 0)], [(64, .iadd, 1, 0, 0, 0), (65, .iaload, 1, 0, 0, 0), (66, .invokestatic 294, 3, 283, 2, 1), (69, .iastore, 1, 0, 0, 0), (70, .aload_n 0, 1, 0, 0, 0), (71, .bipush 21, 2, 21, 0, 0), (73, .aload_n 0, 1, 0, 0, 0), (74, .getfield 7, 3, 12, 0, 0), (77, .bipush 62, 2, 62, 0, 0), (79, .iload_n 1, 1, 0, 0, 0)], [(80, .iadd, 1, 0, 0, 0), (81, .iaload, 1, 0, 0, 0), (82, .bipush 20, 2, 20, 0, 0), (84, .invokevirtual 300, 3, 278, 4, 25), (87, .ireturn, 1, 0, 0, 0)]]
set_option maxRecDepth 100000 in
theorem oc_M_walksOf : okC 301 c_M_walksOf = true := by decide +kernel
def cu_M_walksOf : List (Nat × List Bool) := []
noncomputable def F_M_walksOf (O : Type) (a : Nat) (av : List AV) (σ : Mem) (K : AV → Mem → Option O) : Option O := if a = 277 then sm_M_clearsFacts O av σ K else if a = 278 then sm_M_says O av σ K else if a = 283 then sm_M_greater O av σ K else none
theorem fs_M_walksOf {X : CXT} (hX : XM X) (O : Type) : FS X 5 (F_M_walksOf O) := by
  intro a av σ K o h
  unfold F_M_walksOf at h
  rcases ite_s h with ⟨rfl, h⟩ | ⟨_, h⟩
  · obtain ⟨r, h1, h2, h3⟩ := ok_M_clearsFacts hX _ _ _ _ _ h
    exact ⟨r, fun ht => ⟨1, by decide, h1 ht⟩, h2, h3⟩
  rcases ite_s h with ⟨rfl, h⟩ | ⟨_, h⟩
  · obtain ⟨r, h1, h2, h3⟩ := ok_M_says hX _ _ _ _ _ h
    exact ⟨r, fun ht => ⟨4, by decide, h1 ht⟩, h2, h3⟩
  rcases ite_s h with ⟨rfl, h⟩ | ⟨_, h⟩
  · obtain ⟨r, h1, h2, h3⟩ := ok_M_greater hX _ _ _ _ _ h
    exact ⟨r, fun ht => ⟨1, by decide, h1 ht⟩, h2, h3⟩
  cases h
set_option maxRecDepth 100000 in
theorem s_M_walksOf {X : CXT} (hX : XM X) : ∀ (k0 : Nat) (v1 : Int32) (s : Mem) (o : Int32 × Mem), f_M_walksOf k0 v1 s = some o → BSnd X 5 301 (ovI o) 0 (entL [.inr (.inr (12, k0)), .inl v1]) [] s := by
  intro k0 v1 s o h
  rw [f_M_walksOf_eq] at h
  exact evC (chs := c_M_walksOf) (cuts := cu_M_walksOf) (G := fun pc ls st σ => none) hX.2.1 hX.2.2 (F := F_M_walksOf _) (fs_M_walksOf hX _) (rt_I rfl) oc_M_walksOf (by
    intro pc ls st σ o h
    cases h) 260 0 _ _ _ _ h
theorem ok_M_walksOf {X : CXT} (hX : XM X) : SemOK X 5 301 sm_M_walksOf := by
  intro O av σ K o h
  unfold sm_M_walksOf at h
  split at h
  · obtain ⟨r, hf, h⟩ := Option.bind_eq_some_iff.mp h
    exact ⟨ovI r, fun ht => sp_of hX.1 (by decide) (List.mem_range.mpr (by decide)) (by decide +kernel) ht (Nat.le_of_ble_eq_true rfl) (s_M_walksOf hX _ _ _ _ hf), trivial, h⟩
  · cases h
noncomputable def b_M_isNone (k0 : Nat) (v1 : Int32) (s : Mem) : Option (Bool × Mem) :=
  gd (inb ((0 : Int32)) (lenM (k0 + 1))) <|
  cif ((rI s (k0 + 1) (ix ((0 : Int32)))) ≤ v1) (
    some (true, s)) (
    (f_M_isBroken k0 v1 s).bind fun r1 =>
    cif ((b2i r1.1) = 0) (
      some (false, r1.2)) (
      some (true, r1.2)))
noncomputable def f_M_isNone : Nat → Int32 → Mem → Option (Bool × Mem) := Classical.choose (⟨b_M_isNone, rfl⟩ : ∃ f : Nat → Int32 → Mem → Option (Bool × Mem), f = b_M_isNone)
theorem f_M_isNone_eq : f_M_isNone = b_M_isNone := Classical.choose_spec (⟨b_M_isNone, rfl⟩ : ∃ f : Nat → Int32 → Mem → Option (Bool × Mem), f = b_M_isNone)
noncomputable def sm_M_isNone (O : Type) (av : List AV) (σ : Mem) (K : AV → Mem → Option O) : Option O := match av with
  | [.inr (.inr (12, k0)), .inl v1] => (f_M_isNone k0 v1 σ).bind fun r => K (.inl (b2i r.1)) r.2
  | _ => none
def c_M_isNone : List (List CE) := [[(0, .iload_n 1, 1, 0, 0, 0), (1, .aload_n 0, 1, 0, 0, 0), (2, .getfield 7, 3, 12, 0, 0), (5, .iconst 0, 1, 0, 0, 0), (6, .iaload, 1, 0, 0, 0), (7, .if_icmp .ge 11, 3, 18, 0, 0), (10, .aload_n 0, 1, 0, 0, 0), (11, .iload_n 1, 1, 0, 0, 0), (12, .invokevirtual 320, 3, 288, 2, 25), (15, .ifCond .eq 7, 3, 22, 0, 0)], [(18, .iconst 1, 1, 1, 0, 0), (19, .goto 4, 3, 23, 0, 0), (22, .iconst 0, 1, 0, 0, 0), (23, .ireturn, 1, 0, 0, 0)]]
set_option maxRecDepth 100000 in
theorem oc_M_isNone : okC 303 c_M_isNone = true := by decide +kernel
def cu_M_isNone : List (Nat × List Bool) := []
noncomputable def F_M_isNone (O : Type) (a : Nat) (av : List AV) (σ : Mem) (K : AV → Mem → Option O) : Option O := if a = 288 then sm_M_isBroken O av σ K else none
theorem fs_M_isNone {X : CXT} (hX : XM X) (O : Type) : FS X 2 (F_M_isNone O) := by
  intro a av σ K o h
  unfold F_M_isNone at h
  rcases ite_s h with ⟨rfl, h⟩ | ⟨_, h⟩
  · obtain ⟨r, h1, h2, h3⟩ := ok_M_isBroken hX _ _ _ _ _ h
    exact ⟨r, fun ht => ⟨1, by decide, h1 ht⟩, h2, h3⟩
  cases h
set_option maxRecDepth 100000 in
theorem s_M_isNone {X : CXT} (hX : XM X) : ∀ (k0 : Nat) (v1 : Int32) (s : Mem) (o : Bool × Mem), f_M_isNone k0 v1 s = some o → BSnd X 2 303 (ovZ o) 0 (entL [.inr (.inr (12, k0)), .inl v1]) [] s := by
  intro k0 v1 s o h
  rw [f_M_isNone_eq] at h
  exact evC (chs := c_M_isNone) (cuts := cu_M_isNone) (G := fun pc ls st σ => none) hX.2.1 hX.2.2 (F := F_M_isNone _) (fs_M_isNone hX _) (rt_Z rfl) oc_M_isNone (by
    intro pc ls st σ o h
    cases h) 96 0 _ _ _ _ h
theorem ok_M_isNone {X : CXT} (hX : XM X) : SemOK X 2 303 sm_M_isNone := by
  intro O av σ K o h
  unfold sm_M_isNone at h
  split at h
  · obtain ⟨r, hf, h⟩ := Option.bind_eq_some_iff.mp h
    exact ⟨ovZ r, fun ht => sp_of hX.1 (by decide) (List.mem_range.mpr (by decide)) (by decide +kernel) ht (Nat.le_of_ble_eq_true rfl) (s_M_isNone hX _ _ _ _ hf), trivial, h⟩
  · cases h
noncomputable def b_M_goesAshore (k0 : Nat) (v1 : Int32) (s : Mem) : Option (Mem) :=
  gd (inb (((13 : Int32)) + v1) (lenM (k0 + 1))) <|
  let s1 : Mem := wI s (k0 + 1) (ix (((13 : Int32)) + v1)) ((-1 : Int32))
  gd (inb (((25 : Int32)) + v1) (lenM (k0 + 1))) <|
  let s2 : Mem := wI s1 (k0 + 1) (ix (((25 : Int32)) + v1)) ((0 : Int32))
  gd (inb (((37 : Int32)) + v1) (lenM (k0 + 1))) <|
  let s3 : Mem := wI s2 (k0 + 1) (ix (((37 : Int32)) + v1)) ((0 : Int32))
  some s3
noncomputable def f_M_goesAshore : Nat → Int32 → Mem → Option (Mem) := Classical.choose (⟨b_M_goesAshore, rfl⟩ : ∃ f : Nat → Int32 → Mem → Option (Mem), f = b_M_goesAshore)
theorem f_M_goesAshore_eq : f_M_goesAshore = b_M_goesAshore := Classical.choose_spec (⟨b_M_goesAshore, rfl⟩ : ∃ f : Nat → Int32 → Mem → Option (Mem), f = b_M_goesAshore)
noncomputable def sm_M_goesAshore (O : Type) (av : List AV) (σ : Mem) (K : AV → Mem → Option O) : Option O := match av with
  | [.inr (.inr (12, k0)), .inl v1] => (f_M_goesAshore k0 v1 σ).bind fun r => K (.inl 0) r
  | _ => none
def c_M_goesAshore : List (List CE) := [[(0, .aload_n 0, 1, 0, 0, 0), (1, .getfield 7, 3, 12, 0, 0), (4, .bipush 13, 2, 13, 0, 0), (6, .iload_n 1, 1, 0, 0, 0), (7, .iadd, 1, 0, 0, 0), (8, .iconst (-1), 1, 1, 0, 1), (9, .iastore, 1, 0, 0, 0), (10, .aload_n 0, 1, 0, 0, 0), (11, .getfield 7, 3, 12, 0, 0), (14, .bipush 25, 2, 25, 0, 0)], [(16, .iload_n 1, 1, 0, 0, 0), (17, .iadd, 1, 0, 0, 0), (18, .iconst 0, 1, 0, 0, 0), (19, .iastore, 1, 0, 0, 0), (20, .aload_n 0, 1, 0, 0, 0), (21, .getfield 7, 3, 12, 0, 0), (24, .bipush 37, 2, 37, 0, 0), (26, .iload_n 1, 1, 0, 0, 0), (27, .iadd, 1, 0, 0, 0), (28, .iconst 0, 1, 0, 0, 0), (29, .iastore, 1, 0, 0, 0), (30, .return_, 1, 0, 0, 0)]]
set_option maxRecDepth 100000 in
theorem oc_M_goesAshore : okC 304 c_M_goesAshore = true := by decide +kernel
def cu_M_goesAshore : List (Nat × List Bool) := []
noncomputable def F_M_goesAshore (O : Type) (a : Nat) (av : List AV) (σ : Mem) (K : AV → Mem → Option O) : Option O := none
theorem fs_M_goesAshore {X : CXT} (hX : XM X) (O : Type) : FS X 1 (F_M_goesAshore O) := by
  intro a av σ K o h
  cases h
set_option maxRecDepth 100000 in
theorem s_M_goesAshore {X : CXT} (hX : XM X) : ∀ (k0 : Nat) (v1 : Int32) (s : Mem) (o : Mem), f_M_goesAshore k0 v1 s = some o → BSnd X 1 304 (ovV o) 0 (entL [.inr (.inr (12, k0)), .inl v1]) [] s := by
  intro k0 v1 s o h
  rw [f_M_goesAshore_eq] at h
  exact evC (chs := c_M_goesAshore) (cuts := cu_M_goesAshore) (G := fun pc ls st σ => none) hX.2.1 hX.2.2 (F := F_M_goesAshore _) (fs_M_goesAshore hX _) (rt_V rfl) oc_M_goesAshore (by
    intro pc ls st σ o h
    cases h) 128 0 _ _ _ _ h
theorem ok_M_goesAshore {X : CXT} (hX : XM X) : SemOK X 1 304 sm_M_goesAshore := by
  intro O av σ K o h
  unfold sm_M_goesAshore at h
  split at h
  · obtain ⟨r, hf, h⟩ := Option.bind_eq_some_iff.mp h
    exact ⟨ovV r, fun ht => sp_of hX.1 (by decide) (List.mem_range.mpr (by decide)) (by decide +kernel) ht (Nat.le_of_ble_eq_true rfl) (s_M_goesAshore hX _ _ _ _ hf), trivial, h⟩
  · cases h
noncomputable def b_M_stepsOn (k0 : Nat) (v1 : Int32) (s : Mem) : Option (Bool × Mem) :=
  gd (inb (((13 : Int32)) + v1) (lenM (k0 + 1))) <|
  let x1 : Int32 := rI s (k0 + 1) (ix (((13 : Int32)) + v1))
  gd (inb (((25 : Int32)) + v1) (lenM (k0 + 1))) <|
  cif ((rI s (k0 + 1) (ix (((25 : Int32)) + v1))) = ((1 : Int32))) (
    (f_M_isNone k0 (x1 + ((1 : Int32))) s).bind fun r2 =>
    cif ((b2i r2.1) = 0) (
      gd (inb (((13 : Int32)) + v1) (lenM (k0 + 1))) <|
      let s3 : Mem := wI r2.2 (k0 + 1) (ix (((13 : Int32)) + v1)) (x1 + ((1 : Int32)))
      some (true, s3)) (
      (f_M_turnsBack k0 v1 r2.2).bind fun r4 =>
      some (false, r4))) (
    cif (x1 = 0) (
      gd (inb ((2 : Int32)) (lenM (k0 + 1))) <|
      (f_M_notes k0 ((5 : Int32)) v1 (rI s (k0 + 1) (ix ((2 : Int32)))) s).bind fun r5 =>
      (f_M_goesAshore k0 v1 r5).bind fun r6 =>
      some (false, r6)) (
      (f_M_isNone k0 (x1 - ((1 : Int32))) s).bind fun r7 =>
      cif ((b2i r7.1) = 0) (
        gd (inb (((13 : Int32)) + v1) (lenM (k0 + 1))) <|
        let s8 : Mem := wI r7.2 (k0 + 1) (ix (((13 : Int32)) + v1)) (x1 - ((1 : Int32)))
        some (true, s8)) (
        some (false, r7.2))))
noncomputable def f_M_stepsOn : Nat → Int32 → Mem → Option (Bool × Mem) := Classical.choose (⟨b_M_stepsOn, rfl⟩ : ∃ f : Nat → Int32 → Mem → Option (Bool × Mem), f = b_M_stepsOn)
theorem f_M_stepsOn_eq : f_M_stepsOn = b_M_stepsOn := Classical.choose_spec (⟨b_M_stepsOn, rfl⟩ : ∃ f : Nat → Int32 → Mem → Option (Bool × Mem), f = b_M_stepsOn)
noncomputable def sm_M_stepsOn (O : Type) (av : List AV) (σ : Mem) (K : AV → Mem → Option O) : Option O := match av with
  | [.inr (.inr (12, k0)), .inl v1] => (f_M_stepsOn k0 v1 σ).bind fun r => K (.inl (b2i r.1)) r.2
  | _ => none
def c_M_stepsOn : List (List CE) := [[(0, .aload_n 0, 1, 0, 0, 0), (1, .getfield 7, 3, 12, 0, 0), (4, .bipush 13, 2, 13, 0, 0), (6, .iload_n 1, 1, 0, 0, 0), (7, .iadd, 1, 0, 0, 0), (8, .iaload, 1, 0, 0, 0), (9, .istore_n 2, 1, 0, 0, 0), (10, .aload_n 0, 1, 0, 0, 0), (11, .getfield 7, 3, 12, 0, 0), (14, .bipush 25, 2, 25, 0, 0)], [(16, .iload_n 1, 1, 0, 0, 0), (17, .iadd, 1, 0, 0, 0), (18, .iaload, 1, 0, 0, 0), (19, .iconst 1, 1, 1, 0, 0), (20, .if_icmp .ne 34, 3, 54, 0, 0), (23, .aload_n 0, 1, 0, 0, 0), (24, .iload_n 2, 1, 0, 0, 0), (25, .iconst 1, 1, 1, 0, 0), (26, .iadd, 1, 0, 0, 0), (27, .invokevirtual 351, 3, 303, 2, 25), (30, .ifCond .eq 10, 3, 40, 0, 0)], [(33, .aload_n 0, 1, 0, 0, 0), (34, .iload_n 1, 1, 0, 0, 0), (35, .invokevirtual 354, 3, 300, 2, 24), (38, .iconst 0, 1, 0, 0, 0), (39, .ireturn, 1, 0, 0, 0), (40, .aload_n 0, 1, 0, 0, 0), (41, .getfield 7, 3, 12, 0, 0), (44, .bipush 13, 2, 13, 0, 0), (46, .iload_n 1, 1, 0, 0, 0), (47, .iadd, 1, 0, 0, 0)], [(48, .iload_n 2, 1, 0, 0, 0), (49, .iconst 1, 1, 1, 0, 0), (50, .iadd, 1, 0, 0, 0), (51, .iastore, 1, 0, 0, 0), (52, .iconst 1, 1, 1, 0, 0), (53, .ireturn, 1, 0, 0, 0), (54, .iload_n 2, 1, 0, 0, 0), (55, .ifCond .ne 22, 3, 77, 0, 0), (58, .aload_n 0, 1, 0, 0, 0), (59, .iconst 5, 1, 5, 0, 0), (60, .iload_n 1, 1, 0, 0, 0), (61, .aload_n 0, 1, 0, 0, 0), (62, .getfield 7, 3, 12, 0, 0)], [(65, .iconst 2, 1, 2, 0, 0), (66, .iaload, 1, 0, 0, 0), (67, .invokevirtual 310, 3, 284, 4, 24), (70, .aload_n 0, 1, 0, 0, 0), (71, .iload_n 1, 1, 0, 0, 0), (72, .invokevirtual 357, 3, 304, 2, 24), (75, .iconst 0, 1, 0, 0, 0), (76, .ireturn, 1, 0, 0, 0), (77, .aload_n 0, 1, 0, 0, 0), (78, .iload_n 2, 1, 0, 0, 0), (79, .iconst 1, 1, 1, 0, 0)], [(80, .isub, 1, 0, 0, 0), (81, .invokevirtual 351, 3, 303, 2, 25), (84, .ifCond .eq 5, 3, 89, 0, 0), (87, .iconst 0, 1, 0, 0, 0), (88, .ireturn, 1, 0, 0, 0), (89, .aload_n 0, 1, 0, 0, 0), (90, .getfield 7, 3, 12, 0, 0), (93, .bipush 13, 2, 13, 0, 0), (95, .iload_n 1, 1, 0, 0, 0)], [(96, .iadd, 1, 0, 0, 0), (97, .iload_n 2, 1, 0, 0, 0), (98, .iconst 1, 1, 1, 0, 0), (99, .isub, 1, 0, 0, 0), (100, .iastore, 1, 0, 0, 0), (101, .iconst 1, 1, 1, 0, 0), (102, .ireturn, 1, 0, 0, 0)]]
set_option maxRecDepth 100000 in
theorem oc_M_stepsOn : okC 302 c_M_stepsOn = true := by decide +kernel
def cu_M_stepsOn : List (Nat × List Bool) := []
noncomputable def F_M_stepsOn (O : Type) (a : Nat) (av : List AV) (σ : Mem) (K : AV → Mem → Option O) : Option O := if a = 284 then sm_M_notes O av σ K else if a = 300 then sm_M_turnsBack O av σ K else if a = 303 then sm_M_isNone O av σ K else if a = 304 then sm_M_goesAshore O av σ K else none
theorem fs_M_stepsOn {X : CXT} (hX : XM X) (O : Type) : FS X 3 (F_M_stepsOn O) := by
  intro a av σ K o h
  unfold F_M_stepsOn at h
  rcases ite_s h with ⟨rfl, h⟩ | ⟨_, h⟩
  · obtain ⟨r, h1, h2, h3⟩ := ok_M_notes hX _ _ _ _ _ h
    exact ⟨r, fun ht => ⟨1, by decide, h1 ht⟩, h2, h3⟩
  rcases ite_s h with ⟨rfl, h⟩ | ⟨_, h⟩
  · obtain ⟨r, h1, h2, h3⟩ := ok_M_turnsBack hX _ _ _ _ _ h
    exact ⟨r, fun ht => ⟨2, by decide, h1 ht⟩, h2, h3⟩
  rcases ite_s h with ⟨rfl, h⟩ | ⟨_, h⟩
  · obtain ⟨r, h1, h2, h3⟩ := ok_M_isNone hX _ _ _ _ _ h
    exact ⟨r, fun ht => ⟨2, by decide, h1 ht⟩, h2, h3⟩
  rcases ite_s h with ⟨rfl, h⟩ | ⟨_, h⟩
  · obtain ⟨r, h1, h2, h3⟩ := ok_M_goesAshore hX _ _ _ _ _ h
    exact ⟨r, fun ht => ⟨1, by decide, h1 ht⟩, h2, h3⟩
  cases h
set_option maxRecDepth 100000 in
theorem s_M_stepsOn {X : CXT} (hX : XM X) : ∀ (k0 : Nat) (v1 : Int32) (s : Mem) (o : Bool × Mem), f_M_stepsOn k0 v1 s = some o → BSnd X 3 302 (ovZ o) 0 (entL [.inr (.inr (12, k0)), .inl v1]) [] s := by
  intro k0 v1 s o h
  rw [f_M_stepsOn_eq] at h
  exact evC (chs := c_M_stepsOn) (cuts := cu_M_stepsOn) (G := fun pc ls st σ => none) hX.2.1 hX.2.2 (F := F_M_stepsOn _) (fs_M_stepsOn hX _) (rt_Z rfl) oc_M_stepsOn (by
    intro pc ls st σ o h
    cases h) 324 0 _ _ _ _ h
theorem ok_M_stepsOn {X : CXT} (hX : XM X) : SemOK X 3 302 sm_M_stepsOn := by
  intro O av σ K o h
  unfold sm_M_stepsOn at h
  split at h
  · obtain ⟨r, hf, h⟩ := Option.bind_eq_some_iff.mp h
    exact ⟨ovZ r, fun ht => sp_of hX.1 (by decide) (List.mem_range.mpr (by decide)) (by decide +kernel) ht (Nat.le_of_ble_eq_true rfl) (s_M_stepsOn hX _ _ _ _ hf), trivial, h⟩
  · cases h
noncomputable def f_M_walksADay_76 (K114 : Nat → Int32 → Int32 → Mem → Option (Int32 × Mem)) : Nat → Nat → Int32 → Int32 → Int32 → Int32 → Int32 → Mem → Option (Int32 × Mem)
  | 0, _, _, _, _, _, _, _ => none
  | n + 1, k0, v1, v2, v3, v4, v5, s =>
    cif (v2 ≤ v5) (
      K114 k0 v1 v3 s) (
      cif (v4 = 0) (
        K114 k0 v1 v3 s) (
        (f_M_stepsOn k0 v1 s).bind fun r1 =>
        let x2 : Int32 := b2i r1.1
        gd (inb (((13 : Int32)) + v1) (lenM (k0 + 1))) <|
        (f_M_greater v3 (rI r1.2 (k0 + 1) (ix (((13 : Int32)) + v1))) r1.2).bind fun r3 =>
        f_M_walksADay_76 K114 n k0 v1 v2 r3.1 x2 (v5 + (1 : Int32)) r3.2))
noncomputable def f_M_walksADay_114 (k0 : Nat) (v1 : Int32) (v3 : Int32) (s : Mem) : Option (Int32 × Mem) :=
  (f_M_isAshore k0 v1 s).bind fun r1 =>
  cif ((b2i r1.1) = 0) (
    gd (inb (((37 : Int32)) + v1) (lenM (k0 + 1))) <|
    cif ((rI r1.2 (k0 + 1) (ix (((37 : Int32)) + v1))) ≤ 0) (
      gd (inb (((13 : Int32)) + v1) (lenM (k0 + 1))) <|
      (f_M_notes k0 ((6 : Int32)) v1 (rI r1.2 (k0 + 1) (ix (((13 : Int32)) + v1))) r1.2).bind fun r2 =>
      (f_M_goesAshore k0 v1 r2).bind fun r3 =>
      gd (inb ((3 : Int32)) (lenM (k0 + 1))) <|
      gd (inb ((3 : Int32)) (lenM (k0 + 1))) <|
      let s4 : Mem := wI r3 (k0 + 1) (ix ((3 : Int32))) ((rI r3 (k0 + 1) (ix ((3 : Int32)))) + ((1 : Int32)))
      some (v3, s4)) (
      some (v3, r1.2))) (
    some (v3, r1.2))
noncomputable def f_M_walksADay_54 (k0 : Nat) (v1 : Int32) (s : Mem) : Option (Int32 × Mem) :=
  (f_M_walksOf k0 v1 s).bind fun r1 =>
  gd (inb (((13 : Int32)) + v1) (lenM (k0 + 1))) <|
  let x2 : Int32 := rI r1.2 (k0 + 1) (ix (((13 : Int32)) + v1))
  f_M_walksADay_76 (fun k0 v1 v3 s => f_M_walksADay_114 k0 v1 v3 s) FU k0 v1 r1.1 x2 ((1 : Int32)) ((0 : Int32)) r1.2
noncomputable def b_M_walksADay (k0 : Nat) (v1 : Int32) (s : Mem) : Option (Int32 × Mem) :=
  gd (inb (((37 : Int32)) + v1) (lenM (k0 + 1))) <|
  gd (inb (((37 : Int32)) + v1) (lenM (k0 + 1))) <|
  let s1 : Mem := wI s (k0 + 1) (ix (((37 : Int32)) + v1)) ((rI s (k0 + 1) (ix (((37 : Int32)) + v1))) - ((1 : Int32)))
  gd (inb (((25 : Int32)) + v1) (lenM (k0 + 1))) <|
  cif ((rI s1 (k0 + 1) (ix (((25 : Int32)) + v1))) = ((1 : Int32))) (
    gd (inb (((37 : Int32)) + v1) (lenM (k0 + 1))) <|
    gd (inb (((74 : Int32)) + v1) (lenM (k0 + 1))) <|
    cif (((rI s1 (k0 + 1) (ix (((74 : Int32)) + v1))) / ((2 : Int32))) < (rI s1 (k0 + 1) (ix (((37 : Int32)) + v1)))) (
      f_M_walksADay_54 k0 v1 s1) (
      (f_M_turnsBack k0 v1 s1).bind fun r2 =>
      f_M_walksADay_54 k0 v1 r2)) (
    f_M_walksADay_54 k0 v1 s1)
noncomputable def f_M_walksADay : Nat → Int32 → Mem → Option (Int32 × Mem) := Classical.choose (⟨b_M_walksADay, rfl⟩ : ∃ f : Nat → Int32 → Mem → Option (Int32 × Mem), f = b_M_walksADay)
theorem f_M_walksADay_eq : f_M_walksADay = b_M_walksADay := Classical.choose_spec (⟨b_M_walksADay, rfl⟩ : ∃ f : Nat → Int32 → Mem → Option (Int32 × Mem), f = b_M_walksADay)
noncomputable def sm_M_walksADay (O : Type) (av : List AV) (σ : Mem) (K : AV → Mem → Option O) : Option O := match av with
  | [.inr (.inr (12, k0)), .inl v1] => (f_M_walksADay k0 v1 σ).bind fun r => K (.inl r.1) r.2
  | _ => none
def c_M_walksADay : List (List CE) := [[(0, .aload_n 0, 1, 0, 0, 0), (1, .getfield 7, 3, 12, 0, 0), (4, .bipush 37, 2, 37, 0, 0), (6, .iload_n 1, 1, 0, 0, 0), (7, .iadd, 1, 0, 0, 0), (8, .dup2, 1, 0, 0, 0), (9, .iaload, 1, 0, 0, 0), (10, .iconst 1, 1, 1, 0, 0), (11, .isub, 1, 0, 0, 0), (12, .iastore, 1, 0, 0, 0), (13, .aload_n 0, 1, 0, 0, 0), (14, .getfield 7, 3, 12, 0, 0)], [(17, .bipush 25, 2, 25, 0, 0), (19, .iload_n 1, 1, 0, 0, 0), (20, .iadd, 1, 0, 0, 0), (21, .iaload, 1, 0, 0, 0), (22, .iconst 1, 1, 1, 0, 0), (23, .if_icmp .ne 31, 3, 54, 0, 0), (26, .aload_n 0, 1, 0, 0, 0), (27, .getfield 7, 3, 12, 0, 0), (30, .bipush 37, 2, 37, 0, 0)], [(32, .iload_n 1, 1, 0, 0, 0), (33, .iadd, 1, 0, 0, 0), (34, .iaload, 1, 0, 0, 0), (35, .aload_n 0, 1, 0, 0, 0), (36, .getfield 7, 3, 12, 0, 0), (39, .bipush 74, 2, 74, 0, 0), (41, .iload_n 1, 1, 0, 0, 0), (42, .iadd, 1, 0, 0, 0), (43, .iaload, 1, 0, 0, 0), (44, .iconst 2, 1, 2, 0, 0), (45, .idiv, 1, 0, 0, 0), (46, .if_icmp .gt 8, 3, 54, 0, 0)], [(49, .aload_n 0, 1, 0, 0, 0), (50, .iload_n 1, 1, 0, 0, 0), (51, .invokevirtual 354, 3, 300, 2, 24), (54, .aload_n 0, 1, 0, 0, 0), (55, .iload_n 1, 1, 0, 0, 0), (56, .invokevirtual 360, 3, 301, 2, 25), (59, .istore_n 2, 1, 0, 0, 0), (60, .aload_n 0, 1, 0, 0, 0), (61, .getfield 7, 3, 12, 0, 0)], [(64, .bipush 13, 2, 13, 0, 0), (66, .iload_n 1, 1, 0, 0, 0), (67, .iadd, 1, 0, 0, 0), (68, .iaload, 1, 0, 0, 0), (69, .istore_n 3, 1, 0, 0, 0), (70, .iconst 1, 1, 1, 0, 0), (71, .istore 4, 2, 0, 0, 0), (73, .iconst 0, 1, 0, 0, 0), (74, .istore 5, 2, 0, 0, 0), (76, .iload 5, 2, 0, 0, 0), (78, .iload_n 2, 1, 0, 0, 0), (79, .if_icmp .ge 35, 3, 114, 0, 0)], [(82, .iload 4, 2, 0, 0, 0), (84, .ifCond .eq 30, 3, 114, 0, 0), (87, .aload_n 0, 1, 0, 0, 0), (88, .iload_n 1, 1, 0, 0, 0), (89, .invokevirtual 363, 3, 302, 2, 25), (92, .istore 4, 2, 0, 0, 0), (94, .iload_n 3, 1, 0, 0, 0), (95, .aload_n 0, 1, 0, 0, 0)], [(96, .getfield 7, 3, 12, 0, 0), (99, .bipush 13, 2, 13, 0, 0), (101, .iload_n 1, 1, 0, 0, 0), (102, .iadd, 1, 0, 0, 0), (103, .iaload, 1, 0, 0, 0), (104, .invokestatic 294, 3, 283, 2, 1), (107, .istore_n 3, 1, 0, 0, 0), (108, .iinc 5 1, 3, 1, 0, 0), (111, .goto (-35), 3, 76, 0, 0)], [(114, .aload_n 0, 1, 0, 0, 0), (115, .iload_n 1, 1, 0, 0, 0), (116, .invokevirtual 80, 3, 234, 2, 25), (119, .ifCond .ne 15, 3, 134, 0, 0), (122, .aload_n 0, 1, 0, 0, 0), (123, .getfield 7, 3, 12, 0, 0), (126, .bipush 37, 2, 37, 0, 0)], [(128, .iload_n 1, 1, 0, 0, 0), (129, .iadd, 1, 0, 0, 0), (130, .iaload, 1, 0, 0, 0), (131, .ifCond .le 5, 3, 136, 0, 0), (134, .iload_n 3, 1, 0, 0, 0), (135, .ireturn, 1, 0, 0, 0), (136, .aload_n 0, 1, 0, 0, 0), (137, .bipush 6, 2, 6, 0, 0), (139, .iload_n 1, 1, 0, 0, 0), (140, .aload_n 0, 1, 0, 0, 0), (141, .getfield 7, 3, 12, 0, 0)], [(144, .bipush 13, 2, 13, 0, 0), (146, .iload_n 1, 1, 0, 0, 0), (147, .iadd, 1, 0, 0, 0), (148, .iaload, 1, 0, 0, 0), (149, .invokevirtual 310, 3, 284, 4, 24), (152, .aload_n 0, 1, 0, 0, 0), (153, .iload_n 1, 1, 0, 0, 0), (154, .invokevirtual 357, 3, 304, 2, 24), (157, .aload_n 0, 1, 0, 0, 0), (158, .getfield 7, 3, 12, 0, 0)], [(161, .iconst 3, 1, 3, 0, 0), (162, .dup2, 1, 0, 0, 0), (163, .iaload, 1, 0, 0, 0), (164, .iconst 1, 1, 1, 0, 0), (165, .iadd, 1, 0, 0, 0), (166, .iastore, 1, 0, 0, 0), (167, .iload_n 3, 1, 0, 0, 0), (168, .ireturn, 1, 0, 0, 0)]]
set_option maxRecDepth 100000 in
theorem oc_M_walksADay : okC 299 c_M_walksADay = true := by decide +kernel
def cu_M_walksADay : List (Nat × List Bool) := [(76, [true, true, true, true, true, true]), (114, [true, true, false, true]), (54, [true, true])]
noncomputable def F_M_walksADay (O : Type) (a : Nat) (av : List AV) (σ : Mem) (K : AV → Mem → Option O) : Option O := if a = 234 then sm_M_isAshore O av σ K else if a = 283 then sm_M_greater O av σ K else if a = 284 then sm_M_notes O av σ K else if a = 300 then sm_M_turnsBack O av σ K else if a = 301 then sm_M_walksOf O av σ K else if a = 302 then sm_M_stepsOn O av σ K else if a = 304 then sm_M_goesAshore O av σ K else none
theorem fs_M_walksADay {X : CXT} (hX : XM X) (O : Type) : FS X 6 (F_M_walksADay O) := by
  intro a av σ K o h
  unfold F_M_walksADay at h
  rcases ite_s h with ⟨rfl, h⟩ | ⟨_, h⟩
  · obtain ⟨r, h1, h2, h3⟩ := ok_M_isAshore hX _ _ _ _ _ h
    exact ⟨r, fun ht => ⟨1, by decide, h1 ht⟩, h2, h3⟩
  rcases ite_s h with ⟨rfl, h⟩ | ⟨_, h⟩
  · obtain ⟨r, h1, h2, h3⟩ := ok_M_greater hX _ _ _ _ _ h
    exact ⟨r, fun ht => ⟨1, by decide, h1 ht⟩, h2, h3⟩
  rcases ite_s h with ⟨rfl, h⟩ | ⟨_, h⟩
  · obtain ⟨r, h1, h2, h3⟩ := ok_M_notes hX _ _ _ _ _ h
    exact ⟨r, fun ht => ⟨1, by decide, h1 ht⟩, h2, h3⟩
  rcases ite_s h with ⟨rfl, h⟩ | ⟨_, h⟩
  · obtain ⟨r, h1, h2, h3⟩ := ok_M_turnsBack hX _ _ _ _ _ h
    exact ⟨r, fun ht => ⟨2, by decide, h1 ht⟩, h2, h3⟩
  rcases ite_s h with ⟨rfl, h⟩ | ⟨_, h⟩
  · obtain ⟨r, h1, h2, h3⟩ := ok_M_walksOf hX _ _ _ _ _ h
    exact ⟨r, fun ht => ⟨5, by decide, h1 ht⟩, h2, h3⟩
  rcases ite_s h with ⟨rfl, h⟩ | ⟨_, h⟩
  · obtain ⟨r, h1, h2, h3⟩ := ok_M_stepsOn hX _ _ _ _ _ h
    exact ⟨r, fun ht => ⟨3, by decide, h1 ht⟩, h2, h3⟩
  rcases ite_s h with ⟨rfl, h⟩ | ⟨_, h⟩
  · obtain ⟨r, h1, h2, h3⟩ := ok_M_goesAshore hX _ _ _ _ _ h
    exact ⟨r, fun ht => ⟨1, by decide, h1 ht⟩, h2, h3⟩
  cases h
def hd_M_walksADay_76 {O : Type} (g : Nat → Int32 → Int32 → Int32 → Int32 → Int32 → Mem → Option O) (ls : OL) (st : List AV) (σ : Mem) : Option O := match ls, st with
  | [some (.inr (.inr (12, k0))), some (.inl v1), some (.inl v2), some (.inl v3), some (.inl v4), some (.inl v5)], [] => g k0 v1 v2 v3 v4 v5 σ
  | _, _ => none
theorem hs_M_walksADay_76 {X : CXT} {g : Nat → Int32 → Int32 → Int32 → Int32 → Int32 → Mem → Option (Int32 × Mem)} (hg : ∀ (k0 : Nat) (v1 : Int32) (v2 : Int32) (v3 : Int32) (v4 : Int32) (v5 : Int32) (s : Mem) (o : Int32 × Mem), g k0 v1 v2 v3 v4 v5 s = some o → BSnd X 6 299 (ovI o) 76 [some (.inr (.inr (12, k0))), some (.inl v1), some (.inl v2), some (.inl v3), some (.inl v4), some (.inl v5)] [] s) : ∀ ls st σ o, hd_M_walksADay_76 g ls st σ = some o → BSnd X 6 299 (ovI o) 76 ls st σ := by
  intro ls st σ o h
  unfold hd_M_walksADay_76 at h
  split at h
  · exact hg _ _ _ _ _ _ _ _ h
  · cases h
def hd_M_walksADay_114 {O : Type} (g : Nat → Int32 → Int32 → Mem → Option O) (ls : OL) (st : List AV) (σ : Mem) : Option O := match ls, st with
  | [some (.inr (.inr (12, k0))), some (.inl v1), none, some (.inl v3)], [] => g k0 v1 v3 σ
  | _, _ => none
theorem hs_M_walksADay_114 {X : CXT} {g : Nat → Int32 → Int32 → Mem → Option (Int32 × Mem)} (hg : ∀ (k0 : Nat) (v1 : Int32) (v3 : Int32) (s : Mem) (o : Int32 × Mem), g k0 v1 v3 s = some o → BSnd X 6 299 (ovI o) 114 [some (.inr (.inr (12, k0))), some (.inl v1), none, some (.inl v3)] [] s) : ∀ ls st σ o, hd_M_walksADay_114 g ls st σ = some o → BSnd X 6 299 (ovI o) 114 ls st σ := by
  intro ls st σ o h
  unfold hd_M_walksADay_114 at h
  split at h
  · exact hg _ _ _ _ _ h
  · cases h
def hd_M_walksADay_54 {O : Type} (g : Nat → Int32 → Mem → Option O) (ls : OL) (st : List AV) (σ : Mem) : Option O := match ls, st with
  | [some (.inr (.inr (12, k0))), some (.inl v1)], [] => g k0 v1 σ
  | _, _ => none
theorem hs_M_walksADay_54 {X : CXT} {g : Nat → Int32 → Mem → Option (Int32 × Mem)} (hg : ∀ (k0 : Nat) (v1 : Int32) (s : Mem) (o : Int32 × Mem), g k0 v1 s = some o → BSnd X 6 299 (ovI o) 54 [some (.inr (.inr (12, k0))), some (.inl v1)] [] s) : ∀ ls st σ o, hd_M_walksADay_54 g ls st σ = some o → BSnd X 6 299 (ovI o) 54 ls st σ := by
  intro ls st σ o h
  unfold hd_M_walksADay_54 at h
  split at h
  · exact hg _ _ _ _ h
  · cases h
set_option maxRecDepth 100000 in
theorem s_M_walksADay_76 {X : CXT} (hX : XM X) {K114 : Nat → Int32 → Int32 → Mem → Option (Int32 × Mem)} (hK114 : ∀ (k0 : Nat) (v1 : Int32) (v3 : Int32) (s : Mem) (o : Int32 × Mem), K114 k0 v1 v3 s = some o → BSnd X 6 299 (ovI o) 114 [some (.inr (.inr (12, k0))), some (.inl v1), none, some (.inl v3)] [] s) : ∀ n : Nat, ∀ (k0 : Nat) (v1 : Int32) (v2 : Int32) (v3 : Int32) (v4 : Int32) (v5 : Int32) (s : Mem) (o : Int32 × Mem), f_M_walksADay_76 K114 n k0 v1 v2 v3 v4 v5 s = some o → BSnd X 6 299 (ovI o) 76 [some (.inr (.inr (12, k0))), some (.inl v1), some (.inl v2), some (.inl v3), some (.inl v4), some (.inl v5)] [] s := by
  intro n
  induction n with
  | zero => intro k0 v1 v2 v3 v4 v5 s o h; cases h
  | succ n ih =>
    intro k0 v1 v2 v3 v4 v5 s o h
    exact evC (chs := c_M_walksADay) (cuts := cu_M_walksADay) (G := fun pc ls st σ => if pc = 76 then hd_M_walksADay_76 (fun k0 v1 v2 v3 v4 v5 s => f_M_walksADay_76 K114 n k0 v1 v2 v3 v4 v5 s) ls st σ else if pc = 114 then hd_M_walksADay_114 (fun k0 v1 v3 s => K114 k0 v1 v3 s) ls st σ else none) hX.2.1 hX.2.2 (F := F_M_walksADay _) (fs_M_walksADay hX _) (rt_I rfl) oc_M_walksADay (by
    intro pc ls st σ o h
    rcases ite_s h with ⟨rfl, h⟩ | ⟨_, h⟩
    · exact hs_M_walksADay_76 ih _ _ _ _ h
    rcases ite_s h with ⟨rfl, h⟩ | ⟨_, h⟩
    · exact hs_M_walksADay_114 hK114 _ _ _ _ h
    cases h) 468 76 _ _ _ _ h
set_option maxRecDepth 100000 in
theorem s_M_walksADay_114 {X : CXT} (hX : XM X) : ∀ (k0 : Nat) (v1 : Int32) (v3 : Int32) (s : Mem) (o : Int32 × Mem), f_M_walksADay_114 k0 v1 v3 s = some o → BSnd X 6 299 (ovI o) 114 [some (.inr (.inr (12, k0))), some (.inl v1), none, some (.inl v3)] [] s := by
  intro k0 v1 v3 s o h
  exact evC (chs := c_M_walksADay) (cuts := cu_M_walksADay) (G := fun pc ls st σ => none) hX.2.1 hX.2.2 (F := F_M_walksADay _) (fs_M_walksADay hX _) (rt_I rfl) oc_M_walksADay (by
    intro pc ls st σ o h
    cases h) 468 114 _ _ _ _ h
set_option maxRecDepth 100000 in
theorem s_M_walksADay_54 {X : CXT} (hX : XM X) : ∀ (k0 : Nat) (v1 : Int32) (s : Mem) (o : Int32 × Mem), f_M_walksADay_54 k0 v1 s = some o → BSnd X 6 299 (ovI o) 54 [some (.inr (.inr (12, k0))), some (.inl v1)] [] s := by
  intro k0 v1 s o h
  exact evC (chs := c_M_walksADay) (cuts := cu_M_walksADay) (G := fun pc ls st σ => if pc = 76 then hd_M_walksADay_76 (fun k0 v1 v2 v3 v4 v5 s => f_M_walksADay_76 (fun k0 v1 v3 s => f_M_walksADay_114 k0 v1 v3 s) FU k0 v1 v2 v3 v4 v5 s) ls st σ else if pc = 114 then hd_M_walksADay_114 (fun k0 v1 v3 s => f_M_walksADay_114 k0 v1 v3 s) ls st σ else none) hX.2.1 hX.2.2 (F := F_M_walksADay _) (fs_M_walksADay hX _) (rt_I rfl) oc_M_walksADay (by
    intro pc ls st σ o h
    rcases ite_s h with ⟨rfl, h⟩ | ⟨_, h⟩
    · exact hs_M_walksADay_76 (s_M_walksADay_76 hX (s_M_walksADay_114 hX) FU) _ _ _ _ h
    rcases ite_s h with ⟨rfl, h⟩ | ⟨_, h⟩
    · exact hs_M_walksADay_114 (s_M_walksADay_114 hX) _ _ _ _ h
    cases h) 468 54 _ _ _ _ h
set_option maxRecDepth 100000 in
theorem s_M_walksADay {X : CXT} (hX : XM X) : ∀ (k0 : Nat) (v1 : Int32) (s : Mem) (o : Int32 × Mem), f_M_walksADay k0 v1 s = some o → BSnd X 6 299 (ovI o) 0 (entL [.inr (.inr (12, k0)), .inl v1]) [] s := by
  intro k0 v1 s o h
  rw [f_M_walksADay_eq] at h
  exact evC (chs := c_M_walksADay) (cuts := cu_M_walksADay) (G := fun pc ls st σ => if pc = 54 then hd_M_walksADay_54 (fun k0 v1 s => f_M_walksADay_54 k0 v1 s) ls st σ else none) hX.2.1 hX.2.2 (F := F_M_walksADay _) (fs_M_walksADay hX _) (rt_I rfl) oc_M_walksADay (by
    intro pc ls st σ o h
    rcases ite_s h with ⟨rfl, h⟩ | ⟨_, h⟩
    · exact hs_M_walksADay_54 (s_M_walksADay_54 hX) _ _ _ _ h
    cases h) 468 0 _ _ _ _ h
theorem ok_M_walksADay {X : CXT} (hX : XM X) : SemOK X 6 299 sm_M_walksADay := by
  intro O av σ K o h
  unfold sm_M_walksADay at h
  split at h
  · obtain ⟨r, hf, h⟩ := Option.bind_eq_some_iff.mp h
    exact ⟨ovI r, fun ht => sp_of hX.1 (by decide) (List.mem_range.mpr (by decide)) (by decide +kernel) ht (Nat.le_of_ble_eq_true rfl) (s_M_walksADay hX _ _ _ _ hf), trivial, h⟩
  · cases h
noncomputable def f_M_aDay_2 (K79 : Nat → Mem → Option (Int32 × Mem)) : Nat → Nat → Int32 → Mem → Option (Int32 × Mem)
  | 0, _, _, _ => none
  | n + 1, k0, v1, s =>
    gd (inb ((55 : Int32)) (lenM (k0 + 1))) <|
    cif ((rI s (k0 + 1) (ix ((55 : Int32)))) ≤ v1) (
      K79 k0 s) (
      gd (inb (((178 : Int32)) + (((2 : Int32)) * v1)) (lenM (k0 + 1))) <|
      gd (inb ((2 : Int32)) (lenM (k0 + 1))) <|
      cif ((rI s (k0 + 1) (ix (((178 : Int32)) + (((2 : Int32)) * v1)))) = (rI s (k0 + 1) (ix ((2 : Int32))))) (
        gd (inb ((((178 : Int32)) + (((2 : Int32)) * v1)) + ((1 : Int32))) (lenM (k0 + 1))) <|
        (f_M_canSetOff k0 (rI s (k0 + 1) (ix ((((178 : Int32)) + (((2 : Int32)) * v1)) + ((1 : Int32))))) s).bind fun r1 =>
        cif ((b2i r1.1) = 0) (
          f_M_aDay_2 K79 n k0 (v1 + (1 : Int32)) r1.2) (
          gd (inb ((((178 : Int32)) + (((2 : Int32)) * v1)) + ((1 : Int32))) (lenM (k0 + 1))) <|
          (f_M_setsOff k0 (rI r1.2 (k0 + 1) (ix ((((178 : Int32)) + (((2 : Int32)) * v1)) + ((1 : Int32))))) r1.2).bind fun r2 =>
          f_M_aDay_2 K79 n k0 (v1 + (1 : Int32)) r2)) (
        f_M_aDay_2 K79 n k0 (v1 + (1 : Int32)) s))
noncomputable def f_M_aDay_90 (K140 : Nat → Int32 → Int32 → Mem → Option (Int32 × Mem)) : Nat → Nat → Int32 → Int32 → Int32 → Mem → Option (Int32 × Mem)
  | 0, _, _, _, _, _ => none
  | n + 1, k0, v1, v2, v3, s =>
    gd (inb ((49 : Int32)) (lenM (k0 + 1))) <|
    cif ((rI s (k0 + 1) (ix ((49 : Int32)))) ≤ v3) (
      K140 k0 v1 v2 s) (
      (f_M_isAshore k0 v3 s).bind fun r1 =>
      cif ((b2i r1.1) = 0) (
        (f_M_walksADay k0 v3 r1.2).bind fun r2 =>
        (f_M_isAshore k0 v3 r2.2).bind fun r3 =>
        cif ((b2i r3.1) = 0) (
          let x4 : Int32 := v1 + ((0 : Int32))
          f_M_aDay_90 K140 n k0 x4 v2 (v3 + (1 : Int32)) r3.2) (
          let x5 : Int32 := v1 + ((1 : Int32))
          f_M_aDay_90 K140 n k0 x5 v2 (v3 + (1 : Int32)) r3.2)) (
        f_M_aDay_90 K140 n k0 v1 v2 (v3 + (1 : Int32)) r1.2))
noncomputable def f_M_aDay_140 (k0 : Nat) (v1 : Int32) (v2 : Int32) (s : Mem) : Option (Int32 × Mem) :=
  gd (inb ((2 : Int32)) (lenM (k0 + 1))) <|
  gd (inb ((2 : Int32)) (lenM (k0 + 1))) <|
  let s1 : Mem := wI s (k0 + 1) (ix ((2 : Int32))) ((rI s (k0 + 1) (ix ((2 : Int32)))) + ((1 : Int32)))
  gd (inb ((3 : Int32)) (lenM (k0 + 1))) <|
  some ((v1 - (rI s1 (k0 + 1) (ix ((3 : Int32))))) + v2, s1)
noncomputable def f_M_aDay_79 (k0 : Nat) (s : Mem) : Option (Int32 × Mem) :=
  gd (inb ((3 : Int32)) (lenM (k0 + 1))) <|
  let x1 : Int32 := rI s (k0 + 1) (ix ((3 : Int32)))
  f_M_aDay_90 (fun k0 v1 v2 s => f_M_aDay_140 k0 v1 v2 s) FU k0 ((0 : Int32)) x1 ((0 : Int32)) s
noncomputable def b_M_aDay (k0 : Nat) (s : Mem) : Option (Int32 × Mem) :=
  f_M_aDay_2 (fun k0 s => f_M_aDay_79 k0 s) FU k0 ((0 : Int32)) s
noncomputable def f_M_aDay : Nat → Mem → Option (Int32 × Mem) := Classical.choose (⟨b_M_aDay, rfl⟩ : ∃ f : Nat → Mem → Option (Int32 × Mem), f = b_M_aDay)
theorem f_M_aDay_eq : f_M_aDay = b_M_aDay := Classical.choose_spec (⟨b_M_aDay, rfl⟩ : ∃ f : Nat → Mem → Option (Int32 × Mem), f = b_M_aDay)
noncomputable def sm_M_aDay (O : Type) (av : List AV) (σ : Mem) (K : AV → Mem → Option O) : Option O := match av with
  | [.inr (.inr (12, k0))] => (f_M_aDay k0 σ).bind fun r => K (.inl r.1) r.2
  | _ => none
def c_M_aDay : List (List CE) := [[(0, .iconst 0, 1, 0, 0, 0), (1, .istore_n 1, 1, 0, 0, 0), (2, .iload_n 1, 1, 0, 0, 0), (3, .aload_n 0, 1, 0, 0, 0), (4, .getfield 7, 3, 12, 0, 0), (7, .bipush 55, 2, 55, 0, 0), (9, .iaload, 1, 0, 0, 0), (10, .if_icmp .ge 69, 3, 79, 0, 0), (13, .aload_n 0, 1, 0, 0, 0), (14, .getfield 7, 3, 12, 0, 0)], [(17, .sipush 178, 3, 178, 0, 0), (20, .iconst 2, 1, 2, 0, 0), (21, .iload_n 1, 1, 0, 0, 0), (22, .imul, 1, 0, 0, 0), (23, .iadd, 1, 0, 0, 0), (24, .iaload, 1, 0, 0, 0), (25, .aload_n 0, 1, 0, 0, 0), (26, .getfield 7, 3, 12, 0, 0), (29, .iconst 2, 1, 2, 0, 0), (30, .iaload, 1, 0, 0, 0), (31, .if_icmp .ne 42, 3, 73, 0, 0)], [(34, .aload_n 0, 1, 0, 0, 0), (35, .aload_n 0, 1, 0, 0, 0), (36, .getfield 7, 3, 12, 0, 0), (39, .sipush 178, 3, 178, 0, 0), (42, .iconst 2, 1, 2, 0, 0), (43, .iload_n 1, 1, 0, 0, 0), (44, .imul, 1, 0, 0, 0), (45, .iadd, 1, 0, 0, 0), (46, .iconst 1, 1, 1, 0, 0), (47, .iadd, 1, 0, 0, 0)], [(48, .iaload, 1, 0, 0, 0), (49, .invokevirtual 323, 3, 287, 2, 25), (52, .ifCond .eq 21, 3, 73, 0, 0), (55, .aload_n 0, 1, 0, 0, 0), (56, .aload_n 0, 1, 0, 0, 0), (57, .getfield 7, 3, 12, 0, 0), (60, .sipush 178, 3, 178, 0, 0), (63, .iconst 2, 1, 2, 0, 0)], [(64, .iload_n 1, 1, 0, 0, 0), (65, .imul, 1, 0, 0, 0), (66, .iadd, 1, 0, 0, 0), (67, .iconst 1, 1, 1, 0, 0), (68, .iadd, 1, 0, 0, 0), (69, .iaload, 1, 0, 0, 0), (70, .invokevirtual 330, 3, 289, 2, 24), (73, .iinc 1 1, 3, 1, 0, 0), (76, .goto (-74), 3, 2, 0, 0), (79, .iconst 0, 1, 0, 0, 0)], [(80, .istore_n 1, 1, 0, 0, 0), (81, .aload_n 0, 1, 0, 0, 0), (82, .getfield 7, 3, 12, 0, 0), (85, .iconst 3, 1, 3, 0, 0), (86, .iaload, 1, 0, 0, 0), (87, .istore_n 2, 1, 0, 0, 0), (88, .iconst 0, 1, 0, 0, 0), (89, .istore_n 3, 1, 0, 0, 0), (90, .iload_n 3, 1, 0, 0, 0), (91, .aload_n 0, 1, 0, 0, 0), (92, .getfield 7, 3, 12, 0, 0), (95, .bipush 49, 2, 49, 0, 0)], [(97, .iaload, 1, 0, 0, 0), (98, .if_icmp .ge 42, 3, 140, 0, 0), (101, .aload_n 0, 1, 0, 0, 0), (102, .iload_n 3, 1, 0, 0, 0), (103, .invokevirtual 80, 3, 234, 2, 25), (106, .ifCond .eq 6, 3, 112, 0, 0), (109, .goto 25, 3, 134, 0, 0)], [(112, .aload_n 0, 1, 0, 0, 0), (113, .iload_n 3, 1, 0, 0, 0), (114, .invokevirtual 366, 3, 299, 2, 25), (117, .pop, 1, 0, 0, 0), (118, .iload_n 1, 1, 0, 0, 0), (119, .aload_n 0, 1, 0, 0, 0), (120, .iload_n 3, 1, 0, 0, 0), (121, .invokevirtual 80, 3, 234, 2, 25), (124, .ifCond .eq 7, 3, 131, 0, 0), (127, .iconst 1, 1, 1, 0, 0)], [(128, .goto 4, 3, 132, 0, 0), (131, .iconst 0, 1, 0, 0, 0), (132, .iadd, 1, 0, 0, 0), (133, .istore_n 1, 1, 0, 0, 0), (134, .iinc 3 1, 3, 1, 0, 0), (137, .goto (-47), 3, 90, 0, 0), (140, .aload_n 0, 1, 0, 0, 0), (141, .getfield 7, 3, 12, 0, 0)], [(144, .iconst 2, 1, 2, 0, 0), (145, .dup2, 1, 0, 0, 0), (146, .iaload, 1, 0, 0, 0), (147, .iconst 1, 1, 1, 0, 0), (148, .iadd, 1, 0, 0, 0), (149, .iastore, 1, 0, 0, 0), (150, .iload_n 1, 1, 0, 0, 0), (151, .aload_n 0, 1, 0, 0, 0), (152, .getfield 7, 3, 12, 0, 0), (155, .iconst 3, 1, 3, 0, 0), (156, .iaload, 1, 0, 0, 0), (157, .isub, 1, 0, 0, 0), (158, .iload_n 2, 1, 0, 0, 0), (159, .iadd, 1, 0, 0, 0)], [(160, .ireturn, 1, 0, 0, 0)]]
set_option maxRecDepth 100000 in
theorem oc_M_aDay : okC 298 c_M_aDay = true := by decide +kernel
def cu_M_aDay : List (Nat × List Bool) := [(2, [true, true]), (90, [true, true, true, true]), (140, [true, true, true]), (79, [true])]
noncomputable def F_M_aDay (O : Type) (a : Nat) (av : List AV) (σ : Mem) (K : AV → Mem → Option O) : Option O := if a = 234 then sm_M_isAshore O av σ K else if a = 287 then sm_M_canSetOff O av σ K else if a = 289 then sm_M_setsOff O av σ K else if a = 299 then sm_M_walksADay O av σ K else none
theorem fs_M_aDay {X : CXT} (hX : XM X) (O : Type) : FS X 7 (F_M_aDay O) := by
  intro a av σ K o h
  unfold F_M_aDay at h
  rcases ite_s h with ⟨rfl, h⟩ | ⟨_, h⟩
  · obtain ⟨r, h1, h2, h3⟩ := ok_M_isAshore hX _ _ _ _ _ h
    exact ⟨r, fun ht => ⟨1, by decide, h1 ht⟩, h2, h3⟩
  rcases ite_s h with ⟨rfl, h⟩ | ⟨_, h⟩
  · obtain ⟨r, h1, h2, h3⟩ := ok_M_canSetOff hX _ _ _ _ _ h
    exact ⟨r, fun ht => ⟨2, by decide, h1 ht⟩, h2, h3⟩
  rcases ite_s h with ⟨rfl, h⟩ | ⟨_, h⟩
  · obtain ⟨r, h1, h2, h3⟩ := ok_M_setsOff hX _ _ _ _ _ h
    exact ⟨r, fun ht => ⟨2, by decide, h1 ht⟩, h2, h3⟩
  rcases ite_s h with ⟨rfl, h⟩ | ⟨_, h⟩
  · obtain ⟨r, h1, h2, h3⟩ := ok_M_walksADay hX _ _ _ _ _ h
    exact ⟨r, fun ht => ⟨6, by decide, h1 ht⟩, h2, h3⟩
  cases h
def hd_M_aDay_2 {O : Type} (g : Nat → Int32 → Mem → Option O) (ls : OL) (st : List AV) (σ : Mem) : Option O := match ls, st with
  | [some (.inr (.inr (12, k0))), some (.inl v1)], [] => g k0 v1 σ
  | _, _ => none
theorem hs_M_aDay_2 {X : CXT} {g : Nat → Int32 → Mem → Option (Int32 × Mem)} (hg : ∀ (k0 : Nat) (v1 : Int32) (s : Mem) (o : Int32 × Mem), g k0 v1 s = some o → BSnd X 7 298 (ovI o) 2 [some (.inr (.inr (12, k0))), some (.inl v1)] [] s) : ∀ ls st σ o, hd_M_aDay_2 g ls st σ = some o → BSnd X 7 298 (ovI o) 2 ls st σ := by
  intro ls st σ o h
  unfold hd_M_aDay_2 at h
  split at h
  · exact hg _ _ _ _ h
  · cases h
def hd_M_aDay_90 {O : Type} (g : Nat → Int32 → Int32 → Int32 → Mem → Option O) (ls : OL) (st : List AV) (σ : Mem) : Option O := match ls, st with
  | [some (.inr (.inr (12, k0))), some (.inl v1), some (.inl v2), some (.inl v3)], [] => g k0 v1 v2 v3 σ
  | _, _ => none
theorem hs_M_aDay_90 {X : CXT} {g : Nat → Int32 → Int32 → Int32 → Mem → Option (Int32 × Mem)} (hg : ∀ (k0 : Nat) (v1 : Int32) (v2 : Int32) (v3 : Int32) (s : Mem) (o : Int32 × Mem), g k0 v1 v2 v3 s = some o → BSnd X 7 298 (ovI o) 90 [some (.inr (.inr (12, k0))), some (.inl v1), some (.inl v2), some (.inl v3)] [] s) : ∀ ls st σ o, hd_M_aDay_90 g ls st σ = some o → BSnd X 7 298 (ovI o) 90 ls st σ := by
  intro ls st σ o h
  unfold hd_M_aDay_90 at h
  split at h
  · exact hg _ _ _ _ _ _ h
  · cases h
def hd_M_aDay_140 {O : Type} (g : Nat → Int32 → Int32 → Mem → Option O) (ls : OL) (st : List AV) (σ : Mem) : Option O := match ls, st with
  | [some (.inr (.inr (12, k0))), some (.inl v1), some (.inl v2)], [] => g k0 v1 v2 σ
  | _, _ => none
theorem hs_M_aDay_140 {X : CXT} {g : Nat → Int32 → Int32 → Mem → Option (Int32 × Mem)} (hg : ∀ (k0 : Nat) (v1 : Int32) (v2 : Int32) (s : Mem) (o : Int32 × Mem), g k0 v1 v2 s = some o → BSnd X 7 298 (ovI o) 140 [some (.inr (.inr (12, k0))), some (.inl v1), some (.inl v2)] [] s) : ∀ ls st σ o, hd_M_aDay_140 g ls st σ = some o → BSnd X 7 298 (ovI o) 140 ls st σ := by
  intro ls st σ o h
  unfold hd_M_aDay_140 at h
  split at h
  · exact hg _ _ _ _ _ h
  · cases h
def hd_M_aDay_79 {O : Type} (g : Nat → Mem → Option O) (ls : OL) (st : List AV) (σ : Mem) : Option O := match ls, st with
  | [some (.inr (.inr (12, k0)))], [] => g k0 σ
  | _, _ => none
theorem hs_M_aDay_79 {X : CXT} {g : Nat → Mem → Option (Int32 × Mem)} (hg : ∀ (k0 : Nat) (s : Mem) (o : Int32 × Mem), g k0 s = some o → BSnd X 7 298 (ovI o) 79 [some (.inr (.inr (12, k0)))] [] s) : ∀ ls st σ o, hd_M_aDay_79 g ls st σ = some o → BSnd X 7 298 (ovI o) 79 ls st σ := by
  intro ls st σ o h
  unfold hd_M_aDay_79 at h
  split at h
  · exact hg _ _ _ h
  · cases h
set_option maxRecDepth 100000 in
theorem s_M_aDay_2 {X : CXT} (hX : XM X) {K79 : Nat → Mem → Option (Int32 × Mem)} (hK79 : ∀ (k0 : Nat) (s : Mem) (o : Int32 × Mem), K79 k0 s = some o → BSnd X 7 298 (ovI o) 79 [some (.inr (.inr (12, k0)))] [] s) : ∀ n : Nat, ∀ (k0 : Nat) (v1 : Int32) (s : Mem) (o : Int32 × Mem), f_M_aDay_2 K79 n k0 v1 s = some o → BSnd X 7 298 (ovI o) 2 [some (.inr (.inr (12, k0))), some (.inl v1)] [] s := by
  intro n
  induction n with
  | zero => intro k0 v1 s o h; cases h
  | succ n ih =>
    intro k0 v1 s o h
    exact evC (chs := c_M_aDay) (cuts := cu_M_aDay) (G := fun pc ls st σ => if pc = 2 then hd_M_aDay_2 (fun k0 v1 s => f_M_aDay_2 K79 n k0 v1 s) ls st σ else if pc = 79 then hd_M_aDay_79 (fun k0 s => K79 k0 s) ls st σ else none) hX.2.1 hX.2.2 (F := F_M_aDay _) (fs_M_aDay hX _) (rt_I rfl) oc_M_aDay (by
    intro pc ls st σ o h
    rcases ite_s h with ⟨rfl, h⟩ | ⟨_, h⟩
    · exact hs_M_aDay_2 ih _ _ _ _ h
    rcases ite_s h with ⟨rfl, h⟩ | ⟨_, h⟩
    · exact hs_M_aDay_79 hK79 _ _ _ _ h
    cases h) 444 2 _ _ _ _ h
set_option maxRecDepth 100000 in
theorem s_M_aDay_90 {X : CXT} (hX : XM X) {K140 : Nat → Int32 → Int32 → Mem → Option (Int32 × Mem)} (hK140 : ∀ (k0 : Nat) (v1 : Int32) (v2 : Int32) (s : Mem) (o : Int32 × Mem), K140 k0 v1 v2 s = some o → BSnd X 7 298 (ovI o) 140 [some (.inr (.inr (12, k0))), some (.inl v1), some (.inl v2)] [] s) : ∀ n : Nat, ∀ (k0 : Nat) (v1 : Int32) (v2 : Int32) (v3 : Int32) (s : Mem) (o : Int32 × Mem), f_M_aDay_90 K140 n k0 v1 v2 v3 s = some o → BSnd X 7 298 (ovI o) 90 [some (.inr (.inr (12, k0))), some (.inl v1), some (.inl v2), some (.inl v3)] [] s := by
  intro n
  induction n with
  | zero => intro k0 v1 v2 v3 s o h; cases h
  | succ n ih =>
    intro k0 v1 v2 v3 s o h
    exact evC (chs := c_M_aDay) (cuts := cu_M_aDay) (G := fun pc ls st σ => if pc = 90 then hd_M_aDay_90 (fun k0 v1 v2 v3 s => f_M_aDay_90 K140 n k0 v1 v2 v3 s) ls st σ else if pc = 140 then hd_M_aDay_140 (fun k0 v1 v2 s => K140 k0 v1 v2 s) ls st σ else none) hX.2.1 hX.2.2 (F := F_M_aDay _) (fs_M_aDay hX _) (rt_I rfl) oc_M_aDay (by
    intro pc ls st σ o h
    rcases ite_s h with ⟨rfl, h⟩ | ⟨_, h⟩
    · exact hs_M_aDay_90 ih _ _ _ _ h
    rcases ite_s h with ⟨rfl, h⟩ | ⟨_, h⟩
    · exact hs_M_aDay_140 hK140 _ _ _ _ h
    cases h) 444 90 _ _ _ _ h
set_option maxRecDepth 100000 in
theorem s_M_aDay_140 {X : CXT} (hX : XM X) : ∀ (k0 : Nat) (v1 : Int32) (v2 : Int32) (s : Mem) (o : Int32 × Mem), f_M_aDay_140 k0 v1 v2 s = some o → BSnd X 7 298 (ovI o) 140 [some (.inr (.inr (12, k0))), some (.inl v1), some (.inl v2)] [] s := by
  intro k0 v1 v2 s o h
  exact evC (chs := c_M_aDay) (cuts := cu_M_aDay) (G := fun pc ls st σ => none) hX.2.1 hX.2.2 (F := F_M_aDay _) (fs_M_aDay hX _) (rt_I rfl) oc_M_aDay (by
    intro pc ls st σ o h
    cases h) 444 140 _ _ _ _ h
set_option maxRecDepth 100000 in
theorem s_M_aDay_79 {X : CXT} (hX : XM X) : ∀ (k0 : Nat) (s : Mem) (o : Int32 × Mem), f_M_aDay_79 k0 s = some o → BSnd X 7 298 (ovI o) 79 [some (.inr (.inr (12, k0)))] [] s := by
  intro k0 s o h
  exact evC (chs := c_M_aDay) (cuts := cu_M_aDay) (G := fun pc ls st σ => if pc = 90 then hd_M_aDay_90 (fun k0 v1 v2 v3 s => f_M_aDay_90 (fun k0 v1 v2 s => f_M_aDay_140 k0 v1 v2 s) FU k0 v1 v2 v3 s) ls st σ else if pc = 140 then hd_M_aDay_140 (fun k0 v1 v2 s => f_M_aDay_140 k0 v1 v2 s) ls st σ else none) hX.2.1 hX.2.2 (F := F_M_aDay _) (fs_M_aDay hX _) (rt_I rfl) oc_M_aDay (by
    intro pc ls st σ o h
    rcases ite_s h with ⟨rfl, h⟩ | ⟨_, h⟩
    · exact hs_M_aDay_90 (s_M_aDay_90 hX (s_M_aDay_140 hX) FU) _ _ _ _ h
    rcases ite_s h with ⟨rfl, h⟩ | ⟨_, h⟩
    · exact hs_M_aDay_140 (s_M_aDay_140 hX) _ _ _ _ h
    cases h) 444 79 _ _ _ _ h
set_option maxRecDepth 100000 in
theorem s_M_aDay {X : CXT} (hX : XM X) : ∀ (k0 : Nat) (s : Mem) (o : Int32 × Mem), f_M_aDay k0 s = some o → BSnd X 7 298 (ovI o) 0 (entL [.inr (.inr (12, k0))]) [] s := by
  intro k0 s o h
  rw [f_M_aDay_eq] at h
  exact evC (chs := c_M_aDay) (cuts := cu_M_aDay) (G := fun pc ls st σ => if pc = 2 then hd_M_aDay_2 (fun k0 v1 s => f_M_aDay_2 (fun k0 s => f_M_aDay_79 k0 s) FU k0 v1 s) ls st σ else if pc = 79 then hd_M_aDay_79 (fun k0 s => f_M_aDay_79 k0 s) ls st σ else none) hX.2.1 hX.2.2 (F := F_M_aDay _) (fs_M_aDay hX _) (rt_I rfl) oc_M_aDay (by
    intro pc ls st σ o h
    rcases ite_s h with ⟨rfl, h⟩ | ⟨_, h⟩
    · exact hs_M_aDay_2 (s_M_aDay_2 hX (s_M_aDay_79 hX) FU) _ _ _ _ h
    rcases ite_s h with ⟨rfl, h⟩ | ⟨_, h⟩
    · exact hs_M_aDay_79 (s_M_aDay_79 hX) _ _ _ _ h
    cases h) 444 0 _ _ _ _ h
theorem ok_M_aDay {X : CXT} (hX : XM X) : SemOK X 7 298 sm_M_aDay := by
  intro O av σ K o h
  unfold sm_M_aDay at h
  split at h
  · obtain ⟨r, hf, h⟩ := Option.bind_eq_some_iff.mp h
    exact ⟨ovI r, fun ht => sp_of hX.1 (by decide) (List.mem_range.mpr (by decide)) (by decide +kernel) ht (Nat.le_of_ble_eq_true rfl) (s_M_aDay hX _ _ _ hf), trivial, h⟩
  · cases h
noncomputable def f_M_days_30 : Nat → Nat → Int32 → Int32 → Int32 → Mem → Option (Int32 × Mem)
  | 0, _, _, _, _, _ => none
  | n + 1, k0, v1, v2, v3, s =>
    cif (v1 ≤ v3) (
      some (v2, s)) (
      (f_M_keeps k0 s).bind fun r1 =>
      (f_M_aDay k0 r1).bind fun r2 =>
      let x3 : Int32 := v2 + r2.1
      f_M_days_30 n k0 v1 x3 (v3 + (1 : Int32)) r2.2)
noncomputable def b_M_days (k0 : Nat) (v1 : Int32) (s : Mem) : Option (Int32 × Mem) :=
  (f_M_isIn v1 ((1 : Int32)) ((60 : Int32)) s).bind fun r1 =>
  cif ((b2i r1.1) = 0) (
    some ((-1 : Int32), r1.2)) (
    gd (inb ((2 : Int32)) (lenM (k0 + 1))) <|
    cif (((rI r1.2 (k0 + 1) (ix ((2 : Int32)))) + v1) ≤ ((99999 : Int32))) (
      f_M_days_30 FU k0 v1 ((0 : Int32)) ((0 : Int32)) r1.2) (
      some ((-1 : Int32), r1.2)))
noncomputable def f_M_days : Nat → Int32 → Mem → Option (Int32 × Mem) := Classical.choose (⟨b_M_days, rfl⟩ : ∃ f : Nat → Int32 → Mem → Option (Int32 × Mem), f = b_M_days)
theorem f_M_days_eq : f_M_days = b_M_days := Classical.choose_spec (⟨b_M_days, rfl⟩ : ∃ f : Nat → Int32 → Mem → Option (Int32 × Mem), f = b_M_days)
noncomputable def sm_M_days (O : Type) (av : List AV) (σ : Mem) (K : AV → Mem → Option O) : Option O := match av with
  | [.inr (.inr (12, k0)), .inl v1] => (f_M_days k0 v1 σ).bind fun r => K (.inl r.1) r.2
  | _ => none
def c_M_days : List (List CE) := [[(0, .iload_n 1, 1, 0, 0, 0), (1, .iconst 1, 1, 1, 0, 0), (2, .bipush 60, 2, 60, 0, 0), (4, .invokestatic 60, 3, 230, 3, 1), (7, .ifCond .eq 17, 3, 24, 0, 0), (10, .aload_n 0, 1, 0, 0, 0), (11, .getfield 7, 3, 12, 0, 0), (14, .iconst 2, 1, 2, 0, 0), (15, .iaload, 1, 0, 0, 0)], [(16, .iload_n 1, 1, 0, 0, 0), (17, .iadd, 1, 0, 0, 0), (18, .ldc_w 369, 3, 99999, 0, 0), (21, .if_icmp .le 5, 3, 26, 0, 0), (24, .iconst (-1), 1, 1, 0, 1), (25, .ireturn, 1, 0, 0, 0), (26, .iconst 0, 1, 0, 0, 0), (27, .istore_n 2, 1, 0, 0, 0), (28, .iconst 0, 1, 0, 0, 0), (29, .istore_n 3, 1, 0, 0, 0), (30, .iload_n 3, 1, 0, 0, 0), (31, .iload_n 1, 1, 0, 0, 0)], [(32, .if_icmp .ge 20, 3, 52, 0, 0), (35, .aload_n 0, 1, 0, 0, 0), (36, .invokevirtual 314, 3, 274, 1, 24), (39, .iload_n 2, 1, 0, 0, 0), (40, .aload_n 0, 1, 0, 0, 0), (41, .invokevirtual 370, 3, 298, 1, 25), (44, .iadd, 1, 0, 0, 0), (45, .istore_n 2, 1, 0, 0, 0), (46, .iinc 3 1, 3, 1, 0, 0)], [(49, .goto (-19), 3, 30, 0, 0), (52, .iload_n 2, 1, 0, 0, 0), (53, .ireturn, 1, 0, 0, 0)]]
set_option maxRecDepth 100000 in
theorem oc_M_days : okC 297 c_M_days = true := by decide +kernel
def cu_M_days : List (Nat × List Bool) := [(30, [true, true, true, true])]
noncomputable def F_M_days (O : Type) (a : Nat) (av : List AV) (σ : Mem) (K : AV → Mem → Option O) : Option O := if a = 230 then sm_M_isIn O av σ K else if a = 274 then sm_M_keeps O av σ K else if a = 298 then sm_M_aDay O av σ K else none
theorem fs_M_days {X : CXT} (hX : XM X) (O : Type) : FS X 8 (F_M_days O) := by
  intro a av σ K o h
  unfold F_M_days at h
  rcases ite_s h with ⟨rfl, h⟩ | ⟨_, h⟩
  · obtain ⟨r, h1, h2, h3⟩ := ok_M_isIn hX _ _ _ _ _ h
    exact ⟨r, fun ht => ⟨1, by decide, h1 ht⟩, h2, h3⟩
  rcases ite_s h with ⟨rfl, h⟩ | ⟨_, h⟩
  · obtain ⟨r, h1, h2, h3⟩ := ok_M_keeps hX _ _ _ _ _ h
    exact ⟨r, fun ht => ⟨1, by decide, h1 ht⟩, h2, h3⟩
  rcases ite_s h with ⟨rfl, h⟩ | ⟨_, h⟩
  · obtain ⟨r, h1, h2, h3⟩ := ok_M_aDay hX _ _ _ _ _ h
    exact ⟨r, fun ht => ⟨7, by decide, h1 ht⟩, h2, h3⟩
  cases h
def hd_M_days_30 {O : Type} (g : Nat → Int32 → Int32 → Int32 → Mem → Option O) (ls : OL) (st : List AV) (σ : Mem) : Option O := match ls, st with
  | [some (.inr (.inr (12, k0))), some (.inl v1), some (.inl v2), some (.inl v3)], [] => g k0 v1 v2 v3 σ
  | _, _ => none
theorem hs_M_days_30 {X : CXT} {g : Nat → Int32 → Int32 → Int32 → Mem → Option (Int32 × Mem)} (hg : ∀ (k0 : Nat) (v1 : Int32) (v2 : Int32) (v3 : Int32) (s : Mem) (o : Int32 × Mem), g k0 v1 v2 v3 s = some o → BSnd X 8 297 (ovI o) 30 [some (.inr (.inr (12, k0))), some (.inl v1), some (.inl v2), some (.inl v3)] [] s) : ∀ ls st σ o, hd_M_days_30 g ls st σ = some o → BSnd X 8 297 (ovI o) 30 ls st σ := by
  intro ls st σ o h
  unfold hd_M_days_30 at h
  split at h
  · exact hg _ _ _ _ _ _ h
  · cases h
set_option maxRecDepth 100000 in
theorem s_M_days_30 {X : CXT} (hX : XM X) : ∀ n : Nat, ∀ (k0 : Nat) (v1 : Int32) (v2 : Int32) (v3 : Int32) (s : Mem) (o : Int32 × Mem), f_M_days_30 n k0 v1 v2 v3 s = some o → BSnd X 8 297 (ovI o) 30 [some (.inr (.inr (12, k0))), some (.inl v1), some (.inl v2), some (.inl v3)] [] s := by
  intro n
  induction n with
  | zero => intro k0 v1 v2 v3 s o h; cases h
  | succ n ih =>
    intro k0 v1 v2 v3 s o h
    exact evC (chs := c_M_days) (cuts := cu_M_days) (G := fun pc ls st σ => if pc = 30 then hd_M_days_30 (fun k0 v1 v2 v3 s => f_M_days_30 n k0 v1 v2 v3 s) ls st σ else none) hX.2.1 hX.2.2 (F := F_M_days _) (fs_M_days hX _) (rt_I rfl) oc_M_days (by
    intro pc ls st σ o h
    rcases ite_s h with ⟨rfl, h⟩ | ⟨_, h⟩
    · exact hs_M_days_30 ih _ _ _ _ h
    cases h) 172 30 _ _ _ _ h
set_option maxRecDepth 100000 in
theorem s_M_days {X : CXT} (hX : XM X) : ∀ (k0 : Nat) (v1 : Int32) (s : Mem) (o : Int32 × Mem), f_M_days k0 v1 s = some o → BSnd X 8 297 (ovI o) 0 (entL [.inr (.inr (12, k0)), .inl v1]) [] s := by
  intro k0 v1 s o h
  rw [f_M_days_eq] at h
  exact evC (chs := c_M_days) (cuts := cu_M_days) (G := fun pc ls st σ => if pc = 30 then hd_M_days_30 (fun k0 v1 v2 v3 s => f_M_days_30 FU k0 v1 v2 v3 s) ls st σ else none) hX.2.1 hX.2.2 (F := F_M_days _) (fs_M_days hX _) (rt_I rfl) oc_M_days (by
    intro pc ls st σ o h
    rcases ite_s h with ⟨rfl, h⟩ | ⟨_, h⟩
    · exact hs_M_days_30 (s_M_days_30 hX FU) _ _ _ _ h
    cases h) 172 0 _ _ _ _ h
theorem ok_M_days {X : CXT} (hX : XM X) : SemOK X 8 297 sm_M_days := by
  intro O av σ K o h
  unfold sm_M_days at h
  split at h
  · obtain ⟨r, hf, h⟩ := Option.bind_eq_some_iff.mp h
    exact ⟨ovI r, fun ht => sp_of hX.1 (by decide) (List.mem_range.mpr (by decide)) (by decide +kernel) ht (Nat.le_of_ble_eq_true rfl) (s_M_days hX _ _ _ _ hf), trivial, h⟩
  · cases h
noncomputable def b_M_of (k0 : Nat) (v1 : Int32) (v2 : Int32) (s : Mem) : Option (Int32 × Mem) :=
  (f_M_isWalker k0 v1 s).bind fun r1 =>
  cif ((b2i r1.1) = 0) (
    some ((-2 : Int32), r1.2)) (
    cif (v2 = (3 : Int32)) (
      gd (inb (((13 : Int32)) + v1) (lenM (k0 + 1))) <|
      some (rI r1.2 (k0 + 1) (ix (((13 : Int32)) + v1)), r1.2)) (
      cif (v2 = (4 : Int32)) (
        gd (inb (((25 : Int32)) + v1) (lenM (k0 + 1))) <|
        some (rI r1.2 (k0 + 1) (ix (((25 : Int32)) + v1)), r1.2)) (
        cif (v2 = (5 : Int32)) (
          gd (inb (((37 : Int32)) + v1) (lenM (k0 + 1))) <|
          some (rI r1.2 (k0 + 1) (ix (((37 : Int32)) + v1)), r1.2)) (
          cif (v2 = (6 : Int32)) (
            (f_M_walksOf k0 v1 r1.2).bind fun r2 =>
            some (r2.1, r2.2)) (
            (f_M_isIn v2 ((0 : Int32)) ((2 : Int32)) r1.2).bind fun r3 =>
            cif ((b2i r3.1) = 0) (
              some ((-2 : Int32), r3.2)) (
              gd (inb ((((62 : Int32)) + (((12 : Int32)) * v2)) + v1) (lenM (k0 + 1))) <|
              some (rI r3.2 (k0 + 1) (ix ((((62 : Int32)) + (((12 : Int32)) * v2)) + v1)), r3.2)))))))
noncomputable def f_M_of : Nat → Int32 → Int32 → Mem → Option (Int32 × Mem) := Classical.choose (⟨b_M_of, rfl⟩ : ∃ f : Nat → Int32 → Int32 → Mem → Option (Int32 × Mem), f = b_M_of)
theorem f_M_of_eq : f_M_of = b_M_of := Classical.choose_spec (⟨b_M_of, rfl⟩ : ∃ f : Nat → Int32 → Int32 → Mem → Option (Int32 × Mem), f = b_M_of)
noncomputable def sm_M_of (O : Type) (av : List AV) (σ : Mem) (K : AV → Mem → Option O) : Option O := match av with
  | [.inr (.inr (12, k0)), .inl v1, .inl v2] => (f_M_of k0 v1 v2 σ).bind fun r => K (.inl r.1) r.2
  | _ => none
def c_M_of : List (List CE) := [[(0, .aload_n 0, 1, 0, 0, 0), (1, .iload_n 1, 1, 0, 0, 0), (2, .invokevirtual 76, 3, 233, 2, 25), (5, .ifCond .ne 6, 3, 11, 0, 0), (8, .bipush (-2), 2, 2, 0, 1), (10, .ireturn, 1, 0, 0, 0), (11, .iload_n 2, 1, 0, 0, 0), (12, .tableswitch 68 3 6 #[32, 42, 52, 62], 32, 0, 0, 0)], [], [(44, .aload_n 0, 1, 0, 0, 0), (45, .getfield 7, 3, 12, 0, 0)], [(48, .bipush 13, 2, 13, 0, 0), (50, .iload_n 1, 1, 0, 0, 0), (51, .iadd, 1, 0, 0, 0), (52, .iaload, 1, 0, 0, 0), (53, .ireturn, 1, 0, 0, 0), (54, .aload_n 0, 1, 0, 0, 0), (55, .getfield 7, 3, 12, 0, 0), (58, .bipush 25, 2, 25, 0, 0), (60, .iload_n 1, 1, 0, 0, 0), (61, .iadd, 1, 0, 0, 0), (62, .iaload, 1, 0, 0, 0), (63, .ireturn, 1, 0, 0, 0)], [(64, .aload_n 0, 1, 0, 0, 0), (65, .getfield 7, 3, 12, 0, 0), (68, .bipush 37, 2, 37, 0, 0), (70, .iload_n 1, 1, 0, 0, 0), (71, .iadd, 1, 0, 0, 0), (72, .iaload, 1, 0, 0, 0), (73, .ireturn, 1, 0, 0, 0), (74, .aload_n 0, 1, 0, 0, 0), (75, .iload_n 1, 1, 0, 0, 0), (76, .invokevirtual 360, 3, 301, 2, 25), (79, .ireturn, 1, 0, 0, 0)], [(80, .iload_n 2, 1, 0, 0, 0), (81, .iconst 0, 1, 0, 0, 0), (82, .iconst 2, 1, 2, 0, 0), (83, .invokestatic 60, 3, 230, 3, 1), (86, .ifCond .eq 20, 3, 106, 0, 0), (89, .aload_n 0, 1, 0, 0, 0), (90, .getfield 7, 3, 12, 0, 0), (93, .bipush 62, 2, 62, 0, 0), (95, .bipush 12, 2, 12, 0, 0)], [(97, .iload_n 2, 1, 0, 0, 0), (98, .imul, 1, 0, 0, 0), (99, .iadd, 1, 0, 0, 0), (100, .iload_n 1, 1, 0, 0, 0), (101, .iadd, 1, 0, 0, 0), (102, .iaload, 1, 0, 0, 0), (103, .goto 5, 3, 108, 0, 0), (106, .bipush (-2), 2, 2, 0, 1), (108, .ireturn, 1, 0, 0, 0)]]
set_option maxRecDepth 100000 in
theorem oc_M_of : okC 305 c_M_of = true := by decide +kernel
def cu_M_of : List (Nat × List Bool) := []
noncomputable def F_M_of (O : Type) (a : Nat) (av : List AV) (σ : Mem) (K : AV → Mem → Option O) : Option O := if a = 230 then sm_M_isIn O av σ K else if a = 233 then sm_M_isWalker O av σ K else if a = 301 then sm_M_walksOf O av σ K else none
theorem fs_M_of {X : CXT} (hX : XM X) (O : Type) : FS X 6 (F_M_of O) := by
  intro a av σ K o h
  unfold F_M_of at h
  rcases ite_s h with ⟨rfl, h⟩ | ⟨_, h⟩
  · obtain ⟨r, h1, h2, h3⟩ := ok_M_isIn hX _ _ _ _ _ h
    exact ⟨r, fun ht => ⟨1, by decide, h1 ht⟩, h2, h3⟩
  rcases ite_s h with ⟨rfl, h⟩ | ⟨_, h⟩
  · obtain ⟨r, h1, h2, h3⟩ := ok_M_isWalker hX _ _ _ _ _ h
    exact ⟨r, fun ht => ⟨2, by decide, h1 ht⟩, h2, h3⟩
  rcases ite_s h with ⟨rfl, h⟩ | ⟨_, h⟩
  · obtain ⟨r, h1, h2, h3⟩ := ok_M_walksOf hX _ _ _ _ _ h
    exact ⟨r, fun ht => ⟨5, by decide, h1 ht⟩, h2, h3⟩
  cases h
set_option maxRecDepth 100000 in
theorem s_M_of {X : CXT} (hX : XM X) : ∀ (k0 : Nat) (v1 : Int32) (v2 : Int32) (s : Mem) (o : Int32 × Mem), f_M_of k0 v1 v2 s = some o → BSnd X 6 305 (ovI o) 0 (entL [.inr (.inr (12, k0)), .inl v1, .inl v2]) [] s := by
  intro k0 v1 v2 s o h
  rw [f_M_of_eq] at h
  exact evC (chs := c_M_of) (cuts := cu_M_of) (G := fun pc ls st σ => none) hX.2.1 hX.2.2 (F := F_M_of _) (fs_M_of hX _) (rt_I rfl) oc_M_of (by
    intro pc ls st σ o h
    cases h) 244 0 _ _ _ _ h
theorem ok_M_of {X : CXT} (hX : XM X) : SemOK X 6 305 sm_M_of := by
  intro O av σ K o h
  unfold sm_M_of at h
  split at h
  · obtain ⟨r, hf, h⟩ := Option.bind_eq_some_iff.mp h
    exact ⟨ovI r, fun ht => sp_of hX.1 (by decide) (List.mem_range.mpr (by decide)) (by decide +kernel) ht (Nat.le_of_ble_eq_true rfl) (s_M_of hX _ _ _ _ _ hf), trivial, h⟩
  · cases h
noncomputable def b_M_isMile (v0 : Int32) (s : Mem) : Option (Bool × Mem) :=
  (f_M_isIn v0 ((0 : Int32)) ((199 : Int32)) s).bind fun r1 =>
  lf (rB (b2i r1.1)) r1.2
noncomputable def f_M_isMile : Int32 → Mem → Option (Bool × Mem) := Classical.choose (⟨b_M_isMile, rfl⟩ : ∃ f : Int32 → Mem → Option (Bool × Mem), f = b_M_isMile)
theorem f_M_isMile_eq : f_M_isMile = b_M_isMile := Classical.choose_spec (⟨b_M_isMile, rfl⟩ : ∃ f : Int32 → Mem → Option (Bool × Mem), f = b_M_isMile)
noncomputable def sm_M_isMile (O : Type) (av : List AV) (σ : Mem) (K : AV → Mem → Option O) : Option O := match av with
  | [.inl v0] => (f_M_isMile v0 σ).bind fun r => K (.inl (b2i r.1)) r.2
  | _ => none
def c_M_isMile : List (List CE) := [[(0, .iload_n 0, 1, 0, 0, 0), (1, .iconst 0, 1, 0, 0, 0), (2, .sipush 199, 3, 199, 0, 0), (5, .invokestatic 60, 3, 230, 3, 1), (8, .ireturn, 1, 0, 0, 0)]]
set_option maxRecDepth 100000 in
theorem oc_M_isMile : okC 307 c_M_isMile = true := by decide +kernel
def cu_M_isMile : List (Nat × List Bool) := []
noncomputable def F_M_isMile (O : Type) (a : Nat) (av : List AV) (σ : Mem) (K : AV → Mem → Option O) : Option O := if a = 230 then sm_M_isIn O av σ K else none
theorem fs_M_isMile {X : CXT} (hX : XM X) (O : Type) : FS X 2 (F_M_isMile O) := by
  intro a av σ K o h
  unfold F_M_isMile at h
  rcases ite_s h with ⟨rfl, h⟩ | ⟨_, h⟩
  · obtain ⟨r, h1, h2, h3⟩ := ok_M_isIn hX _ _ _ _ _ h
    exact ⟨r, fun ht => ⟨1, by decide, h1 ht⟩, h2, h3⟩
  cases h
set_option maxRecDepth 100000 in
theorem s_M_isMile {X : CXT} (hX : XM X) : ∀ (v0 : Int32) (s : Mem) (o : Bool × Mem), f_M_isMile v0 s = some o → BSnd X 2 307 (ovZ o) 0 (entL [.inl v0]) [] s := by
  intro v0 s o h
  rw [f_M_isMile_eq] at h
  exact evC (chs := c_M_isMile) (cuts := cu_M_isMile) (G := fun pc ls st σ => none) hX.2.1 hX.2.2 (F := F_M_isMile _) (fs_M_isMile hX _) (rt_Z rfl) oc_M_isMile (by
    intro pc ls st σ o h
    cases h) 60 0 _ _ _ _ h
theorem ok_M_isMile {X : CXT} (hX : XM X) : SemOK X 2 307 sm_M_isMile := by
  intro O av σ K o h
  unfold sm_M_isMile at h
  split at h
  · obtain ⟨r, hf, h⟩ := Option.bind_eq_some_iff.mp h
    exact ⟨ovZ r, fun ht => sp_of hX.1 (by decide) (List.mem_range.mpr (by decide)) (by decide +kernel) ht (Nat.le_of_ble_eq_true rfl) (s_M_isMile hX _ _ _ hf), trivial, h⟩
  · cases h
noncomputable def f_M_stands_2 : Nat → Nat → Int32 → Int32 → Int32 → Mem → Option (Bool × Mem)
  | 0, _, _, _, _, _ => none
  | n + 1, k0, v1, v2, v3, s =>
    gd (inb ((54 : Int32)) (lenM (k0 + 1))) <|
    cif ((rI s (k0 + 1) (ix ((54 : Int32)))) ≤ v3) (
      some (false, s)) (
      gd (inb (((146 : Int32)) + (((2 : Int32)) * v3)) (lenM (k0 + 1))) <|
      cif ((rI s (k0 + 1) (ix (((146 : Int32)) + (((2 : Int32)) * v3)))) = v1) (
        gd (inb ((((146 : Int32)) + (((2 : Int32)) * v3)) + ((1 : Int32))) (lenM (k0 + 1))) <|
        cif ((rI s (k0 + 1) (ix ((((146 : Int32)) + (((2 : Int32)) * v3)) + ((1 : Int32))))) = v2) (
          some (true, s)) (
          f_M_stands_2 n k0 v1 v2 (v3 + (1 : Int32)) s)) (
        f_M_stands_2 n k0 v1 v2 (v3 + (1 : Int32)) s))
noncomputable def b_M_stands (k0 : Nat) (v1 : Int32) (v2 : Int32) (s : Mem) : Option (Bool × Mem) :=
  f_M_stands_2 FU k0 v1 v2 ((0 : Int32)) s
noncomputable def f_M_stands : Nat → Int32 → Int32 → Mem → Option (Bool × Mem) := Classical.choose (⟨b_M_stands, rfl⟩ : ∃ f : Nat → Int32 → Int32 → Mem → Option (Bool × Mem), f = b_M_stands)
theorem f_M_stands_eq : f_M_stands = b_M_stands := Classical.choose_spec (⟨b_M_stands, rfl⟩ : ∃ f : Nat → Int32 → Int32 → Mem → Option (Bool × Mem), f = b_M_stands)
noncomputable def sm_M_stands (O : Type) (av : List AV) (σ : Mem) (K : AV → Mem → Option O) : Option O := match av with
  | [.inr (.inr (12, k0)), .inl v1, .inl v2] => (f_M_stands k0 v1 v2 σ).bind fun r => K (.inl (b2i r.1)) r.2
  | _ => none
def c_M_stands : List (List CE) := [[(0, .iconst 0, 1, 0, 0, 0), (1, .istore_n 3, 1, 0, 0, 0), (2, .iload_n 3, 1, 0, 0, 0), (3, .aload_n 0, 1, 0, 0, 0), (4, .getfield 7, 3, 12, 0, 0), (7, .bipush 54, 2, 54, 0, 0), (9, .iaload, 1, 0, 0, 0), (10, .if_icmp .ge 45, 3, 55, 0, 0), (13, .aload_n 0, 1, 0, 0, 0), (14, .getfield 7, 3, 12, 0, 0)], [(17, .sipush 146, 3, 146, 0, 0), (20, .iconst 2, 1, 2, 0, 0), (21, .iload_n 3, 1, 0, 0, 0), (22, .imul, 1, 0, 0, 0), (23, .iadd, 1, 0, 0, 0), (24, .iaload, 1, 0, 0, 0), (25, .iload_n 1, 1, 0, 0, 0), (26, .if_icmp .ne 23, 3, 49, 0, 0), (29, .aload_n 0, 1, 0, 0, 0), (30, .getfield 7, 3, 12, 0, 0)], [(33, .sipush 146, 3, 146, 0, 0), (36, .iconst 2, 1, 2, 0, 0), (37, .iload_n 3, 1, 0, 0, 0), (38, .imul, 1, 0, 0, 0), (39, .iadd, 1, 0, 0, 0), (40, .iconst 1, 1, 1, 0, 0), (41, .iadd, 1, 0, 0, 0), (42, .iaload, 1, 0, 0, 0), (43, .iload_n 2, 1, 0, 0, 0), (44, .if_icmp .ne 5, 3, 49, 0, 0), (47, .iconst 1, 1, 1, 0, 0)], [(48, .ireturn, 1, 0, 0, 0), (49, .iinc 3 1, 3, 1, 0, 0), (52, .goto (-50), 3, 2, 0, 0), (55, .iconst 0, 1, 0, 0, 0), (56, .ireturn, 1, 0, 0, 0)]]
set_option maxRecDepth 100000 in
theorem oc_M_stands : okC 308 c_M_stands = true := by decide +kernel
def cu_M_stands : List (Nat × List Bool) := [(2, [true, true, true, true])]
noncomputable def F_M_stands (O : Type) (a : Nat) (av : List AV) (σ : Mem) (K : AV → Mem → Option O) : Option O := none
theorem fs_M_stands {X : CXT} (hX : XM X) (O : Type) : FS X 1 (F_M_stands O) := by
  intro a av σ K o h
  cases h
def hd_M_stands_2 {O : Type} (g : Nat → Int32 → Int32 → Int32 → Mem → Option O) (ls : OL) (st : List AV) (σ : Mem) : Option O := match ls, st with
  | [some (.inr (.inr (12, k0))), some (.inl v1), some (.inl v2), some (.inl v3)], [] => g k0 v1 v2 v3 σ
  | _, _ => none
theorem hs_M_stands_2 {X : CXT} {g : Nat → Int32 → Int32 → Int32 → Mem → Option (Bool × Mem)} (hg : ∀ (k0 : Nat) (v1 : Int32) (v2 : Int32) (v3 : Int32) (s : Mem) (o : Bool × Mem), g k0 v1 v2 v3 s = some o → BSnd X 1 308 (ovZ o) 2 [some (.inr (.inr (12, k0))), some (.inl v1), some (.inl v2), some (.inl v3)] [] s) : ∀ ls st σ o, hd_M_stands_2 g ls st σ = some o → BSnd X 1 308 (ovZ o) 2 ls st σ := by
  intro ls st σ o h
  unfold hd_M_stands_2 at h
  split at h
  · exact hg _ _ _ _ _ _ h
  · cases h
set_option maxRecDepth 100000 in
theorem s_M_stands_2 {X : CXT} (hX : XM X) : ∀ n : Nat, ∀ (k0 : Nat) (v1 : Int32) (v2 : Int32) (v3 : Int32) (s : Mem) (o : Bool × Mem), f_M_stands_2 n k0 v1 v2 v3 s = some o → BSnd X 1 308 (ovZ o) 2 [some (.inr (.inr (12, k0))), some (.inl v1), some (.inl v2), some (.inl v3)] [] s := by
  intro n
  induction n with
  | zero => intro k0 v1 v2 v3 s o h; cases h
  | succ n ih =>
    intro k0 v1 v2 v3 s o h
    exact evC (chs := c_M_stands) (cuts := cu_M_stands) (G := fun pc ls st σ => if pc = 2 then hd_M_stands_2 (fun k0 v1 v2 v3 s => f_M_stands_2 n k0 v1 v2 v3 s) ls st σ else none) hX.2.1 hX.2.2 (F := F_M_stands _) (fs_M_stands hX _) (rt_Z rfl) oc_M_stands (by
    intro pc ls st σ o h
    rcases ite_s h with ⟨rfl, h⟩ | ⟨_, h⟩
    · exact hs_M_stands_2 ih _ _ _ _ h
    cases h) 184 2 _ _ _ _ h
set_option maxRecDepth 100000 in
theorem s_M_stands {X : CXT} (hX : XM X) : ∀ (k0 : Nat) (v1 : Int32) (v2 : Int32) (s : Mem) (o : Bool × Mem), f_M_stands k0 v1 v2 s = some o → BSnd X 1 308 (ovZ o) 0 (entL [.inr (.inr (12, k0)), .inl v1, .inl v2]) [] s := by
  intro k0 v1 v2 s o h
  rw [f_M_stands_eq] at h
  exact evC (chs := c_M_stands) (cuts := cu_M_stands) (G := fun pc ls st σ => if pc = 2 then hd_M_stands_2 (fun k0 v1 v2 v3 s => f_M_stands_2 FU k0 v1 v2 v3 s) ls st σ else none) hX.2.1 hX.2.2 (F := F_M_stands _) (fs_M_stands hX _) (rt_Z rfl) oc_M_stands (by
    intro pc ls st σ o h
    rcases ite_s h with ⟨rfl, h⟩ | ⟨_, h⟩
    · exact hs_M_stands_2 (s_M_stands_2 hX FU) _ _ _ _ h
    cases h) 184 0 _ _ _ _ h
theorem ok_M_stands {X : CXT} (hX : XM X) : SemOK X 1 308 sm_M_stands := by
  intro O av σ K o h
  unfold sm_M_stands at h
  split at h
  · obtain ⟨r, hf, h⟩ := Option.bind_eq_some_iff.mp h
    exact ⟨ovZ r, fun ht => sp_of hX.1 (by decide) (List.mem_range.mpr (by decide)) (by decide +kernel) ht (Nat.le_of_ble_eq_true rfl) (s_M_stands hX _ _ _ _ _ hf), trivial, h⟩
  · cases h
noncomputable def b_M_mile (k0 : Nat) (v1 : Int32) (v2 : Int32) (s : Mem) : Option (Int32 × Mem) :=
  (f_M_isMile v1 s).bind fun r1 =>
  cif ((b2i r1.1) = 0) (
    some ((-1 : Int32), r1.2)) (
    cif (v2 = (0 : Int32)) (
      (f_M_isBroken k0 v1 r1.2).bind fun r2 =>
      cif ((b2i r2.1) = 0) (
        some ((0 : Int32), r2.2)) (
        some ((1 : Int32), r2.2))) (
      cif (v2 = (4 : Int32)) (
        (f_M_stormOf k0 (v1 / ((20 : Int32))) r1.2).bind fun r3 =>
        some (r3.1, r3.2)) (
        (f_M_isIn v2 ((1 : Int32)) ((3 : Int32)) r1.2).bind fun r4 =>
        cif ((b2i r4.1) = 0) (
          some ((-1 : Int32), r4.2)) (
          (f_M_stands k0 ((((10 : Int32)) + v2) - ((1 : Int32))) v1 r4.2).bind fun r5 =>
          cif ((b2i r5.1) = 0) (
            some ((0 : Int32), r5.2)) (
            some ((1 : Int32), r5.2))))))
noncomputable def f_M_mile : Nat → Int32 → Int32 → Mem → Option (Int32 × Mem) := Classical.choose (⟨b_M_mile, rfl⟩ : ∃ f : Nat → Int32 → Int32 → Mem → Option (Int32 × Mem), f = b_M_mile)
theorem f_M_mile_eq : f_M_mile = b_M_mile := Classical.choose_spec (⟨b_M_mile, rfl⟩ : ∃ f : Nat → Int32 → Int32 → Mem → Option (Int32 × Mem), f = b_M_mile)
noncomputable def sm_M_mile (O : Type) (av : List AV) (σ : Mem) (K : AV → Mem → Option O) : Option O := match av with
  | [.inr (.inr (12, k0)), .inl v1, .inl v2] => (f_M_mile k0 v1 v2 σ).bind fun r => K (.inl r.1) r.2
  | _ => none
def c_M_mile : List (List CE) := [[(0, .iload_n 1, 1, 0, 0, 0), (1, .invokestatic 373, 3, 307, 1, 1), (4, .ifCond .ne 5, 3, 9, 0, 0), (7, .iconst (-1), 1, 1, 0, 1), (8, .ireturn, 1, 0, 0, 0), (9, .iload_n 2, 1, 0, 0, 0), (10, .lookupswitch 49 #[(0, 26), (4, 40)], 26, 0, 0, 0)], [], [(36, .aload_n 0, 1, 0, 0, 0), (37, .iload_n 1, 1, 0, 0, 0), (38, .invokevirtual 320, 3, 288, 2, 25), (41, .ifCond .eq 7, 3, 48, 0, 0), (44, .iconst 1, 1, 1, 0, 0), (45, .goto 4, 3, 49, 0, 0)], [(48, .iconst 0, 1, 0, 0, 0), (49, .ireturn, 1, 0, 0, 0), (50, .aload_n 0, 1, 0, 0, 0), (51, .iload_n 1, 1, 0, 0, 0), (52, .bipush 20, 2, 20, 0, 0), (54, .idiv, 1, 0, 0, 0), (55, .invokevirtual 336, 3, 295, 2, 25), (58, .ireturn, 1, 0, 0, 0), (59, .iload_n 2, 1, 0, 0, 0), (60, .iconst 1, 1, 1, 0, 0), (61, .iconst 3, 1, 3, 0, 0), (62, .invokestatic 60, 3, 230, 3, 1)], [(65, .ifCond .eq 25, 3, 90, 0, 0), (68, .aload_n 0, 1, 0, 0, 0), (69, .bipush 10, 2, 10, 0, 0), (71, .iload_n 2, 1, 0, 0, 0), (72, .iadd, 1, 0, 0, 0), (73, .iconst 1, 1, 1, 0, 0), (74, .isub, 1, 0, 0, 0), (75, .iload_n 1, 1, 0, 0, 0), (76, .invokevirtual 376, 3, 308, 3, 25), (79, .ifCond .eq 7, 3, 86, 0, 0)], [(82, .iconst 1, 1, 1, 0, 0), (83, .goto 8, 3, 91, 0, 0), (86, .iconst 0, 1, 0, 0, 0), (87, .goto 4, 3, 91, 0, 0), (90, .iconst (-1), 1, 1, 0, 1), (91, .ireturn, 1, 0, 0, 0)]]
set_option maxRecDepth 100000 in
theorem oc_M_mile : okC 306 c_M_mile = true := by decide +kernel
def cu_M_mile : List (Nat × List Bool) := []
noncomputable def F_M_mile (O : Type) (a : Nat) (av : List AV) (σ : Mem) (K : AV → Mem → Option O) : Option O := if a = 230 then sm_M_isIn O av σ K else if a = 288 then sm_M_isBroken O av σ K else if a = 295 then sm_M_stormOf O av σ K else if a = 307 then sm_M_isMile O av σ K else if a = 308 then sm_M_stands O av σ K else none
theorem fs_M_mile {X : CXT} (hX : XM X) (O : Type) : FS X 6 (F_M_mile O) := by
  intro a av σ K o h
  unfold F_M_mile at h
  rcases ite_s h with ⟨rfl, h⟩ | ⟨_, h⟩
  · obtain ⟨r, h1, h2, h3⟩ := ok_M_isIn hX _ _ _ _ _ h
    exact ⟨r, fun ht => ⟨1, by decide, h1 ht⟩, h2, h3⟩
  rcases ite_s h with ⟨rfl, h⟩ | ⟨_, h⟩
  · obtain ⟨r, h1, h2, h3⟩ := ok_M_isBroken hX _ _ _ _ _ h
    exact ⟨r, fun ht => ⟨1, by decide, h1 ht⟩, h2, h3⟩
  rcases ite_s h with ⟨rfl, h⟩ | ⟨_, h⟩
  · obtain ⟨r, h1, h2, h3⟩ := ok_M_stormOf hX _ _ _ _ _ h
    exact ⟨r, fun ht => ⟨5, by decide, h1 ht⟩, h2, h3⟩
  rcases ite_s h with ⟨rfl, h⟩ | ⟨_, h⟩
  · obtain ⟨r, h1, h2, h3⟩ := ok_M_isMile hX _ _ _ _ _ h
    exact ⟨r, fun ht => ⟨2, by decide, h1 ht⟩, h2, h3⟩
  rcases ite_s h with ⟨rfl, h⟩ | ⟨_, h⟩
  · obtain ⟨r, h1, h2, h3⟩ := ok_M_stands hX _ _ _ _ _ h
    exact ⟨r, fun ht => ⟨1, by decide, h1 ht⟩, h2, h3⟩
  cases h
set_option maxRecDepth 100000 in
theorem s_M_mile {X : CXT} (hX : XM X) : ∀ (k0 : Nat) (v1 : Int32) (v2 : Int32) (s : Mem) (o : Int32 × Mem), f_M_mile k0 v1 v2 s = some o → BSnd X 6 306 (ovI o) 0 (entL [.inr (.inr (12, k0)), .inl v1, .inl v2]) [] s := by
  intro k0 v1 v2 s o h
  rw [f_M_mile_eq] at h
  exact evC (chs := c_M_mile) (cuts := cu_M_mile) (G := fun pc ls st σ => none) hX.2.1 hX.2.2 (F := F_M_mile _) (fs_M_mile hX _) (rt_I rfl) oc_M_mile (by
    intro pc ls st σ o h
    cases h) 204 0 _ _ _ _ h
theorem ok_M_mile {X : CXT} (hX : XM X) : SemOK X 6 306 sm_M_mile := by
  intro O av σ K o h
  unfold sm_M_mile at h
  split at h
  · obtain ⟨r, hf, h⟩ := Option.bind_eq_some_iff.mp h
    exact ⟨ovI r, fun ht => sp_of hX.1 (by decide) (List.mem_range.mpr (by decide)) (by decide +kernel) ht (Nat.le_of_ble_eq_true rfl) (s_M_mile hX _ _ _ _ _ hf), trivial, h⟩
  · cases h
noncomputable def b_M_shame (k0 : Nat) (v1 : Int32) (v2 : Int32) (s : Mem) : Option (Int32 × Mem) :=
  (f_M_isIn v1 ((0 : Int32)) ((5 : Int32)) s).bind fun r1 =>
  cif ((b2i r1.1) = 0) (
    some ((-1 : Int32), r1.2)) (
    (f_M_isIn v2 ((0 : Int32)) ((99 : Int32)) r1.2).bind fun r2 =>
    cif ((b2i r2.1) = 0) (
      some ((-1 : Int32), r2.2)) (
      (f_M_shameOf k0 v1 v2 r2.2).bind fun r3 =>
      some (r3.1, r3.2)))
noncomputable def f_M_shame : Nat → Int32 → Int32 → Mem → Option (Int32 × Mem) := Classical.choose (⟨b_M_shame, rfl⟩ : ∃ f : Nat → Int32 → Int32 → Mem → Option (Int32 × Mem), f = b_M_shame)
theorem f_M_shame_eq : f_M_shame = b_M_shame := Classical.choose_spec (⟨b_M_shame, rfl⟩ : ∃ f : Nat → Int32 → Int32 → Mem → Option (Int32 × Mem), f = b_M_shame)
noncomputable def sm_M_shame (O : Type) (av : List AV) (σ : Mem) (K : AV → Mem → Option O) : Option O := match av with
  | [.inr (.inr (12, k0)), .inl v1, .inl v2] => (f_M_shame k0 v1 v2 σ).bind fun r => K (.inl r.1) r.2
  | _ => none
def c_M_shame : List (List CE) := [[(0, .iload_n 1, 1, 0, 0, 0), (1, .iconst 0, 1, 0, 0, 0), (2, .iconst 5, 1, 5, 0, 0), (3, .invokestatic 60, 3, 230, 3, 1), (6, .ifCond .eq 22, 3, 28, 0, 0), (9, .iload_n 2, 1, 0, 0, 0), (10, .iconst 0, 1, 0, 0, 0), (11, .bipush 99, 2, 99, 0, 0), (13, .invokestatic 60, 3, 230, 3, 1)], [(16, .ifCond .eq 12, 3, 28, 0, 0), (19, .aload_n 0, 1, 0, 0, 0), (20, .iload_n 1, 1, 0, 0, 0), (21, .iload_n 2, 1, 0, 0, 0), (22, .invokevirtual 307, 3, 276, 3, 25), (25, .goto 4, 3, 29, 0, 0), (28, .iconst (-1), 1, 1, 0, 1), (29, .ireturn, 1, 0, 0, 0)]]
set_option maxRecDepth 100000 in
theorem oc_M_shame : okC 309 c_M_shame = true := by decide +kernel
def cu_M_shame : List (Nat × List Bool) := []
noncomputable def F_M_shame (O : Type) (a : Nat) (av : List AV) (σ : Mem) (K : AV → Mem → Option O) : Option O := if a = 230 then sm_M_isIn O av σ K else if a = 276 then sm_M_shameOf O av σ K else none
theorem fs_M_shame {X : CXT} (hX : XM X) (O : Type) : FS X 6 (F_M_shame O) := by
  intro a av σ K o h
  unfold F_M_shame at h
  rcases ite_s h with ⟨rfl, h⟩ | ⟨_, h⟩
  · obtain ⟨r, h1, h2, h3⟩ := ok_M_isIn hX _ _ _ _ _ h
    exact ⟨r, fun ht => ⟨1, by decide, h1 ht⟩, h2, h3⟩
  rcases ite_s h with ⟨rfl, h⟩ | ⟨_, h⟩
  · obtain ⟨r, h1, h2, h3⟩ := ok_M_shameOf hX _ _ _ _ _ h
    exact ⟨r, fun ht => ⟨5, by decide, h1 ht⟩, h2, h3⟩
  cases h
set_option maxRecDepth 100000 in
theorem s_M_shame {X : CXT} (hX : XM X) : ∀ (k0 : Nat) (v1 : Int32) (v2 : Int32) (s : Mem) (o : Int32 × Mem), f_M_shame k0 v1 v2 s = some o → BSnd X 6 309 (ovI o) 0 (entL [.inr (.inr (12, k0)), .inl v1, .inl v2]) [] s := by
  intro k0 v1 v2 s o h
  rw [f_M_shame_eq] at h
  exact evC (chs := c_M_shame) (cuts := cu_M_shame) (G := fun pc ls st σ => none) hX.2.1 hX.2.2 (F := F_M_shame _) (fs_M_shame hX _) (rt_I rfl) oc_M_shame (by
    intro pc ls st σ o h
    cases h) 108 0 _ _ _ _ h
theorem ok_M_shame {X : CXT} (hX : XM X) : SemOK X 6 309 sm_M_shame := by
  intro O av σ K o h
  unfold sm_M_shame at h
  split at h
  · obtain ⟨r, hf, h⟩ := Option.bind_eq_some_iff.mp h
    exact ⟨ovI r, fun ht => sp_of hX.1 (by decide) (List.mem_range.mpr (by decide)) (by decide +kernel) ht (Nat.le_of_ble_eq_true rfl) (s_M_shame hX _ _ _ _ _ hf), trivial, h⟩
  · cases h
noncomputable def b_M_book (k0 : Nat) (v1 : Int32) (v2 : Int32) (s : Mem) : Option (Int32 × Mem) :=
  gd (inb ((5 : Int32)) (lenM (k0 + 1))) <|
  (f_M_isIn v1 ((0 : Int32)) ((rI s (k0 + 1) (ix ((5 : Int32)))) - ((1 : Int32))) s).bind fun r1 =>
  cif ((b2i r1.1) = 0) (
    some ((-1 : Int32), r1.2)) (
    (f_M_isIn v2 ((0 : Int32)) ((3 : Int32)) r1.2).bind fun r2 =>
    cif ((b2i r2.1) = 0) (
      some ((-1 : Int32), r2.2)) (
      gd (inb ((((366 : Int32)) + (((4 : Int32)) * v1)) + v2) (lenM (k0 + 1))) <|
      some (rI r2.2 (k0 + 1) (ix ((((366 : Int32)) + (((4 : Int32)) * v1)) + v2)), r2.2)))
noncomputable def f_M_book : Nat → Int32 → Int32 → Mem → Option (Int32 × Mem) := Classical.choose (⟨b_M_book, rfl⟩ : ∃ f : Nat → Int32 → Int32 → Mem → Option (Int32 × Mem), f = b_M_book)
theorem f_M_book_eq : f_M_book = b_M_book := Classical.choose_spec (⟨b_M_book, rfl⟩ : ∃ f : Nat → Int32 → Int32 → Mem → Option (Int32 × Mem), f = b_M_book)
noncomputable def sm_M_book (O : Type) (av : List AV) (σ : Mem) (K : AV → Mem → Option O) : Option O := match av with
  | [.inr (.inr (12, k0)), .inl v1, .inl v2] => (f_M_book k0 v1 v2 σ).bind fun r => K (.inl r.1) r.2
  | _ => none
def c_M_book : List (List CE) := [[(0, .iload_n 1, 1, 0, 0, 0), (1, .iconst 0, 1, 0, 0, 0), (2, .aload_n 0, 1, 0, 0, 0), (3, .getfield 7, 3, 12, 0, 0), (6, .iconst 5, 1, 5, 0, 0), (7, .iaload, 1, 0, 0, 0), (8, .iconst 1, 1, 1, 0, 0), (9, .isub, 1, 0, 0, 0), (10, .invokestatic 60, 3, 230, 3, 1), (13, .ifCond .eq 29, 3, 42, 0, 0)], [(16, .iload_n 2, 1, 0, 0, 0), (17, .iconst 0, 1, 0, 0, 0), (18, .iconst 3, 1, 3, 0, 0), (19, .invokestatic 60, 3, 230, 3, 1), (22, .ifCond .eq 20, 3, 42, 0, 0), (25, .aload_n 0, 1, 0, 0, 0), (26, .getfield 7, 3, 12, 0, 0), (29, .sipush 366, 3, 366, 0, 0)], [(32, .iconst 4, 1, 4, 0, 0), (33, .iload_n 1, 1, 0, 0, 0), (34, .imul, 1, 0, 0, 0), (35, .iadd, 1, 0, 0, 0), (36, .iload_n 2, 1, 0, 0, 0), (37, .iadd, 1, 0, 0, 0), (38, .iaload, 1, 0, 0, 0), (39, .goto 4, 3, 43, 0, 0), (42, .iconst (-1), 1, 1, 0, 1), (43, .ireturn, 1, 0, 0, 0)]]
set_option maxRecDepth 100000 in
theorem oc_M_book : okC 310 c_M_book = true := by decide +kernel
def cu_M_book : List (Nat × List Bool) := []
noncomputable def F_M_book (O : Type) (a : Nat) (av : List AV) (σ : Mem) (K : AV → Mem → Option O) : Option O := if a = 230 then sm_M_isIn O av σ K else none
theorem fs_M_book {X : CXT} (hX : XM X) (O : Type) : FS X 2 (F_M_book O) := by
  intro a av σ K o h
  unfold F_M_book at h
  rcases ite_s h with ⟨rfl, h⟩ | ⟨_, h⟩
  · obtain ⟨r, h1, h2, h3⟩ := ok_M_isIn hX _ _ _ _ _ h
    exact ⟨r, fun ht => ⟨1, by decide, h1 ht⟩, h2, h3⟩
  cases h
set_option maxRecDepth 100000 in
theorem s_M_book {X : CXT} (hX : XM X) : ∀ (k0 : Nat) (v1 : Int32) (v2 : Int32) (s : Mem) (o : Int32 × Mem), f_M_book k0 v1 v2 s = some o → BSnd X 2 310 (ovI o) 0 (entL [.inr (.inr (12, k0)), .inl v1, .inl v2]) [] s := by
  intro k0 v1 v2 s o h
  rw [f_M_book_eq] at h
  exact evC (chs := c_M_book) (cuts := cu_M_book) (G := fun pc ls st σ => none) hX.2.1 hX.2.2 (F := F_M_book _) (fs_M_book hX _) (rt_I rfl) oc_M_book (by
    intro pc ls st σ o h
    cases h) 152 0 _ _ _ _ h
theorem ok_M_book {X : CXT} (hX : XM X) : SemOK X 2 310 sm_M_book := by
  intro O av σ K o h
  unfold sm_M_book at h
  split at h
  · obtain ⟨r, hf, h⟩ := Option.bind_eq_some_iff.mp h
    exact ⟨ovI r, fun ht => sp_of hX.1 (by decide) (List.mem_range.mpr (by decide)) (by decide +kernel) ht (Nat.le_of_ble_eq_true rfl) (s_M_book hX _ _ _ _ _ hf), trivial, h⟩
  · cases h
noncomputable def f_M_lays_2 : Nat → Nat → Int32 → Mem → Option (Mem)
  | 0, _, _, _ => none
  | n + 1, k0, v1, s =>
    cif (((49 : Int32)) ≤ v1) (
      let s1 : Mem := wI s k0 26 ((0 : Int32))
      some s1) (
      gd (inb v1 (lenM (k0 + 1))) <|
      gd (inb v1 (lenM (k0 + 4))) <|
      let s2 : Mem := wI s (k0 + 4) (ix v1) (rI s (k0 + 1) (ix v1))
      f_M_lays_2 n k0 (v1 + (1 : Int32)) s2)
noncomputable def b_M_lays (k0 : Nat) (s : Mem) : Option (Mem) :=
  f_M_lays_2 FU k0 ((0 : Int32)) s
noncomputable def f_M_lays : Nat → Mem → Option (Mem) := Classical.choose (⟨b_M_lays, rfl⟩ : ∃ f : Nat → Mem → Option (Mem), f = b_M_lays)
theorem f_M_lays_eq : f_M_lays = b_M_lays := Classical.choose_spec (⟨b_M_lays, rfl⟩ : ∃ f : Nat → Mem → Option (Mem), f = b_M_lays)
noncomputable def sm_M_lays (O : Type) (av : List AV) (σ : Mem) (K : AV → Mem → Option O) : Option O := match av with
  | [.inr (.inr (12, k0))] => (f_M_lays k0 σ).bind fun r => K (.inl 0) r
  | _ => none
def c_M_lays : List (List CE) := [[(0, .iconst 0, 1, 0, 0, 0), (1, .istore_n 1, 1, 0, 0, 0), (2, .iload_n 1, 1, 0, 0, 0), (3, .bipush 49, 2, 49, 0, 0), (5, .if_icmp .ge 21, 3, 26, 0, 0), (8, .aload_n 0, 1, 0, 0, 0), (9, .getfield 19, 3, 12, 3, 0), (12, .iload_n 1, 1, 0, 0, 0), (13, .aload_n 0, 1, 0, 0, 0), (14, .getfield 7, 3, 12, 0, 0)], [(17, .iload_n 1, 1, 0, 0, 0), (18, .iaload, 1, 0, 0, 0), (19, .iastore, 1, 0, 0, 0), (20, .iinc 1 1, 3, 1, 0, 0), (23, .goto (-21), 3, 2, 0, 0), (26, .aload_n 0, 1, 0, 0, 0), (27, .iconst 0, 1, 0, 0, 0), (28, .putfield 303, 3, 12, 26, 0), (31, .return_, 1, 0, 0, 0)]]
set_option maxRecDepth 100000 in
theorem oc_M_lays : okC 312 c_M_lays = true := by decide +kernel
def cu_M_lays : List (Nat × List Bool) := [(2, [true, true])]
noncomputable def F_M_lays (O : Type) (a : Nat) (av : List AV) (σ : Mem) (K : AV → Mem → Option O) : Option O := none
theorem fs_M_lays {X : CXT} (hX : XM X) (O : Type) : FS X 1 (F_M_lays O) := by
  intro a av σ K o h
  cases h
def hd_M_lays_2 {O : Type} (g : Nat → Int32 → Mem → Option O) (ls : OL) (st : List AV) (σ : Mem) : Option O := match ls, st with
  | [some (.inr (.inr (12, k0))), some (.inl v1)], [] => g k0 v1 σ
  | _, _ => none
theorem hs_M_lays_2 {X : CXT} {g : Nat → Int32 → Mem → Option (Mem)} (hg : ∀ (k0 : Nat) (v1 : Int32) (s : Mem) (o : Mem), g k0 v1 s = some o → BSnd X 1 312 (ovV o) 2 [some (.inr (.inr (12, k0))), some (.inl v1)] [] s) : ∀ ls st σ o, hd_M_lays_2 g ls st σ = some o → BSnd X 1 312 (ovV o) 2 ls st σ := by
  intro ls st σ o h
  unfold hd_M_lays_2 at h
  split at h
  · exact hg _ _ _ _ h
  · cases h
set_option maxRecDepth 100000 in
theorem s_M_lays_2 {X : CXT} (hX : XM X) : ∀ n : Nat, ∀ (k0 : Nat) (v1 : Int32) (s : Mem) (o : Mem), f_M_lays_2 n k0 v1 s = some o → BSnd X 1 312 (ovV o) 2 [some (.inr (.inr (12, k0))), some (.inl v1)] [] s := by
  intro n
  induction n with
  | zero => intro k0 v1 s o h; cases h
  | succ n ih =>
    intro k0 v1 s o h
    exact evC (chs := c_M_lays) (cuts := cu_M_lays) (G := fun pc ls st σ => if pc = 2 then hd_M_lays_2 (fun k0 v1 s => f_M_lays_2 n k0 v1 s) ls st σ else none) hX.2.1 hX.2.2 (F := F_M_lays _) (fs_M_lays hX _) (rt_V rfl) oc_M_lays (by
    intro pc ls st σ o h
    rcases ite_s h with ⟨rfl, h⟩ | ⟨_, h⟩
    · exact hs_M_lays_2 ih _ _ _ _ h
    cases h) 116 2 _ _ _ _ h
set_option maxRecDepth 100000 in
theorem s_M_lays {X : CXT} (hX : XM X) : ∀ (k0 : Nat) (s : Mem) (o : Mem), f_M_lays k0 s = some o → BSnd X 1 312 (ovV o) 0 (entL [.inr (.inr (12, k0))]) [] s := by
  intro k0 s o h
  rw [f_M_lays_eq] at h
  exact evC (chs := c_M_lays) (cuts := cu_M_lays) (G := fun pc ls st σ => if pc = 2 then hd_M_lays_2 (fun k0 v1 s => f_M_lays_2 FU k0 v1 s) ls st σ else none) hX.2.1 hX.2.2 (F := F_M_lays _) (fs_M_lays hX _) (rt_V rfl) oc_M_lays (by
    intro pc ls st σ o h
    rcases ite_s h with ⟨rfl, h⟩ | ⟨_, h⟩
    · exact hs_M_lays_2 (s_M_lays_2 hX FU) _ _ _ _ h
    cases h) 116 0 _ _ _ _ h
theorem ok_M_lays {X : CXT} (hX : XM X) : SemOK X 1 312 sm_M_lays := by
  intro O av σ K o h
  unfold sm_M_lays at h
  split at h
  · obtain ⟨r, hf, h⟩ := Option.bind_eq_some_iff.mp h
    exact ⟨ovV r, fun ht => sp_of hX.1 (by decide) (List.mem_range.mpr (by decide)) (by decide +kernel) ht (Nat.le_of_ble_eq_true rfl) (s_M_lays hX _ _ _ hf), trivial, h⟩
  · cases h
noncomputable def f_M_putsBack_2 : Nat → Nat → Int32 → Mem → Option (Mem)
  | 0, _, _, _ => none
  | n + 1, k0, v1, s =>
    cif (((49 : Int32)) ≤ v1) (
      some s) (
      gd (inb v1 (lenM (k0 + 4))) <|
      gd (inb v1 (lenM (k0 + 1))) <|
      let s1 : Mem := wI s (k0 + 1) (ix v1) (rI s (k0 + 4) (ix v1))
      f_M_putsBack_2 n k0 (v1 + (1 : Int32)) s1)
noncomputable def b_M_putsBack (k0 : Nat) (s : Mem) : Option (Mem) :=
  f_M_putsBack_2 FU k0 ((0 : Int32)) s
noncomputable def f_M_putsBack : Nat → Mem → Option (Mem) := Classical.choose (⟨b_M_putsBack, rfl⟩ : ∃ f : Nat → Mem → Option (Mem), f = b_M_putsBack)
theorem f_M_putsBack_eq : f_M_putsBack = b_M_putsBack := Classical.choose_spec (⟨b_M_putsBack, rfl⟩ : ∃ f : Nat → Mem → Option (Mem), f = b_M_putsBack)
noncomputable def sm_M_putsBack (O : Type) (av : List AV) (σ : Mem) (K : AV → Mem → Option O) : Option O := match av with
  | [.inr (.inr (12, k0))] => (f_M_putsBack k0 σ).bind fun r => K (.inl 0) r
  | _ => none
def c_M_putsBack : List (List CE) := [[(0, .iconst 0, 1, 0, 0, 0), (1, .istore_n 1, 1, 0, 0, 0), (2, .iload_n 1, 1, 0, 0, 0), (3, .bipush 49, 2, 49, 0, 0), (5, .if_icmp .ge 21, 3, 26, 0, 0), (8, .aload_n 0, 1, 0, 0, 0), (9, .getfield 7, 3, 12, 0, 0), (12, .iload_n 1, 1, 0, 0, 0), (13, .aload_n 0, 1, 0, 0, 0), (14, .getfield 19, 3, 12, 3, 0)], [(17, .iload_n 1, 1, 0, 0, 0), (18, .iaload, 1, 0, 0, 0), (19, .iastore, 1, 0, 0, 0), (20, .iinc 1 1, 3, 1, 0, 0), (23, .goto (-21), 3, 2, 0, 0), (26, .return_, 1, 0, 0, 0)]]
set_option maxRecDepth 100000 in
theorem oc_M_putsBack : okC 313 c_M_putsBack = true := by decide +kernel
def cu_M_putsBack : List (Nat × List Bool) := [(2, [true, true])]
noncomputable def F_M_putsBack (O : Type) (a : Nat) (av : List AV) (σ : Mem) (K : AV → Mem → Option O) : Option O := none
theorem fs_M_putsBack {X : CXT} (hX : XM X) (O : Type) : FS X 1 (F_M_putsBack O) := by
  intro a av σ K o h
  cases h
def hd_M_putsBack_2 {O : Type} (g : Nat → Int32 → Mem → Option O) (ls : OL) (st : List AV) (σ : Mem) : Option O := match ls, st with
  | [some (.inr (.inr (12, k0))), some (.inl v1)], [] => g k0 v1 σ
  | _, _ => none
theorem hs_M_putsBack_2 {X : CXT} {g : Nat → Int32 → Mem → Option (Mem)} (hg : ∀ (k0 : Nat) (v1 : Int32) (s : Mem) (o : Mem), g k0 v1 s = some o → BSnd X 1 313 (ovV o) 2 [some (.inr (.inr (12, k0))), some (.inl v1)] [] s) : ∀ ls st σ o, hd_M_putsBack_2 g ls st σ = some o → BSnd X 1 313 (ovV o) 2 ls st σ := by
  intro ls st σ o h
  unfold hd_M_putsBack_2 at h
  split at h
  · exact hg _ _ _ _ h
  · cases h
set_option maxRecDepth 100000 in
theorem s_M_putsBack_2 {X : CXT} (hX : XM X) : ∀ n : Nat, ∀ (k0 : Nat) (v1 : Int32) (s : Mem) (o : Mem), f_M_putsBack_2 n k0 v1 s = some o → BSnd X 1 313 (ovV o) 2 [some (.inr (.inr (12, k0))), some (.inl v1)] [] s := by
  intro n
  induction n with
  | zero => intro k0 v1 s o h; cases h
  | succ n ih =>
    intro k0 v1 s o h
    exact evC (chs := c_M_putsBack) (cuts := cu_M_putsBack) (G := fun pc ls st σ => if pc = 2 then hd_M_putsBack_2 (fun k0 v1 s => f_M_putsBack_2 n k0 v1 s) ls st σ else none) hX.2.1 hX.2.2 (F := F_M_putsBack _) (fs_M_putsBack hX _) (rt_V rfl) oc_M_putsBack (by
    intro pc ls st σ o h
    rcases ite_s h with ⟨rfl, h⟩ | ⟨_, h⟩
    · exact hs_M_putsBack_2 ih _ _ _ _ h
    cases h) 104 2 _ _ _ _ h
set_option maxRecDepth 100000 in
theorem s_M_putsBack {X : CXT} (hX : XM X) : ∀ (k0 : Nat) (s : Mem) (o : Mem), f_M_putsBack k0 s = some o → BSnd X 1 313 (ovV o) 0 (entL [.inr (.inr (12, k0))]) [] s := by
  intro k0 s o h
  rw [f_M_putsBack_eq] at h
  exact evC (chs := c_M_putsBack) (cuts := cu_M_putsBack) (G := fun pc ls st σ => if pc = 2 then hd_M_putsBack_2 (fun k0 v1 s => f_M_putsBack_2 FU k0 v1 s) ls st σ else none) hX.2.1 hX.2.2 (F := F_M_putsBack _) (fs_M_putsBack hX _) (rt_V rfl) oc_M_putsBack (by
    intro pc ls st σ o h
    rcases ite_s h with ⟨rfl, h⟩ | ⟨_, h⟩
    · exact hs_M_putsBack_2 (s_M_putsBack_2 hX FU) _ _ _ _ h
    cases h) 104 0 _ _ _ _ h
theorem ok_M_putsBack {X : CXT} (hX : XM X) : SemOK X 1 313 sm_M_putsBack := by
  intro O av σ K o h
  unfold sm_M_putsBack at h
  split at h
  · obtain ⟨r, hf, h⟩ := Option.bind_eq_some_iff.mp h
    exact ⟨ovV r, fun ht => sp_of hX.1 (by decide) (List.mem_range.mpr (by decide)) (by decide +kernel) ht (Nat.le_of_ble_eq_true rfl) (s_M_putsBack hX _ _ _ hf), trivial, h⟩
  · cases h
