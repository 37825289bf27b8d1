/-! A RUN's soundness, a block's and a method's contract -/
section MTH
variable {X : CXT} {i d : Nat} {O : Type}
theorem wx_mask {p : Program} {l : Launch} {e : Env} {R : Room} {s : State} {m : MethodId} {args : Array Value} {below : List Frame} {meth : Method} {c : Code} {cells slots : Nat} {Q : State → Prop} {pc : Nat} {ls ls' : OL} {st : List AV} {σ : Mem}
    (hm : ∀ j v, lget ls' j = some v → lget ls j = some v) (h : WX X p l e R s m args below meth c cells slots Q i pc ls' st σ) : WX X p l e R s m args below meth c cells slots Q i pc ls st σ := by
  intro H locs lsR hP hS hl hT1 hT2
  refine h H locs lsR hP hS (lv_mono hl fun q hq => ?_) (fun n v hv => hT1 n v (hm n v hv)) hT2
  obtain ⟨j, v, h1, h2, h3⟩ := (kn_mem _ _ _).mp hq
  exact (kn_mem _ _ _).mpr ⟨j, v, h1, hm j v h2, h3⟩
/-- the calls are sound at depth d -/
def FS (X : CXT) (d : Nat) (F : Nat → List AV → Mem → (AV → Mem → Option O) → Option O) : Prop :=
  ∀ a av σ K o, F a av σ K = some o → ∃ r : AV × Mem, ((∀ v ∈ av, TR X v) → ∃ d', d' + 1 ≤ d ∧ Sp X d' a av σ r) ∧ TR X r.1 ∧ K r.1 r.2 = some o
def BSnd (X : CXT) (d i : Nat) (r : AV × Mem) (pc : Nat) (ls : OL) (st : List AV) (σ : Mem) : Prop :=
  ∀ (p : Program) (l : Launch) (e : Env) (R : Room) (s : State) (m : MethodId) (args : Array Value) (below : List Frame) (meth : Method) (c : Code), CTX X p R s m args c i d 0 0 → meth.sig.returnType = mR i → meth.locks = false →
    WX X p l e R s m args below meth c 0 0 (MQ below (Qx X i r) args s 0 0 (xA X)) i pc ls st σ
/-- what a return gives: the answer fits the method's type -/
def RTok (i : Nat) (rt : AV → Mem → Option O) (ov : O → AV × Mem) : Prop :=
  (∀ x σ o, rt (.inl x) σ = some o → mR i ≠ none → ov o = (.inl x, σ) ∧ ∃ ty, mR i = some ty ∧ narrow ty (.int x) = .int x) ∧ (∀ x σ o, rt (.inr (.inl x)) σ = some o → ov o = (.inr (.inl x), σ) ∧ mR i = some .long) ∧ (∀ σ o, mR i = none → rt (.inl 0) σ = some o → ov o = (.inl 0, σ))
theorem ev_sound {F : Nat → List AV → Mem → (AV → Mem → Option O) → Option O} {rt : AV → Mem → Option O} {ov : O → AV × Mem} {chs : List (List CE)} {cuts : List (Nat × List Bool)} {G : Nat → OL → List AV → Mem → Option O}
    (hF : FS X d F) (hrt : RTok i rt ov) (hc : okC i chs = true)
    (hG : ∀ pc ls st σ o, G pc ls st σ = some o → BSnd X d i (ov o) pc ls st σ) : ∀ n pc ls st σ o, ev FT0 (xlen X) (xext X) F rt chs cuts G n pc ls st σ = some o → BSnd X d i (ov o) pc ls st σ := by
  intro n
  induction n with
  | zero => intro pc ls st σ o h; cases h
  | succ n ih =>
    intro pc ls st σ o h p l e R s m args below meth c C hr hlk
    have h : ev1 FT0 (xlen X) (xext X) F rt chs cuts G (ev FT0 (xlen X) (xext X) F rt chs cuts G n) pc ls st σ = some o := h
    unfold ev1 at h
    cases hf : fetch chs pc with
    | none => rw [hf] at h; cases h
    | some q =>
      obtain ⟨pc', I, len, a, b, cc⟩ := q
      rw [hf] at h
      obtain ⟨hE, hpc⟩ := fetch_ok hc hf
      have hpc : pc' = pc := hpc
      subst hpc
      refine stp_sound (F := F) (rt := rt) (good := fun o' => ov o' = ov o) C hF ?_ ?_ ?_ ?_ hE h rfl
      · intro pc2 ls2 x σ2 o2 hd hsm h2 hov H locs lsR hP hS hl hT1 hT2
        have hne : mR i ≠ none := by
          intro hz
          rw [hz] at hsm
          cases hsm
        obtain ⟨e1, ty, e2, e3⟩ := hrt.1 x σ2 o2 h2 hne
        have hq : ∀ t : State, t.heap = H → s.WarmedH t.vm → Qx X i (ov o) args s (.returned (some (.int x))) t := by
          intro t ht _
          rw [← hov, e1]
          exact ⟨⟨by rw [e2]; rfl, by rw [ht]; exact hP⟩, hS.F ht⟩
        exact W.zret C.1 C.2.1 (hr.trans e2) e3 hq hS.2.2 hd hlk
      · intro pc2 ls2 x σ2 o2 hd h2 hov H locs lsR hP hS hl hT1 hT2
        obtain ⟨e1, e2⟩ := hrt.2.1 x σ2 o2 h2
        have hq : ∀ t : State, t.heap = H → s.WarmedH t.vm → Qx X i (ov o) args s (.returned (some (.long x))) t := by
          intro t ht _
          rw [← hov, e1]
          exact ⟨⟨by rw [e2]; rfl, by rw [ht]; exact hP⟩, hS.F ht⟩
        exact W.lret C.1 C.2.1 (hr.trans e2) hq hS.2.2 hd hlk
      · intro pc2 ls2 σ2 o2 hd hsm h2 hov H locs lsR hP hS hl hT1 hT2
        have hn : mR i = none := Option.isNone_iff_eq_none.mp hsm
        have e1 := hrt.2.2 σ2 o2 hn h2
        have hq : ∀ t : State, t.heap = H → s.WarmedH t.vm → Qx X i (ov o) args s (.returned none) t := by
          intro t ht _
          rw [← hov, e1]
          exact ⟨⟨by rw [hn]; rfl, by rw [ht]; exact hP⟩, hS.F ht⟩
        exact W.vret C.1 C.2.1 (hr.trans hn) hq hS.2.2 hd hlk
      · intro pc2 ls2 st2 σ2 o2 h2 hov
        unfold cgo at h2
        split at h2
        · rename_i msk _
          have h3 := hG _ _ _ _ _ h2 p l e R s m args below meth c C hr hlk
          rw [hov] at h3
          exact wx_mask (fun j v hv => lget_mask msk ls2 j v hv) h3
        · have h3 := ih _ _ _ _ _ h2 p l e R s m args below meth c C hr hlk
          rw [hov] at h3
          exact h3
def entL : List AV → OL
  | [] => []
  | .inr (.inl x) :: l => some (.inr (.inl x)) :: none :: entL l
  | v :: l => some v :: entL l
theorem entL_kn : ∀ (av : List AV) (n : Nat), kn X n (entL av) = lv_args n (av.map (cv X))
  | [], _ => rfl
  | .inl x :: l, n => by
    show (n, Value.int x) :: kn X (n + 1) (entL l) = _
    rw [entL_kn l]
    rfl
  | .inr (.inl x) :: l, n => by
    show (n, Value.long x) :: kn X (n + 1 + 1) (entL l) = _
    rw [entL_kn l]
    rfl
  | .inr (.inr (t, k)) :: l, n => by
    show (n, cv X (.inr (.inr (t, k)))) :: kn X (n + 1) (entL l) = _
    rw [entL_kn l]
    simp [lv_args, cv_cat1]
theorem entL_get : ∀ (av : List AV) (n : Nat) (v : AV), lget (entL av) n = some v → v ∈ av
  | [], n, v, h => by cases n <;> cases h
  | .inl x :: l, 0, v, h => by cases h; exact List.mem_cons_self
  | .inl x :: l, n + 1, v, h => List.mem_cons_of_mem _ (entL_get l n v h)
  | .inr (.inl x) :: l, 0, v, h => by cases h; exact List.mem_cons_self
  | .inr (.inl x) :: l, 1, v, h => by cases h
  | .inr (.inl x) :: l, n + 2, v, h => List.mem_cons_of_mem _ (entL_get l n v h)
  | .inr (.inr x) :: l, 0, v, h => by cases h; exact List.mem_cons_self
  | .inr (.inr x) :: l, n + 1, v, h => List.mem_cons_of_mem _ (entL_get l n v h)
theorem lg_catsum : ∀ av : List AV, (lg_sl (av.map (cv X))).length = catsum av
  | [] => rfl
  | .inl x :: l => by
    show (lg_sl (Value.int x :: l.map (cv X))).length = 1 + catsum l
    rw [← lg_catsum l]
    simp [lg_sl, Value.category]
    omega
  | .inr (.inl x) :: l => by
    show (lg_sl (Value.long x :: l.map (cv X))).length = 2 + catsum l
    rw [← lg_catsum l]
    simp [lg_sl, Value.category]
    omega
  | .inr (.inr (t, k)) :: l => by
    show (lg_sl (cv X (.inr (.inr (t, k))) :: l.map (cv X))).length = 1 + catsum l
    rw [← lg_catsum l]
    simp [lg_sl, cv_cat1]
    omega
/-- a method's contract out of its body's run -/
theorem sp_of (hXG : XG X) (hd : 1 ≤ d) (hiA : i ∈ AM) (hiP : i ∈ PM) {av : List AV} {σ : Mem} {r : AV × Mem} (htr : ∀ v ∈ av, TR X v) (hlen : catsum av ≤ mL i) (h : BSnd X d i r 0 (entL av) [] σ) : Sp X d i av σ r := by
  intro l
  refine va_MetF (cc := mB i) (maxL := mL i) (ret := mR i) (mx_P i hiP) rfl ?_
  intro p e s m args below meth c s₁ B hml hv
  obtain ⟨rfl, hP, hK, hX⟩ := hv
  have hts : ∀ w ∈ TB, w.before (av.map (cv X)).toArray s = true := fun w hw => atoms_spec (ws := mWord i :: TB) B.pre w (List.mem_cons_of_mem _ hw)
  have hown : s.vm.findClass (mC i) = some m.cls := findClass_of_methodNamed B.named
  have C : CTX X p (rmd d) s m (av.map (cv X)).toArray c i d 0 0 := ⟨B.exec, B.bytes, hml, hown, hts, hK, hX, hXG, hd, Nat.le_refl _, Nat.le_refl _, Nat.le_refl _, Nat.le_refl _, hiA⟩
  have hl := lv_entry (av.map (cv X)) (n := mL i) (by rw [lg_catsum]; exact hlen)
  rw [lg_entry_eq]
  rw [← entL_kn] at hl
  exact h p l e (rmd d) s m _ below meth c C B.returns B.notSynchronized s.heap [] _ hP va_S.rf hl (fun n v hv => htr v (entL_get av n v hv)) (fun v hv => by cases hv)
/-- a callee, as a caller takes it -/
def SemOK (X : CXT) (d i : Nat) (sm : (O : Type) → List AV → Mem → (AV → Mem → Option O) → Option O) : Prop :=
  ∀ (O : Type) (av : List AV) (σ : Mem) (K : AV → Mem → Option O) (o : O), sm O av σ K = some o → ∃ r : AV × Mem, ((∀ v ∈ av, TR X v) → Sp X d i av σ r) ∧ TR X r.1 ∧ K r.1 r.2 = some o
def rtV : AV → Mem → Option Mem := fun v σ => match v with
  | .inl _ => some σ
  | _ => none
def ovV : Mem → AV × Mem := fun σ => (.inl 0, σ)
def rtI : AV → Mem → Option (Int32 × Mem) := fun v σ => match v with
  | .inl x => some (x, σ)
  | _ => none
def ovI : Int32 × Mem → AV × Mem := fun o => (.inl o.1, o.2)
def rB (x : Int32) : Option Bool := if x = 0 then some false else if x = 1 then some true else none
def lf {α : Type} (o : Option α) (σ : Mem) : Option (α × Mem) := match o with
  | some r => some (r, σ)
  | none => none
def rtZ : AV → Mem → Option (Bool × Mem) := fun v σ => match v with
  | .inl x => lf (rB x) σ
  | _ => none
def ovZ : Bool × Mem → AV × Mem := fun o => (.inl (b2i o.1), o.2)
def rN (ty : FieldType) (x : Int32) : Option Int32 := if vp_nar ty x = x then some x else none
def rtN (ty : FieldType) : AV → Mem → Option (Int32 × Mem) := fun v σ => match v with
  | .inl x => lf (rN ty x) σ
  | _ => none
def rtL : AV → Mem → Option (Int64 × Mem) := fun v σ => match v with
  | .inr (.inl x) => some (x, σ)
  | _ => none
def ovL : Int64 × Mem → AV × Mem := fun o => (.inr (.inl o.1), o.2)
theorem rt_V (h : mR i = none) : RTok i rtV ovV := ⟨fun x σ o h1 h2 => absurd h h2, fun x σ o h1 => (by cases h1), fun σ o _ h1 => by cases h1; rfl⟩
theorem rt_I (h : mR i = some .int) : RTok i rtI ovI := ⟨fun x σ o h1 h2 => by cases h1; exact ⟨rfl, .int, h, rfl⟩, fun x σ o h1 => (by cases h1), fun σ o hn _ => by rw [h] at hn; cases hn⟩
theorem rt_Z (h : mR i = some .boolean) : RTok i rtZ ovZ := by
  refine ⟨fun x σ o h1 h2 => ?_, fun x σ o h1 => (by cases h1), fun σ o hn _ => by rw [h] at hn; cases hn⟩
  have h1 : lf (rB x) σ = some o := h1
  unfold rB at h1
  split at h1
  · rename_i hx
    subst hx
    cases h1
    exact ⟨rfl, .boolean, h, rfl⟩
  · split at h1
    · rename_i hx
      subst hx
      cases h1
      exact ⟨rfl, .boolean, h, rfl⟩
    · cases h1
theorem rt_N {ty : FieldType} (h : mR i = some ty) (hn : ∀ x : Int32, vp_nar ty x = x → narrow ty (.int x) = .int x) : RTok i (rtN ty) ovI := by
  refine ⟨fun x σ o h1 h2 => ?_, fun x σ o h1 => (by cases h1), fun σ o hn _ => by rw [h] at hn; cases hn⟩
  have h1 : lf (rN ty x) σ = some o := h1
  unfold rN at h1
  split at h1
  · rename_i hx
    cases h1
    exact ⟨rfl, ty, h, hn x hx⟩
  · cases h1
theorem rt_L (h : mR i = some .long) : RTok i rtL ovL := ⟨fun x σ o h1 h2 => (by cases h1), fun x σ o h1 => by cases h1; exact ⟨rfl, h⟩, fun σ o hn _ => by rw [h] at hn; cases hn⟩
theorem evC {F : Nat → List AV → Mem → (AV → Mem → Option O) → Option O} {rt : AV → Mem → Option O} {ov : O → AV × Mem} {chs : List (List CE)} {cuts : List (Nat × List Bool)} {G : Nat → OL → List AV → Mem → Option O} {ln : Nat → Nat} {ex : Nat → Nat × (Nat → Int32)}
    (hX1 : xlen X = ln) (hX2 : xext X = ex) (hF : FS X d F) (hrt : RTok i rt ov) (hc : okC i chs = true)
    (hG : ∀ pc ls st σ o, G pc ls st σ = some o → BSnd X d i (ov o) pc ls st σ) (n pc : Nat) (ls : OL) (st : List AV) (σ : Mem) (o : O) (h : ev FT0 ln ex F rt chs cuts G n pc ls st σ = some o) : BSnd X d i (ov o) pc ls st σ := by
  subst hX1; subst hX2
  exact ev_sound hF hrt hc hG n pc ls st σ o h
end MTH
