/-! a good context, contracts, and one step's soundness -/
def XG (X : CXT) : Prop :=
  (∀ i j, i < xN X → j < xN X → xad X i = xad X j → i = j)
  ∧ (∀ k, k < xN X → xtg X k < 100 → xtg X k < 13 ∧ ∀ j f u v, j < nF (xtg X k) → fkd FT0 (xtg X k) j = (2, f, u, v) → okref X f (k + u - v) ∧ f < 150)
  ∧ (∀ k, k < xN X → xtg X k = 104 → ∀ i, i < xlen X k → okref X 4 (k + 1 + 5 * i))
  ∧ (∀ k, k < xN X → xtg X k = 105 → ∀ i, i < xlen X k → okref X 103 (k + 1 + i))
  ∧ (∀ s U : State, xXF X s → s.WarmedH U.vm → (∀ q, q < s.heap.size → ¬ xA X q → U.heap[q]? = s.heap[q]?) → xXF X U)
  ∧ (∀ s : State, xXF X s → (∀ k ∈ xev X, va_T .int (xea X k) (xext X k).1 (fun j => .int ((xext X k).2 j)) (xA X) s s.heap)
    ∧ (∀ k, k < xns X → va_O "java/lang/String" (xsa X k) (xA X) s s.heap ∧ va_OF "java/lang/String" "coder" "B" (.int 0) (xsa X k) (xA X) s s.heap ∧ va_OF "java/lang/String" "value" "[B" (.ref (xva X k)) (xsa X k) (xA X) s s.heap ∧ va_T .byte (xva X k) (xext X (k + 1000)).1 (fun j => .int ((xext X (k + 1000)).2 j)) (xA X) s s.heap)
    ∧ (∀ q ∈ FL2, va_Nw (wFN q) s) ∧ (∀ q ∈ ML2, va_Nw (wMN q) s)
    ∧ (∀ q ∈ SL, q.2.2 < xns X ∧ vk_R (cN q.1) q.2.1 ((strs[q.2.2]?).getD "") (xsa X q.2.2) s)
    ∧ 0 ∈ xev X ∧ va_Z "PierTooFar$Told" "HEAP_NUMBERS" "[I" (.ref (xea X 0)) (xA X) s s.heap
    ∧ va_Z "java/lang/String" "COMPACT_STRINGS" "Z" (.int 1) (xA X) s s.heap
    ∧ va_Z "jdk/internal/util/Preconditions" "SIOOBE_FORMATTER" "Ljava/util/function/BiFunction;" (va_rf (xno X)) (xA X) s s.heap
    ∧ (∀ q ∈ GSL, ∀ a : Array Value, (Cond.fieldLink (cN q.1) q.2.1 (if q.2.2 = 0 then "PierTooFar$Told" else if q.2.2 = 1 then "java/lang/String" else "jdk/internal/util/Preconditions") (if q.2.2 = 0 then "HEAP_NUMBERS" else if q.2.2 = 1 then "COMPACT_STRINGS" else "SIOOBE_FORMATTER") (if q.2.2 = 0 then "[I" else if q.2.2 = 1 then "Z" else "Ljava/util/function/BiFunction;")).before a s = true)
    ∧ (∀ q ∈ SFL, ∀ a : Array Value, (Cond.fieldLink (cN q.1) q.2.1 "java/lang/String" (if q.2.2 = 0 then "value" else "coder") (if q.2.2 = 0 then "[B" else "B")).before a s = true))
def CTX (X : CXT) (p : Program) (R : Room) (s : State) (m : MethodId) (args : Array Value) (c : Code) (i d cells slots : Nat) : Prop :=
  p.tables.exec = Jvm.exec ∧ c.code = mB i ∧ c.maxLocals = mL i ∧ s.vm.findClass (mC i) = some m.cls ∧ (∀ w ∈ TB, w.before args s = true) ∧ va_K (xD X) vwCl (xtys X) s ∧ xXF X s ∧ XG X ∧ 1 ≤ d ∧ d ≤ R.frames ∧ 64 * d ≤ R.locals ∧ cells ≤ R.cells ∧ slots ≤ R.slots ∧ i ∈ AM
def rmd (d : Nat) : Room := { frames := d, cells := 0, slots := 0, locals := 64 * d }
def Qx (X : CXT) (i : Nat) (r : AV × Mem) : Array Value → State → Outcome → State → Prop := fun _ st o t => (o = .returned ((mR i).map (fun _ => cv X r.1)) ∧ va_P (xD X) vwCl (wl X r.2) t.heap) ∧ va_F (xA X) st t
def PcX (X : CXT) (av : List AV) (σ : Mem) : Array Value → State → Prop := va_Pc (av.map (cv X)) (fun U => va_P (xD X) vwCl (wl X σ) U.heap ∧ va_K (xD X) vwCl (xtys X) U ∧ xXF X U)
def Sp (X : CXT) (d i : Nat) (av : List AV) (σ : Mem) (r : AV × Mem) : Prop := ∀ l : Launch, Met l (mY i) (mWord i :: TB) (rmd d) (PcX X av σ) (Qx X i r) 0 0 (xA X)
def WX (X : CXT) (p : Program) (l : Launch) (e : Env) (R : Room) (s : State) (m : MethodId) (args : Array Value) (below : List Frame) (meth : Method) (c : Code) (cells slots : Nat) (Q : State → Prop) (i pc : Nat) (ls : OL) (st : List AV) (σ : Mem) : Prop :=
  ∀ (H : Heap) (locs : List Loc) (lsR : Array Slot), va_P (xD X) vwCl (wl X σ) H → va_S (xA X) s.heap H locs → lv_has lsR (mL i) (kn X 0 ls) → (∀ n v, lget ls n = some v → TR X v) → (∀ v ∈ st, TR X v) → W p l e R s m args below meth c H locs cells slots Q (F0 m pc lsR (st.map (cv X)))
theorem wl_D {X : CXT} (g : XG X) (σ : Mem) : va_D (xA X) (wl X σ) := by
  have key : ∀ (i : Nat) (q : Nat × va_E), (wl X σ)[i]? = some q → i < xN X ∧ q = (xad X i, cell X σ i) := by
    intro i q h
    rcases Nat.lt_or_ge i (xN X) with hi | hi
    · rw [wl_get hi] at h
      exact ⟨hi, (Option.some.inj h).symm⟩
    · rw [List.getElem?_eq_none (by rw [wl_len]; exact hi)] at h
      cases h
  refine ⟨fun i j p q h1 h2 h3 => ?_, fun k q h => ?_⟩
  · obtain ⟨a1, rfl⟩ := key i p h1
    obtain ⟨b1, rfl⟩ := key j q h2
    exact g.1 i j a1 b1 h3
  · obtain ⟨a1, rfl⟩ := key k q h
    exact ⟨k, a1, rfl⟩
theorem cat_cv {X : CXT} : ∀ st : List AV, ((st.map (cv X)).map fun v => v.category).sum = catsum st
  | [] => rfl
  | .inl _ :: l => by simp only [List.map_cons, List.sum_cons, catsum, cat_cv l]; rfl
  | .inr (.inl _) :: l => by simp only [List.map_cons, List.sum_cons, catsum, cat_cv l]; rfl
  | .inr (.inr (t, k)) :: l => by simp only [List.map_cons, List.sum_cons, catsum, cat_cv l, cv_cat1]
theorem tb_good : GoodIn TB TB := fun w h => ⟨h, good_of_word (List.mem_filter.mp h).2⟩
theorem tb_goodm {i : Nat} (h : i ∈ AM) : GoodIn TB (mWord i :: TB) := fun w hw => by
  rcases List.mem_cons.mp hw with rfl | hw
  · exact ⟨tb_mw i h, good_of_word rfl⟩
  · exact tb_good w hw
theorem mc_on {i : Nat} (h : i ∈ AM) : cN (oN i) = mC i := by
  have h1 : ((AM.map (fun i => cN (oN i)))[i]?) = (AM.map mC)[i]? := by rw [mx_O]
  have hi : i < 351 := List.mem_range.mp h
  rw [List.getElem?_map, List.getElem?_map] at h1
  have e : AM[i]? = some i := List.getElem?_range hi
  rw [e] at h1
  exact Option.some.inj h1


section SND
variable {X : CXT} {p : Program} {l : Launch} {e : Env} {R : Room} {s : State} {m : MethodId} {args : Array Value} {below : List Frame} {meth : Method} {c : Code} {cells slots : Nat} {Q : State → Prop} {i d : Nat}
theorem callX {a : Nat} {r : AV × Mem} {av' : Array Value} {H : Heap} {locs : List Loc} {lsR : Array Slot} {pc : Nat} {st0 rest : List Value}
    (hr : va_Run p l e R s m args below meth c H locs cells slots 0 0 (F0 m pc lsR st0) rest (Qx X a r av') (xA X)) (hS : va_S (xA X) s.heap H locs)
    (kk : ∀ (H1 : Heap) (locs1 : List Loc), va_P (xD X) vwCl (wl X r.2) H1 → va_S (xA X) s.heap H1 locs1 → W p l e R s m args below meth c H1 locs1 cells slots Q (F0 m (pc + 3) lsR (((mR a).map (fun _ => cv X r.1)).toList ++ rest))) : W p l e R s m args below meth c H locs cells slots Q (F0 m pc lsR st0) := by
  intro T hT X'
  obtain ⟨v, st₀, t, T', L, h0, X2, hL, e1, e2, ⟨⟨hv, hp⟩, hz, hk⟩, st⟩ := hr T hT X'
  cases hv
  rw [h0] at hz hk
  obtain ⟨t2, a1, b1⟩ := kk T'.heap (locs ++ L) (by rw [e1]; exact hp)
    ⟨Nat.le_trans hS.1 (by rw [e1]; exact hz), fun q h1 h2 => by rw [e1, hk q (Nat.lt_of_lt_of_le h1 hS.1) h2]; exact hS.2.1 q h1 h2, fun q hq => by
      rcases List.mem_append.mp hq with h | h
      · exact hS.2.2 q h
      · exact hL q h⟩ T' rfl X2
  exact ⟨t2, st t2 a1, b1⟩
theorem pc_blind {av : List AV} {σ : Mem} (g : XG X) : FrameBlind (PcX X av σ) := fun a U gg mk q => by
  obtain ⟨q1, q2, q3, q4⟩ := q
  exact ⟨q1, q2, va_K.moved (u := U) (U := U.calling gg mk a) (Vm.Alike.refl U.vm) q3, g.2.2.2.2.1 U _ q4 (State.WarmedH.refl U) (fun _ _ _ => rfl)⟩
theorem pc_use {av : List AV} {σ : Mem} {H : Heap} {locs : List Loc} {a : Array Value} (g : XG X) (hP : va_P (xD X) vwCl (wl X σ) H) (hK : va_K (xD X) vwCl (xtys X) s) (hX : xXF X s) (hS : va_S (xA X) s.heap H locs) (ha : a = (av.map (cv X)).toArray) : ∀ U : State, U.heap = H → s.WarmedH U.vm → PcX X av σ a U := fun U hU hW =>
  ⟨ha, by rw [hU]; exact hP, va_K.moved hW.alike hK, g.2.2.2.2.1 s U hX hW (fun q h1 h2 => by rw [hU]; exact hS.2.1 q h1 h2)⟩
variable {O : Type} {F : Nat → List AV → Mem → (AV → Mem → Option O) → Option O} {rt : AV → Mem → Option O} {good : O → Prop}
theorem chain_s {x : Int32} {go : Nat → Option O} {dd : Nat} {o : O} : ∀ {ps : List (Int32 × Nat)}, chain x go dd ps = some o → (∃ q ∈ ps, x = q.1 ∧ go q.2 = some o) ∨ ((∀ q ∈ ps, x ≠ q.1) ∧ go dd = some o)
  | [], h => Or.inr ⟨fun q hq => (by cases hq), h⟩
  | (v, t) :: r, h => by
    unfold chain at h
    rcases cif_s h with ⟨h1, h2⟩ | ⟨h1, h2⟩
    · exact Or.inl ⟨(v, t), List.mem_cons_self, h1, h2⟩
    · rcases chain_s h2 with ⟨q, q1, q2⟩ | ⟨q1, q2⟩
      · exact Or.inl ⟨q, List.mem_cons_of_mem _ q1, q2⟩
      · refine Or.inr ⟨fun q hq => ?_, q2⟩
        rcases List.mem_cons.mp hq with rfl | hq
        · exact h1
        · exact q1 q hq
theorem tsw_mem {pc : Nat} {q : Int32 × Nat} : ∀ {offs : List Int} {lo : Int}, q ∈ tsw pc lo offs → ∃ (n : Nat) (off : Int), offs[n]? = some off ∧ q.1 = Int32.ofInt (lo + n) ∧ q.2 = ((pc : Int) + off).toNat
  | [], lo, h => by cases h
  | a :: r, lo, h => by
    rcases List.mem_cons.mp h with rfl | h
    · exact ⟨0, a, rfl, by simp, rfl⟩
    · obtain ⟨n, off, h1, h2, h3⟩ := tsw_mem h
      refine ⟨n + 1, off, h1, ?_, h3⟩
      rw [h2]
      congr 1
      omega
theorem tsw_all {pc : Nat} : ∀ {offs : List Int} {lo : Int} {n : Nat}, n < offs.length → ∃ q ∈ tsw pc lo offs, q.1 = Int32.ofInt (lo + n)
  | [], lo, n, h => by cases h
  | a :: r, lo, 0, h => ⟨_, List.mem_cons_self, by simp⟩
  | a :: r, lo, n + 1, h => by
    obtain ⟨q, h1, h2⟩ := tsw_all (pc := pc) (offs := r) (lo := lo + 1) (n := n) (by simpa using h)
    refine ⟨q, List.mem_cons_of_mem _ h1, ?_⟩
    rw [h2]
    congr 1
    omega
theorem i32_of {x : Int32} {z : Int} (h1 : -2147483648 ≤ z) (h2 : z < 2147483648) (h : x = Int32.ofInt z) : x.toInt = z := by
  rw [h]
  exact Int32.toInt_ofInt_of_le (by simpa using h1) (by simpa using h2)

theorem inb_lt {j : Int32} {n : Nat} (h : inb j n = true) : ix j < n := (inb_iff.mp h).2
theorem lsw_s {go : Nat → Option O} {dd : Int} {pc : Nat} {x : Int32} {o : O} : ∀ {ps : List (Int × Int)}, (∀ q ∈ ps, (0 ≤ (pc : Int) + q.2 ∧ -2147483648 ≤ q.1) ∧ q.1 < 2147483647) → 0 ≤ (pc : Int) + dd → chain x go ((pc : Int) + dd).toNat (lsw pc ps) = some o → ∃ off : Int, Op.lookupswitch.offset ps dd x.toInt = off ∧ 0 ≤ (pc : Int) + off ∧ go ((pc : Int) + off).toNat = some o
  | [], _, h0, h => ⟨dd, rfl, h0, h⟩
  | (v, f) :: r, hq, h0, h => by
    have hv := hq (v, f) List.mem_cons_self
    unfold lsw chain at h
    rcases cif_s h with ⟨h1, h2⟩ | ⟨h1, h2⟩
    · have e := i32_of hv.1.2 (by omega) h1
      exact ⟨f, (Op.lookupswitch.offset_cons v f r dd x.toInt).trans (if_pos e.symm), hv.1.1, h2⟩
    · obtain ⟨off, e1, e2, e3⟩ := lsw_s (fun q hh => hq q (List.mem_cons_of_mem _ hh)) h0 h2
      refine ⟨off, ?_, e2, e3⟩
      have hne : ¬ x.toInt = v := fun e => h1 (by rw [← e]; exact (Int32.ofInt_toInt x).symm)
      rw [← e1]
      exact (Op.lookupswitch.offset_cons v f r dd x.toInt).trans (if_neg (fun e => hne e.symm))
theorem va_aldA {D : va_G} {cl : List vw_C} {tys : List (ClassId × FieldType)} {ws : va_W} {H : Heap} {locs : List Loc} {cc : ByteArray} {pc a : Nat} {ls : Array Slot} {rest : List Value} (hexec : p.tables.exec = Jvm.exec) (hb : c.code = cc) (hK : va_K D cl tys s) (hP : va_P D cl ws H) (q0 t0 : Nat) {cA : ClassId} {n : Nat} {f : Nat → Option Nat} (ha : ws[q0]? = some (a, .inl (cA, n, .inr (.inr (.inr (.inr f)))))) (ht : tys[t0]? = some (cA, .array .long)) {i : Int32} (hin : vp_in i n) (hdg : decode cc pc = .ok (.aaload, 1))
    (kk : W p l e R s m args below meth c H locs cells slots Q (F0 m (pc + 1) ls (va_rf (f i.toNatClampNeg) :: rest))) : W p l e R s m args below meth c H locs cells slots Q (F0 m pc ls (.int i :: .ref a :: rest)) := by
  have hlt : i.toNatClampNeg < n := Nat.not_le.mp fun q => hin (Or.inr q)
  exact W.aald (v := va_rf (f i.toNatClampNeg)) (ty := .array .long) hexec hb (hP q0 _ ha) ((hK.2 t0 _ ht).1 n (fun j => va_rf (f j))) rfl (fun q => by cases q) (by show ¬ (i < 0 ∨ (arrV _ _ _).slots.size ≤ _); rw [arrV_size]; exact hin) (by show (arrV _ _ _).slots[_]? = _; rw [arrV_read _ _ hlt]) rfl rfl hdg kk
theorem fget {σ : Mem} {k t j : Nat} (hj : j < nF t) : ((List.range (nF t)).map (fun j => fval X σ k t j))[j]? = some (fval X σ k t j) := by
  rw [List.getElem?_map, List.getElem?_range hj]
  rfl
theorem fset {σ : Mem} {k t j : Nat} {v : Value} (hw : fkd FT0 t j = fkd FT0 t j) {σ' : Mem} (h1 : fval X σ' k t j = v) (h2 : ∀ q, q ≠ j → fval X σ' k t q = fval X σ k t q) (hj : j < nF t) : ((List.range (nF t)).map (fun j => fval X σ k t j)).set j v = (List.range (nF t)).map (fun j => fval X σ' k t j) := by
  apply List.ext_getElem?
  intro q
  rw [List.getElem?_set]
  by_cases hq : j = q
  · subst hq
    rw [if_pos rfl, fget hj, h1, if_pos (by simpa using hj)]
  · rw [if_neg hq]
    rcases Nat.lt_or_ge q (nF t) with h | h
    · rw [fget h, fget h, h2 q (Ne.symm hq)]
    · rw [List.getElem?_eq_none (by simpa using h), List.getElem?_eq_none (by simpa using h)]
theorem rI_wI {σ : Mem} {k j q : Nat} {v : Int32} : rI (wI σ k j v) k q = if q = j then v else rI σ k q := by
  unfold rI
  rw [wI_at]
  rfl
theorem rJ_wJ {σ : Mem} {k j q : Nat} {v : Int64} : rJ (wJ σ k j v) k q = if q = j then v else rJ σ k q := by
  unfold rJ
  rw [wJ_at]
  rfl
theorem fv_wI {σ : Mem} {k t j : Nat} {v : Int32} : ∀ q, q ≠ j → fval X (wI σ k j v) k t q = fval X σ k t q := fun q h => by
  unfold fval
  rw [rI_wI, if_neg h]
  rfl
theorem fv_wJ {σ : Mem} {k t j : Nat} {v : Int64} : ∀ q, q ≠ j → fval X (wJ σ k j v) k t q = fval X σ k t q := fun q h => by
  unfold fval
  rw [rJ_wJ, if_neg h]
  rfl
theorem fv_i {σ : Mem} {k t j n : Nat} {u : Nat × Nat × Nat} (h : fkd FT0 t j = (n, u)) (hn : n = 0 ∨ n = 3) : fval X σ k t j = .int (rI σ k j) := by
  unfold fval
  rw [h]
  rcases hn with rfl | rfl <;> rfl
theorem fv_l {σ : Mem} {k t j : Nat} {u : Nat × Nat × Nat} (h : fkd FT0 t j = (1, u)) : fval X σ k t j = .long (rJ σ k j) := by
  unfold fval
  rw [h]
  rfl
theorem fv_r {σ : Mem} {k t j f u v : Nat} (h : fkd FT0 t j = (2, f, u, v)) : fval X σ k t j = .ref (xad X (k + u - v)) := by
  unfold fval
  rw [h]
  rfl
theorem nar_z {x : Int32} (h : vp_nar .boolean x = x) : narrow .boolean (.int x) = .int x ∧ fits .boolean (.int x) = true := by
  have e : narrow .boolean (.int x) = .int (vp_nar .boolean x) := rfl
  rw [h] at e
  refine ⟨e, ?_⟩
  have e2 : x &&& 1 = x := by
    have : Value.int (x &&& 1) = .int x := e
    exact Value.int.inj this
  obtain ⟨j, hj, e3⟩ := pk_andE x (m := 1) 1 (by decide)
  show (x == 0 || x == 1) = true
  rw [e2] at e3
  rcases (show j = 0 ∨ j = 1 by omega) with rfl | rfl
  · rw [e3]; rfl
  · rw [e3]; rfl
theorem e_7 : mY 7 = Lib.Math.max.name := by decide +kernel
theorem c_7 : mC 7 = "java/lang/Math" := by decide +kernel
theorem w_7 : mWord 7 = Cond.code Lib.Math.max.name Lib.Math.max.code 2 (some .int) := by decide +kernel
theorem e_32 : mY 32 = Lib.Math.min.name := by decide +kernel
theorem c_32 : mC 32 = "java/lang/Math" := by decide +kernel
theorem w_32 : mWord 32 = Cond.code Lib.Math.min.name Lib.Math.min.code 2 (some .int) := by decide +kernel
theorem e_156 : mY 156 = Lib.Math.abs.name := by decide +kernel
theorem c_156 : mC 156 = "java/lang/Math" := by decide +kernel
theorem w_156 : mWord 156 = Cond.code Lib.Math.abs.name Lib.Math.abs.code 1 (some .int) := by decide +kernel
theorem e_184 : mY 184 = Lib.MathLoose.max_long.x := by decide +kernel
theorem c_184 : mC 184 = "java/lang/Math" := by decide +kernel
theorem w_184 : mWord 184 = Cond.code Lib.MathLoose.max_long.x Lib.MathLoose.max_long.code 4 (some .long) := by decide +kernel
theorem str_recv {q : Nat} {H : Heap} {locs : List Loc} (h : va_O "java/lang/String" q (xA X) s s.heap) (hS : va_S (xA X) s.heap H locs) : ∃ cellB : Cell, H[q]? = some cellB ∧ cellB.vm.isStatics = false ∧ s.vm.findClass "java/lang/String" = some cellB.cls := by
  obtain ⟨cellB, h1, h2, h3, h4⟩ := h
  exact ⟨cellB, (hS.2.1 q (Array.getElem?_eq_some_iff.mp h1).1 h4).trans h1, h2, h3⟩
theorem tr_cons {v : AV} {st : List AV} (h : TR X v) (hs : ∀ w ∈ st, TR X w) : ∀ w ∈ v :: st, TR X w := fun w hw => by
  rcases List.mem_cons.mp hw with rfl | hw
  · exact h
  · exact hs w hw
theorem tr_tl {v : AV} {st : List AV} (hs : ∀ w ∈ v :: st, TR X w) : ∀ w ∈ st, TR X w := fun w hw => hs w (List.mem_cons_of_mem _ hw)
theorem ok_ext {t k : Nat} (h : okref X t k) (ht : t = 150) : k ∈ xev X := by
  rcases h with h | h | h | h
  · omega
  · exact h.2
  · omega
  · omega
theorem ok_str {t k : Nat} (h : okref X t k) (ht : t = 151 ∨ t = 152) : k < xns X := by
  rcases h with h | h | h | h
  · omega
  · omega
  · exact h.2
  · omega
theorem ok_own {t k : Nat} (h : okref X t k) (ht : t < 150) : k < xN X ∧ xtg X k = t := by
  rcases h with h | h | h | h
  · omega
  · omega
  · omega
  · exact h.2
theorem cv_own {t k : Nat} (ht : t < 150) : cv X (.inr (.inr (t, k))) = .ref (xad X k) := by
  show (if t = 153 then va_rf (xno X) else Value.ref (cvr X t k)) = _
  rw [if_neg (by omega)]
  unfold cvr
  rw [if_neg (by omega), if_neg (by omega), if_neg (by omega)]
theorem cv_nn {t k : Nat} (ht : ¬ t = 153) : cv X (.inr (.inr (t, k))) = .ref (cvr X t k) := if_neg ht
theorem cv_ext {k : Nat} : cv X (.inr (.inr (150, k))) = .ref (xea X k) := rfl
theorem cv_str {k : Nat} : cv X (.inr (.inr (151, k))) = .ref (xsa X k) := rfl
theorem cv_byt {k : Nat} : cv X (.inr (.inr (152, k))) = .ref (xva X k) := rfl
set_option maxHeartbeats 4000000 in
theorem stp_sound (C : CTX X p R s m args c i d cells slots)
    (hF : ∀ a av σ K o, F a av σ K = some o → ∃ r : AV × Mem, ((∀ v ∈ av, TR X v) → ∃ d', d' + 1 ≤ d ∧ Sp X d' a av σ r) ∧ TR X r.1 ∧ K r.1 r.2 = some o)
    (hret1 : ∀ pc ls x σ o, decode (mB i) pc = .ok (.ireturn, 1) → (mR i).isSome = true → rt (.inl x) σ = some o → good o → WX X p l e R s m args below meth c cells slots Q i pc ls [.inl x] σ)
    (hret2 : ∀ pc ls x σ o, decode (mB i) pc = .ok (.lreturn, 1) → rt (.inr (.inl x)) σ = some o → good o → WX X p l e R s m args below meth c cells slots Q i pc ls [.inr (.inl x)] σ)
    (hret3 : ∀ pc ls σ o, decode (mB i) pc = .ok (.return_, 1) → (mR i).isNone = true → rt (.inl 0) σ = some o → good o → WX X p l e R s m args below meth c cells slots Q i pc ls [] σ)
    {go : Nat → OL → List AV → Mem → Option O} (hgo : ∀ pc ls st σ o, go pc ls st σ = some o → good o → WX X p l e R s m args below meth c cells slots Q i pc ls st σ)
    {pc : Nat} {I : Instr} {len a b cc : Nat} {ls : OL} {st : List AV} {σ : Mem} {o : O} (hE : okE i (pc, I, len, a, b, cc) = true) (h : stp FT0 (xlen X) (xext X) F rt go pc I a b cc ls st σ = some o) (ho : good o) : WX X p l e R s m args below meth c cells slots Q i pc ls st σ := by
  obtain ⟨hx, hb, hml, hown, hts, hK, hXF, hG, hd1, hdf, hdl, hcc, hcs, hiA, -⟩ := (⟨C.1, C.2.1, C.2.2.1, C.2.2.2.1, C.2.2.2.2.1, C.2.2.2.2.2.1, C.2.2.2.2.2.2.1, C.2.2.2.2.2.2.2.1, C.2.2.2.2.2.2.2.2.1, C.2.2.2.2.2.2.2.2.2.1, C.2.2.2.2.2.2.2.2.2.2.1, C.2.2.2.2.2.2.2.2.2.2.2.1, C.2.2.2.2.2.2.2.2.2.2.2.2.1, C.2.2.2.2.2.2.2.2.2.2.2.2.2, trivial⟩ : p.tables.exec = Jvm.exec ∧ c.code = mB i ∧ c.maxLocals = mL i ∧ s.vm.findClass (mC i) = some m.cls ∧ (∀ w ∈ TB, w.before args s = true) ∧ va_K (xD X) vwCl (xtys X) s ∧ xXF X s ∧ XG X ∧ 1 ≤ d ∧ d ≤ R.frames ∧ 64 * d ≤ R.locals ∧ cells ≤ R.cells ∧ slots ≤ R.slots ∧ i ∈ AM ∧ True)
  have hD : ∀ σ, va_D (xA X) (wl X σ) := wl_D hG
  unfold okE at hE
  rw [Bool.and_eq_true, decide_eq_true_eq] at hE
  obtain ⟨hd, hA⟩ := hE
  dsimp only at hd hA
  intro H locs lsR hP hS hl hT1 hT2
  have hcn : cN (oN i) = mC i := mc_on hiA
  cases I with
  | iconst n =>
    have hA : (len == 1 && decide (Int32.ofInt n = cst a cc)) = true := hA
    rw [Bool.and_eq_true, decide_eq_true_eq] at hA
    obtain rfl : len = 1 := eq_of_beq hA.1
    exact lv_iconst hx hb hd hA.2 (hgo _ _ _ _ _ h ho H locs lsR hP hS hl hT1 (tr_cons trivial hT2))
  | bipush n =>
    have hA : (len == 2 && decide ((Int8.ofInt n).toInt32 = cst a cc)) = true := hA
    rw [Bool.and_eq_true, decide_eq_true_eq] at hA
    obtain rfl : len = 2 := eq_of_beq hA.1
    exact lv_bipush hx hb hd hA.2 (hgo _ _ _ _ _ h ho H locs lsR hP hS hl hT1 (tr_cons trivial hT2))
  | sipush n =>
    have hA : (len == 3 && decide ((Int16.ofInt n).toInt32 = cst a cc)) = true := hA
    rw [Bool.and_eq_true, decide_eq_true_eq] at hA
    obtain rfl : len = 3 := eq_of_beq hA.1
    exact lv_sipush hx hb hd hA.2 (hgo _ _ _ _ _ h ho H locs lsR hP hS hl hT1 (tr_cons trivial hT2))
  | lconst n =>
    obtain rfl : len = 1 := eq_of_beq hA
    exact lv_lconst hx hb hd rfl (hgo _ _ _ _ _ h ho H locs lsR hP hS hl hT1 (tr_cons trivial hT2))
  | ldc n =>
    have hA : (len == 2 && (if cc = 0 then CL.contains (oN i, n, a) else SL.contains (oN i, n, a))) = true := hA
    rw [Bool.and_eq_true] at hA
    obtain ⟨hA1, hA2⟩ := hA
    obtain rfl : len = 2 := eq_of_beq hA1
    rcases ite_s h with ⟨h1, h⟩ | ⟨h1, h⟩
    · rw [if_pos h1] at hA2
      have hw := tb_cl (oN i, n, a) (List.contains_iff_mem.mp hA2)
      have hw2 := hts _ hw
      unfold wC at hw2
      rw [hcn] at hw2
      exact lv_ldc hx hb hown hw2 hd (hgo _ _ _ _ _ h ho H locs lsR hP hS hl hT1 (tr_cons trivial hT2))
    · rw [if_neg h1] at hA2
      obtain ⟨hs1, hs2⟩ := (hG.2.2.2.2.2 s hXF).2.2.2.2.1 (oN i, n, a) (List.contains_iff_mem.mp hA2)
      rw [hcn] at hs2
      exact va_ldcS hx hb hown hs2 hd (hgo _ _ _ _ _ h ho H locs lsR hP hS hl hT1 (tr_cons (Or.inr (Or.inr (Or.inl ⟨Or.inl rfl, hs1⟩))) hT2))
  | ldc_w n =>
    have hA : (len == 3 && CL.contains (oN i, n, a)) = true := hA
    rw [Bool.and_eq_true] at hA
    obtain ⟨hA1, hA2⟩ := hA
    obtain rfl : len = 3 := eq_of_beq hA1
    have hw2 := hts _ (tb_cl (oN i, n, a) (List.contains_iff_mem.mp hA2))
    unfold wC at hw2
    rw [hcn] at hw2
    exact lv_ldcw hx hb hown hw2 hd (hgo _ _ _ _ _ h ho H locs lsR hP hS hl hT1 (tr_cons trivial hT2))
  | ldc2_w n =>
    have hA : (len == 3 && LL.contains (oN i, n, a)) = true := hA
    rw [Bool.and_eq_true] at hA
    obtain ⟨hA1, hA2⟩ := hA
    obtain rfl : len = 3 := eq_of_beq hA1
    have hw2 := hts _ (tb_ll (oN i, n, a) (List.contains_iff_mem.mp hA2))
    unfold wCL at hw2
    rw [hcn] at hw2
    exact lv_ldc2 hx hb hown hw2 hd (hgo _ _ _ _ _ h ho H locs lsR hP hS hl hT1 (tr_cons trivial hT2))
  | iload k =>
    obtain rfl : len = 2 := eq_of_beq hA
    obtain ⟨x, hv, h⟩ := gI_s h
    exact lv_iload hx hb hd (kn_get hl hv) (hgo _ _ _ _ _ h ho H locs lsR hP hS hl hT1 (tr_cons trivial hT2))
  | iload_n k =>
    obtain rfl : len = 1 := eq_of_beq hA
    obtain ⟨x, hv, h⟩ := gI_s h
    exact lv_iload_n hx hb hd rfl (kn_get hl hv) (hgo _ _ _ _ _ h ho H locs lsR hP hS hl hT1 (tr_cons trivial hT2))
  | lload k =>
    obtain rfl : len = 2 := eq_of_beq hA
    obtain ⟨x, hv, h⟩ := gL_s h
    exact lv_lload hx hb hd (kn_get hl hv) (hgo _ _ _ _ _ h ho H locs lsR hP hS hl hT1 (tr_cons trivial hT2))
  | lload_n k =>
    obtain rfl : len = 1 := eq_of_beq hA
    obtain ⟨x, hv, h⟩ := gL_s h
    exact lv_lload_n hx hb hd rfl (kn_get hl hv) (hgo _ _ _ _ _ h ho H locs lsR hP hS hl hT1 (tr_cons trivial hT2))
  | aload k =>
    obtain rfl : len = 2 := eq_of_beq hA
    obtain ⟨t, q, hv, g⟩ := gR_s h
    obtain ⟨ht, h⟩ := iten_s g
    have e := cv_nn (X := X) (k := q) ht
    have hv2 := kn_get hl hv
    have hz := (hgo _ _ _ _ _ h ho H locs lsR hP hS hl hT1 (tr_cons (hT1 _ _ hv) hT2))
    rw [List.map_cons, e] at hz
    rw [e] at hv2
    exact lv_aload hx hb hd hv2 hz
  | aload_n k =>
    obtain rfl : len = 1 := eq_of_beq hA
    obtain ⟨t, q, hv, g⟩ := gR_s h
    obtain ⟨ht, h⟩ := iten_s g
    have e := cv_nn (X := X) (k := q) ht
    have hv2 := kn_get hl hv
    have hz := (hgo _ _ _ _ _ h ho H locs lsR hP hS hl hT1 (tr_cons (hT1 _ _ hv) hT2))
    rw [List.map_cons, e] at hz
    rw [e] at hv2
    exact lv_aload_n hx hb hd rfl hv2 hz
  | istore k =>
    have hA : (len == 2 && decide (k < mL i)) = true := hA
    rw [Bool.and_eq_true, decide_eq_true_eq] at hA
    obtain rfl : len = 2 := eq_of_beq hA.1
    obtain ⟨x, r, rfl, h⟩ := pI_s h
    exact lv_istore hx hb hd hl hA.2 rfl (fun ls2 hl2 => hgo _ _ _ _ _ h ho H locs ls2 hP hS (lv_mono hl2 kn_put1) (tr_put1 hT1 trivial) (tr_tl hT2))
  | istore_n k =>
    have hA : (len == 1 && decide (k.val < mL i)) = true := hA
    rw [Bool.and_eq_true, decide_eq_true_eq] at hA
    obtain rfl : len = 1 := eq_of_beq hA.1
    obtain ⟨x, r, rfl, h⟩ := pI_s h
    exact lv_istore_n hx hb hd rfl hl hA.2 rfl (fun ls2 hl2 => hgo _ _ _ _ _ h ho H locs ls2 hP hS (lv_mono hl2 kn_put1) (tr_put1 hT1 trivial) (tr_tl hT2))
  | lstore k =>
    have hA : (len == 2 && decide (k + 1 < mL i)) = true := hA
    rw [Bool.and_eq_true, decide_eq_true_eq] at hA
    obtain rfl : len = 2 := eq_of_beq hA.1
    obtain ⟨x, r, rfl, h⟩ := pL_s h
    exact lv_lstore hx hb hd hl hA.2 rfl (fun ls2 hl2 => hgo _ _ _ _ _ h ho H locs ls2 hP hS (lv_mono hl2 kn_put2) (tr_put2 hT1 trivial) (tr_tl hT2))
  | lstore_n k =>
    have hA : (len == 1 && decide (k.val + 1 < mL i)) = true := hA
    rw [Bool.and_eq_true, decide_eq_true_eq] at hA
    obtain rfl : len = 1 := eq_of_beq hA.1
    obtain ⟨x, r, rfl, h⟩ := pL_s h
    exact lv_lstore_n hx hb hd rfl hl hA.2 rfl (fun ls2 hl2 => hgo _ _ _ _ _ h ho H locs ls2 hP hS (lv_mono hl2 kn_put2) (tr_put2 hT1 trivial) (tr_tl hT2))
  | astore k =>
    have hA : (len == 2 && decide (k < mL i)) = true := hA
    rw [Bool.and_eq_true, decide_eq_true_eq] at hA
    obtain rfl : len = 2 := eq_of_beq hA.1
    obtain ⟨t, q, r, rfl, g⟩ := pR_s h
    obtain ⟨ht, h⟩ := iten_s g
    have e := cv_nn (X := X) (k := q) ht
    rw [List.map_cons, e]
    exact lv_astore hx hb hd hl hA.2 rfl (fun ls2 hl2 => hgo _ _ _ _ _ h ho H locs ls2 hP hS (lv_mono hl2 (by rw [← e]; exact kn_put1)) (tr_put1 hT1 (hT2 _ List.mem_cons_self)) (tr_tl hT2))
  | astore_n k =>
    have hA : (len == 1 && decide (k.val < mL i)) = true := hA
    rw [Bool.and_eq_true, decide_eq_true_eq] at hA
    obtain rfl : len = 1 := eq_of_beq hA.1
    obtain ⟨t, q, r, rfl, g⟩ := pR_s h
    obtain ⟨ht, h⟩ := iten_s g
    have e := cv_nn (X := X) (k := q) ht
    rw [List.map_cons, e]
    exact lv_astore_n hx hb hd rfl hl hA.2 rfl (fun ls2 hl2 => hgo _ _ _ _ _ h ho H locs ls2 hP hS (lv_mono hl2 (by rw [← e]; exact kn_put1)) (tr_put1 hT1 (hT2 _ List.mem_cons_self)) (tr_tl hT2))
  | iinc k n =>
    have hA : (len == 3 && decide (k < mL i) && decide (Int32.ofInt n = cst a cc)) = true := hA
    rw [Bool.and_eq_true, Bool.and_eq_true, decide_eq_true_eq, decide_eq_true_eq] at hA
    obtain ⟨⟨hA1, hA2⟩, hA3⟩ := hA
    obtain rfl : len = 3 := eq_of_beq hA1
    obtain ⟨x, hv, h⟩ := gI_s h
    obtain ⟨z, hz⟩ := List.getElem?_of_mem ((kn_mem (X := X) ls 0 (k, .int x)).mpr ⟨k, _, (Nat.zero_add k).symm, hv, rfl⟩)
    exact lv_iinc (k := z) hx hb hd hl hz (by rw [hA3, inc_cst]) hA2 rfl (fun ls2 hl2 => hgo _ _ _ _ _ h ho H locs ls2 hP hS (lv_mono hl2 kn_put1) (tr_put1 hT1 trivial) hT2)
  | iadd =>
    obtain rfl : len = 1 := eq_of_beq hA
    obtain ⟨y, r1, rfl, h⟩ := pI_s h
    obtain ⟨x, r, rfl, h⟩ := pI_s h
    exact lv_iadd hx hb hd (hgo _ _ _ _ _ h ho H locs lsR hP hS hl hT1 (tr_cons trivial (tr_tl (tr_tl hT2))))
  | isub =>
    obtain rfl : len = 1 := eq_of_beq hA
    obtain ⟨y, r1, rfl, h⟩ := pI_s h
    obtain ⟨x, r, rfl, h⟩ := pI_s h
    exact lv_isub hx hb hd (hgo _ _ _ _ _ h ho H locs lsR hP hS hl hT1 (tr_cons trivial (tr_tl (tr_tl hT2))))
  | imul =>
    obtain rfl : len = 1 := eq_of_beq hA
    obtain ⟨y, r1, rfl, h⟩ := pI_s h
    obtain ⟨x, r, rfl, h⟩ := pI_s h
    exact lv_imul hx hb hd (hgo _ _ _ _ _ h ho H locs lsR hP hS hl hT1 (tr_cons trivial (tr_tl (tr_tl hT2))))
  | iand =>
    obtain rfl : len = 1 := eq_of_beq hA
    obtain ⟨y, r1, rfl, h⟩ := pI_s h
    obtain ⟨x, r, rfl, h⟩ := pI_s h
    exact lv_iand hx hb hd (hgo _ _ _ _ _ h ho H locs lsR hP hS hl hT1 (tr_cons trivial (tr_tl (tr_tl hT2))))
  | ior =>
    obtain rfl : len = 1 := eq_of_beq hA
    obtain ⟨y, r1, rfl, h⟩ := pI_s h
    obtain ⟨x, r, rfl, h⟩ := pI_s h
    exact lv_ior hx hb hd (hgo _ _ _ _ _ h ho H locs lsR hP hS hl hT1 (tr_cons trivial (tr_tl (tr_tl hT2))))
  | ixor =>
    obtain rfl : len = 1 := eq_of_beq hA
    obtain ⟨y, r1, rfl, h⟩ := pI_s h
    obtain ⟨x, r, rfl, h⟩ := pI_s h
    exact lv_ixor hx hb hd (hgo _ _ _ _ _ h ho H locs lsR hP hS hl hT1 (tr_cons trivial (tr_tl (tr_tl hT2))))
  | ishl =>
    obtain rfl : len = 1 := eq_of_beq hA
    obtain ⟨y, r1, rfl, h⟩ := pI_s h
    obtain ⟨x, r, rfl, h⟩ := pI_s h
    exact lv_ishl hx hb hd (hgo _ _ _ _ _ h ho H locs lsR hP hS hl hT1 (tr_cons trivial (tr_tl (tr_tl hT2))))
  | ishr =>
    obtain rfl : len = 1 := eq_of_beq hA
    obtain ⟨y, r1, rfl, h⟩ := pI_s h
    obtain ⟨x, r, rfl, h⟩ := pI_s h
    exact lv_ishr hx hb hd (hgo _ _ _ _ _ h ho H locs lsR hP hS hl hT1 (tr_cons trivial (tr_tl (tr_tl hT2))))
  | iushr =>
    obtain rfl : len = 1 := eq_of_beq hA
    obtain ⟨y, r1, rfl, h⟩ := pI_s h
    obtain ⟨x, r, rfl, h⟩ := pI_s h
    exact lv_iushr hx hb hd rfl (hgo _ _ _ _ _ h ho H locs lsR hP hS hl hT1 (tr_cons trivial (tr_tl (tr_tl hT2))))
  | idiv =>
    obtain rfl : len = 1 := eq_of_beq hA
    obtain ⟨y, r1, rfl, h⟩ := pI_s h
    obtain ⟨x, r, rfl, h⟩ := pI_s h
    obtain ⟨hy, h⟩ := iten_s h
    exact lv_idiv hx hb hd hy (hgo _ _ _ _ _ h ho H locs lsR hP hS hl hT1 (tr_cons trivial (tr_tl (tr_tl hT2))))
  | irem =>
    obtain rfl : len = 1 := eq_of_beq hA
    obtain ⟨y, r1, rfl, h⟩ := pI_s h
    obtain ⟨x, r, rfl, h⟩ := pI_s h
    obtain ⟨hy, h⟩ := iten_s h
    exact lv_irem hx hb hd hy (hgo _ _ _ _ _ h ho H locs lsR hP hS hl hT1 (tr_cons trivial (tr_tl (tr_tl hT2))))
  | ineg =>
    obtain rfl : len = 1 := eq_of_beq hA
    obtain ⟨x, r, rfl, h⟩ := pI_s h
    exact lv_ineg hx hb hd (hgo _ _ _ _ _ h ho H locs lsR hP hS hl hT1 (tr_cons trivial (tr_tl hT2)))
  | i2c =>
    obtain rfl : len = 1 := eq_of_beq hA
    obtain ⟨x, r, rfl, h⟩ := pI_s h
    exact lv_i2c hx hb hd rfl (hgo _ _ _ _ _ h ho H locs lsR hP hS hl hT1 (tr_cons trivial (tr_tl hT2)))
  | i2b =>
    obtain rfl : len = 1 := eq_of_beq hA
    obtain ⟨x, r, rfl, h⟩ := pI_s h
    exact lv_i2b hx hb hd rfl (hgo _ _ _ _ _ h ho H locs lsR hP hS hl hT1 (tr_cons trivial (tr_tl hT2)))
  | i2l =>
    obtain rfl : len = 1 := eq_of_beq hA
    obtain ⟨x, r, rfl, h⟩ := pI_s h
    exact lv_i2l hx hb hd rfl (hgo _ _ _ _ _ h ho H locs lsR hP hS hl hT1 (tr_cons trivial (tr_tl hT2)))
  | l2i =>
    obtain rfl : len = 1 := eq_of_beq hA
    obtain ⟨x, r, rfl, h⟩ := pL_s h
    exact lv_l2i hx hb hd rfl (hgo _ _ _ _ _ h ho H locs lsR hP hS hl hT1 (tr_cons trivial (tr_tl hT2)))
  | ladd =>
    obtain rfl : len = 1 := eq_of_beq hA
    obtain ⟨y, r1, rfl, h⟩ := pL_s h
    obtain ⟨x, r, rfl, h⟩ := pL_s h
    exact lv_ladd hx hb hd (hgo _ _ _ _ _ h ho H locs lsR hP hS hl hT1 (tr_cons trivial (tr_tl (tr_tl hT2))))
  | lmul =>
    obtain rfl : len = 1 := eq_of_beq hA
    obtain ⟨y, r1, rfl, h⟩ := pL_s h
    obtain ⟨x, r, rfl, h⟩ := pL_s h
    exact lv_lmul hx hb hd (hgo _ _ _ _ _ h ho H locs lsR hP hS hl hT1 (tr_cons trivial (tr_tl (tr_tl hT2))))
  | ldiv =>
    obtain rfl : len = 1 := eq_of_beq hA
    obtain ⟨y, r1, rfl, h⟩ := pL_s h
    obtain ⟨x, r, rfl, h⟩ := pL_s h
    obtain ⟨hy, h⟩ := iten_s h
    exact lv_ldiv hx hb hd hy (hgo _ _ _ _ _ h ho H locs lsR hP hS hl hT1 (tr_cons trivial (tr_tl (tr_tl hT2))))
  | lrem =>
    obtain rfl : len = 1 := eq_of_beq hA
    obtain ⟨y, r1, rfl, h⟩ := pL_s h
    obtain ⟨x, r, rfl, h⟩ := pL_s h
    obtain ⟨hy, h⟩ := iten_s h
    exact lv_lrem hx hb hd hy (hgo _ _ _ _ _ h ho H locs lsR hP hS hl hT1 (tr_cons trivial (tr_tl (tr_tl hT2))))
  | lcmp =>
    obtain rfl : len = 1 := eq_of_beq hA
    obtain ⟨y, r1, rfl, h⟩ := pL_s h
    obtain ⟨x, r, rfl, h⟩ := pL_s h
    exact W.lcmp hx hb hd (hgo _ _ _ _ _ h ho H locs lsR hP hS hl hT1 (tr_cons trivial (tr_tl (tr_tl hT2))))
  | dup =>
    obtain rfl : len = 1 := eq_of_beq hA
    rcases st with _ | ⟨x | x | ⟨t, q⟩, r⟩
    · cases h
    · exact lv_dup hx hb hd rfl (hgo _ _ _ _ _ h ho H locs lsR hP hS hl hT1 (tr_cons trivial hT2))
    · cases h
    · obtain ⟨ht, h⟩ := iten_s h
      exact lv_dup hx hb hd cv_cat1 (hgo _ _ _ _ _ h ho H locs lsR hP hS hl hT1 (tr_cons (hT2 _ List.mem_cons_self) hT2))
  | dup2 =>
    obtain rfl : len = 1 := eq_of_beq hA
    obtain ⟨y, r1, rfl, h⟩ := pI_s h
    obtain ⟨t, q, r, rfl, g⟩ := pR_s h
    obtain ⟨ht, h⟩ := iten_s g
    exact lv_dup2_11 hx hb hd rfl cv_cat1 (hgo _ _ _ _ _ h ho H locs lsR hP hS hl hT1 (tr_cons trivial (tr_cons (tr_tl hT2 _ List.mem_cons_self) hT2)))
  | pop =>
    obtain rfl : len = 1 := eq_of_beq hA
    obtain ⟨x, r, rfl, h⟩ := pI_s h
    exact lv_pop hx hb hd rfl (hgo _ _ _ _ _ h ho H locs lsR hP hS hl hT1 (tr_tl hT2))
  | ifCond cd off =>
    have hA : (len == 3 && brOK pc off a) = true := hA
    rw [Bool.and_eq_true] at hA
    obtain rfl : len = 3 := eq_of_beq hA.1
    have ht := of_decide_eq_true hA.2
    obtain ⟨x, r, rfl, h⟩ := pI_s h
    cases cd with
    | eq => exact lv_if_eq hx hb hd ht (fun h1 => (cif_s h).elim (fun ⟨_, h2⟩ => hgo _ _ _ _ _ h2 ho H locs lsR hP hS hl hT1 (tr_tl hT2)) (fun ⟨h0, _⟩ => absurd h1 h0)) (fun h1 => (cif_s h).elim (fun ⟨h0, _⟩ => absurd h0 h1) (fun ⟨_, h2⟩ => hgo _ _ _ _ _ h2 ho H locs lsR hP hS hl hT1 (tr_tl hT2)))
    | lt => exact lv_if_lt hx hb hd ht (fun h1 => (cif_s h).elim (fun ⟨_, h2⟩ => hgo _ _ _ _ _ h2 ho H locs lsR hP hS hl hT1 (tr_tl hT2)) (fun ⟨h0, _⟩ => absurd h1 h0)) (fun h1 => (cif_s h).elim (fun ⟨h0, _⟩ => absurd h0 h1) (fun ⟨_, h2⟩ => hgo _ _ _ _ _ h2 ho H locs lsR hP hS hl hT1 (tr_tl hT2)))
    | ge => exact lv_if_ge hx hb hd ht (fun h1 => (cif_s h).elim (fun ⟨_, h2⟩ => hgo _ _ _ _ _ h2 ho H locs lsR hP hS hl hT1 (tr_tl hT2)) (fun ⟨h0, _⟩ => absurd h1 h0)) (fun h1 => (cif_s h).elim (fun ⟨h0, _⟩ => absurd h0 h1) (fun ⟨_, h2⟩ => hgo _ _ _ _ _ h2 ho H locs lsR hP hS hl hT1 (tr_tl hT2)))
    | gt => exact lv_if_gt hx hb hd ht (fun h1 => (cif_s h).elim (fun ⟨_, h2⟩ => hgo _ _ _ _ _ h2 ho H locs lsR hP hS hl hT1 (tr_tl hT2)) (fun ⟨h0, _⟩ => absurd h1 h0)) (fun h1 => (cif_s h).elim (fun ⟨h0, _⟩ => absurd h0 h1) (fun ⟨_, h2⟩ => hgo _ _ _ _ _ h2 ho H locs lsR hP hS hl hT1 (tr_tl hT2)))
    | le => exact lv_if_le hx hb hd ht (fun h1 => (cif_s h).elim (fun ⟨_, h2⟩ => hgo _ _ _ _ _ h2 ho H locs lsR hP hS hl hT1 (tr_tl hT2)) (fun ⟨h0, _⟩ => absurd h1 h0)) (fun h1 => (cif_s h).elim (fun ⟨h0, _⟩ => absurd h0 h1) (fun ⟨_, h2⟩ => hgo _ _ _ _ _ h2 ho H locs lsR hP hS hl hT1 (tr_tl hT2)))
    | ne => exact lv_if_ne hx hb hd ht (fun h1 => (cif_s h).elim (fun ⟨h0, _⟩ => absurd h0 h1) (fun ⟨_, h2⟩ => hgo _ _ _ _ _ h2 ho H locs lsR hP hS hl hT1 (tr_tl hT2))) (fun h1 => (cif_s h).elim (fun ⟨_, h2⟩ => hgo _ _ _ _ _ h2 ho H locs lsR hP hS hl hT1 (tr_tl hT2)) (fun ⟨h0, _⟩ => absurd h1 h0))
  | if_icmp cd off =>
    have hA : (len == 3 && brOK pc off a) = true := hA
    rw [Bool.and_eq_true] at hA
    obtain rfl : len = 3 := eq_of_beq hA.1
    have ht := of_decide_eq_true hA.2
    obtain ⟨y, r1, rfl, h⟩ := pI_s h
    obtain ⟨x, r, rfl, h⟩ := pI_s h
    cases cd with
    | eq => exact lv_icmp_eq hx hb hd ht (fun h1 => (cif_s h).elim (fun ⟨_, h2⟩ => hgo _ _ _ _ _ h2 ho H locs lsR hP hS hl hT1 (tr_tl (tr_tl hT2))) (fun ⟨h0, _⟩ => absurd h1 h0)) (fun h1 => (cif_s h).elim (fun ⟨h0, _⟩ => absurd h0 h1) (fun ⟨_, h2⟩ => hgo _ _ _ _ _ h2 ho H locs lsR hP hS hl hT1 (tr_tl (tr_tl hT2))))
    | lt => exact lv_icmp_lt hx hb hd ht (fun h1 => (cif_s h).elim (fun ⟨_, h2⟩ => hgo _ _ _ _ _ h2 ho H locs lsR hP hS hl hT1 (tr_tl (tr_tl hT2))) (fun ⟨h0, _⟩ => absurd h1 h0)) (fun h1 => (cif_s h).elim (fun ⟨h0, _⟩ => absurd h0 h1) (fun ⟨_, h2⟩ => hgo _ _ _ _ _ h2 ho H locs lsR hP hS hl hT1 (tr_tl (tr_tl hT2))))
    | ge => exact lv_icmp_ge hx hb hd ht (fun h1 => (cif_s h).elim (fun ⟨_, h2⟩ => hgo _ _ _ _ _ h2 ho H locs lsR hP hS hl hT1 (tr_tl (tr_tl hT2))) (fun ⟨h0, _⟩ => absurd h1 h0)) (fun h1 => (cif_s h).elim (fun ⟨h0, _⟩ => absurd h0 h1) (fun ⟨_, h2⟩ => hgo _ _ _ _ _ h2 ho H locs lsR hP hS hl hT1 (tr_tl (tr_tl hT2))))
    | gt => exact lv_icmp_gt hx hb hd ht (fun h1 => (cif_s h).elim (fun ⟨_, h2⟩ => hgo _ _ _ _ _ h2 ho H locs lsR hP hS hl hT1 (tr_tl (tr_tl hT2))) (fun ⟨h0, _⟩ => absurd h1 h0)) (fun h1 => (cif_s h).elim (fun ⟨h0, _⟩ => absurd h0 h1) (fun ⟨_, h2⟩ => hgo _ _ _ _ _ h2 ho H locs lsR hP hS hl hT1 (tr_tl (tr_tl hT2))))
    | le => exact lv_icmp_le hx hb hd ht (fun h1 => (cif_s h).elim (fun ⟨_, h2⟩ => hgo _ _ _ _ _ h2 ho H locs lsR hP hS hl hT1 (tr_tl (tr_tl hT2))) (fun ⟨h0, _⟩ => absurd h1 h0)) (fun h1 => (cif_s h).elim (fun ⟨h0, _⟩ => absurd h0 h1) (fun ⟨_, h2⟩ => hgo _ _ _ _ _ h2 ho H locs lsR hP hS hl hT1 (tr_tl (tr_tl hT2))))
    | ne => exact lv_icmp_ne hx hb hd ht (fun h1 => (cif_s h).elim (fun ⟨h0, _⟩ => absurd h0 h1) (fun ⟨_, h2⟩ => hgo _ _ _ _ _ h2 ho H locs lsR hP hS hl hT1 (tr_tl (tr_tl hT2)))) (fun h1 => (cif_s h).elim (fun ⟨_, h2⟩ => hgo _ _ _ _ _ h2 ho H locs lsR hP hS hl hT1 (tr_tl (tr_tl hT2))) (fun ⟨h0, _⟩ => absurd h1 h0))
  | goto off =>
    have hA : (len == 3 && brOK pc off a) = true := hA
    rw [Bool.and_eq_true] at hA
    obtain rfl : len = 3 := eq_of_beq hA.1
    have ht := of_decide_eq_true hA.2
    exact lv_goto hx hb hd ht (hgo _ _ _ _ _ h ho H locs lsR hP hS hl hT1 hT2)
  | ifnull off =>
    have hA : (len == 3 && brOK pc off a) = true := hA
    rw [Bool.and_eq_true] at hA
    obtain rfl : len = 3 := eq_of_beq hA.1
    have ht := of_decide_eq_true hA.2
    obtain ⟨t, q, r, rfl, g⟩ := pR_s h
    obtain ⟨h1, h⟩ := iten_s g
    rw [List.map_cons, cv_nn h1]
    exact lv_ifnull hx hb hd (hgo _ _ _ _ _ h ho H locs lsR hP hS hl hT1 (tr_tl hT2))
  | ifnonnull off =>
    have hA : (len == 3 && brOK pc off a) = true := hA
    rw [Bool.and_eq_true] at hA
    obtain rfl : len = 3 := eq_of_beq hA.1
    have ht := of_decide_eq_true hA.2
    obtain ⟨t, q, r, rfl, g⟩ := pR_s h
    obtain ⟨h1, h⟩ := iten_s g
    rw [List.map_cons, cv_nn h1]
    exact lv_ifnonnull hx hb hd ht (hgo _ _ _ _ _ h ho H locs lsR hP hS hl hT1 (tr_tl hT2))
  | tableswitch df lo hi offs =>
    have hA : (decide (0 ≤ (pc : Int) + df) && offs.toList.all (fun o => decide (0 ≤ (pc : Int) + o)) && decide (lo + offs.size = hi + 1) && decide (-2147483648 ≤ lo) && decide (hi < 2147483647) && decide (lo ≤ hi + 1)) = true := hA
    simp only [Bool.and_eq_true, decide_eq_true_eq, List.all_eq_true] at hA
    obtain ⟨⟨⟨⟨⟨a1, a2⟩, a3⟩, a4⟩, a5⟩, a6⟩ := hA
    obtain ⟨x, r, rfl, h⟩ := pI_s h
    rcases chain_s h with ⟨q, q1, q2, h⟩ | ⟨q1, h⟩
    · obtain ⟨n, off, e1, e2, e3⟩ := tsw_mem q1
      have hn : n < offs.size := by have := (List.getElem?_eq_some_iff.mp e1).1; simpa using this
      have hx2 : x.toInt = lo + n := i32_of (by omega) (by omega) (q2.trans e2)
      have e4 : (x.toInt - lo).toNat = n := by omega
      have e5 : 0 ≤ (pc : Int) + off := a2 off (List.mem_of_getElem? e1)
      exact lv_tableIn (off := off) (tgt := ((pc : Int) + off).toNat) hx hb hd (by omega) (by omega) (by rw [e4, ← Array.getElem?_toList]; exact e1) (by omega) (by rw [← e3]; exact hgo _ _ _ _ _ h ho H locs lsR hP hS hl hT1 (tr_tl hT2))
    · refine lv_tableOut (tgt := ((pc : Int) + df).toNat) hx hb hd ?_ (by omega) (hgo _ _ _ _ _ h ho H locs lsR hP hS hl hT1 (tr_tl hT2))
      rcases Int.lt_or_le x.toInt lo with h1 | h1
      · exact Or.inl h1
      · rcases Int.lt_or_le hi x.toInt with h2 | h2
        · exact Or.inr h2
        · exfalso
          have hn : (x.toInt - lo).toNat < offs.toList.length := by rw [Array.length_toList]; omega
          obtain ⟨q, p1, p2⟩ := tsw_all (pc := pc) (lo := lo) hn
          refine q1 q p1 ?_
          rw [p2, show lo + ((x.toInt - lo).toNat : Int) = x.toInt by omega]
          exact (Int32.ofInt_toInt x).symm
  | lookupswitch df ps =>
    have hA : (decide (0 ≤ (pc : Int) + df) && ps.toList.all (fun o => decide (0 ≤ (pc : Int) + o.2) && decide (-2147483648 ≤ o.1) && decide (o.1 < 2147483647)) && (ps.toList.zip (ps.toList.drop 1)).all (fun (a, next) => a.1 < next.1)) = true := hA
    rw [Bool.and_eq_true, Bool.and_eq_true, decide_eq_true_eq] at hA
    obtain ⟨⟨a1, a2⟩, a3⟩ := hA
    obtain ⟨x, r, rfl, h⟩ := pI_s h
    obtain ⟨off, h1, h2, h⟩ := lsw_s (fun q hq => by have h3 := List.all_eq_true.mp a2 q hq; simpa using h3) a1 h
    exact lv_lookup (off := off) (tgt := ((pc : Int) + off).toNat) hx hb hd a3 h1 (by omega) (hgo _ _ _ _ _ h ho H locs lsR hP hS hl hT1 (tr_tl hT2))
  | arraylength =>
    obtain rfl : len = 1 := eq_of_beq hA
    obtain ⟨t, k, r, rfl, h⟩ := pR_s h
    have hr : okref X t k := hT2 _ List.mem_cons_self
    rcases ite_s h with ⟨h1, h⟩ | ⟨h1, h⟩
    · subst h1
      exact va_tlen hx hb ((hG.2.2.2.2.2 s hXF).1 k (ok_ext hr rfl)) hS rfl hd (hgo _ _ _ _ _ h ho H locs lsR hP hS hl hT1 (tr_cons trivial (tr_tl hT2)))
    · rcases ite_s h with ⟨h2, h⟩ | ⟨h2, h⟩
      · subst h2
        exact va_tlen hx hb ((hG.2.2.2.2.2 s hXF).2.1 k (ok_str hr (Or.inr rfl))).2.2.2 hS rfl hd (hgo _ _ _ _ _ h ho H locs lsR hP hS hl hT1 (tr_cons trivial (tr_tl hT2)))
      · obtain ⟨h3, h⟩ := itet_s h
        obtain ⟨hk, htg⟩ := ok_own hr (by omega)
        rw [List.map_cons, cv_own (by omega)]
        have hw := wl_get (σ := σ) hk
        have tl := tr_tl hT2
        rcases (show t = 100 ∨ t = 101 ∨ t = 102 ∨ t = 103 ∨ t = 104 ∨ t = 105 by omega) with rfl | rfl | rfl | rfl | rfl | rfl
        · rw [cell_int htg (by omega)] at hw
          exact va_alen hx hb hK hP k 0 hw rfl rfl hd (hgo _ _ _ _ _ h ho H locs lsR hP hS hl hT1 (tr_cons trivial tl))
        · rw [cell_int htg (by omega)] at hw
          exact va_alen hx hb hK hP k 1 hw rfl rfl hd (hgo _ _ _ _ _ h ho H locs lsR hP hS hl hT1 (tr_cons trivial tl))
        · rw [cell_int htg (by omega)] at hw
          exact va_alen hx hb hK hP k 2 hw rfl rfl hd (hgo _ _ _ _ _ h ho H locs lsR hP hS hl hT1 (tr_cons trivial tl))
        · rw [cell_long htg] at hw
          exact va_alen hx hb hK hP k 3 hw rfl rfl hd (hgo _ _ _ _ _ h ho H locs lsR hP hS hl hT1 (tr_cons trivial tl))
        · rw [cell_prs htg] at hw
          exact va_alen hx hb hK hP k 4 hw rfl rfl hd (hgo _ _ _ _ _ h ho H locs lsR hP hS hl hT1 (tr_cons trivial tl))
        · rw [cell_rows htg] at hw
          exact va_alen hx hb hK hP k 5 hw rfl rfl hd (hgo _ _ _ _ _ h ho H locs lsR hP hS hl hT1 (tr_cons trivial tl))
  | iaload =>
    obtain rfl : len = 1 := eq_of_beq hA
    obtain ⟨j, r1, rfl, h⟩ := pI_s h
    obtain ⟨t, k, r, rfl, h⟩ := pR_s h
    have hr : okref X t k := hT2 _ (List.mem_cons_of_mem _ List.mem_cons_self)
    have tl := tr_tl (tr_tl hT2)
    rcases ite_s h with ⟨h1, h⟩ | ⟨h1, h⟩
    · subst h1
      obtain ⟨hb2, h⟩ := gd_s h
      obtain ⟨hk, htg⟩ := ok_own hr (by omega)
      have hw := wl_get (σ := σ) hk
      rw [cell_int htg (by omega)] at hw
      rw [List.map_cons, List.map_cons, cv_own (by omega)]
      exact va_iald hx hb hK hP k 0 hw rfl (inb_vp hb2) hd (hgo _ _ _ _ _ h ho H locs lsR hP hS hl hT1 (tr_cons trivial tl))
    · obtain ⟨h2, h⟩ := itet_s h
      subst h2
      obtain ⟨hb2, h⟩ := gd_s h
      exact va_ti hx hb ((hG.2.2.2.2.2 s hXF).1 k (ok_ext hr rfl)) hS (inb_vp hb2) rfl hd (hgo _ _ _ _ _ h ho H locs lsR hP hS hl hT1 (tr_cons trivial tl))
  | baload =>
    obtain rfl : len = 1 := eq_of_beq hA
    obtain ⟨j, r1, rfl, h⟩ := pI_s h
    obtain ⟨t, k, r, rfl, h⟩ := pR_s h
    have hr : okref X t k := hT2 _ (List.mem_cons_of_mem _ List.mem_cons_self)
    have tl := tr_tl (tr_tl hT2)
    rcases ite_s h with ⟨h1, h⟩ | ⟨h1, h⟩
    · subst h1
      obtain ⟨hb2, h⟩ := gd_s h
      obtain ⟨hk, htg⟩ := ok_own hr (by omega)
      have hw := wl_get (σ := σ) hk
      rw [cell_int htg (by omega)] at hw
      rw [List.map_cons, List.map_cons, cv_own (by omega)]
      exact va_zald hx hb hK hP k 1 hw rfl (inb_vp hb2) hd (hgo _ _ _ _ _ h ho H locs lsR hP hS hl hT1 (tr_cons trivial tl))
    · obtain ⟨h2, h⟩ := itet_s h
      subst h2
      obtain ⟨hb2, h⟩ := gd_s h
      exact va_tb hx hb ((hG.2.2.2.2.2 s hXF).2.1 k (ok_str hr (Or.inr rfl))).2.2.2 hS (inb_vp hb2) rfl hd (hgo _ _ _ _ _ h ho H locs lsR hP hS hl hT1 (tr_cons trivial tl))
  | caload =>
    obtain rfl : len = 1 := eq_of_beq hA
    obtain ⟨j, r1, rfl, h⟩ := pI_s h
    obtain ⟨t, k, r, rfl, h⟩ := pR_s h
    have hr : okref X t k := hT2 _ (List.mem_cons_of_mem _ List.mem_cons_self)
    have tl := tr_tl (tr_tl hT2)
    obtain ⟨h1, h⟩ := itet_s h
    subst h1
    obtain ⟨hb2, h⟩ := gd_s h
    obtain ⟨hk, htg⟩ := ok_own hr (by omega)
    have hw := wl_get (σ := σ) hk
    rw [cell_int htg (by omega)] at hw
    rw [List.map_cons, List.map_cons, cv_own (by omega)]
    exact va_cald hx hb hK hP k 2 hw rfl (inb_vp hb2) hd (hgo _ _ _ _ _ h ho H locs lsR hP hS hl hT1 (tr_cons trivial tl))
  | laload =>
    obtain rfl : len = 1 := eq_of_beq hA
    obtain ⟨j, r1, rfl, h⟩ := pI_s h
    obtain ⟨t, k, r, rfl, h⟩ := pR_s h
    have hr : okref X t k := hT2 _ (List.mem_cons_of_mem _ List.mem_cons_self)
    have tl := tr_tl (tr_tl hT2)
    obtain ⟨h1, h⟩ := itet_s h
    subst h1
    obtain ⟨hb2, h⟩ := gd_s h
    obtain ⟨hk, htg⟩ := ok_own hr (by omega)
    have hw := wl_get (σ := σ) hk
    rw [cell_long htg] at hw
    rw [List.map_cons, List.map_cons, cv_own (by omega)]
    exact va_lald hx hb hK hP k 3 hw rfl (inb_vp hb2) hd (hgo _ _ _ _ _ h ho H locs lsR hP hS hl hT1 (tr_cons trivial tl))
  | aaload =>
    obtain rfl : len = 1 := eq_of_beq hA
    obtain ⟨j, r1, rfl, h⟩ := pI_s h
    obtain ⟨t, k, r, rfl, h⟩ := pR_s h
    have hr : okref X t k := hT2 _ (List.mem_cons_of_mem _ List.mem_cons_self)
    have tl := tr_tl (tr_tl hT2)
    rcases ite_s h with ⟨h1, h⟩ | ⟨h1, h⟩
    · subst h1
      obtain ⟨hb2, h⟩ := gd_s h
      obtain ⟨hk, htg⟩ := ok_own hr (by omega)
      have hw := wl_get (σ := σ) hk
      rw [cell_prs htg] at hw
      rw [List.map_cons, List.map_cons, cv_own (by omega)]
      have hlt := inb_lt hb2
      have hok := hG.2.2.1 k hk htg (ix j) hlt
      have hg := hgo _ _ _ _ _ h ho H locs lsR hP hS hl hT1 (tr_cons hok tl)
      rw [List.map_cons, cv_own (by omega)] at hg
      exact va_aldq hx hb hK hP k 4 hw rfl (inb_vp hb2) hd hg
    · obtain ⟨h1, h⟩ := itet_s h
      subst h1
      obtain ⟨hb2, h⟩ := gd_s h
      obtain ⟨hk, htg⟩ := ok_own hr (by omega)
      have hw := wl_get (σ := σ) hk
      rw [cell_rows htg] at hw
      rw [List.map_cons, List.map_cons, cv_own (by omega)]
      have hlt := inb_lt hb2
      have hok := hG.2.2.2.1 k hk htg (ix j) hlt
      have hg := hgo _ _ _ _ _ h ho H locs lsR hP hS hl hT1 (tr_cons hok tl)
      rw [List.map_cons, cv_own (by omega)] at hg
      exact va_aldA hx hb hK hP k 5 hw rfl (inb_vp hb2) hd hg
  | iastore =>
    obtain rfl : len = 1 := eq_of_beq hA
    obtain ⟨w, r0, rfl, h⟩ := pI_s h
    obtain ⟨j, r1, rfl, h⟩ := pI_s h
    obtain ⟨t, k, r, rfl, h⟩ := pR_s h
    have hr : okref X t k := hT2 _ (List.mem_cons_of_mem _ (List.mem_cons_of_mem _ List.mem_cons_self))
    have tl := tr_tl (tr_tl (tr_tl hT2))
    obtain ⟨h1, h⟩ := itet_s h
    subst h1
    obtain ⟨hb2, h⟩ := gd_s h
    obtain ⟨hk, htg⟩ := ok_own hr (by omega)
    have hw := wl_get (σ := σ) hk
    rw [List.map_cons, List.map_cons, List.map_cons, cv_own (by omega)]
    rw [cell_int htg (by omega)] at hw
    refine va_iast hx hb hK hP (hD σ) hS k 0 hw rfl (inb_vp hb2) hd (fun H1 locs1 hP1 _ hS1 => ?_)
    rw [wl_set hk (σ' := wI σ k (ix j) w) (by rw [cell_int htg (by omega), wI_at]; rfl) wI_off] at hP1
    exact hgo _ _ _ _ _ h ho H1 locs1 lsR hP1 hS1 hl hT1 tl
  | bastore =>
    obtain rfl : len = 1 := eq_of_beq hA
    obtain ⟨w, r0, rfl, h⟩ := pI_s h
    obtain ⟨j, r1, rfl, h⟩ := pI_s h
    obtain ⟨t, k, r, rfl, h⟩ := pR_s h
    have hr : okref X t k := hT2 _ (List.mem_cons_of_mem _ (List.mem_cons_of_mem _ List.mem_cons_self))
    have tl := tr_tl (tr_tl (tr_tl hT2))
    obtain ⟨h1, h⟩ := itet_s h
    subst h1
    obtain ⟨hb2, h⟩ := gd_s h
    obtain ⟨hk, htg⟩ := ok_own hr (by omega)
    have hw := wl_get (σ := σ) hk
    rw [List.map_cons, List.map_cons, List.map_cons, cv_own (by omega)]
    rw [cell_int htg (by omega)] at hw
    refine va_zast hx hb hK hP (hD σ) hS k 1 hw rfl (inb_vp hb2) hd (fun H1 locs1 hP1 _ hS1 => ?_)
    rw [wl_set hk (σ' := wI σ k (ix j) (vp_nar .boolean w)) (by rw [cell_int htg (by omega), wI_at]; rfl) wI_off] at hP1
    exact hgo _ _ _ _ _ h ho H1 locs1 lsR hP1 hS1 hl hT1 tl
  | castore =>
    obtain rfl : len = 1 := eq_of_beq hA
    obtain ⟨w, r0, rfl, h⟩ := pI_s h
    obtain ⟨j, r1, rfl, h⟩ := pI_s h
    obtain ⟨t, k, r, rfl, h⟩ := pR_s h
    have hr : okref X t k := hT2 _ (List.mem_cons_of_mem _ (List.mem_cons_of_mem _ List.mem_cons_self))
    have tl := tr_tl (tr_tl (tr_tl hT2))
    obtain ⟨h1, h⟩ := itet_s h
    subst h1
    obtain ⟨hb2, h⟩ := gd_s h
    obtain ⟨hk, htg⟩ := ok_own hr (by omega)
    have hw := wl_get (σ := σ) hk
    rw [List.map_cons, List.map_cons, List.map_cons, cv_own (by omega)]
    rw [cell_int htg (by omega)] at hw
    refine va_cast hx hb hK hP (hD σ) hS k 2 hw rfl (inb_vp hb2) hd (fun H1 locs1 hP1 _ hS1 => ?_)
    rw [wl_set hk (σ' := wI σ k (ix j) (vp_nar .char w)) (by rw [cell_int htg (by omega), wI_at]; rfl) wI_off] at hP1
    exact hgo _ _ _ _ _ h ho H1 locs1 lsR hP1 hS1 hl hT1 tl
  | lastore =>
    obtain rfl : len = 1 := eq_of_beq hA
    obtain ⟨w, r0, rfl, h⟩ := pL_s h
    obtain ⟨j, r1, rfl, h⟩ := pI_s h
    obtain ⟨t, k, r, rfl, h⟩ := pR_s h
    have hr : okref X t k := hT2 _ (List.mem_cons_of_mem _ (List.mem_cons_of_mem _ List.mem_cons_self))
    have tl := tr_tl (tr_tl (tr_tl hT2))
    obtain ⟨h1, h⟩ := itet_s h
    subst h1
    obtain ⟨hb2, h⟩ := gd_s h
    obtain ⟨hk, htg⟩ := ok_own hr (by omega)
    have hw := wl_get (σ := σ) hk
    rw [List.map_cons, List.map_cons, List.map_cons, cv_own (by omega)]
    rw [cell_long htg] at hw
    refine va_last hx hb hK hP (hD σ) hS k 3 hw rfl (inb_vp hb2) hd (fun H1 locs1 hP1 _ hS1 => ?_)
    rw [wl_set hk (σ' := wJ σ k (ix j) w) (by rw [cell_long htg, wJ_at]; rfl) wJ_off] at hP1
    exact hgo _ _ _ _ _ h ho H1 locs1 lsR hP1 hS1 hl hT1 tl
  | getfield n =>
    have hA : (len == 3 && (if a = 151 then SFL.contains (oN i, n, b) else (FL1.contains (oN i, n, a, b) || FL2.contains (oN i, n, a, b)) && decide (a < 13) && decide (b < nF a))) = true := hA
    rw [Bool.and_eq_true] at hA
    obtain ⟨hA1, hA2⟩ := hA
    obtain rfl : len = 3 := eq_of_beq hA1
    obtain ⟨t, k, r, rfl, h⟩ := pR_s h
    have hr : okref X t k := hT2 _ List.mem_cons_self
    have tl := tr_tl hT2
    obtain ⟨h1, h⟩ := itet_s h
    subst h1
    rcases ite_s h with ⟨h2, g⟩ | ⟨h2, g⟩
    · clear h
      subst h2
      rw [if_pos rfl] at hA2
      have hst := (hG.2.2.2.2.2 s hXF).2.1 k (ok_str hr (Or.inl rfl))
      have hlk := (hG.2.2.2.2.2 s hXF).2.2.2.2.2.2.2.2.2.2 (oN i, n, b) (List.contains_iff_mem.mp hA2) args
      rw [hcn] at hlk
      rcases ite_s g with ⟨h3, h⟩ | ⟨h3, h⟩
      · clear g
        subst h3
        exact vk_getf hx hb hst.2.2.1 hS hown hlk (fun _ h => h) hd (hgo _ _ _ _ _ h ho H locs lsR hP hS hl hT1 (tr_cons (Or.inr (Or.inr (Or.inl ⟨Or.inr rfl, ok_str hr (Or.inl rfl)⟩))) tl))
      · simp only [if_neg h3] at hlk
        exact vk_getf hx hb hst.2.1 hS hown hlk (fun _ h => h) hd (hgo _ _ _ _ _ h ho H locs lsR hP hS hl hT1 (tr_cons trivial tl))
    · rw [if_neg h2, Bool.and_eq_true, Bool.and_eq_true, Bool.or_eq_true, decide_eq_true_eq, decide_eq_true_eq] at hA2
      obtain ⟨⟨hlk, ha⟩, hbn⟩ := hA2
      obtain ⟨hk, htg⟩ := ok_own hr (by omega)
      have hw := wl_get (σ := σ) hk
      rw [cell_obj htg (by omega)] at hw
      rw [List.map_cons, cv_own (by omega)]
      have key : ∀ (v : AV), fval X σ k t b = cv X v → WX X p l e R s m args below meth c cells slots Q i (pc + 3) ls (v :: r) σ → TR X v → W p l e R s m args below meth c H locs cells slots Q (F0 m pc lsR (.ref (xad X k) :: r.map (cv X))) := by
        intro v e1 e2 e3
        have e4 := e2 H locs lsR hP hS hl hT1 (tr_cons e3 tl)
        rw [List.map_cons, ← e1] at e4
        rcases hlk with hlk | hlk
        · have hlw := hts _ (tb_fl1 (oN i, n, t, b) (List.contains_iff_mem.mp hlk))
          unfold wF at hlw
          rw [hcn] at hlw
          exact va_get hx hb hts (cls_w ha) hown hK hP k hw (cls_at ha) b hbn hlw (fun _ h => h) (fget hbn) hd e4
        · have hlw := va_Nw.use (A := args) rfl ((hG.2.2.2.2.2 s hXF).2.2.1 (oN i, n, t, b) (List.contains_iff_mem.mp hlk))
          unfold wFN at hlw
          rw [hcn] at hlw
          exact va_getN hx hb hts (cls_w ha) hown hK hP k hw (cls_at ha) b hbn hlw (fun _ h => h) (fget hbn) hd e4
      clear h
      have h := g
      clear g
      split at h
      · rename_i hf
        exact key _ (fv_i hf (Or.inl rfl)) (hgo _ _ _ _ _ h ho) trivial
      · rename_i hf
        exact key _ (fv_i hf (Or.inr rfl)) (hgo _ _ _ _ _ h ho) trivial
      · rename_i hf
        exact key _ (fv_l hf) (hgo _ _ _ _ _ h ho) trivial
      · rename_i f u v hf
        have h5 := (hG.2.1 k hk (by omega)).2 b f u v (by rw [htg]; exact hbn) (by rw [htg]; exact hf)
        exact key _ ((fv_r hf).trans (cv_own h5.2).symm) (hgo _ _ _ _ _ h ho) h5.1
      · cases h
  | putfield n =>
    have hA : (len == 3 && (FL1.contains (oN i, n, a, b) || FL2.contains (oN i, n, a, b)) && decide (a < 13) && decide (b < nF a) && !(fDesc a b).2 && (match (fkd FT0 a b).1 with | 0 => cc == 0 && (fDesc a b).1 == "I" | 3 => cc == 0 && (fDesc a b).1 == "Z" | 1 => cc == 1 && (fDesc a b).1 == "J" | _ => false)) = true := hA
    rw [Bool.and_eq_true, Bool.and_eq_true, Bool.and_eq_true, Bool.and_eq_true, Bool.and_eq_true, Bool.or_eq_true, decide_eq_true_eq, decide_eq_true_eq, Bool.not_eq_true'] at hA
    obtain ⟨⟨⟨⟨⟨hA1, hlk⟩, ha⟩, hbn⟩, hfin⟩, hkd⟩ := hA
    obtain rfl : len = 3 := eq_of_beq hA1
    obtain ⟨⟨ty0, hty0⟩, hnm⟩ := cls_ok a ha
    have key : ∀ (v : Value) (ty : FieldType) (k : Nat) (r : List AV) (σ' : Mem), k < xN X → xtg X k = a → parseFieldDescriptor (fDesc a b).1 = some ty → narrow ty v = v → fits ty v = true → fval X σ' k a b = v → (∀ q, q ≠ b → fval X σ' k a q = fval X σ k a q) → (∀ j, j ≠ k → σ'.1 j = σ.1 j ∧ σ'.2 j = σ.2 j) → (∀ w ∈ r, TR X w) → WX X p l e R s m args below meth c cells slots Q i (pc + 3) ls r σ' → W p l e R s m args below meth c H locs cells slots Q (F0 m pc lsR (v :: .ref (xad X k) :: r.map (cv X))) := by
      intro v ty k r σ2 hk htg hp hn hf e1 e2 e3 e4 e5
      have hw := wl_get (σ := σ) hk
      rw [cell_obj htg (by omega)] at hw
      have kk : ∀ (H1 : Heap) (locs1 : List Loc), va_P (xD X) vwCl ((wl X σ).set k (xad X k, .inr (a, ((List.range (nF a)).map (fun j => fval X σ k a j)).set b v))) H1 → va_D (xA X) ((wl X σ).set k (xad X k, .inr (a, ((List.range (nF a)).map (fun j => fval X σ k a j)).set b v))) → va_S (xA X) s.heap H1 locs1 → W p l e R s m args below meth c H1 locs1 cells slots Q (F0 m (pc + 3) lsR (r.map (cv X))) := by
        intro H1 locs1 hP1 _ hS1
        rw [fset rfl e1 e2 hbn, wl_set hk (cell_obj htg (by omega)) e3] at hP1
        exact e5 H1 locs1 lsR hP1 hS1 hl hT1 e4
      rcases hlk with hlk | hlk
      · have hlw := hts _ (tb_fl1 (oN i, n, a, b) (List.contains_iff_mem.mp hlk))
        unfold wF at hlw
        rw [hcn] at hlw
        exact va_put hx hb hts (cls_w ha) ty0 hty0 hnm hown hK hP (hD σ) hS k hw (cls_at ha) b hbn hlw (fun _ h => h) hfin hp hn hf (by simpa using hbn) hd kk
      · have hlw := va_Nw.use (A := args) rfl ((hG.2.2.2.2.2 s hXF).2.2.1 (oN i, n, a, b) (List.contains_iff_mem.mp hlk))
        unfold wFN at hlw
        rw [hcn] at hlw
        exact va_putN hx hb hts (cls_w ha) ty0 hty0 hnm hown hK hP (hD σ) hS k hw (cls_at ha) b hbn hlw (fun _ h => h) hfin hp hn hf (by simpa using hbn) hd kk
    rcases ite_s h with ⟨h0, h⟩ | ⟨h0, h⟩
    · obtain ⟨x, r0, rfl, h⟩ := pI_s h
      obtain ⟨t, k, r, rfl, h⟩ := pR_s h
      have hr : okref X t k := hT2 _ (List.mem_cons_of_mem _ List.mem_cons_self)
      have tl := tr_tl (tr_tl hT2)
      obtain ⟨h1, h⟩ := itet_s h
      subst h1
      obtain ⟨hk, htg⟩ := ok_own hr (by omega)
      rw [List.map_cons, List.map_cons, cv_own (by omega)]
      split at h
      · rename_i hf
        rw [hf] at hkd
        have hkd2 : (cc == 0 && (fDesc t b).1 == "I") = true := hkd
        rw [Bool.and_eq_true] at hkd2
        have hs : (fDesc t b).1 = "I" := eq_of_beq hkd2.2
        exact key (.int x) .int k r _ hk htg (by rw [hs]; decide +kernel) rfl rfl ((fv_i hf (Or.inl rfl)).trans (by rw [rI_wI, if_pos rfl])) fv_wI wI_off tl (hgo _ _ _ _ _ h ho)
      · rename_i hf
        obtain ⟨hz, h⟩ := itet_s h
        rw [hf] at hkd
        have hkd2 : (cc == 0 && (fDesc t b).1 == "Z") = true := hkd
        rw [Bool.and_eq_true] at hkd2
        have hs : (fDesc t b).1 = "Z" := eq_of_beq hkd2.2
        have hnz := nar_z hz
        exact key (.int x) .boolean k r _ hk htg (by rw [hs]; decide +kernel) hnz.1 hnz.2 ((fv_i hf (Or.inr rfl)).trans (by rw [rI_wI, if_pos rfl])) fv_wI wI_off tl (hgo _ _ _ _ _ h ho)
      · cases h
    · obtain ⟨x, r0, rfl, h⟩ := pL_s h
      obtain ⟨t, k, r, rfl, h⟩ := pR_s h
      have hr : okref X t k := hT2 _ (List.mem_cons_of_mem _ List.mem_cons_self)
      have tl := tr_tl (tr_tl hT2)
      obtain ⟨h1, h⟩ := itet_s h
      subst h1
      obtain ⟨hk, htg⟩ := ok_own hr (by omega)
      rw [List.map_cons, List.map_cons, cv_own (by omega)]
      split at h
      · rename_i hf
        rw [hf] at hkd
        have hkd2 : (cc == 1 && (fDesc t b).1 == "J") = true := hkd
        rw [Bool.and_eq_true] at hkd2
        have hs : (fDesc t b).1 = "J" := eq_of_beq hkd2.2
        exact key (.long x) .long k r _ hk htg (by rw [hs]; decide +kernel) rfl rfl ((fv_l hf).trans (by rw [rJ_wJ, if_pos rfl])) fv_wJ wJ_off tl (hgo _ _ _ _ _ h ho)
      · cases h
  | getstatic n =>
    have hA : (len == 3 && (if cc = 0 then oN i == 8 && b == 0 && GSL.contains (oN i, n, 0) else if cc = 1 then b == 1 && GSL.contains (oN i, n, 1) else GSL.contains (oN i, n, 2))) = true := hA
    rw [Bool.and_eq_true] at hA
    obtain ⟨hA1, hA2⟩ := hA
    obtain rfl : len = 3 := eq_of_beq hA1
    obtain ⟨-, -, -, -, -, hx0, hz1, hz2, hz3, hlk, -⟩ := hG.2.2.2.2.2 s hXF
    rcases ite_s h with ⟨h0, h⟩ | ⟨h0, h⟩
    · rw [if_pos h0, Bool.and_eq_true, Bool.and_eq_true] at hA2
      obtain rfl : b = 0 := eq_of_beq hA2.1.2
      have hl2 := hlk (oN i, n, 0) (List.contains_iff_mem.mp hA2.2) args
      rw [hcn] at hl2
      exact va_gets hx hb hz1 hS hown hl2 (fun _ h => h) hd (hgo _ _ _ _ _ h ho H locs lsR hP hS hl hT1 (tr_cons (Or.inr (Or.inl ⟨rfl, hx0⟩)) hT2))
    · rw [if_neg h0] at hA2
      rcases ite_s h with ⟨h1, h⟩ | ⟨h1, h⟩
      · rw [if_pos h1, Bool.and_eq_true] at hA2
        obtain rfl : b = 1 := eq_of_beq hA2.1
        have hl2 := hlk (oN i, n, 1) (List.contains_iff_mem.mp hA2.2) args
        rw [hcn] at hl2
        exact va_gets hx hb hz2 hS hown hl2 (fun _ h => h) hd (hgo _ _ _ _ _ h ho H locs lsR hP hS hl hT1 (tr_cons trivial hT2))
      · rw [if_neg h1] at hA2
        have hl2 := hlk (oN i, n, 2) (List.contains_iff_mem.mp hA2) args
        rw [hcn] at hl2
        exact va_gets hx hb hz3 hS hown hl2 (fun _ h => h) hd (hgo _ _ _ _ _ h ho H locs lsR hP hS hl hT1 (tr_cons (Or.inl rfl) hT2))
  | invokevirtual n =>
    have hA : (len == 3 && ML1.contains (oN i, n, a) && VM.contains a && EM.contains a && IM.contains a && AM.contains a && b == mN a + 1 && cc % 2 == (if mR a = none then 0 else 1) && (if cc / 2 = 151 then mC a == "java/lang/String" else decide (cc / 2 < 13) && (cT (cc / 2)).1 == mC a)) = true := hA
    rw [Bool.and_eq_true, Bool.and_eq_true, Bool.and_eq_true, Bool.and_eq_true, Bool.and_eq_true, Bool.and_eq_true, Bool.and_eq_true, Bool.and_eq_true] at hA
    obtain ⟨⟨⟨⟨⟨⟨⟨⟨hA1, hml1⟩, hvm⟩, hem⟩, him⟩, ham⟩, hbN⟩, hc2⟩, hrt⟩ := hA
    obtain rfl : len = 3 := eq_of_beq hA1
    have hbN : b = mN a + 1 := eq_of_beq hbN
    have hc2 : cc % 2 = (if mR a = none then 0 else 1) := eq_of_beq hc2
    have ham := List.contains_iff_mem.mp ham
    obtain ⟨⟨hlen, hcat⟩, g⟩ := itet_s h
    clear h
    obtain ⟨t, k, av, hav, g2⟩ := pR_s g
    clear g
    obtain ⟨htt, g⟩ := itet_s g2
    clear g2
    obtain ⟨r, hr1, hr2, h⟩ := hF _ _ _ _ _ g
    clear g
    have hst : st = av.reverse ++ .inr (.inr (t, k)) :: st.drop b := by
      have e1 : st.take b = av.reverse ++ [.inr (.inr (t, k))] := by
        have e2 := congrArg List.reverse hav
        rw [List.reverse_reverse, List.reverse_cons] at e2
        exact e2
      have e3 := (List.take_append_drop b st).symm
      rw [e1, List.append_assoc] at e3
      exact e3
    generalize hrest : st.drop b = rest at hst h hcat
    have hlav : av.length = mN a := by
      have e := congrArg List.length hav
      rw [List.length_reverse, hlen, List.length_cons] at e
      omega
    have hT3 : ∀ v ∈ (.inr (.inr (t, k)) :: av), TR X v := fun v hv => hT2 v (by
      rw [hst]
      rcases List.mem_cons.mp hv with rfl | hv
      · exact List.mem_append_right _ List.mem_cons_self
      · exact List.mem_append_left _ (List.mem_reverse.mpr hv))
    have hT4 : ∀ v ∈ rest, TR X v := fun v hv => hT2 v (by rw [hst]; exact List.mem_append_right _ (List.mem_cons_of_mem _ hv))
    rw [hav] at hr1
    obtain ⟨d2, hd2, hsp⟩ := hr1 hT3
    have hok : okref X t k := hT3 _ List.mem_cons_self
    have hrecv : ∃ q : Nat, cv X (.inr (.inr (t, k))) = .ref q ∧ ∃ cellB : Cell, H[q]? = some cellB ∧ cellB.vm.isStatics = false ∧ s.vm.findClass (mC a) = some cellB.cls := by
      split at hrt
      · rename_i h151
        have ht : t = 151 := by omega
        subst ht
        refine ⟨xsa X k, rfl, ?_⟩
        rw [eq_of_beq hrt]
        exact str_recv ((hG.2.2.2.2.2 s hXF).2.1 k (ok_str hok (Or.inl rfl))).1 hS
      · rw [Bool.and_eq_true, decide_eq_true_eq] at hrt
        obtain ⟨hk, htg⟩ := ok_own hok (by omega)
        have hw := wl_get (σ := σ) hk
        rw [cell_obj htg (by omega)] at hw
        refine ⟨xad X k, cv_own (by omega), ?_⟩
        rw [← eq_of_beq hrt.2, ← htt]
        exact va_recv hK hP (cls_at (by omega)) hw
    obtain ⟨q, hq, cellB, hc1, hc3, hc4⟩ := hrecv
    have hnn := mx_N a ham
    have hdesc : mC a ≠ "java/lang/invoke/MethodHandle" ∧ mC a ≠ "java/lang/invoke/VarHandle" ∧ (parseMethodDescriptor (mY a).desc).map (fun d => d.parameters.length) = some (mN a) := ⟨(mx_C a ham).1, (mx_C a ham).2, hnn⟩
    have hlw := hts _ (tb_ml1 (oN i, n, a) (List.contains_iff_mem.mp hml1))
    unfold wM at hlw
    rw [hcn] at hlw
    have hroom : (rmd d2).frames + 1 ≤ R.frames ∧ 8 + (mL a + 11) + (rmd d2).locals ≤ R.locals := ⟨Nat.le_trans hd2 hdf, by have := mx_L a ham; show 8 + (mL a + 11) + 64 * d2 ≤ R.locals; omega⟩
    have hcall := callB_of (s := s) (args := args) (R := R) (own := mC i) (index := n) (rm := rmd d2) (y := mY a) (bytes := mB a) (maxL := mL a) (ret := mR a) (ws := mWord a :: TB) (mN a) hts (tb_goodm ham) rfl rfl rfl (hts _ (tb_ini a (List.contains_iff_mem.mp him))) hlw hdesc hroom
    have hmc : (av.map (cv X)).length = mN a := by rw [List.length_map]; exact hlav
    have hstk : st.map (cv X) = (av.map (cv X)).reverse ++ .ref q :: rest.map (cv X) := by rw [hst, List.map_append, List.map_reverse, List.map_cons, hq]
    rw [hstk]
    refine callX (va_runV (C := mC a) (Pc := PcX X (.inr (.inr (t, k)) :: av) σ) (As := av.map (cv X)) (rest := rest.map (cv X)) ⟨hx, hb, hml, hown, hts⟩ (hsp l) ⟨hcall, hts _ (tb_vi a (List.contains_iff_mem.mp hvm)), hts _ (tb_se a (List.contains_iff_mem.mp hem))⟩ ⟨pc_blind hG, ⟨cellB, hc1, hc3, hc4⟩, pc_use hG hP hK hXF hS (by rw [List.map_cons, hq])⟩ rfl hmc hl.1 rfl (by rw [cat_cv]; exact Nat.le_trans (Nat.le_of_eq (Nat.zero_add _)) hcat) hd ⟨hcc, hcs⟩) hS (fun H1 locs1 hP1 hS1 => ?_)
    have hfin := hgo _ _ _ _ _ h ho H1 locs1 lsR hP1 hS1 hl hT1
    rw [hc2] at hfin
    cases hR : mR a with
    | none =>
      rw [hR] at hfin
      exact hfin hT4
    | some ty =>
      rw [hR] at hfin
      exact hfin (tr_cons hr2 hT4)
  | invokestatic n =>
    have hA : (len == 3 && (match (generalizing := false) cc with | 2 => a == 7 && ML1.contains (oN i, n, a) | 3 => a == 32 && ML1.contains (oN i, n, a) | 4 => a == 156 && ML1.contains (oN i, n, a) | 5 => a == 184 && ML1.contains (oN i, n, a) | _ => (ML1.contains (oN i, n, a) || ML2.contains (oN i, n, a)) && SM.contains a && IM.contains a && AM.contains a && b == mN a && cc == (if mR a = none then 0 else 1))) = true := hA
    rw [Bool.and_eq_true] at hA
    obtain ⟨hA1, hA2⟩ := hA
    obtain rfl : len = 3 := eq_of_beq hA1
    rcases (show cc = 2 ∨ cc = 3 ∨ cc = 4 ∨ cc = 5 ∨ (cc ≠ 2 ∧ cc ≠ 3 ∧ cc ≠ 4 ∧ cc ≠ 5) by omega) with rfl | rfl | rfl | rfl | hne
    · have hA3 : (a == 7 && ML1.contains (oN i, n, a)) = true := hA2
      rw [Bool.and_eq_true] at hA3
      obtain rfl : a = 7 := eq_of_beq hA3.1
      have hlw := hts _ (tb_ml1 (oN i, n, 7) (List.contains_iff_mem.mp hA3.2))
      unfold wM at hlw
      rw [hcn] at hlw
      dsimp only at hlw
      rw [e_7] at hlw
      have hs1 := hts _ (tb_st 7 (by decide +kernel))
      unfold wSt at hs1
      rw [e_7] at hs1
      have hs2 := hts _ (tb_ini 7 (by decide +kernel))
      unfold wIni at hs2
      rw [c_7] at hs2
      have hs3 := hts _ (tb_mw 7 (List.mem_range.mpr (by decide)))
      rw [w_7] at hs3
      obtain ⟨y, r1, rfl, g⟩ := pI_s h
      obtain ⟨x, r, rfl, g2⟩ := pI_s g
      obtain ⟨hcat, h⟩ := itet_s g2
      exact va_mmax hx hb (hml.trans hl.1.symm) hown hlw hs1 hs2 hs3 (Nat.le_trans hd1 hdf) (by rw [cat_cv]; omega) hcc hcs hd (hgo _ _ _ _ _ h ho H locs lsR hP hS hl hT1 (tr_cons trivial (tr_tl (tr_tl hT2))))
    · have hA3 : (a == 32 && ML1.contains (oN i, n, a)) = true := hA2
      rw [Bool.and_eq_true] at hA3
      obtain rfl : a = 32 := eq_of_beq hA3.1
      have hlw := hts _ (tb_ml1 (oN i, n, 32) (List.contains_iff_mem.mp hA3.2))
      unfold wM at hlw
      rw [hcn] at hlw
      dsimp only at hlw
      rw [e_32] at hlw
      have hs1 := hts _ (tb_st 32 (by decide +kernel))
      unfold wSt at hs1
      rw [e_32] at hs1
      have hs2 := hts _ (tb_ini 32 (by decide +kernel))
      unfold wIni at hs2
      rw [c_32] at hs2
      have hs3 := hts _ (tb_mw 32 (List.mem_range.mpr (by decide)))
      rw [w_32] at hs3
      obtain ⟨y, r1, rfl, g⟩ := pI_s h
      obtain ⟨x, r, rfl, g2⟩ := pI_s g
      obtain ⟨hcat, h⟩ := itet_s g2
      exact va_mmin hx hb (hml.trans hl.1.symm) hown hlw hs1 hs2 hs3 (Nat.le_trans hd1 hdf) (by rw [cat_cv]; omega) hcc hcs hd (hgo _ _ _ _ _ h ho H locs lsR hP hS hl hT1 (tr_cons trivial (tr_tl (tr_tl hT2))))
    · have hA3 : (a == 156 && ML1.contains (oN i, n, a)) = true := hA2
      rw [Bool.and_eq_true] at hA3
      obtain rfl : a = 156 := eq_of_beq hA3.1
      have hlw := hts _ (tb_ml1 (oN i, n, 156) (List.contains_iff_mem.mp hA3.2))
      unfold wM at hlw
      rw [hcn] at hlw
      dsimp only at hlw
      rw [e_156] at hlw
      have hs1 := hts _ (tb_st 156 (by decide +kernel))
      unfold wSt at hs1
      rw [e_156] at hs1
      have hs2 := hts _ (tb_ini 156 (by decide +kernel))
      unfold wIni at hs2
      rw [c_156] at hs2
      have hs3 := hts _ (tb_mw 156 (List.mem_range.mpr (by decide)))
      rw [w_156] at hs3
      obtain ⟨x, r, rfl, g2⟩ := pI_s h
      obtain ⟨hcat, h⟩ := itet_s g2
      exact va_mabs hx hb (hml.trans hl.1.symm) hown hlw hs1 hs2 hs3 (Nat.le_trans hd1 hdf) (by rw [cat_cv]; omega) hcc hcs hd (hgo _ _ _ _ _ h ho H locs lsR hP hS hl hT1 (tr_cons trivial (tr_tl hT2)))
    · have hA3 : (a == 184 && ML1.contains (oN i, n, a)) = true := hA2
      rw [Bool.and_eq_true] at hA3
      obtain rfl : a = 184 := eq_of_beq hA3.1
      have hlw := hts _ (tb_ml1 (oN i, n, 184) (List.contains_iff_mem.mp hA3.2))
      unfold wM at hlw
      rw [hcn] at hlw
      dsimp only at hlw
      rw [e_184] at hlw
      have hs1 := hts _ (tb_st 184 (by decide +kernel))
      unfold wSt at hs1
      rw [e_184] at hs1
      have hs2 := hts _ (tb_ini 184 (by decide +kernel))
      unfold wIni at hs2
      rw [c_184] at hs2
      have hs3 := hts _ (tb_mw 184 (List.mem_range.mpr (by decide)))
      rw [w_184] at hs3
      obtain ⟨y, r1, rfl, g⟩ := pL_s h
      obtain ⟨x, r, rfl, g2⟩ := pL_s g
      obtain ⟨hcat, h⟩ := itet_s g2
      exact va_mmax_long hx hb (hml.trans hl.1.symm) hown hlw hs1 hs2 hs3 (Nat.le_trans hd1 hdf) (by rw [cat_cv]; omega) hcc hcs hd (hgo _ _ _ _ _ h ho H locs lsR hP hS hl hT1 (tr_cons trivial (tr_tl (tr_tl hT2))))
    · have hA3 : ((ML1.contains (oN i, n, a) || ML2.contains (oN i, n, a)) && SM.contains a && IM.contains a && AM.contains a && b == mN a && cc == (if mR a = none then 0 else 1)) = true := by
        revert hA2
        split
        · exact absurd rfl hne.1
        · exact absurd rfl hne.2.1
        · exact absurd rfl hne.2.2.1
        · exact absurd rfl hne.2.2.2
        · exact id
      have g : (if (st.take b).length = b ∧ catsum (st.drop b) ≤ 8 then F a (st.take b).reverse σ (fun v σ' => go (pc + 3) ls (psh cc v (st.drop b)) σ') else none) = some o := by
        have h7 : (match (generalizing := false) cc with
          | 2 => pI st fun y st => pI st fun x st => if catsum st ≤ 8 then go (pc + 3) ls (.inl (imx x y) :: st) σ else none
          | 3 => pI st fun y st => pI st fun x st => if catsum st ≤ 8 then go (pc + 3) ls (.inl (imn x y) :: st) σ else none
          | 4 => pI st fun x st => if catsum st ≤ 8 then go (pc + 3) ls (.inl (iab x) :: st) σ else none
          | 5 => pL st fun y st => pL st fun x st => if catsum st ≤ 8 then go (pc + 3) ls (.inr (.inl (lmx x y)) :: st) σ else none
          | _ => if (st.take b).length = b ∧ catsum (st.drop b) ≤ 8 then F a (st.take b).reverse σ (fun v σ' => go (pc + 3) ls (psh cc v (st.drop b)) σ') else none) = some o := h
        revert h7
        split
        · exact absurd rfl hne.1
        · exact absurd rfl hne.2.1
        · exact absurd rfl hne.2.2.1
        · exact absurd rfl hne.2.2.2
        · exact id
      clear h hA2
      rw [Bool.and_eq_true, Bool.and_eq_true, Bool.and_eq_true, Bool.and_eq_true, Bool.and_eq_true, Bool.or_eq_true] at hA3
      obtain ⟨⟨⟨⟨⟨hlk, hsm⟩, him⟩, ham⟩, hbN⟩, hc2⟩ := hA3
      have hbN : b = mN a := eq_of_beq hbN
      have hc2 : cc = (if mR a = none then 0 else 1) := eq_of_beq hc2
      have ham := List.contains_iff_mem.mp ham
      obtain ⟨⟨hlen, hcat⟩, g2⟩ := itet_s g
      clear g
      obtain ⟨r, hr1, hr2, h⟩ := hF _ _ _ _ _ g2
      clear g2
      have hst : st = (st.take b).reverse.reverse ++ st.drop b := by rw [List.reverse_reverse, List.take_append_drop]
      have hlav : (st.take b).reverse.length = mN a := by rw [List.length_reverse, hlen, hbN]
      generalize (st.take b).reverse = av at hst hr1 hlav
      generalize st.drop b = rest at hst h hcat
      have hT3 : ∀ v ∈ av, TR X v := fun v hv => hT2 v (by rw [hst]; exact List.mem_append_left _ (List.mem_reverse.mpr hv))
      have hT4 : ∀ v ∈ rest, TR X v := fun v hv => hT2 v (by rw [hst]; exact List.mem_append_right _ hv)
      obtain ⟨d2, hd2, hsp⟩ := hr1 hT3
      have hdesc : mC a ≠ "java/lang/invoke/MethodHandle" ∧ mC a ≠ "java/lang/invoke/VarHandle" ∧ (parseMethodDescriptor (mY a).desc).map (fun d => d.parameters.length) = some (mN a) := ⟨(mx_C a ham).1, (mx_C a ham).2, mx_N a ham⟩
      have hroom : (rmd d2).frames + 1 ≤ R.frames ∧ 8 + (mL a + 11) + (rmd d2).locals ≤ R.locals := ⟨Nat.le_trans hd2 hdf, by have := mx_L a ham; show 8 + (mL a + 11) + 64 * d2 ≤ R.locals; omega⟩
      have hmc : (av.map (cv X)).length = mN a := by rw [List.length_map]; exact hlav
      have hstk : st.map (cv X) = (av.map (cv X)).reverse ++ rest.map (cv X) := by rw [hst, List.map_append, List.map_reverse]
      rw [hstk]
      have hend : ∀ (H1 : Heap) (locs1 : List Loc), va_P (xD X) vwCl (wl X r.2) H1 → va_S (xA X) s.heap H1 locs1 → W p l e R s m args below meth c H1 locs1 cells slots Q (F0 m (pc + 3) lsR (((mR a).map (fun _ => cv X r.1)).toList ++ rest.map (cv X))) := by
        intro H1 locs1 hP1 hS1
        have hfin := hgo _ _ _ _ _ h ho H1 locs1 lsR hP1 hS1 hl hT1
        rw [hc2] at hfin
        cases hR : mR a with
        | none =>
          rw [hR] at hfin
          exact hfin hT4
        | some ty =>
          rw [hR] at hfin
          exact hfin (tr_cons hr2 hT4)
      rcases hlk with hlk | hlk
      · have hlw := hts _ (tb_ml1 (oN i, n, a) (List.contains_iff_mem.mp hlk))
        unfold wM at hlw
        rw [hcn] at hlw
        have hcall := callB_of (s := s) (args := args) (R := R) (own := mC i) (index := n) (rm := rmd d2) (y := mY a) (bytes := mB a) (maxL := mL a) (ret := mR a) (ws := mWord a :: TB) (mN a) hts (tb_goodm ham) rfl rfl rfl (hts _ (tb_ini a (List.contains_iff_mem.mp him))) hlw hdesc hroom
        exact callX (va_runS (Pc := PcX X av σ) (As := av.map (cv X)) (rest := rest.map (cv X)) ⟨hx, hb, hml, hown, hts⟩ (hsp l) ⟨hcall, hts _ (tb_st a (List.contains_iff_mem.mp hsm))⟩ ⟨pc_blind hG, pc_use hG hP hK hXF hS rfl⟩ rfl hmc hl.1 rfl (by rw [cat_cv]; exact Nat.le_trans (Nat.le_of_eq (Nat.zero_add _)) hcat) hd ⟨hcc, hcs⟩) hS hend
      · have hlw := (hG.2.2.2.2.2 s hXF).2.2.2.1 (oN i, n, a) (List.contains_iff_mem.mp hlk)
        unfold wMN at hlw
        rw [hcn] at hlw
        have hcall := va_cnB (s := s) (args := args) (R := R) (own := mC i) (index := n) (host := "PierTooFar") (rm := rmd d2) (y := mY a) (bytes := mB a) (maxL := mL a) (ret := mR a) (ws := mWord a :: TB) (mN a) hts (tb_goodm ham) rfl rfl rfl hlw (hts _ (tb_ini a (List.contains_iff_mem.mp him))) hdesc hroom
        exact callX (va_runSN (Pc := PcX X av σ) (As := av.map (cv X)) (rest := rest.map (cv X)) ⟨hx, hb, hml, hown, hts⟩ (hsp l) ⟨hcall, hts _ (tb_st a (List.contains_iff_mem.mp hsm)), trivial⟩ ⟨pc_blind hG, pc_use hG hP hK hXF hS rfl⟩ rfl hmc hl.1 rfl (by rw [cat_cv]; exact Nat.le_trans (Nat.le_of_eq (Nat.zero_add _)) hcat) hd ⟨hcc, hcs⟩) hS hend
  | ireturn =>
    have hA : (len == 1 && (mR i).isSome) = true := hA
    rw [Bool.and_eq_true] at hA
    obtain ⟨hA1, hA2⟩ := hA
    obtain rfl : len = 1 := eq_of_beq hA1
    obtain ⟨x, r0, rfl, g⟩ := pI_s h
    obtain ⟨rfl, h⟩ := pE_s g
    exact hret1 pc ls x σ o hd hA2 h ho H locs lsR hP hS hl hT1 hT2
  | lreturn =>
    obtain rfl : len = 1 := eq_of_beq hA
    obtain ⟨x, r0, rfl, g⟩ := pL_s h
    obtain ⟨rfl, h⟩ := pE_s g
    exact hret2 pc ls x σ o hd h ho H locs lsR hP hS hl hT1 hT2
  | return_ =>
    have hA : (len == 1 && (mR i).isNone) = true := hA
    rw [Bool.and_eq_true] at hA
    obtain ⟨hA1, hA2⟩ := hA
    obtain rfl : len = 1 := eq_of_beq hA1
    obtain ⟨rfl, g⟩ := pE_s h
    exact hret3 pc ls σ o hd hA2 g ho H locs lsR hP hS hl hT1 hT2
  | _ => cases h
end SND
