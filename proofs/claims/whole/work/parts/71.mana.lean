/-! an array of arrays of longs, made at once -/
/-- the heap's end after the outer array and its first i rows were made -/
def mnS (T : State) (cA cI : ClassId) (N M : Nat) : Nat → State
  | 0 => T.pushCell (arrV cA N (fun _ => .null))
  | i + 1 => ((mnS T cA cI N M i).pushCell (arrV cI M (fun _ => .long 0))).setCell T.heap.size (arrV cA N (fun j => if j < i + 1 then .ref (T.heap.size + 1 + j) else .null))
theorem mnS_top (T : State) (f : JFrame) (cA cI : ClassId) (N M : Nat) : ∀ i, mnS (T.setTop f) cA cI N M i = (mnS T cA cI N M i).setTop f
  | 0 => rfl
  | i + 1 => by
    unfold mnS
    rw [mnS_top T f cA cI N M i, State.pushCell_setTop, State.setCell_setTop]
    rfl
theorem mn_row (cA : ClassId) (N h i : Nat) : (arrV cA N (fun j => if j < i then Value.ref (h + 1 + j) else .null)).setSlot i (.ref (h + 1 + i)) = arrV cA N (fun j => if j < i + 1 then .ref (h + 1 + j) else .null) := by
  rw [arrV_store]
  congr 1
  funext j
  unfold updV
  by_cases hj : j = i
  · subst hj
    rw [if_pos rfl, if_pos (by omega)]
  · rw [if_neg hj]
    dsimp only
    by_cases hl : j < i
    · rw [if_pos hl, if_pos (by omega)]
    · rw [if_neg hl, if_neg (by omega)]
theorem mnS_facts (T : State) (cA cI : ClassId) (N M : Nat) : ∀ i, (mnS T cA cI N M i).heap.size = T.heap.size + 1 + i ∧ (mnS T cA cI N M i).heap[T.heap.size]? = some (arrV cA N (fun j => if j < i then .ref (T.heap.size + 1 + j) else .null)) ∧ (∀ j, j < i → (mnS T cA cI N M i).heap[T.heap.size + 1 + j]? = some (arrV cI M (fun _ => .long 0))) ∧ (∀ q, q < T.heap.size → (mnS T cA cI N M i).heap[q]? = T.heap[q]?) ∧ (mnS T cA cI N M i).vm = T.vm ∧ (mnS T cA cI N M i).slotsUsed = T.slotsUsed + N + i * M
  | 0 => by
    refine ⟨by simp [mnS, State.pushCell], by simp [mnS, State.pushCell], fun j h => by omega, fun q h => ?_, rfl, ?_⟩
    · show (T.heap.push _)[q]? = _
      rw [Array.getElem?_push, if_neg (Nat.ne_of_lt h)]
    · simp [mnS, arrV_size]
  | i + 1 => by
    obtain ⟨z, a, b, o, v, u⟩ := mnS_facts T cA cI N M i
    have hp : ∀ q, q < T.heap.size + 1 + i → ((mnS T cA cI N M i).pushCell (arrV cI M (fun _ => .long 0))).heap[q]? = (mnS T cA cI N M i).heap[q]? := fun q h => by
      show ((mnS T cA cI N M i).heap.push _)[q]? = _
      rw [Array.getElem?_push, if_neg (by omega)]
    have hs : ∀ q, q ≠ T.heap.size → (mnS T cA cI N M (i + 1)).heap[q]? = ((mnS T cA cI N M i).pushCell (arrV cI M (fun _ => .long 0))).heap[q]? := fun q h => by
      show (((mnS T cA cI N M i).pushCell (arrV cI M (fun _ => .long 0))).setCell _ _).heap[q]? = _
      rw [heapAt_setCell_ne _ (Ne.symm h)]
    have hz : ((mnS T cA cI N M i).pushCell (arrV cI M (fun _ => .long 0))).heap.size = T.heap.size + 1 + i + 1 := by rw [size_pushCell, z]
    refine ⟨?_, ?_, fun j h => ?_, fun q h => ?_, ?_, ?_⟩
    · show (((mnS T cA cI N M i).pushCell (arrV cI M (fun _ => .long 0))).setCell _ _).heap.size = _
      rw [size_setCell, hz]
      omega
    · show (((mnS T cA cI N M i).pushCell (arrV cI M (fun _ => .long 0))).setCell _ _).heap[_]? = _
      have hlt : T.heap.size < ((mnS T cA cI N M i).pushCell (arrV cI M (fun _ => .long 0))).heap.size := by rw [hz]; omega
      exact heapAt_setCell_self _ hlt
    · rw [hs _ (by omega)]
      by_cases hj : j < i
      · rw [hp _ (by omega)]
        exact b j hj
      · have e : T.heap.size + 1 + j = (mnS T cA cI N M i).heap.size := by rw [z]; omega
        rw [e]
        show ((mnS T cA cI N M i).heap.push _)[_]? = _
        rw [Array.getElem?_push_size]
    · rw [hs _ (by omega), hp _ (by omega)]
      exact o q h
    · exact v
    · show (((mnS T cA cI N M i).pushCell (arrV cI M (fun _ => .long 0))).setCell T.heap.size _).slotsUsed = _
      have hm : (i + 1) * M = i * M + M := Nat.succ_mul i M
      simp [u, arrV_size]
      omega
section MANA
variable {p : Program} {l : Launch} {e : Env} {R : Room} {s : State} {m : MethodId} {args : Array Value} {below : List Frame} {meth : Method} {c : Code} {T : State} {locs : List Loc} {cells slots : Nat} {Q : State → Prop} {H : Heap}
theorem mnS_stand (X : Stand p l e R s m args below meth c T locs cells slots) (cA cI : ClassId) (N M : Nat) : ∀ i, Stand p l e R s m args below meth c (mnS T cA cI N M i) (locs ++ (List.range i).map fun j => ⟨T.heap.size, j⟩) (cells + 1 + i) (slots + N + i * M)
  | 0 => by
    have h := X.pushed (arrV cA N (fun _ => .null))
    rw [arrV_size] at h
    simpa [mnS] using h
  | i + 1 => by
    have Xi := mnS_stand X cA cI N M i
    obtain ⟨z, a, -⟩ := mnS_facts T cA cI N M i
    have hc : ((mnS T cA cI N M i).pushCell (arrV cI M (fun _ => .long 0))).heap[T.heap.size]? = some (arrV cA N (fun j => if j < i then .ref (T.heap.size + 1 + j) else .null)) := by
      show ((mnS T cA cI N M i).heap.push _)[_]? = _
      rw [Array.getElem?_push, if_neg (by omega)]
      exact a
    have h := (Xi.pushed (arrV cI M (fun _ => .long 0))).stored hc i (.ref (T.heap.size + 1 + i))
    rw [arrV_size, mn_row] at h
    have e1 : (locs ++ (List.range (i + 1)).map fun j => (⟨T.heap.size, j⟩ : Loc)) = (locs ++ (List.range i).map fun j => (⟨T.heap.size, j⟩ : Loc)) ++ [⟨T.heap.size, i⟩] := by
      rw [List.range_succ, List.map_append, List.append_assoc]
      rfl
    have e2 : slots + N + (i + 1) * M = slots + N + i * M + M := by rw [Nat.succ_mul]; omega
    rw [e1, e2]
    exact h
end MANA
section MANB
variable {E : CtlPost} {e : Env} {d : Bool} {acts : List Action} {s : State}
theorem mn_in {cI cc : ClassId} {kI : Class} {m : Int32} {M : Nat} (hM : m.toNatClampNeg = M) (hk : s.vm.classes[cI]? = some kI) (hkind : kI.kind = .array cc .long) (hm : ¬ m < 0) (hl : ¬ M > e.platform.arrayLengthLimit) (hh : ¬ M * componentBytes .long > e.platform.maxHeapBytes) (h1 : s.heap.size < e.platform.maxCells) (h2 : s.slotsUsed + M ≤ e.platform.maxSlots) {Q : Addr → Pre} (hq : ∀ acts', Q s.heap.size d acts' (s.pushCell (arrV cI M (fun _ => .long 0)))) : Jvm.Sem.wp (multianewarray.make cI [m]) Q E e d acts s := by
  subst hM
  rw [multianewarray.make]
  simp only [wp_bind', W.ite, hm, if_false, wp_pure', W.theClass, hk, hkind, Option.some.injEq, exists_eq_left']
  refine W.newArray_of hk hkind hl hh h1 h2 rfl (fun a' => ?_)
  have h := hq a'
  rw [← arrV_new] at h
  exact h
theorem mn_null (t : FieldType) (x : Nat) : fits (.array t) .null = true ∧ fits (.array t) (.ref x) = true := ⟨rfl, rfl⟩
theorem mn_make {cA cI cc : ClassId} {kA kI : Class} {n m : Int32} {N M : Nat} (hN : n.toNatClampNeg = N) (hM : m.toNatClampNeg = M) (hkA : s.vm.classes[cA]? = some kA) (hkindA : kA.kind = .array cI (.array .long)) (hkI : s.vm.classes[cI]? = some kI) (hkindI : kI.kind = .array cc .long) (hn : ¬ n < 0) (hm : ¬ m < 0)
    (hl1 : ¬ N > e.platform.arrayLengthLimit) (hh1 : ¬ N * componentBytes (.array .long) > e.platform.maxHeapBytes) (hl2 : ¬ M > e.platform.arrayLengthLimit) (hh2 : ¬ M * componentBytes .long > e.platform.maxHeapBytes)
    (h1 : s.heap.size + 1 + N ≤ e.platform.maxCells) (h2 : s.slotsUsed + N + N * M ≤ e.platform.maxSlots) {Q : Addr → Pre} (hq : ∀ d' acts', Q s.heap.size d' acts' (mnS s cA cI N M N)) : Jvm.Sem.wp (multianewarray.make cA [n, m]) Q E e d acts s := by
  have hfind : ([m].find? (· < 0)) = none := by simp [hm]
  rw [multianewarray.make]
  simp only [wp_bind', W.ite, hn, if_false, wp_pure', W.theClass, hkA, hkindA, Option.some.injEq, exists_eq_left', hN]
  refine W.newArray_of hkA hkindA hl1 hh1 (by omega) (by have := Nat.zero_le (N * M); omega) rfl (fun a1 => ?_)
  have e0 : s.pushCell { cls := cA, slots := Array.replicate N .null } = mnS s cA cI N M 0 := by
    show _ = s.pushCell (arrV cA N (fun _ => .null))
    rw [← arrV_new]
  rw [e0]
  simp only [hfind]
  rw [ite_self, wp_bind', Std.Legacy.Range.forIn_eq_forIn_range']
  have hsz : ([:N] : Std.Legacy.Range).size = N := by simp [Std.Legacy.Range.size]
  rw [hsz]
  show Jvm.Sem.wp (forIn (List.range' 0 N 1) PUnit.unit _) _ E e d a1 _
  refine wp_forIn_inv (fun rest s' => ∃ i, i ≤ N ∧ rest = List.range' i (N - i) ∧ s' = mnS s cA cI N M i) _ _ ⟨0, Nat.zero_le _, rfl, rfl⟩ ?_ ?_
  · rintro x rest s' d' a' Q' ⟨i, hi, hl, rfl⟩ next
    have hlt : i < N := by
      rcases Nat.lt_or_ge i N with h | h
      · exact h
      · rw [show N - i = 0 by omega] at hl
        cases hl
    rw [show N - i = (N - (i + 1)) + 1 by omega, List.range'_succ] at hl
    obtain ⟨hx, hr⟩ := List.cons.inj hl
    subst hx
    obtain ⟨z, a, -, -, v, u⟩ := mnS_facts s cA cI N M x
    have hmul : x * M + M ≤ N * M := by
      rw [← Nat.succ_mul]
      exact Nat.mul_le_mul_right M hlt
    simp only [wp_bind']
    refine mn_in hM (by rw [v]; exact hkI) hkindI hm hl2 hh2 (by rw [z]; omega) (by rw [u]; omega) (fun a2 => ?_)
    simp only [wp_bind', W.writeLoc, wp_pure']
    refine ⟨arrV cA N (fun j => if j < x then .ref (s.heap.size + 1 + j) else .null), ?_, (fun h => by cases h), by rw [arrV_size]; exact hlt, ?_, next _ _ _ ⟨x + 1, hlt, hr, ?_⟩⟩
    · show ((mnS s cA cI N M x).heap.push _)[_]? = _
      rw [Array.getElem?_push, if_neg (by omega)]
      exact a
    · have hk' : ((mnS s cA cI N M x).pushCell (arrV cI M (fun _ => .long 0))).vm.classes[cA]? = some kA := by
        show (mnS s cA cI N M x).vm.classes[cA]? = some kA
        rw [v]
        exact hkA
      simp [State.fitsSlot, State.slotType?, arrV, v, hkA, hkindA, fits]
    · rw [z, mn_row]
      rfl
  · rintro s' d' a' ⟨i, hi, hl, rfl⟩
    have e1 : i = N := by
      rcases Nat.lt_or_ge i N with h | h
      · rw [show N - i = (N - (i + 1)) + 1 by omega, List.range'_succ] at hl
        cases hl
      · omega
    subst e1
    simp only [wp_pure']
    exact hq _ _
end MANB
section MANC
variable {p : Program} {l : Launch} {e : Env} {R : Room} {s : State} {m : MethodId} {args : Array Value} {below : List Frame} {meth : Method} {c : Code} {locs : List Loc} {cells slots : Nat} {Q : State → Prop} {H : Heap}
theorem mn_W {cc : ByteArray} (hexec : p.tables.exec = Jvm.exec) (hb : c.code = cc) {own : String} {index : Nat} (hown : s.vm.findClass own = some m.cls) (hclink : (Cond.classLink own index "[[J").before args s = true) (hover : (Cond.arrayOver (.array .long)).before args s = true) (harr : (Cond.arrayClass .long).before args s = true)
    {pc : Nat} {ls : Array Slot} (hdg : decode cc pc = .ok (.multianewarray index 2, 4)) {n k : Int32} {rest : List Value} {N M : Nat} (hN : n.toNatClampNeg = N) (hM : k.toNatClampNeg = M) (hn : ¬ n < 0) (hk : ¬ k < 0) (hb1 : N * 4 ≤ 536870912) (hb2 : M * 8 ≤ 536870912) (hcells : cells + (1 + N) ≤ R.cells) (hslots : slots + (N + N * M) ≤ R.slots)
    (kk : ∀ (H1 : Heap) (locs1 : List Loc) (cA cI : ClassId), s.vm.findClass "[[J" = some cA → s.vm.findClass "[J" = some cI → H1.size = H.size + 1 + N → H1[H.size]? = some (arrV cA N (fun j => if j < N then .ref (H.size + 1 + j) else .null)) → (∀ j, j < N → H1[H.size + 1 + j]? = some (arrV cI M (fun _ => .long 0))) → (∀ q, q < H.size → H1[q]? = H[q]?) → (∀ q ∈ locs1, q.base = H.size) → W p l e R s m args below meth c H1 (locs ++ locs1) (cells + (1 + N)) (slots + (N + N * M)) Q (F0 m (pc + 4) ls (.ref H.size :: rest))) :
    W p l e R s m args below meth c H locs cells slots Q (F0 m pc ls (.int k :: .int n :: rest)) := by
  intro T hT X
  subst hT; subst hb
  have hpl : e.platform.magicAccessors = ({} : Platform).magicAccessors := by rw [X.admits.platform]
  obtain ⟨cI, cA, kA, hcI, -, hkA, hkindA, hnameA⟩ := arrayOverA_spec hover
  obtain ⟨cI', kI, cc, hcI', hkI, hkindI⟩ := Cond.arrayClass_spec harr
  have e1 : cI' = cI := Option.some.inj (hcI'.symm.trans hcI)
  subst e1
  obtain ⟨c0, hfc0, hcl⟩ := Cond.classLink_spec hown hclink e.platform hpl
  have e2 : cA = c0 := Option.some.inj (hnameA.symm.trans hfc0)
  subst e2
  obtain ⟨hg1, hw1, -⟩ := State.classEntry (e := e) X.warmed hcl
  generalize T.vm.noted m.cls index (.cls cA) = vm1 at hg1 hw1
  have hal : s.vm.Alike vm1 := hw1.alike
  obtain ⟨kA1, hkA1, heA⟩ := hal.2.2 _ _ hkA
  obtain ⟨kI1, hkI1, heI⟩ := hal.2.2 _ _ hkI
  have hkindA1 : kA1.kind = .array cI' (.array .long) := by rw [heA]; exact hkindA
  have hkindI1 : kI1.kind = .array cc .long := by rw [heI]; exact hkindI
  have X1 := X.noted hw1
  obtain ⟨hr1, hr2⟩ := X.roomAbove hcells hslots
  have XF := mnS_stand X1 cA cI' N M N
  obtain ⟨z, a, b, o, v, u⟩ := mnS_facts (T.setVm vm1) cA cI' N M N
  obtain ⟨t, a1, b1⟩ := kk (mnS (T.setVm vm1) cA cI' N M N).heap ((List.range N).map fun j => ⟨T.heap.size, j⟩) cA cI' hnameA hcI z a b o (fun q hq => by
    obtain ⟨j, -, rfl⟩ := List.mem_map.mp hq
    rfl) _ rfl (by rw [show cells + (1 + N) = cells + 1 + N by omega, show slots + (N + N * M) = slots + N + N * M by omega]; exact XF)
  refine ⟨t, ?_, b1⟩
  have hl1 : ¬ N > e.platform.arrayLengthLimit := by rw [Launch.admits_arrayLengthLimit X.admits]; omega
  have hh1 : ¬ N * componentBytes (.array .long) > e.platform.maxHeapBytes := by
    rw [Launch.admits_maxHeapBytes X.admits]
    show ¬ N * 4 > 536870912
    omega
  have hl2 : ¬ M > e.platform.arrayLengthLimit := by rw [Launch.admits_arrayLengthLimit X.admits]; omega
  have hh2 : ¬ M * componentBytes .long > e.platform.maxHeapBytes := by
    rw [Launch.admits_maxHeapBytes X.admits]
    show ¬ M * 8 > 536870912
    omega
  jvm_step X.here [hexec, hdg]
  simp only [multianewarray.sem, wp_bind', W.resolveClassAt_links (State.method?_setTop (F0 m pc ls (.int k :: .int n :: rest)) X.here.top) hg1]
  rw [W.popN, if_neg (by decide)]
  refine ⟨_, State.topJava?_setTop' (s := T.setVm vm1) (F0 m pc ls (.int k :: .int n :: rest)) X.here.top, [.int n, .int k], rest, rfl, rfl, ?_⟩
  simp only [List.mapM_cons, List.mapM_nil, wp_bind', wp_pure']
  refine mn_make (kA := kA1) (kI := kI1) (cc := cc) hN hM hkA1 hkindA1 hkI1 hkindI1 hn hk hl1 hh1 hl2 hh2 (by show T.heap.size + 1 + N ≤ _; omega) (by show T.slotsUsed + N + N * M ≤ _; omega) (fun d' a' => ?_)
  have eS : ∀ f g : JFrame, ((T.setTop f).setVm vm1).setTop g = (T.setVm vm1).setTop g := fun f g => by
    show ((T.setVm vm1).setTop f).setTop g = _
    rw [State.setTop_setTop]
  rw [eS, mnS_top]
  simp only [wp_bind', W.mark, W.pushRef, State.topJava?_setTop' _ XF.here.top, Option.some.injEq, exists_eq_left', State.setTop_setTop, State.heap_setTop]
  intro acts
  simp [jvm, XF.here.top]
  exact a1
end MANC
