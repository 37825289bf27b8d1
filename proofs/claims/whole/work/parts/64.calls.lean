/-! a call out of the law's body, beside the other world -/
section LAWCALL
variable {p : Program} {l : Launch} {e : Env} {s : State} {m : MethodId} {args : Array Value} {below : List Frame} {meth : Method} {c : Code} {cells slots : Nat} {Q : State → Prop}
def LawC (p : Program) (s : State) (m : MethodId) (args : Array Value) (c : Code) : Prop := p.tables.exec = Jvm.exec ∧ c.code = code ∧ c.maxLocals = 4 ∧ s.vm.findClass (cN 13) = some m.cls ∧ (∀ w ∈ TB, w.before args s = true)
theorem wl_kept {Y : CXT} {τ : Mem} {H H1 : Heap} (hP : va_P (xD Y) vwCl (wl Y τ) H) (hk : ∀ q : Nat, xA Y q → q < H.size → H1[q]? = H[q]?) : va_P (xD Y) vwCl (wl Y τ) H1 := by
  intro k q hq
  have h0 := hP k q hq
  refine h0.kept (hk q.1 ?_ h0.lt)
  rcases Nat.lt_or_ge k (xN Y) with hi | hi
  · rw [wl_get hi] at hq
    rw [← Option.some.inj hq]
    exact ⟨k, hi, rfl⟩
  · rw [List.getElem?_eq_none (by rw [wl_len]; exact hi)] at hq
    cases hq
theorem lawcall {X Y : CXT} (C0 : LawC p s m args c) (gX : XG X) {a d n t k : Nat} {av : List AV} {σ τ : Mem} {r : AV × Mem} {H : Heap} {locs : List Loc} {lsR : Array Slot} {lv : List (Nat × Value)} {pc : Nat} {rest : List Value} {A : Nat → Prop}
    (hsp : Sp X d a (.inr (.inr (t, k)) :: av) σ r) (ham : a ∈ AM) (hvm : a ∈ VM) (hem : a ∈ EM) (him : a ∈ IM) (hml1 : (13, n, a) ∈ ML1) (ht : t < 13) (hk : k < xN X) (htg : xtg X k = t) (hcl : (cT t).1 = mC a) (hlav : av.length = mN a) (hd : d ≤ 60)
    (hK : va_K (xD X) vwCl (xtys X) s) (hXF : xXF X s) (hP : va_P (xD X) vwCl (wl X σ) H) (hPY : va_P (xD Y) vwCl (wl Y τ) H) (hdis : ∀ q, xA X q → ¬ xA Y q) (hAX : ∀ q, xA X q → A q) (hS : va_S A s.heap H locs) (hA0 : ∀ q, q < s.heap.size → ¬ A q) (hdg : decode code pc = .ok (.invokevirtual n, 3)) (hl : lv_has lsR 4 lv) (hrest : (rest.map fun v => v.category).sum ≤ 8) (hf : cells ≤ room_1.cells ∧ slots ≤ room_1.slots)
    (kk : ∀ (H1 : Heap) (locs1 : List Loc), va_P (xD X) vwCl (wl X r.2) H1 → va_P (xD Y) vwCl (wl Y τ) H1 → va_S A s.heap H1 locs1 → W p l e room_1 s m args below meth c H1 locs1 cells slots Q (F0 m (pc + 3) lsR (((mR a).map (fun _ => cv X r.1)).toList ++ rest))) :
    W p l e room_1 s m args below meth c H locs cells slots Q (F0 m pc lsR ((av.map (cv X)).reverse ++ .ref (xad X k) :: rest)) := by
  obtain ⟨hx, hb, hml, hown, hts⟩ := C0
  have hw := wl_get (σ := σ) hk
  rw [cell_obj htg (by omega)] at hw
  obtain ⟨cellB, hc1, hc3, hc4⟩ := va_recv hK hP (cls_at ht) hw
  rw [hcl] at hc4
  have hnn := mx_N a ham
  have hdesc : mC a ≠ "java/lang/invoke/MethodHandle" ∧ mC a ≠ "java/lang/invoke/VarHandle" ∧ (parseMethodDescriptor (mY a).desc).map (fun d => d.parameters.length) = some (mN a) := ⟨(mx_C a ham).1, (mx_C a ham).2, hnn⟩
  have hlw := hts _ (tb_ml1 (13, n, a) hml1)
  have hroom : (rmd d).frames + 1 ≤ room_1.frames ∧ 8 + (mL a + 11) + (rmd d).locals ≤ room_1.locals := ⟨by show d + 1 ≤ 2048; omega, by have := mx_L a ham; show 8 + (mL a + 11) + 64 * d ≤ 84000; omega⟩
  have hcall := callB_of (s := s) (args := args) (R := room_1) (own := cN 13) (index := n) (rm := rmd d) (y := mY a) (bytes := mB a) (maxL := mL a) (ret := mR a) (ws := mWord a :: TB) (mN a) hts (tb_goodm ham) rfl rfl rfl (hts _ (tb_ini a him)) hlw hdesc hroom
  have hmc : (av.map (cv X)).length = mN a := by rw [List.length_map]; exact hlav
  have hP0 : PcX X (.inr (.inr (t, k)) :: av) σ (Value.ref (xad X k) :: av.map (cv X)).toArray = PcX X (.inr (.inr (t, k)) :: av) σ (Value.ref (xad X k) :: av.map (cv X)).toArray := rfl
  have huse : ∀ U : State, U.heap = H → s.WarmedH U.vm → PcX X (.inr (.inr (t, k)) :: av) σ (Value.ref (xad X k) :: av.map (cv X)).toArray U := fun U hU hW =>
    ⟨by rw [List.map_cons, cv_own (by omega)], by rw [hU]; exact hP, va_K.moved hW.alike hK, gX.2.2.2.2.1 s U hXF hW (fun q h1 _ => by rw [hU]; exact hS.2.1 q h1 (hA0 q h1))⟩
  have hrun := va_runV (p := p) (l := l) (e := e) (below := below) (meth := meth) (locs := locs) (C := mC a) (Pc := PcX X (.inr (.inr (t, k)) :: av) σ) (As := av.map (cv X)) (rest := rest) (g := F0 m pc lsR ((av.map (cv X)).reverse ++ .ref (xad X k) :: rest)) (cells := cells) (slots := slots) (H := H) ⟨hx, hb, hml, hown, hts⟩ (hsp l) ⟨hcall, hts _ (tb_vi a hvm), hts _ (tb_se a hem)⟩ ⟨pc_blind gX, ⟨cellB, hc1, hc3, hc4⟩, huse⟩ rfl hmc hl.1 rfl (by exact Nat.le_trans (Nat.le_of_eq (Nat.zero_add _)) hrest) hdg hf
  intro T hT X'
  obtain ⟨v, st₀, t', T', L, h0, X2, hL, e1, e2, ⟨⟨hv, hp⟩, hz, hkp⟩, st⟩ := hrun T hT X'
  cases hv
  rw [h0] at hz hkp
  obtain ⟨t2, a1, b1⟩ := kk T'.heap (locs ++ L) (by rw [e1]; exact hp) (wl_kept hPY (fun q h1 h2 => by rw [e1]; exact hkp q h2 (fun w => hdis q w h1)))
    ⟨Nat.le_trans hS.1 (by rw [e1]; exact hz), fun q h1 h2 => by rw [e1, hkp q (Nat.lt_of_lt_of_le h1 hS.1) (fun w => h2 (hAX q w))]; exact hS.2.1 q h1 h2, fun q hq => by
      rcases List.mem_append.mp hq with h | h
      · exact hS.2.2 q h
      · exact hAX _ (hL q h)⟩ T' rfl X2
  exact ⟨t2, st t2 a1, b1⟩
end LAWCALL
theorem call_of {X : CXT} {d i : Nat} {sm : (O : Type) → List AV → Mem → (AV → Mem → Option O) → Option O} (h : SemOK X d i sm) {av : List AV} {σ : Mem} {r : AV × Mem} (e : sm (AV × Mem) av σ (fun v σ => some (v, σ)) = some r) (ht : ∀ v ∈ av, TR X v) : Sp X d i av σ r := by
  obtain ⟨r', h1, _, h2⟩ := h _ av σ _ _ e
  have := Option.some.inj h2
  rw [← this]
  exact h1 ht
