/-! CELLS THAT ARE MADE: a constructor's cells stand in a run of addresses, the object first -/
def NL : List (Nat × Nat × Nat) := [(13, 7, 11), (11, 7, 10), (10, 7, 4), (10, 18, 8), (8, 21, 2), (8, 28, 6), (10, 25, 7), (7, 9, 6), (10, 32, 3), (11, 19, 4), (11, 28, 0), (11, 45, 1), (1, 9, 4), (11, 52, 5), (5, 25, 2), (5, 32, 6), (11, 59, 9), (13, 10, 12)]
def wNL (q : Nat × Nat × Nat) : Cond := .classLink (cN q.1) q.2.1 (cT q.2.2).1
def HL_nl : List (Nat × Nat) := [(1, 21), (1, 29), (1, 35), (1, 97), (1, 103), (1, 137), (1, 214), (1, 220), (2, 22), (2, 49), (2, 51), (2, 67), (2, 73), (2, 87), (2, 93), (2, 95), (2, 140), (6, 114)]
theorem tb_nl : ∀ q ∈ NL, wNL q ∈ TB := tb_map wNL NL HL_nl (by rfl) (fun _ => rfl)
def wNI (t : Nat) : Cond := .instantiable (cT t).1 (nF t)
def HL_ni : List (Nat × Nat) := [(2, 52), (2, 68), (1, 104), (2, 23), (1, 36), (2, 88), (1, 138), (1, 215), (1, 98), (2, 141), (1, 30), (1, 22), (6, 115)]
theorem tb_ni : ∀ q ∈ List.range 13, wNI q ∈ TB := tb_map wNI (List.range 13) HL_ni (by rfl) (fun _ => rfl)
def wNC (t : Nat) : Cond := .initialized (cT t).1
def HL_nc : List (Nat × Nat) := [(1, 10), (1, 11), (1, 5), (1, 9), (1, 3), (1, 12), (1, 6), (1, 8), (1, 4), (1, 13), (1, 2), (1, 1), (1, 14)]
theorem tb_nc : ∀ q ∈ List.range 13, wNC q ∈ TB := tb_map wNC (List.range 13) HL_nc (by rfl) (fun _ => rfl)
def aTy (k : Nat) : FieldType := match k with
  | 0 => .int
  | 1 => .boolean
  | 2 => .char
  | _ => .long
def wNA (k : Nat) : Cond := .arrayClass (aTy k)
def HL_na : List (Nat × Nat) := [(1, 96), (1, 95), (2, 139), (2, 155)]
theorem tb_na : ∀ q ∈ List.range 4, wNA q ∈ TB := tb_map wNA (List.range 4) HL_na (by rfl) (fun _ => rfl)
theorem tb_way : Cond.classLink "PierTooFar$Ways" 11 "[[J" ∈ TB := tb_map (fun _ : Nat => Cond.classLink "PierTooFar$Ways" 11 "[[J") [0] [(2, 146)] (by rfl) (fun _ => rfl) 0 List.mem_cons_self
def wAO (k : Nat) : Cond := .arrayOver (if k = 0 then .object "PierTooFar$Pier" else .array .long)
theorem tb_ao : ∀ q ∈ List.range 2, wAO q ∈ lw_tbl := tb_mp0 wAO (List.range 2) [(2, 74), (2, 147)] (by rfl)
abbrev ICE : Type := Nat × Nat × (Nat → Int32)
def fic (q t : Nat) (f : Nat → Int32) : List Value := (List.range (nF t)).map (fun j => match fkd FT0 t j with
  | (1, _) => .long 0
  | (2, _, u, v) => .ref (q + u - v)
  | _ => .int (f j))
def zf (t : Nat) : List Value := (List.range (nF t)).map (fun j => match fkd FT0 t j with
  | (1, _) => .long 0
  | (2, _, _, _) => .null
  | _ => .int 0)
/-- a new cell at q: an object of class t; an array; (106 + k) the array of piers with k of them -/
def ic (dA : Nat → ClassId) (q : Nat) (x : ICE) : va_E :=
  if x.1 < 100 then .inr (x.1, fic q x.1 x.2.2)
  else if x.1 = 103 then .inl (dA 3, x.2.1, .inr (.inl (fun _ => 0)))
  else if x.1 = 104 then .inl (dA 4, x.2.1, .inr (.inr (.inr (.inr (fun i => some (q + 1 + 5 * i))))))
  else if x.1 = 105 then .inl (dA 5, x.2.1, .inr (.inr (.inr (.inr (fun i => some (q + 1 + i))))))
  else if 106 ≤ x.1 then .inl (dA 4, x.2.1, .inr (.inr (.inr (.inr (fun i => if i < x.1 - 106 then some (q + 1 + 5 * i) else none)))))
  else .inl (dA (x.1 - 100), x.2.1, .inl x.2.2)
def Pie (D : va_G) (dA : Nat → ClassId) (q : Nat) (L : List ICE) (H : Heap) : Prop := ∀ (j : Nat) (x : ICE), L[j]? = some x → va_at D vwCl (q + j, ic dA (q + j) x) H
theorem Pie.kept {D : va_G} {dA : Nat → ClassId} {q : Nat} {L : List ICE} {H H1 : Heap} (h : Pie D dA q L H) (hk : ∀ a, q ≤ a → a < q + L.length → H1[a]? = H[a]?) : Pie D dA q L H1 := fun j x hj => (h j x hj).kept (hk (q + j) (Nat.le_add_right _ _) (Nat.add_lt_add_left (List.getElem?_eq_some_iff.mp hj).1 q))
theorem Pie.app {D : va_G} {dA : Nat → ClassId} {q : Nat} {L L2 : List ICE} {H : Heap} (h : Pie D dA q L H) (h2 : Pie D dA (q + L.length) L2 H) : Pie D dA q (L ++ L2) H := by
  intro j x hj
  by_cases hl : j < L.length
  · rw [List.getElem?_append_left hl] at hj
    exact h j x hj
  · rw [List.getElem?_append_right (by omega)] at hj
    have h3 := h2 _ x hj
    rw [show q + L.length + (j - L.length) = q + j by omega] at h3
    exact h3
theorem Pie.left {D : va_G} {dA : Nat → ClassId} {q : Nat} {L L2 : List ICE} {H : Heap} (h : Pie D dA q (L ++ L2) H) : Pie D dA q L H := fun j x hj => h j x (by rw [List.getElem?_append_left (List.getElem?_eq_some_iff.mp hj).1]; exact hj)
theorem Pie.nil {D : va_G} {dA : Nat → ClassId} {q : Nat} {H : Heap} : Pie D dA q [] H := fun j x hj => by
  rw [List.getElem?_nil] at hj
  cases hj
theorem Pie.one {D : va_G} {dA : Nat → ClassId} {q : Nat} {x : ICE} {H : Heap} (h : va_at D vwCl (q, ic dA q x) H) : Pie D dA q [x] H := fun j y hj => by
  have hz : j < 1 := (List.getElem?_eq_some_iff.mp hj).1
  obtain rfl : j = 0 := by omega
  cases hj
  exact h
theorem Pie.cons {D : va_G} {dA : Nat → ClassId} {q : Nat} {x : ICE} {L : List ICE} {H : Heap} (h : va_at D vwCl (q, ic dA q x) H) (h2 : Pie D dA (q + 1) L H) : Pie D dA q (x :: L) H := Pie.app (L := [x]) (Pie.one h) h2
theorem Pie.set {D : va_G} {dA : Nat → ClassId} {q : Nat} {L : List ICE} {H H1 : Heap} (h : Pie D dA q L H) (j : Nat) (x : ICE) (hx : va_at D vwCl (q + j, ic dA (q + j) x) H1) (ho : ∀ a, a ≠ q + j → H1[a]? = H[a]?) : Pie D dA q (L.set j x) H1 := by
  intro k y hk
  by_cases hkj : j = k
  · subst hkj
    have hl : j < L.length := by
      have := (List.getElem?_eq_some_iff.mp hk).1
      rwa [List.length_set] at this
    rw [List.getElem?_set_self hl] at hk
    cases hk
    exact hx
  · rw [List.getElem?_set_ne hkj] at hk
    exact (h k y hk).kept (ho _ (by show q + k ≠ q + j; omega))
theorem arr_ext {cA : ClassId} {n : Nat} {f g : Nat → Value} (h : ∀ j, j < n → f j = g j) : arrV cA n f = arrV cA n g := by
  unfold arrV
  congr 1
  congr 1
  funext j
  exact h j.val j.isLt
def Bx (D : va_G) (dA : Nat → ClassId) (q t : Nat) (fs : List Value) (L : List ICE) (H : Heap) : Prop := va_at D vwCl (q, .inr (t, fs)) H ∧ Pie D dA (q + 1) L H ∧ H.size = q + 1 + L.length
def xty (dA : Nat → ClassId) : List (ClassId × FieldType) := [(dA 0, .int), (dA 1, .boolean), (dA 2, .char), (dA 3, .long), (dA 4, .object "PierTooFar$Pier"), (dA 5, .array .long)]
def KX (D : va_G) (dA : Nat → ClassId) (U : State) : Prop := va_K D vwCl (xty dA) U ∧ (∀ q ∈ FL2, va_Nw (wFN q) U) ∧ (∀ q ∈ ML2, va_Nw (wMN q) U) ∧ ∀ q ∈ List.range 2, va_Nw (wAO q) U
theorem KX.warm {D : va_G} {dA : Nat → ClassId} {s U : State} (h : KX D dA s) (hW : s.WarmedH U.vm) : KX D dA U := by
  obtain ⟨h1, h2, h3, h4⟩ := h
  refine ⟨va_K.moved hW.alike h1, fun q hq => va_Nw.warmF hW (h2 q hq), fun q hq => va_Nw.warmM hW (h3 q hq), fun q hq => ?_⟩
  have key : ∀ ty, va_Nw (.arrayOver ty) s → va_Nw (.arrayOver ty) U := fun ty h => by
    have h2 : (Cond.arrayOver ty).before #[] (s.setVm U.vm) = true := by rw [Cond.arrayOver_setVmC hW.alike]; exact h
    exact h2
  exact key _ (h4 q hq)
theorem xt_arr {D : va_G} {dA : Nat → ClassId} {s : State} (h : KX D dA s) {k : Nat} (hk : k < 4) : s.vm.findClass ("[" ++ (aTy k).toString) = some (dA k) := by
  rcases (show k = 0 ∨ k = 1 ∨ k = 2 ∨ k = 3 by omega) with rfl | rfl | rfl | rfl
  · exact (h.1.2 0 _ rfl).2
  · exact (h.1.2 1 _ rfl).2
  · exact (h.1.2 2 _ rfl).2
  · exact (h.1.2 3 _ rfl).2
/-! contracts of constructors -/
def rmI (d mc ms : Nat) : Room := { frames := d, cells := mc, slots := ms, locals := 64 * d }
def PcI (D : va_G) (dA : Nat → ClassId) (q t : Nat) (As : List Value) : Array Value → State → Prop := va_Pc (.ref q :: As) (fun U => U.heap.size = q + 1 ∧ va_at D vwCl (q, .inr (t, zf t)) U.heap ∧ KX D dA U)
def QcI (D : va_G) (dA : Nat → ClassId) (q : Nat) (L : List ICE) : Array Value → State → Outcome → State → Prop := va_Qv (S := Unit) (fun _ => True) (fun _ t => t.heap.size = q + L.length ∧ Pie D dA q L t.heap) (fun a => q ≤ a)
def Ini (D : va_G) (dA : Nat → ClassId) (d i t : Nat) (As : List Value) (q : Nat) (L : List ICE) (mc ms : Nat) : Prop := ∀ l : Launch, Met l (mY i) (mWord i :: TB) (rmI d mc ms) (PcI D dA q t As) (QcI D dA q L) mc ms (fun a => q ≤ a)
theorem zf_ok : ∀ t ∈ List.range 13, ∀ j ∈ List.range (nF t), ((parseFieldDescriptor ((cT t).2.1 j).2.2.1).map defaultValue) = some (vp_V (zf t) j) := by decide +kernel
theorem my_1 : mY 1 = Lib.objectInit := by decide +kernel
theorem wi_1 : wIn 1 = Cond.instanceMethod Lib.objectInit := by decide +kernel
theorem wm_1 : mWord 1 = Cond.code Lib.objectInit ⟨#[0xb1]⟩ 1 none := by decide +kernel
theorem own_ok : ∀ q ∈ FW, ((cT q.1).2.1 q.2).1 = cN q.1 := by decide +kernel
section BORN
variable {p : Program} {l : Launch} {e : Env} {R : Room} {s : State} {m : MethodId} {args : Array Value} {below : List Frame} {meth : Method} {c : Code} {H : Heap} {locs : List Loc} {cells slots : Nat} {Q : State → Prop}
variable {cc : ByteArray} {nL o pc : Nat} {ls : Array Slot} {rest : List Value} {D : va_G} {dA : Nat → ClassId} {q t : Nat} {fs : List Value} {L : List ICE} {H0 : Heap}
theorem cr_new (S : CallFix p m c cc nL s args TB (cN o)) (hK : KX D dA s) {t' idx : Nat} (hq : (o, idx, t') ∈ NL) (ht : t' < 13) (hf : cells + 1 ≤ R.cells ∧ slots + nF t' ≤ R.slots) (hdg : decode cc pc = .ok (.new idx, 3))
    (kk : ∀ H1 : Heap, va_at D vwCl (H.size, .inr (t', zf t')) H1 → H1.size = H.size + 1 → (∀ a, a < H.size → H1[a]? = H[a]?) → W p l e R s m args below meth c H1 locs (cells + 1) (slots + nF t') Q (F0 m (pc + 3) ls (.ref H.size :: rest))) :
    W p l e R s m args below meth c H locs cells slots Q (F0 m pc ls rest) := by
  obtain ⟨hx, hb, -, hown, hts⟩ := S
  have hc := cls_at ht
  have hKn := hK.1.1 t' _ hc
  obtain ⟨⟨ty, hty⟩, -⟩ := cls_ok t' ht
  refine W.newcK hx hb hown (hts _ (tb_nl _ hq)) (hts _ (tb_ni t' (List.mem_range.mpr ht))) (hts _ (tb_nc t' (List.mem_range.mpr ht))) rfl hdg hf.1 hf.2 hKn.2.1 rfl fun H1 kC hkC e1 z1 o1 => ?_
  refine kk H1 ⟨_, hc, (u_born ty hts (cls_w ht) hKn hkC e1 hty).to (fun j hj => ?_)⟩ z1 o1
  have h := zf_ok t' (List.mem_range.mpr ht) j (List.mem_range.mpr hj)
  rw [hty j hj] at h
  exact Option.some.inj h
theorem cr_put (S : CallFix p m c cc nL s args TB (cN o)) (hin : meth.name = "<init>") (hK : KX D dA s) {k idx : Nat} (hfl : (o, idx, o, k) ∈ FL1) (ho : o < 13) (hk : k < nF o) (hB : Bx D dA q o fs L H) (hS : va_S (fun a => q ≤ a) H0 H locs) {ty : FieldType} {v : Value} (hd : parseFieldDescriptor ((cT o).2.1 k).2.2.1 = some ty) (hn : narrow ty v = v) (hfit : fits ty v = true) (hl : k < fs.length) (hdg : decode cc pc = .ok (.putfield idx, 3))
    (kk : ∀ (H1 : Heap) (locs1 : List Loc), Bx D dA q o (fs.set k v) L H1 → va_S (fun a => q ≤ a) H0 H1 locs1 → W p l e R s m args below meth c H1 locs1 cells slots Q (F0 m (pc + 3) ls rest)) :
    W p l e R s m args below meth c H locs cells slots Q (F0 m pc ls (v :: .ref q :: rest)) := by
  obtain ⟨hx, hb, -, hown, hts⟩ := S
  obtain ⟨b1, b2, b3⟩ := hB
  have hc := cls_at ho
  obtain ⟨⟨ty0, hty⟩, hnm⟩ := cls_ok o ho
  have hinw := cls_w ho
  have hap := va_apart (own := cN o) hts hinw ty0 hty hnm hK.1 hc
  obtain ⟨r, h1, cell, q1, q2, q3, q4⟩ := b1
  have hr : r = ((cT o).1, (cT o).2.1, (cT o).2.2) := Option.some.inj (h1.symm.trans hc)
  subst hr
  obtain ⟨hSl, hfc, kC, hkC, hkind⟩ := hK.1.1 o _ hc
  obtain ⟨cf, kf, fi, f, hi, hsl⟩ := hSl k hk
  have hlay := hts _ (hinw _ (u_in_lay hk))
  have hst := (u_facts hfc hkC (u_lays hts hinw hk) hi).1
  have hlink := hts _ (tb_fl1 _ hfl)
  have hown2 : ((cT o).2.1 k).1 = cN o := own_ok (o, k) (fw_all o ho k hk)
  have fin : ∀ (H' : Heap), H'[q]? = some (cell.setSlot f.slot v) → H'.size = H.size → (∀ a, a ≠ q → H'[a]? = H[a]?) → W p l e R s m args below meth c H' (locs ++ [⟨q, f.slot⟩]) cells slots Q (F0 m (pc + 3) ls rest) := by
    intro H' e1 e2 e3
    rw [hsl] at e1 ⊢
    refine kk H' _ ⟨⟨_, hc, t_OB.to (V := updV (vp_V fs) k v) ⟨_, e1, q2, q3, t_set q4 hap hk v⟩ (fun j _ => vp_updV_set hl v j)⟩, b2.kept (fun a h1 _ => e3 a (by omega)), by rw [e2]; exact b3⟩ (hS.put e2 e3 (Nat.le_refl q))
  unfold u_lay at hlay
  by_cases hfin : ((cT o).2.1 k).2.2.2 = true
  · rw [if_pos hfin] at hlay
    have hcf : m.cls = cf := by
      obtain ⟨_, _, c', _, _, _, -, -, hf', -, -, -, hown3, -⟩ := Cond.laysFinal_spec hlay
      have e1 : c' = cf := by have := hi.symm.trans hf'; simp at this; exact this.1.symm
      rw [hown2] at hown3
      rw [← e1]
      exact Option.some.inj (hown.symm.trans hown3)
    have h6 := u_fits hfc hkC hkind (Or.inr hlay) hi hd hn hfit
    exact W.putFinK hx hb hown hlink hi hst hcf hin (by rw [q2]; exact h6) q1 q3 (by rw [hsl]; exact k2_hasslot (q4 k hk)) rfl rfl hdg fin
  · rw [if_neg hfin] at hlay
    have h6 := u_store hfc hkC hkind hlay hi hd hn hfit
    exact W.putK hx hb (f := f) ⟨hown, hlink, ⟨_, _, _, hi⟩, hst⟩ (by rw [q2]; exact h6) q1 q3 (by rw [hsl]; exact k2_hasslot (q4 k hk)) rfl rfl hdg fin
theorem cr_arr (S : CallFix p m c cc nL s args TB (cN o)) (hK : KX D dA s) {aty : ArrayType} {k : Nat} (hk : k < 4) (hty : newarray.typeOf aty = aTy k) {n : Int32} {N M : Nat} (hn : ¬ n < 0) (hN : n.toNatClampNeg = N) (hb1 : N * 8 ≤ 536870912) (hf : cells + 1 ≤ R.cells ∧ slots + N ≤ R.slots) (hB : Bx D dA q t fs L H) (hM : L.length = M) (hS : va_S (fun a => q ≤ a) H0 H locs) (hdg : decode cc pc = .ok (.newarray aty, 2))
    (kk : ∀ H1 : Heap, Bx D dA q t fs (L ++ [(100 + k, N, fun _ => 0)]) H1 → va_S (fun a => q ≤ a) H0 H1 locs → W p l e R s m args below meth c H1 locs (cells + 1) (slots + N) Q (F0 m (pc + 2) ls (.ref (q + 1 + M) :: rest))) :
    W p l e R s m args below meth c H locs cells slots Q (F0 m pc ls (.int n :: rest)) := by
  obtain ⟨hx, hb, -, -, hts⟩ := S
  obtain ⟨b1, b2, b3⟩ := hB
  subst hM
  have hw := hts _ (tb_na k (List.mem_range.mpr hk))
  have hcb : ∀ k, componentBytes (aTy k) ≤ 8 := fun k => by unfold aTy; split <;> decide
  refine va_newaK hx hb (by rw [hty]; exact hw) rfl hdg rfl hn hN (by rw [hty]; exact Nat.le_trans (Nat.mul_le_mul_left N (hcb k)) hb1) hf.1 hf.2 b3 fun H1 cA e1 z1 o1 _ hNm => ?_
  rw [hty] at e1 hNm
  have ecA : cA = dA k := Option.some.inj (hNm.symm.trans (xt_arr hK hk))
  subst ecA
  have hat : va_at D vwCl (q + 1 + L.length, ic dA (q + 1 + L.length) (100 + k, N, fun _ => 0)) H1 := by
    rcases (show k = 0 ∨ k = 1 ∨ k = 2 ∨ k = 3 by omega) with rfl | rfl | rfl | rfl
    · exact e1
    · exact e1
    · exact e1
    · exact e1
  refine kk H1 ⟨b1.kept (o1 _ (by show q < _; omega)), (b2.kept (fun a _ h2 => o1 a h2)).app (Pie.one hat), by rw [z1, List.length_append]; rfl⟩ ⟨Nat.le_trans hS.1 (by omega), fun a h1 h2 => (o1 a (by have := hS.1; omega)).trans (hS.2.1 a h1 h2), hS.2.2⟩
theorem cr_ini (S : CallFix p m c cc nL s args TB (cN o)) (hK : KX D dA s) {i t' q' idx mc ms d : Nat} {As : List Value} {Lc : List ICE} (hM : Ini D dA d i t' As q' Lc mc ms) (hci : i ∈ CM) (him : i ∈ IM) (ham : i ∈ AM) (hnm : (mY i).name = "<init>") (hret : mR i = none) (hlk : (o, idx, i) ∈ ML1 ∨ (o, idx, i) ∈ ML2) (hlen : As.length = mN i) (hd : d + 1 ≤ R.frames ∧ 8 + (mL i + 11) + 64 * d ≤ R.locals) (hat : va_at D vwCl (q', .inr (t', zf t')) H) (hsz : H.size = q' + 1) (hl : ls.size = nL) (hrest : (rest.map fun v => v.category).sum ≤ 8) (hf : cells + mc ≤ R.cells ∧ slots + ms ≤ R.slots) {A : Nat → Prop} (hS : va_S A H0 H locs) (hA : ∀ a, q' ≤ a → A a) (hdg : decode cc pc = .ok (.invokespecial idx, 3))
    (kk : ∀ (H1 : Heap) (locs1 : List Loc), H1.size = q' + Lc.length → Pie D dA q' Lc H1 → (∀ a, a < q' → H1[a]? = H[a]?) → va_S A H0 H1 locs1 → W p l e R s m args below meth c H1 locs1 (cells + mc) (slots + ms) Q (F0 m (pc + 3) ls rest)) :
    W p l e R s m args below meth c H locs cells slots Q (F0 m pc ls (As.reverse ++ .ref q' :: rest)) := by
  obtain ⟨hx, hb, hml, hown, hts⟩ := id S
  have hdesc : mC i ≠ "java/lang/invoke/MethodHandle" ∧ mC i ≠ "java/lang/invoke/VarHandle" ∧ (parseMethodDescriptor (mY i).desc).map (fun d => d.parameters.length) = some (mN i) := ⟨(mx_C i ham).1, (mx_C i ham).2, mx_N i ham⟩
  have hw : mWord i :: TB = Cond.code (mY i) (mB i) (mL i) none :: TB := by
    unfold mWord
    rw [hret]
  have hblind : ∀ (a : Array Value) (U : State) (g : JFrame) (mk : MethodId), PcI D dA q' t' As a U → PcI D dA q' t' As a (U.calling g mk a) := fun a U g mk h => ⟨h.1, h.2.1, h.2.2.1, h.2.2.2.warm (State.WarmedH.refl U)⟩
  have huse : ∀ U : State, U.heap = H → s.WarmedH U.vm → PcI D dA q' t' As (Value.ref q' :: As).toArray U := fun U hU hW => ⟨rfl, by rw [hU]; exact hsz, by rw [hU]; exact hat, hK.warm hW⟩
  have hrun : va_Run p l e R s m args below meth c H locs cells slots mc ms (F0 m pc ls (As.reverse ++ .ref q' :: rest)) rest (QcI D dA q' Lc (Value.ref q' :: As).toArray) (fun a => q' ≤ a) := by
    rcases hlk with hlk | hlk
    · have hcall := callB_of (s := s) (args := args) (R := R) (own := cN o) (index := idx) (rm := rmI d mc ms) (y := mY i) (bytes := mB i) (maxL := mL i) (ret := none) (ws := mWord i :: TB) (mN i) hts (tb_goodm ham) hw rfl rfl (hts _ (tb_ini i him)) (hts _ (tb_ml1 _ hlk)) hdesc hd
      exact va_runI S (hM l) ⟨hcall, hnm, hts _ (tb_ci i hci)⟩ ⟨hblind, huse⟩ rfl hlen hl rfl (by exact Nat.le_trans (Nat.le_of_eq (Nat.zero_add _)) hrest) hdg hf
    · have hcall := va_cnB (s := s) (args := args) (R := R) (own := cN o) (index := idx) (host := "PierTooFar") (rm := rmI d mc ms) (y := mY i) (bytes := mB i) (maxL := mL i) (ret := none) (ws := mWord i :: TB) (mN i) hts (tb_goodm ham) hw rfl rfl (hK.2.2.1 _ hlk) (hts _ (tb_ini i him)) hdesc hd
      exact va_runIN S (hM l) ⟨hcall, hnm, hts _ (tb_ci i hci)⟩ ⟨hblind, huse⟩ rfl hlen hl rfl (by exact Nat.le_trans (Nat.le_of_eq (Nat.zero_add _)) hrest) hdg hf
  refine va_callv (A0 := A) (H0 := H0) hrun hS (fun a _ h => hA a h) (fun a h => hA a h) (fun u t1 H1 locs1 ht _ _ hB _ hk1 hS1 => ?_)
  refine kk H1 locs1 (by rw [← ht]; exact hB.1) (by rw [← ht]; exact hB.2) (fun a ha => hk1 a (by omega) (by omega)) hS1
theorem cr_obj (S : CallFix p m c cc nL s args TB (cN o)) {a : Nat} {idx : Nat} (hlk : (o, idx, 1) ∈ ML1) (hl : ls.size = nL) (hd : 1 ≤ R.frames ∧ 64 ≤ R.locals) (hrest : (rest.map fun v => v.category).sum ≤ 8) (hdg : decode cc pc = .ok (.invokespecial idx, 3))
    (kk : W p l e R s m args below meth c H locs cells slots Q (F0 m (pc + 3) ls rest)) : W p l e R s m args below meth c H locs cells slots Q (F0 m pc ls (.ref a :: rest)) := by
  obtain ⟨hx, hb, hml, hown, hts⟩ := S
  have h1 := hts _ (tb_ml1 (o, idx, 1) hlk)
  have h2 := hts _ (tb_ci 1 (by decide))
  have h3 := hts _ (tb_mw 1 (List.mem_range.mpr (by decide)))
  rw [wi_1] at h2
  rw [wm_1] at h3
  unfold wM at h1
  dsimp only at h1
  rw [my_1] at h1
  exact W.objInit hx hb hown h1 h2 h3 rfl (hl.trans hml.symm) rfl hdg hd.1 (by show 2 * 0 + _ + 12 ≤ _; omega) kk
theorem cr_end (hx : p.tables.exec = Jvm.exec) (hb : c.code = cc) (hr : meth.sig.returnType = none) (hlocks : meth.locks = false) {f : Nat → Int32} {n k : Nat} (hB : Bx D dA q t fs L H) (ht : t < 100) (hfs : fs = fic q t f) (hS : va_S (fun a => q ≤ a) s.heap H locs) (hc : cells ≤ n ∧ slots ≤ k) (hdg : decode cc pc = .ok (.return_, 1)) :
    W p l e R s m args below meth c H locs cells slots (MQ below (QcI D dA q ((t, 0, f) :: L)) args s n k (fun a => q ≤ a)) (F0 m pc ls []) := by
  refine W.widen hc.1 hc.2 ?_
  obtain ⟨b1, b2, b3⟩ := hB
  have hP : Pie D dA q ((t, 0, f) :: L) H := Pie.cons (by
    unfold ic
    rw [if_pos (show (t, 0, f).1 < 100 from ht), ← hfs]
    exact b1) b2
  exact W.vret hx hb hr (fun u hu hW => ⟨⟨(), rfl, trivial, by rw [hu, b3, List.length_cons]; omega, by rw [hu]; exact hP⟩, hS.F hu⟩) hS.2.2 hdg hlocks
end BORN
theorem cr_start {D : va_G} {dA : Nat → ClassId} {d i t q mc ms : Nat} {As : List Value} {L : List ICE} (hi : i ∈ PM0) (hret : mR i = none) (hname : (mY i).name = "<init>") (ho : mC i = cN (oN i)) (hlen : (lg_sl (.ref q :: As)).length ≤ mL i)
    (body : ∀ (p : Program) (l : Launch) (e : Env) (s : State) (m : MethodId) (args : Array Value) (below : List Frame) (meth : Method) (c : Code) (ls : Array Slot), CallFix p m c (mB i) (mL i) s args TB (cN (oN i)) → meth.sig.returnType = none → meth.locks = false → meth.name = "<init>" → KX D dA s → Bx D dA q t (zf t) [] s.heap → lv_has ls (mL i) (lv_args 0 (.ref q :: As)) → W p l e (rmI d mc ms) s m args below meth c s.heap [] 0 0 (MQ below (QcI D dA q L) args s mc ms (fun a => q ≤ a)) (F0 m 0 ls [])) :
    Ini D dA d i t As q L mc ms := by
  intro l
  have hw : mWord i :: TB = Cond.code (mY i) (mB i) (mL i) none :: TB := by
    unfold mWord
    rw [hret]
  refine Met.ofW (cc := mB i) (maxL := mL i) (ret := none) (mx_P0 i hi) hw ?_
  intro p e s m args below meth c s₁ B hml hv
  obtain ⟨rfl, hz, hat, hK⟩ := hv
  have hts : ∀ w ∈ TB, w.before (Value.ref q :: As).toArray s = true := fun w hw => atoms_spec (ws := mWord i :: TB) B.pre w (List.mem_cons_of_mem _ hw)
  have hown : s.vm.findClass (cN (oN i)) = some m.cls := by
    rw [← ho]
    exact findClass_of_methodNamed B.named
  have hl := lv_entry (.ref q :: As) (n := mL i) hlen
  rw [lg_entry_eq]
  exact body p l e s m _ below meth c _ ⟨B.exec, B.bytes, hml, hown, hts⟩ B.returns B.notSynchronized ((name_of_methodNamed B.named B.method).1.trans hname) hK ⟨hat, Pie.nil, hz⟩ hl
