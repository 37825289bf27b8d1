/-! rows of constructors over a growing run of cells -/
def INI : List Nat := [0, 2, 3, 4, 5, 6, 8, 9, 10, 11, 12, 13, 226]
theorem ini_tab : ∀ i ∈ INI, i ∈ CM ∧ i ∈ IM ∧ i ∈ AM ∧ i ∈ PM0 ∧ (mY i).name = "<init>" ∧ (mR i).isNone = true ∧ mC i = cN (oN i) := by decide +kernel
theorem ini_none {i : Nat} (h : i ∈ INI) : mR i = none := Option.isNone_iff_eq_none.mp (ini_tab i h).2.2.2.2.2.1
def By (D : va_G) (dA : Nat → ClassId) (q t : Nat) (fs : List Value) (L : List ICE) (H : Heap) : Prop := va_at D vwCl (q, .inr (t, fs)) H ∧ Pie D dA (q + 1) L H
section MORE
variable {p : Program} {l : Launch} {e : Env} {R : Room} {s : State} {m : MethodId} {args : Array Value} {below : List Frame} {meth : Method} {c : Code} {H : Heap} {locs : List Loc} {cells slots : Nat} {Q : State → Prop}
variable {cc : ByteArray} {nL o pc : Nat} {ls : Array Slot} {rest : List Value} {D : va_G} {dA : Nat → ClassId} {q t : Nat} {fs : List Value} {L : List ICE} {H0 : Heap}
theorem cr_newB (S : CallFix p m c cc nL s args TB (cN o)) (hK : KX D dA s) {t' idx M : Nat} (hq : (o, idx, t') ∈ NL) (ht : t' < 13) (hf : cells + 1 ≤ R.cells ∧ slots + nF t' ≤ R.slots) (hB : Bx D dA q t fs L H) (hM : L.length = M) (hS : va_S (fun a => q ≤ a) H0 H locs) (hdg : decode cc pc = .ok (.new idx, 3))
    (kk : ∀ H1 : Heap, By D dA q t fs L H1 → H1.size = q + 1 + M + 1 → va_at D vwCl (q + 1 + M, .inr (t', zf t')) H1 → va_S (fun a => q ≤ a) H0 H1 locs → W p l e R s m args below meth c H1 locs (cells + 1) (slots + nF t') Q (F0 m (pc + 3) ls (.ref (q + 1 + M) :: rest))) :
    W p l e R s m args below meth c H locs cells slots Q (F0 m pc ls rest) := by
  obtain ⟨b1, b2, b3⟩ := hB
  subst hM
  refine cr_new S hK hq ht hf hdg (fun H1 hat hz ho => ?_)
  rw [b3] at hat hz ho ⊢
  exact kk H1 ⟨b1.kept (ho _ (by show q < _; omega)), b2.kept (fun a _ h2 => ho a h2)⟩ hz hat ⟨Nat.le_trans hS.1 (by omega), fun a h1 h2 => (ho a (by have := hS.1; omega)).trans (hS.2.1 a h1 h2), hS.2.2⟩
theorem cr_iniB (S : CallFix p m c cc nL s args TB (cN o)) (hK : KX D dA s) {i t' idx mc ms d M : Nat} {As : List Value} {Lc : List ICE} (hM : Ini D dA d i t' As (q + 1 + M) Lc mc ms) (hi : i ∈ INI) (hlk : (o, idx, i) ∈ ML1 ∨ (o, idx, i) ∈ ML2) (hlen : As.length = mN i) (hd : d + 1 ≤ R.frames ∧ 8 + (mL i + 11) + 64 * d ≤ R.locals) (hB : By D dA q t fs L H) (hLM : L.length = M) (hsz : H.size = q + 1 + M + 1) (hat : va_at D vwCl (q + 1 + M, .inr (t', zf t')) H) (hl : ls.size = nL) (hrest : (rest.map fun v => v.category).sum ≤ 8) (hf : cells + mc ≤ R.cells ∧ slots + ms ≤ R.slots) (hS : va_S (fun a => q ≤ a) H0 H locs) (hdg : decode cc pc = .ok (.invokespecial idx, 3))
    (kk : ∀ (H1 : Heap) (locs1 : List Loc), Bx D dA q t fs (L ++ Lc) H1 → va_S (fun a => q ≤ a) H0 H1 locs1 → W p l e R s m args below meth c H1 locs1 (cells + mc) (slots + ms) Q (F0 m (pc + 3) ls rest)) :
    W p l e R s m args below meth c H locs cells slots Q (F0 m pc ls (As.reverse ++ .ref (q + 1 + M) :: rest)) := by
  obtain ⟨h1, h2, h3, -, h5, -, -⟩ := ini_tab i hi
  subst hLM
  refine cr_ini S hK hM h1 h2 h3 h5 (ini_none hi) hlk hlen hd hat hsz hl hrest hf hS (fun a h => by omega) hdg (fun H1 locs1 hz hP ho hS1 => ?_)
  exact kk H1 locs1 ⟨hB.1.kept (ho _ (by show q < _; omega)), (hB.2.kept (fun a _ h => ho a h)).app hP, by rw [hz, List.length_append]; omega⟩ hS1
theorem cr_get (S : CallFix p m c cc nL s args TB (cN o)) (hK : KX D dA s) {a t' k idx : Nat} {gs : List Value} {v : Value} (hlk : (o, idx, t', k) ∈ FL1 ∨ (o, idx, t', k) ∈ FL2) (ht : t' < 13) (hk : k < nF t') (hat : va_at D vwCl (a, .inr (t', gs)) H) (hv : gs[k]? = some v) (hdg : decode cc pc = .ok (.getfield idx, 3))
    (kk : W p l e R s m args below meth c H locs cells slots Q (F0 m (pc + 3) ls (v :: rest))) : W p l e R s m args below meth c H locs cells slots Q (F0 m pc ls (.ref a :: rest)) := by
  obtain ⟨hx, hb, -, hown, hts⟩ := S
  have hP : va_P D vwCl [(a, .inr (t', gs))] H := fun j x hj => by
    have hz : j < 1 := (List.getElem?_eq_some_iff.mp hj).1
    obtain rfl : j = 0 := by omega
    cases hj
    exact hat
  rcases hlk with hlk | hlk
  · exact va_get (D := D) (ci := t') hx hb hts (cls_w ht) hown hK.1 hP 0 rfl (cls_at ht) k hk (hts _ (tb_fl1 _ hlk)) (fun _ h => h) hv hdg kk
  · exact va_getN (D := D) (ci := t') hx hb hts (cls_w ht) hown hK.1 hP 0 rfl (cls_at ht) k hk (va_Nw.use (w := wFN (o, idx, t', k)) rfl (hK.2.1 _ hlk)) (fun _ h => h) hv hdg kk
theorem cr_iast (S : CallFix p m c cc nL s args TB (cN o)) (hK : KX D dA s) (hB : Bx D dA q t fs L H) (hS : va_S (fun a => q ≤ a) H0 H locs) {j n : Nat} {f : Nat → Int32} (hj : L[j]? = some (100, n, f)) {i x : Int32} (hin : vp_in i n) (hdg : decode cc pc = .ok (.iastore, 1))
    (kk : ∀ (H1 : Heap) (locs1 : List Loc), Bx D dA q t fs (L.set j (100, n, upd f i.toNatClampNeg x)) H1 → va_S (fun a => q ≤ a) H0 H1 locs1 → W p l e R s m args below meth c H1 locs1 cells slots Q (F0 m (pc + 1) ls rest)) :
    W p l e R s m args below meth c H locs cells slots Q (F0 m pc ls (.int x :: .int i :: .ref (q + 1 + j) :: rest)) := by
  obtain ⟨hx, hb, -, -, -⟩ := S
  obtain ⟨b1, b2, b3⟩ := hB
  have hc : H[q + 1 + j]? = some (arrV (dA 0) n (fun j => .int (f j))) := b2 j _ hj
  refine W.iast hx hb hc ((hK.1.2 0 _ rfl).1 n _) (fun h => by cases h) (by rw [arrV_size]; exact hin) rfl rfl hdg fun H1 e z oq => ?_
  refine kk H1 _ ⟨b1.kept (oq _ (by show q ≠ _; omega)), b2.set j _ ?_ oq, by rw [z, b3, List.length_set]⟩ (hS.put z oq (by omega))
  show H1[q + 1 + j]? = some (arrV (dA 0) n (fun k => .int (upd f i.toNatClampNeg x k)))
  rw [e, arrV_store]
  congr 2
  funext k
  unfold updV upd
  split <;> rfl
theorem cr_anew (S : CallFix p m c cc nL s args TB (cN o)) (hK : KX D dA s) {idx N M : Nat} (hq : (o, idx, 4) ∈ NL) {n : Int32} (hn : ¬ n < 0) (hN : n.toNatClampNeg = N) (hb1 : N * 4 ≤ 536870912) (hf : cells + 1 ≤ R.cells ∧ slots + N ≤ R.slots) (hB : Bx D dA q t fs L H) (hM : L.length = M) (hS : va_S (fun a => q ≤ a) H0 H locs) (hdg : decode cc pc = .ok (.anewarray idx, 3))
    (kk : ∀ H1 : Heap, Bx D dA q t fs (L ++ [(106, N, fun _ => 0)]) H1 → va_S (fun a => q ≤ a) H0 H1 locs → W p l e R s m args below meth c H1 locs (cells + 1) (slots + N) Q (F0 m (pc + 3) ls (.ref (q + 1 + M) :: rest))) :
    W p l e R s m args below meth c H locs cells slots Q (F0 m pc ls (.int n :: rest)) := by
  obtain ⟨hx, hb, -, hown, hts⟩ := S
  obtain ⟨b1, b2, b3⟩ := hB
  subst hM
  subst hN
  refine W.anew (C := "PierTooFar$Pier") hx hb hown (hts _ (tb_nl _ hq)) (va_AO.use (C := "PierTooFar$Pier") (hK.2.2.2 0 (by decide))) rfl hdg rfl hn hb1 hf.1 hf.2 fun cA kA comp f1 f2 f3 f4 => ?_
  generalize hH1 : H.push ({ cls := cA, slots := Array.replicate n.toNatClampNeg .null, vm := .none } : Cell) = H1
  have z1 : H1.size = H.size + 1 := by rw [← hH1, Array.size_push]
  have e1 : H1[H.size]? = some (arrV cA n.toNatClampNeg (fun _ => .null)) := by rw [← hH1, Array.getElem?_push_size, ← arrV_new]
  have o1 : ∀ a : Nat, a < H.size → H1[a]? = H[a]? := fun a ha => by rw [← hH1, Array.getElem?_push, if_neg (Nat.ne_of_lt ha)]
  obtain ⟨k4, c4, g1, g2, g3, g4⟩ := (hK.1.2 4 _ rfl).2
  have ecA : cA = dA 4 := Option.some.inj (f1.symm.trans g4)
  subst ecA
  rw [b3] at e1 z1 o1 ⊢
  have hat : va_at D vwCl (q + 1 + L.length, ic dA (q + 1 + L.length) (106, n.toNatClampNeg, fun _ => 0)) H1 := by
    show H1[q + 1 + L.length]? = some (arrV (dA 4) n.toNatClampNeg (fun j => va_rf (if j < 0 then some (q + 1 + L.length + 1 + 5 * j) else none)))
    rw [e1]
    refine congrArg some (arr_ext fun j _ => ?_)
    rw [if_neg (Nat.not_lt_zero j)]
    rfl
  exact kk H1 ⟨b1.kept (o1 _ (by show q < _; omega)), (b2.kept (fun a _ h2 => o1 a h2)).app (Pie.one hat), by rw [z1, List.length_append]; rfl⟩ ⟨Nat.le_trans hS.1 (by omega), fun a h1 h2 => (o1 a (by have := hS.1; omega)).trans (hS.2.1 a h1 h2), hS.2.2⟩
theorem cr_aast (S : CallFix p m c cc nL s args TB (cN o)) (hK : KX D dA s) (hB : Bx D dA q t fs L H) (hS : va_S (fun a => q ≤ a) H0 H locs) {n k v : Nat} {z : Nat → Int32} (hj : L[0]? = some (106 + k, n, z)) {vs : List Value} (hv : va_at D vwCl (v, .inr (4, vs)) H) (hvk : v = q + 1 + 1 + 5 * k) {i : Int32} (hi : i.toNatClampNeg = k) (hin : vp_in i n) (hdg : decode cc pc = .ok (.aastore, 1))
    (kk : ∀ (H1 : Heap) (locs1 : List Loc), Bx D dA q t fs (L.set 0 (106 + (k + 1), n, z)) H1 → va_S (fun a => q ≤ a) H0 H1 locs1 → W p l e R s m args below meth c H1 locs1 cells slots Q (F0 m (pc + 1) ls rest)) :
    W p l e R s m args below meth c H locs cells slots Q (F0 m pc ls (.ref v :: .int i :: .ref (q + 1) :: rest)) := by
  obtain ⟨hx, hb, -, -, -⟩ := S
  obtain ⟨b1, b2, b3⟩ := hB
  have hic : ∀ k, ic dA (q + 1) (106 + k, n, z) = .inl (dA 4, n, .inr (.inr (.inr (.inr (fun i => if i < k then some (q + 1 + 1 + 5 * i) else none))))) := fun k => by
    unfold ic
    dsimp only
    rw [if_neg (by omega), if_neg (by omega), if_neg (by omega), if_neg (by omega), if_pos (by omega), show 106 + k - 106 = k by omega]
  have h0 : va_at D vwCl (q + 1 + 0, ic dA (q + 1 + 0) (106 + k, n, z)) H := b2 0 _ hj
  rw [Nat.add_zero, hic] at h0
  have hc : H[q + 1]? = some (arrV (dA 4) n (fun j => va_rf (if j < k then some (q + 1 + 1 + 5 * j) else none))) := h0
  have hlt : i.toNatClampNeg < n := Nat.not_le.mp fun w => hin (Or.inr w)
  have hge : ¬ i < 0 := fun w => hin (Or.inl w)
  obtain ⟨r', hr', cellV, g1, g2, g3, -⟩ := hv
  have hcls := (hK.1.1 4 _ (cls_at (by decide))).2
  obtain ⟨kA, comp, k1, k2, k3, -⟩ := (hK.1.2 4 _ rfl).2
  have hcomp : comp = D.1 4 := Option.some.inj (k3.symm.trans hcls.1)
  subst hcomp
  obtain ⟨kC, hkC, -⟩ := hcls.2
  refine W.aast hx hb hc (fun w h => by cases h) (fun h => by cases h) k1 k2 rfl hkC ⟨hge, by rw [arrV_size]; exact hlt⟩ g1 (fun w h => by rw [g3] at h; cases h) (by rw [g2]; exact hkC) (by rw [g2]; exact va_assign hcls) rfl rfl hdg fun H1 e z1 oq => ?_
  refine kk H1 _ ⟨b1.kept (oq _ (by show q ≠ _; omega)), b2.set 0 _ ?_ oq, by rw [z1, b3, List.length_set]⟩ (hS.put z1 oq (by omega))
  rw [Nat.add_zero, hic]
  show H1[q + 1]? = some (arrV (dA 4) n (fun j => va_rf (if j < k + 1 then some (q + 1 + 1 + 5 * j) else none)))
  rw [e, arrV_store, hi]
  congr 2
  funext j
  unfold updV
  by_cases hjk : j = k
  · subst hjk
    rw [if_pos rfl, if_pos (by omega), hvk]
    rfl
  · rw [if_neg hjk]
    dsimp only
    by_cases hlk : j < k
    · rw [if_pos hlk, if_pos (by omega)]
    · rw [if_neg hlk, if_neg (by omega)]
theorem cr_mana (S : CallFix p m c cc nL s args TB (cN 9)) (hK : KX D dA s) {M : Nat} (hf : cells + (1 + 12) ≤ R.cells ∧ slots + (12 + 12 * 201) ≤ R.slots) (hB : Bx D dA q t fs L H) (hM : L.length = M) (hS : va_S (fun a => q ≤ a) H0 H locs) (hdg : decode cc pc = .ok (.multianewarray 11 2, 4))
    (kk : ∀ (H1 : Heap) (locs1 : List Loc), Bx D dA q t fs (L ++ ((105, 12, fun _ => 0) :: List.replicate 12 (103, 201, fun _ => 0))) H1 → va_S (fun a => q ≤ a) H0 H1 locs1 → W p l e R s m args below meth c H1 locs1 (cells + (1 + 12)) (slots + (12 + 12 * 201)) Q (F0 m (pc + 4) ls (.ref (q + 1 + M) :: rest))) :
    W p l e R s m args below meth c H locs cells slots Q (F0 m pc ls (.int 201 :: .int 12 :: rest)) := by
  obtain ⟨hx, hb, -, hown, hts⟩ := S
  obtain ⟨b1, b2, b3⟩ := hB
  subst hM
  refine mn_W (own := cN 9) (index := 11) hx hb hown (hts _ tb_way) (show (Cond.arrayOver (.array .long)).before #[] s = true from hK.2.2.2 1 (by decide)) (hts _ (tb_na 3 (by decide))) hdg (N := 12) (M := 201) (by decide) (by decide) (by decide) (by decide) (by decide) (by decide) hf.1 hf.2 (fun H1 locs1 cA cI hA hI z a b o1 hlo => ?_)
  have e5 : cA = dA 5 := Option.some.inj (hA.symm.trans (hK.1.2 5 _ rfl).2)
  have e3 : cI = dA 3 := Option.some.inj (hI.symm.trans (hK.1.2 3 _ rfl).2)
  subst e5; subst e3
  rw [b3] at z a b o1 hlo ⊢
  have h5 : va_at D vwCl (q + 1 + L.length, ic dA (q + 1 + L.length) (105, 12, fun _ => 0)) H1 := by
    show H1[q + 1 + L.length]? = some (arrV (dA 5) 12 (fun j => va_rf (some (q + 1 + L.length + 1 + j))))
    rw [a]
    refine congrArg some (arr_ext fun j hj => ?_)
    rw [if_pos hj]
    rfl
  have h3 : Pie D dA (q + 1 + L.length + 1) (List.replicate 12 (103, 201, fun _ => 0)) H1 := fun j x hj => by
    rw [List.getElem?_replicate] at hj
    split at hj
    · rename_i hlt
      cases hj
      exact b j hlt
    · cases hj
  exact kk H1 _ ⟨b1.kept (o1 _ (by show q < _; omega)), (b2.kept (fun a _ h2 => o1 a h2)).app (Pie.cons h5 h3), by rw [z, List.length_append, List.length_cons, List.length_replicate]; omega⟩ ⟨Nat.le_trans hS.1 (by omega), fun a h1 h2 => (o1 a (by have := hS.1; omega)).trans (hS.2.1 a h1 h2), fun w hw => by
    rcases List.mem_append.mp hw with h | h
    · exact hS.2.2 w h
    · show q ≤ w.base
      rw [hlo w h]
      omega⟩
end MORE
