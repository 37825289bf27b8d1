/-! a case of the law: ints pushed, class asked, model asked, answers compared -/
def asF (xs : Nat → Int32) (j : Nat) : Nat → List Int32
  | 0 => []
  | n + 1 => xs j :: asF xs (j + 1) n
theorem asF_len (xs : Nat → Int32) : ∀ (n j : Nat), (asF xs j n).length = n
  | 0, _ => rfl
  | n + 1, j => by show (asF xs (j + 1) n).length + 1 = n + 1; rw [asF_len xs n]
def okPush (pc j : Nat) : Bool := decide (decode code pc = .ok (.aload_n 0, 1)) && (decide (decode code (pc + 1) = .ok (.iload_n 3, 1)) && (decide (decode code (pc + 2) = .ok (.iconst j, 1)) && (decide (decode code (pc + 3) = .ok (.iadd, 1)) && decide (decode code (pc + 4) = .ok (.iaload, 1)))))
def okPushes (pc j : Nat) : Nat → Bool
  | 0 => true
  | n + 1 => okPush pc j && okPushes (pc + 5) (j + 1) n
section LAWWALK
variable {p : Program} {l : Launch} {e : Env} {s : State} {m : MethodId} {args : Array Value} {below : List Frame} {meth : Method} {c : Code} {cells slots : Nat} {Q : State → Prop} {H : Heap} {locs : List Loc} {lsR : Array Slot} {A : Nat → Prop} {b L q1 q2 i : Nat} {xs : Nat → Int32}
def LVs (b q1 q2 i : Nat) : List (Nat × Value) := [(0, .ref b), (1, .ref q1), (2, .ref q2), (3, .int (nI i))]
theorem push {rest : List Value} {pc j : Nat} (C0 : LawC p s m args c) (hX : va_X b L xs s s.heap) (hbl : b < s.heap.size) (hbA : ¬ A b) (hS : va_S A s.heap H locs) (hl : lv_has lsR 4 (LVs b q1 q2 i)) (hL : L ≤ 3072) (hj : i + j < L) (hd : okPush pc j = true) (kk : W p l e room_1 s m args below meth c H locs cells slots Q (F0 m (pc + 5) lsR (.int (xs (i + j)) :: rest))) : W p l e room_1 s m args below meth c H locs cells slots Q (F0 m pc lsR rest) := by
  obtain ⟨hx, hb, hml, hown, hts⟩ := C0
  unfold okPush at hd
  simp only [Bool.and_eq_true, decide_eq_true_eq] at hd
  obtain ⟨d0, d1, d2, d3, d4⟩ := hd
  refine lv_aload_n hx hb d0 rfl (lv_at hl 0 rfl) ?_
  refine lv_iload_n hx hb d1 rfl (lv_at hl 3 rfl) ?_
  refine lv_iconst (v := nI j) hx hb d2 (by rw [Int32.ofInt_eq_ofNat]; rfl) ?_
  refine lv_iadd hx hb d3 ?_
  have e : nI i + nI j = nI (i + j) := by
    show Int32.ofNat i + Int32.ofNat j = Int32.ofNat (i + j)
    rw [Int32.ofNat_add]
  rw [e]
  refine va_sld hx hb hX hbl hbA hS (vp_in_nI hj (by omega)) d4 ?_
  rw [nI_clamp (by omega)]
  exact kk
theorem pushes (C0 : LawC p s m args c) (hX : va_X b L xs s s.heap) (hbl : b < s.heap.size) (hbA : ¬ A b) (hS : va_S A s.heap H locs) (hl : lv_has lsR 4 (LVs b q1 q2 i)) (hL : L ≤ 3072) : ∀ (n pc j : Nat) (rest : List Value), i + j + n ≤ L → okPushes pc j n = true → W p l e room_1 s m args below meth c H locs cells slots Q (F0 m (pc + 5 * n) lsR (((asF xs (i + j) n).map Value.int).reverse ++ rest)) → W p l e room_1 s m args below meth c H locs cells slots Q (F0 m pc lsR rest) := by
  intro n
  induction n with
  | zero =>
    intro pc j rest _ _ kk
    have e : ((asF xs (i + j) 0).map Value.int).reverse ++ rest = rest := rfl
    rw [e, Nat.mul_zero, Nat.add_zero] at kk
    exact kk
  | succ n ih =>
    intro pc j rest h hd kk
    have hd' : (okPush pc j && okPushes (pc + 5) (j + 1) n) = true := hd
    rw [Bool.and_eq_true] at hd'
    refine push C0 hX hbl hbA hS hl hL (by omega) hd'.1 (ih (pc + 5) (j + 1) _ (by omega) hd'.2 ?_)
    rw [show pc + 5 + 5 * n = pc + 5 * (n + 1) by omega]
    have e : ((asF xs (i + j) (n + 1)).map Value.int).reverse ++ rest = ((asF xs (i + (j + 1)) n).map Value.int).reverse ++ .int (xs (i + j)) :: rest := by
      show ((xs (i + j) :: asF xs (i + j + 1) n).map Value.int).reverse ++ rest = _
      rw [List.map_cons, List.reverse_cons, List.append_assoc]
      rfl
    rw [← e]
    exact kk
/-- one question: pushed, asked, answered -/
def okAsk (pc k n idx a : Nat) : Bool := decide (decode code pc = .ok (.aload_n (if k = 1 then 1 else 2), 1)) && (okPushes (pc + 1) 1 n && (decide (decode code (pc + 1 + 5 * n) = .ok (.invokevirtual idx, 3)) && (decide (n = mN a) && (AM.contains a && (VM.contains a && (EM.contains a && (IM.contains a && ML1.contains (13, idx, a))))))))
theorem ask {X Y : CXT} (C0 : LawC p s m args c) (gX : XG X) (hX : va_X b L xs s s.heap) (hbl : b < s.heap.size) (hbA : ¬ A b) (hS : va_S A s.heap H locs) (hl : lv_has lsR 4 (LVs b q1 q2 i)) (hL : L ≤ 3072) {pc k n idx a d t : Nat} {σ τ : Mem} {r : AV × Mem} {rest : List Value} (hk : k = 1 ∧ q1 = xad X 0 ∨ k = 2 ∧ q2 = xad X 0) (hok : okAsk pc k n idx a = true) (hi : i + 1 + n ≤ L)
    (hsp : Sp X d a (.inr (.inr (t, 0)) :: (asF xs (i + 1) n).map .inl) σ r) (ht : t < 13) (hk0 : 0 < xN X) (htg : xtg X 0 = t) (hcl : (cT t).1 = mC a) (hd : d ≤ 60)
    (hK : va_K (xD X) vwCl (xtys X) s) (hXF : xXF X s) (hP : va_P (xD X) vwCl (wl X σ) H) (hPY : va_P (xD Y) vwCl (wl Y τ) H) (hdis : ∀ q, xA X q → ¬ xA Y q) (hAX : ∀ q, xA X q → A q) (hA0 : ∀ q, q < s.heap.size → ¬ A q) (hrest : (rest.map fun v => v.category).sum ≤ 8) (hf : cells ≤ room_1.cells ∧ slots ≤ room_1.slots)
    (kk : ∀ (H1 : Heap) (locs1 : List Loc), va_P (xD X) vwCl (wl X r.2) H1 → va_P (xD Y) vwCl (wl Y τ) H1 → va_S A s.heap H1 locs1 → W p l e room_1 s m args below meth c H1 locs1 cells slots Q (F0 m (pc + 1 + 5 * n + 3) lsR (((mR a).map (fun _ => cv X r.1)).toList ++ rest))) :
    W p l e room_1 s m args below meth c H locs cells slots Q (F0 m pc lsR rest) := by
  unfold okAsk at hok
  simp only [Bool.and_eq_true, decide_eq_true_eq] at hok
  obtain ⟨d0, d1, d2, d3, d4, d5, d6, d7, d8⟩ := hok
  have fin : W p l e room_1 s m args below meth c H locs cells slots Q (F0 m (pc + 1) lsR (.ref (xad X 0) :: rest)) := by
    refine pushes C0 hX hbl hbA hS hl hL n (pc + 1) 1 _ (by omega) d1 ?_
    have hmap : (((asF xs (i + 1) n).map .inl : List AV).map (cv X)) = (asF xs (i + 1) n).map Value.int := by
      rw [List.map_map]
      exact List.map_congr_left (fun a _ => rfl)
    rw [← hmap]
    exact lawcall C0 gX hsp (List.contains_iff_mem.mp d4) (List.contains_iff_mem.mp d5) (List.contains_iff_mem.mp d6) (List.contains_iff_mem.mp d7) (List.contains_iff_mem.mp d8) ht hk0 htg hcl (by rw [List.length_map, asF_len]; exact d3) hd hK hXF hP hPY hdis hAX hS hA0 d2 hl hrest hf kk
  obtain ⟨hx, hb, -⟩ := C0
  rcases hk with ⟨rfl, rfl⟩ | ⟨rfl, rfl⟩
  · exact lv_aload_n (i := 1) hx hb d0 rfl (lv_at hl 1 rfl) fin
  · exact lv_aload_n (i := 2) hx hb d0 rfl (lv_at hl 2 rfl) fin
end LAWWALK
