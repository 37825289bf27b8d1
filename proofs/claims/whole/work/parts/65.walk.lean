/-! a case of the law: ints pushed, class asked, model asked, answers compared -/
def asF (xs : Nat → Int32) (j : Nat) : Nat → List Int32
  | 0 => []
  | n + 1 => xs j :: asF xs (j + 1) n
theorem asF_len (xs : Nat → Int32) : ∀ (n j : Nat), (asF xs j n).length = n
  | 0, _ => rfl
  | n + 1, j => by show (asF xs (j + 1) n).length + 1 = n + 1; rw [asF_len xs n]
def okPush (pc j : Nat) : Bool := decide (decode code pc = .ok (.aload_n 0, 1)) && (decide (decode code (pc + 1) = .ok (.iload_n 3, 1)) && (decide (decode code (pc + 2) = .ok (.iconst j, 1)) && (decide (decode code (pc + 3) = .ok (.iadd, 1)) && decide (decode code (pc + 4) = .ok (.iaload, 1)))))
def okPushes (pc j : Nat) : Nat → Bool
  | 0 => true
  | n + 1 => okPush pc j && okPushes (pc + 5) (j + 1) n
section LAWWALK
variable {p : Program} {l : Launch} {e : Env} {s : State} {m : MethodId} {args : Array Value} {below : List Frame} {meth : Method} {c : Code} {cells slots : Nat} {Q : State → Prop} {H : Heap} {locs : List Loc} {lsR : Array Slot} {A : Nat → Prop} {b L q1 q2 i : Nat} {xs : Nat → Int32}
def LVs (b q1 q2 i : Nat) : List (Nat × Value) := [(0, .ref b), (1, .ref q1), (2, .ref q2), (3, .int (nI i))]
theorem push {rest : List Value} {pc j : Nat} (C0 : LawC p s m args c) (hX : va_X b L xs s s.heap) (hbl : b < s.heap.size) (hbA : ¬ A b) (hS : va_S A s.heap H locs) (hl : lv_has lsR 4 (LVs b q1 q2 i)) (hL : L ≤ 3072) (hj : i + j < L) (hd : okPush pc j = true) (kk : W p l e room_1 s m args below meth c H locs cells slots Q (F0 m (pc + 5) lsR (.int (xs (i + j)) :: rest))) : W p l e room_1 s m args below meth c H locs cells slots Q (F0 m pc lsR rest) := by
  obtain ⟨hx, hb, hml, hown, hts⟩ := C0
  unfold okPush at hd
  simp only [Bool.and_eq_true, decide_eq_true_eq] at hd
  obtain ⟨d0, d1, d2, d3, d4⟩ := hd
  refine lv_aload_n hx hb d0 rfl (lv_at hl 0 rfl) ?_
  refine lv_iload_n hx hb d1 rfl (lv_at hl 3 rfl) ?_
  refine lv_iconst (v := nI j) hx hb d2 (by rw [Int32.ofInt_eq_ofNat]; rfl) ?_
  refine lv_iadd hx hb d3 ?_
  have e : nI i + nI j = nI (i + j) := by
    show Int32.ofNat i + Int32.ofNat j = Int32.ofNat (i + j)
    rw [Int32.ofNat_add]
  rw [e]
  refine va_sld hx hb hX hbl hbA hS (vp_in_nI hj (by omega)) d4 ?_
  rw [nI_clamp (by omega)]
  exact kk
end LAWWALK
