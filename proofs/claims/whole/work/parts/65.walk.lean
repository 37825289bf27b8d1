/-! a case of the law: ints pushed, class asked, model asked, answers compared -/
def asF (xs : Nat → Int32) (j : Nat) : Nat → List Int32
  | 0 => []
  | n + 1 => xs j :: asF xs (j + 1) n
theorem asF_len (xs : Nat → Int32) : ∀ (n j : Nat), (asF xs j n).length = n
  | 0, _ => rfl
  | n + 1, j => by show (asF xs (j + 1) n).length + 1 = n + 1; rw [asF_len xs n]
def okPush (pc j : Nat) : Bool := decide (decode code pc = .ok (.aload_n 0, 1)) && (decide (decode code (pc + 1) = .ok (.iload_n 3, 1)) && (decide (decode code (pc + 2) = .ok (.iconst j, 1)) && (decide (decode code (pc + 3) = .ok (.iadd, 1)) && decide (decode code (pc + 4) = .ok (.iaload, 1)))))
def okPushes (pc j : Nat) : Nat → Bool
  | 0 => true
  | n + 1 => okPush pc j && okPushes (pc + 5) (j + 1) n
section LAWWALK
variable {p : Program} {l : Launch} {e : Env} {s : State} {m : MethodId} {args : Array Value} {below : List Frame} {meth : Method} {c : Code} {cells slots : Nat} {Q : State → Prop} {H : Heap} {locs : List Loc} {lsR : Array Slot} {A : Nat → Prop} {b L q1 q2 i : Nat} {xs : Nat → Int32}
def LVs (b q1 q2 i : Nat) : List (Nat × Value) := [(0, .ref b), (1, .ref q1), (2, .ref q2), (3, .int (nI i))]
theorem push {rest : List Value} {pc j : Nat} (C0 : LawC p s m args c) (hX : va_X b L xs s s.heap) (hbl : b < s.heap.size) (hbA : ¬ A b) (hS : va_S A s.heap H locs) (hl : lv_has lsR 4 (LVs b q1 q2 i)) (hL : L ≤ 3072) (hj : i + j < L) (hd : okPush pc j = true) (kk : W p l e room_1 s m args below meth c H locs cells slots Q (F0 m (pc + 5) lsR (.int (xs (i + j)) :: rest))) : W p l e room_1 s m args below meth c H locs cells slots Q (F0 m pc lsR rest) := by
  obtain ⟨hx, hb, hml, hown, hts⟩ := C0
  unfold okPush at hd
  simp only [Bool.and_eq_true, decide_eq_true_eq] at hd
  obtain ⟨d0, d1, d2, d3, d4⟩ := hd
  refine lv_aload_n hx hb d0 rfl (lv_at hl 0 rfl) ?_
  refine lv_iload_n hx hb d1 rfl (lv_at hl 3 rfl) ?_
  refine lv_iconst (v := nI j) hx hb d2 (by rw [Int32.ofInt_eq_ofNat]; rfl) ?_
  refine lv_iadd hx hb d3 ?_
  have e : nI i + nI j = nI (i + j) := by
    show Int32.ofNat i + Int32.ofNat j = Int32.ofNat (i + j)
    rw [Int32.ofNat_add]
  rw [e]
  refine va_sld hx hb hX hbl hbA hS (vp_in_nI hj (by omega)) d4 ?_
  rw [nI_clamp (by omega)]
  exact kk
theorem pushes (C0 : LawC p s m args c) (hX : va_X b L xs s s.heap) (hbl : b < s.heap.size) (hbA : ¬ A b) (hS : va_S A s.heap H locs) (hl : lv_has lsR 4 (LVs b q1 q2 i)) (hL : L ≤ 3072) : ∀ (n pc j : Nat) (rest : List Value), i + j + n ≤ L → okPushes pc j n = true → W p l e room_1 s m args below meth c H locs cells slots Q (F0 m (pc + 5 * n) lsR (((asF xs (i + j) n).map Value.int).reverse ++ rest)) → W p l e room_1 s m args below meth c H locs cells slots Q (F0 m pc lsR rest) := by
  intro n
  induction n with
  | zero =>
    intro pc j rest _ _ kk
    have e : ((asF xs (i + j) 0).map Value.int).reverse ++ rest = rest := rfl
    rw [e, Nat.mul_zero, Nat.add_zero] at kk
    exact kk
  | succ n ih =>
    intro pc j rest h hd kk
    have hd' : (okPush pc j && okPushes (pc + 5) (j + 1) n) = true := hd
    rw [Bool.and_eq_true] at hd'
    refine push C0 hX hbl hbA hS hl hL (by omega) hd'.1 (ih (pc + 5) (j + 1) _ (by omega) hd'.2 ?_)
    rw [show pc + 5 + 5 * n = pc + 5 * (n + 1) by omega]
    have e : ((asF xs (i + j) (n + 1)).map Value.int).reverse ++ rest = ((asF xs (i + (j + 1)) n).map Value.int).reverse ++ .int (xs (i + j)) :: rest := by
      show ((xs (i + j) :: asF xs (i + j + 1) n).map Value.int).reverse ++ rest = _
      rw [List.map_cons, List.reverse_cons, List.append_assoc]
      rfl
    rw [← e]
    exact kk
/-- one question: pushed, asked, answered -/
def okAsk (pc k n idx a : Nat) : Bool := decide (decode code pc = .ok (.aload_n (if k = 1 then 1 else 2), 1)) && (okPushes (pc + 1) 1 n && (decide (decode code (pc + 1 + 5 * n) = .ok (.invokevirtual idx, 3)) && (decide (n = mN a) && (AM.contains a && (VM.contains a && (EM.contains a && (IM.contains a && ML1.contains (13, idx, a))))))))
theorem ask {X Y : CXT} (C0 : LawC p s m args c) (gX : XG X) (hX : va_X b L xs s s.heap) (hbl : b < s.heap.size) (hbA : ¬ A b) (hS : va_S A s.heap H locs) (hl : lv_has lsR 4 (LVs b q1 q2 i)) (hL : L ≤ 3072) {pc k n idx a d t : Nat} {σ τ : Mem} {r : AV × Mem} {rest : List Value} (hk : k = 1 ∧ q1 = xad X 0 ∨ k = 2 ∧ q2 = xad X 0) (hok : okAsk pc k n idx a = true) (hi : i + 1 + n ≤ L)
    (hsp : Sp X d a (.inr (.inr (t, 0)) :: (asF xs (i + 1) n).map .inl) σ r) (ht : t < 13) (hk0 : 0 < xN X) (htg : xtg X 0 = t) (hcl : (cT t).1 = mC a) (hd : d ≤ 60)
    (hK : va_K (xD X) vwCl (xtys X) s) (hXF : xXF X s) (hP : va_P (xD X) vwCl (wl X σ) H) (hPY : va_P (xD Y) vwCl (wl Y τ) H) (hdis : ∀ q, xA X q → ¬ xA Y q) (hAX : ∀ q, xA X q → A q) (hA0 : ∀ q, q < s.heap.size → ¬ A q) (hrest : (rest.map fun v => v.category).sum ≤ 8) (hf : cells ≤ room_1.cells ∧ slots ≤ room_1.slots)
    (kk : ∀ (H1 : Heap) (locs1 : List Loc), va_P (xD X) vwCl (wl X r.2) H1 → va_P (xD Y) vwCl (wl Y τ) H1 → va_S A s.heap H1 locs1 → W p l e room_1 s m args below meth c H1 locs1 cells slots Q (F0 m (pc + 1 + 5 * n + 3) lsR (((mR a).map (fun _ => cv X r.1)).toList ++ rest))) :
    W p l e room_1 s m args below meth c H locs cells slots Q (F0 m pc lsR rest) := by
  unfold okAsk at hok
  simp only [Bool.and_eq_true, decide_eq_true_eq] at hok
  obtain ⟨d0, d1, d2, d3, d4, d5, d6, d7, d8⟩ := hok
  have fin : W p l e room_1 s m args below meth c H locs cells slots Q (F0 m (pc + 1) lsR (.ref (xad X 0) :: rest)) := by
    refine pushes C0 hX hbl hbA hS hl hL n (pc + 1) 1 _ (by omega) d1 ?_
    have hmap : (((asF xs (i + 1) n).map .inl : List AV).map (cv X)) = (asF xs (i + 1) n).map Value.int := by
      rw [List.map_map]
      exact List.map_congr_left (fun a _ => rfl)
    rw [← hmap]
    exact lawcall C0 gX hsp (List.contains_iff_mem.mp d4) (List.contains_iff_mem.mp d5) (List.contains_iff_mem.mp d6) (List.contains_iff_mem.mp d7) (List.contains_iff_mem.mp d8) ht hk0 htg hcl (by rw [List.length_map, asF_len]; exact d3) hd hK hXF hP hPY hdis hAX hS hA0 d2 hl hrest hf kk
  obtain ⟨hx, hb, -⟩ := C0
  rcases hk with ⟨rfl, rfl⟩ | ⟨rfl, rfl⟩
  · exact lv_aload_n (i := 1) hx hb d0 rfl (lv_at hl 1 rfl) fin
  · exact lv_aload_n (i := 2) hx hb d0 rfl (lv_at hl 2 rfl) fin
end LAWWALK
/-! each method that the law asks: the class's contract and the model's, one answer -/
def Both (X Y : CXT) (d a d' a' : Nat) (as : List Int32) (σ τ : Mem) : Prop := ∃ (w : Int32) (σ' τ' : Mem), Sp X d a (.inr (.inr (11, 0)) :: as.map .inl) σ (.inl w, σ') ∧ Sp Y d' a' (.inr (.inr (12, 0)) :: as.map .inl) τ (.inl w, τ') ∧ RC σ' τ'
theorem tr_as {X : CXT} {t : Nat} (ht : t < 150) (hk : 0 < xN X) (htg : xtg X 0 = t) (as : List Int32) : ∀ v ∈ ((.inr (.inr (t, 0)) :: as.map .inl : List AV)), TR X v := by
  intro v hv
  rcases List.mem_cons.mp hv with rfl | hv
  · exact Or.inr (Or.inr (Or.inr ⟨ht, hk, htg⟩))
  · obtain ⟨x, _, rfl⟩ := List.mem_map.mp hv
    exact trivial
theorem both_state {X Y : CXT} (gX : XC X) (gY : XM Y) (hx : 0 < xN X) (tX : xtg X 0 = 11) (hy : 0 < xN Y) (tY : xtg Y 0 = 12) {σ τ : Mem} (R : RC σ τ) (v1 : Int32) : Both X Y 2 14 2 227 [v1] σ τ := by
  obtain ⟨⟨w, σ'⟩, ⟨w', τ'⟩, e1, e2, h1, h2⟩ := pr_state R v1
  dsimp only at h1 h2
  subst h1
  exact ⟨w, σ', τ', call_of (ok_P_state gX) (by show (f_P_state 0 v1 σ).bind _ = _; rw [e1]; rfl) (tr_as (by omega) hx tX [v1]), call_of (ok_M_state gY) (by show (f_M_state 0 v1 τ).bind _ = _; rw [e2]; rfl) (tr_as (by omega) hy tY [v1]), h2⟩
theorem both_walker {X Y : CXT} (gX : XC X) (gY : XM Y) (hx : 0 < xN X) (tX : xtg X 0 = 11) (hy : 0 < xN Y) (tY : xtg Y 0 = 12) {σ τ : Mem} (R : RC σ τ) (v1 v2 v3 : Int32) : Both X Y 3 16 2 229 [v1, v2, v3] σ τ := by
  obtain ⟨⟨w, σ'⟩, ⟨w', τ'⟩, e1, e2, h1, h2⟩ := pr_walker R v1 v2 v3
  dsimp only at h1 h2
  subst h1
  exact ⟨w, σ', τ', call_of (ok_P_walker gX) (by show (f_P_walker 0 v1 v2 v3 σ).bind _ = _; rw [e1]; rfl) (tr_as (by omega) hx tX [v1, v2, v3]), call_of (ok_M_walker gY) (by show (f_M_walker 0 v1 v2 v3 τ).bind _ = _; rw [e2]; rfl) (tr_as (by omega) hy tY [v1, v2, v3]), h2⟩
theorem both_set {X Y : CXT} (gX : XC X) (gY : XM Y) (hx : 0 < xN X) (tX : xtg X 0 = 11) (hy : 0 < xN Y) (tY : xtg Y 0 = 12) {σ τ : Mem} (R : RC σ τ) (v1 v2 v3 : Int32) : Both X Y 4 19 4 231 [v1, v2, v3] σ τ := by
  obtain ⟨⟨w, σ'⟩, ⟨w', τ'⟩, e1, e2, h1, h2⟩ := pr_set R v1 v2 v3
  dsimp only at h1 h2
  subst h1
  exact ⟨b2i w, σ', τ', call_of (ok_P_set gX) (by show (f_P_set 0 v1 v2 v3 σ).bind _ = _; rw [e1]; rfl) (tr_as (by omega) hx tX [v1, v2, v3]), call_of (ok_M_set gY) (by show (f_M_set 0 v1 v2 v3 τ).bind _ = _; rw [e2]; rfl) (tr_as (by omega) hy tY [v1, v2, v3]), h2⟩
theorem both_owns {X Y : CXT} (gX : XC X) (gY : XM Y) (hx : 0 < xN X) (tX : xtg X 0 = 11) (hy : 0 < xN Y) (tY : xtg Y 0 = 12) {σ τ : Mem} (R : RC σ τ) (v1 v2 : Int32) : Both X Y 6 27 7 273 [v1, v2] σ τ := by
  obtain ⟨⟨w, σ'⟩, ⟨w', τ'⟩, e1, e2, h1, h2⟩ := pr_owns R v1 v2
  dsimp only at h1 h2
  subst h1
  exact ⟨w, σ', τ', call_of (ok_P_owns gX) (by show (f_P_owns 0 v1 v2 σ).bind _ = _; rw [e1]; rfl) (tr_as (by omega) hx tX [v1, v2]), call_of (ok_M_owns gY) (by show (f_M_owns 0 v1 v2 τ).bind _ = _; rw [e2]; rfl) (tr_as (by omega) hy tY [v1, v2]), h2⟩
theorem both_act {X Y : CXT} (gX : XC X) (gY : XM Y) (hx : 0 < xN X) (tX : xtg X 0 = 11) (hy : 0 < xN Y) (tY : xtg Y 0 = 12) {σ τ : Mem} (R : RC σ τ) (v1 v2 : Int32) : Both X Y 6 41 4 285 [v1, v2] σ τ := by
  obtain ⟨⟨w, σ'⟩, ⟨w', τ'⟩, e1, e2, h1, h2⟩ := pr_act R v1 v2
  dsimp only at h1 h2
  subst h1
  exact ⟨b2i w, σ', τ', call_of (ok_P_act gX) (by show (f_P_act 0 v1 v2 σ).bind _ = _; rw [e1]; rfl) (tr_as (by omega) hx tX [v1, v2]), call_of (ok_M_act gY) (by show (f_M_act 0 v1 v2 τ).bind _ = _; rw [e2]; rfl) (tr_as (by omega) hy tY [v1, v2]), h2⟩
theorem both_years {X Y : CXT} (gX : XC X) (gY : XM Y) (hx : 0 < xN X) (tX : xtg X 0 = 11) (hy : 0 < xN Y) (tY : xtg Y 0 = 12) {σ τ : Mem} (R : RC σ τ) (v1 : Int32) : Both X Y 7 52 8 290 [v1] σ τ := by
  obtain ⟨⟨w, σ'⟩, ⟨w', τ'⟩, e1, e2, h1, h2⟩ := pr_years R v1
  dsimp only at h1 h2
  subst h1
  exact ⟨w, σ', τ', call_of (ok_P_years gX) (by show (f_P_years 0 v1 σ).bind _ = _; rw [e1]; rfl) (tr_as (by omega) hx tX [v1]), call_of (ok_M_years gY) (by show (f_M_years 0 v1 τ).bind _ = _; rw [e2]; rfl) (tr_as (by omega) hy tY [v1]), h2⟩
theorem both_days {X Y : CXT} (gX : XC X) (gY : XM Y) (hx : 0 < xN X) (tX : xtg X 0 = 11) (hy : 0 < xN Y) (tY : xtg Y 0 = 12) {σ τ : Mem} (R : RC σ τ) (v1 : Int32) : Both X Y 7 60 8 297 [v1] σ τ := by
  obtain ⟨⟨w, σ'⟩, ⟨w', τ'⟩, e1, e2, h1, h2⟩ := pr_days R v1
  dsimp only at h1 h2
  subst h1
  exact ⟨w, σ', τ', call_of (ok_P_days gX) (by show (f_P_days 0 v1 σ).bind _ = _; rw [e1]; rfl) (tr_as (by omega) hx tX [v1]), call_of (ok_M_days gY) (by show (f_M_days 0 v1 τ).bind _ = _; rw [e2]; rfl) (tr_as (by omega) hy tY [v1]), h2⟩
theorem both_feed {X Y : CXT} (gX : XC X) (gY : XM Y) (hx : 0 < xN X) (tX : xtg X 0 = 11) (hy : 0 < xN Y) (tY : xtg Y 0 = 12) {σ τ : Mem} (R : RC σ τ) (v1 v2 v3 v4 v5 : Int32) : Both X Y 3 68 1 237 [v1, v2, v3, v4, v5] σ τ := by
  obtain ⟨⟨w, σ'⟩, ⟨w', τ'⟩, e1, e2, h1, h2⟩ := pr_feed R v1 v2 v3 v4 v5
  dsimp only at h1 h2
  subst h1
  exact ⟨w, σ', τ', call_of (ok_P_feed gX) (by show (f_P_feed 0 v1 v2 v3 v4 v5 σ).bind _ = _; rw [e1]; rfl) (tr_as (by omega) hx tX [v1, v2, v3, v4, v5]), call_of (ok_M_feed gY) (by show (f_M_feed 0 v1 v2 v3 v4 v5 τ).bind _ = _; rw [e2]; rfl) (tr_as (by omega) hy tY [v1, v2, v3, v4, v5]), h2⟩
theorem both_end {X Y : CXT} (gX : XC X) (gY : XM Y) (hx : 0 < xN X) (tX : xtg X 0 = 11) (hy : 0 < xN Y) (tY : xtg Y 0 = 12) {σ τ : Mem} (R : RC σ τ) (v1 : Int32) : Both X Y 3 71 2 238 [v1] σ τ := by
  obtain ⟨⟨w, σ'⟩, ⟨w', τ'⟩, e1, e2, h1, h2⟩ := pr_end R v1
  dsimp only at h1 h2
  subst h1
  exact ⟨b2i w, σ', τ', call_of (ok_P_end gX) (by show (f_P_end 0 v1 σ).bind _ = _; rw [e1]; rfl) (tr_as (by omega) hx tX [v1]), call_of (ok_M_end gY) (by show (f_M_end 0 v1 τ).bind _ = _; rw [e2]; rfl) (tr_as (by omega) hy tY [v1]), h2⟩
theorem both_text {X Y : CXT} (gX : XC X) (gY : XM Y) (hx : 0 < xN X) (tX : xtg X 0 = 11) (hy : 0 < xN Y) (tY : xtg Y 0 = 12) {σ τ : Mem} (R : RC σ τ) (v1 : Int32) : Both X Y 31 73 56 239 [v1] σ τ := by
  obtain ⟨⟨w, σ'⟩, ⟨w', τ'⟩, e1, e2, h1, h2⟩ := pr_text R v1
  dsimp only at h1 h2
  subst h1
  exact ⟨w, σ', τ', call_of (ok_P_text gX) (by show (f_P_text 0 v1 σ).bind _ = _; rw [e1]; rfl) (tr_as (by omega) hx tX [v1]), call_of (ok_M_text gY) (by show (f_M_text 0 v1 τ).bind _ = _; rw [e2]; rfl) (tr_as (by omega) hy tY [v1]), h2⟩
theorem both_fault {X Y : CXT} (gX : XC X) (gY : XM Y) (hx : 0 < xN X) (tX : xtg X 0 = 11) (hy : 0 < xN Y) (tY : xtg Y 0 = 12) {σ τ : Mem} (R : RC σ τ) (v1 : Int32) : Both X Y 1 142 1 271 [v1] σ τ := by
  obtain ⟨⟨w, σ'⟩, ⟨w', τ'⟩, e1, e2, h1, h2⟩ := pr_fault R v1
  dsimp only at h1 h2
  subst h1
  exact ⟨w, σ', τ', call_of (ok_P_fault gX) (by show (f_P_fault 0 v1 σ).bind _ = _; rw [e1]; rfl) (tr_as (by omega) hx tX [v1]), call_of (ok_M_fault gY) (by show (f_M_fault 0 v1 τ).bind _ = _; rw [e2]; rfl) (tr_as (by omega) hy tY [v1]), h2⟩
theorem both_of {X Y : CXT} (gX : XC X) (gY : XM Y) (hx : 0 < xN X) (tX : xtg X 0 = 11) (hy : 0 < xN Y) (tY : xtg Y 0 = 12) {σ τ : Mem} (R : RC σ τ) (v1 v2 : Int32) : Both X Y 5 143 6 305 [v1, v2] σ τ := by
  obtain ⟨⟨w, σ'⟩, ⟨w', τ'⟩, e1, e2, h1, h2⟩ := pr_of R v1 v2
  dsimp only at h1 h2
  subst h1
  exact ⟨w, σ', τ', call_of (ok_P_of gX) (by show (f_P_of 0 v1 v2 σ).bind _ = _; rw [e1]; rfl) (tr_as (by omega) hx tX [v1, v2]), call_of (ok_M_of gY) (by show (f_M_of 0 v1 v2 τ).bind _ = _; rw [e2]; rfl) (tr_as (by omega) hy tY [v1, v2]), h2⟩
theorem both_mile {X Y : CXT} (gX : XC X) (gY : XM Y) (hx : 0 < xN X) (tX : xtg X 0 = 11) (hy : 0 < xN Y) (tY : xtg Y 0 = 12) {σ τ : Mem} (R : RC σ τ) (v1 v2 : Int32) : Both X Y 5 144 6 306 [v1, v2] σ τ := by
  obtain ⟨⟨w, σ'⟩, ⟨w', τ'⟩, e1, e2, h1, h2⟩ := pr_mile R v1 v2
  dsimp only at h1 h2
  subst h1
  exact ⟨w, σ', τ', call_of (ok_P_mile gX) (by show (f_P_mile 0 v1 v2 σ).bind _ = _; rw [e1]; rfl) (tr_as (by omega) hx tX [v1, v2]), call_of (ok_M_mile gY) (by show (f_M_mile 0 v1 v2 τ).bind _ = _; rw [e2]; rfl) (tr_as (by omega) hy tY [v1, v2]), h2⟩
theorem both_shame {X Y : CXT} (gX : XC X) (gY : XM Y) (hx : 0 < xN X) (tX : xtg X 0 = 11) (hy : 0 < xN Y) (tY : xtg Y 0 = 12) {σ τ : Mem} (R : RC σ τ) (v1 v2 : Int32) : Both X Y 5 146 6 309 [v1, v2] σ τ := by
  obtain ⟨⟨w, σ'⟩, ⟨w', τ'⟩, e1, e2, h1, h2⟩ := pr_shame R v1 v2
  dsimp only at h1 h2
  subst h1
  exact ⟨w, σ', τ', call_of (ok_P_shame gX) (by show (f_P_shame 0 v1 v2 σ).bind _ = _; rw [e1]; rfl) (tr_as (by omega) hx tX [v1, v2]), call_of (ok_M_shame gY) (by show (f_M_shame 0 v1 v2 τ).bind _ = _; rw [e2]; rfl) (tr_as (by omega) hy tY [v1, v2]), h2⟩
theorem both_book {X Y : CXT} (gX : XC X) (gY : XM Y) (hx : 0 < xN X) (tX : xtg X 0 = 11) (hy : 0 < xN Y) (tY : xtg Y 0 = 12) {σ τ : Mem} (R : RC σ τ) (v1 v2 : Int32) : Both X Y 3 147 2 310 [v1, v2] σ τ := by
  obtain ⟨⟨w, σ'⟩, ⟨w', τ'⟩, e1, e2, h1, h2⟩ := pr_book R v1 v2
  dsimp only at h1 h2
  subst h1
  exact ⟨w, σ', τ', call_of (ok_P_book gX) (by show (f_P_book 0 v1 v2 σ).bind _ = _; rw [e1]; rfl) (tr_as (by omega) hx tX [v1, v2]), call_of (ok_M_book gY) (by show (f_M_book 0 v1 v2 τ).bind _ = _; rw [e2]; rfl) (tr_as (by omega) hy tY [v1, v2]), h2⟩
theorem both_goes {X Y : CXT} (gX : XC X) (gY : XM Y) (hx : 0 < xN X) (tX : xtg X 0 = 11) (hy : 0 < xN Y) (tY : xtg Y 0 = 12) {σ τ : Mem} (R : RC σ τ) (v1 v2 : Int32) : Both X Y 7 149 8 311 [v1, v2] σ τ := by
  obtain ⟨⟨w, σ'⟩, ⟨w', τ'⟩, e1, e2, h1, h2⟩ := pr_goes R v1 v2
  dsimp only at h1 h2
  subst h1
  exact ⟨w, σ', τ', call_of (ok_P_goes gX) (by show (f_P_goes 0 v1 v2 σ).bind _ = _; rw [e1]; rfl) (tr_as (by omega) hx tX [v1, v2]), call_of (ok_M_goes gY) (by show (f_M_goes 0 v1 v2 τ).bind _ = _; rw [e2]; rfl) (tr_as (by omega) hy tY [v1, v2]), h2⟩
theorem both_far {X Y : CXT} (gX : XC X) (gY : XM Y) (hx : 0 < xN X) (tX : xtg X 0 = 11) (hy : 0 < xN Y) (tY : xtg Y 0 = 12) {σ τ : Mem} (R : RC σ τ) (v1 v2 : Int32) : Both X Y 7 151 7 314 [v1, v2] σ τ := by
  obtain ⟨⟨w, σ'⟩, ⟨w', τ'⟩, e1, e2, h1, h2⟩ := pr_far R v1 v2
  dsimp only at h1 h2
  subst h1
  exact ⟨w, σ', τ', call_of (ok_P_far gX) (by show (f_P_far 0 v1 v2 σ).bind _ = _; rw [e1]; rfl) (tr_as (by omega) hx tX [v1, v2]), call_of (ok_M_far gY) (by show (f_M_far 0 v1 v2 τ).bind _ = _; rw [e2]; rfl) (tr_as (by omega) hy tY [v1, v2]), h2⟩
theorem both_next {X Y : CXT} (gX : XC X) (gY : XM Y) (hx : 0 < xN X) (tX : xtg X 0 = 11) (hy : 0 < xN Y) (tY : xtg Y 0 = 12) {σ τ : Mem} (R : RC σ τ) (v1 : Int32) : Both X Y 4 153 3 316 [v1] σ τ := by
  obtain ⟨⟨w, σ'⟩, ⟨w', τ'⟩, e1, e2, h1, h2⟩ := pr_next R v1
  dsimp only at h1 h2
  subst h1
  exact ⟨w, σ', τ', call_of (ok_P_next gX) (by show (f_P_next 0 v1 σ).bind _ = _; rw [e1]; rfl) (tr_as (by omega) hx tX [v1]), call_of (ok_M_next gY) (by show (f_M_next 0 v1 τ).bind _ = _; rw [e2]; rfl) (tr_as (by omega) hy tY [v1]), h2⟩
theorem both_want {X Y : CXT} (gX : XC X) (gY : XM Y) (hx : 0 < xN X) (tX : xtg X 0 = 11) (hy : 0 < xN Y) (tY : xtg Y 0 = 12) {σ τ : Mem} (R : RC σ τ) (v1 v2 : Int32) : Both X Y 3 157 3 318 [v1, v2] σ τ := by
  obtain ⟨⟨w, σ'⟩, ⟨w', τ'⟩, e1, e2, h1, h2⟩ := pr_want R v1 v2
  dsimp only at h1 h2
  subst h1
  exact ⟨w, σ', τ', call_of (ok_P_want gX) (by show (f_P_want 0 v1 v2 σ).bind _ = _; rw [e1]; rfl) (tr_as (by omega) hx tX [v1, v2]), call_of (ok_M_want gY) (by show (f_M_want 0 v1 v2 τ).bind _ = _; rw [e2]; rfl) (tr_as (by omega) hy tY [v1, v2]), h2⟩
theorem both_serves {X Y : CXT} (gX : XC X) (gY : XM Y) (hx : 0 < xN X) (tX : xtg X 0 = 11) (hy : 0 < xN Y) (tY : xtg Y 0 = 12) {σ τ : Mem} (R : RC σ τ) (v1 v2 : Int32) : Both X Y 6 158 5 319 [v1, v2] σ τ := by
  obtain ⟨⟨w, σ'⟩, ⟨w', τ'⟩, e1, e2, h1, h2⟩ := pr_serves R v1 v2
  dsimp only at h1 h2
  subst h1
  exact ⟨w, σ', τ', call_of (ok_P_serves gX) (by show (f_P_serves 0 v1 v2 σ).bind _ = _; rw [e1]; rfl) (tr_as (by omega) hx tX [v1, v2]), call_of (ok_M_serves gY) (by show (f_M_serves 0 v1 v2 τ).bind _ = _; rw [e2]; rfl) (tr_as (by omega) hy tY [v1, v2]), h2⟩
theorem both_boats {X Y : CXT} (gX : XC X) (gY : XM Y) (hx : 0 < xN X) (tX : xtg X 0 = 11) (hy : 0 < xN Y) (tY : xtg Y 0 = 12) {σ τ : Mem} (R : RC σ τ) (v1 : Int32) : Both X Y 3 164 2 322 [v1] σ τ := by
  obtain ⟨⟨w, σ'⟩, ⟨w', τ'⟩, e1, e2, h1, h2⟩ := pr_boats R v1
  dsimp only at h1 h2
  subst h1
  exact ⟨w, σ', τ', call_of (ok_P_boats gX) (by show (f_P_boats 0 v1 σ).bind _ = _; rw [e1]; rfl) (tr_as (by omega) hx tX [v1]), call_of (ok_M_boats gY) (by show (f_M_boats 0 v1 τ).bind _ = _; rw [e2]; rfl) (tr_as (by omega) hy tY [v1]), h2⟩
theorem both_talk {X Y : CXT} (gX : XC X) (gY : XM Y) (hx : 0 < xN X) (tX : xtg X 0 = 11) (hy : 0 < xN Y) (tY : xtg Y 0 = 12) {σ τ : Mem} (R : RC σ τ) (v1 v2 v3 : Int32) : Both X Y 3 168 3 323 [v1, v2, v3] σ τ := by
  obtain ⟨⟨w, σ'⟩, ⟨w', τ'⟩, e1, e2, h1, h2⟩ := pr_talk R v1 v2 v3
  dsimp only at h1 h2
  subst h1
  exact ⟨w, σ', τ', call_of (ok_P_talk gX) (by show (f_P_talk 0 v1 v2 v3 σ).bind _ = _; rw [e1]; rfl) (tr_as (by omega) hx tX [v1, v2, v3]), call_of (ok_M_talk gY) (by show (f_M_talk 0 v1 v2 v3 τ).bind _ = _; rw [e2]; rfl) (tr_as (by omega) hy tY [v1, v2, v3]), h2⟩
theorem both_said {X Y : CXT} (gX : XC X) (gY : XM Y) (hx : 0 < xN X) (tX : xtg X 0 = 11) (hy : 0 < xN Y) (tY : xtg Y 0 = 12) {σ τ : Mem} (R : RC σ τ) (v1 v2 v3 : Int32) : Both X Y 5 170 3 324 [v1, v2, v3] σ τ := by
  obtain ⟨⟨w, σ'⟩, ⟨w', τ'⟩, e1, e2, h1, h2⟩ := pr_said R v1 v2 v3
  dsimp only at h1 h2
  subst h1
  exact ⟨w, σ', τ', call_of (ok_P_said gX) (by show (f_P_said 0 v1 v2 v3 σ).bind _ = _; rw [e1]; rfl) (tr_as (by omega) hx tX [v1, v2, v3]), call_of (ok_M_said gY) (by show (f_M_said 0 v1 v2 v3 τ).bind _ = _; rw [e2]; rfl) (tr_as (by omega) hy tY [v1, v2, v3]), h2⟩
theorem both_did {X Y : CXT} (gX : XC X) (gY : XM Y) (hx : 0 < xN X) (tX : xtg X 0 = 11) (hy : 0 < xN Y) (tY : xtg Y 0 = 12) {σ τ : Mem} (R : RC σ τ) (v1 v2 : Int32) : Both X Y 3 173 2 326 [v1, v2] σ τ := by
  obtain ⟨⟨w, σ'⟩, ⟨w', τ'⟩, e1, e2, h1, h2⟩ := pr_did R v1 v2
  dsimp only at h1 h2
  subst h1
  exact ⟨w, σ', τ', call_of (ok_P_did gX) (by show (f_P_did 0 v1 v2 σ).bind _ = _; rw [e1]; rfl) (tr_as (by omega) hx tX [v1, v2]), call_of (ok_M_did gY) (by show (f_M_did 0 v1 v2 τ).bind _ = _; rw [e2]; rfl) (tr_as (by omega) hy tY [v1, v2]), h2⟩
theorem both_fits {X Y : CXT} (gX : XC X) (gY : XM Y) (hx : 0 < xN X) (tX : xtg X 0 = 11) (hy : 0 < xN Y) (tY : xtg Y 0 = 12) {σ τ : Mem} (R : RC σ τ) (v1 : Int32) : Both X Y 7 174 3 327 [v1] σ τ := by
  obtain ⟨⟨w, σ'⟩, ⟨w', τ'⟩, e1, e2, h1, h2⟩ := pr_fits R v1
  dsimp only at h1 h2
  subst h1
  exact ⟨w, σ', τ', call_of (ok_P_fits gX) (by show (f_P_fits 0 v1 σ).bind _ = _; rw [e1]; rfl) (tr_as (by omega) hx tX [v1]), call_of (ok_M_fits gY) (by show (f_M_fits 0 v1 τ).bind _ = _; rw [e2]; rfl) (tr_as (by omega) hy tY [v1]), h2⟩
theorem both_deed {X Y : CXT} (gX : XC X) (gY : XM Y) (hx : 0 < xN X) (tX : xtg X 0 = 11) (hy : 0 < xN Y) (tY : xtg Y 0 = 12) {σ τ : Mem} (R : RC σ τ) (v1 v2 : Int32) : Both X Y 3 185 2 331 [v1, v2] σ τ := by
  obtain ⟨⟨w, σ'⟩, ⟨w', τ'⟩, e1, e2, h1, h2⟩ := pr_deed R v1 v2
  dsimp only at h1 h2
  subst h1
  exact ⟨w, σ', τ', call_of (ok_P_deed gX) (by show (f_P_deed 0 v1 v2 σ).bind _ = _; rw [e1]; rfl) (tr_as (by omega) hx tX [v1, v2]), call_of (ok_M_deed gY) (by show (f_M_deed 0 v1 v2 τ).bind _ = _; rw [e2]; rfl) (tr_as (by omega) hy tY [v1, v2]), h2⟩
theorem both_ownsUp {X Y : CXT} (gX : XC X) (gY : XM Y) (hx : 0 < xN X) (tX : xtg X 0 = 11) (hy : 0 < xN Y) (tY : xtg Y 0 = 12) {σ τ : Mem} (R : RC σ τ) (v1 v2 : Int32) : Both X Y 5 186 2 332 [v1, v2] σ τ := by
  obtain ⟨⟨w, σ'⟩, ⟨w', τ'⟩, e1, e2, h1, h2⟩ := pr_ownsUp R v1 v2
  dsimp only at h1 h2
  subst h1
  exact ⟨w, σ', τ', call_of (ok_P_ownsUp gX) (by show (f_P_ownsUp 0 v1 v2 σ).bind _ = _; rw [e1]; rfl) (tr_as (by omega) hx tX [v1, v2]), call_of (ok_M_ownsUp gY) (by show (f_M_ownsUp 0 v1 v2 τ).bind _ = _; rw [e2]; rfl) (tr_as (by omega) hy tY [v1, v2]), h2⟩
theorem both_price {X Y : CXT} (gX : XC X) (gY : XM Y) (hx : 0 < xN X) (tX : xtg X 0 = 11) (hy : 0 < xN Y) (tY : xtg Y 0 = 12) {σ τ : Mem} (R : RC σ τ) (v1 : Int32) : Both X Y 3 190 2 334 [v1] σ τ := by
  obtain ⟨⟨w, σ'⟩, ⟨w', τ'⟩, e1, e2, h1, h2⟩ := pr_price R v1
  dsimp only at h1 h2
  subst h1
  exact ⟨w, σ', τ', call_of (ok_P_price gX) (by show (f_P_price 0 v1 σ).bind _ = _; rw [e1]; rfl) (tr_as (by omega) hx tX [v1]), call_of (ok_M_price gY) (by show (f_M_price 0 v1 τ).bind _ = _; rw [e2]; rfl) (tr_as (by omega) hy tY [v1]), h2⟩
theorem both_prices {X Y : CXT} (gX : XC X) (gY : XM Y) (hx : 0 < xN X) (tX : xtg X 0 = 11) (hy : 0 < xN Y) (tY : xtg Y 0 = 12) {σ τ : Mem} (R : RC σ τ) (v1 : Int32) : Both X Y 4 191 2 335 [v1] σ τ := by
  obtain ⟨⟨w, σ'⟩, ⟨w', τ'⟩, e1, e2, h1, h2⟩ := pr_prices R v1
  dsimp only at h1 h2
  subst h1
  exact ⟨w, σ', τ', call_of (ok_P_prices gX) (by show (f_P_prices 0 v1 σ).bind _ = _; rw [e1]; rfl) (tr_as (by omega) hx tX [v1]), call_of (ok_M_prices gY) (by show (f_M_prices 0 v1 τ).bind _ = _; rw [e2]; rfl) (tr_as (by omega) hy tY [v1]), h2⟩
theorem both_lamp {X Y : CXT} (gX : XC X) (gY : XM Y) (hx : 0 < xN X) (tX : xtg X 0 = 11) (hy : 0 < xN Y) (tY : xtg Y 0 = 12) {σ τ : Mem} (R : RC σ τ) (v1 v2 v3 : Int32) : Both X Y 2 194 2 336 [v1, v2, v3] σ τ := by
  obtain ⟨⟨w, σ'⟩, ⟨w', τ'⟩, e1, e2, h1, h2⟩ := pr_lamp R v1 v2 v3
  dsimp only at h1 h2
  subst h1
  exact ⟨b2i w, σ', τ', call_of (ok_P_lamp gX) (by show (f_P_lamp 0 v1 v2 v3 σ).bind _ = _; rw [e1]; rfl) (tr_as (by omega) hx tX [v1, v2, v3]), call_of (ok_M_lamp gY) (by show (f_M_lamp 0 v1 v2 v3 τ).bind _ = _; rw [e2]; rfl) (tr_as (by omega) hy tY [v1, v2, v3]), h2⟩
theorem both_reads {X Y : CXT} (gX : XC X) (gY : XM Y) (hx : 0 < xN X) (tX : xtg X 0 = 11) (hy : 0 < xN Y) (tY : xtg Y 0 = 12) {σ τ : Mem} (R : RC σ τ) (v1 v2 : Int32) : Both X Y 3 196 4 337 [v1, v2] σ τ := by
  obtain ⟨⟨w, σ'⟩, ⟨w', τ'⟩, e1, e2, h1, h2⟩ := pr_reads R v1 v2
  dsimp only at h1 h2
  subst h1
  exact ⟨w, σ', τ', call_of (ok_P_reads gX) (by show (f_P_reads 0 v1 v2 σ).bind _ = _; rw [e1]; rfl) (tr_as (by omega) hx tX [v1, v2]), call_of (ok_M_reads gY) (by show (f_M_reads 0 v1 v2 τ).bind _ = _; rw [e2]; rfl) (tr_as (by omega) hy tY [v1, v2]), h2⟩
theorem both_odds {X Y : CXT} (gX : XC X) (gY : XM Y) (hx : 0 < xN X) (tX : xtg X 0 = 11) (hy : 0 < xN Y) (tY : xtg Y 0 = 12) {σ τ : Mem} (R : RC σ τ) (v1 v2 : Int32) : Both X Y 3 200 2 340 [v1, v2] σ τ := by
  obtain ⟨⟨w, σ'⟩, ⟨w', τ'⟩, e1, e2, h1, h2⟩ := pr_odds R v1 v2
  dsimp only at h1 h2
  subst h1
  exact ⟨b2i w, σ', τ', call_of (ok_P_odds gX) (by show (f_P_odds 0 v1 v2 σ).bind _ = _; rw [e1]; rfl) (tr_as (by omega) hx tX [v1, v2]), call_of (ok_M_odds gY) (by show (f_M_odds 0 v1 v2 τ).bind _ = _; rw [e2]; rfl) (tr_as (by omega) hy tY [v1, v2]), h2⟩
theorem both_strength {X Y : CXT} (gX : XC X) (gY : XM Y) (hx : 0 < xN X) (tX : xtg X 0 = 11) (hy : 0 < xN Y) (tY : xtg Y 0 = 12) {σ τ : Mem} (R : RC σ τ) (v1 v2 : Int32) : Both X Y 6 201 3 341 [v1, v2] σ τ := by
  obtain ⟨⟨w, σ'⟩, ⟨w', τ'⟩, e1, e2, h1, h2⟩ := pr_strength R v1 v2
  dsimp only at h1 h2
  subst h1
  exact ⟨w, σ', τ', call_of (ok_P_strength gX) (by show (f_P_strength 0 v1 v2 σ).bind _ = _; rw [e1]; rfl) (tr_as (by omega) hx tX [v1, v2]), call_of (ok_M_strength gY) (by show (f_M_strength 0 v1 v2 τ).bind _ = _; rw [e2]; rfl) (tr_as (by omega) hy tY [v1, v2]), h2⟩
theorem both_sleeps {X Y : CXT} (gX : XC X) (gY : XM Y) (hx : 0 < xN X) (tX : xtg X 0 = 11) (hy : 0 < xN Y) (tY : xtg Y 0 = 12) {σ τ : Mem} (R : RC σ τ) (v1 : Int32) : Both X Y 6 209 2 345 [v1] σ τ := by
  obtain ⟨⟨w, σ'⟩, ⟨w', τ'⟩, e1, e2, h1, h2⟩ := pr_sleeps R v1
  dsimp only at h1 h2
  subst h1
  exact ⟨w, σ', τ', call_of (ok_P_sleeps gX) (by show (f_P_sleeps 0 v1 σ).bind _ = _; rw [e1]; rfl) (tr_as (by omega) hx tX [v1]), call_of (ok_M_sleeps gY) (by show (f_M_sleeps 0 v1 τ).bind _ = _; rw [e2]; rfl) (tr_as (by omega) hy tY [v1]), h2⟩
theorem both_meets {X Y : CXT} (gX : XC X) (gY : XM Y) (hx : 0 < xN X) (tX : xtg X 0 = 11) (hy : 0 < xN Y) (tY : xtg Y 0 = 12) {σ τ : Mem} (R : RC σ τ) (v1 v2 v3 : Int32) : Both X Y 7 212 8 315 [v1, v2, v3] σ τ := by
  obtain ⟨⟨w, σ'⟩, ⟨w', τ'⟩, e1, e2, h1, h2⟩ := pr_meets R v1 v2 v3
  dsimp only at h1 h2
  subst h1
  exact ⟨w, σ', τ', call_of (ok_P_meets gX) (by show (f_P_meets 0 v1 v2 v3 σ).bind _ = _; rw [e1]; rfl) (tr_as (by omega) hx tX [v1, v2, v3]), call_of (ok_M_meets gY) (by show (f_M_meets 0 v1 v2 v3 τ).bind _ = _; rw [e2]; rfl) (tr_as (by omega) hy tY [v1, v2, v3]), h2⟩
theorem both_game {X Y : CXT} (gX : XC X) (gY : XM Y) (hx : 0 < xN X) (tX : xtg X 0 = 11) (hy : 0 < xN Y) (tY : xtg Y 0 = 12) {σ τ : Mem} (R : RC σ τ) (v1 : Int32) : Both X Y 4 213 2 346 [v1] σ τ := by
  obtain ⟨⟨w, σ'⟩, ⟨w', τ'⟩, e1, e2, h1, h2⟩ := pr_game R v1
  dsimp only at h1 h2
  subst h1
  exact ⟨w, σ', τ', call_of (ok_P_game gX) (by show (f_P_game 0 v1 σ).bind _ = _; rw [e1]; rfl) (tr_as (by omega) hx tX [v1]), call_of (ok_M_game gY) (by show (f_M_game 0 v1 τ).bind _ = _; rw [e2]; rfl) (tr_as (by omega) hy tY [v1]), h2⟩
theorem both_undo {X Y : CXT} (gX : XC X) (gY : XM Y) (hx : 0 < xN X) (tX : xtg X 0 = 11) (hy : 0 < xN Y) (tY : xtg Y 0 = 12) {σ τ : Mem} (R : RC σ τ) : Both X Y 3 217 1 272 [] σ τ := by
  obtain ⟨⟨w, σ'⟩, ⟨w', τ'⟩, e1, e2, h1, h2⟩ := pr_undo R 
  dsimp only at h1 h2
  subst h1
  exact ⟨b2i w, σ', τ', call_of (ok_P_undo gX) (by show (f_P_undo 0  σ).bind _ = _; rw [e1]; rfl) (tr_as (by omega) hx tX []), call_of (ok_M_undo gY) (by show (f_M_undo 0  τ).bind _ = _; rw [e2]; rfl) (tr_as (by omega) hy tY []), h2⟩
theorem both_look {X Y : CXT} (gX : XC X) (gY : XM Y) (hx : 0 < xN X) (tX : xtg X 0 = 11) (hy : 0 < xN Y) (tY : xtg Y 0 = 12) {σ τ : Mem} (R : RC σ τ) (v1 : Int32) : Both X Y 2 224 3 349 [v1] σ τ := by
  obtain ⟨⟨w, σ'⟩, ⟨w', τ'⟩, e1, e2, h1, h2⟩ := pr_look R v1
  dsimp only at h1 h2
  subst h1
  exact ⟨w, σ', τ', call_of (ok_P_look gX) (by show (f_P_look 0 v1 σ).bind _ = _; rw [e1]; rfl) (tr_as (by omega) hx tX [v1]), call_of (ok_M_look gY) (by show (f_M_look 0 v1 τ).bind _ = _; rw [e2]; rfl) (tr_as (by omega) hy tY [v1]), h2⟩
theorem both_image {X Y : CXT} (gX : XC X) (gY : XM Y) (hx : 0 < xN X) (tX : xtg X 0 = 11) (hy : 0 < xN Y) (tY : xtg Y 0 = 12) {σ τ : Mem} (R : RC σ τ) {v : Int} (hv : v = 0 ∨ v = 1) : Both X Y 6 219 2 348 [zi v] σ τ := by
  obtain ⟨⟨w, σ'⟩, ⟨w', τ'⟩, e1, e2, h1, h2⟩ := pr_image R hv
  dsimp only at h1 h2
  subst h1
  exact ⟨b2i w, σ', τ', call_of (ok_P_image gX) (by show (f_P_image 0 (zi v) σ).bind _ = _; rw [e1]; rfl) (tr_as (by omega) hx tX [zi v]), call_of (ok_M_image gY) (by show (f_M_image 0 (zi v) τ).bind _ = _; rw [e2]; rfl) (tr_as (by omega) hy tY [zi v]), h2⟩
/-! a case of the law, from its first instruction to 1427 -/
section LAWCASE
variable {p : Program} {l : Launch} {e : Env} {s : State} {m : MethodId} {args : Array Value} {below : List Frame} {meth : Method} {c : Code} {cells slots : Nat} {Q : State → Prop} {H : Heap} {locs : List Loc} {lsR : Array Slot} {A : Nat → Prop} {b L i : Nat} {xs : Nat → Int32} {X Y : CXT} {σ τ : Mem}
/-- both worlds, as the law's body has them -/
def Wrld (X Y : CXT) (s : State) (A : Nat → Prop) : Prop := XC X ∧ XM Y ∧ (0 < xN X ∧ xtg X 0 = 11) ∧ (0 < xN Y ∧ xtg Y 0 = 12) ∧ va_K (xD X) vwCl (xtys X) s ∧ va_K (xD Y) vwCl (xtys Y) s ∧ xXF X s ∧ xXF Y s ∧ (∀ q, xA X q → ¬ xA Y q) ∧ (∀ q, xA X q → A q) ∧ (∀ q, xA Y q → A q) ∧ ∀ q, q < s.heap.size → ¬ A q
theorem lawcase (C0 : LawC p s m args c) (G : Wrld X Y s A) (hX : va_X b L xs s s.heap) (hbl : b < s.heap.size) (hS : va_S A s.heap H locs) (hl : lv_has lsR 4 (LVs b (xad X 0) (xad Y 0) i)) (hL : L ≤ 3072) {pc n idx a d idx' a' d' : Nat} {off : Int} (ok1 : okAsk pc 1 n idx a = true) (ok2 : okAsk (pc + 1 + 5 * n + 3) 2 n idx' a' = true) (hcmp : decode code (pc + 1 + 5 * n + 3 + 1 + 5 * n + 3) = .ok (.if_icmp .eq off, 3)) (hoff : ((pc + 1 + 5 * n + 3 + 1 + 5 * n + 3 : Nat) : Int) + off = ((1427 : Nat) : Int)) (hi : i + 1 + n ≤ L) (hB : Both X Y d a d' a' (asF xs (i + 1) n) σ τ) (hd : d ≤ 60) (hd' : d' ≤ 60) (hm : (mR a).isSome = true) (hm' : (mR a').isSome = true) (hcl : (cT 11).1 = mC a) (hcl' : (cT 12).1 = mC a')
    (hP : va_P (xD X) vwCl (wl X σ) H) (hPY : va_P (xD Y) vwCl (wl Y τ) H) (hf : cells ≤ room_1.cells ∧ slots ≤ room_1.slots)
    (kk : ∀ (H1 : Heap) (locs1 : List Loc) (σ' τ' : Mem), va_P (xD X) vwCl (wl X σ') H1 → va_P (xD Y) vwCl (wl Y τ') H1 → RC σ' τ' → va_S A s.heap H1 locs1 → W p l e room_1 s m args below meth c H1 locs1 cells slots Q (F0 m 1427 lsR [])) :
    W p l e room_1 s m args below meth c H locs cells slots Q (F0 m pc lsR []) := by
  obtain ⟨gX, gY, ⟨x0, x1⟩, ⟨y0, y1⟩, KX, KY, FX, FY, dis, AX, AY, A0⟩ := G
  obtain ⟨w, σ', τ', s1, s2, R⟩ := hB
  obtain ⟨ty, hty⟩ := Option.isSome_iff_exists.mp hm
  obtain ⟨ty', hty'⟩ := Option.isSome_iff_exists.mp hm'
  refine ask (X := X) (Y := Y) (xs := xs) (i := i) C0 gX.1 hX hbl (A0 b hbl) hS hl hL (Or.inl ⟨rfl, rfl⟩) ok1 hi s1 (by omega) x0 x1 hcl hd KX FX hP hPY dis AX A0 (by simp) hf (fun H1 locs1 P1 P2 S1 => ?_)
  rw [hty]
  refine ask (X := Y) (Y := X) (xs := xs) (i := i) C0 gY.1 hX hbl (A0 b hbl) S1 hl hL (Or.inr ⟨rfl, rfl⟩) ok2 hi s2 (by omega) y0 y1 hcl' hd' KY FY P2 P1 (fun q h1 h2 => dis q h2 h1) AY A0 (Nat.le_of_ble_eq_true rfl) hf (fun H2 locs2 P3 P4 S2 => ?_)
  rw [hty']
  obtain ⟨hx, hb, -⟩ := C0
  exact lv_icmp_eq (x := w) (y := w) hx hb hcmp hoff (fun _ => kk H2 locs2 σ' τ' P4 P3 R S2) (fun h => absurd rfl h)
end LAWCASE
theorem di_1365 : decode code 1365 = .ok (.aload_n 1, 1) := by decide +kernel
theorem di_1366 : okPush 1366 1 = true := by decide +kernel
theorem di_1371 : decode code 1371 = .ok (.ifCond .eq 7, 3) := by decide +kernel
theorem di_1374 : decode code 1374 = .ok (.iconst 1, 1) := by decide +kernel
theorem di_1375 : decode code 1375 = .ok (.goto 4, 3) := by decide +kernel
theorem di_1378 : decode code 1378 = .ok (.iconst 0, 1) := by decide +kernel
theorem di_1379 : decode code 1379 = .ok (.invokevirtual 169, 3) := by decide +kernel
theorem di_1382 : decode code 1382 = .ok (.aload_n 2, 1) := by decide +kernel
theorem di_1383 : okPush 1383 1 = true := by decide +kernel
theorem di_1388 : decode code 1388 = .ok (.ifCond .eq 7, 3) := by decide +kernel
theorem di_1391 : decode code 1391 = .ok (.iconst 1, 1) := by decide +kernel
theorem di_1392 : decode code 1392 = .ok (.goto 4, 3) := by decide +kernel
theorem di_1395 : decode code 1395 = .ok (.iconst 0, 1) := by decide +kernel
theorem di_1396 : decode code 1396 = .ok (.invokevirtual 173, 3) := by decide +kernel
theorem di_1399 : decode code 1399 = .ok (.if_icmp .eq 28, 3) := by decide +kernel
theorem lawimg {p : Program} {l : Launch} {e : Env} {s : State} {m : MethodId} {args : Array Value} {below : List Frame} {meth : Method} {c : Code} {cells slots : Nat} {Q : State → Prop} {H : Heap} {locs : List Loc} {lsR : Array Slot} {A : Nat → Prop} {b L i : Nat} {xs : Nat → Int32} {X Y : CXT} {σ τ : Mem} (C0 : LawC p s m args c) (G : Wrld X Y s A) (hX : va_X b L xs s s.heap) (hbl : b < s.heap.size) (hS : va_S A s.heap H locs) (hl : lv_has lsR 4 (LVs b (xad X 0) (xad Y 0) i)) (hL : L ≤ 3072) (hi : i + 6 ≤ L) (R : RC σ τ)
    (hP : va_P (xD X) vwCl (wl X σ) H) (hPY : va_P (xD Y) vwCl (wl Y τ) H) (hf : cells ≤ room_1.cells ∧ slots ≤ room_1.slots)
    (kk : ∀ (H1 : Heap) (locs1 : List Loc) (σ' τ' : Mem), va_P (xD X) vwCl (wl X σ') H1 → va_P (xD Y) vwCl (wl Y τ') H1 → RC σ' τ' → va_S A s.heap H1 locs1 → W p l e room_1 s m args below meth c H1 locs1 cells slots Q (F0 m 1427 lsR [])) :
    W p l e room_1 s m args below meth c H locs cells slots Q (F0 m 1365 lsR []) := by
  obtain ⟨gX, gY, ⟨x0, x1⟩, ⟨y0, y1⟩, KX, KY, FX, FY, dis, AX, AY, A0⟩ := G
  obtain ⟨hx, hb, -⟩ := id C0
  have first : ∀ v : Int, v = 0 ∨ v = 1 → (∀ (H1 : Heap) (locs1 : List Loc) (rest : List Value), va_S A s.heap H1 locs1 → W p l e room_1 s m args below meth c H1 locs1 cells slots Q (F0 m 1396 lsR (.int (zi v) :: rest)) → W p l e room_1 s m args below meth c H1 locs1 cells slots Q (F0 m 1383 lsR rest)) → W p l e room_1 s m args below meth c H locs cells slots Q (F0 m 1379 lsR [.int (zi v), .ref (xad X 0)]) := by
    intro v hv second
    obtain ⟨w, σ', τ', s1, s2, R1⟩ := both_image gX gY x0 x1 y0 y1 R hv
    refine lawcall (X := X) (Y := Y) (av := [.inl (zi v)]) (rest := []) C0 gX.1 s1 (by decide +kernel) (by decide +kernel) (by decide +kernel) (by decide +kernel) (by decide +kernel) (by omega) x0 x1 (by decide +kernel) rfl (by omega) KX FX hP hPY dis AX hS A0 di_1379 hl (by simp) hf (fun H1 locs1 P1 P2 S1 => ?_)
    refine lv_aload_n (i := 2) hx hb di_1382 rfl (lv_at hl 2 rfl) ?_
    refine second H1 locs1 _ S1 ?_
    refine lawcall (X := Y) (Y := X) (av := [.inl (zi v)]) (rest := [.int w]) C0 gY.1 s2 (by decide +kernel) (by decide +kernel) (by decide +kernel) (by decide +kernel) (by decide +kernel) (by omega) y0 y1 (by decide +kernel) rfl (by omega) KY FY P2 P1 (fun q h1 h2 => dis q h2 h1) AY S1 A0 di_1396 hl (Nat.le_of_ble_eq_true rfl) hf (fun H2 locs2 P3 P4 S2 => ?_)
    exact lv_icmp_eq (x := w) (y := w) (tgt := 1427) hx hb di_1399 (by decide) (fun _ => kk H2 locs2 σ' τ' P4 P3 R1 S2) (fun h => absurd rfl h)
  refine lv_aload_n (i := 1) hx hb di_1365 rfl (lv_at hl 1 rfl) ?_
  refine push C0 hX hbl (A0 b hbl) hS hl hL (by omega) di_1366 ?_
  by_cases g : xs (i + 1) = 0
  · refine lv_if_eq (tgt := 1378) hx hb di_1371 (by decide) (fun _ => ?_) (fun h => absurd g h)
    refine lv_iconst (v := zi 0) hx hb di_1378 rfl ?_
    refine first 0 (Or.inl rfl) (fun H1 locs1 rest S1 k2 => ?_)
    refine push C0 hX hbl (A0 b hbl) S1 hl hL (by omega) di_1383 ?_
    refine lv_if_eq (tgt := 1395) hx hb di_1388 (by decide) (fun _ => ?_) (fun h => absurd g h)
    exact lv_iconst (v := zi 0) hx hb di_1395 rfl k2
  · refine lv_if_eq (tgt := 1378) hx hb di_1371 (by decide) (fun h => absurd h g) (fun _ => ?_)
    refine lv_iconst (v := zi 1) hx hb di_1374 rfl ?_
    refine lv_goto (tgt := 1379) hx hb di_1375 (by decide) ?_
    refine first 1 (Or.inr rfl) (fun H1 locs1 rest S1 k2 => ?_)
    refine push C0 hX hbl (A0 b hbl) S1 hl hL (by omega) di_1383 ?_
    refine lv_if_eq (tgt := 1395) hx hb di_1388 (by decide) (fun h => absurd h g) (fun _ => ?_)
    refine lv_iconst (v := zi 1) hx hb di_1391 rfl ?_
    exact lv_goto (tgt := 1396) hx hb di_1392 (by decide) k2
/-! the law's loop -/
theorem and63 (x : Int32) : 0 ≤ (x &&& 63).toInt ∧ (x &&& 63).toInt ≤ 63 := by
  have h : (x &&& 63).toBitVec.toNat ≤ 63 := by
    rw [Int32.toBitVec_and, BitVec.toNat_and]
    exact Nat.and_le_right
  have e : (x &&& 63).toInt = (x &&& 63).toBitVec.toInt := rfl
  rw [e, BitVec.toInt_eq_toNat_cond]
  rw [if_pos (by omega)]
  omega
theorem oc1_0 : okAsk 204 1 1 13 14 = true := by decide +kernel
theorem oc2_0 : okAsk 213 2 1 17 227 = true := by decide +kernel
theorem oc3_0 : decode code 222 = .ok (.if_icmp .eq 1205, 3) := by decide +kernel
theorem oc1_1 : okAsk 227 1 3 18 16 = true := by decide +kernel
theorem oc2_1 : okAsk 246 2 3 22 229 = true := by decide +kernel
theorem oc3_1 : decode code 265 = .ok (.if_icmp .eq 1162, 3) := by decide +kernel
theorem oc1_2 : okAsk 270 1 3 23 19 = true := by decide +kernel
theorem oc2_2 : okAsk 289 2 3 27 231 = true := by decide +kernel
theorem oc3_2 : decode code 308 = .ok (.if_icmp .eq 1119, 3) := by decide +kernel
theorem oc1_3 : okAsk 313 1 2 28 27 = true := by decide +kernel
theorem oc2_3 : okAsk 327 2 2 32 273 = true := by decide +kernel
theorem oc3_3 : decode code 341 = .ok (.if_icmp .eq 1086, 3) := by decide +kernel
theorem oc1_4 : okAsk 346 1 2 33 41 = true := by decide +kernel
theorem oc2_4 : okAsk 360 2 2 37 285 = true := by decide +kernel
theorem oc3_4 : decode code 374 = .ok (.if_icmp .eq 1053, 3) := by decide +kernel
theorem oc1_5 : okAsk 379 1 1 38 52 = true := by decide +kernel
theorem oc2_5 : okAsk 388 2 1 41 290 = true := by decide +kernel
theorem oc3_5 : decode code 397 = .ok (.if_icmp .eq 1030, 3) := by decide +kernel
theorem oc1_6 : okAsk 402 1 1 42 60 = true := by decide +kernel
theorem oc2_6 : okAsk 411 2 1 45 297 = true := by decide +kernel
theorem oc3_6 : decode code 420 = .ok (.if_icmp .eq 1007, 3) := by decide +kernel
theorem oc1_7 : okAsk 425 1 5 46 68 = true := by decide +kernel
theorem oc2_7 : okAsk 454 2 5 50 237 = true := by decide +kernel
theorem oc3_7 : decode code 483 = .ok (.if_icmp .eq 944, 3) := by decide +kernel
theorem oc1_8 : okAsk 488 1 1 51 71 = true := by decide +kernel
theorem oc2_8 : okAsk 497 2 1 55 238 = true := by decide +kernel
theorem oc3_8 : decode code 506 = .ok (.if_icmp .eq 921, 3) := by decide +kernel
theorem oc1_9 : okAsk 511 1 1 56 73 = true := by decide +kernel
theorem oc2_9 : okAsk 520 2 1 59 239 = true := by decide +kernel
theorem oc3_9 : decode code 529 = .ok (.if_icmp .eq 898, 3) := by decide +kernel
theorem oc1_10 : okAsk 534 1 1 60 142 = true := by decide +kernel
theorem oc2_10 : okAsk 543 2 1 63 271 = true := by decide +kernel
theorem oc3_10 : decode code 552 = .ok (.if_icmp .eq 875, 3) := by decide +kernel
theorem oc1_11 : okAsk 557 1 2 64 143 = true := by decide +kernel
theorem oc2_11 : okAsk 571 2 2 67 305 = true := by decide +kernel
theorem oc3_11 : decode code 585 = .ok (.if_icmp .eq 842, 3) := by decide +kernel
theorem oc1_12 : okAsk 590 1 2 68 144 = true := by decide +kernel
theorem oc2_12 : okAsk 604 2 2 71 306 = true := by decide +kernel
theorem oc3_12 : decode code 618 = .ok (.if_icmp .eq 809, 3) := by decide +kernel
theorem oc1_13 : okAsk 623 1 2 72 146 = true := by decide +kernel
theorem oc2_13 : okAsk 637 2 2 75 309 = true := by decide +kernel
theorem oc3_13 : decode code 651 = .ok (.if_icmp .eq 776, 3) := by decide +kernel
theorem oc1_14 : okAsk 656 1 2 76 147 = true := by decide +kernel
theorem oc2_14 : okAsk 670 2 2 79 310 = true := by decide +kernel
theorem oc3_14 : decode code 684 = .ok (.if_icmp .eq 743, 3) := by decide +kernel
theorem oc1_15 : okAsk 689 1 2 80 149 = true := by decide +kernel
theorem oc2_15 : okAsk 703 2 2 83 311 = true := by decide +kernel
theorem oc3_15 : decode code 717 = .ok (.if_icmp .eq 710, 3) := by decide +kernel
theorem oc1_16 : okAsk 722 1 2 84 151 = true := by decide +kernel
theorem oc2_16 : okAsk 736 2 2 87 314 = true := by decide +kernel
theorem oc3_16 : decode code 750 = .ok (.if_icmp .eq 677, 3) := by decide +kernel
theorem oc1_17 : okAsk 755 1 1 88 153 = true := by decide +kernel
theorem oc2_17 : okAsk 764 2 1 91 316 = true := by decide +kernel
theorem oc3_17 : decode code 773 = .ok (.if_icmp .eq 654, 3) := by decide +kernel
theorem oc1_18 : okAsk 778 1 2 92 157 = true := by decide +kernel
theorem oc2_18 : okAsk 792 2 2 95 318 = true := by decide +kernel
theorem oc3_18 : decode code 806 = .ok (.if_icmp .eq 621, 3) := by decide +kernel
theorem oc1_19 : okAsk 811 1 2 96 158 = true := by decide +kernel
theorem oc2_19 : okAsk 825 2 2 99 319 = true := by decide +kernel
theorem oc3_19 : decode code 839 = .ok (.if_icmp .eq 588, 3) := by decide +kernel
theorem oc1_20 : okAsk 844 1 1 100 164 = true := by decide +kernel
theorem oc2_20 : okAsk 853 2 1 103 322 = true := by decide +kernel
theorem oc3_20 : decode code 862 = .ok (.if_icmp .eq 565, 3) := by decide +kernel
theorem oc1_21 : okAsk 867 1 3 104 168 = true := by decide +kernel
theorem oc2_21 : okAsk 886 2 3 107 323 = true := by decide +kernel
theorem oc3_21 : decode code 905 = .ok (.if_icmp .eq 522, 3) := by decide +kernel
theorem oc1_22 : okAsk 910 1 3 108 170 = true := by decide +kernel
theorem oc2_22 : okAsk 929 2 3 111 324 = true := by decide +kernel
theorem oc3_22 : decode code 948 = .ok (.if_icmp .eq 479, 3) := by decide +kernel
theorem oc1_23 : okAsk 953 1 2 112 173 = true := by decide +kernel
theorem oc2_23 : okAsk 967 2 2 115 326 = true := by decide +kernel
theorem oc3_23 : decode code 981 = .ok (.if_icmp .eq 446, 3) := by decide +kernel
theorem oc1_24 : okAsk 986 1 1 116 174 = true := by decide +kernel
theorem oc2_24 : okAsk 995 2 1 119 327 = true := by decide +kernel
theorem oc3_24 : decode code 1004 = .ok (.if_icmp .eq 423, 3) := by decide +kernel
theorem oc1_25 : okAsk 1009 1 2 120 185 = true := by decide +kernel
theorem oc2_25 : okAsk 1023 2 2 123 331 = true := by decide +kernel
theorem oc3_25 : decode code 1037 = .ok (.if_icmp .eq 390, 3) := by decide +kernel
theorem oc1_26 : okAsk 1042 1 2 124 186 = true := by decide +kernel
theorem oc2_26 : okAsk 1056 2 2 127 332 = true := by decide +kernel
theorem oc3_26 : decode code 1070 = .ok (.if_icmp .eq 357, 3) := by decide +kernel
theorem oc1_27 : okAsk 1075 1 1 128 190 = true := by decide +kernel
theorem oc2_27 : okAsk 1084 2 1 131 334 = true := by decide +kernel
theorem oc3_27 : decode code 1093 = .ok (.if_icmp .eq 334, 3) := by decide +kernel
theorem oc1_28 : okAsk 1098 1 1 132 191 = true := by decide +kernel
theorem oc2_28 : okAsk 1107 2 1 135 335 = true := by decide +kernel
theorem oc3_28 : decode code 1116 = .ok (.if_icmp .eq 311, 3) := by decide +kernel
theorem oc1_29 : okAsk 1121 1 3 136 194 = true := by decide +kernel
theorem oc2_29 : okAsk 1140 2 3 139 336 = true := by decide +kernel
theorem oc3_29 : decode code 1159 = .ok (.if_icmp .eq 268, 3) := by decide +kernel
theorem oc1_30 : okAsk 1164 1 2 140 196 = true := by decide +kernel
theorem oc2_30 : okAsk 1178 2 2 143 337 = true := by decide +kernel
theorem oc3_30 : decode code 1192 = .ok (.if_icmp .eq 235, 3) := by decide +kernel
theorem oc1_31 : okAsk 1197 1 2 144 200 = true := by decide +kernel
theorem oc2_31 : okAsk 1211 2 2 147 340 = true := by decide +kernel
theorem oc3_31 : decode code 1225 = .ok (.if_icmp .eq 202, 3) := by decide +kernel
theorem oc1_32 : okAsk 1230 1 2 148 201 = true := by decide +kernel
theorem oc2_32 : okAsk 1244 2 2 151 341 = true := by decide +kernel
theorem oc3_32 : decode code 1258 = .ok (.if_icmp .eq 169, 3) := by decide +kernel
theorem oc1_33 : okAsk 1263 1 1 152 209 = true := by decide +kernel
theorem oc2_33 : okAsk 1272 2 1 155 345 = true := by decide +kernel
theorem oc3_33 : decode code 1281 = .ok (.if_icmp .eq 146, 3) := by decide +kernel
theorem oc1_34 : okAsk 1286 1 3 156 212 = true := by decide +kernel
theorem oc2_34 : okAsk 1305 2 3 159 315 = true := by decide +kernel
theorem oc3_34 : decode code 1324 = .ok (.if_icmp .eq 103, 3) := by decide +kernel
theorem oc1_35 : okAsk 1329 1 1 160 213 = true := by decide +kernel
theorem oc2_35 : okAsk 1338 2 1 163 346 = true := by decide +kernel
theorem oc3_35 : decode code 1347 = .ok (.if_icmp .eq 80, 3) := by decide +kernel
theorem oc1_36 : okAsk 1352 1 0 164 217 = true := by decide +kernel
theorem oc2_36 : okAsk 1356 2 0 168 272 = true := by decide +kernel
theorem oc3_36 : decode code 1360 = .ok (.if_icmp .eq 67, 3) := by decide +kernel
theorem oc1_38 : okAsk 1404 1 1 174 224 = true := by decide +kernel
theorem oc2_38 : okAsk 1413 2 1 177 349 = true := by decide +kernel
theorem oc3_38 : decode code 1422 = .ok (.if_icmp .eq 5, 3) := by decide +kernel
theorem dl_18 : decode code 18 = .ok (.iload_n 3, 1) := by decide +kernel
theorem dl_19 : decode code 19 = .ok (.aload_n 0, 1) := by decide +kernel
theorem dl_20 : decode code 20 = .ok (.arraylength, 1) := by decide +kernel
theorem dl_21 : decode code 21 = .ok (.bipush 6, 2) := by decide +kernel
theorem dl_23 : decode code 23 = .ok (.isub, 1) := by decide +kernel
theorem dl_24 : decode code 24 = .ok (.if_icmp .gt 1409, 3) := by decide +kernel
theorem dl_27 : decode code 27 = .ok (.aload_n 0, 1) := by decide +kernel
theorem dl_28 : decode code 28 = .ok (.iload_n 3, 1) := by decide +kernel
theorem dl_29 : decode code 29 = .ok (.iaload, 1) := by decide +kernel
theorem dl_30 : decode code 30 = .ok (.bipush 63, 2) := by decide +kernel
theorem dl_32 : decode code 32 = .ok (.iand, 1) := by decide +kernel
theorem dl_1427 : decode code 1427 = .ok (.iinc 3 6, 3) := by decide +kernel
theorem dl_1430 : decode code 1430 = .ok (.goto (-1412), 3) := by decide +kernel
theorem dl_33 : decode code 33 = .ok (.tableswitch 1394 0 38 #[171, 194, 237, 280, 313, 346, 369, 392, 455, 478, 501, 524, 557, 590, 623, 656, 689, 722, 745, 778, 811, 834, 877, 920, 953, 976, 1009, 1042, 1065, 1088, 1131, 1164, 1197, 1230, 1253, 1296, 1319, 1332, 1371], 171) := by decide +kernel
theorem law_loop_open {p : Program} {l : Launch} {e : Env} {s : State} {m : MethodId} {args : Array Value} {below : List Frame} {meth : Method} {c : Code} {cells slots : Nat} {Q : State → Prop} {A : Nat → Prop} {b L : Nat} {xs : Nat → Int32} {X Y : CXT} (C0 : LawC p s m args c) (G : Wrld X Y s A) (hX : va_X b L xs s s.heap) (hbl : b < s.heap.size) (hL : L ≤ 3072) (hf : cells ≤ room_1.cells ∧ slots ≤ room_1.slots)
    (hend : ∀ (H : Heap) (locs : List Loc) (lsR : Array Slot), va_S A s.heap H locs → W p l e room_1 s m args below meth c H locs cells slots Q (F0 m 1433 lsR []))
    (himg : ∀ (i : Nat) (H : Heap) (locs : List Loc) (lsR : Array Slot) (σ τ : Mem), i + 6 ≤ L → RC σ τ → va_P (xD X) vwCl (wl X σ) H → va_P (xD Y) vwCl (wl Y τ) H → va_S A s.heap H locs → lv_has lsR 4 (LVs b (xad X 0) (xad Y 0) i) → (∀ (H1 : Heap) (locs1 : List Loc) (σ' τ' : Mem), va_P (xD X) vwCl (wl X σ') H1 → va_P (xD Y) vwCl (wl Y τ') H1 → RC σ' τ' → va_S A s.heap H1 locs1 → W p l e room_1 s m args below meth c H1 locs1 cells slots Q (F0 m 1427 lsR [])) → W p l e room_1 s m args below meth c H locs cells slots Q (F0 m 1365 lsR [])) :
    ∀ (k i : Nat) (H : Heap) (locs : List Loc) (lsR : Array Slot) (σ τ : Mem), i ≤ L → L < i + k → RC σ τ → va_P (xD X) vwCl (wl X σ) H → va_P (xD Y) vwCl (wl Y τ) H → va_S A s.heap H locs → lv_has lsR 4 (LVs b (xad X 0) (xad Y 0) i) → W p l e room_1 s m args below meth c H locs cells slots Q (F0 m 18 lsR []) := by
  have hbA := G.2.2.2.2.2.2.2.2.2.2.2 b hbl
  intro k
  induction k with
  | zero => intro i H locs lsR σ τ h1 h2; omega
  | succ k ih =>
    intro i H locs lsR σ τ h1 h2 R hP hPY hS hl
    obtain ⟨hx, hb, -⟩ := id C0
    refine lv_iload_n hx hb dl_18 rfl (lv_at hl 3 rfl) ?_
    refine lv_aload_n hx hb dl_19 rfl (lv_at hl 0 rfl) ?_
    refine va_slen hx hb hX hbl hbA hS dl_20 ?_
    refine lv_bipush (v := zi 6) hx hb dl_21 (by decide) ?_
    refine lv_isub hx hb dl_23 ?_
    refine lv_icmp_gt (tgt := 1433) hx hb dl_24 (by decide) (fun _ => hend H locs lsR hS) (fun hlt => ?_)
    have hi : i + 6 ≤ L := by
      rw [show nI i = zi (i : Int) from zi_ofNat, show Int32.ofNat L = zi (L : Int) from zi_ofNat, zi_sub, zi_lt (by omega) (by omega) (by omega) (by omega)] at hlt
      omega
    refine lv_aload_n hx hb dl_27 rfl (lv_at hl 0 rfl) ?_
    refine lv_iload_n hx hb dl_28 rfl (lv_at hl 3 rfl) ?_
    refine va_sld hx hb hX hbl hbA hS (vp_in_nI (by omega : i < L) (by omega)) dl_29 ?_
    refine lv_bipush (v := 63) hx hb dl_30 (by decide) ?_
    refine lv_iand hx hb dl_32 ?_
    generalize xs (nI i).toNatClampNeg = op
    have hw := and63 op
    have next : ∀ (H1 : Heap) (locs1 : List Loc) (σ' τ' : Mem), va_P (xD X) vwCl (wl X σ') H1 → va_P (xD Y) vwCl (wl Y τ') H1 → RC σ' τ' → va_S A s.heap H1 locs1 → W p l e room_1 s m args below meth c H1 locs1 cells slots Q (F0 m 1427 lsR []) := fun H1 locs1 σ' τ' p1 p2 R1 S1 => by
      refine lv_iinc (v := nI (i + 6)) (lv' := [(3, .int (nI (i + 6))), (0, .ref b), (1, .ref (xad X 0)), (2, .ref (xad Y 0))]) hx hb dl_1427 hl (k := 3) rfl (by rw [show nI i = zi (i : Int) from zi_ofNat, show Int32.ofInt 6 = zi 6 from rfl, zi_add]; exact zi_ofNat.symm) (by decide) rfl (fun ls hl' => ?_)
      refine lv_goto (tgt := 18) hx hb dl_1430 (by decide) ?_
      exact ih (i + 6) H1 locs1 ls σ' τ' hi (by omega) R1 p1 p2 S1 (lv_sub hl' [1, 2, 3, 0] rfl)
    have tb := hw.1
    obtain ⟨gX, gY, ⟨x0, x1⟩, ⟨y0, y1⟩, -⟩ := id G
    by_cases hbig : 38 < (op &&& 63).toInt
    · exact lv_tableOut (tgt := 1427) hx hb dl_33 (Or.inr hbig) (by decide) (next H locs σ τ hP hPY R hS)
    · have hc : (op &&& 63).toInt = 0 ∨ (op &&& 63).toInt = 1 ∨ (op &&& 63).toInt = 2 ∨ (op &&& 63).toInt = 3 ∨ (op &&& 63).toInt = 4 ∨ (op &&& 63).toInt = 5 ∨ (op &&& 63).toInt = 6 ∨ (op &&& 63).toInt = 7 ∨ (op &&& 63).toInt = 8 ∨ (op &&& 63).toInt = 9 ∨ (op &&& 63).toInt = 10 ∨ (op &&& 63).toInt = 11 ∨ (op &&& 63).toInt = 12 ∨ (op &&& 63).toInt = 13 ∨ (op &&& 63).toInt = 14 ∨ (op &&& 63).toInt = 15 ∨ (op &&& 63).toInt = 16 ∨ (op &&& 63).toInt = 17 ∨ (op &&& 63).toInt = 18 ∨ (op &&& 63).toInt = 19 ∨ (op &&& 63).toInt = 20 ∨ (op &&& 63).toInt = 21 ∨ (op &&& 63).toInt = 22 ∨ (op &&& 63).toInt = 23 ∨ (op &&& 63).toInt = 24 ∨ (op &&& 63).toInt = 25 ∨ (op &&& 63).toInt = 26 ∨ (op &&& 63).toInt = 27 ∨ (op &&& 63).toInt = 28 ∨ (op &&& 63).toInt = 29 ∨ (op &&& 63).toInt = 30 ∨ (op &&& 63).toInt = 31 ∨ (op &&& 63).toInt = 32 ∨ (op &&& 63).toInt = 33 ∨ (op &&& 63).toInt = 34 ∨ (op &&& 63).toInt = 35 ∨ (op &&& 63).toInt = 36 ∨ (op &&& 63).toInt = 37 ∨ (op &&& 63).toInt = 38 := by omega
      rcases hc with hc | hc | hc | hc | hc | hc | hc | hc | hc | hc | hc | hc | hc | hc | hc | hc | hc | hc | hc | hc | hc | hc | hc | hc | hc | hc | hc | hc | hc | hc | hc | hc | hc | hc | hc | hc | hc | hc | hc
      · refine lv_tableIn (off := 171) (tgt := 204) hx hb dl_33 (by omega) (by omega) (by rw [hc]; rfl) (by decide) ?_
        exact lawcase (off := 1205) C0 G hX hbl hS hl hL oc1_0 oc2_0 oc3_0 (by decide) (by omega) (both_state gX gY x0 x1 y0 y1 R _) (by decide) (by decide) (by decide +kernel) (by decide +kernel) (by decide +kernel) (by decide +kernel) hP hPY hf next
      · refine lv_tableIn (off := 194) (tgt := 227) hx hb dl_33 (by omega) (by omega) (by rw [hc]; rfl) (by decide) ?_
        exact lawcase (off := 1162) C0 G hX hbl hS hl hL oc1_1 oc2_1 oc3_1 (by decide) (by omega) (both_walker gX gY x0 x1 y0 y1 R _ _ _) (by decide) (by decide) (by decide +kernel) (by decide +kernel) (by decide +kernel) (by decide +kernel) hP hPY hf next
      · refine lv_tableIn (off := 237) (tgt := 270) hx hb dl_33 (by omega) (by omega) (by rw [hc]; rfl) (by decide) ?_
        exact lawcase (off := 1119) C0 G hX hbl hS hl hL oc1_2 oc2_2 oc3_2 (by decide) (by omega) (both_set gX gY x0 x1 y0 y1 R _ _ _) (by decide) (by decide) (by decide +kernel) (by decide +kernel) (by decide +kernel) (by decide +kernel) hP hPY hf next
      · refine lv_tableIn (off := 280) (tgt := 313) hx hb dl_33 (by omega) (by omega) (by rw [hc]; rfl) (by decide) ?_
        exact lawcase (off := 1086) C0 G hX hbl hS hl hL oc1_3 oc2_3 oc3_3 (by decide) (by omega) (both_owns gX gY x0 x1 y0 y1 R _ _) (by decide) (by decide) (by decide +kernel) (by decide +kernel) (by decide +kernel) (by decide +kernel) hP hPY hf next
      · refine lv_tableIn (off := 313) (tgt := 346) hx hb dl_33 (by omega) (by omega) (by rw [hc]; rfl) (by decide) ?_
        exact lawcase (off := 1053) C0 G hX hbl hS hl hL oc1_4 oc2_4 oc3_4 (by decide) (by omega) (both_act gX gY x0 x1 y0 y1 R _ _) (by decide) (by decide) (by decide +kernel) (by decide +kernel) (by decide +kernel) (by decide +kernel) hP hPY hf next
      · refine lv_tableIn (off := 346) (tgt := 379) hx hb dl_33 (by omega) (by omega) (by rw [hc]; rfl) (by decide) ?_
        exact lawcase (off := 1030) C0 G hX hbl hS hl hL oc1_5 oc2_5 oc3_5 (by decide) (by omega) (both_years gX gY x0 x1 y0 y1 R _) (by decide) (by decide) (by decide +kernel) (by decide +kernel) (by decide +kernel) (by decide +kernel) hP hPY hf next
      · refine lv_tableIn (off := 369) (tgt := 402) hx hb dl_33 (by omega) (by omega) (by rw [hc]; rfl) (by decide) ?_
        exact lawcase (off := 1007) C0 G hX hbl hS hl hL oc1_6 oc2_6 oc3_6 (by decide) (by omega) (both_days gX gY x0 x1 y0 y1 R _) (by decide) (by decide) (by decide +kernel) (by decide +kernel) (by decide +kernel) (by decide +kernel) hP hPY hf next
      · refine lv_tableIn (off := 392) (tgt := 425) hx hb dl_33 (by omega) (by omega) (by rw [hc]; rfl) (by decide) ?_
        exact lawcase (off := 944) C0 G hX hbl hS hl hL oc1_7 oc2_7 oc3_7 (by decide) (by omega) (both_feed gX gY x0 x1 y0 y1 R _ _ _ _ _) (by decide) (by decide) (by decide +kernel) (by decide +kernel) (by decide +kernel) (by decide +kernel) hP hPY hf next
      · refine lv_tableIn (off := 455) (tgt := 488) hx hb dl_33 (by omega) (by omega) (by rw [hc]; rfl) (by decide) ?_
        exact lawcase (off := 921) C0 G hX hbl hS hl hL oc1_8 oc2_8 oc3_8 (by decide) (by omega) (both_end gX gY x0 x1 y0 y1 R _) (by decide) (by decide) (by decide +kernel) (by decide +kernel) (by decide +kernel) (by decide +kernel) hP hPY hf next
      · refine lv_tableIn (off := 478) (tgt := 511) hx hb dl_33 (by omega) (by omega) (by rw [hc]; rfl) (by decide) ?_
        exact lawcase (off := 898) C0 G hX hbl hS hl hL oc1_9 oc2_9 oc3_9 (by decide) (by omega) (both_text gX gY x0 x1 y0 y1 R _) (by decide) (by decide) (by decide +kernel) (by decide +kernel) (by decide +kernel) (by decide +kernel) hP hPY hf next
      · refine lv_tableIn (off := 501) (tgt := 534) hx hb dl_33 (by omega) (by omega) (by rw [hc]; rfl) (by decide) ?_
        exact lawcase (off := 875) C0 G hX hbl hS hl hL oc1_10 oc2_10 oc3_10 (by decide) (by omega) (both_fault gX gY x0 x1 y0 y1 R _) (by decide) (by decide) (by decide +kernel) (by decide +kernel) (by decide +kernel) (by decide +kernel) hP hPY hf next
      · refine lv_tableIn (off := 524) (tgt := 557) hx hb dl_33 (by omega) (by omega) (by rw [hc]; rfl) (by decide) ?_
        exact lawcase (off := 842) C0 G hX hbl hS hl hL oc1_11 oc2_11 oc3_11 (by decide) (by omega) (both_of gX gY x0 x1 y0 y1 R _ _) (by decide) (by decide) (by decide +kernel) (by decide +kernel) (by decide +kernel) (by decide +kernel) hP hPY hf next
      · refine lv_tableIn (off := 557) (tgt := 590) hx hb dl_33 (by omega) (by omega) (by rw [hc]; rfl) (by decide) ?_
        exact lawcase (off := 809) C0 G hX hbl hS hl hL oc1_12 oc2_12 oc3_12 (by decide) (by omega) (both_mile gX gY x0 x1 y0 y1 R _ _) (by decide) (by decide) (by decide +kernel) (by decide +kernel) (by decide +kernel) (by decide +kernel) hP hPY hf next
      · refine lv_tableIn (off := 590) (tgt := 623) hx hb dl_33 (by omega) (by omega) (by rw [hc]; rfl) (by decide) ?_
        exact lawcase (off := 776) C0 G hX hbl hS hl hL oc1_13 oc2_13 oc3_13 (by decide) (by omega) (both_shame gX gY x0 x1 y0 y1 R _ _) (by decide) (by decide) (by decide +kernel) (by decide +kernel) (by decide +kernel) (by decide +kernel) hP hPY hf next
      · refine lv_tableIn (off := 623) (tgt := 656) hx hb dl_33 (by omega) (by omega) (by rw [hc]; rfl) (by decide) ?_
        exact lawcase (off := 743) C0 G hX hbl hS hl hL oc1_14 oc2_14 oc3_14 (by decide) (by omega) (both_book gX gY x0 x1 y0 y1 R _ _) (by decide) (by decide) (by decide +kernel) (by decide +kernel) (by decide +kernel) (by decide +kernel) hP hPY hf next
      · refine lv_tableIn (off := 656) (tgt := 689) hx hb dl_33 (by omega) (by omega) (by rw [hc]; rfl) (by decide) ?_
        exact lawcase (off := 710) C0 G hX hbl hS hl hL oc1_15 oc2_15 oc3_15 (by decide) (by omega) (both_goes gX gY x0 x1 y0 y1 R _ _) (by decide) (by decide) (by decide +kernel) (by decide +kernel) (by decide +kernel) (by decide +kernel) hP hPY hf next
      · refine lv_tableIn (off := 689) (tgt := 722) hx hb dl_33 (by omega) (by omega) (by rw [hc]; rfl) (by decide) ?_
        exact lawcase (off := 677) C0 G hX hbl hS hl hL oc1_16 oc2_16 oc3_16 (by decide) (by omega) (both_far gX gY x0 x1 y0 y1 R _ _) (by decide) (by decide) (by decide +kernel) (by decide +kernel) (by decide +kernel) (by decide +kernel) hP hPY hf next
      · refine lv_tableIn (off := 722) (tgt := 755) hx hb dl_33 (by omega) (by omega) (by rw [hc]; rfl) (by decide) ?_
        exact lawcase (off := 654) C0 G hX hbl hS hl hL oc1_17 oc2_17 oc3_17 (by decide) (by omega) (both_next gX gY x0 x1 y0 y1 R _) (by decide) (by decide) (by decide +kernel) (by decide +kernel) (by decide +kernel) (by decide +kernel) hP hPY hf next
      · refine lv_tableIn (off := 745) (tgt := 778) hx hb dl_33 (by omega) (by omega) (by rw [hc]; rfl) (by decide) ?_
        exact lawcase (off := 621) C0 G hX hbl hS hl hL oc1_18 oc2_18 oc3_18 (by decide) (by omega) (both_want gX gY x0 x1 y0 y1 R _ _) (by decide) (by decide) (by decide +kernel) (by decide +kernel) (by decide +kernel) (by decide +kernel) hP hPY hf next
      · refine lv_tableIn (off := 778) (tgt := 811) hx hb dl_33 (by omega) (by omega) (by rw [hc]; rfl) (by decide) ?_
        exact lawcase (off := 588) C0 G hX hbl hS hl hL oc1_19 oc2_19 oc3_19 (by decide) (by omega) (both_serves gX gY x0 x1 y0 y1 R _ _) (by decide) (by decide) (by decide +kernel) (by decide +kernel) (by decide +kernel) (by decide +kernel) hP hPY hf next
      · refine lv_tableIn (off := 811) (tgt := 844) hx hb dl_33 (by omega) (by omega) (by rw [hc]; rfl) (by decide) ?_
        exact lawcase (off := 565) C0 G hX hbl hS hl hL oc1_20 oc2_20 oc3_20 (by decide) (by omega) (both_boats gX gY x0 x1 y0 y1 R _) (by decide) (by decide) (by decide +kernel) (by decide +kernel) (by decide +kernel) (by decide +kernel) hP hPY hf next
      · refine lv_tableIn (off := 834) (tgt := 867) hx hb dl_33 (by omega) (by omega) (by rw [hc]; rfl) (by decide) ?_
        exact lawcase (off := 522) C0 G hX hbl hS hl hL oc1_21 oc2_21 oc3_21 (by decide) (by omega) (both_talk gX gY x0 x1 y0 y1 R _ _ _) (by decide) (by decide) (by decide +kernel) (by decide +kernel) (by decide +kernel) (by decide +kernel) hP hPY hf next
      · refine lv_tableIn (off := 877) (tgt := 910) hx hb dl_33 (by omega) (by omega) (by rw [hc]; rfl) (by decide) ?_
        exact lawcase (off := 479) C0 G hX hbl hS hl hL oc1_22 oc2_22 oc3_22 (by decide) (by omega) (both_said gX gY x0 x1 y0 y1 R _ _ _) (by decide) (by decide) (by decide +kernel) (by decide +kernel) (by decide +kernel) (by decide +kernel) hP hPY hf next
      · refine lv_tableIn (off := 920) (tgt := 953) hx hb dl_33 (by omega) (by omega) (by rw [hc]; rfl) (by decide) ?_
        exact lawcase (off := 446) C0 G hX hbl hS hl hL oc1_23 oc2_23 oc3_23 (by decide) (by omega) (both_did gX gY x0 x1 y0 y1 R _ _) (by decide) (by decide) (by decide +kernel) (by decide +kernel) (by decide +kernel) (by decide +kernel) hP hPY hf next
      · refine lv_tableIn (off := 953) (tgt := 986) hx hb dl_33 (by omega) (by omega) (by rw [hc]; rfl) (by decide) ?_
        exact lawcase (off := 423) C0 G hX hbl hS hl hL oc1_24 oc2_24 oc3_24 (by decide) (by omega) (both_fits gX gY x0 x1 y0 y1 R _) (by decide) (by decide) (by decide +kernel) (by decide +kernel) (by decide +kernel) (by decide +kernel) hP hPY hf next
      · refine lv_tableIn (off := 976) (tgt := 1009) hx hb dl_33 (by omega) (by omega) (by rw [hc]; rfl) (by decide) ?_
        exact lawcase (off := 390) C0 G hX hbl hS hl hL oc1_25 oc2_25 oc3_25 (by decide) (by omega) (both_deed gX gY x0 x1 y0 y1 R _ _) (by decide) (by decide) (by decide +kernel) (by decide +kernel) (by decide +kernel) (by decide +kernel) hP hPY hf next
      · refine lv_tableIn (off := 1009) (tgt := 1042) hx hb dl_33 (by omega) (by omega) (by rw [hc]; rfl) (by decide) ?_
        exact lawcase (off := 357) C0 G hX hbl hS hl hL oc1_26 oc2_26 oc3_26 (by decide) (by omega) (both_ownsUp gX gY x0 x1 y0 y1 R _ _) (by decide) (by decide) (by decide +kernel) (by decide +kernel) (by decide +kernel) (by decide +kernel) hP hPY hf next
      · refine lv_tableIn (off := 1042) (tgt := 1075) hx hb dl_33 (by omega) (by omega) (by rw [hc]; rfl) (by decide) ?_
        exact lawcase (off := 334) C0 G hX hbl hS hl hL oc1_27 oc2_27 oc3_27 (by decide) (by omega) (both_price gX gY x0 x1 y0 y1 R _) (by decide) (by decide) (by decide +kernel) (by decide +kernel) (by decide +kernel) (by decide +kernel) hP hPY hf next
      · refine lv_tableIn (off := 1065) (tgt := 1098) hx hb dl_33 (by omega) (by omega) (by rw [hc]; rfl) (by decide) ?_
        exact lawcase (off := 311) C0 G hX hbl hS hl hL oc1_28 oc2_28 oc3_28 (by decide) (by omega) (both_prices gX gY x0 x1 y0 y1 R _) (by decide) (by decide) (by decide +kernel) (by decide +kernel) (by decide +kernel) (by decide +kernel) hP hPY hf next
      · refine lv_tableIn (off := 1088) (tgt := 1121) hx hb dl_33 (by omega) (by omega) (by rw [hc]; rfl) (by decide) ?_
        exact lawcase (off := 268) C0 G hX hbl hS hl hL oc1_29 oc2_29 oc3_29 (by decide) (by omega) (both_lamp gX gY x0 x1 y0 y1 R _ _ _) (by decide) (by decide) (by decide +kernel) (by decide +kernel) (by decide +kernel) (by decide +kernel) hP hPY hf next
      · refine lv_tableIn (off := 1131) (tgt := 1164) hx hb dl_33 (by omega) (by omega) (by rw [hc]; rfl) (by decide) ?_
        exact lawcase (off := 235) C0 G hX hbl hS hl hL oc1_30 oc2_30 oc3_30 (by decide) (by omega) (both_reads gX gY x0 x1 y0 y1 R _ _) (by decide) (by decide) (by decide +kernel) (by decide +kernel) (by decide +kernel) (by decide +kernel) hP hPY hf next
      · refine lv_tableIn (off := 1164) (tgt := 1197) hx hb dl_33 (by omega) (by omega) (by rw [hc]; rfl) (by decide) ?_
        exact lawcase (off := 202) C0 G hX hbl hS hl hL oc1_31 oc2_31 oc3_31 (by decide) (by omega) (both_odds gX gY x0 x1 y0 y1 R _ _) (by decide) (by decide) (by decide +kernel) (by decide +kernel) (by decide +kernel) (by decide +kernel) hP hPY hf next
      · refine lv_tableIn (off := 1197) (tgt := 1230) hx hb dl_33 (by omega) (by omega) (by rw [hc]; rfl) (by decide) ?_
        exact lawcase (off := 169) C0 G hX hbl hS hl hL oc1_32 oc2_32 oc3_32 (by decide) (by omega) (both_strength gX gY x0 x1 y0 y1 R _ _) (by decide) (by decide) (by decide +kernel) (by decide +kernel) (by decide +kernel) (by decide +kernel) hP hPY hf next
      · refine lv_tableIn (off := 1230) (tgt := 1263) hx hb dl_33 (by omega) (by omega) (by rw [hc]; rfl) (by decide) ?_
        exact lawcase (off := 146) C0 G hX hbl hS hl hL oc1_33 oc2_33 oc3_33 (by decide) (by omega) (both_sleeps gX gY x0 x1 y0 y1 R _) (by decide) (by decide) (by decide +kernel) (by decide +kernel) (by decide +kernel) (by decide +kernel) hP hPY hf next
      · refine lv_tableIn (off := 1253) (tgt := 1286) hx hb dl_33 (by omega) (by omega) (by rw [hc]; rfl) (by decide) ?_
        exact lawcase (off := 103) C0 G hX hbl hS hl hL oc1_34 oc2_34 oc3_34 (by decide) (by omega) (both_meets gX gY x0 x1 y0 y1 R _ _ _) (by decide) (by decide) (by decide +kernel) (by decide +kernel) (by decide +kernel) (by decide +kernel) hP hPY hf next
      · refine lv_tableIn (off := 1296) (tgt := 1329) hx hb dl_33 (by omega) (by omega) (by rw [hc]; rfl) (by decide) ?_
        exact lawcase (off := 80) C0 G hX hbl hS hl hL oc1_35 oc2_35 oc3_35 (by decide) (by omega) (both_game gX gY x0 x1 y0 y1 R _) (by decide) (by decide) (by decide +kernel) (by decide +kernel) (by decide +kernel) (by decide +kernel) hP hPY hf next
      · refine lv_tableIn (off := 1319) (tgt := 1352) hx hb dl_33 (by omega) (by omega) (by rw [hc]; rfl) (by decide) ?_
        exact lawcase (off := 67) C0 G hX hbl hS hl hL oc1_36 oc2_36 oc3_36 (by decide) (by omega) (both_undo gX gY x0 x1 y0 y1 R ) (by decide) (by decide) (by decide +kernel) (by decide +kernel) (by decide +kernel) (by decide +kernel) hP hPY hf next
      · refine lv_tableIn (off := 1332) (tgt := 1365) hx hb dl_33 (by omega) (by omega) (by rw [hc]; rfl) (by decide) ?_
        exact himg i H locs lsR σ τ hi R hP hPY hS hl next
      · refine lv_tableIn (off := 1371) (tgt := 1404) hx hb dl_33 (by omega) (by omega) (by rw [hc]; rfl) (by decide) ?_
        exact lawcase (off := 5) C0 G hX hbl hS hl hL oc1_38 oc2_38 oc3_38 (by decide) (by omega) (both_look gX gY x0 x1 y0 y1 R _) (by decide) (by decide) (by decide +kernel) (by decide +kernel) (by decide +kernel) (by decide +kernel) hP hPY hf next
/-- the law's loop: from 18, with the worlds in step, to 1433 -/
theorem law_loop2 {p : Program} {l : Launch} {e : Env} {s : State} {m : MethodId} {args : Array Value} {below : List Frame} {meth : Method} {c : Code} {cells slots : Nat} {Q : State → Prop} {A : Nat → Prop} {b L : Nat} {xs : Nat → Int32} {X Y : CXT} (C0 : LawC p s m args c) (G : Wrld X Y s A) (hX : va_X b L xs s s.heap) (hbl : b < s.heap.size) (hL : L ≤ 3072) (hf : cells ≤ room_1.cells ∧ slots ≤ room_1.slots)
    (hend : ∀ (H : Heap) (locs : List Loc) (lsR : Array Slot), va_S A s.heap H locs → W p l e room_1 s m args below meth c H locs cells slots Q (F0 m 1433 lsR [])) (k i : Nat) (H : Heap) (locs : List Loc) (lsR : Array Slot) (σ τ : Mem) (h1 : i ≤ L) (h2 : L < i + k) (R : RC σ τ) (hP : va_P (xD X) vwCl (wl X σ) H) (hPY : va_P (xD Y) vwCl (wl Y τ) H) (hS : va_S A s.heap H locs) (hl : lv_has lsR 4 (LVs b (xad X 0) (xad Y 0) i)) : W p l e room_1 s m args below meth c H locs cells slots Q (F0 m 18 lsR []) :=
  law_loop_open C0 G hX hbl hL hf hend (fun i H locs lsR σ τ hi R hP hPY hS hl kk => lawimg C0 G hX hbl hS hl hL hi R hP hPY hf kk) k i H locs lsR σ τ h1 h2 R hP hPY hS hl
