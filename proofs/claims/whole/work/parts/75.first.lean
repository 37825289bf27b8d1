/-! THE FIRST WORLDS: the cells that the constructors leave, as the contexts' cells; class and model in step -/
def mz (L : List ICE) : Mem := (fun k j => ((L[k]?).getD (0, 0, z0)).2.2 j, fun _ _ => 0)
def okV (lay : List (Nat × Nat)) : Bool := (List.range lay.length).all fun k =>
  (let t := ((lay[k]?).getD (0, 0)).1
   if t < 100 then (List.range (nF t)).all fun j => (match fkd FT0 t j with
     | (2, _, u, v) => decide (v ≤ k + u)
     | _ => true)
   else decide (t ≤ 105))
theorem okV_C : okV layC = true := by decide +kernel
theorem okV_M : okV layM = true := by decide +kernel
theorem lay_C : LPtf.map (fun x => (x.1, x.2.1)) = layC := by decide +kernel
theorem lay_M : LModel.map (fun x => (x.1, x.2.1)) = layM := by decide +kernel
def mkQ (D : va_G) (q : Nat) (ea sa va : Nat → Nat) (lay : List (Nat × Nat)) (dA : Nat → ClassId) (no : Option Nat) : CXT := mkX D (fun k => q + k) ea sa va lay dA no
theorem Pie.wl {D : va_G} {dA : Nat → ClassId} {q : Nat} {L : List ICE} {H : Heap} {ea sa va : Nat → Nat} {lay : List (Nat × Nat)} {no : Option Nat} (h : Pie D dA q L H) (hl : L.map (fun x => (x.1, x.2.1)) = lay) (hv : okV lay = true) : va_P D vwCl (wl (mkQ D q ea sa va lay dA no) (mz L)) H := by
  intro k w hw
  have hN : xN (mkQ D q ea sa va lay dA no) = L.length := by
    show lay.length = _
    rw [← hl, List.length_map]
  have hk : k < L.length := by
    have h1 := (List.getElem?_eq_some_iff.mp hw).1
    rw [wl_len, hN] at h1
    exact h1
  rw [wl_get (by rw [hN]; exact hk)] at hw
  cases hw
  have hx := List.getElem?_eq_getElem hk
  generalize L[k] = x at hx
  have hat := h k x hx
  have hlk : lay[k]? = some (x.1, x.2.1) := by rw [← hl, List.getElem?_map, hx]; rfl
  have htg : xtg (mkQ D q ea sa va lay dA no) k = x.1 := by
    show ((lay[k]?).getD (0, 0)).1 = _
    rw [hlk]
    rfl
  have hln : xlen (mkQ D q ea sa va lay dA no) k = x.2.1 := by
    show ((lay[k]?).getD (0, 0)).2 = _
    rw [hlk]
    rfl
  have hs1 : (mz L).1 k = x.2.2 := by
    show (fun j => ((L[k]?).getD (0, 0, z0)).2.2 j) = _
    rw [hx]
    rfl
  have hok := List.all_eq_true.mp hv k (List.mem_range.mpr (by rw [← hl, List.length_map]; exact hk))
  dsimp only at hok
  rw [hlk] at hok
  have hok : (if x.1 < 100 then (List.range (nF x.1)).all fun j => (match fkd FT0 x.1 j with
     | (2, _, u, v) => decide (v ≤ k + u)
     | _ => true) else decide (x.1 ≤ 105)) = true := hok
  show va_at D vwCl (q + k, cell (mkQ D q ea sa va lay dA no) (mz L) k) H
  have e : cell (mkQ D q ea sa va lay dA no) (mz L) k = ic dA (q + k) x := by
    unfold cell ic
    rw [htg, hln, hs1]
    by_cases h1 : x.1 < 100
    · rw [if_pos h1, if_pos h1]
      rw [if_pos h1] at hok
      congr 2
      unfold fic
      refine List.map_congr_left (fun j hj => ?_)
      have hj1 := List.all_eq_true.mp hok j hj
      unfold fval
      generalize hfk : fkd FT0 x.1 j = r at hj1
      obtain ⟨a, f, u, v⟩ := r
      rcases (show a = 1 ∨ a = 2 ∨ (a ≠ 1 ∧ a ≠ 2) by omega) with rfl | rfl | ⟨n1, n2⟩
      · rfl
      · have hv2 : v ≤ k + u := of_decide_eq_true hj1
        show Value.ref (q + (k + u - v)) = .ref (q + k + u - v)
        rw [show q + (k + u - v) = q + k + u - v by omega]
      · have e1 : rI (mz L) k j = x.2.2 j := by
          show (mz L).1 k j = _
          rw [hs1]
        split
        · rename_i h
          exact absurd (congrArg Prod.fst h) n1
        · rename_i h
          exact absurd (congrArg Prod.fst h) n2
        · split
          · rename_i h
            exact absurd (congrArg Prod.fst h) n1
          · rename_i h
            exact absurd (congrArg Prod.fst h) n2
          · rw [e1]
    · rw [if_neg h1, if_neg h1]
      rw [if_neg h1] at hok
      have h5 : x.1 ≤ 105 := of_decide_eq_true hok
      by_cases h3 : x.1 = 103
      · rw [if_pos h3, if_pos h3]
        rfl
      rw [if_neg h3, if_neg h3]
      by_cases h4 : x.1 = 104
      · rw [if_pos h4, if_pos h4]
        show (Sum.inl (dA 4, x.2.1, .inr (.inr (.inr (.inr (fun i => some (q + (k + 1 + 5 * i))))))) : va_E) = _
        rw [show (fun i : Nat => some (q + (k + 1 + 5 * i))) = (fun i => some (q + k + 1 + 5 * i)) from funext fun i => congrArg some (by omega)]
      rw [if_neg h4, if_neg h4]
      by_cases h55 : x.1 = 105
      · rw [if_pos h55, if_pos h55]
        show (Sum.inl (dA 5, x.2.1, .inr (.inr (.inr (.inr (fun i => some (q + (k + 1 + i))))))) : va_E) = _
        rw [show (fun i : Nat => some (q + (k + 1 + i))) = (fun i => some (q + k + 1 + i)) from funext fun i => congrArg some (by omega)]
      rw [if_neg h55, if_neg h55, if_neg (by omega)]
      rfl
  rw [e]
  exact hat
/-! the relation at the start -/
theorem zm_1 : (-1 : Int32) = zi (-1) := rfl
theorem bt_z {i : Int} (h0 : 0 ≤ i) (h1 : i < 32) : bt 0 i = zi 0 := by
  rw [bt_eq h0 h1]
  unfold bb
  simp
set_option maxRecDepth 100000 in
theorem f_RP : RP 2 (mz LPtf) (rd (mz LModel) 1) 0 := by
  refine ⟨⟨by omega, by omega⟩, ⟨rfl, rfl, rfl, rfl⟩, ⟨0, by omega, by omega, zl_0, zl_0, fun m _ _ => zl_0⟩, ⟨0, by omega, by omega, zl_0, zl_0⟩, fun m h1 h2 => ?_, fun i h1 h2 => by omega, fun i _ _ => ⟨-1, 0, zm_1, by omega, by omega, zl_0, by omega, by omega⟩, fun i _ _ => ⟨zm_1, zl_0, zl_0⟩⟩
  have e1 : rd (mz LModel) 1 (6 + m / 30) = 0 := rfl
  have e2 : rd (mz LPtf) (2 + 1) m = zi 0 := zl_0
  rw [e1, e2, bt_z (by omega) (by omega), ite_self]
set_option maxRecDepth 100000 in
theorem f_RT : RT 7 (mz LPtf) (rd (mz LModel) 1) 0 := by
  refine ⟨⟨by omega, by omega, zl_0, zl_0⟩, ⟨⟨0, by omega, by omega, zl_0, zl_0⟩, rfl⟩, fun i h1 h2 => by omega, ⟨0, by omega, by omega, zl_0, zl_0, fun i h1 h2 => by omega⟩, ⟨0, by omega, by omega, zl_0, zl_0, fun i h1 h2 => by omega⟩, ⟨0, by omega, by omega, zl_0, zl_0, fun i h1 h2 => by omega⟩, ?_⟩
  exact ⟨0, 0, 0, by omega, by omega, by omega, by omega, by omega, by omega, zl_0, zl_0, zl_0, fun i h1 h2 => by omega⟩
set_option maxRecDepth 100000 in
theorem f_RH : RH 30 (mz LPtf) (rd (mz LModel) 1) := by
  refine ⟨⟨0, by omega, by omega, zl_0, zl_0, fun i h1 h2 => by omega⟩, ⟨0, by omega, by omega, zl_0, zl_0, fun i h1 h2 => by omega⟩, ⟨0, by omega, by omega, zl_0, zl_0, fun i h1 h2 => by omega⟩, ⟨0, by omega, by omega, zl_0, zl_0, fun i h1 h2 => by omega⟩, ⟨0, by omega, by omega, zl_0, zl_0, fun i h1 h2 => by omega⟩, ⟨0, by omega, by omega, zl_0, zl_0, fun i h1 h2 => by omega⟩, fun i _ _ => ⟨0, 0, by omega, by omega, by omega, by decide, zl_0, zl_0, zl_0, zl_0⟩, fun i _ _ => ⟨0, by omega, by omega, zl_0, zl_0⟩⟩
set_option maxRecDepth 100000 in
theorem first_RC : RC (mz LPtf) (mz LModel) := by
  refine ⟨⟨0, ⟨f_RP, f_RT, f_RH, fun i _ _ => rfl⟩, ⟨⟨0, by omega, by omega, zl_0⟩, ⟨0, by omega, by omega, zl_0⟩⟩, ⟨0, 0, by omega, by omega, by omega, by omega, zl_0, zl_0, zl_0, fun j h1 h2 => by omega⟩⟩, ⟨0, zl_0, zl_0, Or.inl rfl⟩, ⟨⟨0, by omega, by omega, zl_0, zl_0, fun i h1 h2 => by omega⟩, rfl, rfl⟩, zl_0, zl_1, zl_0⟩
