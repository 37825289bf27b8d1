/-! BITS of an int -/
def bt (x : Int32) (i : Int) : Int32 := (x >>> zi i) &&& zi 1
def bb (x : Int32) (i : Int) : Bool := x.toBitVec.getLsbD i.toNat
theorem zi_and31 {a : Int} (h1 : 0 ≤ a) (h2 : a < 32) : zi a &&& zi 31 = zi a := by
  obtain ⟨n, rfl⟩ : ∃ n : Nat, a = n := ⟨a.toNat, by omega⟩
  have h : ∀ i : Fin 32, zi ((i.val : Nat) : Int) &&& zi 31 = zi ((i.val : Nat) : Int) := by decide +kernel
  exact h ⟨n, by omega⟩
theorem smod32 : ∀ i : Fin 32, ((zi ((i.val : Nat) : Int)).toBitVec.smod 32) = BitVec.ofNat 32 i.val := by decide +kernel
theorem bt_eq {x : Int32} {i : Int} (h1 : 0 ≤ i) (h2 : i < 32) : bt x i = if bb x i then zi 1 else zi 0 := by
  obtain ⟨n, rfl⟩ : ∃ n : Nat, i = n := ⟨i.toNat, by omega⟩
  have hn : n < 32 := by omega
  have e : (bt x n).toBitVec = x.toBitVec.sshiftRight n &&& 1#32 := by
    show ((x >>> zi n) &&& zi 1).toBitVec = _
    rw [Int32.toBitVec_and, Int32.toBitVec_shiftRight, smod32 ⟨n, hn⟩]
    unfold BitVec.sshiftRight'
    rw [BitVec.toNat_ofNat, Nat.mod_eq_of_lt (by omega)]
    rfl
  apply Int32.toBitVec.inj
  rw [e]
  unfold bb
  rw [show ((n : Int)).toNat = n by omega]
  apply BitVec.eq_of_getLsbD_eq
  intro j hj
  rw [BitVec.getLsbD_and, BitVec.getLsbD_one, BitVec.getLsbD_sshiftRight]
  by_cases h0 : j = 0
  · subst h0
    simp only [Nat.add_zero, hn, if_true]
    cases hb : x.toBitVec.getLsbD n
    · simp; decide
    · simp; decide
  · simp only [h0, decide_false, Bool.and_false]
    cases hb : x.toBitVec.getLsbD n
    · simp only [Bool.false_eq_true, if_false]
      show false = (0#32).getLsbD j
      simp
    · simp only [if_true]
      show false = (1#32).getLsbD j
      rw [BitVec.getLsbD_one]
      simp [h0]
theorem sh1 {j : Int} (h1 : 0 ≤ j) (h2 : j < 32) : (zi 1 <<< zi j).toBitVec = 1#32 <<< j.toNat := by
  obtain ⟨n, rfl⟩ : ∃ n : Nat, j = n := ⟨j.toNat, by omega⟩
  rw [Int32.toBitVec_shiftLeft, smod32 ⟨n, by omega⟩]
  rw [show ((n : Int)).toNat = n by omega]
  show 1#32 <<< (BitVec.ofNat 32 n) = _
  rw [BitVec.shiftLeft_eq', BitVec.toNat_ofNat, Nat.mod_eq_of_lt (by omega)]
theorem sh1_bit {j : Nat} {i : Nat} (h1 : j < 32) (h2 : i < 32) : (1#32 <<< j).getLsbD i = decide (i = j) := by
  rw [BitVec.getLsbD_shiftLeft, BitVec.getLsbD_one]
  by_cases h : i = j
  · subst h; simp [h1]
  · by_cases h' : i < j
    · simp [h, h']
    · have : i - j ≠ 0 := by omega
      simp [h, h', this]
theorem bb_or {x : Int32} {i j : Int} (h1 : 0 ≤ i) (h2 : i < 32) (h3 : 0 ≤ j) (h4 : j < 32) : bb (x ||| (zi 1 <<< zi j)) i = (bb x i || decide (i = j)) := by
  unfold bb
  rw [Int32.toBitVec_or, BitVec.getLsbD_or, sh1 h3 h4, sh1_bit (by omega) (by omega)]
  congr 1
  rw [decide_eq_decide]
  omega
theorem bb_clr {x : Int32} {i j : Int} (h1 : 0 ≤ i) (h2 : i < 32) (h3 : 0 ≤ j) (h4 : j < 32) : bb (x &&& ((zi 1 <<< zi j) ^^^ zi (-1))) i = (bb x i && !decide (i = j)) := by
  unfold bb
  rw [Int32.toBitVec_and, BitVec.getLsbD_and, Int32.toBitVec_xor, BitVec.getLsbD_xor, sh1 h3 h4, sh1_bit (by omega) (by omega)]
  have e : (zi (-1)).toBitVec = BitVec.allOnes 32 := by decide
  rw [e, BitVec.getLsbD_allOnes]
  have e2 : decide (i.toNat < 32) = true := by simp; omega
  rw [e2, Bool.xor_true]
  congr 2
  rw [decide_eq_decide]
  omega
theorem bt_or {x : Int32} {i j : Int} (h1 : 0 ≤ i) (h2 : i < 32) (h3 : 0 ≤ j) (h4 : j < 32) : bt (x ||| (zi 1 <<< zi j)) i = if i = j then zi 1 else bt x i := by
  rw [bt_eq h1 h2, bt_eq h1 h2, bb_or h1 h2 h3 h4]
  by_cases h : i = j <;> simp [h]
theorem bt_clr {x : Int32} {i j : Int} (h1 : 0 ≤ i) (h2 : i < 32) (h3 : 0 ≤ j) (h4 : j < 32) : bt (x &&& ((zi 1 <<< zi j) ^^^ zi (-1))) i = if i = j then zi 0 else bt x i := by
  rw [bt_eq h1 h2, bt_eq h1 h2, bb_clr h1 h2 h3 h4]
  by_cases h : i = j <;> simp [h]
theorem bt_01 {x : Int32} {i : Int} (h1 : 0 ≤ i) (h2 : i < 32) : bt x i = zi 0 ∨ bt x i = zi 1 := by
  rw [bt_eq h1 h2]
  cases bb x i <;> simp
