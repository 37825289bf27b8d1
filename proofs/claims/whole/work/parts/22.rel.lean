/-! THE RELATION between the class's memory and the model's -/
def RP (p : Nat) (s : Mem) (W : Int → Int32) (N : Int) : Prop :=
  (0 ≤ N ∧ N ≤ 12) ∧ (rI s p 5 = W 4 ∧ rI s p 7 = W 1 ∧ rI s p 8 = W 2 ∧ rI s p 9 = W 3) ∧
  (∃ L : Int, 0 ≤ L ∧ L ≤ 200 ∧ rI s p 6 = zi L ∧ W 0 = zi L ∧ ∀ m : Int, L ≤ m → m < 200 → rd s (p + 1) m = zi 0) ∧
  (∃ B : Int, 0 ≤ B ∧ B ≤ 150 ∧ rI s p 10 = zi B ∧ W 5 = zi B) ∧
  (∀ m : Int, 0 ≤ m → m < 210 → bt (W (6 + m / 30)) (m - m / 30 * 30) = if m < 200 then rd s (p + 1) m else zi 0) ∧
  (∀ i : Int, 0 ≤ i → i < N → W (13 + i) = rd s (p + 2) i ∧ W (25 + i) = rd s (p + 3) i ∧ W (37 + i) = rd s (p + 4) i) ∧
  (∀ i : Int, 0 ≤ i → i < 12 → ∃ a o : Int, rd s (p + 2) i = zi a ∧ -1 ≤ a ∧ a ≤ 199 ∧ rd s (p + 3) i = zi o ∧ 0 ≤ o ∧ o ≤ 1) ∧
  (∀ i : Int, N ≤ i → i < 12 → rd s (p + 2) i = zi (-1) ∧ rd s (p + 3) i = zi 0 ∧ rd s (p + 4) i = zi 0)
/-- an op of THE LAW: kind and number -/
abbrev Op : Type := Int × Int
def encC (o : Op) : List Int :=
  if o.1 = 0 then [o.2] else if o.1 ≤ 10 then [9999 + o.1] else if o.1 = 26 then [o.2, -4] else if o.1 = 23 then [-1] else if o.1 = 24 then [-2] else if o.1 = 25 then [-3]
  else if o.1 = 27 then [-5] else if o.1 = 28 then [-6] else if o.1 = 29 then [-7] else if o.1 = 30 then [-10] else if o.1 = 31 then [-8] else [-9]
/-- the ops c stand from p on in the model's row of steps; in the class's -/
def stM (W : Int → Int32) (p : Int) : List Op → Prop
  | [] => True
  | o :: c => W (2 * p) = zi o.1 ∧ W (2 * p + 1) = zi o.2 ∧ stM W (p + 1) c
def stC (f : Int → Int32) (q : Int) : List Int → Prop
  | [] => True
  | x :: c => f q = zi x ∧ stC f (q + 1) c
def encL : List Op → List Int
  | [] => []
  | o :: c => encC o ++ encL c
/-- an op that may stand: its bounds -/
def opOk (o : Op) : Prop := (o.1 = 0 ∧ 0 ≤ o.2 ∧ o.2 ≤ 9999) ∨ (1 ≤ o.1 ∧ o.1 ≤ 10) ∨ (o.1 = 26 ∧ 1 ≤ o.2 ∧ o.2 ≤ 9999) ∨ (23 ≤ o.1 ∧ o.1 ≤ 25) ∨ (27 ≤ o.1 ∧ o.1 ≤ 32)
def i01 (b : Bool) : Int32 := if b then zi 1 else zi 0
noncomputable def opTwo (k : Int) (a b : Int32) : Int32 :=
  if k = 23 then a + b else if k = 24 then a - b else if k = 25 then a * b else if k = 27 then cif (a < b) (zi 1) (zi 0) else if k = 28 then cif (a = b) (zi 1) (zi 0) else if k = 29 then cif (b < a) (zi 1) (zi 0) else if k = 31 then a &&& b else a ||| b
/-- ops run on a pile of at most 60 -/
noncomputable def rnO (F : Int → Int32) (o : Op) (st : List Int32) : Option (List Int32) :=
  if o.1 = 0 then (if st.length < 60 then some (zi o.2 :: st) else none) else if o.1 ≤ 10 then (if st.length < 60 then some (F o.1 :: st) else none)
  else if o.1 = 26 then (match st with
    | a :: st => some (a / zi o.2 :: st)
    | _ => none)
  else if o.1 = 30 then (match st with
    | a :: st => some ((zi 1 - a) :: st)
    | _ => none)
  else (match st with
    | b :: a :: st => some (opTwo o.1 a b :: st)
    | _ => none)
noncomputable def rn (F : Int → Int32) : List Op → List Int32 → Option (List Int32)
  | [], st => some st
  | o :: c, st => (rnO F o st).bind (rn F c)
/-- c is worked to one number more, on a pile that has room for d; a truth (0, 1), if b -/
def Cod (c : List Op) (d : Nat) (b : Bool) : Prop := (∀ o ∈ c, opOk o) ∧ ∀ F : Int → Int32, ∃ v : Int32, (b = true → v = zi 0 ∨ v = zi 1) ∧ ∀ st : List Int32, st.length + d ≤ 60 → rn F c st = some (v :: st)
/-- THE LAW: its lines -/
def RL1 (l : Nat) (s : Mem) (W : Int → Int32) : Prop :=
  ∃ n u v : Int, 0 ≤ n ∧ n ≤ 16 ∧ 0 ≤ u ∧ u ≤ 400 ∧ 0 ≤ v ∧ v ≤ 400 ∧ rI s l 7 = zi n ∧ W 52 = zi n ∧ rI s l 6 = zi u ∧
  ∀ i : Int, 0 ≤ i → i < n → ∃ (w f m t a b c : Int) (e k : List Op), 0 ≤ w ∧ w ≤ 2 ∧ W (1014 + i) = zi (20 + w) ∧ rd s (l + 1) i = zi w ∧
    0 ≤ f ∧ m = f + e.length ∧ t = m + k.length ∧ t ≤ v ∧ W (966 + i) = zi f ∧ W (982 + i) = zi m ∧ W (998 + i) = zi t ∧
    0 ≤ a ∧ b = a + (encL e).length ∧ c = b + (encL k).length ∧ c ≤ u ∧ rd s (l + 2) i = zi a ∧ rd s (l + 3) i = zi b ∧ rd s (l + 4) i = zi c ∧
    stM (fun z => W (1030 + z)) f (e ++ k) ∧ stC (fun z => rd s (l + 5) z) a (encL e ++ encL k) ∧ Cod e 10 false ∧ (k = [] ∨ Cod k 50 true)
def RHa (h : Nat) (s : Mem) (W : Int → Int32) : Prop := ∃ c : Int, 0 ≤ c ∧ c ≤ 20 ∧ rI s (h + 1) 3 = zi c ∧ W 56 = zi c ∧ ∀ i : Int, 0 ≤ i → i < c → ∃ a : Int, 0 ≤ a ∧ a ≤ 199 ∧ rd s (h + 2) i = zi a ∧ W (210 + i) = zi a
theorem RHa.cg {h : Nat} {s s' : Mem} {W W' : Int → Int32} (H : RHa h s W) (hs : ∀ k j : Nat, h + 1 ≤ k → k ≤ h + 2 → rI s' k j = rI s k j) (hw : ∀ z : Int, z = 56 ∨ (210 ≤ z ∧ z < 230) → W' z = W z) : RHa h s' W' := by
  have e : ∀ (k : Nat) (z : Int), h + 1 ≤ k → k ≤ h + 2 → rd s' k z = rd s k z := fun k z a b => hs k z.toNat a b
  obtain ⟨a, a1, a2, a3, a4, a5⟩ := H
  refine ⟨a, a1, a2, ?_, ?_, ?_⟩
  · simp (disch := omega) only [hs]; exact a3
  · simp (disch := omega) only [hw]; exact a4
  · intro i i1 i2; simp (disch := omega) only [e, hw]; exact a5 i i1 i2
def RHb (h : Nat) (s : Mem) (W : Int → Int32) : Prop := ∃ c : Int, 0 ≤ c ∧ c ≤ 10 ∧ rI s (h + 5) 3 = zi c ∧ W 57 = zi c ∧ ∀ i : Int, 0 ≤ i → i < c → ∃ a : Int, 0 ≤ a ∧ a ≤ 199 ∧ rd s (h + 6) i = zi a ∧ W (230 + i) = zi a
theorem RHb.cg {h : Nat} {s s' : Mem} {W W' : Int → Int32} (H : RHb h s W) (hs : ∀ k j : Nat, h + 5 ≤ k → k ≤ h + 6 → rI s' k j = rI s k j) (hw : ∀ z : Int, z = 57 ∨ (230 ≤ z ∧ z < 240) → W' z = W z) : RHb h s' W' := by
  have e : ∀ (k : Nat) (z : Int), h + 5 ≤ k → k ≤ h + 6 → rd s' k z = rd s k z := fun k z a b => hs k z.toNat a b
  obtain ⟨a, a1, a2, a3, a4, a5⟩ := H
  refine ⟨a, a1, a2, ?_, ?_, ?_⟩
  · simp (disch := omega) only [hs]; exact a3
  · simp (disch := omega) only [hw]; exact a4
  · intro i i1 i2; simp (disch := omega) only [e, hw]; exact a5 i i1 i2
def RHc (h : Nat) (s : Mem) (W : Int → Int32) : Prop := ∃ c : Int, 0 ≤ c ∧ c ≤ 16 ∧ rI s (h + 9) 3 = zi c ∧ W 58 = zi c ∧ ∀ i : Int, 0 ≤ i → i < c → ∃ a b d : Int, 0 ≤ a ∧ a ≤ 9 ∧ 0 ≤ b ∧ b ≤ 9 ∧ 0 ≤ d ∧ d ≤ 199 ∧ rd s (h + 10) i = zi a ∧ W (240 + 3 * i) = zi a ∧ rd s (h + 11) i = zi b ∧ W (240 + 3 * i + 1) = zi b ∧ rd s (h + 12) i = zi d ∧ W (240 + 3 * i + 2) = zi d
theorem RHc.cg {h : Nat} {s s' : Mem} {W W' : Int → Int32} (H : RHc h s W) (hs : ∀ k j : Nat, h + 9 ≤ k → k ≤ h + 12 → rI s' k j = rI s k j) (hw : ∀ z : Int, z = 58 ∨ (240 ≤ z ∧ z < 288) → W' z = W z) : RHc h s' W' := by
  have e : ∀ (k : Nat) (z : Int), h + 9 ≤ k → k ≤ h + 12 → rd s' k z = rd s k z := fun k z a b => hs k z.toNat a b
  obtain ⟨a, a1, a2, a3, a4, a5⟩ := H
  refine ⟨a, a1, a2, ?_, ?_, ?_⟩
  · simp (disch := omega) only [hs]; exact a3
  · simp (disch := omega) only [hw]; exact a4
  · intro i i1 i2; simp (disch := omega) only [e, hw]; exact a5 i i1 i2
def RHd (h : Nat) (s : Mem) (W : Int → Int32) : Prop := ∃ c : Int, 0 ≤ c ∧ c ≤ 12 ∧ rI s (h + 13) 3 = zi c ∧ W 59 = zi c ∧ ∀ i : Int, 0 ≤ i → i < c → ∃ a b : Int, 0 ≤ a ∧ a ≤ 11 ∧ 0 ≤ b ∧ b ≤ 200 ∧ rd s (h + 14) i = zi a ∧ W (288 + 2 * i) = zi a ∧ rd s (h + 15) i = zi b ∧ W (288 + 2 * i + 1) = zi b
theorem RHd.cg {h : Nat} {s s' : Mem} {W W' : Int → Int32} (H : RHd h s W) (hs : ∀ k j : Nat, h + 13 ≤ k → k ≤ h + 15 → rI s' k j = rI s k j) (hw : ∀ z : Int, z = 59 ∨ (288 ≤ z ∧ z < 312) → W' z = W z) : RHd h s' W' := by
  have e : ∀ (k : Nat) (z : Int), h + 13 ≤ k → k ≤ h + 15 → rd s' k z = rd s k z := fun k z a b => hs k z.toNat a b
  obtain ⟨a, a1, a2, a3, a4, a5⟩ := H
  refine ⟨a, a1, a2, ?_, ?_, ?_⟩
  · simp (disch := omega) only [hs]; exact a3
  · simp (disch := omega) only [hw]; exact a4
  · intro i i1 i2; simp (disch := omega) only [e, hw]; exact a5 i i1 i2
def RHe (h : Nat) (s : Mem) (W : Int → Int32) : Prop := ∃ c : Int, 0 ≤ c ∧ c ≤ 10 ∧ rI s (h + 17) 3 = zi c ∧ W 60 = zi c ∧ ∀ i : Int, 0 ≤ i → i < c → ∃ a b : Int, 0 ≤ a ∧ a ≤ 99 ∧ 0 ≤ b ∧ b ≤ 9 ∧ rd s (h + 18) i = zi a ∧ W (312 + 2 * i) = zi a ∧ rd s (h + 19) i = zi b ∧ W (312 + 2 * i + 1) = zi b
theorem RHe.cg {h : Nat} {s s' : Mem} {W W' : Int → Int32} (H : RHe h s W) (hs : ∀ k j : Nat, h + 17 ≤ k → k ≤ h + 19 → rI s' k j = rI s k j) (hw : ∀ z : Int, z = 60 ∨ (312 ≤ z ∧ z < 332) → W' z = W z) : RHe h s' W' := by
  have e : ∀ (k : Nat) (z : Int), h + 17 ≤ k → k ≤ h + 19 → rd s' k z = rd s k z := fun k z a b => hs k z.toNat a b
  obtain ⟨a, a1, a2, a3, a4, a5⟩ := H
  refine ⟨a, a1, a2, ?_, ?_, ?_⟩
  · simp (disch := omega) only [hs]; exact a3
  · simp (disch := omega) only [hw]; exact a4
  · intro i i1 i2; simp (disch := omega) only [e, hw]; exact a5 i i1 i2
def RHf (h : Nat) (s : Mem) (W : Int → Int32) : Prop := ∃ c : Int, 0 ≤ c ∧ c ≤ 8 ∧ rI s (h + 21) 3 = zi c ∧ W 61 = zi c ∧ ∀ i : Int, 0 ≤ i → i < c → ∃ a : Int, 1 ≤ a ∧ a ≤ 99 ∧ rd s (h + 22) i = zi a ∧ W (332 + i) = zi a
theorem RHf.cg {h : Nat} {s s' : Mem} {W W' : Int → Int32} (H : RHf h s W) (hs : ∀ k j : Nat, h + 21 ≤ k → k ≤ h + 22 → rI s' k j = rI s k j) (hw : ∀ z : Int, z = 61 ∨ (332 ≤ z ∧ z < 340) → W' z = W z) : RHf h s' W' := by
  have e : ∀ (k : Nat) (z : Int), h + 21 ≤ k → k ≤ h + 22 → rd s' k z = rd s k z := fun k z a b => hs k z.toNat a b
  obtain ⟨a, a1, a2, a3, a4, a5⟩ := H
  refine ⟨a, a1, a2, ?_, ?_, ?_⟩
  · simp (disch := omega) only [hs]; exact a3
  · simp (disch := omega) only [hw]; exact a4
  · intro i i1 i2; simp (disch := omega) only [e, hw]; exact a5 i i1 i2
def RTd (h : Nat) (s : Mem) (W : Int → Int32) : Prop := ∃ c : Int, 0 ≤ c ∧ c ≤ 16 ∧ rI s (h + 11) 3 = zi c ∧ W 53 = zi c ∧ ∀ i : Int, 0 ≤ i → i < c → ∃ a b d : Int, 0 ≤ a ∧ a ≤ 999 ∧ 0 ≤ b ∧ b ≤ 5 ∧ 0 ≤ d ∧ d ≤ 99 ∧ rd s (h + 12) i = zi a ∧ W (98 + 3 * i) = zi a ∧ rd s (h + 13) i = zi b ∧ W (98 + 3 * i + 1) = zi b ∧ rd s (h + 14) i = zi d ∧ W (98 + 3 * i + 2) = zi d
theorem RTd.cg {h : Nat} {s s' : Mem} {W W' : Int → Int32} (H : RTd h s W) (hs : ∀ k j : Nat, h + 11 ≤ k → k ≤ h + 14 → rI s' k j = rI s k j) (hw : ∀ z : Int, z = 53 ∨ (98 ≤ z ∧ z < 146) → W' z = W z) : RTd h s' W' := by
  have e : ∀ (k : Nat) (z : Int), h + 11 ≤ k → k ≤ h + 14 → rd s' k z = rd s k z := fun k z a b => hs k z.toNat a b
  obtain ⟨a, a1, a2, a3, a4, a5⟩ := H
  refine ⟨a, a1, a2, ?_, ?_, ?_⟩
  · simp (disch := omega) only [hs]; exact a3
  · simp (disch := omega) only [hw]; exact a4
  · intro i i1 i2; simp (disch := omega) only [e, hw]; exact a5 i i1 i2
def RTq (h : Nat) (s : Mem) (W : Int → Int32) : Prop := ∃ c : Int, 0 ≤ c ∧ c ≤ 16 ∧ rI s (h + 15) 3 = zi c ∧ W 54 = zi c ∧ ∀ i : Int, 0 ≤ i → i < c → ∃ a b : Int, 0 ≤ a ∧ a ≤ 2 ∧ 0 ≤ b ∧ b ≤ 199 ∧ rd s (h + 16) i = zi a ∧ W (146 + 2 * i) = zi (10 + a) ∧ rd s (h + 17) i = zi b ∧ W (146 + 2 * i + 1) = zi b
theorem RTq.cg {h : Nat} {s s' : Mem} {W W' : Int → Int32} (H : RTq h s W) (hs : ∀ k j : Nat, h + 15 ≤ k → k ≤ h + 17 → rI s' k j = rI s k j) (hw : ∀ z : Int, z = 54 ∨ (146 ≤ z ∧ z < 178) → W' z = W z) : RTq h s' W' := by
  have e : ∀ (k : Nat) (z : Int), h + 15 ≤ k → k ≤ h + 17 → rd s' k z = rd s k z := fun k z a b => hs k z.toNat a b
  obtain ⟨a, a1, a2, a3, a4, a5⟩ := H
  refine ⟨a, a1, a2, ?_, ?_, ?_⟩
  · simp (disch := omega) only [hs]; exact a3
  · simp (disch := omega) only [hw]; exact a4
  · intro i i1 i2; simp (disch := omega) only [e, hw]; exact a5 i i1 i2
def RTs (h : Nat) (s : Mem) (W : Int → Int32) (N : Int) : Prop := ∃ c : Int, 0 ≤ c ∧ c ≤ 16 ∧ rI s (h + 19) 3 = zi c ∧ W 55 = zi c ∧ ∀ i : Int, 0 ≤ i → i < c → ∃ a b : Int, 0 ≤ a ∧ a ≤ 999 ∧ 0 ≤ b ∧ b < N ∧ rd s (h + 20) i = zi a ∧ W (178 + 2 * i) = zi a ∧ rd s (h + 21) i = zi b ∧ W (178 + 2 * i + 1) = zi b
theorem RTs.cg {h : Nat} {s s' : Mem} {W W' : Int → Int32} {N : Int} (H : RTs h s W N) (hs : ∀ k j : Nat, h + 19 ≤ k → k ≤ h + 21 → rI s' k j = rI s k j) (hw : ∀ z : Int, z = 55 ∨ (178 ≤ z ∧ z < 210) → W' z = W z) : RTs h s' W' N := by
  have e : ∀ (k : Nat) (z : Int), h + 19 ≤ k → k ≤ h + 21 → rd s' k z = rd s k z := fun k z a b => hs k z.toNat a b
  obtain ⟨a, a1, a2, a3, a4, a5⟩ := H
  refine ⟨a, a1, a2, ?_, ?_, ?_⟩
  · simp (disch := omega) only [hs]; exact a3
  · simp (disch := omega) only [hw]; exact a4
  · intro i i1 i2; simp (disch := omega) only [e, hw]; exact a5 i i1 i2
def RTn (t : Nat) (s : Mem) (W : Int → Int32) (N : Int) : Prop := 0 ≤ N ∧ N ≤ 12 ∧ rI s t 7 = zi N ∧ W 49 = zi N
def RTw (t : Nat) (s : Mem) (W : Int → Int32) : Prop := (∃ w : Int, 0 ≤ w ∧ w ≤ 9 ∧ rI s t 8 = zi w ∧ W 50 = zi w) ∧ rI s t 9 = W 51
def RTp (t : Nat) (s : Mem) (W : Int → Int32) (N : Int) : Prop := ∀ i : Int, 0 ≤ i → i < N → ∃ a b c : Int, 1 ≤ a ∧ a ≤ 9 ∧ 1 ≤ b ∧ b ≤ 30 ∧ 0 ≤ c ∧ c ≤ 9 ∧ rd s (t + 1) i = zi a ∧ W (62 + i) = zi a ∧ rd s (t + 2) i = zi b ∧ W (74 + i) = zi b ∧ rd s (t + 3) i = zi c ∧ W (86 + i) = zi c
def RT (t : Nat) (s : Mem) (W : Int → Int32) (N : Int) : Prop := RTn t s W N ∧ RTw t s W ∧ RTp t s W N ∧ RTd t s W ∧ RTq t s W ∧ RTs t s W N ∧ RL1 (t + 4) s W
def RHm (h : Nat) (s : Mem) (W : Int → Int32) : Prop := ∀ i : Int, 0 ≤ i → i < 8 → ∃ n b : Int, 0 ≤ n ∧ n ≤ 5 ∧ 0 ≤ b ∧ b < 2 ^ n.toNat ∧ rd s (h + 25) i = zi n ∧ W (340 + 2 * i) = zi n ∧ rd s (h + 26) i = zi b ∧ W (340 + 2 * i + 1) = zi b
def RHo (h : Nat) (s : Mem) (W : Int → Int32) : Prop := ∀ i : Int, 0 ≤ i → i < 10 → ∃ a : Int, 0 ≤ a ∧ a ≤ 100 ∧ rd s (h + 27) i = zi a ∧ W (356 + i) = zi a
def RH (h : Nat) (s : Mem) (W : Int → Int32) : Prop := RHa h s W ∧ RHb h s W ∧ RHc h s W ∧ RHd h s W ∧ RHe h s W ∧ RHf h s W ∧ RHm h s W ∧ RHo h s W
def RB (l : Nat) (s : Mem) (W : Int → Int32) : Prop := ∀ i : Int, 0 ≤ i → i < 600 → rd s (l + 1) i = W (366 + i)
def RW (b : Nat) (s : Mem) (W : Int → Int32) (N : Int) : Prop := RP (b + 1) s W N ∧ RT (b + 6) s W N ∧ RH (b + 29) s W ∧ RB (b + 58) s W
/-- YEAR and DAY of what is told -/
def RY (W : Int → Int32) : Prop := (∃ y : Int, 0 ≤ y ∧ y ≤ 9999 ∧ W 1 = zi y) ∧ (∃ d : Int, 0 ≤ d ∧ d ≤ 99999 ∧ W 2 = zi d)
/-- what can be undone -/
def RK (s σ : Mem) (N : Int) : Prop := ∃ c v : Int, 0 ≤ c ∧ c ≤ 6 ∧ 0 ≤ v ∧ v ≤ 5 ∧ rI s 128 2 = zi c ∧ rI σ 0 4 = zi c ∧ rI s 128 1 = zi v ∧
  ∀ j : Int, 0 ≤ j → j < c → RP (130 + 5 * ((v + 6 - j) % 6).toNat) s (fun z => rd σ 3 (49 * (c - 1 - j) + z)) N ∧ RY (fun z => rd σ 3 (49 * (c - 1 - j) + z))
def RI (s σ : Mem) : Prop := ∃ h : Int, rI s 0 7 = zi h ∧ rI σ 0 5 = zi h ∧ (h = 0 ∨ h = 1 ∧ ∃ N, RW 61 s (rd σ 2) N ∧ RY (rd σ 2))
def RR (s σ : Mem) : Prop := (∃ t : Int, 0 ≤ t ∧ t ≤ 400 ∧ rI s 160 6 = zi t ∧ rI σ 0 16 = zi t ∧ ∀ i : Int, 0 ≤ i → i < t → ∃ c : Int, 0 ≤ c ∧ c ≤ 255 ∧ rd s 161 i = zi c ∧ rd σ 8 i = zi c) ∧ rI s 160 10 = rI σ 0 23 ∧ rI s 160 11 = rI σ 0 25
def RC (s σ : Mem) : Prop := (∃ N, RW 1 s (rd σ 1) N ∧ RY (rd σ 1) ∧ RK s σ N) ∧ RI s σ ∧ RR s σ ∧ rI s 2 0 = zi 0 ∧ rI s 121 0 = zi 1 ∧ rd σ 15 0 = zi 0
