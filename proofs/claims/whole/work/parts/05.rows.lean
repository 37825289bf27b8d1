/-! what an entry of a method's code must bear -/
def GSL : List (Nat × Nat × Nat) := [(16, 38, 1), (16, 1053, 2), (8, 96, 0)]
def SL : List (Nat × Nat × Nat) := [(5, 103, 17), (5, 96, 0), (12, 133, 21), (12, 135, 14), (12, 137, 1), (12, 139, 12), (12, 141, 16), (12, 143, 20), (12, 145, 18), (12, 109, 4), (12, 115, 2), (12, 117, 9), (12, 119, 15), (12, 121, 11), (12, 123, 8), (12, 125, 10), (12, 127, 22), (12, 129, 23), (12, 131, 19), (12, 156, 5), (12, 158, 6), (12, 160, 3), (12, 162, 7), (12, 164, 13)]
def strs : List String := [";+-*/()<=>", "and", "bad", "bed", "deed", "in", "kiosk", "lamp", "left", "long", "mile", "nerve", "not", "on", "or", "pace", "shame", "shame walks storm deed bad long pace nerve left mile wind year strong when or and not in kiosk bed lamp on", "storm", "strong", "walks", "when", "wind", "year"]
def SFL : List (Nat × Nat × Nat) := [(16, 9, 0), (16, 15, 1)]
def fDesc (t j : Nat) : String × Bool := (((cT t).2.1 j).2.2.1, ((cT t).2.1 j).2.2.2)
def brOK (pc : Nat) (off : Int) (a : Nat) : Bool := decide ((pc : Int) + off = (a : Int))
def okA (i pc : Nat) (I : Instr) (len a b c : Nat) : Bool := match I with
  | .ldc n => len == 2 && (if c = 0 then CL.contains (oN i, n, a) else SL.contains (oN i, n, a))
  | .ldc_w n => len == 3 && CL.contains (oN i, n, a)
  | .ldc2_w n => len == 3 && LL.contains (oN i, n, a)
  | .iconst n => len == 1 && decide (Int32.ofInt n = cst a c)
  | .bipush n => len == 2 && decide ((Int8.ofInt n).toInt32 = cst a c)
  | .ireturn => len == 1 && (mR i).isSome
  | .return_ => len == 1 && (mR i).isNone
  | .sipush n => len == 3 && decide ((Int16.ofInt n).toInt32 = cst a c)
  | .iload _ => len == 2
  | .lload _ => len == 2
  | .aload _ => len == 2
  | .istore k => len == 2 && decide (k < mL i)
  | .istore_n k => len == 1 && decide (k.val < mL i)
  | .astore k => len == 2 && decide (k < mL i)
  | .astore_n k => len == 1 && decide (k.val < mL i)
  | .lstore k => len == 2 && decide (k + 1 < mL i)
  | .lstore_n k => len == 1 && decide (k.val + 1 < mL i)
  | .iinc k n => len == 3 && decide (k < mL i) && decide (Int32.ofInt n = cst a c)
  | .ifCond _ off => len == 3 && brOK pc off a
  | .if_icmp _ off => len == 3 && brOK pc off a
  | .goto off => len == 3 && brOK pc off a
  | .ifnull off => len == 3 && brOK pc off a
  | .ifnonnull off => len == 3 && brOK pc off a
  | .tableswitch d lo hi offs => decide (0 ≤ (pc : Int) + d) && offs.toList.all (fun o => decide (0 ≤ (pc : Int) + o)) && decide (lo + offs.size = hi + 1) && decide (-2147483648 ≤ lo) && decide (hi < 2147483647) && decide (lo ≤ hi + 1)
  | .lookupswitch d ps => decide (0 ≤ (pc : Int) + d) && ps.toList.all (fun o => decide (0 ≤ (pc : Int) + o.2) && decide (-2147483648 ≤ o.1) && decide (o.1 < 2147483647)) && (ps.toList.zip (ps.toList.drop 1)).all (fun (a, next) => a.1 < next.1)
  | .getfield n => len == 3 && (if a = 151 then SFL.contains (oN i, n, b) else (FL1.contains (oN i, n, a, b) || FL2.contains (oN i, n, a, b)) && decide (a < 13) && decide (b < nF a))
  | .putfield n => len == 3 && (FL1.contains (oN i, n, a, b) || FL2.contains (oN i, n, a, b)) && decide (a < 13) && decide (b < nF a) && !(fDesc a b).2 && (match (fkd FT0 a b).1 with
    | 0 => c == 0 && (fDesc a b).1 == "I"
    | 3 => c == 0 && (fDesc a b).1 == "Z"
    | 1 => c == 1 && (fDesc a b).1 == "J"
    | _ => false)
  | .getstatic n => len == 3 && (if c = 0 then oN i == 8 && b == 0 && GSL.contains (oN i, n, 0) else if c = 1 then b == 1 && GSL.contains (oN i, n, 1) else GSL.contains (oN i, n, 2))
  | .invokevirtual n => len == 3 && ML1.contains (oN i, n, a) && VM.contains a && EM.contains a && IM.contains a && AM.contains a && b == mN a + 1 && c % 2 == (if mR a = none then 0 else 1) && (if c / 2 = 151 then mC a == "java/lang/String" else decide (c / 2 < 13) && (cT (c / 2)).1 == mC a)
  | .invokestatic n => len == 3 && (match c with
    | 2 => a == 7 && ML1.contains (oN i, n, a)
    | 3 => a == 32 && ML1.contains (oN i, n, a)
    | 4 => a == 156 && ML1.contains (oN i, n, a)
    | 5 => a == 184 && ML1.contains (oN i, n, a)
    | _ => (ML1.contains (oN i, n, a) || ML2.contains (oN i, n, a)) && SM.contains a && IM.contains a && AM.contains a && b == mN a && c == (if mR a = none then 0 else 1))
  | _ => len == 1
def okE (i : Nat) (q : CE) : Bool := decide (decode (mB i) q.1 = .ok (q.2.1, q.2.2.1)) && okA i q.1 q.2.1 q.2.2.1 q.2.2.2.1 q.2.2.2.2.1 q.2.2.2.2.2
def okC (i : Nat) (chs : List (List CE)) : Bool := chs.all fun ch => ch.all fun q => okE i q
theorem fetch1_mem {pc : Nat} {q : CE} : ∀ {l : List CE}, fetch1 pc l = some q → q ∈ l ∧ q.1 = pc
  | [], h => by cases h
  | e :: r, h => by
    unfold fetch1 at h
    split at h
    · cases h
      exact ⟨List.mem_cons_self, by assumption⟩
    · exact ⟨List.mem_cons_of_mem _ (fetch1_mem h).1, (fetch1_mem h).2⟩
theorem fetch_ok {i pc : Nat} {q : CE} {chs : List (List CE)} (hc : okC i chs = true) (h : fetch chs pc = some q) : okE i q = true ∧ q.1 = pc := by
  unfold fetch at h
  obtain ⟨h1, h2⟩ := fetch1_mem h
  cases hg : chs[pc / 16]? with
  | none => rw [hg] at h1; cases h1
  | some ch =>
    rw [hg] at h1
    exact ⟨List.all_eq_true.mp (List.all_eq_true.mp hc ch (List.mem_of_getElem? hg)) q h1, h2⟩

/-! the world's rows -/
theorem wl_len {X : CXT} {σ : Mem} : (wl X σ).length = xN X := by simp [wl]
theorem wl_get {X : CXT} {σ : Mem} {k : Nat} (h : k < xN X) : (wl X σ)[k]? = some (xad X k, cell X σ k) := by
  simp [wl, List.getElem?_map, List.getElem?_range h]
theorem cell_congr {X : CXT} {σ σ' : Mem} {k : Nat} (h1 : σ'.1 k = σ.1 k) (h2 : σ'.2 k = σ.2 k) : cell X σ' k = cell X σ k := by
  unfold cell fval rI rJ
  rw [h1, h2]
theorem wl_set {X : CXT} {σ σ' : Mem} {k : Nat} {e : va_E} (hk : k < xN X) (he : cell X σ' k = e) (ho : ∀ j, j ≠ k → σ'.1 j = σ.1 j ∧ σ'.2 j = σ.2 j) : (wl X σ).set k (xad X k, e) = wl X σ' := by
  apply List.ext_getElem?
  intro j
  rw [List.getElem?_set]
  by_cases hj : k = j
  · subst hj
    rw [if_pos rfl, wl_len, if_pos hk, wl_get hk, he]
  · rw [if_neg hj]
    rcases Nat.lt_or_ge j (xN X) with h | h
    · rw [wl_get h, wl_get h, cell_congr (ho j (Ne.symm hj)).1 (ho j (Ne.symm hj)).2]
    · rw [List.getElem?_eq_none (by rw [wl_len]; exact h), List.getElem?_eq_none (by rw [wl_len]; exact h)]
theorem wI_off {σ : Mem} {k j : Nat} {v : Int32} : ∀ a, a ≠ k → (wI σ k j v).1 a = σ.1 a ∧ (wI σ k j v).2 a = σ.2 a := fun a h => ⟨if_neg h, rfl⟩
theorem wJ_off {σ : Mem} {k j : Nat} {v : Int64} : ∀ a, a ≠ k → (wJ σ k j v).1 a = σ.1 a ∧ (wJ σ k j v).2 a = σ.2 a := fun a h => ⟨rfl, if_neg h⟩
theorem wI_at {σ : Mem} {k j : Nat} {v : Int32} : (wI σ k j v).1 k = upd (σ.1 k) j v := if_pos rfl
theorem wJ_at {σ : Mem} {k j : Nat} {v : Int64} : (wJ σ k j v).2 k = vp_updL (σ.2 k) j v := if_pos rfl
theorem inb_vp {i : Int32} {n : Nat} (h : inb i n = true) : vp_in i n := by
  rw [inb_iff] at h
  intro q
  rcases q with q | q
  · exact absurd q (Int32.not_lt.mpr h.1)
  · exact absurd h.2 (Nat.not_lt.mpr q)
theorem cell_obj {X : CXT} {σ : Mem} {k t : Nat} (h : xtg X k = t) (ht : t < 100) : cell X σ k = .inr (t, (List.range (nF t)).map (fun j => fval X σ k t j)) := by
  subst h
  exact if_pos ht
theorem cell_int {X : CXT} {σ : Mem} {k t : Nat} (h : xtg X k = t) (ht : t = 100 ∨ t = 101 ∨ t = 102) : cell X σ k = .inl (xdA X (t - 100), xlen X k, .inl (σ.1 k)) := by
  subst h
  unfold cell
  rw [if_neg (by omega), if_neg (by omega), if_neg (by omega), if_neg (by omega)]
theorem cell_long {X : CXT} {σ : Mem} {k : Nat} (h : xtg X k = 103) : cell X σ k = .inl (xdA X 3, xlen X k, .inr (.inl (σ.2 k))) := by
  unfold cell
  rw [h, if_neg (by omega), if_pos rfl]
theorem cell_prs {X : CXT} {σ : Mem} {k : Nat} (h : xtg X k = 104) : cell X σ k = .inl (xdA X 4, xlen X k, .inr (.inr (.inr (.inr (fun i => some (xad X (k + 1 + 5 * i))))))) := by
  unfold cell
  rw [h, if_neg (by omega), if_neg (by omega), if_pos rfl]
theorem cell_rows {X : CXT} {σ : Mem} {k : Nat} (h : xtg X k = 105) : cell X σ k = .inl (xdA X 5, xlen X k, .inr (.inr (.inr (.inr (fun i => some (xad X (k + 1 + i))))))) := by
  unfold cell
  rw [h, if_neg (by omega), if_neg (by omega), if_neg (by omega), if_pos rfl]

def FW : List (Nat × Nat) := [(0, 0), (0, 1), (0, 2), (1, 0), (1, 1), (1, 2), (2, 0), (2, 1), (2, 2), (2, 3), (2, 4), (2, 5), (2, 6), (2, 7), (3, 0), (4, 0), (4, 1), (4, 2), (4, 3), (4, 4), (4, 5), (4, 6), (4, 7), (4, 8), (4, 9), (4, 10), (5, 0), (5, 1), (5, 2), (5, 3), (5, 4), (5, 5), (5, 6), (5, 7), (5, 8), (5, 9), (5, 10), (5, 11), (6, 0), (6, 1), (6, 2), (6, 3), (7, 0), (7, 1), (7, 2), (7, 3), (7, 4), (7, 5), (7, 6), (7, 7), (7, 8), (7, 9), (8, 0), (8, 1), (8, 2), (8, 3), (8, 4), (8, 5), (8, 6), (8, 7), (8, 8), (8, 9), (9, 0), (9, 1), (10, 0), (10, 1), (10, 2), (10, 3), (11, 0), (11, 1), (11, 2), (11, 3), (11, 4), (11, 5), (11, 6), (11, 7), (12, 0), (12, 1), (12, 2), (12, 3), (12, 4), (12, 5), (12, 6), (12, 7), (12, 8), (12, 9), (12, 10), (12, 11), (12, 12), (12, 13), (12, 14), (12, 15), (12, 16), (12, 17), (12, 18), (12, 19), (12, 20), (12, 21), (12, 22), (12, 23), (12, 24), (12, 25), (12, 26), (12, 27), (12, 28), (12, 29), (12, 30), (12, 31), (12, 32), (12, 33)]
def wFW (q : Nat × Nat) : Cond := u_lay (cT q.1).1 (cT q.1).2.1 q.2
def HL_fw : List (Nat × Nat) := [(2, 60), (2, 62), (2, 64), (2, 80), (2, 82), (2, 84), (1, 120), (1, 122), (1, 124), (1, 126), (1, 128), (1, 130), (1, 132), (1, 134), (2, 29), (1, 72), (1, 74), (1, 76), (1, 78), (1, 80), (1, 82), (1, 84), (1, 86), (1, 88), (1, 90), (1, 92), (2, 114), (2, 116), (2, 118), (2, 120), (2, 122), (2, 124), (2, 126), (2, 128), (2, 130), (2, 132), (2, 134), (2, 136), (1, 155), (1, 157), (1, 159), (1, 161), (2, 1), (2, 3), (2, 5), (2, 7), (2, 9), (2, 11), (2, 13), (2, 15), (2, 17), (2, 19), (1, 193), (1, 195), (1, 197), (1, 199), (1, 201), (1, 203), (1, 205), (1, 207), (1, 209), (1, 211), (2, 150), (2, 152), (2, 40), (2, 42), (2, 44), (2, 46), (2, 164), (2, 166), (2, 168), (2, 170), (2, 172), (2, 174), (2, 176), (2, 178), (6, 154), (6, 156), (6, 158), (6, 160), (6, 162), (6, 164), (6, 166), (6, 168), (6, 170), (6, 172), (6, 174), (6, 176), (6, 178), (6, 180), (6, 182), (6, 184), (6, 186), (6, 188), (6, 190), (6, 192), (6, 194), (6, 196), (6, 198), (6, 200), (6, 202), (6, 204), (6, 206), (6, 208), (6, 210), (6, 212), (6, 214), (6, 216), (6, 218), (6, 220)]
theorem tb_fw : ∀ q ∈ FW, wFW q ∈ TB := tb_map wFW FW HL_fw (by rfl) (fun q => by unfold wFW u_lay; split <;> rfl)
theorem fw_all : ∀ t, t < 13 → ∀ k, k < nF t → (t, k) ∈ FW := by
  have h : ∀ t ∈ List.range 13, ∀ k ∈ List.range (nF t), (t, k) ∈ FW := by decide +kernel
  exact fun t ht k hk => h t (List.mem_range.mpr ht) k (List.mem_range.mpr hk)
theorem cls_w {t : Nat} (ht : t < 13) : ∀ w ∈ u_ws (cT t).1 (cT t).2.1 (cT t).2.2, w ∈ TB := by
  intro w hw
  obtain ⟨k, hk, rfl⟩ := List.mem_map.mp hw
  exact tb_fw (t, k) (fw_all t ht k (List.mem_range.mp hk))
theorem cls_ok : ∀ t, t < 13 → (∃ ty : Nat → FieldType, ∀ k, k < (cT t).2.2 → parseFieldDescriptor ((cT t).2.1 k).2.2.1 = some (ty k)) ∧ (∀ a, a < (cT t).2.2 → ∀ b, b < (cT t).2.2 → a ≠ b → ((cT t).2.1 a).2.1 ≠ ((cT t).2.1 b).2.1)
  | 0, _ => ⟨⟨tyX0, tyX0_ok⟩, nmX0⟩
  | 1, _ => ⟨⟨tyX1, tyX1_ok⟩, nmX1⟩
  | 2, _ => ⟨⟨tyX2, tyX2_ok⟩, nmX2⟩
  | 3, _ => ⟨⟨tyX3, tyX3_ok⟩, nmX3⟩
  | 4, _ => ⟨⟨tyX4, tyX4_ok⟩, nmX4⟩
  | 5, _ => ⟨⟨tyX5, tyX5_ok⟩, nmX5⟩
  | 6, _ => ⟨⟨tyX6, tyX6_ok⟩, nmX6⟩
  | 7, _ => ⟨⟨tyX7, tyX7_ok⟩, nmX7⟩
  | 8, _ => ⟨⟨tyX8, tyX8_ok⟩, nmX8⟩
  | 9, _ => ⟨⟨tyX9, tyX9_ok⟩, nmX9⟩
  | 10, _ => ⟨⟨tyX10, tyX10_ok⟩, nmX10⟩
  | 11, _ => ⟨⟨tyX11, tyX11_ok⟩, nmX11⟩
  | 12, _ => ⟨⟨tyX12, tyX12_ok⟩, nmX12⟩
  | n + 13, h => absurd h (by omega)
theorem cls_at {t : Nat} (ht : t < 13) : vwCl[t]? = some ((cT t).1, (cT t).2.1, (cT t).2.2) := by
  have h := List.getElem?_eq_getElem (l := vwCl) (show t < vwCl.length from ht)
  unfold cT
  rw [h]
  rfl
