/-! THE CONSTRUCTORS: printed by inits.py out of their code -/
def z0 : Nat → Int32 := fun _ => 0
def LRows (n : Nat) : List ICE := (6, 0, z0) :: [(100, n, z0), (100, n, z0), (100, n, z0)]
def LLaw : List ICE := (2, 0, z0) :: [(100, 16, z0), (100, 16, z0), (100, 16, z0), (100, 16, z0), (100, 400, z0), (100, 64, z0)]
def fPier (b : Int32) : Nat → Int32 := fun j => if j = 0 then b else 0
def mOne : Nat → Int32 := fun _ => -1
def LPier (b : Int32) : List ICE := (4, 0, fPier b) :: [(101, 200, z0), (100, 12, mOne), (101, 12, z0), (100, 12, z0)]
def LTold : List ICE := (8, 0, z0) :: ([(100, 12, z0), (100, 12, z0), (100, 12, z0)] ++ LLaw ++ LRows 16 ++ LRows 16 ++ LRows 16)
def LThought : List ICE := (7, 0, z0) :: (LRows 20 ++ LRows 10 ++ LRows 16 ++ LRows 12 ++ LRows 10 ++ LRows 8 ++ [(100, 8, z0)] ++ [(100, 8, z0)] ++ [(100, 10, z0)] ++ [(100, 11, z0)])
def LLog : List ICE := (3, 0, z0) :: [(100, 600, z0)]
def LWhole : List ICE := (10, 0, z0) :: (LPier 0 ++ LTold ++ LThought ++ LLog)
def LCourse : List ICE := (0, 0, z0) :: [(100, 10, z0)]
def LPs : Nat → List ICE
  | 0 => []
  | k + 1 => LPs k ++ LPier 0
def LKept : List ICE := (1, 0, z0) :: ((104, 6, z0) :: LPs 6)
def fRead : Nat → Int32 := fun j => if j = 11 then -1 else 0
def LReader : List ICE := (5, 0, fRead) :: ([(102, 400, z0), (100, 400, z0), (100, 400, z0), (100, 400, z0)] ++ LLaw ++ LRows 16)
def LWay : List ICE := (105, 12, z0) :: List.replicate 12 (103, 201, z0)
def LWays : List ICE := (9, 0, z0) :: (LWay ++ LWay)
def LPtf : List ICE := (11, 0, z0) :: (LWhole ++ LWhole ++ LPier 1 ++ LCourse ++ LKept ++ LReader ++ LWays)
def fMod : Nat → Int32 := fun j => if j = 25 then -1 else 0
def LModel : List ICE := (12, 0, fMod) :: [(100, 1850, z0), (100, 1850, z0), (100, 294, z0), (100, 49, z0), (100, 64, z0), (100, 820, z0), (100, 48, z0), (100, 400, z0), (100, 420, z0), (100, 11, z0), (100, 11, z0), (103, 2613, z0), (103, 2613, z0), (100, 11, z0), (100, 10, z0)]
theorem di6_0 : decode (mB 6) 0 = .ok (.aload_n 0, 1) := by decide +kernel
theorem di6_1 : decode (mB 6) 1 = .ok (.invokespecial 3, 3) := by decide +kernel
theorem di6_4 : decode (mB 6) 4 = .ok (.aload_n 0, 1) := by decide +kernel
theorem di6_5 : decode (mB 6) 5 = .ok (.iconst 0, 1) := by decide +kernel
theorem di6_6 : decode (mB 6) 6 = .ok (.putfield 9, 3) := by decide +kernel
theorem di6_9 : decode (mB 6) 9 = .ok (.aload_n 0, 1) := by decide +kernel
theorem di6_10 : decode (mB 6) 10 = .ok (.iconst 0, 1) := by decide +kernel
theorem di6_11 : decode (mB 6) 11 = .ok (.iload_n 1, 1) := by decide +kernel
theorem di6_12 : decode (mB 6) 12 = .ok (.invokestatic 15, 3) := by decide +kernel
theorem di6_15 : decode (mB 6) 15 = .ok (.newarray .int, 2) := by decide +kernel
theorem di6_17 : decode (mB 6) 17 = .ok (.putfield 21, 3) := by decide +kernel
theorem di6_20 : decode (mB 6) 20 = .ok (.aload_n 0, 1) := by decide +kernel
theorem di6_21 : decode (mB 6) 21 = .ok (.iconst 0, 1) := by decide +kernel
theorem di6_22 : decode (mB 6) 22 = .ok (.iload_n 1, 1) := by decide +kernel
theorem di6_23 : decode (mB 6) 23 = .ok (.invokestatic 15, 3) := by decide +kernel
theorem di6_26 : decode (mB 6) 26 = .ok (.newarray .int, 2) := by decide +kernel
theorem di6_28 : decode (mB 6) 28 = .ok (.putfield 25, 3) := by decide +kernel
theorem di6_31 : decode (mB 6) 31 = .ok (.aload_n 0, 1) := by decide +kernel
theorem di6_32 : decode (mB 6) 32 = .ok (.iconst 0, 1) := by decide +kernel
theorem di6_33 : decode (mB 6) 33 = .ok (.iload_n 1, 1) := by decide +kernel
theorem di6_34 : decode (mB 6) 34 = .ok (.invokestatic 15, 3) := by decide +kernel
theorem di6_37 : decode (mB 6) 37 = .ok (.newarray .int, 2) := by decide +kernel
theorem di6_39 : decode (mB 6) 39 = .ok (.putfield 28, 3) := by decide +kernel
theorem di6_42 : decode (mB 6) 42 = .ok (.return_, 1) := by decide +kernel
set_option maxHeartbeats 4000000 in
set_option maxRecDepth 100000 in
theorem c_rows {D : va_G} {dA : Nat → ClassId} {q : Nat} {n : Nat} (hn1 : n < 10000) : Ini D dA 1 6 6 [.int (nI n)] q (LRows n) 3 (3 * n) := by
  have hn : n < 2 ^ 31 := by omega
  have hmax : (if (0 : Int32) < nI n then nI n else 0) = nI n := by
    by_cases h : (0 : Int32) < nI n
    · rw [if_pos h]
    · rw [if_neg h]
      have e : n = 0 := by
        rcases Nat.eq_zero_or_pos n with h0 | h0
        · exact h0
        · exact absurd ((nI_ltI (a := 0) (by omega) hn).mpr h0) h
      subst e
      rfl
  refine cr_start (i := 6) (by decide +kernel) (ini_none (by decide +kernel)) rfl rfl (Nat.le_of_ble_eq_true rfl) (fun p l e s m args below meth c ls S hr hlocks hin hK hB hl => ?_)
  have S : CallFix p m c (mB 6) (mL 6) s args TB (cN 6) := S
  have hx := S.1
  have hb := S.2.1
  have hS : va_S (fun a => q ≤ a) s.heap s.heap [] := va_S.rf
  have hl : lv_has ls (mL 6) [(0, .ref q), (1, .int (nI n))] := hl
  generalize hH : s.heap = H at hB
  have hS : va_S (fun a => q ≤ a) s.heap H [] := by rw [← hH]; exact va_S.rf
  have hB : Bx D dA q 6 [.null, .null, .null, .int 0] [] H := hB
  refine lv_aload_n hx hb di6_0 rfl (lv_at hl 0 rfl) ?_
  refine cr_obj S (by decide +kernel) hl.1 ⟨Nat.le_of_ble_eq_true rfl, Nat.le_of_ble_eq_true rfl⟩ (Nat.le_of_ble_eq_true rfl) di6_1 ?_
  refine lv_aload_n hx hb di6_4 rfl (lv_at hl 0 rfl) ?_
  refine lv_iconst (v := 0) hx hb di6_5 (by decide) ?_
  refine cr_put S hin hK (k := 3) (idx := 9) (by decide +kernel) (by decide) (by decide) hB hS (ty := .int) (by decide +kernel) rfl rfl (Nat.le_of_ble_eq_true rfl) di6_6 (fun H locs hB hS => ?_)
  have hB : Bx D dA q 6 [.null, .null, .null, .int 0] ([]) H := hB
  refine lv_aload_n hx hb di6_9 rfl (lv_at hl 0 rfl) ?_
  refine lv_iconst (v := 0) hx hb di6_10 (by decide) ?_
  refine lv_iload_n hx hb di6_11 rfl (lv_at hl 1 rfl) ?_
  refine va_mmax hx hb (S.2.2.1.trans hl.1.symm) S.2.2.2.1 (S.2.2.2.2 _ (tb_ml1 (6, 15, 7) (by decide +kernel))) (S.2.2.2.2 _ (tb_st 7 (by decide +kernel))) (S.2.2.2.2 _ (tb_ini 7 (by decide +kernel))) (by have h := S.2.2.2.2 _ (tb_mw 7 (by decide +kernel)); rw [w_7] at h; exact h) (Nat.le_of_ble_eq_true rfl) (Nat.le_of_ble_eq_true rfl) (by show _ ≤ 3; omega) (by show _ ≤ (3 * n); omega) di6_12 ?_
  rw [hmax]
  refine cr_arr S hK (k := 0) (by decide) rfl (N := n) (nI_pos hn) (nI_clamp hn) (by omega) ⟨by show _ ≤ 3; omega, by show _ ≤ (3 * n); omega⟩ hB (M := 0) rfl hS di6_15 (fun H hB hS => ?_)
  have hB : Bx D dA q 6 [.null, .null, .null, .int 0] ([(100, n, z0)]) H := hB
  refine cr_put S hin hK (k := 0) (idx := 21) (by decide +kernel) (by decide) (by decide) hB hS (ty := .array .int) (by decide +kernel) rfl rfl (Nat.le_of_ble_eq_true rfl) di6_17 (fun H locs hB hS => ?_)
  have hB : Bx D dA q 6 [.ref (q + 1 + 0), .null, .null, .int 0] ([(100, n, z0)]) H := hB
  refine lv_aload_n hx hb di6_20 rfl (lv_at hl 0 rfl) ?_
  refine lv_iconst (v := 0) hx hb di6_21 (by decide) ?_
  refine lv_iload_n hx hb di6_22 rfl (lv_at hl 1 rfl) ?_
  refine va_mmax hx hb (S.2.2.1.trans hl.1.symm) S.2.2.2.1 (S.2.2.2.2 _ (tb_ml1 (6, 15, 7) (by decide +kernel))) (S.2.2.2.2 _ (tb_st 7 (by decide +kernel))) (S.2.2.2.2 _ (tb_ini 7 (by decide +kernel))) (by have h := S.2.2.2.2 _ (tb_mw 7 (by decide +kernel)); rw [w_7] at h; exact h) (Nat.le_of_ble_eq_true rfl) (Nat.le_of_ble_eq_true rfl) (by show _ ≤ 3; omega) (by show _ ≤ (3 * n); omega) di6_23 ?_
  rw [hmax]
  refine cr_arr S hK (k := 0) (by decide) rfl (N := n) (nI_pos hn) (nI_clamp hn) (by omega) ⟨by show _ ≤ 3; omega, by show _ ≤ (3 * n); omega⟩ hB (M := 1) rfl hS di6_26 (fun H hB hS => ?_)
  have hB : Bx D dA q 6 [.ref (q + 1 + 0), .null, .null, .int 0] ([(100, n, z0), (100, n, z0)]) H := hB
  refine cr_put S hin hK (k := 1) (idx := 25) (by decide +kernel) (by decide) (by decide) hB hS (ty := .array .int) (by decide +kernel) rfl rfl (Nat.le_of_ble_eq_true rfl) di6_28 (fun H locs hB hS => ?_)
  have hB : Bx D dA q 6 [.ref (q + 1 + 0), .ref (q + 1 + 1), .null, .int 0] ([(100, n, z0), (100, n, z0)]) H := hB
  refine lv_aload_n hx hb di6_31 rfl (lv_at hl 0 rfl) ?_
  refine lv_iconst (v := 0) hx hb di6_32 (by decide) ?_
  refine lv_iload_n hx hb di6_33 rfl (lv_at hl 1 rfl) ?_
  refine va_mmax hx hb (S.2.2.1.trans hl.1.symm) S.2.2.2.1 (S.2.2.2.2 _ (tb_ml1 (6, 15, 7) (by decide +kernel))) (S.2.2.2.2 _ (tb_st 7 (by decide +kernel))) (S.2.2.2.2 _ (tb_ini 7 (by decide +kernel))) (by have h := S.2.2.2.2 _ (tb_mw 7 (by decide +kernel)); rw [w_7] at h; exact h) (Nat.le_of_ble_eq_true rfl) (Nat.le_of_ble_eq_true rfl) (by show _ ≤ 3; omega) (by show _ ≤ (3 * n); omega) di6_34 ?_
  rw [hmax]
  refine cr_arr S hK (k := 0) (by decide) rfl (N := n) (nI_pos hn) (nI_clamp hn) (by omega) ⟨by show _ ≤ 3; omega, by show _ ≤ (3 * n); omega⟩ hB (M := 2) rfl hS di6_37 (fun H hB hS => ?_)
  have hB : Bx D dA q 6 [.ref (q + 1 + 0), .ref (q + 1 + 1), .null, .int 0] ([(100, n, z0), (100, n, z0), (100, n, z0)]) H := hB
  refine cr_put S hin hK (k := 2) (idx := 28) (by decide +kernel) (by decide) (by decide) hB hS (ty := .array .int) (by decide +kernel) rfl rfl (Nat.le_of_ble_eq_true rfl) di6_39 (fun H locs hB hS => ?_)
  have hB : Bx D dA q 6 [.ref (q + 1 + 0), .ref (q + 1 + 1), .ref (q + 1 + 2), .int 0] ([(100, n, z0), (100, n, z0), (100, n, z0)]) H := hB
  exact cr_end (f := z0) hx hb hr hlocks hB (by decide) rfl hS ⟨by omega, by omega⟩ di6_42
theorem di5_0 : decode (mB 5) 0 = .ok (.aload_n 0, 1) := by decide +kernel
theorem di5_1 : decode (mB 5) 1 = .ok (.invokespecial 3, 3) := by decide +kernel
theorem di5_4 : decode (mB 5) 4 = .ok (.aload_n 0, 1) := by decide +kernel
theorem di5_5 : decode (mB 5) 5 = .ok (.bipush 16, 2) := by decide +kernel
theorem di5_7 : decode (mB 5) 7 = .ok (.newarray .int, 2) := by decide +kernel
theorem di5_9 : decode (mB 5) 9 = .ok (.putfield 9, 3) := by decide +kernel
theorem di5_12 : decode (mB 5) 12 = .ok (.aload_n 0, 1) := by decide +kernel
theorem di5_13 : decode (mB 5) 13 = .ok (.bipush 16, 2) := by decide +kernel
theorem di5_15 : decode (mB 5) 15 = .ok (.newarray .int, 2) := by decide +kernel
theorem di5_17 : decode (mB 5) 17 = .ok (.putfield 15, 3) := by decide +kernel
theorem di5_20 : decode (mB 5) 20 = .ok (.aload_n 0, 1) := by decide +kernel
theorem di5_21 : decode (mB 5) 21 = .ok (.bipush 16, 2) := by decide +kernel
theorem di5_23 : decode (mB 5) 23 = .ok (.newarray .int, 2) := by decide +kernel
theorem di5_25 : decode (mB 5) 25 = .ok (.putfield 18, 3) := by decide +kernel
theorem di5_28 : decode (mB 5) 28 = .ok (.aload_n 0, 1) := by decide +kernel
theorem di5_29 : decode (mB 5) 29 = .ok (.bipush 16, 2) := by decide +kernel
theorem di5_31 : decode (mB 5) 31 = .ok (.newarray .int, 2) := by decide +kernel
theorem di5_33 : decode (mB 5) 33 = .ok (.putfield 21, 3) := by decide +kernel
theorem di5_36 : decode (mB 5) 36 = .ok (.aload_n 0, 1) := by decide +kernel
theorem di5_37 : decode (mB 5) 37 = .ok (.sipush 400, 3) := by decide +kernel
theorem di5_40 : decode (mB 5) 40 = .ok (.newarray .int, 2) := by decide +kernel
theorem di5_42 : decode (mB 5) 42 = .ok (.putfield 24, 3) := by decide +kernel
theorem di5_45 : decode (mB 5) 45 = .ok (.aload_n 0, 1) := by decide +kernel
theorem di5_46 : decode (mB 5) 46 = .ok (.bipush 64, 2) := by decide +kernel
theorem di5_48 : decode (mB 5) 48 = .ok (.newarray .int, 2) := by decide +kernel
theorem di5_50 : decode (mB 5) 50 = .ok (.putfield 27, 3) := by decide +kernel
theorem di5_53 : decode (mB 5) 53 = .ok (.aload_n 0, 1) := by decide +kernel
theorem di5_54 : decode (mB 5) 54 = .ok (.iconst 0, 1) := by decide +kernel
theorem di5_55 : decode (mB 5) 55 = .ok (.putfield 30, 3) := by decide +kernel
theorem di5_58 : decode (mB 5) 58 = .ok (.aload_n 0, 1) := by decide +kernel
theorem di5_59 : decode (mB 5) 59 = .ok (.iconst 0, 1) := by decide +kernel
theorem di5_60 : decode (mB 5) 60 = .ok (.putfield 34, 3) := by decide +kernel
theorem di5_63 : decode (mB 5) 63 = .ok (.return_, 1) := by decide +kernel
set_option maxHeartbeats 4000000 in
set_option maxRecDepth 100000 in
theorem c_law {D : va_G} {dA : Nat → ClassId} {q : Nat} : Ini D dA 1 5 2 [] q LLaw 6 528 := by
  refine cr_start (i := 5) (by decide +kernel) (ini_none (by decide +kernel)) rfl rfl (Nat.le_of_ble_eq_true rfl) (fun p l e s m args below meth c ls S hr hlocks hin hK hB hl => ?_)
  have S : CallFix p m c (mB 5) (mL 5) s args TB (cN 2) := S
  have hx := S.1
  have hb := S.2.1
  have hS : va_S (fun a => q ≤ a) s.heap s.heap [] := va_S.rf
  have hl : lv_has ls (mL 5) [(0, .ref q)] := hl
  generalize hH : s.heap = H at hB
  have hS : va_S (fun a => q ≤ a) s.heap H [] := by rw [← hH]; exact va_S.rf
  have hB : Bx D dA q 2 [.null, .null, .null, .null, .null, .null, .int 0, .int 0] [] H := hB
  refine lv_aload_n hx hb di5_0 rfl (lv_at hl 0 rfl) ?_
  refine cr_obj S (by decide +kernel) hl.1 ⟨Nat.le_of_ble_eq_true rfl, Nat.le_of_ble_eq_true rfl⟩ (Nat.le_of_ble_eq_true rfl) di5_1 ?_
  refine lv_aload_n hx hb di5_4 rfl (lv_at hl 0 rfl) ?_
  refine lv_bipush (v := 16) hx hb di5_5 (by decide) ?_
  refine cr_arr S hK (k := 0) (by decide) rfl (N := 16) (by decide) (by decide) (by decide) ⟨by decide, by decide⟩ hB (M := 0) rfl hS di5_7 (fun H hB hS => ?_)
  have hB : Bx D dA q 2 [.null, .null, .null, .null, .null, .null, .int 0, .int 0] ([(100, 16, z0)]) H := hB
  refine cr_put S hin hK (k := 0) (idx := 9) (by decide +kernel) (by decide) (by decide) hB hS (ty := .array .int) (by decide +kernel) rfl rfl (Nat.le_of_ble_eq_true rfl) di5_9 (fun H locs hB hS => ?_)
  have hB : Bx D dA q 2 [.ref (q + 1 + 0), .null, .null, .null, .null, .null, .int 0, .int 0] ([(100, 16, z0)]) H := hB
  refine lv_aload_n hx hb di5_12 rfl (lv_at hl 0 rfl) ?_
  refine lv_bipush (v := 16) hx hb di5_13 (by decide) ?_
  refine cr_arr S hK (k := 0) (by decide) rfl (N := 16) (by decide) (by decide) (by decide) ⟨by decide, by decide⟩ hB (M := 1) rfl hS di5_15 (fun H hB hS => ?_)
  have hB : Bx D dA q 2 [.ref (q + 1 + 0), .null, .null, .null, .null, .null, .int 0, .int 0] ([(100, 16, z0), (100, 16, z0)]) H := hB
  refine cr_put S hin hK (k := 1) (idx := 15) (by decide +kernel) (by decide) (by decide) hB hS (ty := .array .int) (by decide +kernel) rfl rfl (Nat.le_of_ble_eq_true rfl) di5_17 (fun H locs hB hS => ?_)
  have hB : Bx D dA q 2 [.ref (q + 1 + 0), .ref (q + 1 + 1), .null, .null, .null, .null, .int 0, .int 0] ([(100, 16, z0), (100, 16, z0)]) H := hB
  refine lv_aload_n hx hb di5_20 rfl (lv_at hl 0 rfl) ?_
  refine lv_bipush (v := 16) hx hb di5_21 (by decide) ?_
  refine cr_arr S hK (k := 0) (by decide) rfl (N := 16) (by decide) (by decide) (by decide) ⟨by decide, by decide⟩ hB (M := 2) rfl hS di5_23 (fun H hB hS => ?_)
  have hB : Bx D dA q 2 [.ref (q + 1 + 0), .ref (q + 1 + 1), .null, .null, .null, .null, .int 0, .int 0] ([(100, 16, z0), (100, 16, z0), (100, 16, z0)]) H := hB
  refine cr_put S hin hK (k := 2) (idx := 18) (by decide +kernel) (by decide) (by decide) hB hS (ty := .array .int) (by decide +kernel) rfl rfl (Nat.le_of_ble_eq_true rfl) di5_25 (fun H locs hB hS => ?_)
  have hB : Bx D dA q 2 [.ref (q + 1 + 0), .ref (q + 1 + 1), .ref (q + 1 + 2), .null, .null, .null, .int 0, .int 0] ([(100, 16, z0), (100, 16, z0), (100, 16, z0)]) H := hB
  refine lv_aload_n hx hb di5_28 rfl (lv_at hl 0 rfl) ?_
  refine lv_bipush (v := 16) hx hb di5_29 (by decide) ?_
  refine cr_arr S hK (k := 0) (by decide) rfl (N := 16) (by decide) (by decide) (by decide) ⟨by decide, by decide⟩ hB (M := 3) rfl hS di5_31 (fun H hB hS => ?_)
  have hB : Bx D dA q 2 [.ref (q + 1 + 0), .ref (q + 1 + 1), .ref (q + 1 + 2), .null, .null, .null, .int 0, .int 0] ([(100, 16, z0), (100, 16, z0), (100, 16, z0), (100, 16, z0)]) H := hB
  refine cr_put S hin hK (k := 3) (idx := 21) (by decide +kernel) (by decide) (by decide) hB hS (ty := .array .int) (by decide +kernel) rfl rfl (Nat.le_of_ble_eq_true rfl) di5_33 (fun H locs hB hS => ?_)
  have hB : Bx D dA q 2 [.ref (q + 1 + 0), .ref (q + 1 + 1), .ref (q + 1 + 2), .ref (q + 1 + 3), .null, .null, .int 0, .int 0] ([(100, 16, z0), (100, 16, z0), (100, 16, z0), (100, 16, z0)]) H := hB
  refine lv_aload_n hx hb di5_36 rfl (lv_at hl 0 rfl) ?_
  refine lv_sipush (v := 400) hx hb di5_37 (by decide) ?_
  refine cr_arr S hK (k := 0) (by decide) rfl (N := 400) (by decide) (by decide) (by decide) ⟨by decide, by decide⟩ hB (M := 4) rfl hS di5_40 (fun H hB hS => ?_)
  have hB : Bx D dA q 2 [.ref (q + 1 + 0), .ref (q + 1 + 1), .ref (q + 1 + 2), .ref (q + 1 + 3), .null, .null, .int 0, .int 0] ([(100, 16, z0), (100, 16, z0), (100, 16, z0), (100, 16, z0), (100, 400, z0)]) H := hB
  refine cr_put S hin hK (k := 4) (idx := 24) (by decide +kernel) (by decide) (by decide) hB hS (ty := .array .int) (by decide +kernel) rfl rfl (Nat.le_of_ble_eq_true rfl) di5_42 (fun H locs hB hS => ?_)
  have hB : Bx D dA q 2 [.ref (q + 1 + 0), .ref (q + 1 + 1), .ref (q + 1 + 2), .ref (q + 1 + 3), .ref (q + 1 + 4), .null, .int 0, .int 0] ([(100, 16, z0), (100, 16, z0), (100, 16, z0), (100, 16, z0), (100, 400, z0)]) H := hB
  refine lv_aload_n hx hb di5_45 rfl (lv_at hl 0 rfl) ?_
  refine lv_bipush (v := 64) hx hb di5_46 (by decide) ?_
  refine cr_arr S hK (k := 0) (by decide) rfl (N := 64) (by decide) (by decide) (by decide) ⟨by decide, by decide⟩ hB (M := 5) rfl hS di5_48 (fun H hB hS => ?_)
  have hB : Bx D dA q 2 [.ref (q + 1 + 0), .ref (q + 1 + 1), .ref (q + 1 + 2), .ref (q + 1 + 3), .ref (q + 1 + 4), .null, .int 0, .int 0] ([(100, 16, z0), (100, 16, z0), (100, 16, z0), (100, 16, z0), (100, 400, z0), (100, 64, z0)]) H := hB
  refine cr_put S hin hK (k := 5) (idx := 27) (by decide +kernel) (by decide) (by decide) hB hS (ty := .array .int) (by decide +kernel) rfl rfl (Nat.le_of_ble_eq_true rfl) di5_50 (fun H locs hB hS => ?_)
  have hB : Bx D dA q 2 [.ref (q + 1 + 0), .ref (q + 1 + 1), .ref (q + 1 + 2), .ref (q + 1 + 3), .ref (q + 1 + 4), .ref (q + 1 + 5), .int 0, .int 0] ([(100, 16, z0), (100, 16, z0), (100, 16, z0), (100, 16, z0), (100, 400, z0), (100, 64, z0)]) H := hB
  refine lv_aload_n hx hb di5_53 rfl (lv_at hl 0 rfl) ?_
  refine lv_iconst (v := 0) hx hb di5_54 (by decide) ?_
  refine cr_put S hin hK (k := 6) (idx := 30) (by decide +kernel) (by decide) (by decide) hB hS (ty := .int) (by decide +kernel) rfl rfl (Nat.le_of_ble_eq_true rfl) di5_55 (fun H locs hB hS => ?_)
  have hB : Bx D dA q 2 [.ref (q + 1 + 0), .ref (q + 1 + 1), .ref (q + 1 + 2), .ref (q + 1 + 3), .ref (q + 1 + 4), .ref (q + 1 + 5), .int 0, .int 0] ([(100, 16, z0), (100, 16, z0), (100, 16, z0), (100, 16, z0), (100, 400, z0), (100, 64, z0)]) H := hB
  refine lv_aload_n hx hb di5_58 rfl (lv_at hl 0 rfl) ?_
  refine lv_iconst (v := 0) hx hb di5_59 (by decide) ?_
  refine cr_put S hin hK (k := 7) (idx := 34) (by decide +kernel) (by decide) (by decide) hB hS (ty := .int) (by decide +kernel) rfl rfl (Nat.le_of_ble_eq_true rfl) di5_60 (fun H locs hB hS => ?_)
  have hB : Bx D dA q 2 [.ref (q + 1 + 0), .ref (q + 1 + 1), .ref (q + 1 + 2), .ref (q + 1 + 3), .ref (q + 1 + 4), .ref (q + 1 + 5), .int 0, .int 0] ([(100, 16, z0), (100, 16, z0), (100, 16, z0), (100, 16, z0), (100, 400, z0), (100, 64, z0)]) H := hB
  exact cr_end (f := z0) hx hb hr hlocks hB (by decide) rfl hS ⟨by decide, by decide⟩ di5_63
theorem di9_0 : decode (mB 9) 0 = .ok (.aload_n 0, 1) := by decide +kernel
theorem di9_1 : decode (mB 9) 1 = .ok (.invokespecial 3, 3) := by decide +kernel
theorem di9_4 : decode (mB 9) 4 = .ok (.aload_n 0, 1) := by decide +kernel
theorem di9_5 : decode (mB 9) 5 = .ok (.sipush 600, 3) := by decide +kernel
theorem di9_8 : decode (mB 9) 8 = .ok (.newarray .int, 2) := by decide +kernel
theorem di9_10 : decode (mB 9) 10 = .ok (.putfield 11, 3) := by decide +kernel
theorem di9_13 : decode (mB 9) 13 = .ok (.return_, 1) := by decide +kernel
set_option maxHeartbeats 4000000 in
set_option maxRecDepth 100000 in
theorem c_log {D : va_G} {dA : Nat → ClassId} {q : Nat} : Ini D dA 1 9 3 [] q LLog 1 600 := by
  refine cr_start (i := 9) (by decide +kernel) (ini_none (by decide +kernel)) rfl rfl (Nat.le_of_ble_eq_true rfl) (fun p l e s m args below meth c ls S hr hlocks hin hK hB hl => ?_)
  have S : CallFix p m c (mB 9) (mL 9) s args TB (cN 3) := S
  have hx := S.1
  have hb := S.2.1
  have hS : va_S (fun a => q ≤ a) s.heap s.heap [] := va_S.rf
  have hl : lv_has ls (mL 9) [(0, .ref q)] := hl
  generalize hH : s.heap = H at hB
  have hS : va_S (fun a => q ≤ a) s.heap H [] := by rw [← hH]; exact va_S.rf
  have hB : Bx D dA q 3 [.null] [] H := hB
  refine lv_aload_n hx hb di9_0 rfl (lv_at hl 0 rfl) ?_
  refine cr_obj S (by decide +kernel) hl.1 ⟨Nat.le_of_ble_eq_true rfl, Nat.le_of_ble_eq_true rfl⟩ (Nat.le_of_ble_eq_true rfl) di9_1 ?_
  refine lv_aload_n hx hb di9_4 rfl (lv_at hl 0 rfl) ?_
  refine lv_sipush (v := 600) hx hb di9_5 (by decide) ?_
  refine cr_arr S hK (k := 0) (by decide) rfl (N := 600) (by decide) (by decide) (by decide) ⟨by decide, by decide⟩ hB (M := 0) rfl hS di9_8 (fun H hB hS => ?_)
  have hB : Bx D dA q 3 [.null] ([(100, 600, z0)]) H := hB
  refine cr_put S hin hK (k := 0) (idx := 11) (by decide +kernel) (by decide) (by decide) hB hS (ty := .array .int) (by decide +kernel) rfl rfl (Nat.le_of_ble_eq_true rfl) di9_10 (fun H locs hB hS => ?_)
  have hB : Bx D dA q 3 [.ref (q + 1 + 0)] ([(100, 600, z0)]) H := hB
  exact cr_end (f := z0) hx hb hr hlocks hB (by decide) rfl hS ⟨by decide, by decide⟩ di9_13
theorem di10_0 : decode (mB 10) 0 = .ok (.aload_n 0, 1) := by decide +kernel
theorem di10_1 : decode (mB 10) 1 = .ok (.invokespecial 3, 3) := by decide +kernel
theorem di10_4 : decode (mB 10) 4 = .ok (.aload_n 0, 1) := by decide +kernel
theorem di10_5 : decode (mB 10) 5 = .ok (.bipush 10, 2) := by decide +kernel
theorem di10_7 : decode (mB 10) 7 = .ok (.newarray .int, 2) := by decide +kernel
theorem di10_9 : decode (mB 10) 9 = .ok (.putfield 9, 3) := by decide +kernel
theorem di10_12 : decode (mB 10) 12 = .ok (.aload_n 0, 1) := by decide +kernel
theorem di10_13 : decode (mB 10) 13 = .ok (.aload_n 1, 1) := by decide +kernel
theorem di10_14 : decode (mB 10) 14 = .ok (.putfield 15, 3) := by decide +kernel
theorem di10_17 : decode (mB 10) 17 = .ok (.aload_n 0, 1) := by decide +kernel
theorem di10_18 : decode (mB 10) 18 = .ok (.aload_n 2, 1) := by decide +kernel
theorem di10_19 : decode (mB 10) 19 = .ok (.putfield 19, 3) := by decide +kernel
theorem di10_22 : decode (mB 10) 22 = .ok (.return_, 1) := by decide +kernel
set_option maxHeartbeats 4000000 in
set_option maxRecDepth 100000 in
theorem c_course {D : va_G} {dA : Nat → ClassId} {q : Nat} : Ini D dA 1 10 0 [.ref (q - 119), .ref (q - 67)] q LCourse 1 10 := by
  refine cr_start (i := 10) (by decide +kernel) (ini_none (by decide +kernel)) rfl rfl (Nat.le_of_ble_eq_true rfl) (fun p l e s m args below meth c ls S hr hlocks hin hK hB hl => ?_)
  have S : CallFix p m c (mB 10) (mL 10) s args TB (cN 0) := S
  have hx := S.1
  have hb := S.2.1
  have hS : va_S (fun a => q ≤ a) s.heap s.heap [] := va_S.rf
  have hl : lv_has ls (mL 10) [(0, .ref q), (1, .ref (q - 119)), (2, .ref (q - 67))] := hl
  generalize hH : s.heap = H at hB
  have hS : va_S (fun a => q ≤ a) s.heap H [] := by rw [← hH]; exact va_S.rf
  have hB : Bx D dA q 0 [.null, .null, .null] [] H := hB
  refine lv_aload_n hx hb di10_0 rfl (lv_at hl 0 rfl) ?_
  refine cr_obj S (by decide +kernel) hl.1 ⟨Nat.le_of_ble_eq_true rfl, Nat.le_of_ble_eq_true rfl⟩ (Nat.le_of_ble_eq_true rfl) di10_1 ?_
  refine lv_aload_n hx hb di10_4 rfl (lv_at hl 0 rfl) ?_
  refine lv_bipush (v := 10) hx hb di10_5 (by decide) ?_
  refine cr_arr S hK (k := 0) (by decide) rfl (N := 10) (by decide) (by decide) (by decide) ⟨by decide, by decide⟩ hB (M := 0) rfl hS di10_7 (fun H hB hS => ?_)
  have hB : Bx D dA q 0 [.null, .null, .null] ([(100, 10, z0)]) H := hB
  refine cr_put S hin hK (k := 2) (idx := 9) (by decide +kernel) (by decide) (by decide) hB hS (ty := .array .int) (by decide +kernel) rfl rfl (Nat.le_of_ble_eq_true rfl) di10_9 (fun H locs hB hS => ?_)
  have hB : Bx D dA q 0 [.null, .null, .ref (q + 1 + 0)] ([(100, 10, z0)]) H := hB
  refine lv_aload_n hx hb di10_12 rfl (lv_at hl 0 rfl) ?_
  refine lv_aload_n hx hb di10_13 rfl (lv_at hl 1 rfl) ?_
  refine cr_put S hin hK (k := 0) (idx := 15) (by decide +kernel) (by decide) (by decide) hB hS (ty := .object "PierTooFar$Told") (by decide +kernel) rfl rfl (Nat.le_of_ble_eq_true rfl) di10_14 (fun H locs hB hS => ?_)
  have hB : Bx D dA q 0 [.ref (q - 119), .null, .ref (q + 1 + 0)] ([(100, 10, z0)]) H := hB
  refine lv_aload_n hx hb di10_17 rfl (lv_at hl 0 rfl) ?_
  refine lv_aload_n hx hb di10_18 rfl (lv_at hl 2 rfl) ?_
  refine cr_put S hin hK (k := 1) (idx := 19) (by decide +kernel) (by decide) (by decide) hB hS (ty := .object "PierTooFar$Log") (by decide +kernel) rfl rfl (Nat.le_of_ble_eq_true rfl) di10_19 (fun H locs hB hS => ?_)
  have hB : Bx D dA q 0 [.ref (q - 119), .ref (q - 67), .ref (q + 1 + 0)] ([(100, 10, z0)]) H := hB
  exact cr_end (f := z0) hx hb hr hlocks hB (by decide) rfl hS ⟨by decide, by decide⟩ di10_22
theorem di3_0 : decode (mB 3) 0 = .ok (.aload_n 0, 1) := by decide +kernel
theorem di3_1 : decode (mB 3) 1 = .ok (.invokespecial 3, 3) := by decide +kernel
theorem di3_4 : decode (mB 3) 4 = .ok (.aload_n 0, 1) := by decide +kernel
theorem di3_5 : decode (mB 3) 5 = .ok (.sipush 200, 3) := by decide +kernel
theorem di3_8 : decode (mB 3) 8 = .ok (.newarray .boolean, 2) := by decide +kernel
theorem di3_10 : decode (mB 3) 10 = .ok (.putfield 9, 3) := by decide +kernel
theorem di3_13 : decode (mB 3) 13 = .ok (.aload_n 0, 1) := by decide +kernel
theorem di3_14 : decode (mB 3) 14 = .ok (.bipush 12, 2) := by decide +kernel
theorem di3_16 : decode (mB 3) 16 = .ok (.newarray .int, 2) := by decide +kernel
theorem di3_18 : decode (mB 3) 18 = .ok (.putfield 15, 3) := by decide +kernel
theorem di3_21 : decode (mB 3) 21 = .ok (.aload_n 0, 1) := by decide +kernel
theorem di3_22 : decode (mB 3) 22 = .ok (.bipush 12, 2) := by decide +kernel
theorem di3_24 : decode (mB 3) 24 = .ok (.newarray .boolean, 2) := by decide +kernel
theorem di3_26 : decode (mB 3) 26 = .ok (.putfield 19, 3) := by decide +kernel
theorem di3_29 : decode (mB 3) 29 = .ok (.aload_n 0, 1) := by decide +kernel
theorem di3_30 : decode (mB 3) 30 = .ok (.bipush 12, 2) := by decide +kernel
theorem di3_32 : decode (mB 3) 32 = .ok (.newarray .int, 2) := by decide +kernel
theorem di3_34 : decode (mB 3) 34 = .ok (.putfield 22, 3) := by decide +kernel
theorem di3_37 : decode (mB 3) 37 = .ok (.aload_n 0, 1) := by decide +kernel
theorem di3_38 : decode (mB 3) 38 = .ok (.iconst 0, 1) := by decide +kernel
theorem di3_39 : decode (mB 3) 39 = .ok (.putfield 25, 3) := by decide +kernel
theorem di3_42 : decode (mB 3) 42 = .ok (.aload_n 0, 1) := by decide +kernel
theorem di3_43 : decode (mB 3) 43 = .ok (.iconst 0, 1) := by decide +kernel
theorem di3_44 : decode (mB 3) 44 = .ok (.putfield 29, 3) := by decide +kernel
theorem di3_47 : decode (mB 3) 47 = .ok (.aload_n 0, 1) := by decide +kernel
theorem di3_48 : decode (mB 3) 48 = .ok (.iconst 0, 1) := by decide +kernel
theorem di3_49 : decode (mB 3) 49 = .ok (.putfield 32, 3) := by decide +kernel
theorem di3_52 : decode (mB 3) 52 = .ok (.aload_n 0, 1) := by decide +kernel
theorem di3_53 : decode (mB 3) 53 = .ok (.iconst 0, 1) := by decide +kernel
theorem di3_54 : decode (mB 3) 54 = .ok (.putfield 35, 3) := by decide +kernel
theorem di3_57 : decode (mB 3) 57 = .ok (.aload_n 0, 1) := by decide +kernel
theorem di3_58 : decode (mB 3) 58 = .ok (.iconst 0, 1) := by decide +kernel
theorem di3_59 : decode (mB 3) 59 = .ok (.putfield 38, 3) := by decide +kernel
theorem di3_62 : decode (mB 3) 62 = .ok (.aload_n 0, 1) := by decide +kernel
theorem di3_63 : decode (mB 3) 63 = .ok (.iconst 0, 1) := by decide +kernel
theorem di3_64 : decode (mB 3) 64 = .ok (.putfield 41, 3) := by decide +kernel
theorem di3_67 : decode (mB 3) 67 = .ok (.aload_n 0, 1) := by decide +kernel
theorem di3_68 : decode (mB 3) 68 = .ok (.iload_n 1, 1) := by decide +kernel
theorem di3_69 : decode (mB 3) 69 = .ok (.putfield 44, 3) := by decide +kernel
theorem di3_72 : decode (mB 3) 72 = .ok (.iconst 0, 1) := by decide +kernel
theorem di3_73 : decode (mB 3) 73 = .ok (.istore_n 2, 1) := by decide +kernel
theorem di3_74 : decode (mB 3) 74 = .ok (.iload_n 2, 1) := by decide +kernel
theorem di3_75 : decode (mB 3) 75 = .ok (.bipush 12, 2) := by decide +kernel
theorem di3_77 : decode (mB 3) 77 = .ok (.if_icmp .ge 16, 3) := by decide +kernel
theorem di3_80 : decode (mB 3) 80 = .ok (.aload_n 0, 1) := by decide +kernel
theorem di3_81 : decode (mB 3) 81 = .ok (.getfield 15, 3) := by decide +kernel
theorem di3_84 : decode (mB 3) 84 = .ok (.iload_n 2, 1) := by decide +kernel
theorem di3_85 : decode (mB 3) 85 = .ok (.iconst (-1), 1) := by decide +kernel
theorem di3_86 : decode (mB 3) 86 = .ok (.iastore, 1) := by decide +kernel
theorem di3_87 : decode (mB 3) 87 = .ok (.iinc 2 1, 3) := by decide +kernel
theorem di3_90 : decode (mB 3) 90 = .ok (.goto (-16), 3) := by decide +kernel
theorem di3_93 : decode (mB 3) 93 = .ok (.return_, 1) := by decide +kernel
set_option maxHeartbeats 4000000 in
set_option maxRecDepth 100000 in
theorem c_pier {D : va_G} {dA : Nat → ClassId} {q : Nat} {b : Int32} (hb01 : narrow .boolean (.int b) = .int b) (hb02 : fits .boolean (.int b) = true) : Ini D dA 1 3 4 [.int b] q (LPier b) 4 236 := by
  refine cr_start (i := 3) (by decide +kernel) (ini_none (by decide +kernel)) rfl rfl (Nat.le_of_ble_eq_true rfl) (fun p l e s m args below meth c ls S hr hlocks hin hK hB hl => ?_)
  have S : CallFix p m c (mB 3) (mL 3) s args TB (cN 4) := S
  have hx := S.1
  have hb := S.2.1
  have hS : va_S (fun a => q ≤ a) s.heap s.heap [] := va_S.rf
  have hl : lv_has ls (mL 3) [(0, .ref q), (1, .int b)] := hl
  generalize hH : s.heap = H at hB
  have hS : va_S (fun a => q ≤ a) s.heap H [] := by rw [← hH]; exact va_S.rf
  have hB : Bx D dA q 4 [.int 0, .null, .null, .null, .null, .int 0, .int 0, .int 0, .int 0, .int 0, .int 0] [] H := hB
  refine lv_aload_n hx hb di3_0 rfl (lv_at hl 0 rfl) ?_
  refine cr_obj S (by decide +kernel) hl.1 ⟨Nat.le_of_ble_eq_true rfl, Nat.le_of_ble_eq_true rfl⟩ (Nat.le_of_ble_eq_true rfl) di3_1 ?_
  refine lv_aload_n hx hb di3_4 rfl (lv_at hl 0 rfl) ?_
  refine lv_sipush (v := 200) hx hb di3_5 (by decide) ?_
  refine cr_arr S hK (k := 1) (by decide) rfl (N := 200) (by decide) (by decide) (by decide) ⟨by decide, by decide⟩ hB (M := 0) rfl hS di3_8 (fun H hB hS => ?_)
  have hB : Bx D dA q 4 [.int 0, .null, .null, .null, .null, .int 0, .int 0, .int 0, .int 0, .int 0, .int 0] ([(101, 200, z0)]) H := hB
  refine cr_put S hin hK (k := 1) (idx := 9) (by decide +kernel) (by decide) (by decide) hB hS (ty := .array .boolean) (by decide +kernel) rfl rfl (Nat.le_of_ble_eq_true rfl) di3_10 (fun H locs hB hS => ?_)
  have hB : Bx D dA q 4 [.int 0, .ref (q + 1 + 0), .null, .null, .null, .int 0, .int 0, .int 0, .int 0, .int 0, .int 0] ([(101, 200, z0)]) H := hB
  refine lv_aload_n hx hb di3_13 rfl (lv_at hl 0 rfl) ?_
  refine lv_bipush (v := 12) hx hb di3_14 (by decide) ?_
  refine cr_arr S hK (k := 0) (by decide) rfl (N := 12) (by decide) (by decide) (by decide) ⟨by decide, by decide⟩ hB (M := 1) rfl hS di3_16 (fun H hB hS => ?_)
  have hB : Bx D dA q 4 [.int 0, .ref (q + 1 + 0), .null, .null, .null, .int 0, .int 0, .int 0, .int 0, .int 0, .int 0] ([(101, 200, z0), (100, 12, z0)]) H := hB
  refine cr_put S hin hK (k := 2) (idx := 15) (by decide +kernel) (by decide) (by decide) hB hS (ty := .array .int) (by decide +kernel) rfl rfl (Nat.le_of_ble_eq_true rfl) di3_18 (fun H locs hB hS => ?_)
  have hB : Bx D dA q 4 [.int 0, .ref (q + 1 + 0), .ref (q + 1 + 1), .null, .null, .int 0, .int 0, .int 0, .int 0, .int 0, .int 0] ([(101, 200, z0), (100, 12, z0)]) H := hB
  refine lv_aload_n hx hb di3_21 rfl (lv_at hl 0 rfl) ?_
  refine lv_bipush (v := 12) hx hb di3_22 (by decide) ?_
  refine cr_arr S hK (k := 1) (by decide) rfl (N := 12) (by decide) (by decide) (by decide) ⟨by decide, by decide⟩ hB (M := 2) rfl hS di3_24 (fun H hB hS => ?_)
  have hB : Bx D dA q 4 [.int 0, .ref (q + 1 + 0), .ref (q + 1 + 1), .null, .null, .int 0, .int 0, .int 0, .int 0, .int 0, .int 0] ([(101, 200, z0), (100, 12, z0), (101, 12, z0)]) H := hB
  refine cr_put S hin hK (k := 3) (idx := 19) (by decide +kernel) (by decide) (by decide) hB hS (ty := .array .boolean) (by decide +kernel) rfl rfl (Nat.le_of_ble_eq_true rfl) di3_26 (fun H locs hB hS => ?_)
  have hB : Bx D dA q 4 [.int 0, .ref (q + 1 + 0), .ref (q + 1 + 1), .ref (q + 1 + 2), .null, .int 0, .int 0, .int 0, .int 0, .int 0, .int 0] ([(101, 200, z0), (100, 12, z0), (101, 12, z0)]) H := hB
  refine lv_aload_n hx hb di3_29 rfl (lv_at hl 0 rfl) ?_
  refine lv_bipush (v := 12) hx hb di3_30 (by decide) ?_
  refine cr_arr S hK (k := 0) (by decide) rfl (N := 12) (by decide) (by decide) (by decide) ⟨by decide, by decide⟩ hB (M := 3) rfl hS di3_32 (fun H hB hS => ?_)
  have hB : Bx D dA q 4 [.int 0, .ref (q + 1 + 0), .ref (q + 1 + 1), .ref (q + 1 + 2), .null, .int 0, .int 0, .int 0, .int 0, .int 0, .int 0] ([(101, 200, z0), (100, 12, z0), (101, 12, z0), (100, 12, z0)]) H := hB
  refine cr_put S hin hK (k := 4) (idx := 22) (by decide +kernel) (by decide) (by decide) hB hS (ty := .array .int) (by decide +kernel) rfl rfl (Nat.le_of_ble_eq_true rfl) di3_34 (fun H locs hB hS => ?_)
  have hB : Bx D dA q 4 [.int 0, .ref (q + 1 + 0), .ref (q + 1 + 1), .ref (q + 1 + 2), .ref (q + 1 + 3), .int 0, .int 0, .int 0, .int 0, .int 0, .int 0] ([(101, 200, z0), (100, 12, z0), (101, 12, z0), (100, 12, z0)]) H := hB
  refine lv_aload_n hx hb di3_37 rfl (lv_at hl 0 rfl) ?_
  refine lv_iconst (v := 0) hx hb di3_38 (by decide) ?_
  refine cr_put S hin hK (k := 5) (idx := 25) (by decide +kernel) (by decide) (by decide) hB hS (ty := .int) (by decide +kernel) rfl rfl (Nat.le_of_ble_eq_true rfl) di3_39 (fun H locs hB hS => ?_)
  have hB : Bx D dA q 4 [.int 0, .ref (q + 1 + 0), .ref (q + 1 + 1), .ref (q + 1 + 2), .ref (q + 1 + 3), .int 0, .int 0, .int 0, .int 0, .int 0, .int 0] ([(101, 200, z0), (100, 12, z0), (101, 12, z0), (100, 12, z0)]) H := hB
  refine lv_aload_n hx hb di3_42 rfl (lv_at hl 0 rfl) ?_
  refine lv_iconst (v := 0) hx hb di3_43 (by decide) ?_
  refine cr_put S hin hK (k := 6) (idx := 29) (by decide +kernel) (by decide) (by decide) hB hS (ty := .int) (by decide +kernel) rfl rfl (Nat.le_of_ble_eq_true rfl) di3_44 (fun H locs hB hS => ?_)
  have hB : Bx D dA q 4 [.int 0, .ref (q + 1 + 0), .ref (q + 1 + 1), .ref (q + 1 + 2), .ref (q + 1 + 3), .int 0, .int 0, .int 0, .int 0, .int 0, .int 0] ([(101, 200, z0), (100, 12, z0), (101, 12, z0), (100, 12, z0)]) H := hB
  refine lv_aload_n hx hb di3_47 rfl (lv_at hl 0 rfl) ?_
  refine lv_iconst (v := 0) hx hb di3_48 (by decide) ?_
  refine cr_put S hin hK (k := 7) (idx := 32) (by decide +kernel) (by decide) (by decide) hB hS (ty := .int) (by decide +kernel) rfl rfl (Nat.le_of_ble_eq_true rfl) di3_49 (fun H locs hB hS => ?_)
  have hB : Bx D dA q 4 [.int 0, .ref (q + 1 + 0), .ref (q + 1 + 1), .ref (q + 1 + 2), .ref (q + 1 + 3), .int 0, .int 0, .int 0, .int 0, .int 0, .int 0] ([(101, 200, z0), (100, 12, z0), (101, 12, z0), (100, 12, z0)]) H := hB
  refine lv_aload_n hx hb di3_52 rfl (lv_at hl 0 rfl) ?_
  refine lv_iconst (v := 0) hx hb di3_53 (by decide) ?_
  refine cr_put S hin hK (k := 8) (idx := 35) (by decide +kernel) (by decide) (by decide) hB hS (ty := .int) (by decide +kernel) rfl rfl (Nat.le_of_ble_eq_true rfl) di3_54 (fun H locs hB hS => ?_)
  have hB : Bx D dA q 4 [.int 0, .ref (q + 1 + 0), .ref (q + 1 + 1), .ref (q + 1 + 2), .ref (q + 1 + 3), .int 0, .int 0, .int 0, .int 0, .int 0, .int 0] ([(101, 200, z0), (100, 12, z0), (101, 12, z0), (100, 12, z0)]) H := hB
  refine lv_aload_n hx hb di3_57 rfl (lv_at hl 0 rfl) ?_
  refine lv_iconst (v := 0) hx hb di3_58 (by decide) ?_
  refine cr_put S hin hK (k := 9) (idx := 38) (by decide +kernel) (by decide) (by decide) hB hS (ty := .int) (by decide +kernel) rfl rfl (Nat.le_of_ble_eq_true rfl) di3_59 (fun H locs hB hS => ?_)
  have hB : Bx D dA q 4 [.int 0, .ref (q + 1 + 0), .ref (q + 1 + 1), .ref (q + 1 + 2), .ref (q + 1 + 3), .int 0, .int 0, .int 0, .int 0, .int 0, .int 0] ([(101, 200, z0), (100, 12, z0), (101, 12, z0), (100, 12, z0)]) H := hB
  refine lv_aload_n hx hb di3_62 rfl (lv_at hl 0 rfl) ?_
  refine lv_iconst (v := 0) hx hb di3_63 (by decide) ?_
  refine cr_put S hin hK (k := 10) (idx := 41) (by decide +kernel) (by decide) (by decide) hB hS (ty := .int) (by decide +kernel) rfl rfl (Nat.le_of_ble_eq_true rfl) di3_64 (fun H locs hB hS => ?_)
  have hB : Bx D dA q 4 [.int 0, .ref (q + 1 + 0), .ref (q + 1 + 1), .ref (q + 1 + 2), .ref (q + 1 + 3), .int 0, .int 0, .int 0, .int 0, .int 0, .int 0] ([(101, 200, z0), (100, 12, z0), (101, 12, z0), (100, 12, z0)]) H := hB
  refine lv_aload_n hx hb di3_67 rfl (lv_at hl 0 rfl) ?_
  refine lv_iload_n hx hb di3_68 rfl (lv_at hl 1 rfl) ?_
  refine cr_put S hin hK (k := 0) (idx := 44) (by decide +kernel) (by decide) (by decide) hB hS (ty := .boolean) (by decide +kernel) hb01 hb02 (Nat.le_of_ble_eq_true rfl) di3_69 (fun H locs hB hS => ?_)
  have hB : Bx D dA q 4 [.int b, .ref (q + 1 + 0), .ref (q + 1 + 1), .ref (q + 1 + 2), .ref (q + 1 + 3), .int 0, .int 0, .int 0, .int 0, .int 0, .int 0] ([(101, 200, z0), (100, 12, z0), (101, 12, z0), (100, 12, z0)]) H := hB
  refine lv_iconst (v := 0) hx hb di3_72 (by decide) ?_
  refine lv_istore_n (lv' := [(2, .int (nI 0)), (0, .ref q), (1, .int b)]) hx hb di3_73 rfl hl (by decide +kernel) rfl (fun ls hl => ?_)
  have hl : lv_has ls (mL 3) [(2, .int (nI 0)), (0, .ref q)] := lv_sub hl [0, 1] rfl
  have loop : ∀ (k i : Nat) (H : Heap) (locs : List Loc) (ls : Array Slot) (f : Nat → Int32), i ≤ 12 → 12 < i + k → (∀ j, j < i → f j = -1) → Bx D dA q 4 [.int b, .ref (q + 1 + 0), .ref (q + 1 + 1), .ref (q + 1 + 2), .ref (q + 1 + 3), .int 0, .int 0, .int 0, .int 0, .int 0, .int 0] [(101, 200, z0), (100, 12, f), (101, 12, z0), (100, 12, z0)] H → va_S (fun a => q ≤ a) s.heap H locs → lv_has ls (mL 3) [(2, .int (nI i)), (0, .ref q)] → W p l e (rmI 1 4 236) s m args below meth c H locs 4 236 (MQ below (QcI D dA q (LPier b)) args s 4 236 (fun a => q ≤ a)) (F0 m 74 ls []) := by
    intro k
    induction k with
    | zero => intro i H locs ls f h1 h2; omega
    | succ k ih =>
      intro i H locs ls f h1 h2 hf hB hS hl
      refine lv_iload_n hx hb di3_74 rfl (lv_at hl 0 rfl) ?_
      refine lv_bipush (v := nI 12) hx hb di3_75 (by decide) ?_
      refine lv_icmp_ge (tgt := 93) hx hb di3_77 (by decide) (fun hge => ?_) (fun hlt => ?_)
      · have hi : i = 12 := by
          rcases Nat.lt_or_ge i 12 with h | h
          · exact absurd hge (nI_ge h (by decide))
          · omega
        subst hi
        have hB : Bx D dA q 4 [.int b, .ref (q + 1 + 0), .ref (q + 1 + 1), .ref (q + 1 + 2), .ref (q + 1 + 3), .int 0, .int 0, .int 0, .int 0, .int 0, .int 0] [(101, 200, z0), (100, 12, mOne), (101, 12, z0), (100, 12, z0)] H := ⟨hB.1, hB.2.1.set 1 (100, 12, mOne) (by
          have h0 : H[q + 1 + 1]? = some (arrV (dA 0) 12 (fun j => .int (f j))) := hB.2.1 1 _ rfl
          show H[q + 1 + 1]? = some (arrV (dA 0) 12 (fun j => .int (mOne j)))
          rw [h0]
          refine congrArg some (arr_ext fun j hj => ?_)
          rw [hf j hj]
          rfl) (fun _ _ => rfl), hB.2.2⟩
        exact cr_end (f := fPier b) hx hb hr hlocks hB (by decide) rfl hS ⟨by decide, by decide⟩ di3_93
      · have hi : i < 12 := by
          rcases Nat.lt_or_ge i 12 with h | h
          · exact h
          · exact absurd (nI_le h (by omega)) hlt
        refine lv_aload_n hx hb di3_80 rfl (lv_at hl 1 rfl) ?_
        refine cr_get S hK (t' := 4) (k := 2) (Or.inl (by decide +kernel)) (by decide) (by decide) hB.1 rfl di3_81 ?_
        refine lv_iload_n hx hb di3_84 rfl (lv_at hl 0 rfl) ?_
        refine lv_iconst (v := -1) hx hb di3_85 (by decide) ?_
        refine cr_iast S hK hB hS (j := 1) rfl (vp_in_nI hi (by decide)) di3_86 (fun H locs hB hS => ?_)
        refine lv_iinc (v := nI (i + 1)) (lv' := [(2, .int (nI (i + 1))), (0, .ref q)]) hx hb di3_87 hl (k := 0) rfl (nI_1 i) (by decide +kernel) rfl (fun ls hl => ?_)
        refine lv_goto (tgt := 74) hx hb di3_90 (by decide) ?_
        rw [nI_clamp (by omega)] at hB
        refine ih (i + 1) H locs ls _ hi (by omega) (fun j hj => ?_) hB hS hl
        unfold upd
        by_cases e : j = i
        · rw [if_pos e]
        · rw [if_neg e]
          exact hf j (by omega)
  refine W.widen (k := 4) (n := 236) (by decide) (by decide) ?_
  exact loop 13 0 H _ ls z0 (by omega) (by omega) (fun j h => by omega) hB hS hl
theorem di4_0 : decode (mB 4) 0 = .ok (.aload_n 0, 1) := by decide +kernel
theorem di4_1 : decode (mB 4) 1 = .ok (.invokespecial 3, 3) := by decide +kernel
theorem di4_4 : decode (mB 4) 4 = .ok (.aload_n 0, 1) := by decide +kernel
theorem di4_5 : decode (mB 4) 5 = .ok (.bipush 12, 2) := by decide +kernel
theorem di4_7 : decode (mB 4) 7 = .ok (.newarray .int, 2) := by decide +kernel
theorem di4_9 : decode (mB 4) 9 = .ok (.putfield 9, 3) := by decide +kernel
theorem di4_12 : decode (mB 4) 12 = .ok (.aload_n 0, 1) := by decide +kernel
theorem di4_13 : decode (mB 4) 13 = .ok (.bipush 12, 2) := by decide +kernel
theorem di4_15 : decode (mB 4) 15 = .ok (.newarray .int, 2) := by decide +kernel
theorem di4_17 : decode (mB 4) 17 = .ok (.putfield 15, 3) := by decide +kernel
theorem di4_20 : decode (mB 4) 20 = .ok (.aload_n 0, 1) := by decide +kernel
theorem di4_21 : decode (mB 4) 21 = .ok (.bipush 12, 2) := by decide +kernel
theorem di4_23 : decode (mB 4) 23 = .ok (.newarray .int, 2) := by decide +kernel
theorem di4_25 : decode (mB 4) 25 = .ok (.putfield 18, 3) := by decide +kernel
theorem di4_28 : decode (mB 4) 28 = .ok (.aload_n 0, 1) := by decide +kernel
theorem di4_29 : decode (mB 4) 29 = .ok (.new 21, 3) := by decide +kernel
theorem di4_32 : decode (mB 4) 32 = .ok (.dup, 1) := by decide +kernel
theorem di4_33 : decode (mB 4) 33 = .ok (.invokespecial 23, 3) := by decide +kernel
theorem di4_36 : decode (mB 4) 36 = .ok (.putfield 24, 3) := by decide +kernel
theorem di4_39 : decode (mB 4) 39 = .ok (.aload_n 0, 1) := by decide +kernel
theorem di4_40 : decode (mB 4) 40 = .ok (.new 28, 3) := by decide +kernel
theorem di4_43 : decode (mB 4) 43 = .ok (.dup, 1) := by decide +kernel
theorem di4_44 : decode (mB 4) 44 = .ok (.bipush 16, 2) := by decide +kernel
theorem di4_46 : decode (mB 4) 46 = .ok (.invokespecial 30, 3) := by decide +kernel
theorem di4_49 : decode (mB 4) 49 = .ok (.putfield 33, 3) := by decide +kernel
theorem di4_52 : decode (mB 4) 52 = .ok (.aload_n 0, 1) := by decide +kernel
theorem di4_53 : decode (mB 4) 53 = .ok (.new 28, 3) := by decide +kernel
theorem di4_56 : decode (mB 4) 56 = .ok (.dup, 1) := by decide +kernel
theorem di4_57 : decode (mB 4) 57 = .ok (.bipush 16, 2) := by decide +kernel
theorem di4_59 : decode (mB 4) 59 = .ok (.invokespecial 30, 3) := by decide +kernel
theorem di4_62 : decode (mB 4) 62 = .ok (.putfield 37, 3) := by decide +kernel
theorem di4_65 : decode (mB 4) 65 = .ok (.aload_n 0, 1) := by decide +kernel
theorem di4_66 : decode (mB 4) 66 = .ok (.new 28, 3) := by decide +kernel
theorem di4_69 : decode (mB 4) 69 = .ok (.dup, 1) := by decide +kernel
theorem di4_70 : decode (mB 4) 70 = .ok (.bipush 16, 2) := by decide +kernel
theorem di4_72 : decode (mB 4) 72 = .ok (.invokespecial 30, 3) := by decide +kernel
theorem di4_75 : decode (mB 4) 75 = .ok (.putfield 40, 3) := by decide +kernel
theorem di4_78 : decode (mB 4) 78 = .ok (.aload_n 0, 1) := by decide +kernel
theorem di4_79 : decode (mB 4) 79 = .ok (.iconst 0, 1) := by decide +kernel
theorem di4_80 : decode (mB 4) 80 = .ok (.putfield 43, 3) := by decide +kernel
theorem di4_83 : decode (mB 4) 83 = .ok (.aload_n 0, 1) := by decide +kernel
theorem di4_84 : decode (mB 4) 84 = .ok (.iconst 0, 1) := by decide +kernel
theorem di4_85 : decode (mB 4) 85 = .ok (.putfield 47, 3) := by decide +kernel
theorem di4_88 : decode (mB 4) 88 = .ok (.aload_n 0, 1) := by decide +kernel
theorem di4_89 : decode (mB 4) 89 = .ok (.iconst 0, 1) := by decide +kernel
theorem di4_90 : decode (mB 4) 90 = .ok (.putfield 50, 3) := by decide +kernel
theorem di4_93 : decode (mB 4) 93 = .ok (.return_, 1) := by decide +kernel
set_option maxHeartbeats 4000000 in
set_option maxRecDepth 100000 in
theorem c_told {D : va_G} {dA : Nat → ClassId} {q : Nat} : Ini D dA 2 4 8 [] q LTold 22 728 := by
  refine cr_start (i := 4) (by decide +kernel) (ini_none (by decide +kernel)) rfl rfl (Nat.le_of_ble_eq_true rfl) (fun p l e s m args below meth c ls S hr hlocks hin hK hB hl => ?_)
  have S : CallFix p m c (mB 4) (mL 4) s args TB (cN 8) := S
  have hx := S.1
  have hb := S.2.1
  have hS : va_S (fun a => q ≤ a) s.heap s.heap [] := va_S.rf
  have hl : lv_has ls (mL 4) [(0, .ref q)] := hl
  generalize hH : s.heap = H at hB
  have hS : va_S (fun a => q ≤ a) s.heap H [] := by rw [← hH]; exact va_S.rf
  have hB : Bx D dA q 8 [.null, .null, .null, .null, .null, .null, .null, .int 0, .int 0, .int 0] [] H := hB
  refine lv_aload_n hx hb di4_0 rfl (lv_at hl 0 rfl) ?_
  refine cr_obj S (by decide +kernel) hl.1 ⟨Nat.le_of_ble_eq_true rfl, Nat.le_of_ble_eq_true rfl⟩ (Nat.le_of_ble_eq_true rfl) di4_1 ?_
  refine lv_aload_n hx hb di4_4 rfl (lv_at hl 0 rfl) ?_
  refine lv_bipush (v := 12) hx hb di4_5 (by decide) ?_
  refine cr_arr S hK (k := 0) (by decide) rfl (N := 12) (by decide) (by decide) (by decide) ⟨by decide, by decide⟩ hB (M := 0) rfl hS di4_7 (fun H hB hS => ?_)
  have hB : Bx D dA q 8 [.null, .null, .null, .null, .null, .null, .null, .int 0, .int 0, .int 0] ([(100, 12, z0)]) H := hB
  refine cr_put S hin hK (k := 0) (idx := 9) (by decide +kernel) (by decide) (by decide) hB hS (ty := .array .int) (by decide +kernel) rfl rfl (Nat.le_of_ble_eq_true rfl) di4_9 (fun H locs hB hS => ?_)
  have hB : Bx D dA q 8 [.ref (q + 1 + 0), .null, .null, .null, .null, .null, .null, .int 0, .int 0, .int 0] ([(100, 12, z0)]) H := hB
  refine lv_aload_n hx hb di4_12 rfl (lv_at hl 0 rfl) ?_
  refine lv_bipush (v := 12) hx hb di4_13 (by decide) ?_
  refine cr_arr S hK (k := 0) (by decide) rfl (N := 12) (by decide) (by decide) (by decide) ⟨by decide, by decide⟩ hB (M := 1) rfl hS di4_15 (fun H hB hS => ?_)
  have hB : Bx D dA q 8 [.ref (q + 1 + 0), .null, .null, .null, .null, .null, .null, .int 0, .int 0, .int 0] ([(100, 12, z0), (100, 12, z0)]) H := hB
  refine cr_put S hin hK (k := 1) (idx := 15) (by decide +kernel) (by decide) (by decide) hB hS (ty := .array .int) (by decide +kernel) rfl rfl (Nat.le_of_ble_eq_true rfl) di4_17 (fun H locs hB hS => ?_)
  have hB : Bx D dA q 8 [.ref (q + 1 + 0), .ref (q + 1 + 1), .null, .null, .null, .null, .null, .int 0, .int 0, .int 0] ([(100, 12, z0), (100, 12, z0)]) H := hB
  refine lv_aload_n hx hb di4_20 rfl (lv_at hl 0 rfl) ?_
  refine lv_bipush (v := 12) hx hb di4_21 (by decide) ?_
  refine cr_arr S hK (k := 0) (by decide) rfl (N := 12) (by decide) (by decide) (by decide) ⟨by decide, by decide⟩ hB (M := 2) rfl hS di4_23 (fun H hB hS => ?_)
  have hB : Bx D dA q 8 [.ref (q + 1 + 0), .ref (q + 1 + 1), .null, .null, .null, .null, .null, .int 0, .int 0, .int 0] ([(100, 12, z0), (100, 12, z0), (100, 12, z0)]) H := hB
  refine cr_put S hin hK (k := 2) (idx := 18) (by decide +kernel) (by decide) (by decide) hB hS (ty := .array .int) (by decide +kernel) rfl rfl (Nat.le_of_ble_eq_true rfl) di4_25 (fun H locs hB hS => ?_)
  have hB : Bx D dA q 8 [.ref (q + 1 + 0), .ref (q + 1 + 1), .ref (q + 1 + 2), .null, .null, .null, .null, .int 0, .int 0, .int 0] ([(100, 12, z0), (100, 12, z0), (100, 12, z0)]) H := hB
  refine lv_aload_n hx hb di4_28 rfl (lv_at hl 0 rfl) ?_
  refine cr_newB S hK (t' := 2) (idx := 21) (M := 3) (by decide +kernel) (by decide) ⟨by decide, by decide⟩ hB rfl hS di4_29 (fun H hY hz hat hS => ?_)
  refine lv_dup hx hb di4_32 rfl ?_
  refine cr_iniB S hK (i := 5) (t' := 2) (As := []) (M := 3) c_law (by decide +kernel) (Or.inr (by decide +kernel)) rfl (by decide +kernel) hY rfl hz hat hl.1 (Nat.le_of_ble_eq_true rfl) ⟨by decide, by decide⟩ hS di4_33 (fun H locs hB hS => ?_)
  have hB : Bx D dA q 8 [.ref (q + 1 + 0), .ref (q + 1 + 1), .ref (q + 1 + 2), .null, .null, .null, .null, .int 0, .int 0, .int 0] ([(100, 12, z0), (100, 12, z0), (100, 12, z0)] ++ LLaw) H := hB
  refine cr_put S hin hK (k := 3) (idx := 24) (by decide +kernel) (by decide) (by decide) hB hS (ty := .object "PierTooFar$Law") (by decide +kernel) rfl rfl (Nat.le_of_ble_eq_true rfl) di4_36 (fun H locs hB hS => ?_)
  have hB : Bx D dA q 8 [.ref (q + 1 + 0), .ref (q + 1 + 1), .ref (q + 1 + 2), .ref (q + 1 + 3), .null, .null, .null, .int 0, .int 0, .int 0] ([(100, 12, z0), (100, 12, z0), (100, 12, z0)] ++ LLaw) H := hB
  refine lv_aload_n hx hb di4_39 rfl (lv_at hl 0 rfl) ?_
  refine cr_newB S hK (t' := 6) (idx := 28) (M := 10) (by decide +kernel) (by decide) ⟨by decide, by decide⟩ hB rfl hS di4_40 (fun H hY hz hat hS => ?_)
  refine lv_dup hx hb di4_43 rfl ?_
  refine lv_bipush (v := nI 16) hx hb di4_44 (by decide) ?_
  refine cr_iniB S hK (i := 6) (t' := 6) (As := [.int (nI 16)]) (M := 10) (c_rows (n := 16) (by decide)) (by decide +kernel) (Or.inl (by decide +kernel)) rfl (by decide +kernel) hY rfl hz hat hl.1 (Nat.le_of_ble_eq_true rfl) ⟨by decide, by decide⟩ hS di4_46 (fun H locs hB hS => ?_)
  have hB : Bx D dA q 8 [.ref (q + 1 + 0), .ref (q + 1 + 1), .ref (q + 1 + 2), .ref (q + 1 + 3), .null, .null, .null, .int 0, .int 0, .int 0] ([(100, 12, z0), (100, 12, z0), (100, 12, z0)] ++ LLaw ++ LRows 16) H := hB
  refine cr_put S hin hK (k := 4) (idx := 33) (by decide +kernel) (by decide) (by decide) hB hS (ty := .object "PierTooFar$Rows") (by decide +kernel) rfl rfl (Nat.le_of_ble_eq_true rfl) di4_49 (fun H locs hB hS => ?_)
  have hB : Bx D dA q 8 [.ref (q + 1 + 0), .ref (q + 1 + 1), .ref (q + 1 + 2), .ref (q + 1 + 3), .ref (q + 1 + 10), .null, .null, .int 0, .int 0, .int 0] ([(100, 12, z0), (100, 12, z0), (100, 12, z0)] ++ LLaw ++ LRows 16) H := hB
  refine lv_aload_n hx hb di4_52 rfl (lv_at hl 0 rfl) ?_
  refine cr_newB S hK (t' := 6) (idx := 28) (M := 14) (by decide +kernel) (by decide) ⟨by decide, by decide⟩ hB rfl hS di4_53 (fun H hY hz hat hS => ?_)
  refine lv_dup hx hb di4_56 rfl ?_
  refine lv_bipush (v := nI 16) hx hb di4_57 (by decide) ?_
  refine cr_iniB S hK (i := 6) (t' := 6) (As := [.int (nI 16)]) (M := 14) (c_rows (n := 16) (by decide)) (by decide +kernel) (Or.inl (by decide +kernel)) rfl (by decide +kernel) hY rfl hz hat hl.1 (Nat.le_of_ble_eq_true rfl) ⟨by decide, by decide⟩ hS di4_59 (fun H locs hB hS => ?_)
  have hB : Bx D dA q 8 [.ref (q + 1 + 0), .ref (q + 1 + 1), .ref (q + 1 + 2), .ref (q + 1 + 3), .ref (q + 1 + 10), .null, .null, .int 0, .int 0, .int 0] ([(100, 12, z0), (100, 12, z0), (100, 12, z0)] ++ LLaw ++ LRows 16 ++ LRows 16) H := hB
  refine cr_put S hin hK (k := 5) (idx := 37) (by decide +kernel) (by decide) (by decide) hB hS (ty := .object "PierTooFar$Rows") (by decide +kernel) rfl rfl (Nat.le_of_ble_eq_true rfl) di4_62 (fun H locs hB hS => ?_)
  have hB : Bx D dA q 8 [.ref (q + 1 + 0), .ref (q + 1 + 1), .ref (q + 1 + 2), .ref (q + 1 + 3), .ref (q + 1 + 10), .ref (q + 1 + 14), .null, .int 0, .int 0, .int 0] ([(100, 12, z0), (100, 12, z0), (100, 12, z0)] ++ LLaw ++ LRows 16 ++ LRows 16) H := hB
  refine lv_aload_n hx hb di4_65 rfl (lv_at hl 0 rfl) ?_
  refine cr_newB S hK (t' := 6) (idx := 28) (M := 18) (by decide +kernel) (by decide) ⟨by decide, by decide⟩ hB rfl hS di4_66 (fun H hY hz hat hS => ?_)
  refine lv_dup hx hb di4_69 rfl ?_
  refine lv_bipush (v := nI 16) hx hb di4_70 (by decide) ?_
  refine cr_iniB S hK (i := 6) (t' := 6) (As := [.int (nI 16)]) (M := 18) (c_rows (n := 16) (by decide)) (by decide +kernel) (Or.inl (by decide +kernel)) rfl (by decide +kernel) hY rfl hz hat hl.1 (Nat.le_of_ble_eq_true rfl) ⟨by decide, by decide⟩ hS di4_72 (fun H locs hB hS => ?_)
  have hB : Bx D dA q 8 [.ref (q + 1 + 0), .ref (q + 1 + 1), .ref (q + 1 + 2), .ref (q + 1 + 3), .ref (q + 1 + 10), .ref (q + 1 + 14), .null, .int 0, .int 0, .int 0] ([(100, 12, z0), (100, 12, z0), (100, 12, z0)] ++ LLaw ++ LRows 16 ++ LRows 16 ++ LRows 16) H := hB
  refine cr_put S hin hK (k := 6) (idx := 40) (by decide +kernel) (by decide) (by decide) hB hS (ty := .object "PierTooFar$Rows") (by decide +kernel) rfl rfl (Nat.le_of_ble_eq_true rfl) di4_75 (fun H locs hB hS => ?_)
  have hB : Bx D dA q 8 [.ref (q + 1 + 0), .ref (q + 1 + 1), .ref (q + 1 + 2), .ref (q + 1 + 3), .ref (q + 1 + 10), .ref (q + 1 + 14), .ref (q + 1 + 18), .int 0, .int 0, .int 0] ([(100, 12, z0), (100, 12, z0), (100, 12, z0)] ++ LLaw ++ LRows 16 ++ LRows 16 ++ LRows 16) H := hB
  refine lv_aload_n hx hb di4_78 rfl (lv_at hl 0 rfl) ?_
  refine lv_iconst (v := 0) hx hb di4_79 (by decide) ?_
  refine cr_put S hin hK (k := 7) (idx := 43) (by decide +kernel) (by decide) (by decide) hB hS (ty := .int) (by decide +kernel) rfl rfl (Nat.le_of_ble_eq_true rfl) di4_80 (fun H locs hB hS => ?_)
  have hB : Bx D dA q 8 [.ref (q + 1 + 0), .ref (q + 1 + 1), .ref (q + 1 + 2), .ref (q + 1 + 3), .ref (q + 1 + 10), .ref (q + 1 + 14), .ref (q + 1 + 18), .int 0, .int 0, .int 0] ([(100, 12, z0), (100, 12, z0), (100, 12, z0)] ++ LLaw ++ LRows 16 ++ LRows 16 ++ LRows 16) H := hB
  refine lv_aload_n hx hb di4_83 rfl (lv_at hl 0 rfl) ?_
  refine lv_iconst (v := 0) hx hb di4_84 (by decide) ?_
  refine cr_put S hin hK (k := 8) (idx := 47) (by decide +kernel) (by decide) (by decide) hB hS (ty := .int) (by decide +kernel) rfl rfl (Nat.le_of_ble_eq_true rfl) di4_85 (fun H locs hB hS => ?_)
  have hB : Bx D dA q 8 [.ref (q + 1 + 0), .ref (q + 1 + 1), .ref (q + 1 + 2), .ref (q + 1 + 3), .ref (q + 1 + 10), .ref (q + 1 + 14), .ref (q + 1 + 18), .int 0, .int 0, .int 0] ([(100, 12, z0), (100, 12, z0), (100, 12, z0)] ++ LLaw ++ LRows 16 ++ LRows 16 ++ LRows 16) H := hB
  refine lv_aload_n hx hb di4_88 rfl (lv_at hl 0 rfl) ?_
  refine lv_iconst (v := 0) hx hb di4_89 (by decide) ?_
  refine cr_put S hin hK (k := 9) (idx := 50) (by decide +kernel) (by decide) (by decide) hB hS (ty := .int) (by decide +kernel) rfl rfl (Nat.le_of_ble_eq_true rfl) di4_90 (fun H locs hB hS => ?_)
  have hB : Bx D dA q 8 [.ref (q + 1 + 0), .ref (q + 1 + 1), .ref (q + 1 + 2), .ref (q + 1 + 3), .ref (q + 1 + 10), .ref (q + 1 + 14), .ref (q + 1 + 18), .int 0, .int 0, .int 0] ([(100, 12, z0), (100, 12, z0), (100, 12, z0)] ++ LLaw ++ LRows 16 ++ LRows 16 ++ LRows 16) H := hB
  exact cr_end (f := z0) hx hb hr hlocks hB (by decide) rfl hS ⟨by decide, by decide⟩ di4_93
theorem di8_0 : decode (mB 8) 0 = .ok (.aload_n 0, 1) := by decide +kernel
theorem di8_1 : decode (mB 8) 1 = .ok (.invokespecial 3, 3) := by decide +kernel
theorem di8_4 : decode (mB 8) 4 = .ok (.aload_n 0, 1) := by decide +kernel
theorem di8_5 : decode (mB 8) 5 = .ok (.new 9, 3) := by decide +kernel
theorem di8_8 : decode (mB 8) 8 = .ok (.dup, 1) := by decide +kernel
theorem di8_9 : decode (mB 8) 9 = .ok (.bipush 20, 2) := by decide +kernel
theorem di8_11 : decode (mB 8) 11 = .ok (.invokespecial 11, 3) := by decide +kernel
theorem di8_14 : decode (mB 8) 14 = .ok (.putfield 14, 3) := by decide +kernel
theorem di8_17 : decode (mB 8) 17 = .ok (.aload_n 0, 1) := by decide +kernel
theorem di8_18 : decode (mB 8) 18 = .ok (.new 9, 3) := by decide +kernel
theorem di8_21 : decode (mB 8) 21 = .ok (.dup, 1) := by decide +kernel
theorem di8_22 : decode (mB 8) 22 = .ok (.bipush 10, 2) := by decide +kernel
theorem di8_24 : decode (mB 8) 24 = .ok (.invokespecial 11, 3) := by decide +kernel
theorem di8_27 : decode (mB 8) 27 = .ok (.putfield 20, 3) := by decide +kernel
theorem di8_30 : decode (mB 8) 30 = .ok (.aload_n 0, 1) := by decide +kernel
theorem di8_31 : decode (mB 8) 31 = .ok (.new 9, 3) := by decide +kernel
theorem di8_34 : decode (mB 8) 34 = .ok (.dup, 1) := by decide +kernel
theorem di8_35 : decode (mB 8) 35 = .ok (.bipush 16, 2) := by decide +kernel
theorem di8_37 : decode (mB 8) 37 = .ok (.invokespecial 11, 3) := by decide +kernel
theorem di8_40 : decode (mB 8) 40 = .ok (.putfield 23, 3) := by decide +kernel
theorem di8_43 : decode (mB 8) 43 = .ok (.aload_n 0, 1) := by decide +kernel
theorem di8_44 : decode (mB 8) 44 = .ok (.new 9, 3) := by decide +kernel
theorem di8_47 : decode (mB 8) 47 = .ok (.dup, 1) := by decide +kernel
theorem di8_48 : decode (mB 8) 48 = .ok (.bipush 12, 2) := by decide +kernel
theorem di8_50 : decode (mB 8) 50 = .ok (.invokespecial 11, 3) := by decide +kernel
theorem di8_53 : decode (mB 8) 53 = .ok (.putfield 26, 3) := by decide +kernel
theorem di8_56 : decode (mB 8) 56 = .ok (.aload_n 0, 1) := by decide +kernel
theorem di8_57 : decode (mB 8) 57 = .ok (.new 9, 3) := by decide +kernel
theorem di8_60 : decode (mB 8) 60 = .ok (.dup, 1) := by decide +kernel
theorem di8_61 : decode (mB 8) 61 = .ok (.bipush 10, 2) := by decide +kernel
theorem di8_63 : decode (mB 8) 63 = .ok (.invokespecial 11, 3) := by decide +kernel
theorem di8_66 : decode (mB 8) 66 = .ok (.putfield 29, 3) := by decide +kernel
theorem di8_69 : decode (mB 8) 69 = .ok (.aload_n 0, 1) := by decide +kernel
theorem di8_70 : decode (mB 8) 70 = .ok (.new 9, 3) := by decide +kernel
theorem di8_73 : decode (mB 8) 73 = .ok (.dup, 1) := by decide +kernel
theorem di8_74 : decode (mB 8) 74 = .ok (.bipush 8, 2) := by decide +kernel
theorem di8_76 : decode (mB 8) 76 = .ok (.invokespecial 11, 3) := by decide +kernel
theorem di8_79 : decode (mB 8) 79 = .ok (.putfield 32, 3) := by decide +kernel
theorem di8_82 : decode (mB 8) 82 = .ok (.aload_n 0, 1) := by decide +kernel
theorem di8_83 : decode (mB 8) 83 = .ok (.bipush 8, 2) := by decide +kernel
theorem di8_85 : decode (mB 8) 85 = .ok (.newarray .int, 2) := by decide +kernel
theorem di8_87 : decode (mB 8) 87 = .ok (.putfield 35, 3) := by decide +kernel
theorem di8_90 : decode (mB 8) 90 = .ok (.aload_n 0, 1) := by decide +kernel
theorem di8_91 : decode (mB 8) 91 = .ok (.bipush 8, 2) := by decide +kernel
theorem di8_93 : decode (mB 8) 93 = .ok (.newarray .int, 2) := by decide +kernel
theorem di8_95 : decode (mB 8) 95 = .ok (.putfield 39, 3) := by decide +kernel
theorem di8_98 : decode (mB 8) 98 = .ok (.aload_n 0, 1) := by decide +kernel
theorem di8_99 : decode (mB 8) 99 = .ok (.bipush 10, 2) := by decide +kernel
theorem di8_101 : decode (mB 8) 101 = .ok (.newarray .int, 2) := by decide +kernel
theorem di8_103 : decode (mB 8) 103 = .ok (.putfield 42, 3) := by decide +kernel
theorem di8_106 : decode (mB 8) 106 = .ok (.aload_n 0, 1) := by decide +kernel
theorem di8_107 : decode (mB 8) 107 = .ok (.bipush 11, 2) := by decide +kernel
theorem di8_109 : decode (mB 8) 109 = .ok (.newarray .int, 2) := by decide +kernel
theorem di8_111 : decode (mB 8) 111 = .ok (.putfield 45, 3) := by decide +kernel
theorem di8_114 : decode (mB 8) 114 = .ok (.return_, 1) := by decide +kernel
set_option maxHeartbeats 4000000 in
set_option maxRecDepth 100000 in
theorem c_thought {D : va_G} {dA : Nat → ClassId} {q : Nat} : Ini D dA 2 8 7 [] q LThought 28 289 := by
  refine cr_start (i := 8) (by decide +kernel) (ini_none (by decide +kernel)) rfl rfl (Nat.le_of_ble_eq_true rfl) (fun p l e s m args below meth c ls S hr hlocks hin hK hB hl => ?_)
  have S : CallFix p m c (mB 8) (mL 8) s args TB (cN 7) := S
  have hx := S.1
  have hb := S.2.1
  have hS : va_S (fun a => q ≤ a) s.heap s.heap [] := va_S.rf
  have hl : lv_has ls (mL 8) [(0, .ref q)] := hl
  generalize hH : s.heap = H at hB
  have hS : va_S (fun a => q ≤ a) s.heap H [] := by rw [← hH]; exact va_S.rf
  have hB : Bx D dA q 7 [.null, .null, .null, .null, .null, .null, .null, .null, .null, .null] [] H := hB
  refine lv_aload_n hx hb di8_0 rfl (lv_at hl 0 rfl) ?_
  refine cr_obj S (by decide +kernel) hl.1 ⟨Nat.le_of_ble_eq_true rfl, Nat.le_of_ble_eq_true rfl⟩ (Nat.le_of_ble_eq_true rfl) di8_1 ?_
  refine lv_aload_n hx hb di8_4 rfl (lv_at hl 0 rfl) ?_
  refine cr_newB S hK (t' := 6) (idx := 9) (M := 0) (by decide +kernel) (by decide) ⟨by decide, by decide⟩ hB rfl hS di8_5 (fun H hY hz hat hS => ?_)
  refine lv_dup hx hb di8_8 rfl ?_
  refine lv_bipush (v := nI 20) hx hb di8_9 (by decide) ?_
  refine cr_iniB S hK (i := 6) (t' := 6) (As := [.int (nI 20)]) (M := 0) (c_rows (n := 20) (by decide)) (by decide +kernel) (Or.inl (by decide +kernel)) rfl (by decide +kernel) hY rfl hz hat hl.1 (Nat.le_of_ble_eq_true rfl) ⟨by decide, by decide⟩ hS di8_11 (fun H locs hB hS => ?_)
  have hB : Bx D dA q 7 [.null, .null, .null, .null, .null, .null, .null, .null, .null, .null] (LRows 20) H := hB
  refine cr_put S hin hK (k := 0) (idx := 14) (by decide +kernel) (by decide) (by decide) hB hS (ty := .object "PierTooFar$Rows") (by decide +kernel) rfl rfl (Nat.le_of_ble_eq_true rfl) di8_14 (fun H locs hB hS => ?_)
  have hB : Bx D dA q 7 [.ref (q + 1 + 0), .null, .null, .null, .null, .null, .null, .null, .null, .null] (LRows 20) H := hB
  refine lv_aload_n hx hb di8_17 rfl (lv_at hl 0 rfl) ?_
  refine cr_newB S hK (t' := 6) (idx := 9) (M := 4) (by decide +kernel) (by decide) ⟨by decide, by decide⟩ hB rfl hS di8_18 (fun H hY hz hat hS => ?_)
  refine lv_dup hx hb di8_21 rfl ?_
  refine lv_bipush (v := nI 10) hx hb di8_22 (by decide) ?_
  refine cr_iniB S hK (i := 6) (t' := 6) (As := [.int (nI 10)]) (M := 4) (c_rows (n := 10) (by decide)) (by decide +kernel) (Or.inl (by decide +kernel)) rfl (by decide +kernel) hY rfl hz hat hl.1 (Nat.le_of_ble_eq_true rfl) ⟨by decide, by decide⟩ hS di8_24 (fun H locs hB hS => ?_)
  have hB : Bx D dA q 7 [.ref (q + 1 + 0), .null, .null, .null, .null, .null, .null, .null, .null, .null] (LRows 20 ++ LRows 10) H := hB
  refine cr_put S hin hK (k := 1) (idx := 20) (by decide +kernel) (by decide) (by decide) hB hS (ty := .object "PierTooFar$Rows") (by decide +kernel) rfl rfl (Nat.le_of_ble_eq_true rfl) di8_27 (fun H locs hB hS => ?_)
  have hB : Bx D dA q 7 [.ref (q + 1 + 0), .ref (q + 1 + 4), .null, .null, .null, .null, .null, .null, .null, .null] (LRows 20 ++ LRows 10) H := hB
  refine lv_aload_n hx hb di8_30 rfl (lv_at hl 0 rfl) ?_
  refine cr_newB S hK (t' := 6) (idx := 9) (M := 8) (by decide +kernel) (by decide) ⟨by decide, by decide⟩ hB rfl hS di8_31 (fun H hY hz hat hS => ?_)
  refine lv_dup hx hb di8_34 rfl ?_
  refine lv_bipush (v := nI 16) hx hb di8_35 (by decide) ?_
  refine cr_iniB S hK (i := 6) (t' := 6) (As := [.int (nI 16)]) (M := 8) (c_rows (n := 16) (by decide)) (by decide +kernel) (Or.inl (by decide +kernel)) rfl (by decide +kernel) hY rfl hz hat hl.1 (Nat.le_of_ble_eq_true rfl) ⟨by decide, by decide⟩ hS di8_37 (fun H locs hB hS => ?_)
  have hB : Bx D dA q 7 [.ref (q + 1 + 0), .ref (q + 1 + 4), .null, .null, .null, .null, .null, .null, .null, .null] (LRows 20 ++ LRows 10 ++ LRows 16) H := hB
  refine cr_put S hin hK (k := 2) (idx := 23) (by decide +kernel) (by decide) (by decide) hB hS (ty := .object "PierTooFar$Rows") (by decide +kernel) rfl rfl (Nat.le_of_ble_eq_true rfl) di8_40 (fun H locs hB hS => ?_)
  have hB : Bx D dA q 7 [.ref (q + 1 + 0), .ref (q + 1 + 4), .ref (q + 1 + 8), .null, .null, .null, .null, .null, .null, .null] (LRows 20 ++ LRows 10 ++ LRows 16) H := hB
  refine lv_aload_n hx hb di8_43 rfl (lv_at hl 0 rfl) ?_
  refine cr_newB S hK (t' := 6) (idx := 9) (M := 12) (by decide +kernel) (by decide) ⟨by decide, by decide⟩ hB rfl hS di8_44 (fun H hY hz hat hS => ?_)
  refine lv_dup hx hb di8_47 rfl ?_
  refine lv_bipush (v := nI 12) hx hb di8_48 (by decide) ?_
  refine cr_iniB S hK (i := 6) (t' := 6) (As := [.int (nI 12)]) (M := 12) (c_rows (n := 12) (by decide)) (by decide +kernel) (Or.inl (by decide +kernel)) rfl (by decide +kernel) hY rfl hz hat hl.1 (Nat.le_of_ble_eq_true rfl) ⟨by decide, by decide⟩ hS di8_50 (fun H locs hB hS => ?_)
  have hB : Bx D dA q 7 [.ref (q + 1 + 0), .ref (q + 1 + 4), .ref (q + 1 + 8), .null, .null, .null, .null, .null, .null, .null] (LRows 20 ++ LRows 10 ++ LRows 16 ++ LRows 12) H := hB
  refine cr_put S hin hK (k := 3) (idx := 26) (by decide +kernel) (by decide) (by decide) hB hS (ty := .object "PierTooFar$Rows") (by decide +kernel) rfl rfl (Nat.le_of_ble_eq_true rfl) di8_53 (fun H locs hB hS => ?_)
  have hB : Bx D dA q 7 [.ref (q + 1 + 0), .ref (q + 1 + 4), .ref (q + 1 + 8), .ref (q + 1 + 12), .null, .null, .null, .null, .null, .null] (LRows 20 ++ LRows 10 ++ LRows 16 ++ LRows 12) H := hB
  refine lv_aload_n hx hb di8_56 rfl (lv_at hl 0 rfl) ?_
  refine cr_newB S hK (t' := 6) (idx := 9) (M := 16) (by decide +kernel) (by decide) ⟨by decide, by decide⟩ hB rfl hS di8_57 (fun H hY hz hat hS => ?_)
  refine lv_dup hx hb di8_60 rfl ?_
  refine lv_bipush (v := nI 10) hx hb di8_61 (by decide) ?_
  refine cr_iniB S hK (i := 6) (t' := 6) (As := [.int (nI 10)]) (M := 16) (c_rows (n := 10) (by decide)) (by decide +kernel) (Or.inl (by decide +kernel)) rfl (by decide +kernel) hY rfl hz hat hl.1 (Nat.le_of_ble_eq_true rfl) ⟨by decide, by decide⟩ hS di8_63 (fun H locs hB hS => ?_)
  have hB : Bx D dA q 7 [.ref (q + 1 + 0), .ref (q + 1 + 4), .ref (q + 1 + 8), .ref (q + 1 + 12), .null, .null, .null, .null, .null, .null] (LRows 20 ++ LRows 10 ++ LRows 16 ++ LRows 12 ++ LRows 10) H := hB
  refine cr_put S hin hK (k := 4) (idx := 29) (by decide +kernel) (by decide) (by decide) hB hS (ty := .object "PierTooFar$Rows") (by decide +kernel) rfl rfl (Nat.le_of_ble_eq_true rfl) di8_66 (fun H locs hB hS => ?_)
  have hB : Bx D dA q 7 [.ref (q + 1 + 0), .ref (q + 1 + 4), .ref (q + 1 + 8), .ref (q + 1 + 12), .ref (q + 1 + 16), .null, .null, .null, .null, .null] (LRows 20 ++ LRows 10 ++ LRows 16 ++ LRows 12 ++ LRows 10) H := hB
  refine lv_aload_n hx hb di8_69 rfl (lv_at hl 0 rfl) ?_
  refine cr_newB S hK (t' := 6) (idx := 9) (M := 20) (by decide +kernel) (by decide) ⟨by decide, by decide⟩ hB rfl hS di8_70 (fun H hY hz hat hS => ?_)
  refine lv_dup hx hb di8_73 rfl ?_
  refine lv_bipush (v := nI 8) hx hb di8_74 (by decide) ?_
  refine cr_iniB S hK (i := 6) (t' := 6) (As := [.int (nI 8)]) (M := 20) (c_rows (n := 8) (by decide)) (by decide +kernel) (Or.inl (by decide +kernel)) rfl (by decide +kernel) hY rfl hz hat hl.1 (Nat.le_of_ble_eq_true rfl) ⟨by decide, by decide⟩ hS di8_76 (fun H locs hB hS => ?_)
  have hB : Bx D dA q 7 [.ref (q + 1 + 0), .ref (q + 1 + 4), .ref (q + 1 + 8), .ref (q + 1 + 12), .ref (q + 1 + 16), .null, .null, .null, .null, .null] (LRows 20 ++ LRows 10 ++ LRows 16 ++ LRows 12 ++ LRows 10 ++ LRows 8) H := hB
  refine cr_put S hin hK (k := 5) (idx := 32) (by decide +kernel) (by decide) (by decide) hB hS (ty := .object "PierTooFar$Rows") (by decide +kernel) rfl rfl (Nat.le_of_ble_eq_true rfl) di8_79 (fun H locs hB hS => ?_)
  have hB : Bx D dA q 7 [.ref (q + 1 + 0), .ref (q + 1 + 4), .ref (q + 1 + 8), .ref (q + 1 + 12), .ref (q + 1 + 16), .ref (q + 1 + 20), .null, .null, .null, .null] (LRows 20 ++ LRows 10 ++ LRows 16 ++ LRows 12 ++ LRows 10 ++ LRows 8) H := hB
  refine lv_aload_n hx hb di8_82 rfl (lv_at hl 0 rfl) ?_
  refine lv_bipush (v := 8) hx hb di8_83 (by decide) ?_
  refine cr_arr S hK (k := 0) (by decide) rfl (N := 8) (by decide) (by decide) (by decide) ⟨by decide, by decide⟩ hB (M := 24) rfl hS di8_85 (fun H hB hS => ?_)
  have hB : Bx D dA q 7 [.ref (q + 1 + 0), .ref (q + 1 + 4), .ref (q + 1 + 8), .ref (q + 1 + 12), .ref (q + 1 + 16), .ref (q + 1 + 20), .null, .null, .null, .null] (LRows 20 ++ LRows 10 ++ LRows 16 ++ LRows 12 ++ LRows 10 ++ LRows 8 ++ [(100, 8, z0)]) H := hB
  refine cr_put S hin hK (k := 6) (idx := 35) (by decide +kernel) (by decide) (by decide) hB hS (ty := .array .int) (by decide +kernel) rfl rfl (Nat.le_of_ble_eq_true rfl) di8_87 (fun H locs hB hS => ?_)
  have hB : Bx D dA q 7 [.ref (q + 1 + 0), .ref (q + 1 + 4), .ref (q + 1 + 8), .ref (q + 1 + 12), .ref (q + 1 + 16), .ref (q + 1 + 20), .ref (q + 1 + 24), .null, .null, .null] (LRows 20 ++ LRows 10 ++ LRows 16 ++ LRows 12 ++ LRows 10 ++ LRows 8 ++ [(100, 8, z0)]) H := hB
  refine lv_aload_n hx hb di8_90 rfl (lv_at hl 0 rfl) ?_
  refine lv_bipush (v := 8) hx hb di8_91 (by decide) ?_
  refine cr_arr S hK (k := 0) (by decide) rfl (N := 8) (by decide) (by decide) (by decide) ⟨by decide, by decide⟩ hB (M := 25) rfl hS di8_93 (fun H hB hS => ?_)
  have hB : Bx D dA q 7 [.ref (q + 1 + 0), .ref (q + 1 + 4), .ref (q + 1 + 8), .ref (q + 1 + 12), .ref (q + 1 + 16), .ref (q + 1 + 20), .ref (q + 1 + 24), .null, .null, .null] (LRows 20 ++ LRows 10 ++ LRows 16 ++ LRows 12 ++ LRows 10 ++ LRows 8 ++ [(100, 8, z0)] ++ [(100, 8, z0)]) H := hB
  refine cr_put S hin hK (k := 7) (idx := 39) (by decide +kernel) (by decide) (by decide) hB hS (ty := .array .int) (by decide +kernel) rfl rfl (Nat.le_of_ble_eq_true rfl) di8_95 (fun H locs hB hS => ?_)
  have hB : Bx D dA q 7 [.ref (q + 1 + 0), .ref (q + 1 + 4), .ref (q + 1 + 8), .ref (q + 1 + 12), .ref (q + 1 + 16), .ref (q + 1 + 20), .ref (q + 1 + 24), .ref (q + 1 + 25), .null, .null] (LRows 20 ++ LRows 10 ++ LRows 16 ++ LRows 12 ++ LRows 10 ++ LRows 8 ++ [(100, 8, z0)] ++ [(100, 8, z0)]) H := hB
  refine lv_aload_n hx hb di8_98 rfl (lv_at hl 0 rfl) ?_
  refine lv_bipush (v := 10) hx hb di8_99 (by decide) ?_
  refine cr_arr S hK (k := 0) (by decide) rfl (N := 10) (by decide) (by decide) (by decide) ⟨by decide, by decide⟩ hB (M := 26) rfl hS di8_101 (fun H hB hS => ?_)
  have hB : Bx D dA q 7 [.ref (q + 1 + 0), .ref (q + 1 + 4), .ref (q + 1 + 8), .ref (q + 1 + 12), .ref (q + 1 + 16), .ref (q + 1 + 20), .ref (q + 1 + 24), .ref (q + 1 + 25), .null, .null] (LRows 20 ++ LRows 10 ++ LRows 16 ++ LRows 12 ++ LRows 10 ++ LRows 8 ++ [(100, 8, z0)] ++ [(100, 8, z0)] ++ [(100, 10, z0)]) H := hB
  refine cr_put S hin hK (k := 8) (idx := 42) (by decide +kernel) (by decide) (by decide) hB hS (ty := .array .int) (by decide +kernel) rfl rfl (Nat.le_of_ble_eq_true rfl) di8_103 (fun H locs hB hS => ?_)
  have hB : Bx D dA q 7 [.ref (q + 1 + 0), .ref (q + 1 + 4), .ref (q + 1 + 8), .ref (q + 1 + 12), .ref (q + 1 + 16), .ref (q + 1 + 20), .ref (q + 1 + 24), .ref (q + 1 + 25), .ref (q + 1 + 26), .null] (LRows 20 ++ LRows 10 ++ LRows 16 ++ LRows 12 ++ LRows 10 ++ LRows 8 ++ [(100, 8, z0)] ++ [(100, 8, z0)] ++ [(100, 10, z0)]) H := hB
  refine lv_aload_n hx hb di8_106 rfl (lv_at hl 0 rfl) ?_
  refine lv_bipush (v := 11) hx hb di8_107 (by decide) ?_
  refine cr_arr S hK (k := 0) (by decide) rfl (N := 11) (by decide) (by decide) (by decide) ⟨by decide, by decide⟩ hB (M := 27) rfl hS di8_109 (fun H hB hS => ?_)
  have hB : Bx D dA q 7 [.ref (q + 1 + 0), .ref (q + 1 + 4), .ref (q + 1 + 8), .ref (q + 1 + 12), .ref (q + 1 + 16), .ref (q + 1 + 20), .ref (q + 1 + 24), .ref (q + 1 + 25), .ref (q + 1 + 26), .null] (LRows 20 ++ LRows 10 ++ LRows 16 ++ LRows 12 ++ LRows 10 ++ LRows 8 ++ [(100, 8, z0)] ++ [(100, 8, z0)] ++ [(100, 10, z0)] ++ [(100, 11, z0)]) H := hB
  refine cr_put S hin hK (k := 9) (idx := 45) (by decide +kernel) (by decide) (by decide) hB hS (ty := .array .int) (by decide +kernel) rfl rfl (Nat.le_of_ble_eq_true rfl) di8_111 (fun H locs hB hS => ?_)
  have hB : Bx D dA q 7 [.ref (q + 1 + 0), .ref (q + 1 + 4), .ref (q + 1 + 8), .ref (q + 1 + 12), .ref (q + 1 + 16), .ref (q + 1 + 20), .ref (q + 1 + 24), .ref (q + 1 + 25), .ref (q + 1 + 26), .ref (q + 1 + 27)] (LRows 20 ++ LRows 10 ++ LRows 16 ++ LRows 12 ++ LRows 10 ++ LRows 8 ++ [(100, 8, z0)] ++ [(100, 8, z0)] ++ [(100, 10, z0)] ++ [(100, 11, z0)]) H := hB
  exact cr_end (f := z0) hx hb hr hlocks hB (by decide) rfl hS ⟨by decide, by decide⟩ di8_114
theorem di2_0 : decode (mB 2) 0 = .ok (.aload_n 0, 1) := by decide +kernel
theorem di2_1 : decode (mB 2) 1 = .ok (.invokespecial 1, 3) := by decide +kernel
theorem di2_4 : decode (mB 2) 4 = .ok (.aload_n 0, 1) := by decide +kernel
theorem di2_5 : decode (mB 2) 5 = .ok (.new 7, 3) := by decide +kernel
theorem di2_8 : decode (mB 2) 8 = .ok (.dup, 1) := by decide +kernel
theorem di2_9 : decode (mB 2) 9 = .ok (.iconst 0, 1) := by decide +kernel
theorem di2_10 : decode (mB 2) 10 = .ok (.invokespecial 9, 3) := by decide +kernel
theorem di2_13 : decode (mB 2) 13 = .ok (.putfield 12, 3) := by decide +kernel
theorem di2_16 : decode (mB 2) 16 = .ok (.aload_n 0, 1) := by decide +kernel
theorem di2_17 : decode (mB 2) 17 = .ok (.new 18, 3) := by decide +kernel
theorem di2_20 : decode (mB 2) 20 = .ok (.dup, 1) := by decide +kernel
theorem di2_21 : decode (mB 2) 21 = .ok (.invokespecial 20, 3) := by decide +kernel
theorem di2_24 : decode (mB 2) 24 = .ok (.putfield 21, 3) := by decide +kernel
theorem di2_27 : decode (mB 2) 27 = .ok (.aload_n 0, 1) := by decide +kernel
theorem di2_28 : decode (mB 2) 28 = .ok (.new 25, 3) := by decide +kernel
theorem di2_31 : decode (mB 2) 31 = .ok (.dup, 1) := by decide +kernel
theorem di2_32 : decode (mB 2) 32 = .ok (.invokespecial 27, 3) := by decide +kernel
theorem di2_35 : decode (mB 2) 35 = .ok (.putfield 28, 3) := by decide +kernel
theorem di2_38 : decode (mB 2) 38 = .ok (.aload_n 0, 1) := by decide +kernel
theorem di2_39 : decode (mB 2) 39 = .ok (.new 32, 3) := by decide +kernel
theorem di2_42 : decode (mB 2) 42 = .ok (.dup, 1) := by decide +kernel
theorem di2_43 : decode (mB 2) 43 = .ok (.invokespecial 34, 3) := by decide +kernel
theorem di2_46 : decode (mB 2) 46 = .ok (.putfield 35, 3) := by decide +kernel
theorem di2_49 : decode (mB 2) 49 = .ok (.return_, 1) := by decide +kernel
set_option maxHeartbeats 4000000 in
set_option maxRecDepth 100000 in
theorem c_whole {D : va_G} {dA : Nat → ClassId} {q : Nat} : Ini D dA 3 2 10 [] q LWhole 59 1885 := by
  refine cr_start (i := 2) (by decide +kernel) (ini_none (by decide +kernel)) rfl rfl (Nat.le_of_ble_eq_true rfl) (fun p l e s m args below meth c ls S hr hlocks hin hK hB hl => ?_)
  have S : CallFix p m c (mB 2) (mL 2) s args TB (cN 10) := S
  have hx := S.1
  have hb := S.2.1
  have hS : va_S (fun a => q ≤ a) s.heap s.heap [] := va_S.rf
  have hl : lv_has ls (mL 2) [(0, .ref q)] := hl
  generalize hH : s.heap = H at hB
  have hS : va_S (fun a => q ≤ a) s.heap H [] := by rw [← hH]; exact va_S.rf
  have hB : Bx D dA q 10 [.null, .null, .null, .null] [] H := hB
  refine lv_aload_n hx hb di2_0 rfl (lv_at hl 0 rfl) ?_
  refine cr_obj S (by decide +kernel) hl.1 ⟨Nat.le_of_ble_eq_true rfl, Nat.le_of_ble_eq_true rfl⟩ (Nat.le_of_ble_eq_true rfl) di2_1 ?_
  refine lv_aload_n hx hb di2_4 rfl (lv_at hl 0 rfl) ?_
  refine cr_newB S hK (t' := 4) (idx := 7) (M := 0) (by decide +kernel) (by decide) ⟨by decide, by decide⟩ hB rfl hS di2_5 (fun H hY hz hat hS => ?_)
  refine lv_dup hx hb di2_8 rfl ?_
  refine lv_iconst (v := 0) hx hb di2_9 (by decide) ?_
  refine cr_iniB S hK (i := 3) (t' := 4) (As := [.int 0]) (M := 0) (c_pier rfl rfl) (by decide +kernel) (Or.inl (by decide +kernel)) rfl (by decide +kernel) hY rfl hz hat hl.1 (Nat.le_of_ble_eq_true rfl) ⟨by decide, by decide⟩ hS di2_10 (fun H locs hB hS => ?_)
  have hB : Bx D dA q 10 [.null, .null, .null, .null] (LPier 0) H := hB
  refine cr_put S hin hK (k := 0) (idx := 12) (by decide +kernel) (by decide) (by decide) hB hS (ty := .object "PierTooFar$Pier") (by decide +kernel) rfl rfl (Nat.le_of_ble_eq_true rfl) di2_13 (fun H locs hB hS => ?_)
  have hB : Bx D dA q 10 [.ref (q + 1 + 0), .null, .null, .null] (LPier 0) H := hB
  refine lv_aload_n hx hb di2_16 rfl (lv_at hl 0 rfl) ?_
  refine cr_newB S hK (t' := 8) (idx := 18) (M := 5) (by decide +kernel) (by decide) ⟨by decide, by decide⟩ hB rfl hS di2_17 (fun H hY hz hat hS => ?_)
  refine lv_dup hx hb di2_20 rfl ?_
  refine cr_iniB S hK (i := 4) (t' := 8) (As := []) (M := 5) c_told (by decide +kernel) (Or.inr (by decide +kernel)) rfl (by decide +kernel) hY rfl hz hat hl.1 (Nat.le_of_ble_eq_true rfl) ⟨by decide, by decide⟩ hS di2_21 (fun H locs hB hS => ?_)
  have hB : Bx D dA q 10 [.ref (q + 1 + 0), .null, .null, .null] (LPier 0 ++ LTold) H := hB
  refine cr_put S hin hK (k := 1) (idx := 21) (by decide +kernel) (by decide) (by decide) hB hS (ty := .object "PierTooFar$Told") (by decide +kernel) rfl rfl (Nat.le_of_ble_eq_true rfl) di2_24 (fun H locs hB hS => ?_)
  have hB : Bx D dA q 10 [.ref (q + 1 + 0), .ref (q + 1 + 5), .null, .null] (LPier 0 ++ LTold) H := hB
  refine lv_aload_n hx hb di2_27 rfl (lv_at hl 0 rfl) ?_
  refine cr_newB S hK (t' := 7) (idx := 25) (M := 28) (by decide +kernel) (by decide) ⟨by decide, by decide⟩ hB rfl hS di2_28 (fun H hY hz hat hS => ?_)
  refine lv_dup hx hb di2_31 rfl ?_
  refine cr_iniB S hK (i := 8) (t' := 7) (As := []) (M := 28) c_thought (by decide +kernel) (Or.inr (by decide +kernel)) rfl (by decide +kernel) hY rfl hz hat hl.1 (Nat.le_of_ble_eq_true rfl) ⟨by decide, by decide⟩ hS di2_32 (fun H locs hB hS => ?_)
  have hB : Bx D dA q 10 [.ref (q + 1 + 0), .ref (q + 1 + 5), .null, .null] (LPier 0 ++ LTold ++ LThought) H := hB
  refine cr_put S hin hK (k := 2) (idx := 28) (by decide +kernel) (by decide) (by decide) hB hS (ty := .object "PierTooFar$Thought") (by decide +kernel) rfl rfl (Nat.le_of_ble_eq_true rfl) di2_35 (fun H locs hB hS => ?_)
  have hB : Bx D dA q 10 [.ref (q + 1 + 0), .ref (q + 1 + 5), .ref (q + 1 + 28), .null] (LPier 0 ++ LTold ++ LThought) H := hB
  refine lv_aload_n hx hb di2_38 rfl (lv_at hl 0 rfl) ?_
  refine cr_newB S hK (t' := 3) (idx := 32) (M := 57) (by decide +kernel) (by decide) ⟨by decide, by decide⟩ hB rfl hS di2_39 (fun H hY hz hat hS => ?_)
  refine lv_dup hx hb di2_42 rfl ?_
  refine cr_iniB S hK (i := 9) (t' := 3) (As := []) (M := 57) c_log (by decide +kernel) (Or.inr (by decide +kernel)) rfl (by decide +kernel) hY rfl hz hat hl.1 (Nat.le_of_ble_eq_true rfl) ⟨by decide, by decide⟩ hS di2_43 (fun H locs hB hS => ?_)
  have hB : Bx D dA q 10 [.ref (q + 1 + 0), .ref (q + 1 + 5), .ref (q + 1 + 28), .null] (LPier 0 ++ LTold ++ LThought ++ LLog) H := hB
  refine cr_put S hin hK (k := 3) (idx := 35) (by decide +kernel) (by decide) (by decide) hB hS (ty := .object "PierTooFar$Log") (by decide +kernel) rfl rfl (Nat.le_of_ble_eq_true rfl) di2_46 (fun H locs hB hS => ?_)
  have hB : Bx D dA q 10 [.ref (q + 1 + 0), .ref (q + 1 + 5), .ref (q + 1 + 28), .ref (q + 1 + 57)] (LPier 0 ++ LTold ++ LThought ++ LLog) H := hB
  exact cr_end (f := z0) hx hb hr hlocks hB (by decide) rfl hS ⟨by decide, by decide⟩ di2_49
theorem LPs_len : ∀ k, (LPs k).length = 5 * k
  | 0 => rfl
  | k + 1 => by
    show (LPs k ++ LPier 0).length = _
    rw [List.length_append, LPs_len k]
    show 5 * k + 5 = _
    omega
theorem di11_0 : decode (mB 11) 0 = .ok (.aload_n 0, 1) := by decide +kernel
theorem di11_1 : decode (mB 11) 1 = .ok (.invokespecial 3, 3) := by decide +kernel
theorem di11_4 : decode (mB 11) 4 = .ok (.aload_n 0, 1) := by decide +kernel
theorem di11_5 : decode (mB 11) 5 = .ok (.bipush 6, 2) := by decide +kernel
theorem di11_7 : decode (mB 11) 7 = .ok (.anewarray 9, 3) := by decide +kernel
theorem di11_10 : decode (mB 11) 10 = .ok (.putfield 11, 3) := by decide +kernel
theorem di11_13 : decode (mB 11) 13 = .ok (.aload_n 0, 1) := by decide +kernel
theorem di11_14 : decode (mB 11) 14 = .ok (.iconst 0, 1) := by decide +kernel
theorem di11_15 : decode (mB 11) 15 = .ok (.putfield 17, 3) := by decide +kernel
theorem di11_18 : decode (mB 11) 18 = .ok (.aload_n 0, 1) := by decide +kernel
theorem di11_19 : decode (mB 11) 19 = .ok (.iconst 0, 1) := by decide +kernel
theorem di11_20 : decode (mB 11) 20 = .ok (.putfield 21, 3) := by decide +kernel
theorem di11_23 : decode (mB 11) 23 = .ok (.iconst 0, 1) := by decide +kernel
theorem di11_24 : decode (mB 11) 24 = .ok (.istore_n 1, 1) := by decide +kernel
theorem di11_25 : decode (mB 11) 25 = .ok (.iload_n 1, 1) := by decide +kernel
theorem di11_26 : decode (mB 11) 26 = .ok (.bipush 6, 2) := by decide +kernel
theorem di11_28 : decode (mB 11) 28 = .ok (.if_icmp .ge 23, 3) := by decide +kernel
theorem di11_31 : decode (mB 11) 31 = .ok (.aload_n 0, 1) := by decide +kernel
theorem di11_32 : decode (mB 11) 32 = .ok (.getfield 11, 3) := by decide +kernel
theorem di11_35 : decode (mB 11) 35 = .ok (.iload_n 1, 1) := by decide +kernel
theorem di11_36 : decode (mB 11) 36 = .ok (.new 9, 3) := by decide +kernel
theorem di11_39 : decode (mB 11) 39 = .ok (.dup, 1) := by decide +kernel
theorem di11_40 : decode (mB 11) 40 = .ok (.iconst 0, 1) := by decide +kernel
theorem di11_41 : decode (mB 11) 41 = .ok (.invokespecial 24, 3) := by decide +kernel
theorem di11_44 : decode (mB 11) 44 = .ok (.aastore, 1) := by decide +kernel
theorem di11_45 : decode (mB 11) 45 = .ok (.iinc 1 1, 3) := by decide +kernel
theorem di11_48 : decode (mB 11) 48 = .ok (.goto (-23), 3) := by decide +kernel
theorem di11_51 : decode (mB 11) 51 = .ok (.return_, 1) := by decide +kernel
set_option maxHeartbeats 4000000 in
set_option maxRecDepth 100000 in
theorem c_kept {D : va_G} {dA : Nat → ClassId} {q : Nat} : Ini D dA 2 11 1 [] q LKept 31 1488 := by
  refine cr_start (i := 11) (by decide +kernel) (ini_none (by decide +kernel)) rfl rfl (Nat.le_of_ble_eq_true rfl) (fun p l e s m args below meth c ls S hr hlocks hin hK hB hl => ?_)
  have S : CallFix p m c (mB 11) (mL 11) s args TB (cN 1) := S
  have hx := S.1
  have hb := S.2.1
  have hS : va_S (fun a => q ≤ a) s.heap s.heap [] := va_S.rf
  have hl : lv_has ls (mL 11) [(0, .ref q)] := hl
  generalize hH : s.heap = H at hB
  have hS : va_S (fun a => q ≤ a) s.heap H [] := by rw [← hH]; exact va_S.rf
  have hB : Bx D dA q 1 [.null, .int 0, .int 0] [] H := hB
  refine lv_aload_n hx hb di11_0 rfl (lv_at hl 0 rfl) ?_
  refine cr_obj S (by decide +kernel) hl.1 ⟨Nat.le_of_ble_eq_true rfl, Nat.le_of_ble_eq_true rfl⟩ (Nat.le_of_ble_eq_true rfl) di11_1 ?_
  refine lv_aload_n hx hb di11_4 rfl (lv_at hl 0 rfl) ?_
  refine lv_bipush (v := 6) hx hb di11_5 (by decide) ?_
  refine cr_anew S hK (N := 6) (by decide +kernel) (by decide) (by decide) (by decide) ⟨by decide, by decide⟩ hB (M := 0) rfl hS di11_7 (fun H hB hS => ?_)
  refine cr_put S hin hK (k := 0) (idx := 11) (by decide +kernel) (by decide) (by decide) hB hS (ty := .array (.object "PierTooFar$Pier")) (by decide +kernel) rfl rfl (Nat.le_of_ble_eq_true rfl) di11_10 (fun H locs hB hS => ?_)
  refine lv_aload_n hx hb di11_13 rfl (lv_at hl 0 rfl) ?_
  refine lv_iconst (v := 0) hx hb di11_14 (by decide) ?_
  refine cr_put S hin hK (k := 1) (idx := 17) (by decide +kernel) (by decide) (by decide) hB hS (ty := .int) (by decide +kernel) rfl rfl (Nat.le_of_ble_eq_true rfl) di11_15 (fun H locs hB hS => ?_)
  refine lv_aload_n hx hb di11_18 rfl (lv_at hl 0 rfl) ?_
  refine lv_iconst (v := 0) hx hb di11_19 (by decide) ?_
  refine cr_put S hin hK (k := 2) (idx := 21) (by decide +kernel) (by decide) (by decide) hB hS (ty := .int) (by decide +kernel) rfl rfl (Nat.le_of_ble_eq_true rfl) di11_20 (fun H locs hB hS => ?_)
  have hB : Bx D dA q 1 [.ref (q + 1 + 0), .int 0, .int 0] ((106 + 0, 6, z0) :: LPs 0) H := hB
  refine lv_iconst (v := 0) hx hb di11_23 (by decide) ?_
  refine lv_istore_n (lv' := [(1, .int (nI 0)), (0, .ref q)]) hx hb di11_24 rfl hl (by decide +kernel) rfl (fun ls hl => ?_)
  have loop : ∀ (k i : Nat) (H : Heap) (locs : List Loc) (ls : Array Slot) (ce sl : Nat), i ≤ 6 → 6 < i + k → ce = 1 + 5 * i → sl = 6 + 247 * i → Bx D dA q 1 [.ref (q + 1 + 0), .int 0, .int 0] ((106 + i, 6, z0) :: LPs i) H → va_S (fun a => q ≤ a) s.heap H locs → lv_has ls (mL 11) [(1, .int (nI i)), (0, .ref q)] → W p l e (rmI 2 31 1488) s m args below meth c H locs ce sl (MQ below (QcI D dA q LKept) args s 31 1488 (fun a => q ≤ a)) (F0 m 25 ls []) := by
    intro k
    induction k with
    | zero => intro i H locs ls ce sl h1 h2; omega
    | succ k ih =>
      intro i H locs ls ce sl h1 h2 hce hsl hB hS hl
      refine lv_iload_n hx hb di11_25 rfl (lv_at hl 0 rfl) ?_
      refine lv_bipush (v := nI 6) hx hb di11_26 (by decide) ?_
      refine lv_icmp_ge (tgt := 51) hx hb di11_28 (by decide) (fun hge => ?_) (fun hlt => ?_)
      · have hi : i = 6 := by
          rcases Nat.lt_or_ge i 6 with h | h
          · exact absurd hge (nI_ge h (by decide))
          · omega
        subst hi
        have hB : Bx D dA q 1 [.ref (q + 1 + 0), .int 0, .int 0] ((104, 6, z0) :: LPs 6) H := ⟨hB.1, hB.2.1.set 0 (104, 6, z0) (by
          have h0 : H[q + 1 + 0]? = some (arrV (dA 4) 6 (fun j => va_rf (if j < 106 + 6 - 106 then some (q + 1 + 0 + 1 + 5 * j) else none))) := hB.2.1 0 _ rfl
          show H[q + 1 + 0]? = some (arrV (dA 4) 6 (fun j => va_rf (some (q + 1 + 0 + 1 + 5 * j))))
          rw [h0]
          refine congrArg some (arr_ext fun j hj => ?_)
          rw [if_pos (show j < 106 + 6 - 106 by omega)]) (fun _ _ => rfl), hB.2.2⟩
        exact cr_end (f := z0) hx hb hr hlocks hB (by decide) rfl hS ⟨by omega, by omega⟩ di11_51
      · have hi : i < 6 := by
          rcases Nat.lt_or_ge i 6 with h | h
          · exact h
          · exact absurd (nI_le h (by omega)) hlt
        have hln : ((106 + i, 6, z0) :: LPs i).length = 1 + 5 * i := by
          rw [List.length_cons, LPs_len]
          omega
        refine lv_aload_n hx hb di11_31 rfl (lv_at hl 1 rfl) ?_
        refine cr_get S hK (t' := 1) (k := 0) (Or.inl (by decide +kernel)) (by decide) (by decide) hB.1 rfl di11_32 ?_
        refine lv_iload_n hx hb di11_35 rfl (lv_at hl 0 rfl) ?_
        refine cr_newB S hK (t' := 4) (idx := 9) (M := 1 + 5 * i) (by decide +kernel) (by decide) ⟨by show _ ≤ 31; omega, by show sl + 11 ≤ 1488; omega⟩ hB hln hS di11_36 (fun H hY hz hat hS => ?_)
        refine lv_dup hx hb di11_39 rfl ?_
        refine lv_iconst (v := 0) hx hb di11_40 (by decide) ?_
        refine cr_iniB S hK (i := 3) (t' := 4) (As := [.int 0]) (M := 1 + 5 * i) (c_pier rfl rfl) (by decide +kernel) (Or.inl (by decide +kernel)) rfl (by decide +kernel) hY hln hz hat hl.1 (Nat.le_of_ble_eq_true rfl) ⟨by show _ ≤ 31; omega, by show sl + 11 + 236 ≤ 1488; omega⟩ hS di11_41 (fun H locs hB hS => ?_)
        have hat2 : va_at D vwCl (q + 1 + (1 + 5 * i), .inr (4, fic (q + 1 + (1 + 5 * i)) 4 (fPier 0))) H := hB.2.1 (1 + 5 * i) (4, 0, fPier 0) (by rw [List.getElem?_append_right (by omega), hln, Nat.sub_self]; rfl)
        refine cr_aast S hK hB hS (k := i) (n := 6) (z := z0) rfl hat2 (by omega) (nI_clamp (by omega)) (vp_in_nI hi (by decide)) di11_44 (fun H locs hB hS => ?_)
        refine lv_iinc (v := nI (i + 1)) (lv' := [(1, .int (nI (i + 1))), (0, .ref q)]) hx hb di11_45 hl (k := 0) rfl (nI_1 i) (by decide +kernel) rfl (fun ls hl => ?_)
        refine lv_goto (tgt := 25) hx hb di11_48 (by decide) ?_
        exact ih (i + 1) H locs ls _ _ hi (by omega) (by omega) (by show sl + 11 + 236 = _; omega) hB hS hl
  exact loop 7 0 H _ ls _ _ (by omega) (by omega) rfl rfl hB hS hl
theorem di12_0 : decode (mB 12) 0 = .ok (.aload_n 0, 1) := by decide +kernel
theorem di12_1 : decode (mB 12) 1 = .ok (.invokespecial 5, 3) := by decide +kernel
theorem di12_4 : decode (mB 12) 4 = .ok (.aload_n 0, 1) := by decide +kernel
theorem di12_5 : decode (mB 12) 5 = .ok (.sipush 400, 3) := by decide +kernel
theorem di12_8 : decode (mB 12) 8 = .ok (.newarray .char, 2) := by decide +kernel
theorem di12_10 : decode (mB 12) 10 = .ok (.putfield 11, 3) := by decide +kernel
theorem di12_13 : decode (mB 12) 13 = .ok (.aload_n 0, 1) := by decide +kernel
theorem di12_14 : decode (mB 12) 14 = .ok (.sipush 400, 3) := by decide +kernel
theorem di12_17 : decode (mB 12) 17 = .ok (.newarray .int, 2) := by decide +kernel
theorem di12_19 : decode (mB 12) 19 = .ok (.putfield 15, 3) := by decide +kernel
theorem di12_22 : decode (mB 12) 22 = .ok (.aload_n 0, 1) := by decide +kernel
theorem di12_23 : decode (mB 12) 23 = .ok (.sipush 400, 3) := by decide +kernel
theorem di12_26 : decode (mB 12) 26 = .ok (.newarray .int, 2) := by decide +kernel
theorem di12_28 : decode (mB 12) 28 = .ok (.putfield 19, 3) := by decide +kernel
theorem di12_31 : decode (mB 12) 31 = .ok (.aload_n 0, 1) := by decide +kernel
theorem di12_32 : decode (mB 12) 32 = .ok (.sipush 400, 3) := by decide +kernel
theorem di12_35 : decode (mB 12) 35 = .ok (.newarray .int, 2) := by decide +kernel
theorem di12_37 : decode (mB 12) 37 = .ok (.putfield 22, 3) := by decide +kernel
theorem di12_40 : decode (mB 12) 40 = .ok (.aload_n 0, 1) := by decide +kernel
theorem di12_41 : decode (mB 12) 41 = .ok (.new 25, 3) := by decide +kernel
theorem di12_44 : decode (mB 12) 44 = .ok (.dup, 1) := by decide +kernel
theorem di12_45 : decode (mB 12) 45 = .ok (.invokespecial 27, 3) := by decide +kernel
theorem di12_48 : decode (mB 12) 48 = .ok (.putfield 28, 3) := by decide +kernel
theorem di12_51 : decode (mB 12) 51 = .ok (.aload_n 0, 1) := by decide +kernel
theorem di12_52 : decode (mB 12) 52 = .ok (.new 32, 3) := by decide +kernel
theorem di12_55 : decode (mB 12) 55 = .ok (.dup, 1) := by decide +kernel
theorem di12_56 : decode (mB 12) 56 = .ok (.bipush 16, 2) := by decide +kernel
theorem di12_58 : decode (mB 12) 58 = .ok (.invokespecial 34, 3) := by decide +kernel
theorem di12_61 : decode (mB 12) 61 = .ok (.putfield 37, 3) := by decide +kernel
theorem di12_64 : decode (mB 12) 64 = .ok (.aload_n 0, 1) := by decide +kernel
theorem di12_65 : decode (mB 12) 65 = .ok (.iconst 0, 1) := by decide +kernel
theorem di12_66 : decode (mB 12) 66 = .ok (.putfield 41, 3) := by decide +kernel
theorem di12_69 : decode (mB 12) 69 = .ok (.aload_n 0, 1) := by decide +kernel
theorem di12_70 : decode (mB 12) 70 = .ok (.iconst 0, 1) := by decide +kernel
theorem di12_71 : decode (mB 12) 71 = .ok (.putfield 45, 3) := by decide +kernel
theorem di12_74 : decode (mB 12) 74 = .ok (.aload_n 0, 1) := by decide +kernel
theorem di12_75 : decode (mB 12) 75 = .ok (.iconst 0, 1) := by decide +kernel
theorem di12_76 : decode (mB 12) 76 = .ok (.putfield 48, 3) := by decide +kernel
theorem di12_79 : decode (mB 12) 79 = .ok (.aload_n 0, 1) := by decide +kernel
theorem di12_80 : decode (mB 12) 80 = .ok (.iconst 0, 1) := by decide +kernel
theorem di12_81 : decode (mB 12) 81 = .ok (.putfield 51, 3) := by decide +kernel
theorem di12_84 : decode (mB 12) 84 = .ok (.aload_n 0, 1) := by decide +kernel
theorem di12_85 : decode (mB 12) 85 = .ok (.iconst 0, 1) := by decide +kernel
theorem di12_86 : decode (mB 12) 86 = .ok (.putfield 54, 3) := by decide +kernel
theorem di12_89 : decode (mB 12) 89 = .ok (.aload_n 0, 1) := by decide +kernel
theorem di12_90 : decode (mB 12) 90 = .ok (.iconst (-1), 1) := by decide +kernel
theorem di12_91 : decode (mB 12) 91 = .ok (.putfield 57, 3) := by decide +kernel
theorem di12_94 : decode (mB 12) 94 = .ok (.return_, 1) := by decide +kernel
set_option maxHeartbeats 4000000 in
set_option maxRecDepth 100000 in
theorem c_reader {D : va_G} {dA : Nat → ClassId} {q : Nat} : Ini D dA 2 12 5 [] q LReader 15 2188 := by
  refine cr_start (i := 12) (by decide +kernel) (ini_none (by decide +kernel)) rfl rfl (Nat.le_of_ble_eq_true rfl) (fun p l e s m args below meth c ls S hr hlocks hin hK hB hl => ?_)
  have S : CallFix p m c (mB 12) (mL 12) s args TB (cN 5) := S
  have hx := S.1
  have hb := S.2.1
  have hS : va_S (fun a => q ≤ a) s.heap s.heap [] := va_S.rf
  have hl : lv_has ls (mL 12) [(0, .ref q)] := hl
  generalize hH : s.heap = H at hB
  have hS : va_S (fun a => q ≤ a) s.heap H [] := by rw [← hH]; exact va_S.rf
  have hB : Bx D dA q 5 [.null, .null, .null, .null, .null, .null, .int 0, .int 0, .int 0, .int 0, .int 0, .int 0] [] H := hB
  refine lv_aload_n hx hb di12_0 rfl (lv_at hl 0 rfl) ?_
  refine cr_obj S (by decide +kernel) hl.1 ⟨Nat.le_of_ble_eq_true rfl, Nat.le_of_ble_eq_true rfl⟩ (Nat.le_of_ble_eq_true rfl) di12_1 ?_
  refine lv_aload_n hx hb di12_4 rfl (lv_at hl 0 rfl) ?_
  refine lv_sipush (v := 400) hx hb di12_5 (by decide) ?_
  refine cr_arr S hK (k := 2) (by decide) rfl (N := 400) (by decide) (by decide) (by decide) ⟨by decide, by decide⟩ hB (M := 0) rfl hS di12_8 (fun H hB hS => ?_)
  have hB : Bx D dA q 5 [.null, .null, .null, .null, .null, .null, .int 0, .int 0, .int 0, .int 0, .int 0, .int 0] ([(102, 400, z0)]) H := hB
  refine cr_put S hin hK (k := 0) (idx := 11) (by decide +kernel) (by decide) (by decide) hB hS (ty := .array .char) (by decide +kernel) rfl rfl (Nat.le_of_ble_eq_true rfl) di12_10 (fun H locs hB hS => ?_)
  have hB : Bx D dA q 5 [.ref (q + 1 + 0), .null, .null, .null, .null, .null, .int 0, .int 0, .int 0, .int 0, .int 0, .int 0] ([(102, 400, z0)]) H := hB
  refine lv_aload_n hx hb di12_13 rfl (lv_at hl 0 rfl) ?_
  refine lv_sipush (v := 400) hx hb di12_14 (by decide) ?_
  refine cr_arr S hK (k := 0) (by decide) rfl (N := 400) (by decide) (by decide) (by decide) ⟨by decide, by decide⟩ hB (M := 1) rfl hS di12_17 (fun H hB hS => ?_)
  have hB : Bx D dA q 5 [.ref (q + 1 + 0), .null, .null, .null, .null, .null, .int 0, .int 0, .int 0, .int 0, .int 0, .int 0] ([(102, 400, z0), (100, 400, z0)]) H := hB
  refine cr_put S hin hK (k := 1) (idx := 15) (by decide +kernel) (by decide) (by decide) hB hS (ty := .array .int) (by decide +kernel) rfl rfl (Nat.le_of_ble_eq_true rfl) di12_19 (fun H locs hB hS => ?_)
  have hB : Bx D dA q 5 [.ref (q + 1 + 0), .ref (q + 1 + 1), .null, .null, .null, .null, .int 0, .int 0, .int 0, .int 0, .int 0, .int 0] ([(102, 400, z0), (100, 400, z0)]) H := hB
  refine lv_aload_n hx hb di12_22 rfl (lv_at hl 0 rfl) ?_
  refine lv_sipush (v := 400) hx hb di12_23 (by decide) ?_
  refine cr_arr S hK (k := 0) (by decide) rfl (N := 400) (by decide) (by decide) (by decide) ⟨by decide, by decide⟩ hB (M := 2) rfl hS di12_26 (fun H hB hS => ?_)
  have hB : Bx D dA q 5 [.ref (q + 1 + 0), .ref (q + 1 + 1), .null, .null, .null, .null, .int 0, .int 0, .int 0, .int 0, .int 0, .int 0] ([(102, 400, z0), (100, 400, z0), (100, 400, z0)]) H := hB
  refine cr_put S hin hK (k := 2) (idx := 19) (by decide +kernel) (by decide) (by decide) hB hS (ty := .array .int) (by decide +kernel) rfl rfl (Nat.le_of_ble_eq_true rfl) di12_28 (fun H locs hB hS => ?_)
  have hB : Bx D dA q 5 [.ref (q + 1 + 0), .ref (q + 1 + 1), .ref (q + 1 + 2), .null, .null, .null, .int 0, .int 0, .int 0, .int 0, .int 0, .int 0] ([(102, 400, z0), (100, 400, z0), (100, 400, z0)]) H := hB
  refine lv_aload_n hx hb di12_31 rfl (lv_at hl 0 rfl) ?_
  refine lv_sipush (v := 400) hx hb di12_32 (by decide) ?_
  refine cr_arr S hK (k := 0) (by decide) rfl (N := 400) (by decide) (by decide) (by decide) ⟨by decide, by decide⟩ hB (M := 3) rfl hS di12_35 (fun H hB hS => ?_)
  have hB : Bx D dA q 5 [.ref (q + 1 + 0), .ref (q + 1 + 1), .ref (q + 1 + 2), .null, .null, .null, .int 0, .int 0, .int 0, .int 0, .int 0, .int 0] ([(102, 400, z0), (100, 400, z0), (100, 400, z0), (100, 400, z0)]) H := hB
  refine cr_put S hin hK (k := 3) (idx := 22) (by decide +kernel) (by decide) (by decide) hB hS (ty := .array .int) (by decide +kernel) rfl rfl (Nat.le_of_ble_eq_true rfl) di12_37 (fun H locs hB hS => ?_)
  have hB : Bx D dA q 5 [.ref (q + 1 + 0), .ref (q + 1 + 1), .ref (q + 1 + 2), .ref (q + 1 + 3), .null, .null, .int 0, .int 0, .int 0, .int 0, .int 0, .int 0] ([(102, 400, z0), (100, 400, z0), (100, 400, z0), (100, 400, z0)]) H := hB
  refine lv_aload_n hx hb di12_40 rfl (lv_at hl 0 rfl) ?_
  refine cr_newB S hK (t' := 2) (idx := 25) (M := 4) (by decide +kernel) (by decide) ⟨by decide, by decide⟩ hB rfl hS di12_41 (fun H hY hz hat hS => ?_)
  refine lv_dup hx hb di12_44 rfl ?_
  refine cr_iniB S hK (i := 5) (t' := 2) (As := []) (M := 4) c_law (by decide +kernel) (Or.inr (by decide +kernel)) rfl (by decide +kernel) hY rfl hz hat hl.1 (Nat.le_of_ble_eq_true rfl) ⟨by decide, by decide⟩ hS di12_45 (fun H locs hB hS => ?_)
  have hB : Bx D dA q 5 [.ref (q + 1 + 0), .ref (q + 1 + 1), .ref (q + 1 + 2), .ref (q + 1 + 3), .null, .null, .int 0, .int 0, .int 0, .int 0, .int 0, .int 0] ([(102, 400, z0), (100, 400, z0), (100, 400, z0), (100, 400, z0)] ++ LLaw) H := hB
  refine cr_put S hin hK (k := 4) (idx := 28) (by decide +kernel) (by decide) (by decide) hB hS (ty := .object "PierTooFar$Law") (by decide +kernel) rfl rfl (Nat.le_of_ble_eq_true rfl) di12_48 (fun H locs hB hS => ?_)
  have hB : Bx D dA q 5 [.ref (q + 1 + 0), .ref (q + 1 + 1), .ref (q + 1 + 2), .ref (q + 1 + 3), .ref (q + 1 + 4), .null, .int 0, .int 0, .int 0, .int 0, .int 0, .int 0] ([(102, 400, z0), (100, 400, z0), (100, 400, z0), (100, 400, z0)] ++ LLaw) H := hB
  refine lv_aload_n hx hb di12_51 rfl (lv_at hl 0 rfl) ?_
  refine cr_newB S hK (t' := 6) (idx := 32) (M := 11) (by decide +kernel) (by decide) ⟨by decide, by decide⟩ hB rfl hS di12_52 (fun H hY hz hat hS => ?_)
  refine lv_dup hx hb di12_55 rfl ?_
  refine lv_bipush (v := nI 16) hx hb di12_56 (by decide) ?_
  refine cr_iniB S hK (i := 6) (t' := 6) (As := [.int (nI 16)]) (M := 11) (c_rows (n := 16) (by decide)) (by decide +kernel) (Or.inl (by decide +kernel)) rfl (by decide +kernel) hY rfl hz hat hl.1 (Nat.le_of_ble_eq_true rfl) ⟨by decide, by decide⟩ hS di12_58 (fun H locs hB hS => ?_)
  have hB : Bx D dA q 5 [.ref (q + 1 + 0), .ref (q + 1 + 1), .ref (q + 1 + 2), .ref (q + 1 + 3), .ref (q + 1 + 4), .null, .int 0, .int 0, .int 0, .int 0, .int 0, .int 0] ([(102, 400, z0), (100, 400, z0), (100, 400, z0), (100, 400, z0)] ++ LLaw ++ LRows 16) H := hB
  refine cr_put S hin hK (k := 5) (idx := 37) (by decide +kernel) (by decide) (by decide) hB hS (ty := .object "PierTooFar$Rows") (by decide +kernel) rfl rfl (Nat.le_of_ble_eq_true rfl) di12_61 (fun H locs hB hS => ?_)
  have hB : Bx D dA q 5 [.ref (q + 1 + 0), .ref (q + 1 + 1), .ref (q + 1 + 2), .ref (q + 1 + 3), .ref (q + 1 + 4), .ref (q + 1 + 11), .int 0, .int 0, .int 0, .int 0, .int 0, .int 0] ([(102, 400, z0), (100, 400, z0), (100, 400, z0), (100, 400, z0)] ++ LLaw ++ LRows 16) H := hB
  refine lv_aload_n hx hb di12_64 rfl (lv_at hl 0 rfl) ?_
  refine lv_iconst (v := 0) hx hb di12_65 (by decide) ?_
  refine cr_put S hin hK (k := 6) (idx := 41) (by decide +kernel) (by decide) (by decide) hB hS (ty := .int) (by decide +kernel) rfl rfl (Nat.le_of_ble_eq_true rfl) di12_66 (fun H locs hB hS => ?_)
  have hB : Bx D dA q 5 [.ref (q + 1 + 0), .ref (q + 1 + 1), .ref (q + 1 + 2), .ref (q + 1 + 3), .ref (q + 1 + 4), .ref (q + 1 + 11), .int 0, .int 0, .int 0, .int 0, .int 0, .int 0] ([(102, 400, z0), (100, 400, z0), (100, 400, z0), (100, 400, z0)] ++ LLaw ++ LRows 16) H := hB
  refine lv_aload_n hx hb di12_69 rfl (lv_at hl 0 rfl) ?_
  refine lv_iconst (v := 0) hx hb di12_70 (by decide) ?_
  refine cr_put S hin hK (k := 7) (idx := 45) (by decide +kernel) (by decide) (by decide) hB hS (ty := .int) (by decide +kernel) rfl rfl (Nat.le_of_ble_eq_true rfl) di12_71 (fun H locs hB hS => ?_)
  have hB : Bx D dA q 5 [.ref (q + 1 + 0), .ref (q + 1 + 1), .ref (q + 1 + 2), .ref (q + 1 + 3), .ref (q + 1 + 4), .ref (q + 1 + 11), .int 0, .int 0, .int 0, .int 0, .int 0, .int 0] ([(102, 400, z0), (100, 400, z0), (100, 400, z0), (100, 400, z0)] ++ LLaw ++ LRows 16) H := hB
  refine lv_aload_n hx hb di12_74 rfl (lv_at hl 0 rfl) ?_
  refine lv_iconst (v := 0) hx hb di12_75 (by decide) ?_
  refine cr_put S hin hK (k := 8) (idx := 48) (by decide +kernel) (by decide) (by decide) hB hS (ty := .int) (by decide +kernel) rfl rfl (Nat.le_of_ble_eq_true rfl) di12_76 (fun H locs hB hS => ?_)
  have hB : Bx D dA q 5 [.ref (q + 1 + 0), .ref (q + 1 + 1), .ref (q + 1 + 2), .ref (q + 1 + 3), .ref (q + 1 + 4), .ref (q + 1 + 11), .int 0, .int 0, .int 0, .int 0, .int 0, .int 0] ([(102, 400, z0), (100, 400, z0), (100, 400, z0), (100, 400, z0)] ++ LLaw ++ LRows 16) H := hB
  refine lv_aload_n hx hb di12_79 rfl (lv_at hl 0 rfl) ?_
  refine lv_iconst (v := 0) hx hb di12_80 (by decide) ?_
  refine cr_put S hin hK (k := 9) (idx := 51) (by decide +kernel) (by decide) (by decide) hB hS (ty := .int) (by decide +kernel) rfl rfl (Nat.le_of_ble_eq_true rfl) di12_81 (fun H locs hB hS => ?_)
  have hB : Bx D dA q 5 [.ref (q + 1 + 0), .ref (q + 1 + 1), .ref (q + 1 + 2), .ref (q + 1 + 3), .ref (q + 1 + 4), .ref (q + 1 + 11), .int 0, .int 0, .int 0, .int 0, .int 0, .int 0] ([(102, 400, z0), (100, 400, z0), (100, 400, z0), (100, 400, z0)] ++ LLaw ++ LRows 16) H := hB
  refine lv_aload_n hx hb di12_84 rfl (lv_at hl 0 rfl) ?_
  refine lv_iconst (v := 0) hx hb di12_85 (by decide) ?_
  refine cr_put S hin hK (k := 10) (idx := 54) (by decide +kernel) (by decide) (by decide) hB hS (ty := .int) (by decide +kernel) rfl rfl (Nat.le_of_ble_eq_true rfl) di12_86 (fun H locs hB hS => ?_)
  have hB : Bx D dA q 5 [.ref (q + 1 + 0), .ref (q + 1 + 1), .ref (q + 1 + 2), .ref (q + 1 + 3), .ref (q + 1 + 4), .ref (q + 1 + 11), .int 0, .int 0, .int 0, .int 0, .int 0, .int 0] ([(102, 400, z0), (100, 400, z0), (100, 400, z0), (100, 400, z0)] ++ LLaw ++ LRows 16) H := hB
  refine lv_aload_n hx hb di12_89 rfl (lv_at hl 0 rfl) ?_
  refine lv_iconst (v := (-1)) hx hb di12_90 (by decide) ?_
  refine cr_put S hin hK (k := 11) (idx := 57) (by decide +kernel) (by decide) (by decide) hB hS (ty := .int) (by decide +kernel) rfl rfl (Nat.le_of_ble_eq_true rfl) di12_91 (fun H locs hB hS => ?_)
  have hB : Bx D dA q 5 [.ref (q + 1 + 0), .ref (q + 1 + 1), .ref (q + 1 + 2), .ref (q + 1 + 3), .ref (q + 1 + 4), .ref (q + 1 + 11), .int 0, .int 0, .int 0, .int 0, .int 0, .int (-1)] ([(102, 400, z0), (100, 400, z0), (100, 400, z0), (100, 400, z0)] ++ LLaw ++ LRows 16) H := hB
  exact cr_end (f := fRead) hx hb hr hlocks hB (by decide) rfl hS ⟨by decide, by decide⟩ di12_94
theorem di13_0 : decode (mB 13) 0 = .ok (.aload_n 0, 1) := by decide +kernel
theorem di13_1 : decode (mB 13) 1 = .ok (.invokespecial 3, 3) := by decide +kernel
theorem di13_4 : decode (mB 13) 4 = .ok (.aload_n 0, 1) := by decide +kernel
theorem di13_5 : decode (mB 13) 5 = .ok (.bipush 12, 2) := by decide +kernel
theorem di13_7 : decode (mB 13) 7 = .ok (.sipush 201, 3) := by decide +kernel
theorem di13_10 : decode (mB 13) 10 = .ok (.multianewarray 11 2, 4) := by decide +kernel
theorem di13_14 : decode (mB 13) 14 = .ok (.putfield 13, 3) := by decide +kernel
theorem di13_17 : decode (mB 13) 17 = .ok (.aload_n 0, 1) := by decide +kernel
theorem di13_18 : decode (mB 13) 18 = .ok (.bipush 12, 2) := by decide +kernel
theorem di13_20 : decode (mB 13) 20 = .ok (.sipush 201, 3) := by decide +kernel
theorem di13_23 : decode (mB 13) 23 = .ok (.multianewarray 11 2, 4) := by decide +kernel
theorem di13_27 : decode (mB 13) 27 = .ok (.putfield 16, 3) := by decide +kernel
theorem di13_30 : decode (mB 13) 30 = .ok (.return_, 1) := by decide +kernel
set_option maxHeartbeats 4000000 in
set_option maxRecDepth 100000 in
theorem c_ways {D : va_G} {dA : Nat → ClassId} {q : Nat} : Ini D dA 1 13 9 [] q LWays 26 4848 := by
  refine cr_start (i := 13) (by decide +kernel) (ini_none (by decide +kernel)) rfl rfl (Nat.le_of_ble_eq_true rfl) (fun p l e s m args below meth c ls S hr hlocks hin hK hB hl => ?_)
  have S : CallFix p m c (mB 13) (mL 13) s args TB (cN 9) := S
  have hx := S.1
  have hb := S.2.1
  have hS : va_S (fun a => q ≤ a) s.heap s.heap [] := va_S.rf
  have hl : lv_has ls (mL 13) [(0, .ref q)] := hl
  generalize hH : s.heap = H at hB
  have hS : va_S (fun a => q ≤ a) s.heap H [] := by rw [← hH]; exact va_S.rf
  have hB : Bx D dA q 9 [.null, .null] [] H := hB
  refine lv_aload_n hx hb di13_0 rfl (lv_at hl 0 rfl) ?_
  refine cr_obj S (by decide +kernel) hl.1 ⟨Nat.le_of_ble_eq_true rfl, Nat.le_of_ble_eq_true rfl⟩ (Nat.le_of_ble_eq_true rfl) di13_1 ?_
  refine lv_aload_n hx hb di13_4 rfl (lv_at hl 0 rfl) ?_
  refine lv_bipush (v := 12) hx hb di13_5 (by decide) ?_
  refine lv_sipush (v := 201) hx hb di13_7 (by decide) ?_
  refine cr_mana S hK ⟨by decide, by decide⟩ hB (M := 0) rfl hS di13_10 (fun H locs hB hS => ?_)
  have hB : Bx D dA q 9 [.null, .null] (LWay) H := hB
  refine cr_put S hin hK (k := 0) (idx := 13) (by decide +kernel) (by decide) (by decide) hB hS (ty := .array (.array .long)) (by decide +kernel) rfl rfl (Nat.le_of_ble_eq_true rfl) di13_14 (fun H locs hB hS => ?_)
  have hB : Bx D dA q 9 [.ref (q + 1 + 0), .null] (LWay) H := hB
  refine lv_aload_n hx hb di13_17 rfl (lv_at hl 0 rfl) ?_
  refine lv_bipush (v := 12) hx hb di13_18 (by decide) ?_
  refine lv_sipush (v := 201) hx hb di13_20 (by decide) ?_
  refine cr_mana S hK ⟨by decide, by decide⟩ hB (M := 13) rfl hS di13_23 (fun H locs hB hS => ?_)
  have hB : Bx D dA q 9 [.ref (q + 1 + 0), .null] (LWay ++ LWay) H := hB
  refine cr_put S hin hK (k := 1) (idx := 16) (by decide +kernel) (by decide) (by decide) hB hS (ty := .array (.array .long)) (by decide +kernel) rfl rfl (Nat.le_of_ble_eq_true rfl) di13_27 (fun H locs hB hS => ?_)
  have hB : Bx D dA q 9 [.ref (q + 1 + 0), .ref (q + 1 + 13)] (LWay ++ LWay) H := hB
  exact cr_end (f := z0) hx hb hr hlocks hB (by decide) rfl hS ⟨by decide, by decide⟩ di13_30
theorem di0_0 : decode (mB 0) 0 = .ok (.aload_n 0, 1) := by decide +kernel
theorem di0_1 : decode (mB 0) 1 = .ok (.invokespecial 1, 3) := by decide +kernel
theorem di0_4 : decode (mB 0) 4 = .ok (.aload_n 0, 1) := by decide +kernel
theorem di0_5 : decode (mB 0) 5 = .ok (.new 7, 3) := by decide +kernel
theorem di0_8 : decode (mB 0) 8 = .ok (.dup, 1) := by decide +kernel
theorem di0_9 : decode (mB 0) 9 = .ok (.invokespecial 9, 3) := by decide +kernel
theorem di0_12 : decode (mB 0) 12 = .ok (.putfield 10, 3) := by decide +kernel
theorem di0_15 : decode (mB 0) 15 = .ok (.aload_n 0, 1) := by decide +kernel
theorem di0_16 : decode (mB 0) 16 = .ok (.new 7, 3) := by decide +kernel
theorem di0_19 : decode (mB 0) 19 = .ok (.dup, 1) := by decide +kernel
theorem di0_20 : decode (mB 0) 20 = .ok (.invokespecial 9, 3) := by decide +kernel
theorem di0_23 : decode (mB 0) 23 = .ok (.putfield 16, 3) := by decide +kernel
theorem di0_26 : decode (mB 0) 26 = .ok (.aload_n 0, 1) := by decide +kernel
theorem di0_27 : decode (mB 0) 27 = .ok (.new 19, 3) := by decide +kernel
theorem di0_30 : decode (mB 0) 30 = .ok (.dup, 1) := by decide +kernel
theorem di0_31 : decode (mB 0) 31 = .ok (.iconst 1, 1) := by decide +kernel
theorem di0_32 : decode (mB 0) 32 = .ok (.invokespecial 21, 3) := by decide +kernel
theorem di0_35 : decode (mB 0) 35 = .ok (.putfield 24, 3) := by decide +kernel
theorem di0_38 : decode (mB 0) 38 = .ok (.aload_n 0, 1) := by decide +kernel
theorem di0_39 : decode (mB 0) 39 = .ok (.new 28, 3) := by decide +kernel
theorem di0_42 : decode (mB 0) 42 = .ok (.dup, 1) := by decide +kernel
theorem di0_43 : decode (mB 0) 43 = .ok (.aload_n 0, 1) := by decide +kernel
theorem di0_44 : decode (mB 0) 44 = .ok (.getfield 10, 3) := by decide +kernel
theorem di0_47 : decode (mB 0) 47 = .ok (.getfield 30, 3) := by decide +kernel
theorem di0_50 : decode (mB 0) 50 = .ok (.aload_n 0, 1) := by decide +kernel
theorem di0_51 : decode (mB 0) 51 = .ok (.getfield 10, 3) := by decide +kernel
theorem di0_54 : decode (mB 0) 54 = .ok (.getfield 34, 3) := by decide +kernel
theorem di0_57 : decode (mB 0) 57 = .ok (.invokespecial 38, 3) := by decide +kernel
theorem di0_60 : decode (mB 0) 60 = .ok (.putfield 41, 3) := by decide +kernel
theorem di0_63 : decode (mB 0) 63 = .ok (.aload_n 0, 1) := by decide +kernel
theorem di0_64 : decode (mB 0) 64 = .ok (.new 45, 3) := by decide +kernel
theorem di0_67 : decode (mB 0) 67 = .ok (.dup, 1) := by decide +kernel
theorem di0_68 : decode (mB 0) 68 = .ok (.invokespecial 47, 3) := by decide +kernel
theorem di0_71 : decode (mB 0) 71 = .ok (.putfield 48, 3) := by decide +kernel
theorem di0_74 : decode (mB 0) 74 = .ok (.aload_n 0, 1) := by decide +kernel
theorem di0_75 : decode (mB 0) 75 = .ok (.new 52, 3) := by decide +kernel
theorem di0_78 : decode (mB 0) 78 = .ok (.dup, 1) := by decide +kernel
theorem di0_79 : decode (mB 0) 79 = .ok (.invokespecial 54, 3) := by decide +kernel
theorem di0_82 : decode (mB 0) 82 = .ok (.putfield 55, 3) := by decide +kernel
theorem di0_85 : decode (mB 0) 85 = .ok (.aload_n 0, 1) := by decide +kernel
theorem di0_86 : decode (mB 0) 86 = .ok (.new 59, 3) := by decide +kernel
theorem di0_89 : decode (mB 0) 89 = .ok (.dup, 1) := by decide +kernel
theorem di0_90 : decode (mB 0) 90 = .ok (.invokespecial 61, 3) := by decide +kernel
theorem di0_93 : decode (mB 0) 93 = .ok (.putfield 62, 3) := by decide +kernel
theorem di0_96 : decode (mB 0) 96 = .ok (.aload_n 0, 1) := by decide +kernel
theorem di0_97 : decode (mB 0) 97 = .ok (.iconst 0, 1) := by decide +kernel
theorem di0_98 : decode (mB 0) 98 = .ok (.putfield 66, 3) := by decide +kernel
theorem di0_101 : decode (mB 0) 101 = .ok (.return_, 1) := by decide +kernel
set_option maxHeartbeats 4000000 in
set_option maxRecDepth 100000 in
theorem c_ptf {D : va_G} {dA : Nat → ClassId} {q : Nat} : Ini D dA 4 0 11 [] q LPtf 202 12579 := by
  refine cr_start (i := 0) (by decide +kernel) (ini_none (by decide +kernel)) rfl rfl (Nat.le_of_ble_eq_true rfl) (fun p l e s m args below meth c ls S hr hlocks hin hK hB hl => ?_)
  have S : CallFix p m c (mB 0) (mL 0) s args TB (cN 11) := S
  have hx := S.1
  have hb := S.2.1
  have hS : va_S (fun a => q ≤ a) s.heap s.heap [] := va_S.rf
  have hl : lv_has ls (mL 0) [(0, .ref q)] := hl
  generalize hH : s.heap = H at hB
  have hS : va_S (fun a => q ≤ a) s.heap H [] := by rw [← hH]; exact va_S.rf
  have hB : Bx D dA q 11 [.null, .null, .null, .null, .null, .null, .null, .int 0] [] H := hB
  refine lv_aload_n hx hb di0_0 rfl (lv_at hl 0 rfl) ?_
  refine cr_obj S (by decide +kernel) hl.1 ⟨Nat.le_of_ble_eq_true rfl, Nat.le_of_ble_eq_true rfl⟩ (Nat.le_of_ble_eq_true rfl) di0_1 ?_
  refine lv_aload_n hx hb di0_4 rfl (lv_at hl 0 rfl) ?_
  refine cr_newB S hK (t' := 10) (idx := 7) (M := 0) (by decide +kernel) (by decide) ⟨by decide, by decide⟩ hB rfl hS di0_5 (fun H hY hz hat hS => ?_)
  refine lv_dup hx hb di0_8 rfl ?_
  refine cr_iniB S hK (i := 2) (t' := 10) (As := []) (M := 0) c_whole (by decide +kernel) (Or.inr (by decide +kernel)) rfl (by decide +kernel) hY rfl hz hat hl.1 (Nat.le_of_ble_eq_true rfl) ⟨by decide, by decide⟩ hS di0_9 (fun H locs hB hS => ?_)
  have hB : Bx D dA q 11 [.null, .null, .null, .null, .null, .null, .null, .int 0] (LWhole) H := hB
  refine cr_put S hin hK (k := 0) (idx := 10) (by decide +kernel) (by decide) (by decide) hB hS (ty := .object "PierTooFar$Whole") (by decide +kernel) rfl rfl (Nat.le_of_ble_eq_true rfl) di0_12 (fun H locs hB hS => ?_)
  have hB : Bx D dA q 11 [.ref (q + 1 + 0), .null, .null, .null, .null, .null, .null, .int 0] (LWhole) H := hB
  refine lv_aload_n hx hb di0_15 rfl (lv_at hl 0 rfl) ?_
  refine cr_newB S hK (t' := 10) (idx := 7) (M := 60) (by decide +kernel) (by decide) ⟨by decide, by decide⟩ hB rfl hS di0_16 (fun H hY hz hat hS => ?_)
  refine lv_dup hx hb di0_19 rfl ?_
  refine cr_iniB S hK (i := 2) (t' := 10) (As := []) (M := 60) c_whole (by decide +kernel) (Or.inr (by decide +kernel)) rfl (by decide +kernel) hY rfl hz hat hl.1 (Nat.le_of_ble_eq_true rfl) ⟨by decide, by decide⟩ hS di0_20 (fun H locs hB hS => ?_)
  have hB : Bx D dA q 11 [.ref (q + 1 + 0), .null, .null, .null, .null, .null, .null, .int 0] (LWhole ++ LWhole) H := hB
  refine cr_put S hin hK (k := 1) (idx := 16) (by decide +kernel) (by decide) (by decide) hB hS (ty := .object "PierTooFar$Whole") (by decide +kernel) rfl rfl (Nat.le_of_ble_eq_true rfl) di0_23 (fun H locs hB hS => ?_)
  have hB : Bx D dA q 11 [.ref (q + 1 + 0), .ref (q + 1 + 60), .null, .null, .null, .null, .null, .int 0] (LWhole ++ LWhole) H := hB
  refine lv_aload_n hx hb di0_26 rfl (lv_at hl 0 rfl) ?_
  refine cr_newB S hK (t' := 4) (idx := 19) (M := 120) (by decide +kernel) (by decide) ⟨by decide, by decide⟩ hB rfl hS di0_27 (fun H hY hz hat hS => ?_)
  refine lv_dup hx hb di0_30 rfl ?_
  refine lv_iconst (v := 1) hx hb di0_31 (by decide) ?_
  refine cr_iniB S hK (i := 3) (t' := 4) (As := [.int 1]) (M := 120) (c_pier rfl rfl) (by decide +kernel) (Or.inl (by decide +kernel)) rfl (by decide +kernel) hY rfl hz hat hl.1 (Nat.le_of_ble_eq_true rfl) ⟨by decide, by decide⟩ hS di0_32 (fun H locs hB hS => ?_)
  have hB : Bx D dA q 11 [.ref (q + 1 + 0), .ref (q + 1 + 60), .null, .null, .null, .null, .null, .int 0] (LWhole ++ LWhole ++ LPier 1) H := hB
  refine cr_put S hin hK (k := 2) (idx := 24) (by decide +kernel) (by decide) (by decide) hB hS (ty := .object "PierTooFar$Pier") (by decide +kernel) rfl rfl (Nat.le_of_ble_eq_true rfl) di0_35 (fun H locs hB hS => ?_)
  have hB : Bx D dA q 11 [.ref (q + 1 + 0), .ref (q + 1 + 60), .ref (q + 1 + 120), .null, .null, .null, .null, .int 0] (LWhole ++ LWhole ++ LPier 1) H := hB
  refine lv_aload_n hx hb di0_38 rfl (lv_at hl 0 rfl) ?_
  refine cr_newB S hK (t' := 0) (idx := 28) (M := 125) (by decide +kernel) (by decide) ⟨by decide, by decide⟩ hB rfl hS di0_39 (fun H hY hz hat hS => ?_)
  refine lv_dup hx hb di0_42 rfl ?_
  refine lv_aload_n hx hb di0_43 rfl (lv_at hl 0 rfl) ?_
  refine cr_get S hK (t' := 11) (k := 0) (Or.inl (by decide +kernel)) (by decide) (by decide) hY.1 rfl di0_44 ?_
  refine cr_get S hK (t' := 10) (k := 1) (Or.inr (by decide +kernel)) (by decide) (by decide) (hY.2 0 _ rfl) rfl di0_47 ?_
  refine lv_aload_n hx hb di0_50 rfl (lv_at hl 0 rfl) ?_
  refine cr_get S hK (t' := 11) (k := 0) (Or.inl (by decide +kernel)) (by decide) (by decide) hY.1 rfl di0_51 ?_
  refine cr_get S hK (t' := 10) (k := 3) (Or.inr (by decide +kernel)) (by decide) (by decide) (hY.2 0 _ rfl) rfl di0_54 ?_
  refine W.eq (g2 := F0 m 57 ls (([.ref (q + 1 + 125 - 119), .ref (q + 1 + 125 - 67)] : List Value).reverse ++ .ref (q + 1 + 125) :: [.ref (q + 1 + 125), .ref q])) (by rw [show q + 1 + 125 - 119 = q + 1 + 6 by omega, show q + 1 + 125 - 67 = q + 1 + 58 by omega]; rfl) ?_
  refine cr_iniB S hK (i := 10) (t' := 0) (As := [.ref (q + 1 + 125 - 119), .ref (q + 1 + 125 - 67)]) (M := 125) c_course (by decide +kernel) (Or.inl (by decide +kernel)) rfl (by decide +kernel) hY rfl hz hat hl.1 (Nat.le_of_ble_eq_true rfl) ⟨by decide, by decide⟩ hS di0_57 (fun H locs hB hS => ?_)
  have hB : Bx D dA q 11 [.ref (q + 1 + 0), .ref (q + 1 + 60), .ref (q + 1 + 120), .null, .null, .null, .null, .int 0] (LWhole ++ LWhole ++ LPier 1 ++ LCourse) H := hB
  refine cr_put S hin hK (k := 3) (idx := 41) (by decide +kernel) (by decide) (by decide) hB hS (ty := .object "PierTooFar$Course") (by decide +kernel) rfl rfl (Nat.le_of_ble_eq_true rfl) di0_60 (fun H locs hB hS => ?_)
  have hB : Bx D dA q 11 [.ref (q + 1 + 0), .ref (q + 1 + 60), .ref (q + 1 + 120), .ref (q + 1 + 125), .null, .null, .null, .int 0] (LWhole ++ LWhole ++ LPier 1 ++ LCourse) H := hB
  refine lv_aload_n hx hb di0_63 rfl (lv_at hl 0 rfl) ?_
  refine cr_newB S hK (t' := 1) (idx := 45) (M := 127) (by decide +kernel) (by decide) ⟨by decide, by decide⟩ hB rfl hS di0_64 (fun H hY hz hat hS => ?_)
  refine lv_dup hx hb di0_67 rfl ?_
  refine cr_iniB S hK (i := 11) (t' := 1) (As := []) (M := 127) c_kept (by decide +kernel) (Or.inl (by decide +kernel)) rfl (by decide +kernel) hY rfl hz hat hl.1 (Nat.le_of_ble_eq_true rfl) ⟨by decide, by decide⟩ hS di0_68 (fun H locs hB hS => ?_)
  have hB : Bx D dA q 11 [.ref (q + 1 + 0), .ref (q + 1 + 60), .ref (q + 1 + 120), .ref (q + 1 + 125), .null, .null, .null, .int 0] (LWhole ++ LWhole ++ LPier 1 ++ LCourse ++ LKept) H := hB
  refine cr_put S hin hK (k := 4) (idx := 48) (by decide +kernel) (by decide) (by decide) hB hS (ty := .object "PierTooFar$Kept") (by decide +kernel) rfl rfl (Nat.le_of_ble_eq_true rfl) di0_71 (fun H locs hB hS => ?_)
  have hB : Bx D dA q 11 [.ref (q + 1 + 0), .ref (q + 1 + 60), .ref (q + 1 + 120), .ref (q + 1 + 125), .ref (q + 1 + 127), .null, .null, .int 0] (LWhole ++ LWhole ++ LPier 1 ++ LCourse ++ LKept) H := hB
  refine lv_aload_n hx hb di0_74 rfl (lv_at hl 0 rfl) ?_
  refine cr_newB S hK (t' := 5) (idx := 52) (M := 159) (by decide +kernel) (by decide) ⟨by decide, by decide⟩ hB rfl hS di0_75 (fun H hY hz hat hS => ?_)
  refine lv_dup hx hb di0_78 rfl ?_
  refine cr_iniB S hK (i := 12) (t' := 5) (As := []) (M := 159) c_reader (by decide +kernel) (Or.inr (by decide +kernel)) rfl (by decide +kernel) hY rfl hz hat hl.1 (Nat.le_of_ble_eq_true rfl) ⟨by decide, by decide⟩ hS di0_79 (fun H locs hB hS => ?_)
  have hB : Bx D dA q 11 [.ref (q + 1 + 0), .ref (q + 1 + 60), .ref (q + 1 + 120), .ref (q + 1 + 125), .ref (q + 1 + 127), .null, .null, .int 0] (LWhole ++ LWhole ++ LPier 1 ++ LCourse ++ LKept ++ LReader) H := hB
  refine cr_put S hin hK (k := 5) (idx := 55) (by decide +kernel) (by decide) (by decide) hB hS (ty := .object "PierTooFar$Reader") (by decide +kernel) rfl rfl (Nat.le_of_ble_eq_true rfl) di0_82 (fun H locs hB hS => ?_)
  have hB : Bx D dA q 11 [.ref (q + 1 + 0), .ref (q + 1 + 60), .ref (q + 1 + 120), .ref (q + 1 + 125), .ref (q + 1 + 127), .ref (q + 1 + 159), .null, .int 0] (LWhole ++ LWhole ++ LPier 1 ++ LCourse ++ LKept ++ LReader) H := hB
  refine lv_aload_n hx hb di0_85 rfl (lv_at hl 0 rfl) ?_
  refine cr_newB S hK (t' := 9) (idx := 59) (M := 175) (by decide +kernel) (by decide) ⟨by decide, by decide⟩ hB rfl hS di0_86 (fun H hY hz hat hS => ?_)
  refine lv_dup hx hb di0_89 rfl ?_
  refine cr_iniB S hK (i := 13) (t' := 9) (As := []) (M := 175) c_ways (by decide +kernel) (Or.inr (by decide +kernel)) rfl (by decide +kernel) hY rfl hz hat hl.1 (Nat.le_of_ble_eq_true rfl) ⟨by decide, by decide⟩ hS di0_90 (fun H locs hB hS => ?_)
  have hB : Bx D dA q 11 [.ref (q + 1 + 0), .ref (q + 1 + 60), .ref (q + 1 + 120), .ref (q + 1 + 125), .ref (q + 1 + 127), .ref (q + 1 + 159), .null, .int 0] (LWhole ++ LWhole ++ LPier 1 ++ LCourse ++ LKept ++ LReader ++ LWays) H := hB
  refine cr_put S hin hK (k := 6) (idx := 62) (by decide +kernel) (by decide) (by decide) hB hS (ty := .object "PierTooFar$Ways") (by decide +kernel) rfl rfl (Nat.le_of_ble_eq_true rfl) di0_93 (fun H locs hB hS => ?_)
  have hB : Bx D dA q 11 [.ref (q + 1 + 0), .ref (q + 1 + 60), .ref (q + 1 + 120), .ref (q + 1 + 125), .ref (q + 1 + 127), .ref (q + 1 + 159), .ref (q + 1 + 175), .int 0] (LWhole ++ LWhole ++ LPier 1 ++ LCourse ++ LKept ++ LReader ++ LWays) H := hB
  refine lv_aload_n hx hb di0_96 rfl (lv_at hl 0 rfl) ?_
  refine lv_iconst (v := 0) hx hb di0_97 (by decide) ?_
  refine cr_put S hin hK (k := 7) (idx := 66) (by decide +kernel) (by decide) (by decide) hB hS (ty := .boolean) (by decide +kernel) rfl rfl (Nat.le_of_ble_eq_true rfl) di0_98 (fun H locs hB hS => ?_)
  have hB : Bx D dA q 11 [.ref (q + 1 + 0), .ref (q + 1 + 60), .ref (q + 1 + 120), .ref (q + 1 + 125), .ref (q + 1 + 127), .ref (q + 1 + 159), .ref (q + 1 + 175), .int 0] (LWhole ++ LWhole ++ LPier 1 ++ LCourse ++ LKept ++ LReader ++ LWays) H := hB
  exact cr_end (f := z0) hx hb hr hlocks hB (by decide) rfl hS ⟨by decide, by decide⟩ di0_101
theorem di226_0 : decode (mB 226) 0 = .ok (.aload_n 0, 1) := by decide +kernel
theorem di226_1 : decode (mB 226) 1 = .ok (.invokespecial 1, 3) := by decide +kernel
theorem di226_4 : decode (mB 226) 4 = .ok (.aload_n 0, 1) := by decide +kernel
theorem di226_5 : decode (mB 226) 5 = .ok (.sipush 1850, 3) := by decide +kernel
theorem di226_8 : decode (mB 226) 8 = .ok (.newarray .int, 2) := by decide +kernel
theorem di226_10 : decode (mB 226) 10 = .ok (.putfield 7, 3) := by decide +kernel
theorem di226_13 : decode (mB 226) 13 = .ok (.aload_n 0, 1) := by decide +kernel
theorem di226_14 : decode (mB 226) 14 = .ok (.sipush 1850, 3) := by decide +kernel
theorem di226_17 : decode (mB 226) 17 = .ok (.newarray .int, 2) := by decide +kernel
theorem di226_19 : decode (mB 226) 19 = .ok (.putfield 13, 3) := by decide +kernel
theorem di226_22 : decode (mB 226) 22 = .ok (.aload_n 0, 1) := by decide +kernel
theorem di226_23 : decode (mB 226) 23 = .ok (.sipush 294, 3) := by decide +kernel
theorem di226_26 : decode (mB 226) 26 = .ok (.newarray .int, 2) := by decide +kernel
theorem di226_28 : decode (mB 226) 28 = .ok (.putfield 16, 3) := by decide +kernel
theorem di226_31 : decode (mB 226) 31 = .ok (.aload_n 0, 1) := by decide +kernel
theorem di226_32 : decode (mB 226) 32 = .ok (.bipush 49, 2) := by decide +kernel
theorem di226_34 : decode (mB 226) 34 = .ok (.newarray .int, 2) := by decide +kernel
theorem di226_36 : decode (mB 226) 36 = .ok (.putfield 19, 3) := by decide +kernel
theorem di226_39 : decode (mB 226) 39 = .ok (.aload_n 0, 1) := by decide +kernel
theorem di226_40 : decode (mB 226) 40 = .ok (.bipush 64, 2) := by decide +kernel
theorem di226_42 : decode (mB 226) 42 = .ok (.newarray .int, 2) := by decide +kernel
theorem di226_44 : decode (mB 226) 44 = .ok (.putfield 22, 3) := by decide +kernel
theorem di226_47 : decode (mB 226) 47 = .ok (.aload_n 0, 1) := by decide +kernel
theorem di226_48 : decode (mB 226) 48 = .ok (.sipush 820, 3) := by decide +kernel
theorem di226_51 : decode (mB 226) 51 = .ok (.newarray .int, 2) := by decide +kernel
theorem di226_53 : decode (mB 226) 53 = .ok (.putfield 25, 3) := by decide +kernel
theorem di226_56 : decode (mB 226) 56 = .ok (.aload_n 0, 1) := by decide +kernel
theorem di226_57 : decode (mB 226) 57 = .ok (.bipush 48, 2) := by decide +kernel
theorem di226_59 : decode (mB 226) 59 = .ok (.newarray .int, 2) := by decide +kernel
theorem di226_61 : decode (mB 226) 61 = .ok (.putfield 28, 3) := by decide +kernel
theorem di226_64 : decode (mB 226) 64 = .ok (.aload_n 0, 1) := by decide +kernel
theorem di226_65 : decode (mB 226) 65 = .ok (.sipush 400, 3) := by decide +kernel
theorem di226_68 : decode (mB 226) 68 = .ok (.newarray .int, 2) := by decide +kernel
theorem di226_70 : decode (mB 226) 70 = .ok (.putfield 31, 3) := by decide +kernel
theorem di226_73 : decode (mB 226) 73 = .ok (.aload_n 0, 1) := by decide +kernel
theorem di226_74 : decode (mB 226) 74 = .ok (.sipush 420, 3) := by decide +kernel
theorem di226_77 : decode (mB 226) 77 = .ok (.newarray .int, 2) := by decide +kernel
theorem di226_79 : decode (mB 226) 79 = .ok (.putfield 34, 3) := by decide +kernel
theorem di226_82 : decode (mB 226) 82 = .ok (.aload_n 0, 1) := by decide +kernel
theorem di226_83 : decode (mB 226) 83 = .ok (.bipush 11, 2) := by decide +kernel
theorem di226_85 : decode (mB 226) 85 = .ok (.newarray .int, 2) := by decide +kernel
theorem di226_87 : decode (mB 226) 87 = .ok (.putfield 37, 3) := by decide +kernel
theorem di226_90 : decode (mB 226) 90 = .ok (.aload_n 0, 1) := by decide +kernel
theorem di226_91 : decode (mB 226) 91 = .ok (.iconst (-1), 1) := by decide +kernel
theorem di226_92 : decode (mB 226) 92 = .ok (.putfield 40, 3) := by decide +kernel
theorem di226_95 : decode (mB 226) 95 = .ok (.aload_n 0, 1) := by decide +kernel
theorem di226_96 : decode (mB 226) 96 = .ok (.bipush 11, 2) := by decide +kernel
theorem di226_98 : decode (mB 226) 98 = .ok (.newarray .int, 2) := by decide +kernel
theorem di226_100 : decode (mB 226) 100 = .ok (.putfield 44, 3) := by decide +kernel
theorem di226_103 : decode (mB 226) 103 = .ok (.aload_n 0, 1) := by decide +kernel
theorem di226_104 : decode (mB 226) 104 = .ok (.sipush 2613, 3) := by decide +kernel
theorem di226_107 : decode (mB 226) 107 = .ok (.newarray .long, 2) := by decide +kernel
theorem di226_109 : decode (mB 226) 109 = .ok (.putfield 47, 3) := by decide +kernel
theorem di226_112 : decode (mB 226) 112 = .ok (.aload_n 0, 1) := by decide +kernel
theorem di226_113 : decode (mB 226) 113 = .ok (.sipush 2613, 3) := by decide +kernel
theorem di226_116 : decode (mB 226) 116 = .ok (.newarray .long, 2) := by decide +kernel
theorem di226_118 : decode (mB 226) 118 = .ok (.putfield 51, 3) := by decide +kernel
theorem di226_121 : decode (mB 226) 121 = .ok (.aload_n 0, 1) := by decide +kernel
theorem di226_122 : decode (mB 226) 122 = .ok (.bipush 11, 2) := by decide +kernel
theorem di226_124 : decode (mB 226) 124 = .ok (.newarray .int, 2) := by decide +kernel
theorem di226_126 : decode (mB 226) 126 = .ok (.putfield 54, 3) := by decide +kernel
theorem di226_129 : decode (mB 226) 129 = .ok (.aload_n 0, 1) := by decide +kernel
theorem di226_130 : decode (mB 226) 130 = .ok (.bipush 10, 2) := by decide +kernel
theorem di226_132 : decode (mB 226) 132 = .ok (.newarray .int, 2) := by decide +kernel
theorem di226_134 : decode (mB 226) 134 = .ok (.putfield 57, 3) := by decide +kernel
theorem di226_137 : decode (mB 226) 137 = .ok (.return_, 1) := by decide +kernel
set_option maxHeartbeats 4000000 in
set_option maxRecDepth 100000 in
theorem c_model {D : va_G} {dA : Nat → ClassId} {q : Nat} : Ini D dA 1 226 12 [] q LModel 15 11064 := by
  refine cr_start (i := 226) (by decide +kernel) (ini_none (by decide +kernel)) rfl rfl (Nat.le_of_ble_eq_true rfl) (fun p l e s m args below meth c ls S hr hlocks hin hK hB hl => ?_)
  have S : CallFix p m c (mB 226) (mL 226) s args TB (cN 12) := S
  have hx := S.1
  have hb := S.2.1
  have hS : va_S (fun a => q ≤ a) s.heap s.heap [] := va_S.rf
  have hl : lv_has ls (mL 226) [(0, .ref q)] := hl
  generalize hH : s.heap = H at hB
  have hS : va_S (fun a => q ≤ a) s.heap H [] := by rw [← hH]; exact va_S.rf
  have hB : Bx D dA q 12 [.null, .null, .null, .null, .int 0, .int 0, .null, .null, .null, .null, .null, .null, .int 0, .int 0, .int 0, .int 0, .int 0, .int 0, .int 0, .int 0, .int 0, .int 0, .int 0, .int 0, .int 0, .int 0, .int 0, .null, .null, .null, .null, .long 0, .long 0, .null] [] H := hB
  refine lv_aload_n hx hb di226_0 rfl (lv_at hl 0 rfl) ?_
  refine cr_obj S (by decide +kernel) hl.1 ⟨Nat.le_of_ble_eq_true rfl, Nat.le_of_ble_eq_true rfl⟩ (Nat.le_of_ble_eq_true rfl) di226_1 ?_
  refine lv_aload_n hx hb di226_4 rfl (lv_at hl 0 rfl) ?_
  refine lv_sipush (v := 1850) hx hb di226_5 (by decide) ?_
  refine cr_arr S hK (k := 0) (by decide) rfl (N := 1850) (by decide) (by decide) (by decide) ⟨by decide, by decide⟩ hB (M := 0) rfl hS di226_8 (fun H hB hS => ?_)
  have hB : Bx D dA q 12 [.null, .null, .null, .null, .int 0, .int 0, .null, .null, .null, .null, .null, .null, .int 0, .int 0, .int 0, .int 0, .int 0, .int 0, .int 0, .int 0, .int 0, .int 0, .int 0, .int 0, .int 0, .int 0, .int 0, .null, .null, .null, .null, .long 0, .long 0, .null] ([(100, 1850, z0)]) H := hB
  refine cr_put S hin hK (k := 0) (idx := 7) (by decide +kernel) (by decide) (by decide) hB hS (ty := .array .int) (by decide +kernel) rfl rfl (Nat.le_of_ble_eq_true rfl) di226_10 (fun H locs hB hS => ?_)
  have hB : Bx D dA q 12 [.ref (q + 1 + 0), .null, .null, .null, .int 0, .int 0, .null, .null, .null, .null, .null, .null, .int 0, .int 0, .int 0, .int 0, .int 0, .int 0, .int 0, .int 0, .int 0, .int 0, .int 0, .int 0, .int 0, .int 0, .int 0, .null, .null, .null, .null, .long 0, .long 0, .null] ([(100, 1850, z0)]) H := hB
  refine lv_aload_n hx hb di226_13 rfl (lv_at hl 0 rfl) ?_
  refine lv_sipush (v := 1850) hx hb di226_14 (by decide) ?_
  refine cr_arr S hK (k := 0) (by decide) rfl (N := 1850) (by decide) (by decide) (by decide) ⟨by decide, by decide⟩ hB (M := 1) rfl hS di226_17 (fun H hB hS => ?_)
  have hB : Bx D dA q 12 [.ref (q + 1 + 0), .null, .null, .null, .int 0, .int 0, .null, .null, .null, .null, .null, .null, .int 0, .int 0, .int 0, .int 0, .int 0, .int 0, .int 0, .int 0, .int 0, .int 0, .int 0, .int 0, .int 0, .int 0, .int 0, .null, .null, .null, .null, .long 0, .long 0, .null] ([(100, 1850, z0), (100, 1850, z0)]) H := hB
  refine cr_put S hin hK (k := 1) (idx := 13) (by decide +kernel) (by decide) (by decide) hB hS (ty := .array .int) (by decide +kernel) rfl rfl (Nat.le_of_ble_eq_true rfl) di226_19 (fun H locs hB hS => ?_)
  have hB : Bx D dA q 12 [.ref (q + 1 + 0), .ref (q + 1 + 1), .null, .null, .int 0, .int 0, .null, .null, .null, .null, .null, .null, .int 0, .int 0, .int 0, .int 0, .int 0, .int 0, .int 0, .int 0, .int 0, .int 0, .int 0, .int 0, .int 0, .int 0, .int 0, .null, .null, .null, .null, .long 0, .long 0, .null] ([(100, 1850, z0), (100, 1850, z0)]) H := hB
  refine lv_aload_n hx hb di226_22 rfl (lv_at hl 0 rfl) ?_
  refine lv_sipush (v := 294) hx hb di226_23 (by decide) ?_
  refine cr_arr S hK (k := 0) (by decide) rfl (N := 294) (by decide) (by decide) (by decide) ⟨by decide, by decide⟩ hB (M := 2) rfl hS di226_26 (fun H hB hS => ?_)
  have hB : Bx D dA q 12 [.ref (q + 1 + 0), .ref (q + 1 + 1), .null, .null, .int 0, .int 0, .null, .null, .null, .null, .null, .null, .int 0, .int 0, .int 0, .int 0, .int 0, .int 0, .int 0, .int 0, .int 0, .int 0, .int 0, .int 0, .int 0, .int 0, .int 0, .null, .null, .null, .null, .long 0, .long 0, .null] ([(100, 1850, z0), (100, 1850, z0), (100, 294, z0)]) H := hB
  refine cr_put S hin hK (k := 2) (idx := 16) (by decide +kernel) (by decide) (by decide) hB hS (ty := .array .int) (by decide +kernel) rfl rfl (Nat.le_of_ble_eq_true rfl) di226_28 (fun H locs hB hS => ?_)
  have hB : Bx D dA q 12 [.ref (q + 1 + 0), .ref (q + 1 + 1), .ref (q + 1 + 2), .null, .int 0, .int 0, .null, .null, .null, .null, .null, .null, .int 0, .int 0, .int 0, .int 0, .int 0, .int 0, .int 0, .int 0, .int 0, .int 0, .int 0, .int 0, .int 0, .int 0, .int 0, .null, .null, .null, .null, .long 0, .long 0, .null] ([(100, 1850, z0), (100, 1850, z0), (100, 294, z0)]) H := hB
  refine lv_aload_n hx hb di226_31 rfl (lv_at hl 0 rfl) ?_
  refine lv_bipush (v := 49) hx hb di226_32 (by decide) ?_
  refine cr_arr S hK (k := 0) (by decide) rfl (N := 49) (by decide) (by decide) (by decide) ⟨by decide, by decide⟩ hB (M := 3) rfl hS di226_34 (fun H hB hS => ?_)
  have hB : Bx D dA q 12 [.ref (q + 1 + 0), .ref (q + 1 + 1), .ref (q + 1 + 2), .null, .int 0, .int 0, .null, .null, .null, .null, .null, .null, .int 0, .int 0, .int 0, .int 0, .int 0, .int 0, .int 0, .int 0, .int 0, .int 0, .int 0, .int 0, .int 0, .int 0, .int 0, .null, .null, .null, .null, .long 0, .long 0, .null] ([(100, 1850, z0), (100, 1850, z0), (100, 294, z0), (100, 49, z0)]) H := hB
  refine cr_put S hin hK (k := 3) (idx := 19) (by decide +kernel) (by decide) (by decide) hB hS (ty := .array .int) (by decide +kernel) rfl rfl (Nat.le_of_ble_eq_true rfl) di226_36 (fun H locs hB hS => ?_)
  have hB : Bx D dA q 12 [.ref (q + 1 + 0), .ref (q + 1 + 1), .ref (q + 1 + 2), .ref (q + 1 + 3), .int 0, .int 0, .null, .null, .null, .null, .null, .null, .int 0, .int 0, .int 0, .int 0, .int 0, .int 0, .int 0, .int 0, .int 0, .int 0, .int 0, .int 0, .int 0, .int 0, .int 0, .null, .null, .null, .null, .long 0, .long 0, .null] ([(100, 1850, z0), (100, 1850, z0), (100, 294, z0), (100, 49, z0)]) H := hB
  refine lv_aload_n hx hb di226_39 rfl (lv_at hl 0 rfl) ?_
  refine lv_bipush (v := 64) hx hb di226_40 (by decide) ?_
  refine cr_arr S hK (k := 0) (by decide) rfl (N := 64) (by decide) (by decide) (by decide) ⟨by decide, by decide⟩ hB (M := 4) rfl hS di226_42 (fun H hB hS => ?_)
  have hB : Bx D dA q 12 [.ref (q + 1 + 0), .ref (q + 1 + 1), .ref (q + 1 + 2), .ref (q + 1 + 3), .int 0, .int 0, .null, .null, .null, .null, .null, .null, .int 0, .int 0, .int 0, .int 0, .int 0, .int 0, .int 0, .int 0, .int 0, .int 0, .int 0, .int 0, .int 0, .int 0, .int 0, .null, .null, .null, .null, .long 0, .long 0, .null] ([(100, 1850, z0), (100, 1850, z0), (100, 294, z0), (100, 49, z0), (100, 64, z0)]) H := hB
  refine cr_put S hin hK (k := 6) (idx := 22) (by decide +kernel) (by decide) (by decide) hB hS (ty := .array .int) (by decide +kernel) rfl rfl (Nat.le_of_ble_eq_true rfl) di226_44 (fun H locs hB hS => ?_)
  have hB : Bx D dA q 12 [.ref (q + 1 + 0), .ref (q + 1 + 1), .ref (q + 1 + 2), .ref (q + 1 + 3), .int 0, .int 0, .ref (q + 1 + 4), .null, .null, .null, .null, .null, .int 0, .int 0, .int 0, .int 0, .int 0, .int 0, .int 0, .int 0, .int 0, .int 0, .int 0, .int 0, .int 0, .int 0, .int 0, .null, .null, .null, .null, .long 0, .long 0, .null] ([(100, 1850, z0), (100, 1850, z0), (100, 294, z0), (100, 49, z0), (100, 64, z0)]) H := hB
  refine lv_aload_n hx hb di226_47 rfl (lv_at hl 0 rfl) ?_
  refine lv_sipush (v := 820) hx hb di226_48 (by decide) ?_
  refine cr_arr S hK (k := 0) (by decide) rfl (N := 820) (by decide) (by decide) (by decide) ⟨by decide, by decide⟩ hB (M := 5) rfl hS di226_51 (fun H hB hS => ?_)
  have hB : Bx D dA q 12 [.ref (q + 1 + 0), .ref (q + 1 + 1), .ref (q + 1 + 2), .ref (q + 1 + 3), .int 0, .int 0, .ref (q + 1 + 4), .null, .null, .null, .null, .null, .int 0, .int 0, .int 0, .int 0, .int 0, .int 0, .int 0, .int 0, .int 0, .int 0, .int 0, .int 0, .int 0, .int 0, .int 0, .null, .null, .null, .null, .long 0, .long 0, .null] ([(100, 1850, z0), (100, 1850, z0), (100, 294, z0), (100, 49, z0), (100, 64, z0), (100, 820, z0)]) H := hB
  refine cr_put S hin hK (k := 7) (idx := 25) (by decide +kernel) (by decide) (by decide) hB hS (ty := .array .int) (by decide +kernel) rfl rfl (Nat.le_of_ble_eq_true rfl) di226_53 (fun H locs hB hS => ?_)
  have hB : Bx D dA q 12 [.ref (q + 1 + 0), .ref (q + 1 + 1), .ref (q + 1 + 2), .ref (q + 1 + 3), .int 0, .int 0, .ref (q + 1 + 4), .ref (q + 1 + 5), .null, .null, .null, .null, .int 0, .int 0, .int 0, .int 0, .int 0, .int 0, .int 0, .int 0, .int 0, .int 0, .int 0, .int 0, .int 0, .int 0, .int 0, .null, .null, .null, .null, .long 0, .long 0, .null] ([(100, 1850, z0), (100, 1850, z0), (100, 294, z0), (100, 49, z0), (100, 64, z0), (100, 820, z0)]) H := hB
  refine lv_aload_n hx hb di226_56 rfl (lv_at hl 0 rfl) ?_
  refine lv_bipush (v := 48) hx hb di226_57 (by decide) ?_
  refine cr_arr S hK (k := 0) (by decide) rfl (N := 48) (by decide) (by decide) (by decide) ⟨by decide, by decide⟩ hB (M := 6) rfl hS di226_59 (fun H hB hS => ?_)
  have hB : Bx D dA q 12 [.ref (q + 1 + 0), .ref (q + 1 + 1), .ref (q + 1 + 2), .ref (q + 1 + 3), .int 0, .int 0, .ref (q + 1 + 4), .ref (q + 1 + 5), .null, .null, .null, .null, .int 0, .int 0, .int 0, .int 0, .int 0, .int 0, .int 0, .int 0, .int 0, .int 0, .int 0, .int 0, .int 0, .int 0, .int 0, .null, .null, .null, .null, .long 0, .long 0, .null] ([(100, 1850, z0), (100, 1850, z0), (100, 294, z0), (100, 49, z0), (100, 64, z0), (100, 820, z0), (100, 48, z0)]) H := hB
  refine cr_put S hin hK (k := 8) (idx := 28) (by decide +kernel) (by decide) (by decide) hB hS (ty := .array .int) (by decide +kernel) rfl rfl (Nat.le_of_ble_eq_true rfl) di226_61 (fun H locs hB hS => ?_)
  have hB : Bx D dA q 12 [.ref (q + 1 + 0), .ref (q + 1 + 1), .ref (q + 1 + 2), .ref (q + 1 + 3), .int 0, .int 0, .ref (q + 1 + 4), .ref (q + 1 + 5), .ref (q + 1 + 6), .null, .null, .null, .int 0, .int 0, .int 0, .int 0, .int 0, .int 0, .int 0, .int 0, .int 0, .int 0, .int 0, .int 0, .int 0, .int 0, .int 0, .null, .null, .null, .null, .long 0, .long 0, .null] ([(100, 1850, z0), (100, 1850, z0), (100, 294, z0), (100, 49, z0), (100, 64, z0), (100, 820, z0), (100, 48, z0)]) H := hB
  refine lv_aload_n hx hb di226_64 rfl (lv_at hl 0 rfl) ?_
  refine lv_sipush (v := 400) hx hb di226_65 (by decide) ?_
  refine cr_arr S hK (k := 0) (by decide) rfl (N := 400) (by decide) (by decide) (by decide) ⟨by decide, by decide⟩ hB (M := 7) rfl hS di226_68 (fun H hB hS => ?_)
  have hB : Bx D dA q 12 [.ref (q + 1 + 0), .ref (q + 1 + 1), .ref (q + 1 + 2), .ref (q + 1 + 3), .int 0, .int 0, .ref (q + 1 + 4), .ref (q + 1 + 5), .ref (q + 1 + 6), .null, .null, .null, .int 0, .int 0, .int 0, .int 0, .int 0, .int 0, .int 0, .int 0, .int 0, .int 0, .int 0, .int 0, .int 0, .int 0, .int 0, .null, .null, .null, .null, .long 0, .long 0, .null] ([(100, 1850, z0), (100, 1850, z0), (100, 294, z0), (100, 49, z0), (100, 64, z0), (100, 820, z0), (100, 48, z0), (100, 400, z0)]) H := hB
  refine cr_put S hin hK (k := 9) (idx := 31) (by decide +kernel) (by decide) (by decide) hB hS (ty := .array .int) (by decide +kernel) rfl rfl (Nat.le_of_ble_eq_true rfl) di226_70 (fun H locs hB hS => ?_)
  have hB : Bx D dA q 12 [.ref (q + 1 + 0), .ref (q + 1 + 1), .ref (q + 1 + 2), .ref (q + 1 + 3), .int 0, .int 0, .ref (q + 1 + 4), .ref (q + 1 + 5), .ref (q + 1 + 6), .ref (q + 1 + 7), .null, .null, .int 0, .int 0, .int 0, .int 0, .int 0, .int 0, .int 0, .int 0, .int 0, .int 0, .int 0, .int 0, .int 0, .int 0, .int 0, .null, .null, .null, .null, .long 0, .long 0, .null] ([(100, 1850, z0), (100, 1850, z0), (100, 294, z0), (100, 49, z0), (100, 64, z0), (100, 820, z0), (100, 48, z0), (100, 400, z0)]) H := hB
  refine lv_aload_n hx hb di226_73 rfl (lv_at hl 0 rfl) ?_
  refine lv_sipush (v := 420) hx hb di226_74 (by decide) ?_
  refine cr_arr S hK (k := 0) (by decide) rfl (N := 420) (by decide) (by decide) (by decide) ⟨by decide, by decide⟩ hB (M := 8) rfl hS di226_77 (fun H hB hS => ?_)
  have hB : Bx D dA q 12 [.ref (q + 1 + 0), .ref (q + 1 + 1), .ref (q + 1 + 2), .ref (q + 1 + 3), .int 0, .int 0, .ref (q + 1 + 4), .ref (q + 1 + 5), .ref (q + 1 + 6), .ref (q + 1 + 7), .null, .null, .int 0, .int 0, .int 0, .int 0, .int 0, .int 0, .int 0, .int 0, .int 0, .int 0, .int 0, .int 0, .int 0, .int 0, .int 0, .null, .null, .null, .null, .long 0, .long 0, .null] ([(100, 1850, z0), (100, 1850, z0), (100, 294, z0), (100, 49, z0), (100, 64, z0), (100, 820, z0), (100, 48, z0), (100, 400, z0), (100, 420, z0)]) H := hB
  refine cr_put S hin hK (k := 10) (idx := 34) (by decide +kernel) (by decide) (by decide) hB hS (ty := .array .int) (by decide +kernel) rfl rfl (Nat.le_of_ble_eq_true rfl) di226_79 (fun H locs hB hS => ?_)
  have hB : Bx D dA q 12 [.ref (q + 1 + 0), .ref (q + 1 + 1), .ref (q + 1 + 2), .ref (q + 1 + 3), .int 0, .int 0, .ref (q + 1 + 4), .ref (q + 1 + 5), .ref (q + 1 + 6), .ref (q + 1 + 7), .ref (q + 1 + 8), .null, .int 0, .int 0, .int 0, .int 0, .int 0, .int 0, .int 0, .int 0, .int 0, .int 0, .int 0, .int 0, .int 0, .int 0, .int 0, .null, .null, .null, .null, .long 0, .long 0, .null] ([(100, 1850, z0), (100, 1850, z0), (100, 294, z0), (100, 49, z0), (100, 64, z0), (100, 820, z0), (100, 48, z0), (100, 400, z0), (100, 420, z0)]) H := hB
  refine lv_aload_n hx hb di226_82 rfl (lv_at hl 0 rfl) ?_
  refine lv_bipush (v := 11) hx hb di226_83 (by decide) ?_
  refine cr_arr S hK (k := 0) (by decide) rfl (N := 11) (by decide) (by decide) (by decide) ⟨by decide, by decide⟩ hB (M := 9) rfl hS di226_85 (fun H hB hS => ?_)
  have hB : Bx D dA q 12 [.ref (q + 1 + 0), .ref (q + 1 + 1), .ref (q + 1 + 2), .ref (q + 1 + 3), .int 0, .int 0, .ref (q + 1 + 4), .ref (q + 1 + 5), .ref (q + 1 + 6), .ref (q + 1 + 7), .ref (q + 1 + 8), .null, .int 0, .int 0, .int 0, .int 0, .int 0, .int 0, .int 0, .int 0, .int 0, .int 0, .int 0, .int 0, .int 0, .int 0, .int 0, .null, .null, .null, .null, .long 0, .long 0, .null] ([(100, 1850, z0), (100, 1850, z0), (100, 294, z0), (100, 49, z0), (100, 64, z0), (100, 820, z0), (100, 48, z0), (100, 400, z0), (100, 420, z0), (100, 11, z0)]) H := hB
  refine cr_put S hin hK (k := 11) (idx := 37) (by decide +kernel) (by decide) (by decide) hB hS (ty := .array .int) (by decide +kernel) rfl rfl (Nat.le_of_ble_eq_true rfl) di226_87 (fun H locs hB hS => ?_)
  have hB : Bx D dA q 12 [.ref (q + 1 + 0), .ref (q + 1 + 1), .ref (q + 1 + 2), .ref (q + 1 + 3), .int 0, .int 0, .ref (q + 1 + 4), .ref (q + 1 + 5), .ref (q + 1 + 6), .ref (q + 1 + 7), .ref (q + 1 + 8), .ref (q + 1 + 9), .int 0, .int 0, .int 0, .int 0, .int 0, .int 0, .int 0, .int 0, .int 0, .int 0, .int 0, .int 0, .int 0, .int 0, .int 0, .null, .null, .null, .null, .long 0, .long 0, .null] ([(100, 1850, z0), (100, 1850, z0), (100, 294, z0), (100, 49, z0), (100, 64, z0), (100, 820, z0), (100, 48, z0), (100, 400, z0), (100, 420, z0), (100, 11, z0)]) H := hB
  refine lv_aload_n hx hb di226_90 rfl (lv_at hl 0 rfl) ?_
  refine lv_iconst (v := (-1)) hx hb di226_91 (by decide) ?_
  refine cr_put S hin hK (k := 25) (idx := 40) (by decide +kernel) (by decide) (by decide) hB hS (ty := .int) (by decide +kernel) rfl rfl (Nat.le_of_ble_eq_true rfl) di226_92 (fun H locs hB hS => ?_)
  have hB : Bx D dA q 12 [.ref (q + 1 + 0), .ref (q + 1 + 1), .ref (q + 1 + 2), .ref (q + 1 + 3), .int 0, .int 0, .ref (q + 1 + 4), .ref (q + 1 + 5), .ref (q + 1 + 6), .ref (q + 1 + 7), .ref (q + 1 + 8), .ref (q + 1 + 9), .int 0, .int 0, .int 0, .int 0, .int 0, .int 0, .int 0, .int 0, .int 0, .int 0, .int 0, .int 0, .int 0, .int (-1), .int 0, .null, .null, .null, .null, .long 0, .long 0, .null] ([(100, 1850, z0), (100, 1850, z0), (100, 294, z0), (100, 49, z0), (100, 64, z0), (100, 820, z0), (100, 48, z0), (100, 400, z0), (100, 420, z0), (100, 11, z0)]) H := hB
  refine lv_aload_n hx hb di226_95 rfl (lv_at hl 0 rfl) ?_
  refine lv_bipush (v := 11) hx hb di226_96 (by decide) ?_
  refine cr_arr S hK (k := 0) (by decide) rfl (N := 11) (by decide) (by decide) (by decide) ⟨by decide, by decide⟩ hB (M := 10) rfl hS di226_98 (fun H hB hS => ?_)
  have hB : Bx D dA q 12 [.ref (q + 1 + 0), .ref (q + 1 + 1), .ref (q + 1 + 2), .ref (q + 1 + 3), .int 0, .int 0, .ref (q + 1 + 4), .ref (q + 1 + 5), .ref (q + 1 + 6), .ref (q + 1 + 7), .ref (q + 1 + 8), .ref (q + 1 + 9), .int 0, .int 0, .int 0, .int 0, .int 0, .int 0, .int 0, .int 0, .int 0, .int 0, .int 0, .int 0, .int 0, .int (-1), .int 0, .null, .null, .null, .null, .long 0, .long 0, .null] ([(100, 1850, z0), (100, 1850, z0), (100, 294, z0), (100, 49, z0), (100, 64, z0), (100, 820, z0), (100, 48, z0), (100, 400, z0), (100, 420, z0), (100, 11, z0), (100, 11, z0)]) H := hB
  refine cr_put S hin hK (k := 27) (idx := 44) (by decide +kernel) (by decide) (by decide) hB hS (ty := .array .int) (by decide +kernel) rfl rfl (Nat.le_of_ble_eq_true rfl) di226_100 (fun H locs hB hS => ?_)
  have hB : Bx D dA q 12 [.ref (q + 1 + 0), .ref (q + 1 + 1), .ref (q + 1 + 2), .ref (q + 1 + 3), .int 0, .int 0, .ref (q + 1 + 4), .ref (q + 1 + 5), .ref (q + 1 + 6), .ref (q + 1 + 7), .ref (q + 1 + 8), .ref (q + 1 + 9), .int 0, .int 0, .int 0, .int 0, .int 0, .int 0, .int 0, .int 0, .int 0, .int 0, .int 0, .int 0, .int 0, .int (-1), .int 0, .ref (q + 1 + 10), .null, .null, .null, .long 0, .long 0, .null] ([(100, 1850, z0), (100, 1850, z0), (100, 294, z0), (100, 49, z0), (100, 64, z0), (100, 820, z0), (100, 48, z0), (100, 400, z0), (100, 420, z0), (100, 11, z0), (100, 11, z0)]) H := hB
  refine lv_aload_n hx hb di226_103 rfl (lv_at hl 0 rfl) ?_
  refine lv_sipush (v := 2613) hx hb di226_104 (by decide) ?_
  refine cr_arr S hK (k := 3) (by decide) rfl (N := 2613) (by decide) (by decide) (by decide) ⟨by decide, by decide⟩ hB (M := 11) rfl hS di226_107 (fun H hB hS => ?_)
  have hB : Bx D dA q 12 [.ref (q + 1 + 0), .ref (q + 1 + 1), .ref (q + 1 + 2), .ref (q + 1 + 3), .int 0, .int 0, .ref (q + 1 + 4), .ref (q + 1 + 5), .ref (q + 1 + 6), .ref (q + 1 + 7), .ref (q + 1 + 8), .ref (q + 1 + 9), .int 0, .int 0, .int 0, .int 0, .int 0, .int 0, .int 0, .int 0, .int 0, .int 0, .int 0, .int 0, .int 0, .int (-1), .int 0, .ref (q + 1 + 10), .null, .null, .null, .long 0, .long 0, .null] ([(100, 1850, z0), (100, 1850, z0), (100, 294, z0), (100, 49, z0), (100, 64, z0), (100, 820, z0), (100, 48, z0), (100, 400, z0), (100, 420, z0), (100, 11, z0), (100, 11, z0), (103, 2613, z0)]) H := hB
  refine cr_put S hin hK (k := 28) (idx := 47) (by decide +kernel) (by decide) (by decide) hB hS (ty := .array .long) (by decide +kernel) rfl rfl (Nat.le_of_ble_eq_true rfl) di226_109 (fun H locs hB hS => ?_)
  have hB : Bx D dA q 12 [.ref (q + 1 + 0), .ref (q + 1 + 1), .ref (q + 1 + 2), .ref (q + 1 + 3), .int 0, .int 0, .ref (q + 1 + 4), .ref (q + 1 + 5), .ref (q + 1 + 6), .ref (q + 1 + 7), .ref (q + 1 + 8), .ref (q + 1 + 9), .int 0, .int 0, .int 0, .int 0, .int 0, .int 0, .int 0, .int 0, .int 0, .int 0, .int 0, .int 0, .int 0, .int (-1), .int 0, .ref (q + 1 + 10), .ref (q + 1 + 11), .null, .null, .long 0, .long 0, .null] ([(100, 1850, z0), (100, 1850, z0), (100, 294, z0), (100, 49, z0), (100, 64, z0), (100, 820, z0), (100, 48, z0), (100, 400, z0), (100, 420, z0), (100, 11, z0), (100, 11, z0), (103, 2613, z0)]) H := hB
  refine lv_aload_n hx hb di226_112 rfl (lv_at hl 0 rfl) ?_
  refine lv_sipush (v := 2613) hx hb di226_113 (by decide) ?_
  refine cr_arr S hK (k := 3) (by decide) rfl (N := 2613) (by decide) (by decide) (by decide) ⟨by decide, by decide⟩ hB (M := 12) rfl hS di226_116 (fun H hB hS => ?_)
  have hB : Bx D dA q 12 [.ref (q + 1 + 0), .ref (q + 1 + 1), .ref (q + 1 + 2), .ref (q + 1 + 3), .int 0, .int 0, .ref (q + 1 + 4), .ref (q + 1 + 5), .ref (q + 1 + 6), .ref (q + 1 + 7), .ref (q + 1 + 8), .ref (q + 1 + 9), .int 0, .int 0, .int 0, .int 0, .int 0, .int 0, .int 0, .int 0, .int 0, .int 0, .int 0, .int 0, .int 0, .int (-1), .int 0, .ref (q + 1 + 10), .ref (q + 1 + 11), .null, .null, .long 0, .long 0, .null] ([(100, 1850, z0), (100, 1850, z0), (100, 294, z0), (100, 49, z0), (100, 64, z0), (100, 820, z0), (100, 48, z0), (100, 400, z0), (100, 420, z0), (100, 11, z0), (100, 11, z0), (103, 2613, z0), (103, 2613, z0)]) H := hB
  refine cr_put S hin hK (k := 29) (idx := 51) (by decide +kernel) (by decide) (by decide) hB hS (ty := .array .long) (by decide +kernel) rfl rfl (Nat.le_of_ble_eq_true rfl) di226_118 (fun H locs hB hS => ?_)
  have hB : Bx D dA q 12 [.ref (q + 1 + 0), .ref (q + 1 + 1), .ref (q + 1 + 2), .ref (q + 1 + 3), .int 0, .int 0, .ref (q + 1 + 4), .ref (q + 1 + 5), .ref (q + 1 + 6), .ref (q + 1 + 7), .ref (q + 1 + 8), .ref (q + 1 + 9), .int 0, .int 0, .int 0, .int 0, .int 0, .int 0, .int 0, .int 0, .int 0, .int 0, .int 0, .int 0, .int 0, .int (-1), .int 0, .ref (q + 1 + 10), .ref (q + 1 + 11), .ref (q + 1 + 12), .null, .long 0, .long 0, .null] ([(100, 1850, z0), (100, 1850, z0), (100, 294, z0), (100, 49, z0), (100, 64, z0), (100, 820, z0), (100, 48, z0), (100, 400, z0), (100, 420, z0), (100, 11, z0), (100, 11, z0), (103, 2613, z0), (103, 2613, z0)]) H := hB
  refine lv_aload_n hx hb di226_121 rfl (lv_at hl 0 rfl) ?_
  refine lv_bipush (v := 11) hx hb di226_122 (by decide) ?_
  refine cr_arr S hK (k := 0) (by decide) rfl (N := 11) (by decide) (by decide) (by decide) ⟨by decide, by decide⟩ hB (M := 13) rfl hS di226_124 (fun H hB hS => ?_)
  have hB : Bx D dA q 12 [.ref (q + 1 + 0), .ref (q + 1 + 1), .ref (q + 1 + 2), .ref (q + 1 + 3), .int 0, .int 0, .ref (q + 1 + 4), .ref (q + 1 + 5), .ref (q + 1 + 6), .ref (q + 1 + 7), .ref (q + 1 + 8), .ref (q + 1 + 9), .int 0, .int 0, .int 0, .int 0, .int 0, .int 0, .int 0, .int 0, .int 0, .int 0, .int 0, .int 0, .int 0, .int (-1), .int 0, .ref (q + 1 + 10), .ref (q + 1 + 11), .ref (q + 1 + 12), .null, .long 0, .long 0, .null] ([(100, 1850, z0), (100, 1850, z0), (100, 294, z0), (100, 49, z0), (100, 64, z0), (100, 820, z0), (100, 48, z0), (100, 400, z0), (100, 420, z0), (100, 11, z0), (100, 11, z0), (103, 2613, z0), (103, 2613, z0), (100, 11, z0)]) H := hB
  refine cr_put S hin hK (k := 30) (idx := 54) (by decide +kernel) (by decide) (by decide) hB hS (ty := .array .int) (by decide +kernel) rfl rfl (Nat.le_of_ble_eq_true rfl) di226_126 (fun H locs hB hS => ?_)
  have hB : Bx D dA q 12 [.ref (q + 1 + 0), .ref (q + 1 + 1), .ref (q + 1 + 2), .ref (q + 1 + 3), .int 0, .int 0, .ref (q + 1 + 4), .ref (q + 1 + 5), .ref (q + 1 + 6), .ref (q + 1 + 7), .ref (q + 1 + 8), .ref (q + 1 + 9), .int 0, .int 0, .int 0, .int 0, .int 0, .int 0, .int 0, .int 0, .int 0, .int 0, .int 0, .int 0, .int 0, .int (-1), .int 0, .ref (q + 1 + 10), .ref (q + 1 + 11), .ref (q + 1 + 12), .ref (q + 1 + 13), .long 0, .long 0, .null] ([(100, 1850, z0), (100, 1850, z0), (100, 294, z0), (100, 49, z0), (100, 64, z0), (100, 820, z0), (100, 48, z0), (100, 400, z0), (100, 420, z0), (100, 11, z0), (100, 11, z0), (103, 2613, z0), (103, 2613, z0), (100, 11, z0)]) H := hB
  refine lv_aload_n hx hb di226_129 rfl (lv_at hl 0 rfl) ?_
  refine lv_bipush (v := 10) hx hb di226_130 (by decide) ?_
  refine cr_arr S hK (k := 0) (by decide) rfl (N := 10) (by decide) (by decide) (by decide) ⟨by decide, by decide⟩ hB (M := 14) rfl hS di226_132 (fun H hB hS => ?_)
  have hB : Bx D dA q 12 [.ref (q + 1 + 0), .ref (q + 1 + 1), .ref (q + 1 + 2), .ref (q + 1 + 3), .int 0, .int 0, .ref (q + 1 + 4), .ref (q + 1 + 5), .ref (q + 1 + 6), .ref (q + 1 + 7), .ref (q + 1 + 8), .ref (q + 1 + 9), .int 0, .int 0, .int 0, .int 0, .int 0, .int 0, .int 0, .int 0, .int 0, .int 0, .int 0, .int 0, .int 0, .int (-1), .int 0, .ref (q + 1 + 10), .ref (q + 1 + 11), .ref (q + 1 + 12), .ref (q + 1 + 13), .long 0, .long 0, .null] ([(100, 1850, z0), (100, 1850, z0), (100, 294, z0), (100, 49, z0), (100, 64, z0), (100, 820, z0), (100, 48, z0), (100, 400, z0), (100, 420, z0), (100, 11, z0), (100, 11, z0), (103, 2613, z0), (103, 2613, z0), (100, 11, z0), (100, 10, z0)]) H := hB
  refine cr_put S hin hK (k := 33) (idx := 57) (by decide +kernel) (by decide) (by decide) hB hS (ty := .array .int) (by decide +kernel) rfl rfl (Nat.le_of_ble_eq_true rfl) di226_134 (fun H locs hB hS => ?_)
  have hB : Bx D dA q 12 [.ref (q + 1 + 0), .ref (q + 1 + 1), .ref (q + 1 + 2), .ref (q + 1 + 3), .int 0, .int 0, .ref (q + 1 + 4), .ref (q + 1 + 5), .ref (q + 1 + 6), .ref (q + 1 + 7), .ref (q + 1 + 8), .ref (q + 1 + 9), .int 0, .int 0, .int 0, .int 0, .int 0, .int 0, .int 0, .int 0, .int 0, .int 0, .int 0, .int 0, .int 0, .int (-1), .int 0, .ref (q + 1 + 10), .ref (q + 1 + 11), .ref (q + 1 + 12), .ref (q + 1 + 13), .long 0, .long 0, .ref (q + 1 + 14)] ([(100, 1850, z0), (100, 1850, z0), (100, 294, z0), (100, 49, z0), (100, 64, z0), (100, 820, z0), (100, 48, z0), (100, 400, z0), (100, 420, z0), (100, 11, z0), (100, 11, z0), (103, 2613, z0), (103, 2613, z0), (100, 11, z0), (100, 10, z0)]) H := hB
  exact cr_end (f := fMod) hx hb hr hlocks hB (by decide) rfl hS ⟨by decide, by decide⟩ di226_137
