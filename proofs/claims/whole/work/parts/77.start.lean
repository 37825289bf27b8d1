/-! THE CLAIM OUT OF ONE WALK OF THE LAW'S BODY. Your part is whole_start (and what it stands on); all else here is the same for every law, but numbers. -/
def R_law : String := "PierTooFarLaw"
def lw_P (b : Addr) (xs : List Int32) (args : Array Value) (s : State) : Prop := args = #[.ref b] ∧ s.IntsAt b xs ∧ xs.length ≤ 3072 ∧ (Jvm.Cond.and given_1 narrow_1).before args s = true
def lw_Q (_ : Array Value) (s : State) (o : Outcome) (t : State) : Prop := o = .returned (some (.int 1)) ∧ Framed s o t [] 600000 7302250
def lw_Z (below : List Frame) (a : Array Value) (s : State) : State → Prop := fun t => ∃ o, t.status = .running ∧ Ended t below o ∧ lw_Q a s o t
/-- the law's own end, with 1 on the stack, nothing written that was there before, its room as the claim has it -/
theorem lw_ret {p : Program} {l : Launch} {e : Env} {s : State} {m : MethodId} {below : List Frame} {meth : Method} {c : Code} {b : Nat} (hx : p.tables.exec = Jvm.exec) (hb : c.code = code) (hr : meth.sig.returnType = ret) (hlocks : meth.locks = false) {pc : Nat} {H : Heap} {ls : Array Slot} (hdg : decode code pc = .ok (.ireturn, 1)) : W p l e room_1 s m #[Value.ref b] below meth c H [] 600000 7302250 (lw_Z below #[Value.ref b] s) (F0 m pc ls [.int 1]) := by
  intro T hT X
  obtain ⟨fs, hret, hrun, hended, hW, hframe⟩ := X.leave (v := some (.int 1)) (hlocks := hlocks) (fun h => by rw [hr] at h; cases h)
  have hmeth' : T.vm.method? m = some meth := X.method'
  refine ⟨T.setFrames fs, ?_, .returned (some (.int 1)), hrun, hended, rfl, ⟨_, rfl⟩, hW, hframe⟩
  jvm_step X.here [X.here.top, hx, hb, hdg, hmeth', hr, ret, narrow_b1]
  (try refine ⟨rfl, ?_⟩); (try refine ⟨rfl, ?_⟩)
  first | (intro acts; rw [hret _ acts rfl rfl rfl]) | rw [hret _ _ rfl rfl rfl]
  exact Steps.refl _
/-- what holds at the law's entry: the machine, the code, the tables' words (any of lw_tbl by 'hts w (by decide +kernel)'), the script of L ints xs at the cell b, what the Statement gives of the start (any of its parts by flat_of_before) -/
def lw_At (p : Program) (s : State) (m : MethodId) (meth : Method) (c : Code) (b L : Nat) (xs : Nat → Int32) : Prop :=
  p.tables.exec = Jvm.exec ∧ c.code = code ∧ meth.sig.returnType = ret ∧ c.maxLocals = 4 ∧ s.vm.findClass R_law = some m.cls ∧ (∀ w ∈ lw_tbl, w.before #[Value.ref b] s = true) ∧ va_X b L xs s s.heap ∧ b < s.heap.size ∧ meth.locks = false ∧ (Jvm.Cond.and given_1 narrow_1).before #[Value.ref b] s = true
theorem dw_0 : decode code 0 = .ok (.new 7, 3) := by decide +kernel
theorem dw_3 : decode code 3 = .ok (.dup, 1) := by decide +kernel
theorem dw_4 : decode code 4 = .ok (.invokespecial 9, 3) := by decide +kernel
theorem dw_7 : decode code 7 = .ok (.astore_n 1, 1) := by decide +kernel
theorem dw_8 : decode code 8 = .ok (.new 10, 3) := by decide +kernel
theorem dw_11 : decode code 11 = .ok (.dup, 1) := by decide +kernel
theorem dw_12 : decode code 12 = .ok (.invokespecial 12, 3) := by decide +kernel
theorem dw_15 : decode code 15 = .ok (.astore_n 2, 1) := by decide +kernel
theorem dw_16 : decode code 16 = .ok (.iconst 0, 1) := by decide +kernel
theorem dw_17 : decode code 17 = .ok (.istore_n 3, 1) := by decide +kernel
theorem dw_1433 : decode code 1433 = .ok (.iconst 1, 1) := by decide +kernel
theorem dw_1434 : decode code 1434 = .ok (.ireturn, 1) := by decide +kernel
/-- the tables at the start -/
theorem kx_start {args : Array Value} {s : State} (hts : ∀ w ∈ lw_tbl, w.before args s = true) : ∃ (D : va_G) (dA : Nat → ClassId), KX D dA s := by
  have htb : ∀ w ∈ TB, w.before args s = true := fun w hw => hts w (List.mem_filter.mp hw).1
  have hD : ∀ t : Nat, ∃ r : ClassId × (Nat → Nat), t < 13 → u_Kn s (cT t).1 (cT t).2.1 (cT t).2.2 r.1 r.2 := by
    intro t
    by_cases ht : t < 13
    · obtain ⟨c, iS, h⟩ := u_known htb (cls_w ht) (htb _ (tb_ni t (List.mem_range.mpr ht)))
      exact ⟨(c, iS), fun _ => h⟩
    · exact ⟨(0, fun _ => 0), fun h => absurd h ht⟩
  obtain ⟨F, hF⟩ := Classical.skolem.mp hD
  have hA : ∀ k, k < 4 → ∃ c : ClassId, ArrOfT s c (aTy k) ∧ s.vm.findClass ("[" ++ (aTy k).toString) = some c := by
    intro k hk
    obtain ⟨c, kA, comp, h1, h2, h3⟩ := Cond.arrayClass_spec (htb _ (tb_na k (List.mem_range.mpr hk)))
    exact ⟨c, fun n z => ⟨fun k h => (by cases h), kA, h2, comp, h3⟩, h1⟩
  obtain ⟨a0, x0, y0⟩ := hA 0 (by omega)
  obtain ⟨a1, x1, y1⟩ := hA 1 (by omega)
  obtain ⟨a2, x2, y2⟩ := hA 2 (by omega)
  obtain ⟨a3, x3, y3⟩ := hA 3 (by omega)
  have hao : ∀ q ∈ List.range 2, va_Nw (wAO q) s := fun q hq => hts (wAO q) (tb_ao q hq)
  obtain ⟨c4, a4, k4, p1, -, p3, p4, p5⟩ := Cond.arrayOver_spec (show (Cond.arrayOver (.object "PierTooFar$Pier")).before #[] s = true from hao 0 (by decide))
  obtain ⟨c5, a5, k5, r1, -, r3, r4, r5⟩ := arrayOverA_spec (show (Cond.arrayOver (.array .long)).before #[] s = true from hao 1 (by decide))
  refine ⟨(fun t => (F t).1, fun t => (F t).2), fun k => match k with
    | 0 => a0
    | 1 => a1
    | 2 => a2
    | 3 => a3
    | 4 => a4
    | _ => a5, ⟨fun t q hq => ?_, fun k q hq => ?_⟩, fun q hq => va_Nw.of rfl (hts _ (tb_fl2 q hq)), fun q hq => va_Nw.of rfl (hts _ (tb_ml2 q hq)), hao⟩
  · have ht : t < 13 := (List.getElem?_eq_some_iff.mp hq).1
    have h := (cls_at ht).symm.trans hq
    cases h
    exact hF t ht
  · match k, hq with
    | 0, hq => cases hq; exact ⟨x0, y0⟩
    | 1, hq => cases hq; exact ⟨x1, y1⟩
    | 2, hq => cases hq; exact ⟨x2, y2⟩
    | 3, hq => cases hq; exact ⟨x3, y3⟩
    | 4, hq => cases hq; exact ⟨fun n z => ⟨fun k h => (by cases h), k4, p3, c4, p4⟩, k4, c4, p3, p4, p1, p5⟩
    | 5, hq => cases hq; exact ⟨fun n z => ⟨fun k h => (by cases h), k5, r3, c5, r4⟩, r5⟩
    | k + 6, hq => simp [xty] at hq
set_option maxHeartbeats 4000000 in
set_option maxRecDepth 100000 in
/-- THE LAW, from its entry -/
theorem whole_start {p : Program} {e : Env} {s : State} {m : MethodId} {below : List Frame} {meth : Method} {c : Code} (l : Launch) {b L : Nat} {xs : Nat → Int32} (hL : L ≤ 3072) (C0 : lw_At p s m meth c b L xs) : W p l e room_1 s m #[Value.ref b] below meth c s.heap [] 0 0 (lw_Z below #[Value.ref b] s) (entryFrame m ([Value.ref b] : List Value).toArray 4) := by
  obtain ⟨hx, hb, hr, hml, hown, hts, hX, hbl, hlocks, hgv⟩ := id C0
  have htb : ∀ w ∈ TB, w.before #[Value.ref b] s = true := fun w hw => hts w (List.mem_filter.mp hw).1
  have S : CallFix p m c code 4 s #[Value.ref b] TB (cN 13) := ⟨hx, hb, hml, hown, htb⟩
  obtain ⟨D, dA, hK⟩ := kx_start hts
  obtain ⟨ea, sa, va, no, hXF⟩ := xf_start hgv hts
  have hl := lv_entry ([.ref b]) (n := 4) (Nat.le_of_ble_eq_true rfl)
  rw [lg_entry_eq]
  generalize (lg_sl ([.ref b]) ++ List.replicate (4 - (lg_sl ([.ref b])).length) Slot.unset).toArray = ls at hl ⊢
  have hl : lv_has ls 4 [(0, .ref b)] := hl
  have hS : va_S (fun a => s.heap.size ≤ a) s.heap s.heap [] := va_S.rf
  obtain ⟨q1, hq1⟩ : ∃ q, q = s.heap.size := ⟨_, rfl⟩
  refine cr_new S hK (t' := 11) (idx := 7) (by decide +kernel) (by decide) ⟨by decide, by decide⟩ dw_0 (fun H1 hat1 hz1 ho1 => ?_)
  rw [← hq1] at hat1 hz1 ho1 ⊢
  have hS1 : va_S (fun a => q1 ≤ a) s.heap H1 [] := ⟨by omega, fun a h1 _ => ho1 a (by omega), fun w h => by cases h⟩
  refine lv_dup hx hb dw_3 rfl ?_
  obtain ⟨n1, n2, n3, -, n5, -, -⟩ := ini_tab 0 (by decide)
  refine cr_ini S hK (i := 0) (As := []) (rest := [.ref q1]) c_ptf n1 n2 n3 n5 (ini_none (by decide)) (Or.inl (by decide +kernel)) rfl (by decide +kernel) hat1 hz1 hl.1 (Nat.le_of_ble_eq_true rfl) ⟨by decide, by decide⟩ hS1 (fun a h => h) dw_4 (fun H2 locs2 hz2 hP2 ho2 hS2 => ?_)
  refine lv_astore_n (lv' := [(1, .ref q1), (0, .ref b)]) hx hb dw_7 rfl hl (by decide) rfl (fun ls hl => ?_)
  have hz2' : H2.size = q1 + 203 := hz2
  refine cr_new S hK (t' := 12) (idx := 10) (by decide +kernel) (by decide) ⟨by decide, by decide⟩ dw_8 (fun H3 hat3 hz3 ho3 => ?_)
  rw [hz2'] at hat3 hz3 ho3 ⊢
  have hS3 : va_S (fun a => q1 ≤ a) s.heap H3 locs2 := ⟨by omega, fun a h1 h2 => (ho3 a (by omega)).trans (hS2.2.1 a h1 h2), hS2.2.2⟩
  refine lv_dup hx hb dw_11 rfl ?_
  obtain ⟨m1, m2, m3, -, m5, -, -⟩ := ini_tab 226 (by decide)
  refine cr_ini S hK (i := 226) (As := []) (rest := [.ref (q1 + 203)]) c_model m1 m2 m3 m5 (ini_none (by decide)) (Or.inl (by decide +kernel)) rfl (by decide +kernel) hat3 hz3 hl.1 (Nat.le_of_ble_eq_true rfl) ⟨by decide, by decide⟩ hS3 (fun a h => by show q1 ≤ a; omega) dw_12 (fun H4 locs4 hz4 hP4 ho4 hS4 => ?_)
  refine lv_astore_n (lv' := [(2, .ref (q1 + 203)), (1, .ref q1), (0, .ref b)]) hx hb dw_15 rfl hl (by decide) rfl (fun ls hl => ?_)
  refine lv_iconst (v := nI 0) hx hb dw_16 (by decide) ?_
  refine lv_istore_n (lv' := [(3, .int (nI 0)), (2, .ref (q1 + 203)), (1, .ref q1), (0, .ref b)]) hx hb dw_17 rfl hl (by decide) rfl (fun ls hl => ?_)
  have hPC : Pie D dA q1 LPtf H4 := hP2.kept (fun a _ h => by
    have h : a < q1 + 203 := h
    exact (ho4 a h).trans (ho3 a h))
  have hlC : xN (mkQ D q1 ea sa va layC dA no) = 203 := rfl
  have hlM : xN (mkQ D (q1 + 203) ea sa va layM dA no) = 16 := rfl
  have G : Wrld (mkQ D q1 ea sa va layC dA no) (mkQ D (q1 + 203) ea sa va layM dA no) s (fun a => q1 ≤ a) := by
    refine ⟨XC_of (fun i j _ _ h => ?_), XM_of (fun i j _ _ h => ?_), ⟨by rw [hlC]; omega, rfl⟩, ⟨by rw [hlM]; omega, rfl⟩, hK.1, hK.1, hXF _ (fun a ha h => ?_), hXF _ (fun a ha h => ?_), fun a h1 h2 => ?_, fun a h => ?_, fun a h => ?_, fun a h => by omega⟩
    · have h : q1 + i = q1 + j := h
      omega
    · have h : q1 + 203 + i = q1 + 203 + j := h
      omega
    · obtain ⟨k, -, hk⟩ := h
      have hk : a = q1 + k := hk
      omega
    · obtain ⟨k, -, hk⟩ := h
      have hk : a = q1 + 203 + k := hk
      omega
    · obtain ⟨k, k1, hk⟩ := h1
      obtain ⟨j, -, hj⟩ := h2
      rw [hlC] at k1
      have hk : a = q1 + k := hk
      have hj : a = q1 + 203 + j := hj
      omega
    · obtain ⟨k, -, hk⟩ := h
      have hk : a = q1 + k := hk
      show q1 ≤ a
      omega
    · obtain ⟨k, -, hk⟩ := h
      have hk : a = q1 + 203 + k := hk
      show q1 ≤ a
      omega
  refine law_loop2 (X := mkQ D q1 ea sa va layC dA no) (Y := mkQ D (q1 + 203) ea sa va layM dA no) (A := fun a => q1 ≤ a) S G hX hbl hL ⟨by decide, by decide⟩ (fun H locs lsR hS5 => ?_) (L + 1) 0 H4 locs4 ls (mz LPtf) (mz LModel) (Nat.zero_le L) (by omega) first_RC (Pie.wl hPC lay_C okV_C) (Pie.wl hP4 lay_M okV_M) hS4 (lv_sub hl [3, 2, 1, 0] rfl)
  refine lv_iconst (v := 1) hx hb dw_1433 (by decide) ?_
  refine va_forget (fun w hw => ?_) ?_
  · rw [← hq1]
    exact hS5.2.2 w hw
  refine W.widen (k := 600000) (n := 7302250) (by decide) (by decide) ?_
  exact lw_ret hx hb hr hlocks dw_1434
set_option maxHeartbeats 4000000 in
theorem lw_walk (l : Launch) (b : Addr) (xs : List Int32) : MetFree l x (headSpec (Jvm.Cond.code x code maxLocals ret :: tables_1) room_1) (lw_P b xs) (fun _ _ _ _ _ => True) lw_Q := by
  refine MetFree.of_bodyS (code := code) (maxLocals := maxLocals) (ret := ret) (by decide) ?_ ?_
  · intro args s m h hn
    obtain ⟨meth, c, h1, h2, h3, h4, h5, h6, -, -⟩ := Cond.code_spec hn (atoms_spec (ws := Jvm.Cond.code x code maxLocals ret :: tables_1) h _ List.mem_cons_self)
    exact ⟨meth, c, h1, h2, h3, h4, h5, h6⟩
  · intro p e s m args below meth c s₁ B hml0 hP _
    obtain ⟨rfl, hx, hbd, hgv⟩ := hP
    obtain ⟨scr, harrAt, hlist, hof, hsmall⟩ := hx
    obtain ⟨hcb, hkn, -, -⟩ := State.arrayAt?_spec harrAt
    have hown : s.vm.findClass R_law = some m.cls := findClass_of_methodNamed B.named
    have hts0 : ∀ c ∈ (Jvm.Cond.code x code maxLocals ret :: tables_1), c.before #[Value.ref b] s = true := atoms_spec (ws := Jvm.Cond.code x code maxLocals ret :: tables_1) B.pre
    have hts : ∀ w ∈ lw_tbl, w.before #[Value.ref b] s = true := k2_hts_sels lw_privs (fun w hw => hts0 w (List.mem_cons_of_mem _ hw)) lw_privs_ok
    have hml : c.maxLocals = 4 := B.maxLocals_eq (hts0 _ List.mem_cons_self)
    have X₀ : Stand p l e room_1 s m #[Value.ref b] below meth c s₁ [] 0 0 := Stand.of_body B
    have hh0 : s₁.heap = s.heap := by rw [B.state]; rfl
    have hsz : scr.slots.size = xs.length := by rw [← Array.length_toList, hlist, List.length_map]
    have hval : ∀ j : Nat, j < xs.length → scr.slots[j]? = some (.int (xs.getD j 0)) := fun j hj => by
      rw [← Array.getElem?_toList, hlist]
      simp [hj]
    have hbl : b < s.heap.size := (Array.getElem?_eq_some_iff.mp hcb).1
    have hX : va_X b xs.length (fun j => xs.getD j 0) s s.heap := ⟨scr, hcb, hof, hkn, hsz, hval⟩
    have K : W p l e room_1 s m #[Value.ref b] below meth c s₁.heap [] 0 0 (lw_Z below #[Value.ref b] s) (entryFrame m ([Value.ref b] : List Value).toArray 4) := by
      rw [hh0]
      exact whole_start l hbd ⟨B.exec, B.bytes, B.returns, hml, hown, hts, hX, hbl, B.notSynchronized, hgv⟩
    obtain ⟨t, a1, o, b1, b2, b3⟩ := K s₁ rfl X₀
    exact ⟨t, o, a1, b1, b2, b3⟩
theorem lw_pre_spec {args : Array Value} {s : State} (h : (Jvm.Cond.and given_1 narrow_1).before args s = true) (hr : rest_1_c.before args s = true) : ∃ (b : Addr) (xs : List Int32), lw_P b xs args s := by
  have hs := flat_of_before _ h
  have hq := flat_of_before _ hr
  have hc : (Cond.count 1).before args s = true := hs _ (by decide +kernel)
  have harr : (Cond.arrayOf (.arg 0) .int).before args s = true := hs _ (by decide +kernel)
  have hle : (Cond.le (.length (.arg 0)) (.int 3072)).before args s = true := hs _ (by decide +kernel)
  have hlen : (Cond.isInt (.length (.arg 0))).before args s = true := hq _ (by decide +kernel)
  have hall : (Cond.all (.arg 0) (.isInt (.elem (.arg 0) (.index 0)))).before args s = true := hq _ (by decide +kernel)
  obtain ⟨b, xs, hb, hx⟩ := State.ints_of_pre rfl harr hlen hall
  have hsm : xs.length < 2 ^ 31 := hx.choose_spec.2.2.2
  have hev : (Term.length (.arg 0)).eval args s none [] s = some (.int xs.length.toInt32) := hx.length_eval hb
  have hv := Cond.le_ints hev (show (Term.int 3072).eval args s none [] s = some (.int 3072) from rfl)
  have hd : xs.length.toInt32 ≤ 3072 := by
    simpa [Cond.before, Cond.holds, hv] using hle
  have hN : xs.length ≤ 3072 := (Int32.ofNat_le_ofNat hsm (by decide)).mp (show Int32.ofNat xs.length ≤ Int32.ofNat 3072 from hd)
  exact ⟨b, xs, Cond.one_arg hc (show args[0]? = some (.ref b) from hb), hx, hN, h⟩
theorem lw_comes (l : Launch) : Comes l x (Jvm.Cond.code x code maxLocals ret :: tables_1) room_1 (fun tb e args s => Calls_1 tb e args s ∧ rest_1 tb e args s ∧ Pre_1 tb e args s)
    (fun _ _ args s o t => lw_Q args s o t) := by
  intro p e ha hc hk s m args below hf hfit hheap happ hpre
  obtain ⟨b, xs, hP⟩ := lw_pre_spec hpre.2.2 hpre.2.1
  obtain ⟨k, o, h1, h2, h3, hQ⟩ := lw_walk l b xs p e ha hc hk s m args below hf ((Spec.applies_iff_loose hf).mp happ).1 hP trivial
  exact ⟨k, o, h1, h2, h3, hQ⟩
theorem lw_frame {s t : State} {o : Outcome} {args : Array Value} (h : Framed s o t [] 600000 7302250) :
    Framed s o t (fieldLocs frame_1_writes args s ++ arrayLocs frame_1_arrays args s ++ staticLocs frame_1_statics s) 600000 7302250 := h
theorem lw_limb (L : Cond) (hL : ∀ (args : Array Value) (s t : State), L.after args s (.returned (some (.int 1))) t = true) :
    ArmFor flags0 classFile x code maxLocals ret World_1 tables_1 room_1 Calls_1 rest_1 Pre_1
      (fun tb e a s o t => postC L tb e a s o t ∧ Framed s o t (fieldLocs frame_1_writes a s ++ arrayLocs frame_1_arrays a s ++ staticLocs frame_1_statics s) 600000 7302250) := by
  intro l _ _ _ p e ha hc hk s m args below hf hfit hheap happ hpre
  obtain ⟨k, o, h1, h2, h3, rfl, hF⟩ := lw_comes l p e ha hc hk s m args below hf hfit hheap happ hpre
  exact ⟨k, _, h1, h2, h3, hL args s _, lw_frame hF⟩
theorem i_vc : Claimed_1_1 ∧ Claimed_1_2 := ⟨lw_limb limb_1_1 (fun args s t => by simp [limb_1_1, Cond.after, Cond.holds, Cond.value]), lw_limb limb_1_2 (fun args s t => Cond.after_iff.mpr (by
  first | (rw [show limb_1_2 = Cond.eq .result (.int 1) from rfl, Cond.eq_ints (x := 1) (y := 1) rfl rfl]; simp; done) | (simp [limb_1_2, Cond.value, Term.eval]; done)))⟩
