/-! THE RELATION where nothing of it was touched -/
theorem stM_cg {W W' : Int → Int32} : ∀ (c : List Op) (p : Int), 0 ≤ p → (∀ z : Int, 2 * p ≤ z → z < 2 * (p + c.length) → W' z = W z) → stM W p c → stM W' p c
  | [], _, _, _, _ => trivial
  | o :: c, p, hp, hw, h => by
    simp only [List.length_cons] at hw
    exact ⟨by rw [hw _ (by omega) (by omega)]; exact h.1, by rw [hw _ (by omega) (by omega)]; exact h.2.1, stM_cg c (p + 1) (by omega) (fun z h1 h2 => hw z (by omega) (by omega)) h.2.2⟩
theorem stC_cg {f f' : Int → Int32} : ∀ (c : List Int) (q : Int), 0 ≤ q → (∀ z : Int, q ≤ z → z < q + c.length → f' z = f z) → stC f q c → stC f' q c
  | [], _, _, _, _ => trivial
  | x :: c, q, hq, hw, h => by
    simp only [List.length_cons] at hw
    exact ⟨by rw [hw _ (by omega) (by omega)]; exact h.1, stC_cg c (q + 1) (by omega) (fun z h1 h2 => hw z (by omega) (by omega)) h.2⟩
theorem RP.cg {p : Nat} {s s' : Mem} {W W' : Int → Int32} {N : Int} (h : RP p s W N) (hs : ∀ k j : Nat, p ≤ k → k ≤ p + 4 → (k = p → 5 ≤ j ∧ j ≤ 10) → rI s' k j = rI s k j) (hw : ∀ z : Int, 0 ≤ z → z < 49 → W' z = W z) : RP p s' W' N := by
  have e : ∀ (k : Nat) (z : Int), p < k → k ≤ p + 4 → rd s' k z = rd s k z := fun k z a b => hs k z.toNat (by omega) b (by omega)
  obtain ⟨hN, ⟨a1, a2, a3, a4⟩, ⟨L, b1, b2, b3, b4, b5⟩, ⟨B, c1, c2, c3, c4⟩, d, f, g, i⟩ := h
  refine ⟨hN, ⟨?_, ?_, ?_, ?_⟩, ⟨L, b1, b2, ?_, ?_, ?_⟩, ⟨B, c1, c2, ?_, ?_⟩, ?_, ?_, ?_, ?_⟩
  · simp (disch := omega) only [hs, hw]; exact a1
  · simp (disch := omega) only [hs, hw]; exact a2
  · simp (disch := omega) only [hs, hw]; exact a3
  · simp (disch := omega) only [hs, hw]; exact a4
  · simp (disch := omega) only [hs, hw]; exact b3
  · simp (disch := omega) only [hs, hw]; exact b4
  · intro m h1 h2; simp (disch := omega) only [e]; exact b5 m h1 h2
  · simp (disch := omega) only [hs, hw]; exact c3
  · simp (disch := omega) only [hs, hw]; exact c4
  · intro m h1 h2; simp (disch := omega) only [e, hw]; exact d m h1 h2
  · intro m h1 h2; simp (disch := omega) only [e, hw]; exact f m h1 h2
  · intro m h1 h2; simp (disch := omega) only [e]; exact g m h1 h2
  · intro m h1 h2; simp (disch := omega) only [e]; exact i m h1 h2
theorem RL1.cg {l : Nat} {s s' : Mem} {W W' : Int → Int32} (h : RL1 l s W) (hs : ∀ k j : Nat, l ≤ k → k ≤ l + 5 → rI s' k j = rI s k j) (hw : ∀ z : Int, z = 52 ∨ (966 ≤ z ∧ z < 1850) → W' z = W z) : RL1 l s' W' := by
  have e : ∀ (k : Nat) (z : Int), l ≤ k → k ≤ l + 5 → rd s' k z = rd s k z := fun k z a b => hs k z.toNat a b
  obtain ⟨n, u, v, a1, a2, a3, a4, a5, a6, a7, a8, a9, hi⟩ := h
  refine ⟨n, u, v, a1, a2, a3, a4, a5, a6, ?_, ?_, ?_, ?_⟩
  · simp (disch := omega) only [hs]; exact a7
  · simp (disch := omega) only [hw]; exact a8
  · simp (disch := omega) only [hs]; exact a9
  · intro i i1 i2
    obtain ⟨w, f, m, t, a, b, c, ee, kk, b1, b2, b3, b4, b5, b6, b7, b8, b9, b10, b11, c1, c2, c3, c4, c5, c6, c7, d1, d2, d3, d4⟩ := hi i i1 i2
    refine ⟨w, f, m, t, a, b, c, ee, kk, b1, b2, ?_, ?_, b5, b6, b7, b8, ?_, ?_, ?_, c1, c2, c3, c4, ?_, ?_, ?_, ?_, ?_, d3, d4⟩
    · simp (disch := omega) only [hw]; exact b3
    · simp (disch := omega) only [e]; exact b4
    · simp (disch := omega) only [hw]; exact b9
    · simp (disch := omega) only [hw]; exact b10
    · simp (disch := omega) only [hw]; exact b11
    · simp (disch := omega) only [e]; exact c5
    · simp (disch := omega) only [e]; exact c6
    · simp (disch := omega) only [e]; exact c7
    · refine stM_cg _ _ b5 (fun z h1 h2 => ?_) d1
      rw [List.length_append] at h2
      exact hw _ (by omega)
    · exact stC_cg _ _ c1 (fun z h1 h2 => e _ _ (by omega) (by omega)) d2
theorem RTn.cg {t : Nat} {s s' : Mem} {W W' : Int → Int32} {N : Int} (h : RTn t s W N) (hs : rI s' t 7 = rI s t 7) (hw : W' 49 = W 49) : RTn t s' W' N := ⟨h.1, h.2.1, hs.trans h.2.2.1, hw.trans h.2.2.2⟩
theorem RTw.cg {t : Nat} {s s' : Mem} {W W' : Int → Int32} (h : RTw t s W) (hs : ∀ j : Nat, j = 8 ∨ j = 9 → rI s' t j = rI s t j) (hw : ∀ z : Int, z = 50 ∨ z = 51 → W' z = W z) : RTw t s' W' := by
  obtain ⟨⟨w, b1, b2, b3, b4⟩, b5⟩ := h
  refine ⟨⟨w, b1, b2, ?_, ?_⟩, ?_⟩
  · simp (disch := omega) only [hs]; exact b3
  · simp (disch := omega) only [hw]; exact b4
  · simp (disch := omega) only [hs, hw]; exact b5
theorem RTp.cg {t : Nat} {s s' : Mem} {W W' : Int → Int32} {N : Int} (h : RTp t s W N) (hN : N ≤ 12) (hs : ∀ k j : Nat, t < k → k ≤ t + 3 → rI s' k j = rI s k j) (hw : ∀ z : Int, 62 ≤ z → z < 98 → W' z = W z) : RTp t s' W' N := by
  have e : ∀ (k : Nat) (z : Int), t < k → k ≤ t + 3 → rd s' k z = rd s k z := fun k z a b => hs k z.toNat a b
  intro i i1 i2; simp (disch := omega) only [e, hw]; exact h i i1 i2
theorem RT.cg {t : Nat} {s s' : Mem} {W W' : Int → Int32} {N : Int} (h : RT t s W N) (hs : ∀ k j : Nat, t ≤ k → k ≤ t + 22 → k ≠ t + 10 → rI s' k j = rI s k j) (hw : ∀ z : Int, (49 ≤ z ∧ z < 56) ∨ (62 ≤ z ∧ z < 210) ∨ (966 ≤ z ∧ z < 1850) → W' z = W z) : RT t s' W' N := by
  obtain ⟨h1, h2, h3, h4, h5, h6, h7⟩ := h
  exact ⟨h1.cg (hs _ _ (by omega) (by omega) (by omega)) (hw _ (by omega)), h2.cg (fun j _ => hs _ _ (by omega) (by omega) (by omega)) (fun z _ => hw _ (by omega)),
    h3.cg h1.2.1 (fun k j _ _ => hs _ _ (by omega) (by omega) (by omega)) (fun z _ _ => hw _ (by omega)), h4.cg (fun k j _ _ => hs _ _ (by omega) (by omega) (by omega)) (fun z _ => hw _ (by omega)),
    h5.cg (fun k j _ _ => hs _ _ (by omega) (by omega) (by omega)) (fun z _ => hw _ (by omega)), h6.cg (fun k j _ _ => hs _ _ (by omega) (by omega) (by omega)) (fun z _ => hw _ (by omega)),
    h7.cg (fun k j _ _ => hs _ _ (by omega) (by omega) (by omega)) (fun z _ => hw _ (by omega))⟩
theorem RHm.cg {t : Nat} {s s' : Mem} {W W' : Int → Int32} (h : RHm t s W) (hs : ∀ k j : Nat, k = t + 25 ∨ k = t + 26 → rI s' k j = rI s k j) (hw : ∀ z : Int, 340 ≤ z → z < 356 → W' z = W z) : RHm t s' W' := by
  have e : ∀ (k : Nat) (z : Int), k = t + 25 ∨ k = t + 26 → rd s' k z = rd s k z := fun k z a => hs k z.toNat a
  intro i i1 i2; simp (disch := omega) only [e, hw]; exact h i i1 i2
theorem RHo.cg {t : Nat} {s s' : Mem} {W W' : Int → Int32} (h : RHo t s W) (hs : ∀ j : Nat, rI s' (t + 27) j = rI s (t + 27) j) (hw : ∀ z : Int, 356 ≤ z → z < 366 → W' z = W z) : RHo t s' W' := by
  intro i i1 i2
  rw [hw _ (by omega) (by omega), show rd s' (t + 27) i = rd s (t + 27) i from hs _]
  exact h i i1 i2
theorem RH.cg {t : Nat} {s s' : Mem} {W W' : Int → Int32} (h : RH t s W) (hs : ∀ k j : Nat, t < k → k ≤ t + 27 → rI s' k j = rI s k j) (hw : ∀ z : Int, (56 ≤ z ∧ z < 62) ∨ (210 ≤ z ∧ z < 366) → W' z = W z) : RH t s' W' := by
  obtain ⟨h1, h2, h3, h4, h5, h6, h7, h8⟩ := h
  exact ⟨h1.cg (fun k j _ _ => hs _ _ (by omega) (by omega)) (fun z _ => hw _ (by omega)), h2.cg (fun k j _ _ => hs _ _ (by omega) (by omega)) (fun z _ => hw _ (by omega)), h3.cg (fun k j _ _ => hs _ _ (by omega) (by omega)) (fun z _ => hw _ (by omega)),
    h4.cg (fun k j _ _ => hs _ _ (by omega) (by omega)) (fun z _ => hw _ (by omega)), h5.cg (fun k j _ _ => hs _ _ (by omega) (by omega)) (fun z _ => hw _ (by omega)), h6.cg (fun k j _ _ => hs _ _ (by omega) (by omega)) (fun z _ => hw _ (by omega)),
    h7.cg (fun k j _ => hs _ _ (by omega) (by omega)) (fun z _ _ => hw _ (by omega)), h8.cg (fun j => hs _ _ (by omega) (by omega)) (fun z _ _ => hw _ (by omega))⟩
theorem RB.cg {l : Nat} {s s' : Mem} {W W' : Int → Int32} (h : RB l s W) (hs : ∀ j : Nat, rI s' (l + 1) j = rI s (l + 1) j) (hw : ∀ z : Int, 366 ≤ z → z < 966 → W' z = W z) : RB l s' W' := by
  intro i h1 h2
  rw [hw _ (by omega) (by omega)]
  exact (hs i.toNat).trans (h i h1 h2)
theorem RW.cg {b : Nat} {s s' : Mem} {W W' : Int → Int32} {N : Int} (h : RW b s W N) (hs : ∀ k j : Nat, b < k → k ≤ b + 59 → k ≠ b + 16 → k ≠ b + 57 → (k = b + 1 → 5 ≤ j ∧ j ≤ 10) → rI s' k j = rI s k j) (hw : ∀ z : Int, 0 ≤ z → z < 1850 → W' z = W z) : RW b s' W' N :=
  ⟨h.1.cg (fun k j h1 h2 h3 => hs k j (by omega) (by omega) (by omega) (by omega) (by omega)) (fun z h1 h2 => hw z h1 (by omega)),
   h.2.1.cg (fun k j h1 h2 h3 => hs k j (by omega) (by omega) (by omega) (by omega) (by omega)) (fun z h1 => hw z (by omega) (by omega)),
   h.2.2.1.cg (fun k j h1 h2 => hs k j (by omega) (by omega) (by omega) (by omega) (by omega)) (fun z h1 => hw z (by omega) (by omega)),
   h.2.2.2.cg (fun j => hs _ j (by omega) (by omega) (by omega) (by omega) (by omega)) (fun z h1 h2 => hw z (by omega) (by omega))⟩
theorem RY.cg {W W' : Int → Int32} (h : RY W) (h1 : W' 1 = W 1) (h2 : W' 2 = W 2) : RY W' := by
  unfold RY
  rw [h1, h2]
  exact h
theorem RK.cg {s s' σ σ' : Mem} {N : Int} (h : RK s σ N) (hs : ∀ k j : Nat, k = 128 ∧ (j = 1 ∨ j = 2) ∨ (130 ≤ k ∧ k < 160) → rI s' k j = rI s k j) (h4 : rI σ' 0 4 = rI σ 0 4) (hw : ∀ j : Nat, rI σ' 3 j = rI σ 3 j) : RK s' σ' N := by
  obtain ⟨c, v, a1, a2, a3, a4, a5, a6, a7, hj⟩ := h
  refine ⟨c, v, a1, a2, a3, a4, ?_, ?_, ?_, fun j h1 h2 => ?_⟩
  · rw [hs _ _ (by omega)]; exact a5
  · rw [h4]; exact a6
  · rw [hs _ _ (by omega)]; exact a7
  · exact ⟨(hj j h1 h2).1.cg (fun k j' h3 h4 _ => hs _ _ (by omega)) (fun z _ _ => hw _), (hj j h1 h2).2.cg (hw _) (hw _)⟩
theorem RI.cg {s s' σ σ' : Mem} (h : RI s σ) (hs : ∀ k j : Nat, k = 0 ∧ j = 7 ∨ (61 < k ∧ k ≤ 120 ∧ k ≠ 77 ∧ k ≠ 118) → rI s' k j = rI s k j) (h5 : rI σ' 0 5 = rI σ 0 5) (hw : ∀ j : Nat, rI σ' 2 j = rI σ 2 j) : RI s' σ' := by
  obtain ⟨c, a1, a2, a3⟩ := h
  refine ⟨c, ?_, ?_, ?_⟩
  · rw [hs _ _ (by omega)]; exact a1
  · rw [h5]; exact a2
  · rcases a3 with a3 | ⟨a3, N, a4, a5⟩
    · exact Or.inl a3
    · exact Or.inr ⟨a3, N, a4.cg (fun k j h1 h2 h3 h4 _ => hs _ _ (by omega)) (fun z _ _ => hw _), a5.cg (hw _) (hw _)⟩
theorem RR.cg {s s' σ σ' : Mem} (h : RR s σ) (hs : ∀ k j : Nat, k = 160 ∧ (j = 6 ∨ j = 10 ∨ j = 11) ∨ k = 161 → rI s' k j = rI s k j) (h0 : ∀ j : Nat, j = 16 ∨ j = 23 ∨ j = 25 → rI σ' 0 j = rI σ 0 j) (hw : ∀ j : Nat, rI σ' 8 j = rI σ 8 j) : RR s' σ' := by
  obtain ⟨⟨t, a1, a2, a3, a4, a5⟩, a6, a7⟩ := h
  refine ⟨⟨t, a1, a2, ?_, ?_, fun i i1 i2 => ?_⟩, ?_, ?_⟩
  · rw [hs _ _ (by omega)]; exact a3
  · rw [h0 _ (by omega)]; exact a4
  · obtain ⟨c, c1, c2, c3, c4⟩ := a5 i i1 i2
    exact ⟨c, c1, c2, (hs _ _ (by omega)).trans c3, (hw _).trans c4⟩
  · rw [hs _ _ (by omega), h0 _ (by omega)]; exact a6
  · rw [hs _ _ (by omega), h0 _ (by omega)]; exact a7
/-- what no relation speaks of may change at will -/
def lvC (k j : Nat) : Prop := k ≠ 17 ∧ k ≠ 58 ∧ k ≠ 77 ∧ k ≠ 118 ∧ k ≠ 127 ∧ (k = 121 → j = 0) ∧ ¬ (122 ≤ k ∧ k ≤ 125) ∧ k < 162 ∧ (k = 160 → j = 6 ∨ j = 10 ∨ j = 11)
def lvM (k j : Nat) : Prop := k = 1 ∨ k = 2 ∨ k = 3 ∨ k = 8 ∨ (k = 15 ∧ j = 0) ∨ (k = 0 ∧ (j = 4 ∨ j = 5 ∨ j = 16 ∨ j = 23 ∨ j = 25))
theorem RC.cg {s s' σ σ' : Mem} (h : RC s σ) (hs : ∀ k j : Nat, lvC k j → rI s' k j = rI s k j) (hσ : ∀ k j : Nat, lvM k j → rI σ' k j = rI σ k j) : RC s' σ' := by
  obtain ⟨⟨N, hW, hY, hK⟩, hI, hR, h2, h121, h15⟩ := h
  unfold lvC at hs
  unfold lvM at hσ
  refine ⟨⟨N, hW.cg (fun k j a b c d e => hs _ _ (by omega)) (fun z _ _ => hσ _ _ (by omega)), hY.cg (hσ _ _ (by omega)) (hσ _ _ (by omega)), hK.cg (fun k j a => hs _ _ (by omega)) (hσ _ _ (by omega)) (fun j => hσ _ _ (by omega))⟩,
    hI.cg (fun k j a => hs _ _ (by omega)) (hσ _ _ (by omega)) (fun j => hσ _ _ (by omega)), hR.cg (fun k j a => hs _ _ (by omega)) (fun j a => hσ _ _ (by omega)) (fun j => hσ _ _ (by omega)), ?_, ?_, ?_⟩
  · rw [hs _ _ (by omega)]; exact h2
  · rw [hs _ _ (by omega)]; exact h121
  · exact (hσ 15 0 (by omega)).trans h15
/-- only what is told for thought was touched -/
theorem RC.th {s s' σ σ' : Mem} (h : RC s σ) (hs : ∀ k j : Nat, ¬ (31 ≤ k ∧ k ≤ 58) → rI s' k j = rI s k j) (hσ : ∀ k j : Nat, k ≠ 1 → rI σ' k j = rI σ k j) (hw : ∀ z : Int, 0 ≤ z → ¬ ((56 ≤ z ∧ z < 62) ∨ (210 ≤ z ∧ z < 366)) → rd σ' 1 z = rd σ 1 z) (hn : RH 30 s' (rd σ' 1)) : RC s' σ' := by
  obtain ⟨⟨N, hW, hY, hK⟩, hI, hR, h2, h121, h15⟩ := h
  refine ⟨⟨N, ⟨hW.1.cg (fun k j a b c => hs _ _ (by omega)) (fun z _ _ => hw _ (by omega) (by omega)), hW.2.1.cg (fun k j a b c => hs _ _ (by omega)) (fun z _ => hw _ (by omega) (by omega)), hn, hW.2.2.2.cg (fun j => hs _ _ (by omega)) (fun z _ _ => hw _ (by omega) (by omega))⟩, hY.cg (hw _ (by omega) (by omega)) (hw _ (by omega) (by omega)), hK.cg (fun k j a => hs _ _ (by omega)) (hσ _ _ (by omega)) (fun j => hσ _ _ (by omega))⟩,
    hI.cg (fun k j a => hs _ _ (by omega)) (hσ _ _ (by omega)) (fun j => hσ _ _ (by omega)), hR.cg (fun k j a => hs _ _ (by omega)) (fun j a => hσ _ _ (by omega)) (fun j => hσ _ _ (by omega)), ?_, ?_, ?_⟩
  · rw [hs _ _ (by omega)]; exact h2
  · rw [hs _ _ (by omega)]; exact h121
  · exact (hσ 15 0 (by omega)).trans h15
theorem RHa.add {h : Nat} {s s' : Mem} {W W' : Int → Int32} {c a : Int} (h0 : 0 ≤ c) (hm : c < 20) (H : ∀ i : Int, 0 ≤ i → i < c → ∃ a : Int, 0 ≤ a ∧ a ≤ 199 ∧ rd s (h + 2) i = zi a ∧ W (210 + i) = zi a) (a1 : 0 ≤ a) (a2 : a ≤ 199) (e0 : rd s' (h + 2) c = zi a) (w0 : W' (210 + c) = zi a) (f0 : ∀ i : Int, 0 ≤ i → i < c → rd s' (h + 2) i = rd s (h + 2) i) (ec : rI s' (h + 1) 3 = zi (c + 1)) (wc : W' 56 = zi (c + 1)) (ww : ∀ z : Int, 210 ≤ z → z < 210 + 1 * c → W' z = W z) : RHa h s' W' := by
  refine ⟨c + 1, by omega, by omega, ec, wc, fun i i1 i2 => ?_⟩
  by_cases hi : i = c
  · subst hi
    exact ⟨a, a1, a2, e0, w0⟩
  · obtain ⟨a, q0, q1, q2, q3⟩ := H i i1 (by omega)
    exact ⟨a, q0, q1, by rw [f0 i i1 (by omega)]; exact q2, by rw [ww _ (by omega) (by omega)]; exact q3⟩
theorem RHa.clr {h : Nat} {s' : Mem} {W' : Int → Int32} (ec : rI s' (h + 1) 3 = zi 0) (wc : W' 56 = zi 0) : RHa h s' W' := ⟨0, by omega, by omega, ec, wc, fun i i1 i2 => absurd i1 (by omega)⟩
theorem RHb.add {h : Nat} {s s' : Mem} {W W' : Int → Int32} {c a : Int} (h0 : 0 ≤ c) (hm : c < 10) (H : ∀ i : Int, 0 ≤ i → i < c → ∃ a : Int, 0 ≤ a ∧ a ≤ 199 ∧ rd s (h + 6) i = zi a ∧ W (230 + i) = zi a) (a1 : 0 ≤ a) (a2 : a ≤ 199) (e0 : rd s' (h + 6) c = zi a) (w0 : W' (230 + c) = zi a) (f0 : ∀ i : Int, 0 ≤ i → i < c → rd s' (h + 6) i = rd s (h + 6) i) (ec : rI s' (h + 5) 3 = zi (c + 1)) (wc : W' 57 = zi (c + 1)) (ww : ∀ z : Int, 230 ≤ z → z < 230 + 1 * c → W' z = W z) : RHb h s' W' := by
  refine ⟨c + 1, by omega, by omega, ec, wc, fun i i1 i2 => ?_⟩
  by_cases hi : i = c
  · subst hi
    exact ⟨a, a1, a2, e0, w0⟩
  · obtain ⟨a, q0, q1, q2, q3⟩ := H i i1 (by omega)
    exact ⟨a, q0, q1, by rw [f0 i i1 (by omega)]; exact q2, by rw [ww _ (by omega) (by omega)]; exact q3⟩
theorem RHb.clr {h : Nat} {s' : Mem} {W' : Int → Int32} (ec : rI s' (h + 5) 3 = zi 0) (wc : W' 57 = zi 0) : RHb h s' W' := ⟨0, by omega, by omega, ec, wc, fun i i1 i2 => absurd i1 (by omega)⟩
theorem RHc.add {h : Nat} {s s' : Mem} {W W' : Int → Int32} {c a b d : Int} (h0 : 0 ≤ c) (hm : c < 16) (H : ∀ i : Int, 0 ≤ i → i < c → ∃ a b d : Int, 0 ≤ a ∧ a ≤ 9 ∧ 0 ≤ b ∧ b ≤ 9 ∧ 0 ≤ d ∧ d ≤ 199 ∧ rd s (h + 10) i = zi a ∧ W (240 + 3 * i) = zi a ∧ rd s (h + 11) i = zi b ∧ W (240 + 3 * i + 1) = zi b ∧ rd s (h + 12) i = zi d ∧ W (240 + 3 * i + 2) = zi d) (a1 : 0 ≤ a) (a2 : a ≤ 9) (e0 : rd s' (h + 10) c = zi a) (w0 : W' (240 + 3 * c) = zi a) (f0 : ∀ i : Int, 0 ≤ i → i < c → rd s' (h + 10) i = rd s (h + 10) i) (b1 : 0 ≤ b) (b2 : b ≤ 9) (e1 : rd s' (h + 11) c = zi b) (w1 : W' (240 + 3 * c + 1) = zi b) (f1 : ∀ i : Int, 0 ≤ i → i < c → rd s' (h + 11) i = rd s (h + 11) i) (d1 : 0 ≤ d) (d2 : d ≤ 199) (e2 : rd s' (h + 12) c = zi d) (w2 : W' (240 + 3 * c + 2) = zi d) (f2 : ∀ i : Int, 0 ≤ i → i < c → rd s' (h + 12) i = rd s (h + 12) i) (ec : rI s' (h + 9) 3 = zi (c + 1)) (wc : W' 58 = zi (c + 1)) (ww : ∀ z : Int, 240 ≤ z → z < 240 + 3 * c → W' z = W z) : RHc h s' W' := by
  refine ⟨c + 1, by omega, by omega, ec, wc, fun i i1 i2 => ?_⟩
  by_cases hi : i = c
  · subst hi
    exact ⟨a, b, d, a1, a2, b1, b2, d1, d2, e0, w0, e1, w1, e2, w2⟩
  · obtain ⟨a, b, d, q0, q1, q2, q3, q4, q5, q6, q7, q8, q9, q10, q11⟩ := H i i1 (by omega)
    exact ⟨a, b, d, q0, q1, q2, q3, q4, q5, by rw [f0 i i1 (by omega)]; exact q6, by rw [ww _ (by omega) (by omega)]; exact q7, by rw [f1 i i1 (by omega)]; exact q8, by rw [ww _ (by omega) (by omega)]; exact q9, by rw [f2 i i1 (by omega)]; exact q10, by rw [ww _ (by omega) (by omega)]; exact q11⟩
theorem RHc.clr {h : Nat} {s' : Mem} {W' : Int → Int32} (ec : rI s' (h + 9) 3 = zi 0) (wc : W' 58 = zi 0) : RHc h s' W' := ⟨0, by omega, by omega, ec, wc, fun i i1 i2 => absurd i1 (by omega)⟩
theorem RHd.add {h : Nat} {s s' : Mem} {W W' : Int → Int32} {c a b : Int} (h0 : 0 ≤ c) (hm : c < 12) (H : ∀ i : Int, 0 ≤ i → i < c → ∃ a b : Int, 0 ≤ a ∧ a ≤ 11 ∧ 0 ≤ b ∧ b ≤ 200 ∧ rd s (h + 14) i = zi a ∧ W (288 + 2 * i) = zi a ∧ rd s (h + 15) i = zi b ∧ W (288 + 2 * i + 1) = zi b) (a1 : 0 ≤ a) (a2 : a ≤ 11) (e0 : rd s' (h + 14) c = zi a) (w0 : W' (288 + 2 * c) = zi a) (f0 : ∀ i : Int, 0 ≤ i → i < c → rd s' (h + 14) i = rd s (h + 14) i) (b1 : 0 ≤ b) (b2 : b ≤ 200) (e1 : rd s' (h + 15) c = zi b) (w1 : W' (288 + 2 * c + 1) = zi b) (f1 : ∀ i : Int, 0 ≤ i → i < c → rd s' (h + 15) i = rd s (h + 15) i) (ec : rI s' (h + 13) 3 = zi (c + 1)) (wc : W' 59 = zi (c + 1)) (ww : ∀ z : Int, 288 ≤ z → z < 288 + 2 * c → W' z = W z) : RHd h s' W' := by
  refine ⟨c + 1, by omega, by omega, ec, wc, fun i i1 i2 => ?_⟩
  by_cases hi : i = c
  · subst hi
    exact ⟨a, b, a1, a2, b1, b2, e0, w0, e1, w1⟩
  · obtain ⟨a, b, q0, q1, q2, q3, q4, q5, q6, q7⟩ := H i i1 (by omega)
    exact ⟨a, b, q0, q1, q2, q3, by rw [f0 i i1 (by omega)]; exact q4, by rw [ww _ (by omega) (by omega)]; exact q5, by rw [f1 i i1 (by omega)]; exact q6, by rw [ww _ (by omega) (by omega)]; exact q7⟩
theorem RHd.clr {h : Nat} {s' : Mem} {W' : Int → Int32} (ec : rI s' (h + 13) 3 = zi 0) (wc : W' 59 = zi 0) : RHd h s' W' := ⟨0, by omega, by omega, ec, wc, fun i i1 i2 => absurd i1 (by omega)⟩
theorem RHe.add {h : Nat} {s s' : Mem} {W W' : Int → Int32} {c a b : Int} (h0 : 0 ≤ c) (hm : c < 10) (H : ∀ i : Int, 0 ≤ i → i < c → ∃ a b : Int, 0 ≤ a ∧ a ≤ 99 ∧ 0 ≤ b ∧ b ≤ 9 ∧ rd s (h + 18) i = zi a ∧ W (312 + 2 * i) = zi a ∧ rd s (h + 19) i = zi b ∧ W (312 + 2 * i + 1) = zi b) (a1 : 0 ≤ a) (a2 : a ≤ 99) (e0 : rd s' (h + 18) c = zi a) (w0 : W' (312 + 2 * c) = zi a) (f0 : ∀ i : Int, 0 ≤ i → i < c → rd s' (h + 18) i = rd s (h + 18) i) (b1 : 0 ≤ b) (b2 : b ≤ 9) (e1 : rd s' (h + 19) c = zi b) (w1 : W' (312 + 2 * c + 1) = zi b) (f1 : ∀ i : Int, 0 ≤ i → i < c → rd s' (h + 19) i = rd s (h + 19) i) (ec : rI s' (h + 17) 3 = zi (c + 1)) (wc : W' 60 = zi (c + 1)) (ww : ∀ z : Int, 312 ≤ z → z < 312 + 2 * c → W' z = W z) : RHe h s' W' := by
  refine ⟨c + 1, by omega, by omega, ec, wc, fun i i1 i2 => ?_⟩
  by_cases hi : i = c
  · subst hi
    exact ⟨a, b, a1, a2, b1, b2, e0, w0, e1, w1⟩
  · obtain ⟨a, b, q0, q1, q2, q3, q4, q5, q6, q7⟩ := H i i1 (by omega)
    exact ⟨a, b, q0, q1, q2, q3, by rw [f0 i i1 (by omega)]; exact q4, by rw [ww _ (by omega) (by omega)]; exact q5, by rw [f1 i i1 (by omega)]; exact q6, by rw [ww _ (by omega) (by omega)]; exact q7⟩
theorem RHe.clr {h : Nat} {s' : Mem} {W' : Int → Int32} (ec : rI s' (h + 17) 3 = zi 0) (wc : W' 60 = zi 0) : RHe h s' W' := ⟨0, by omega, by omega, ec, wc, fun i i1 i2 => absurd i1 (by omega)⟩
theorem RHf.add {h : Nat} {s s' : Mem} {W W' : Int → Int32} {c a : Int} (h0 : 0 ≤ c) (hm : c < 8) (H : ∀ i : Int, 0 ≤ i → i < c → ∃ a : Int, 1 ≤ a ∧ a ≤ 99 ∧ rd s (h + 22) i = zi a ∧ W (332 + i) = zi a) (a1 : 1 ≤ a) (a2 : a ≤ 99) (e0 : rd s' (h + 22) c = zi a) (w0 : W' (332 + c) = zi a) (f0 : ∀ i : Int, 0 ≤ i → i < c → rd s' (h + 22) i = rd s (h + 22) i) (ec : rI s' (h + 21) 3 = zi (c + 1)) (wc : W' 61 = zi (c + 1)) (ww : ∀ z : Int, 332 ≤ z → z < 332 + 1 * c → W' z = W z) : RHf h s' W' := by
  refine ⟨c + 1, by omega, by omega, ec, wc, fun i i1 i2 => ?_⟩
  by_cases hi : i = c
  · subst hi
    exact ⟨a, a1, a2, e0, w0⟩
  · obtain ⟨a, q0, q1, q2, q3⟩ := H i i1 (by omega)
    exact ⟨a, q0, q1, by rw [f0 i i1 (by omega)]; exact q2, by rw [ww _ (by omega) (by omega)]; exact q3⟩
theorem RHf.clr {h : Nat} {s' : Mem} {W' : Int → Int32} (ec : rI s' (h + 21) 3 = zi 0) (wc : W' 61 = zi 0) : RHf h s' W' := ⟨0, by omega, by omega, ec, wc, fun i i1 i2 => absurd i1 (by omega)⟩
theorem RTd.add {h : Nat} {s s' : Mem} {W W' : Int → Int32} {c a b d : Int} (h0 : 0 ≤ c) (hm : c < 16) (H : ∀ i : Int, 0 ≤ i → i < c → ∃ a b d : Int, 0 ≤ a ∧ a ≤ 999 ∧ 0 ≤ b ∧ b ≤ 5 ∧ 0 ≤ d ∧ d ≤ 99 ∧ rd s (h + 12) i = zi a ∧ W (98 + 3 * i) = zi a ∧ rd s (h + 13) i = zi b ∧ W (98 + 3 * i + 1) = zi b ∧ rd s (h + 14) i = zi d ∧ W (98 + 3 * i + 2) = zi d) (a1 : 0 ≤ a) (a2 : a ≤ 999) (e0 : rd s' (h + 12) c = zi a) (w0 : W' (98 + 3 * c) = zi a) (f0 : ∀ i : Int, 0 ≤ i → i < c → rd s' (h + 12) i = rd s (h + 12) i) (b1 : 0 ≤ b) (b2 : b ≤ 5) (e1 : rd s' (h + 13) c = zi b) (w1 : W' (98 + 3 * c + 1) = zi b) (f1 : ∀ i : Int, 0 ≤ i → i < c → rd s' (h + 13) i = rd s (h + 13) i) (d1 : 0 ≤ d) (d2 : d ≤ 99) (e2 : rd s' (h + 14) c = zi d) (w2 : W' (98 + 3 * c + 2) = zi d) (f2 : ∀ i : Int, 0 ≤ i → i < c → rd s' (h + 14) i = rd s (h + 14) i) (ec : rI s' (h + 11) 3 = zi (c + 1)) (wc : W' 53 = zi (c + 1)) (ww : ∀ z : Int, 98 ≤ z → z < 98 + 3 * c → W' z = W z) : RTd h s' W' := by
  refine ⟨c + 1, by omega, by omega, ec, wc, fun i i1 i2 => ?_⟩
  by_cases hi : i = c
  · subst hi
    exact ⟨a, b, d, a1, a2, b1, b2, d1, d2, e0, w0, e1, w1, e2, w2⟩
  · obtain ⟨a, b, d, q0, q1, q2, q3, q4, q5, q6, q7, q8, q9, q10, q11⟩ := H i i1 (by omega)
    exact ⟨a, b, d, q0, q1, q2, q3, q4, q5, by rw [f0 i i1 (by omega)]; exact q6, by rw [ww _ (by omega) (by omega)]; exact q7, by rw [f1 i i1 (by omega)]; exact q8, by rw [ww _ (by omega) (by omega)]; exact q9, by rw [f2 i i1 (by omega)]; exact q10, by rw [ww _ (by omega) (by omega)]; exact q11⟩
theorem RTd.clr {h : Nat} {s' : Mem} {W' : Int → Int32} (ec : rI s' (h + 11) 3 = zi 0) (wc : W' 53 = zi 0) : RTd h s' W' := ⟨0, by omega, by omega, ec, wc, fun i i1 i2 => absurd i1 (by omega)⟩
theorem RTq.add {h : Nat} {s s' : Mem} {W W' : Int → Int32} {c a b : Int} (h0 : 0 ≤ c) (hm : c < 16) (H : ∀ i : Int, 0 ≤ i → i < c → ∃ a b : Int, 0 ≤ a ∧ a ≤ 2 ∧ 0 ≤ b ∧ b ≤ 199 ∧ rd s (h + 16) i = zi a ∧ W (146 + 2 * i) = zi (10 + a) ∧ rd s (h + 17) i = zi b ∧ W (146 + 2 * i + 1) = zi b) (a1 : 0 ≤ a) (a2 : a ≤ 2) (e0 : rd s' (h + 16) c = zi a) (w0 : W' (146 + 2 * c) = zi (10 + a)) (f0 : ∀ i : Int, 0 ≤ i → i < c → rd s' (h + 16) i = rd s (h + 16) i) (b1 : 0 ≤ b) (b2 : b ≤ 199) (e1 : rd s' (h + 17) c = zi b) (w1 : W' (146 + 2 * c + 1) = zi b) (f1 : ∀ i : Int, 0 ≤ i → i < c → rd s' (h + 17) i = rd s (h + 17) i) (ec : rI s' (h + 15) 3 = zi (c + 1)) (wc : W' 54 = zi (c + 1)) (ww : ∀ z : Int, 146 ≤ z → z < 146 + 2 * c → W' z = W z) : RTq h s' W' := by
  refine ⟨c + 1, by omega, by omega, ec, wc, fun i i1 i2 => ?_⟩
  by_cases hi : i = c
  · subst hi
    exact ⟨a, b, a1, a2, b1, b2, e0, w0, e1, w1⟩
  · obtain ⟨a, b, q0, q1, q2, q3, q4, q5, q6, q7⟩ := H i i1 (by omega)
    exact ⟨a, b, q0, q1, q2, q3, by rw [f0 i i1 (by omega)]; exact q4, by rw [ww _ (by omega) (by omega)]; exact q5, by rw [f1 i i1 (by omega)]; exact q6, by rw [ww _ (by omega) (by omega)]; exact q7⟩
theorem RTq.clr {h : Nat} {s' : Mem} {W' : Int → Int32} (ec : rI s' (h + 15) 3 = zi 0) (wc : W' 54 = zi 0) : RTq h s' W' := ⟨0, by omega, by omega, ec, wc, fun i i1 i2 => absurd i1 (by omega)⟩
theorem RTs.add {h : Nat} {s s' : Mem} {W W' : Int → Int32} {N : Int} {c a b : Int} (h0 : 0 ≤ c) (hm : c < 16) (H : ∀ i : Int, 0 ≤ i → i < c → ∃ a b : Int, 0 ≤ a ∧ a ≤ 999 ∧ 0 ≤ b ∧ b < N ∧ rd s (h + 20) i = zi a ∧ W (178 + 2 * i) = zi a ∧ rd s (h + 21) i = zi b ∧ W (178 + 2 * i + 1) = zi b) (a1 : 0 ≤ a) (a2 : a ≤ 999) (e0 : rd s' (h + 20) c = zi a) (w0 : W' (178 + 2 * c) = zi a) (f0 : ∀ i : Int, 0 ≤ i → i < c → rd s' (h + 20) i = rd s (h + 20) i) (b1 : 0 ≤ b) (b2 : b < N) (e1 : rd s' (h + 21) c = zi b) (w1 : W' (178 + 2 * c + 1) = zi b) (f1 : ∀ i : Int, 0 ≤ i → i < c → rd s' (h + 21) i = rd s (h + 21) i) (ec : rI s' (h + 19) 3 = zi (c + 1)) (wc : W' 55 = zi (c + 1)) (ww : ∀ z : Int, 178 ≤ z → z < 178 + 2 * c → W' z = W z) : RTs h s' W' N := by
  refine ⟨c + 1, by omega, by omega, ec, wc, fun i i1 i2 => ?_⟩
  by_cases hi : i = c
  · subst hi
    exact ⟨a, b, a1, a2, b1, b2, e0, w0, e1, w1⟩
  · obtain ⟨a, b, q0, q1, q2, q3, q4, q5, q6, q7⟩ := H i i1 (by omega)
    exact ⟨a, b, q0, q1, q2, q3, by rw [f0 i i1 (by omega)]; exact q4, by rw [ww _ (by omega) (by omega)]; exact q5, by rw [f1 i i1 (by omega)]; exact q6, by rw [ww _ (by omega) (by omega)]; exact q7⟩
theorem RTs.clr {h : Nat} {s' : Mem} {W' : Int → Int32} {N : Int} (ec : rI s' (h + 19) 3 = zi 0) (wc : W' 55 = zi 0) : RTs h s' W' N := ⟨0, by omega, by omega, ec, wc, fun i i1 i2 => absurd i1 (by omega)⟩
def QI (x y : Int32 × Mem) : Prop := x.1 = y.1 ∧ RC x.2 y.2
def QB (x y : Bool × Mem) : Prop := x.1 = y.1 ∧ RC x.2 y.2
theorem RC.h {s σ : Mem} (R : RC s σ) : RH 30 s (rd σ 1) := by
  obtain ⟨⟨N, hW, _⟩, _⟩ := R
  exact hW.2.2.1
/-- the pier, THE BOOK and what can be undone were touched -/
theorem RC.go {s s' σ σ' : Mem} {N : Int} (hW : RW 1 s (rd σ 1) N) (h : RC s σ)
    (hs : ∀ k j : Nat, k = 0 ∨ (7 ≤ k ∧ k ≤ 57 ∧ k ≠ 17) ∨ (62 ≤ k ∧ k ≤ 120 ∧ k ≠ 77 ∧ k ≠ 118) ∨ k = 161 ∨ (k = 160 ∧ (j = 6 ∨ j = 10 ∨ j = 11)) ∨ (k = 2 ∧ j = 0) ∨ (k = 121 ∧ j = 0) → rI s' k j = rI s k j)
    (hσ : ∀ k j : Nat, k = 2 ∨ k = 8 ∨ (k = 15 ∧ j = 0) ∨ (k = 0 ∧ (j = 5 ∨ j = 16 ∨ j = 23 ∨ j = 25)) → rI σ' k j = rI σ k j)
    (hw : ∀ z : Int, (49 ≤ z ∧ z < 366) ∨ (966 ≤ z ∧ z < 1850) → rd σ' 1 z = rd σ 1 z)
    (hP : RP 2 s' (rd σ' 1) N) (hB : RB 59 s' (rd σ' 1)) (hY : RY (rd σ' 1)) (hK : RK s' σ' N) : RC s' σ' := by
  obtain ⟨-, hI, hR, h2, h121, h15⟩ := h
  obtain ⟨w1, w2, w3, w4⟩ := hW
  refine ⟨⟨N, ⟨hP, w2.cg (fun k j a b c => hs _ _ (by omega)) (fun z hz => hw z (by omega)), w3.cg (fun k j a b => hs _ _ (by omega)) (fun z hz => hw z (by omega)), hB⟩, hY, hK⟩, hI.cg (fun k j a => hs _ _ (by omega)) (hσ _ _ (by omega)) (fun j => hσ _ _ (by omega)), hR.cg (fun k j a => hs _ _ (by omega)) (fun j a => hσ _ _ (by omega)) (fun j => hσ _ _ (by omega)), ?_, ?_, ?_⟩
  · rw [hs _ _ (by omega)]; exact h2
  · rw [hs _ _ (by omega)]; exact h121
  · exact (hσ 15 0 (by omega)).trans h15
theorem RK.fg {s s' σ σ' : Mem} {N N' : Int} (h : RK s σ N) (h1 : rI s' 128 1 = rI s 128 1) (h2 : rI s' 128 2 = zi 0) (h3 : rI σ' 0 4 = zi 0) : RK s' σ' N' := by
  obtain ⟨c, v, a1, a2, a3, a4, a5, a6, a7, hj⟩ := h
  exact ⟨0, v, by omega, by omega, a3, a4, h2, h3, h1.trans a7, fun j j1 j2 => absurd j1 (by omega)⟩
