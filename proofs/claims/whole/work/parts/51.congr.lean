/-! the relation: what does not change; a session's own step -/
def r_xE (σ σ' : r_M) (i : Nat) : Prop := ∀ k j, 11 ≤ k → σ' (k, i, j) = σ (k, i, j)
def r_mE (μ μ' : r_M) (i : Nat) : Prop := ((μ' (1, 11, 0) i = μ (1, 11, 0) i ∧ μ' (1, 12, 0) i = μ (1, 12, 0) i ∧ μ' (2, 13, 0) i = μ (2, 13, 0) i ∧ μ' (1, 14, 0) i = μ (1, 14, 0) i ∧ μ' (1, 15, 0) i = μ (1, 15, 0) i) ∧ μ' (1, 18, 0) i = μ (1, 18, 0) i ∧ μ' (1, 20, 0) i = μ (1, 20, 0) i ∧ μ' (1, 24, 0) i = μ (1, 24, 0) i) ∧
  (∀ j, j < 5 → μ' (1, 16, 0) (5 * i + j) = μ (1, 16, 0) (5 * i + j)) ∧ (∀ j n, j < 5 → n < 100 → μ' (1, 17, 0) (100 * (5 * i + j) + n) = μ (1, 17, 0) (100 * (5 * i + j) + n)) ∧
  (∀ n, n < 100 → μ' (1, 19, 0) (100 * i + n) = μ (1, 19, 0) (100 * i + n) ∧ μ' (1, 21, 0) (100 * i + n) = μ (1, 21, 0) (100 * i + n) ∧ μ' (1, 22, 0) (100 * i + n) = μ (1, 22, 0) (100 * i + n) ∧ μ' (1, 23, 0) (100 * i + n) = μ (1, 23, 0) (100 * i + n)) ∧
  (∀ n, n < 20 → μ' (1, 25, 0) (20 * i + n) = μ (1, 25, 0) (20 * i + n) ∧ μ' (1, 26, 0) (20 * i + n) = μ (1, 26, 0) (20 * i + n))
theorem r_mE.rfl' {μ : r_M} {i : Nat} : r_mE μ μ i := ⟨⟨⟨rfl, rfl, rfl, rfl, rfl⟩, rfl, rfl, rfl⟩, fun _ _ => rfl, fun _ _ _ _ => rfl, fun _ _ => ⟨rfl, rfl, rfl, rfl⟩, fun _ _ => ⟨rfl, rfl⟩⟩
theorem r_mE.trans {μ μ1 μ2 : r_M} {i : Nat} (h1 : r_mE μ μ1 i) (h2 : r_mE μ1 μ2 i) : r_mE μ μ2 i := by
  obtain ⟨⟨⟨a1, a2, a3, a4, a5⟩, a6, a7, a8⟩, a9, a10, a11, a12⟩ := h1
  obtain ⟨⟨⟨b1, b2, b3, b4, b5⟩, b6, b7, b8⟩, b9, b10, b11, b12⟩ := h2
  exact ⟨⟨⟨b1.trans a1, b2.trans a2, b3.trans a3, b4.trans a4, b5.trans a5⟩, b6.trans a6, b7.trans a7, b8.trans a8⟩, fun j hj => (b9 j hj).trans (a9 j hj), fun j n hj hn => (b10 j n hj hn).trans (a10 j n hj hn), fun n hn => ⟨(b11 n hn).1.trans (a11 n hn).1, (b11 n hn).2.1.trans (a11 n hn).2.1, (b11 n hn).2.2.1.trans (a11 n hn).2.2.1, (b11 n hn).2.2.2.trans (a11 n hn).2.2.2⟩, fun n hn => ⟨(b12 n hn).1.trans (a12 n hn).1, (b12 n hn).2.trans (a12 n hn).2⟩⟩
theorem r_T_congr {σ σ' μ μ' : r_M} {kn i j : Nat} (hj : j < 5) (h : r_T σ μ kn i j) (hx : r_xE σ σ' i) (h16 : μ' (1, 16, 0) (5 * i + j) = μ (1, 16, 0) (5 * i + j)) (h17 : ∀ n, n < 100 → μ' (1, 17, 0) (100 * (5 * i + j) + n) = μ (1, 17, 0) (100 * (5 * i + j) + n)) (hn : (μ (0, 0, 0) 1).toInt ≤ (μ' (0, 0, 0) 1).toInt) : r_T σ' μ' kn i j := by
  unfold r_T at h ⊢
  rw [hx 18 j (by omega), hx 19 j (by omega), h16]
  rcases h with ⟨a, b, c⟩ | h
  · refine Or.inl ⟨a, b, ?_⟩
    rcases c with ⟨c1, c2, c3⟩ | c
    · refine Or.inl ⟨c1, c2, fun n hn2 => ?_⟩
      obtain ⟨d1, d2, d3⟩ := c3 n hn2
      rw [h17 n (by omega)]
      exact ⟨d1, d2, by omega⟩
    · exact Or.inr c
  · exact Or.inr h
theorem r_P_congr {σ σ' μ μ' : r_M} {i : Nat} (h : r_P σ μ i) (hx : r_xE σ σ' i) (h18 : μ' (1, 18, 0) i = μ (1, 18, 0) i) (h20 : μ' (1, 20, 0) i = μ (1, 20, 0) i) (h19 : ∀ n, n < 100 → μ' (1, 19, 0) (100 * i + n) = μ (1, 19, 0) (100 * i + n) ∧ μ' (1, 21, 0) (100 * i + n) = μ (1, 21, 0) (100 * i + n) ∧ μ' (1, 22, 0) (100 * i + n) = μ (1, 22, 0) (100 * i + n) ∧ μ' (1, 23, 0) (100 * i + n) = μ (1, 23, 0) (100 * i + n)) : r_P σ' μ' i := by
  unfold r_P at h ⊢
  rw [hx 13 0 (by omega), hx 14 0 (by omega), hx 15 0 (by omega), hx 16 0 (by omega), h18, h20]
  obtain ⟨a, b, c, d, e⟩ := h
  refine ⟨a, b, c, fun n hn => ?_, fun g hg => ?_⟩
  · rw [(h19 n (by omega)).1]; exact d n hn
  · rw [(h19 g (by omega)).2.1, (h19 g (by omega)).2.2.1, (h19 g (by omega)).2.2.2]; exact e g hg
theorem r_Z_congr {σ σ' μ μ' : r_M} {i : Nat} (h : r_Z σ μ i) (hx : r_xE σ σ' i) (h24 : μ' (1, 24, 0) i = μ (1, 24, 0) i) (h25 : ∀ n, n < 20 → μ' (1, 25, 0) (20 * i + n) = μ (1, 25, 0) (20 * i + n) ∧ μ' (1, 26, 0) (20 * i + n) = μ (1, 26, 0) (20 * i + n)) : r_Z σ' μ' i := by
  unfold r_Z at h ⊢
  rw [hx 17 0 (by omega), hx 20 0 (by omega), hx 21 0 (by omega), h24]
  obtain ⟨a, b, c⟩ := h
  refine ⟨a, b, fun n hn => ?_⟩
  rw [(h25 n (by omega)).1, (h25 n (by omega)).2]; exact c n hn
theorem r_O_congr {σ σ' μ μ' : r_M} {kn i : Nat} (h : r_O σ μ kn i) (hx : r_xE σ σ' i) (hm : μ' (1, 11, 0) i = μ (1, 11, 0) i ∧ μ' (1, 12, 0) i = μ (1, 12, 0) i ∧ μ' (2, 13, 0) i = μ (2, 13, 0) i ∧ μ' (1, 14, 0) i = μ (1, 14, 0) i ∧ μ' (1, 15, 0) i = μ (1, 15, 0) i) : r_O σ' μ' kn i := by
  unfold r_O at h ⊢
  rw [hx 11 0 (by omega), hx 13 0 (by omega), hm.1, hm.2.1, hm.2.2.1, hm.2.2.2.1, hm.2.2.2.2]
  exact h
theorem r_S_congr {σ σ' μ μ' : r_M} {kn i : Nat} (h : r_S σ μ kn i) (hx : r_xE σ σ' i) (hm : r_mE μ μ' i) (hn : (μ (0, 0, 0) 1).toInt ≤ (μ' (0, 0, 0) 1).toInt) : r_S σ' μ' kn i :=
  ⟨r_O_congr h.1 hx hm.1.1, fun j hj => r_T_congr hj (h.2.1 j hj) hx (hm.2.1 j hj) (fun n h => hm.2.2.1 j n hj h) hn, r_P_congr h.2.2.1 hx hm.1.2.1 hm.1.2.2.1 hm.2.2.2.1, r_Z_congr h.2.2.2 hx hm.1.2.2.2 hm.2.2.2.2⟩
theorem r_U_congr {μ μ' : r_M} {i : Nat} (h : r_U μ i) (hm : r_mE μ μ' i) : r_U μ' i := by
  obtain ⟨a1, a2, a3, a4, a5, a6, a7⟩ := h
  exact ⟨hm.1.1.2.2.1.trans a1, hm.1.1.2.2.2.1.trans a2, hm.1.1.2.2.2.2.trans a3, fun j hj => (hm.2.1 j hj).trans (a4 j hj), hm.1.2.1.trans a5, hm.1.2.2.1.trans a6, hm.1.2.2.2.trans a7⟩
/-- the reference's rows that no session's call writes -/
def r_mG (μ μ' : r_M) : Prop := (μ' (0, 0, 0) 1 = μ (0, 0, 0) 1 ∧ μ' (0, 0, 0) 4 = μ (0, 0, 0) 4 ∧ μ' (0, 0, 0) 10 = μ (0, 0, 0) 10) ∧ (μ' (1, 2, 0) = μ (1, 2, 0) ∧ μ' (1, 3, 0) = μ (1, 3, 0)) ∧ μ' (1, 5, 0) = μ (1, 5, 0) ∧ μ' (1, 6, 0) = μ (1, 6, 0) ∧ μ' (1, 7, 0) = μ (1, 7, 0) ∧ μ' (1, 8, 0) = μ (1, 8, 0)
def r_xG (σ σ' : r_M) : Prop := ∀ k i j, k < 11 → σ' (k, i, j) = σ (k, i, j)
theorem r_mG.rfl' {μ : r_M} : r_mG μ μ := ⟨⟨rfl, rfl, rfl⟩, ⟨rfl, rfl⟩, rfl, rfl, rfl, rfl⟩
theorem r_mG.trans {μ μ1 μ2 : r_M} (h1 : r_mG μ μ1) (h2 : r_mG μ1 μ2) : r_mG μ μ2 := by
  obtain ⟨⟨a1, a2, a3⟩, ⟨a4, a5⟩, a6, a7, a8, a9⟩ := h1
  obtain ⟨⟨b1, b2, b3⟩, ⟨b4, b5⟩, b6, b7, b8, b9⟩ := h2
  exact ⟨⟨b1.trans a1, b2.trans a2, b3.trans a3⟩, ⟨b4.trans a4, b5.trans a5⟩, b6.trans a6, b7.trans a7, b8.trans a8, b9.trans a9⟩
theorem rel_op {ns : Nat} {kk : Nat → Nat} {σ σ' μ μ' : r_M} (h : rel ns kk σ μ) {s : Nat} (hxG : r_xG σ σ') (hmG : r_mG μ μ') (hx : ∀ i, i ≠ s → r_xE σ σ' i) (hm : ∀ i, i < 8 → i ≠ s → r_mE μ μ' i) (hs : s < ns) (hS : r_S σ' μ' (kk s) s) (hB : r_B μ') : rel ns kk σ' μ' := by
  obtain ⟨hR, hQ, hN, hSS, hU, -⟩ := h
  obtain ⟨⟨g1, g4, g10⟩, ⟨g2, g3⟩, g5, g6, g7, g8⟩ := hmG
  have h8 : ns ≤ 8 := hN.2.2
  refine ⟨?_, ?_, ?_, fun i hi => ?_, fun i h1 h2 => r_U_congr (hU i h1 h2) (hm i h2 (by omega)), hB⟩
  · unfold r_R at hR ⊢
    rw [g1, g2, g3, hxG 1 0 0 (by omega), hxG 3 0 0 (by omega)]
    refine ⟨hR.1, hR.2.1, hR.2.2.1, fun r x h1 h2 => ?_⟩
    rw [hxG 10 x 0 (by omega)]
    exact hR.2.2.2 r x h1 h2
  · unfold r_Q r_Q1 at hQ ⊢
    rw [g4, g5, g6, g7, g8, hxG 2 0 0 (by omega), hxG 5 0 0 (by omega), hxG 6 0 0 (by omega), hxG 7 0 0 (by omega), hxG 8 0 0 (by omega)]
    exact hQ
  · unfold r_N at hN ⊢
    rw [g10, hxG 0 0 0 (by omega)]
    exact hN
  · by_cases e : i = s
    · subst e; exact hS
    · exact r_S_congr (hSS i hi) (hx i e) (hm i (by omega) e) (by rw [g1]; exact Int.le_refl _)
