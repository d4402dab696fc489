/-! records, terms, questions, sessions, the start -/
theorem rel_glob {ns : Nat} {kk : Nat → Nat} {σ σ' μ μ' : r_M} (h : rel ns kk σ μ) (hx : ∀ i, r_xE σ σ' i) (hm : ∀ k, 11 ≤ k → μ' (1, k, 0) = μ (1, k, 0)) (h13 : μ' (2, 13, 0) = μ (2, 13, 0)) (hR : r_R σ' μ') (hQ : r_Q σ' μ') (hN : r_N ns σ' μ') (hn : (μ (0, 0, 0) 1).toInt ≤ (μ' (0, 0, 0) 1).toInt) : rel ns kk σ' μ' := by
  have hE : ∀ i, r_mE μ μ' i := fun i => by
    refine ⟨⟨⟨?_, ?_, ?_, ?_, ?_⟩, ?_, ?_, ?_⟩, fun j hj => ?_, fun j n hj hn => ?_, fun n hn => ⟨?_, ?_, ?_, ?_⟩, fun n hn => ⟨?_, ?_⟩⟩
    case refine_3 => rw [h13]
    all_goals rw [hm _ (by omega)]
  refine ⟨hR, hQ, hN, fun i hi => r_S_congr (h.2.2.2.1 i hi) (hx i) (hE i) hn, fun i h1 h2 => r_U_congr (h.2.2.2.2.1 i h1 h2) (hE i), ?_⟩
  unfold r_B
  rw [hm 16 (by omega), hm 17 (by omega)]
  exact h.2.2.2.2.2
section RF
variable {ns : Nat} {kk : Nat → Nat} {σ μ : r_M}
theorem r_record (h : rel ns kk σ μ) (z : Int32) : x_addR σ z = m_addR μ z ∧ rel ns kk (x_addM σ z) (m_addM μ z) := by
  obtain ⟨e1, e2, e3, e4⟩ := h.1
  unfold x_addR m_addR x_addM m_addM
  rw [e1, g_cl]
  by_cases hc : z.toInt < 1 ∨ 200 < z.toInt ∨ 100 ≤ (μ (0, 0, 0) 1).toInt
  · have hc2 : ¬ ((1 ≤ z.toInt ∧ z.toInt ≤ 200) ∧ ¬ (μ (0, 0, 0) 1).toInt = 100) := by omega
    rw [if_pos hc, if_neg hc2, if_pos hc, if_neg hc2]
    exact ⟨rfl, h⟩
  · have hc2 : (1 ≤ z.toInt ∧ z.toInt ≤ 200) ∧ ¬ (μ (0, 0, 0) 1).toInt = 100 := by omega
    rw [if_neg hc, if_pos hc2, if_neg hc, if_pos hc2]
    refine ⟨rfl, ?_⟩
    have z1 : (1 : Int32).toInt = 1 := rfl
    have en : (μ (0, 0, 0) 1 + 1).toInt = (μ (0, 0, 0) 1).toInt + 1 := by rw [g_addI (by omega) (by omega), z1]
    obtain ⟨n, hn⟩ : ∃ n : Nat, (μ (0, 0, 0) 1).toInt = (n : Int) := ⟨(μ (0, 0, 0) 1).toInt.toNat, by omega⟩
    rw [show (μ (0, 0, 0) 1).toInt.toNat = n by omega, show (5 * (μ (0, 0, 0) 1).toInt + 0).toNat = 5 * n by omega, show (5 * (μ (0, 0, 0) 1).toInt + 1).toNat = 5 * n + 1 by omega, show (5 * (μ (0, 0, 0) 1).toInt + 2).toNat = 5 * n + 2 by omega, show (5 * (μ (0, 0, 0) 1).toInt + 3).toNat = 5 * n + 3 by omega, show (5 * (μ (0, 0, 0) 1).toInt + 4).toNat = 5 * n + 4 by omega]
    refine rel_glob h (fun i k j hk => ?_) (fun k hk => ?_) ?_ ?_ ?_ ?_ ?_
    · rw [g_up_row (by simp; omega), g_up_row (by simp; omega), g_up_row (by simp; omega), g_up_row (by simp; omega), g_up_row (by simp; omega), g_up_row (by simp; omega), g_up_row (by simp; omega)]
    · rw [g_up_row (by simp), g_up_row (by simp; omega), g_up_row (by simp; omega), g_up_row (by simp; omega), g_up_row (by simp; omega), g_up_row (by simp; omega), g_up_row (by simp; omega)]
    · rw [g_up_row (by simp), g_up_row (by simp), g_up_row (by simp), g_up_row (by simp), g_up_row (by simp), g_up_row (by simp), g_up_row (by simp)]
    · unfold r_R
      rw [g_up_same, g_up_same, en]
      refine ⟨rfl, by omega, fun r hr => ?_, fun r x hr hx => ?_⟩
      · rw [g_up_row (by simp), g_up_row (by simp), g_up_row (by simp), g_up_row (by simp), g_up_row (by simp), g_up_row (by simp), g_up_at, if_pos rfl]
        rw [g_up_row (by simp), g_up_row (by simp), g_up_row (by simp), g_up_row (by simp), g_up_row (by simp), g_up_row (by simp), g_up_at, if_pos rfl]
        by_cases e : r = n
        · rw [if_pos e, if_pos e]; exact ⟨rfl, hc2.1⟩
        · rw [if_neg e, if_neg e]; exact e3 r (by omega)
      · have hxs : ∀ v : Int32, (g_up (g_up (g_up (g_up (g_up (g_up (g_up σ (3, 0, 0) n z) (10, 0, 0) n (-1)) (10, 1, 0) n (-1)) (10, 2, 0) n (-1)) (10, 3, 0) n (-1)) (10, 4, 0) n (-1)) (1, 0, 0) 2 v) (10, x, 0) r = if r = n then -1 else σ (10, x, 0) r := fun v => by
          simp only [g_up_at]
          rcases (show x = 0 ∨ x = 1 ∨ x = 2 ∨ x = 3 ∨ x = 4 by omega) with rfl | rfl | rfl | rfl | rfl <;> simp
        have hms : ∀ v : Int32, (g_up (g_up (g_up (g_up (g_up (g_up (g_up μ (1, 2, 0) n z) (1, 3, 0) (5 * n) (-1)) (1, 3, 0) (5 * n + 1) (-1)) (1, 3, 0) (5 * n + 2) (-1)) (1, 3, 0) (5 * n + 3) (-1)) (1, 3, 0) (5 * n + 4) (-1)) (0, 0, 0) 1 v) (1, 3, 0) (5 * r + x) = if r = n then -1 else μ (1, 3, 0) (5 * r + x) := fun v => by
          simp only [g_up_at]
          by_cases e : r = n
          · subst e
            rw [if_pos rfl]
            rcases (show x = 0 ∨ x = 1 ∨ x = 2 ∨ x = 3 ∨ x = 4 by omega) with rfl | rfl | rfl | rfl | rfl <;> simp
          · rw [if_neg e]
            simp [show ¬ 5 * r + x = 5 * n by omega, show ¬ 5 * r + x = 5 * n + 1 by omega, show ¬ 5 * r + x = 5 * n + 2 by omega, show ¬ 5 * r + x = 5 * n + 3 by omega, show ¬ 5 * r + x = 5 * n + 4 by omega]
        rw [hxs, hms]
        by_cases e : r = n
        · rw [if_pos e, if_pos e]; exact ⟨rfl, by decide⟩
        · rw [if_neg e, if_neg e]; exact e4 r x (by omega) hx
    · have hQ := h.2.1
      have x1 : ∀ k : Nat, k ≠ 1 → k ≠ 3 → k ≠ 10 → ∀ v : Int32, (g_up (g_up (g_up (g_up (g_up (g_up (g_up σ (3, 0, 0) n z) (10, 0, 0) n (-1)) (10, 1, 0) n (-1)) (10, 2, 0) n (-1)) (10, 3, 0) n (-1)) (10, 4, 0) n (-1)) (1, 0, 0) 2 v) (k, 0, 0) = σ (k, 0, 0) := fun k h1 h2 h3 v => by
        rw [g_up_row (by simp [h1]), g_up_row (by simp), g_up_row (by simp), g_up_row (by simp), g_up_row (by simp), g_up_row (by simp [h3]), g_up_row (by simp [h2])]
      have m1 : ∀ k : Nat, k ≠ 2 → k ≠ 3 → ∀ v : Int32, (g_up (g_up (g_up (g_up (g_up (g_up (g_up μ (1, 2, 0) n z) (1, 3, 0) (5 * n) (-1)) (1, 3, 0) (5 * n + 1) (-1)) (1, 3, 0) (5 * n + 2) (-1)) (1, 3, 0) (5 * n + 3) (-1)) (1, 3, 0) (5 * n + 4) (-1)) (0, 0, 0) 1 v) (1, k, 0) = μ (1, k, 0) := fun k h1 h2 v => by
        rw [g_up_row (by simp), g_up_row (by simp [h2]), g_up_row (by simp [h2]), g_up_row (by simp [h2]), g_up_row (by simp [h2]), g_up_row (by simp [h2]), g_up_row (by simp [h1])]
      have m4 : ∀ v : Int32, (g_up (g_up (g_up (g_up (g_up (g_up (g_up μ (1, 2, 0) n z) (1, 3, 0) (5 * n) (-1)) (1, 3, 0) (5 * n + 1) (-1)) (1, 3, 0) (5 * n + 2) (-1)) (1, 3, 0) (5 * n + 3) (-1)) (1, 3, 0) (5 * n + 4) (-1)) (0, 0, 0) 1 v) (0, 0, 0) 4 = μ (0, 0, 0) 4 := fun v => by simp [g_up_at]
      unfold r_Q r_Q1 at hQ ⊢
      rw [x1 2 (by omega) (by omega) (by omega), x1 5 (by omega) (by omega) (by omega), x1 6 (by omega) (by omega) (by omega), x1 7 (by omega) (by omega) (by omega), x1 8 (by omega) (by omega) (by omega), m1 5 (by omega) (by omega), m1 6 (by omega) (by omega), m1 7 (by omega) (by omega), m1 8 (by omega) (by omega), m4]
      exact hQ
    · have hN := h.2.2.1
      unfold r_N at hN ⊢
      rw [show (g_up (g_up (g_up (g_up (g_up (g_up (g_up μ (1, 2, 0) n z) (1, 3, 0) (5 * n) (-1)) (1, 3, 0) (5 * n + 1) (-1)) (1, 3, 0) (5 * n + 2) (-1)) (1, 3, 0) (5 * n + 3) (-1)) (1, 3, 0) (5 * n + 4) (-1)) (0, 0, 0) 1 (μ (0, 0, 0) 1 + 1)) (0, 0, 0) 10 = μ (0, 0, 0) 10 by simp [g_up_at]]
      rw [g_up_row (by simp), g_up_row (by simp), g_up_row (by simp), g_up_row (by simp), g_up_row (by simp), g_up_row (by simp), g_up_row (by simp)]
      exact hN
    · rw [g_up_same, en]; omega
theorem r_term (h : rel ns kk σ μ) (p x v : Int32) : x_putR σ p x v = m_putR μ p x v ∧ rel ns kk (x_putM σ p x v) (m_putM μ p x v) := by
  obtain ⟨e1, e2, e3, e4⟩ := h.1
  unfold x_putR m_putR x_putM m_putM
  rw [e1, g_cl, g_cl]
  by_cases hc : (0 ≤ p.toInt ∧ p.toInt < (μ (0, 0, 0) 1).toInt) ∧ (0 ≤ x.toInt ∧ x.toInt < 5) ∧ (v.toInt = -1 ∨ (0 ≤ v.toInt ∧ v.toInt ≤ 999))
  · have hc2 : (0 ≤ p.toInt ∧ p.toInt ≤ (μ (0, 0, 0) 1).toInt - 1) ∧ (0 ≤ x.toInt ∧ x.toInt ≤ 4) ∧ (-1 ≤ v.toInt ∧ v.toInt ≤ 999) := by omega
    rw [if_pos hc, if_pos hc2, if_pos hc, if_pos hc2]
    refine ⟨rfl, ?_⟩
    rw [show (5 * p.toInt + x.toInt).toNat = 5 * p.toInt.toNat + x.toInt.toNat by omega]
    have hx5 : x.toInt.toNat < 5 := by omega
    have hpn : (p.toInt.toNat : Int) < (μ (0, 0, 0) 1).toInt := by omega
    generalize p.toInt.toNat = r0 at *
    generalize x.toInt.toNat = x0 at *
    refine rel_glob h (fun i k j hk => g_up_row (by simp; omega)) (fun k hk => g_up_row (by simp; omega)) (g_up_row (by simp)) ?_ ?_ ?_ ?_
    · unfold r_R
      rw [g_up_row (σ := σ) (by simp), g_up_row (σ := σ) (by simp), g_up_row (σ := μ) (by simp), g_up_row (σ := μ) (by simp)]
      refine ⟨e1, e2, e3, fun r y hr hy => ?_⟩
      rw [g_up_at, g_up_at, if_pos rfl]
      by_cases ey : y = x0
      · subst ey
        rw [if_pos rfl]
        by_cases er : r = r0
        · subst er
          rw [if_pos rfl, if_pos rfl]; exact ⟨rfl, hc2.2.2⟩
        · rw [if_neg er, if_neg (by omega)]; exact e4 r y hr hy
      · rw [if_neg (by simp [ey]), if_neg (by omega)]; exact e4 r y hr hy
    · have hQ := h.2.1
      unfold r_Q r_Q1 at hQ ⊢
      rw [g_up_row (σ := σ) (by simp), g_up_row (σ := σ) (by simp), g_up_row (σ := σ) (by simp), g_up_row (σ := σ) (by simp), g_up_row (σ := σ) (by simp), g_up_row (σ := μ) (by simp), g_up_row (σ := μ) (by simp), g_up_row (σ := μ) (by simp), g_up_row (σ := μ) (by simp), g_up_row (σ := μ) (by simp)]
      exact hQ
    · have hN := h.2.2.1
      unfold r_N at hN ⊢
      rw [g_up_row (σ := σ) (by simp), g_up_row (σ := μ) (by simp)]
      exact hN
    · rw [g_up_row (by simp)]; exact Int.le_refl _
  · have hc2 : ¬ ((0 ≤ p.toInt ∧ p.toInt ≤ (μ (0, 0, 0) 1).toInt - 1) ∧ (0 ≤ x.toInt ∧ x.toInt ≤ 4) ∧ (-1 ≤ v.toInt ∧ v.toInt ≤ 999)) := by omega
    rw [if_neg hc, if_neg hc2, if_neg hc, if_neg hc2]
    exact ⟨rfl, h⟩
end RF
