/-! segments told, states told, sets counted; a session ends; a diagnostic -/
section RD
variable {ns : Nat} {kk : Nat → Nat} {σ μ : r_M}
theorem r_segment (h : rel ns kk σ μ) (u p w : Int32) : x_segmentR σ ns u p w = m_segR μ u p w ∧ rel ns kk σ μ := by
  refine ⟨?_, h⟩
  unfold x_segmentR m_segR x_tellSeg
  by_cases ho : 0 ≤ u.toInt ∧ u.toInt < (ns : Int)
  · have hs : u.toInt.toNat < ns := by omega
    obtain ⟨p1, p2, p3, p4, p5⟩ := (h.2.2.2.1 _ hs).2.2.1
    obtain ⟨-, -, -, o4, -⟩ := (h.2.2.2.1 _ hs).1
    rw [if_pos ho, g_cl]
    by_cases hp : 0 ≤ p.toInt ∧ p.toInt < (σ (13, u.toInt.toNat, 0) 5).toInt
    · obtain ⟨e1, e2, e3⟩ := p5 p.toInt.toNat (by omega)
      have ei : (100 * u.toInt + p.toInt).toNat = 100 * u.toInt.toNat + p.toInt.toNat := by omega
      have z1 : (1 : Int32).toInt = 1 := rfl
      have ep : (p + 1).toInt = p.toInt + 1 := by rw [g_addI (by omega) (by omega), z1]
      have e4 : x_endSeg σ u.toInt.toNat p - σ (15, u.toInt.toNat, 0) p.toInt.toNat = μ (1, 22, 0) (100 * u.toInt.toNat + p.toInt.toNat) := by
        rw [e3]
        unfold x_endSeg
        rw [g_cl, ep, show (p.toInt + 1).toNat = p.toInt.toNat + 1 by omega]
        by_cases hq : p.toInt + 1 < (σ (13, u.toInt.toNat, 0) 5).toInt
        · rw [if_pos hq, if_pos (by omega)]
        · rw [if_neg hq, if_neg (by omega)]
      have hq : (0 ≤ u.toInt ∧ u.toInt ≤ ((μ (0, 0, 0) 10).toInt - 1)) ∧ (0 ≤ p.toInt ∧ p.toInt ≤ ((μ (1, 20, 0) (u.toInt).toNat).toInt - 1)) := ⟨(r_in h u).mp ho, by rw [← p2]; omega⟩
      rw [if_pos hp, if_pos hq, g_cl, ei, e4, ← e1, ← e2, ← o4]
    · rw [if_neg hp, if_neg (fun q => hp (by rw [← p2] at q; omega))]
  · rw [if_neg ho, if_neg (fun q => ho ((r_in h u).mpr q.1))]
theorem r_setsA {kn s : Nat} (hT : ∀ j, j < 5 → r_T σ μ kn s j) (hk : kn ≤ 5) : ∀ (n k : Nat) (acc : Int32), k + n ≤ kn → x_setsGo σ s n k acc = m_setsGo μ n ((5 * s + k : Nat) : Int) acc := by
  intro n
  induction n with
  | zero => intro k acc _; rfl
  | succ n ih =>
    intro k acc hkn
    have e : (((5 * s + k : Nat) : Int) + 1) = ((5 * s + (k + 1) : Nat) : Int) := by omega
    show x_setsGo σ s n (k + 1) _ = m_setsGo μ n _ _
    rw [e, ← ih (k + 1) _ (by omega)]
    congr 1
    rw [show ((5 * s + k : Nat) : Int).toNat = 5 * s + k by omega]
    rcases hT k (by omega) with ⟨-, b, ⟨e1, e2, -⟩ | ⟨e1, e2⟩⟩ | ⟨e1, -⟩
    · rw [if_neg (by rw [e1]; decide), ← e2, if_pos b.1]
    · rw [if_pos (by rw [e1]; rfl), e2, if_neg (by decide), Int32.add_zero]
    · omega
theorem r_setsB {kn s : Nat} (hT : ∀ j, j < 5 → r_T σ μ kn s j) : ∀ (n k : Nat) (acc : Int32), kn ≤ k → k + n ≤ 5 → m_setsGo μ n ((5 * s + k : Nat) : Int) acc = acc := by
  intro n
  induction n with
  | zero => intro k acc _ _; rfl
  | succ n ih =>
    intro k acc h1 h2
    have e : (((5 * s + k : Nat) : Int) + 1) = ((5 * s + (k + 1) : Nat) : Int) := by omega
    show m_setsGo μ n _ _ = _
    rw [e, ih (k + 1) _ (by omega) (by omega), show ((5 * s + k : Nat) : Int).toNat = 5 * s + k by omega]
    rcases hT k (by omega) with ⟨e1, -⟩ | ⟨-, e1⟩
    · omega
    · rw [e1, if_neg (by decide), Int32.add_zero]
theorem r_sets (h : rel ns kk σ μ) {u : Int32} (hu : 0 ≤ u.toInt ∧ u.toInt < (ns : Int)) : x_setsGo σ u.toInt.toNat (kk u.toInt.toNat) 0 0 = m_setsR μ u := by
  have hs : u.toInt.toNat < ns := by omega
  obtain ⟨hO, hT, -⟩ := h.2.2.2.1 _ hs
  unfold m_setsR
  have hk := rel_kn hO
  have hk2 : kk u.toInt.toNat = 1 ∨ kk u.toInt.toNat = 5 := by rw [hO.2.2.1]; split <;> simp
  have ez : 5 * u.toInt = ((5 * u.toInt.toNat + 0 : Nat) : Int) := by omega
  rw [ez, r_setsA hT hk _ 0 0 (by omega)]
  rcases hk2 with e | e
  · rw [e]
    show _ = m_setsGo μ 4 _ _
    rw [show (((5 * u.toInt.toNat + 0 : Nat) : Int) + 1) = ((5 * u.toInt.toNat + 1 : Nat) : Int) by omega, r_setsB hT 4 1 _ (by omega) (by omega)]
    rfl
  · rw [e]
theorem r_state (h : rel ns kk σ μ) (u w : Int32) : x_stateR σ ns kk u w = m_stateR μ u w ∧ rel ns kk σ μ := by
  refine ⟨?_, h⟩
  have hN := h.2.2.1
  unfold x_stateR m_stateR
  by_cases hc : (0 ≤ u.toInt ∧ u.toInt < 8) ∧ (0 ≤ w.toInt ∧ w.toInt ≤ 3)
  · have hc2 : (0 ≤ u.toInt ∧ u.toInt ≤ 7) ∧ (0 ≤ w.toInt ∧ w.toInt ≤ 3) := by omega
    rw [if_pos hc, if_pos hc2]
    by_cases ho : 0 ≤ u.toInt ∧ u.toInt < (ns : Int)
    · have hs : u.toInt.toNat < ns := by omega
      obtain ⟨-, -, -, -, -, o5, o6, o7⟩ := (h.2.2.2.1 _ hs).1
      have ho2 : u.toInt < (μ (0, 0, 0) 10).toInt := by rw [hN.2.1]; exact ho.2
      rw [if_pos ho, if_pos ho2, g_cl]
      unfold x_sTell
      rw [o5, o6, r_sets h ho]
      by_cases w0 : w.toInt = 0
      · rw [if_pos w0, if_pos w0]
        rcases o7 with ⟨a, b, -⟩ | ⟨a, b⟩
        · rw [a, b]; rfl
        · rw [a, b]; rfl
      · rw [if_neg w0, if_neg w0]
        by_cases w1 : w.toInt = 1
        · rw [if_pos w1, if_pos w1]
        · rw [if_neg w1, if_neg w1]
          by_cases w2 : w.toInt = 2
          · rw [if_pos w2, if_pos w2]
          · rw [if_neg w2, if_neg w2, if_pos (by omega)]
    · have ho2 : ¬ u.toInt < (μ (0, 0, 0) 10).toInt := by rw [hN.2.1]; omega
      rw [if_neg ho, if_neg ho2]
  · have hc2 : ¬ ((0 ≤ u.toInt ∧ u.toInt ≤ 7) ∧ (0 ≤ w.toInt ∧ w.toInt ≤ 3)) := by omega
    rw [if_neg hc, if_neg hc2]
end RD
theorem x_shutGo_row (i : Nat) {y : g_S} (hy : y.1 ≠ 18 ∨ y.2.1 ≠ i) : ∀ (n k : Nat) (σ : r_M), x_shutGo i n k σ y = σ y := by
  intro n
  induction n with
  | zero => intro k σ; rfl
  | succ n ih =>
    intro k σ
    show x_shutGo i n (k + 1) _ y = _
    have hne : y ≠ (18, i, k) := fun q => by subst q; simp at hy
    rw [ih]
    unfold x_forget
    rw [g_up_row hne, g_up_row hne]
theorem x_shutGo_at (i j q : Nat) (hq : q = 1 ∨ q = 2) : ∀ (n k : Nat) (σ : r_M), x_shutGo i n k σ (18, i, j) q = if k ≤ j ∧ j < k + n then 0 else σ (18, i, j) q := by
  intro n
  induction n with
  | zero => intro k σ; rw [if_neg (by omega)]; rfl
  | succ n ih =>
    intro k σ
    show x_shutGo i n (k + 1) _ (18, i, j) q = _
    rw [ih]
    by_cases hj : k + 1 ≤ j ∧ j < k + 1 + n
    · rw [if_pos hj, if_pos (by omega)]
    · rw [if_neg hj]
      unfold x_forget
      by_cases e : j = k
      · subst e
        rw [if_pos (by omega)]
        rcases hq with rfl | rfl <;> simp [g_up_at]
      · rw [if_neg (by omega), g_up_row (by simp [e]), g_up_row (by simp [e])]
theorem x_shut_row {σ : r_M} {kn s : Nat} {y : g_S} (hy : y.1 < 11 ∨ y.2.1 ≠ s) : x_shut σ kn s y = σ y := by
  unfold x_shut
  rw [x_shutGo_row s (by omega), g_up_row]
  intro q
  subst q
  simp at hy
theorem x_shut_row2 {σ : r_M} {kn s k j : Nat} (h1 : k ≠ 11) (h2 : k ≠ 18) : x_shut σ kn s (k, s, j) = σ (k, s, j) := by
  unfold x_shut
  rw [x_shutGo_row s (Or.inl h2), g_up_row (by simp [h1])]
theorem x_shut_11 {σ : r_M} {kn s q : Nat} : x_shut σ kn s (11, s, 0) q = if q = 4 then 0 else σ (11, s, 0) q := by
  unfold x_shut
  rw [x_shutGo_row s (Or.inl (by simp))]
  simp [g_up_at]
theorem x_shut_18 {σ : r_M} {kn s j q : Nat} (hq : q = 1 ∨ q = 2) : x_shut σ kn s (18, s, j) q = if j < kn then 0 else σ (18, s, j) q := by
  unfold x_shut
  rw [x_shutGo_at s j q hq, g_up_row (by simp)]
  by_cases h : j < kn
  · rw [if_pos (by omega), if_pos h]
  · rw [if_neg (by omega), if_neg h]
theorem m_endM_16 {μ : r_M} {u : Int32} (hu : 0 ≤ u.toInt) (a : Nat) : m_endM μ u (1, 16, 0) a = if 5 * u.toInt.toNat ≤ a ∧ a < 5 * u.toInt.toNat + 5 then -1 else μ (1, 16, 0) a := by
  unfold m_endM
  rw [show ((((5 * u.toInt) + 1) + 1) + 1 + 1).toNat = 5 * u.toInt.toNat + 4 by omega, show ((((5 * u.toInt) + 1) + 1) + 1).toNat = 5 * u.toInt.toNat + 3 by omega, show (((5 * u.toInt) + 1) + 1).toNat = 5 * u.toInt.toNat + 2 by omega, show ((5 * u.toInt) + 1).toNat = 5 * u.toInt.toNat + 1 by omega, show (5 * u.toInt).toNat = 5 * u.toInt.toNat by omega]
  simp only [g_up_at]
  generalize u.toInt.toNat = t
  by_cases h : 5 * t ≤ a ∧ a < 5 * t + 5
  · rw [if_pos h]
    rcases (show a = 5 * t ∨ a = 5 * t + 1 ∨ a = 5 * t + 2 ∨ a = 5 * t + 3 ∨ a = 5 * t + 4 by omega) with rfl | rfl | rfl | rfl | rfl <;> simp
  · rw [if_neg h]
    simp [show ¬ a = 5 * t by omega, show ¬ a = 5 * t + 1 by omega, show ¬ a = 5 * t + 2 by omega, show ¬ a = 5 * t + 3 by omega, show ¬ a = 5 * t + 4 by omega]
theorem m_endM_13 {μ : r_M} {u : Int32} (a : Nat) : m_endM μ u (2, 13, 0) a = if a = u.toInt.toNat then 1 else μ (2, 13, 0) a := by
  unfold m_endM
  simp [g_up_at]
theorem m_endM_row {μ : r_M} {u : Int32} {y : g_S} (h1 : y ≠ (2, 13, 0)) (h2 : y ≠ (1, 16, 0)) : m_endM μ u y = μ y := by
  unfold m_endM
  rw [g_up_row h2, g_up_row h2, g_up_row h2, g_up_row h2, g_up_row h2, g_up_row h1]
theorem m_endM_G {μ : r_M} {u : Int32} : r_mG μ (m_endM μ u) := ⟨⟨by rw [m_endM_row (by simp) (by simp)], by rw [m_endM_row (by simp) (by simp)], by rw [m_endM_row (by simp) (by simp)]⟩, ⟨m_endM_row (by simp) (by simp), m_endM_row (by simp) (by simp)⟩, m_endM_row (by simp) (by simp), m_endM_row (by simp) (by simp), m_endM_row (by simp) (by simp), m_endM_row (by simp) (by simp)⟩
theorem m_endM_E {μ : r_M} {u : Int32} (hu : 0 ≤ u.toInt) {i : Nat} (hi : i ≠ u.toInt.toNat) : r_mE μ (m_endM μ u) i := by
  refine ⟨⟨⟨?_, ?_, ?_, ?_, ?_⟩, ?_, ?_, ?_⟩, fun j hj => ?_, fun j n hj hn => ?_, fun n hn => ⟨?_, ?_, ?_, ?_⟩, fun n hn => ⟨?_, ?_⟩⟩
  case refine_3 => rw [m_endM_13, if_neg hi]
  case refine_9 => rw [m_endM_16 hu, if_neg (by omega)]
  all_goals rw [m_endM_row (by simp) (by simp)]
theorem m_endM_B {μ : r_M} {u : Int32} (hu : 0 ≤ u.toInt) (h : r_B μ) : r_B (m_endM μ u) := by
  refine ⟨fun j => ?_, fun j => ?_⟩
  · rw [m_endM_16 hu]
    split
    · decide
    · exact h.1 j
  · rw [m_endM_row (by simp) (by simp)]; exact h.2 j
theorem r_shutS {σ μ : r_M} {kn s : Nat} {u : Int32} (hu : u.toInt = (s : Int)) (hO : σ (11, s, 0) 0 = μ (1, 11, 0) s ∧ (0 ≤ (μ (1, 11, 0) s).toInt ∧ (μ (1, 11, 0) s).toInt ≤ 7) ∧ kn = (if (μ (1, 11, 0) s &&& 4).toInt = 0 then 1 else 5) ∧ σ (13, s, 0) 0 = μ (1, 12, 0) s ∧ (1 ≤ (μ (1, 12, 0) s).toInt ∧ (μ (1, 12, 0) s).toInt ≤ 1000) ∧ σ (11, s, 0) 5 = μ (1, 14, 0) s ∧ σ (11, s, 0) 6 = μ (1, 15, 0) s) (hP : r_P σ μ s) (hZ : r_Z σ μ s) : r_S (x_shut σ kn s) (m_endM μ u) kn s := by
  have es : u.toInt.toNat = s := by omega
  obtain ⟨a1, a2, a3, a4, a5, a6, a7⟩ := hO
  refine ⟨?_, fun j hj => ?_, ?_, ?_⟩
  · unfold r_O
    rw [x_shut_11, x_shut_11, x_shut_11, x_shut_11, x_shut_row2 (by decide) (by decide), m_endM_13, m_endM_row (by simp) (by simp), m_endM_row (by simp) (by simp), m_endM_row (by simp) (by simp), m_endM_row (by simp) (by simp)]
    exact ⟨a1, a2, a3, a4, a5, a6, a7, Or.inr ⟨rfl, if_pos es.symm⟩⟩
  · unfold r_T
    rw [x_shut_18 (Or.inl rfl), x_shut_18 (Or.inr rfl), m_endM_16 (by omega), if_pos (show 5 * u.toInt.toNat ≤ 5 * s + j ∧ 5 * s + j < 5 * u.toInt.toNat + 5 by omega)]
    by_cases hk : j < kn
    · rw [if_pos hk, if_pos hk]
      exact Or.inl ⟨hk, by decide, Or.inr ⟨rfl, rfl⟩⟩
    · exact Or.inr ⟨by omega, rfl⟩
  · unfold r_P at hP ⊢
    rw [x_shut_row2 (by decide) (by decide), x_shut_row2 (by decide) (by decide), x_shut_row2 (by decide) (by decide), x_shut_row2 (by decide) (by decide), m_endM_row (by simp) (by simp), m_endM_row (by simp) (by simp), m_endM_row (by simp) (by simp), m_endM_row (by simp) (by simp), m_endM_row (by simp) (by simp), m_endM_row (by simp) (by simp)]
    exact hP
  · unfold r_Z at hZ ⊢
    rw [x_shut_row2 (by decide) (by decide), x_shut_row2 (by decide) (by decide), x_shut_row2 (by decide) (by decide), m_endM_row (by simp) (by simp), m_endM_row (by simp) (by simp), m_endM_row (by simp) (by simp)]
    exact hZ
