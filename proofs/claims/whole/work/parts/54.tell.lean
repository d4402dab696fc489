/-! diagnostics, close, drop -/
theorem x_dgM0_row {σ : r_M} {s : Nat} {code : Int32} {y : g_S} (h : y ≠ (11, s, 0)) : x_dgM0 σ s code y = σ y := by
  unfold x_dgM0
  rw [g_up_row h, g_up_row h]
theorem x_dgM0_at {σ : r_M} {s : Nat} {code : Int32} (q : Nat) : x_dgM0 σ s code (11, s, 0) q = if q = 6 then code else if q = 5 then σ (11, s, 0) 5 + 1 else σ (11, s, 0) q := by
  unfold x_dgM0
  simp only [g_up_at]
  simp
theorem m_tellM0_row {μ : r_M} {u code : Int32} {y : g_S} (h1 : y ≠ (1, 14, 0)) (h2 : y ≠ (1, 15, 0)) : m_tellM0 μ u code y = μ y := by
  unfold m_tellM0
  rw [g_up_row h2, g_up_row h1]
theorem m_tellM0_14 {μ : r_M} {u code : Int32} (a : Nat) : m_tellM0 μ u code (1, 14, 0) a = if a = u.toInt.toNat then μ (1, 14, 0) u.toInt.toNat + 1 else μ (1, 14, 0) a := by
  unfold m_tellM0
  rw [g_up_row (by simp), g_up_at, if_pos rfl]
theorem m_tellM0_15 {μ : r_M} {u code : Int32} (a : Nat) : m_tellM0 μ u code (1, 15, 0) a = if a = u.toInt.toNat then code else μ (1, 15, 0) a := by
  unfold m_tellM0
  rw [g_up_at, if_pos rfl, g_up_row (by simp)]
theorem m_tellM0_G {μ : r_M} {u code : Int32} : r_mG μ (m_tellM0 μ u code) := ⟨⟨by rw [m_tellM0_row (by simp) (by simp)], by rw [m_tellM0_row (by simp) (by simp)], by rw [m_tellM0_row (by simp) (by simp)]⟩, ⟨m_tellM0_row (by simp) (by simp), m_tellM0_row (by simp) (by simp)⟩, m_tellM0_row (by simp) (by simp), m_tellM0_row (by simp) (by simp), m_tellM0_row (by simp) (by simp), m_tellM0_row (by simp) (by simp)⟩
theorem m_tellM0_E {μ : r_M} {u code : Int32} {i : Nat} (hi : i ≠ u.toInt.toNat) : r_mE μ (m_tellM0 μ u code) i := by
  refine ⟨⟨⟨?_, ?_, ?_, ?_, ?_⟩, ?_, ?_, ?_⟩, fun j hj => ?_, fun j n hj hn => ?_, fun n hn => ⟨?_, ?_, ?_, ?_⟩, fun n hn => ⟨?_, ?_⟩⟩
  case refine_4 => rw [m_tellM0_14, if_neg hi]
  case refine_5 => rw [m_tellM0_15, if_neg hi]
  all_goals rw [m_tellM0_row (by simp) (by simp)]
theorem m_tellM0_B {μ : r_M} {u code : Int32} (h : r_B μ) : r_B (m_tellM0 μ u code) := by
  unfold r_B
  rw [m_tellM0_row (by simp) (by simp), m_tellM0_row (by simp) (by simp)]
  exact h
section RE
variable {ns : Nat} {kk : Nat → Nat} {σ μ : r_M}
theorem r_tell (h : rel ns kk σ μ) {s : Nat} (hs : s < ns) {u : Int32} (hu : u.toInt = (s : Int)) (hop : μ (2, 13, 0) s = 0) (code : Int32) : rel ns kk (x_dgM σ (kk s) s code) (m_tellM μ u code) := by
  have es : u.toInt.toNat = s := by omega
  have hu0 : 0 ≤ u.toInt := by omega
  obtain ⟨⟨a1, a2, a3, a4, a5, a6, a7, a8⟩, hT, hP, hZ⟩ := h.2.2.2.1 s hs
  have hop2 : σ (11, s, 0) 4 = 1 ∧ 0 ≤ (μ (1, 14, 0) s).toInt ∧ (μ (1, 14, 0) s).toInt ≤ 2 := by
    rcases a8 with ⟨b1, b2, b3⟩ | ⟨b1, b2⟩
    · exact ⟨b1, b3⟩
    · rw [hop] at b2; exact absurd b2 (by decide)
  have z1 : (1 : Int32).toInt = 1 := rfl
  have ef : (μ (1, 14, 0) s + 1).toInt = (μ (1, 14, 0) s).toInt + 1 := by rw [g_addI (by omega) (by omega), z1]
  have e14 : m_tellM0 μ u code (1, 14, 0) s = μ (1, 14, 0) s + 1 := by rw [m_tellM0_14, if_pos es.symm, es]
  have e15 : m_tellM0 μ u code (1, 15, 0) s = code := by rw [m_tellM0_15, if_pos es.symm]
  have hP1 : r_P (x_dgM0 σ s code) (m_tellM0 μ u code) s := by
    unfold r_P at hP ⊢
    rw [x_dgM0_row (by simp), x_dgM0_row (by simp), x_dgM0_row (by simp), x_dgM0_row (by simp), m_tellM0_row (by simp) (by simp), m_tellM0_row (by simp) (by simp), m_tellM0_row (by simp) (by simp), m_tellM0_row (by simp) (by simp), m_tellM0_row (by simp) (by simp), m_tellM0_row (by simp) (by simp)]
    exact hP
  have hZ1 : r_Z (x_dgM0 σ s code) (m_tellM0 μ u code) s := by
    unfold r_Z at hZ ⊢
    rw [x_dgM0_row (by simp), x_dgM0_row (by simp), x_dgM0_row (by simp), m_tellM0_row (by simp) (by simp), m_tellM0_row (by simp) (by simp), m_tellM0_row (by simp) (by simp)]
    exact hZ
  have hO1 : x_dgM0 σ s code (11, s, 0) 0 = m_tellM0 μ u code (1, 11, 0) s ∧ (0 ≤ (m_tellM0 μ u code (1, 11, 0) s).toInt ∧ (m_tellM0 μ u code (1, 11, 0) s).toInt ≤ 7) ∧ kk s = (if (m_tellM0 μ u code (1, 11, 0) s &&& 4).toInt = 0 then 1 else 5) ∧ x_dgM0 σ s code (13, s, 0) 0 = m_tellM0 μ u code (1, 12, 0) s ∧ (1 ≤ (m_tellM0 μ u code (1, 12, 0) s).toInt ∧ (m_tellM0 μ u code (1, 12, 0) s).toInt ≤ 1000) ∧ x_dgM0 σ s code (11, s, 0) 5 = m_tellM0 μ u code (1, 14, 0) s ∧ x_dgM0 σ s code (11, s, 0) 6 = m_tellM0 μ u code (1, 15, 0) s := by
    rw [x_dgM0_at, x_dgM0_at, x_dgM0_at, x_dgM0_row (by simp), e14, e15, m_tellM0_row (by simp) (by simp), m_tellM0_row (by simp) (by simp)]
    exact ⟨a1, a2, a3, a4, a5, by rw [if_neg (by decide), if_pos rfl, a6], rfl⟩
  unfold x_dgM m_tellM
  rw [es, e14, ef, a6, ef]
  by_cases hf : (μ (1, 14, 0) s).toInt + 1 < 3
  · rw [if_pos hf, if_neg (show ¬ (μ (1, 14, 0) s).toInt + 1 = 3 by omega)]
    refine rel_op h (s := s) (fun k i j hk => x_dgM0_row (by simp; omega)) m_tellM0_G (fun i hi k j hk => x_dgM0_row (by simp [hi])) (fun i _ hi => m_tellM0_E (by omega)) hs ⟨?_, fun j hj => ?_, hP1, hZ1⟩ (m_tellM0_B h.2.2.2.2.2)
    · obtain ⟨c1, c2, c3, c4, c5, c6, c7⟩ := hO1
      refine ⟨c1, c2, c3, c4, c5, c6, c7, Or.inl ⟨?_, ?_, ?_⟩⟩
      · rw [x_dgM0_at]; exact hop2.1
      · rw [m_tellM0_row (by simp) (by simp)]; exact hop
      · rw [e14, ef]; omega
    · have h9 := hT j hj
      unfold r_T at h9 ⊢
      rw [x_dgM0_row (by simp), x_dgM0_row (by simp), m_tellM0_row (by simp) (by simp), m_tellM0_row (by simp) (by simp), m_tellM0_row (by simp) (by simp)]
      exact h9
  · rw [if_neg hf, if_pos (show (μ (1, 14, 0) s).toInt + 1 = 3 by omega)]
    refine rel_op h (s := s) (fun k i j hk => ?_) (m_tellM0_G.trans m_endM_G) (fun i hi k j hk => ?_) (fun i _ hi => (m_tellM0_E (by omega)).trans (m_endM_E hu0 (by omega))) hs (r_shutS hu hO1 hP1 hZ1) (m_endM_B hu0 (m_tellM0_B h.2.2.2.2.2))
    · rw [x_shut_row (Or.inl hk), x_dgM0_row (by simp; omega)]
    · rw [x_shut_row (Or.inr hi), x_dgM0_row (by simp [hi])]
theorem r_op13 (h : rel ns kk σ μ) {u : Int32} (ho : (0 ≤ u.toInt ∧ u.toInt < (ns : Int)) ∧ ¬ (σ (11, u.toNatClampNeg, 0) 4).toInt = 0) : μ (2, 13, 0) u.toInt.toNat = 0 := by
  have hs : u.toInt.toNat < ns := by omega
  rcases (h.2.2.2.1 _ hs).1.2.2.2.2.2.2.2 with ⟨-, b, -⟩ | ⟨b, -⟩
  · exact b
  · exact absurd (by rw [g_cl, b]; rfl) ho.2
/-- a diagnostic, as the methods tell it -/
theorem r_tl (h : rel ns kk σ μ) {u : Int32} (ho : (0 ≤ u.toInt ∧ u.toInt < (ns : Int)) ∧ ¬ (σ (11, u.toNatClampNeg, 0) 4).toInt = 0) (code : Int32) : rel ns kk (x_dgM σ (kk u.toInt.toNat) u.toInt.toNat code) (m_tellM μ u code) := r_tell h (by omega) (by omega) (r_op13 h ho) code
theorem r_close (h : rel ns kk σ μ) (u : Int32) : x_closeR σ ns kk u = m_closeR μ u ∧ rel ns kk (x_closeM σ ns kk u) (m_closeM μ u) := by
  unfold x_closeR m_closeR x_closeM m_closeM
  by_cases ho : (0 ≤ u.toInt ∧ u.toInt < (ns : Int)) ∧ ¬ (σ (11, u.toNatClampNeg, 0) 4).toInt = 0
  · have ho2 := (r_open h u).mp ho
    have hs : u.toInt.toNat < ns := by omega
    rw [if_pos ho, if_pos ho2, if_pos ho, if_pos ho2, g_cl]
    obtain ⟨⟨a1, a2, a3, a4, a5, a6, a7, -⟩, hT, hP, hZ⟩ := h.2.2.2.1 _ hs
    refine ⟨r_sets h ho.1, rel_op h (s := u.toInt.toNat) (fun k i j hk => x_shut_row (Or.inl hk)) m_endM_G (fun i hi k j hk => x_shut_row (Or.inr hi)) (fun i _ hi => m_endM_E ho.1.1 hi) hs (r_shutS (by omega) ⟨a1, a2, a3, a4, a5, a6, a7⟩ hP hZ) (m_endM_B ho.1.1 h.2.2.2.2.2)⟩
  · have ho2 : ¬ _ := fun q => ho ((r_open h u).mpr q)
    rw [if_neg ho, if_neg ho2, if_neg ho, if_neg ho2]
    exact ⟨rfl, h⟩
theorem x_forget_row {σ : r_M} {s j : Nat} {y : g_S} (h : y ≠ (18, s, j)) : x_forget σ s j y = σ y := by
  unfold x_forget
  rw [g_up_row h, g_up_row h]
theorem r_drop (h : rel ns kk σ μ) (u v : Int32) : x_dropR σ ns kk u v = m_dropR μ u v ∧ rel ns kk (x_dropM σ ns kk u v) (m_dropM μ u v) := by
  unfold x_dropR m_dropR x_dropM m_dropM
  by_cases ho : (0 ≤ u.toInt ∧ u.toInt < (ns : Int)) ∧ ¬ (σ (11, u.toNatClampNeg, 0) 4).toInt = 0
  · have ho2 := (r_open h u).mp ho
    have hs : u.toInt.toNat < ns := by omega
    rw [if_pos ho, if_pos ho2, if_pos ho, if_pos ho2, g_cl]
    by_cases hm : (0 ≤ v.toInt ∧ v.toInt < ((kk u.toInt.toNat : Nat) : Int)) ∧ ¬ (σ (18, u.toInt.toNat, v.toNatClampNeg) 2).toInt = 0
    · have hm2 := (r_made h hs v).mp hm
      rw [if_pos hm, if_pos hm, r_ix ho.1.1 hm.1.1, if_pos hm2, if_pos hm2, g_cl]
      refine ⟨rfl, ?_⟩
      have hk5 := r_kk5 h hs
      have hv5 : v.toInt.toNat < 5 := by omega
      have hvk : v.toInt.toNat < kk u.toInt.toNat := by omega
      generalize v.toInt.toNat = j at *
      generalize u.toInt.toNat = s at *
      obtain ⟨hO, hT, hP, hZ⟩ := h.2.2.2.1 _ hs
      have m16 : ∀ a, g_up μ (1, 16, 0) (5 * s + j) (-1) (1, 16, 0) a = if a = 5 * s + j then -1 else μ (1, 16, 0) a := fun a => by rw [g_up_at, if_pos rfl]
      have mr : ∀ y : g_S, y ≠ (1, 16, 0) → g_up μ (1, 16, 0) (5 * s + j) (-1) y = μ y := fun y hy => g_up_row hy
      refine rel_op h (s := s) (fun k i q hk => x_forget_row (by simp; omega)) ⟨⟨by rw [mr _ (by simp)], by rw [mr _ (by simp)], by rw [mr _ (by simp)]⟩, ⟨mr _ (by simp), mr _ (by simp)⟩, mr _ (by simp), mr _ (by simp), mr _ (by simp), mr _ (by simp)⟩ (fun i hi k q hk => x_forget_row (by simp [hi])) (fun i _ hi => ?_) hs ⟨?_, fun j2 hj2 => ?_, ?_, ?_⟩ ⟨fun a => ?_, fun a => ?_⟩
      · refine ⟨⟨⟨?_, ?_, ?_, ?_, ?_⟩, ?_, ?_, ?_⟩, fun j hj => ?_, fun j n hj hn => ?_, fun n hn => ⟨?_, ?_, ?_, ?_⟩, fun n hn => ⟨?_, ?_⟩⟩
        case refine_9 => rw [m16, if_neg (by omega)]
        all_goals rw [mr _ (by simp)]
      · unfold r_O at hO ⊢
        rw [x_forget_row (by simp), x_forget_row (by simp), mr _ (by simp), mr _ (by simp), mr _ (by simp), mr _ (by simp), mr _ (by simp)]
        exact hO
      · by_cases e : j2 = j
        · subst e
          refine Or.inl ⟨hvk, ?_, Or.inr ⟨?_, ?_⟩⟩
          · unfold x_forget; rw [g_up_same]; decide
          · unfold x_forget; simp [g_up_at]
          · rw [m16, if_pos rfl]
        · have h9 := hT j2 hj2
          unfold r_T at h9 ⊢
          rw [x_forget_row (by simp [e]), x_forget_row (by simp), m16, if_neg (by omega), mr _ (by simp), mr _ (by simp)]
          exact h9
      · unfold r_P at hP ⊢
        rw [x_forget_row (by simp), x_forget_row (by simp), x_forget_row (by simp), x_forget_row (by simp), mr _ (by simp), mr _ (by simp), mr _ (by simp), mr _ (by simp), mr _ (by simp), mr _ (by simp)]
        exact hP
      · unfold r_Z at hZ ⊢
        rw [x_forget_row (by simp), x_forget_row (by simp), x_forget_row (by simp), mr _ (by simp), mr _ (by simp), mr _ (by simp)]
        exact hZ
      · rw [m16]
        split
        · decide
        · exact h.2.2.2.2.2.1 a
      · rw [mr _ (by simp)]; exact h.2.2.2.2.2.2 a
    · have hm2 : ¬ ((0 ≤ (v).toInt ∧ (v).toInt ≤ (if (μ (1, 11, 0) ((u).toInt).toNat &&& 4).toInt = 4 then (4 : Int) else 0)) ∧ 0 ≤ (μ (1, 16, 0) ((5 * (u).toInt) + (v).toInt).toNat).toInt) := fun q => hm ((r_made h hs v).mpr (by rw [r_ix ho.1.1 q.1.1] at q; exact q))
      rw [if_neg hm, if_neg hm, if_neg hm2, if_neg hm2]
      exact ⟨rfl, r_tl h ho 104⟩
  · have ho2 : ¬ _ := fun q => ho ((r_open h u).mpr q)
    rw [if_neg ho, if_neg ho2, if_neg ho, if_neg ho2]
    exact ⟨rfl, h⟩
end RE
