/-! searching -/
theorem nI_s {n : Nat} (h : n < 1000000) : nI n + 1 = nI (n + 1) := by
  have z1 : (1 : Int32).toInt = 1 := rfl
  have e1 : (nI n).toInt = (n : Int) := g_nIT (by omega)
  rw [g_eqI, g_addI (by omega) (by omega), g_nIT (n := n + 1) (by omega), e1, z1]
  omega
theorem r_R_x {σ σ' μ : r_M} (e : r_xG σ σ') (h : r_R σ μ) : r_R σ' μ := by
  obtain ⟨h1, h2, h3, h4⟩ := h
  refine ⟨by rw [e _ _ _ (by omega)]; exact h1, h2, fun r hr => by rw [e _ _ _ (by omega)]; exact h3 r hr, fun r x hr hx => by rw [e _ _ _ (by omega)]; exact h4 r x hr hx⟩
theorem r_Q_x {σ σ' μ : r_M} (e : r_xG σ σ') (h : r_Q σ μ) : r_Q σ' μ := by
  unfold r_Q r_Q1 at *
  rw [e 2 _ _ (by omega), e 5 _ _ (by omega), e 6 _ _ (by omega), e 7 _ _ (by omega), e 8 _ _ (by omega)]
  exact h
section RH
variable {ns : Nat} {kk : Nat → Nat} {σ μ : r_M}
theorem rel_set (h : rel ns kk σ μ) {s j : Nat} (hs : s < ns) (hj : j < kk s) {σ' μ' : r_M} (hx : ∀ y : g_S, y ≠ (18, s, j) → y ≠ (19, s, j) → σ' y = σ y) (hm : ∀ y : g_S, y ≠ (2, 9, 0) → y ≠ (1, 16, 0) → y ≠ (1, 17, 0) → μ' y = μ y) (h16 : ∀ a, a ≠ 5 * s + j → μ' (1, 16, 0) a = μ (1, 16, 0) a) (h17 : ∀ a, ¬ (100 * (5 * s + j) ≤ a ∧ a < 100 * (5 * s + j) + 100) → μ' (1, 17, 0) a = μ (1, 17, 0) a)
    (h1 : 0 ≤ (σ' (18, s, j) 1).toInt ∧ (σ' (18, s, j) 1).toInt ≤ 100) (h2 : σ' (18, s, j) 2 = 1) (h3 : σ' (18, s, j) 1 = μ' (1, 16, 0) (5 * s + j)) (h4 : ∀ n : Nat, (n : Int) < (σ' (18, s, j) 1).toInt → σ' (19, s, j) n = μ' (1, 17, 0) (100 * (5 * s + j) + n) ∧ 0 ≤ (σ' (19, s, j) n).toInt ∧ (σ' (19, s, j) n).toInt < (μ (0, 0, 0) 1).toInt)
    (hB : ∀ a, 0 ≤ (μ' (1, 17, 0) a).toInt ∧ (μ' (1, 17, 0) a).toInt < 100) : rel ns kk σ' μ' := by
  have hk5 := r_kk5 h hs
  obtain ⟨hO, hT, hP, hZ⟩ := h.2.2.2.1 _ hs
  have mr : ∀ k, k ≠ 16 → k ≠ 17 → μ' (1, k, 0) = μ (1, k, 0) := fun k a b => hm _ (by simp) (by simp [a]) (by simp [b])
  have m0 := hm (0, 0, 0) (by simp) (by simp) (by simp)
  have m13 := hm (2, 13, 0) (by simp) (by simp) (by simp)
  refine rel_op h (s := s) (fun k i q hk => hx _ (by simp; omega) (by simp; omega)) ⟨⟨by rw [m0], by rw [m0], by rw [m0]⟩, ⟨mr _ (by omega) (by omega), mr _ (by omega) (by omega)⟩, mr _ (by omega) (by omega), mr _ (by omega) (by omega), mr _ (by omega) (by omega), mr _ (by omega) (by omega)⟩ (fun i hi k q hk => hx _ (by simp [hi]) (by simp [hi])) (fun i _ hi => ?_) hs ⟨?_, fun j2 hj2 => ?_, ?_, ?_⟩ ⟨fun a => ?_, hB⟩
  · refine ⟨⟨⟨?_, ?_, ?_, ?_, ?_⟩, ?_, ?_, ?_⟩, fun j2 hj => ?_, fun j2 n hj hn => ?_, fun n hn => ⟨?_, ?_, ?_, ?_⟩, fun n hn => ⟨?_, ?_⟩⟩
    case refine_3 => rw [m13]
    case refine_9 => exact h16 _ (by omega)
    case refine_10 => exact h17 _ (by omega)
    all_goals rw [mr _ (by omega) (by omega)]
  · unfold r_O at hO ⊢
    rw [hx (11, s, 0) (by simp) (by simp), hx (13, s, 0) (by simp) (by simp), m13, mr 11 (by omega) (by omega), mr 12 (by omega) (by omega), mr 14 (by omega) (by omega), mr 15 (by omega) (by omega)]
    exact hO
  · by_cases e : j2 = j
    · subst e
      refine Or.inl ⟨hj, h1, Or.inl ⟨h2, h3, ?_⟩⟩
      rw [m0]
      exact h4
    · have h9 := hT j2 hj2
      unfold r_T at h9 ⊢
      rw [hx (18, s, j2) (by simp [e]) (by simp), hx (19, s, j2) (by simp) (by simp [e]), h16 _ (by omega), m0]
      rcases h9 with ⟨a, b, c | c⟩ | c
      · refine Or.inl ⟨a, b, Or.inl ⟨c.1, c.2.1, fun n hn => ?_⟩⟩
        rw [h17 _ (by omega)]
        exact c.2.2 n hn
      · exact Or.inl ⟨a, b, Or.inr c⟩
      · exact Or.inr c
  · unfold r_P at hP ⊢
    rw [hx (13, s, 0) (by simp) (by simp), hx (14, s, 0) (by simp) (by simp), hx (15, s, 0) (by simp) (by simp), hx (16, s, 0) (by simp) (by simp), mr 18 (by omega) (by omega), mr 20 (by omega) (by omega), mr 19 (by omega) (by omega), mr 21 (by omega) (by omega), mr 22 (by omega) (by omega), mr 23 (by omega) (by omega)]
    exact hP
  · unfold r_Z at hZ ⊢
    rw [hx (17, s, 0) (by simp) (by simp), hx (20, s, 0) (by simp) (by simp), hx (21, s, 0) (by simp) (by simp), mr 24 (by omega) (by omega), mr 25 (by omega) (by omega), mr 26 (by omega) (by omega)]
    exact hZ
  · by_cases e : a = 5 * s + j
    · subst e
      rw [← h3]; omega
    · rw [h16 a e]
      exact h.2.2.2.2.2.1 a
end RH
theorem r_srchGo {s j N : Nat} {q u v : Int32} (hu : u.toInt = (s : Int)) (hv : v.toInt = (j : Int)) : ∀ (n r cn : Nat) (σ μ : r_M), r_R σ μ → r_Q σ μ → (μ (0, 0, 0) 1).toInt = (N : Int) → (0 ≤ q.toInt ∧ q.toInt < (μ (0, 0, 0) 4).toInt) → r + n = N → cn ≤ r → σ (18, s, j) 1 = nI cn →
    (∀ t, t < cn → σ (19, s, j) t = μ (1, 17, 0) (100 * (5 * s + j) + t) ∧ 0 ≤ (σ (19, s, j) t).toInt ∧ (σ (19, s, j) t).toInt < (N : Int)) → (∀ a, 0 ≤ (μ (1, 17, 0) a).toInt ∧ (μ (1, 17, 0) a).toInt < 100) →
    (∀ y : g_S, y ≠ (18, s, j) → y ≠ (19, s, j) → x_srchGo s j q n r σ y = σ y) ∧ x_srchGo s j q n r σ (18, s, j) 1 = nI (m_srchGo u v q n r cn μ).2 ∧ x_srchGo s j q n r σ (18, s, j) 2 = σ (18, s, j) 2 ∧
    (∀ t, t < (m_srchGo u v q n r cn μ).2 → x_srchGo s j q n r σ (19, s, j) t = (m_srchGo u v q n r cn μ).1 (1, 17, 0) (100 * (5 * s + j) + t) ∧ 0 ≤ (x_srchGo s j q n r σ (19, s, j) t).toInt ∧ (x_srchGo s j q n r σ (19, s, j) t).toInt < (N : Int)) ∧
    (∀ a, ¬ (100 * (5 * s + j) ≤ a ∧ a < 100 * (5 * s + j) + 100) → (m_srchGo u v q n r cn μ).1 (1, 17, 0) a = μ (1, 17, 0) a) ∧ (∀ a, 0 ≤ ((m_srchGo u v q n r cn μ).1 (1, 17, 0) a).toInt ∧ ((m_srchGo u v q n r cn μ).1 (1, 17, 0) a).toInt < 100) := by
  intro n
  induction n with
  | zero => intro r cn σ μ hR hQ hN hq hr hc h1 h4 hB; exact ⟨fun _ _ _ => rfl, h1, rfl, h4, fun _ _ => rfl, hB⟩
  | succ n ih =>
    intro r cn σ μ hR hQ hN hq hr hc h1 h4 hB
    have hN1 := hR.2.1
    have hf := r_finds hR hQ (r := r) (by omega) hq
    rw [x_srchGo_s, m_srchGo_s]
    have e9 : ∀ y : g_S, y ≠ (2, 9, 0) → m_meets μ (nI r) q y = μ y := fun y h => m_meets_row h
    by_cases hh : (m_meets μ (nI r) q (2, 9, 0) (q.toInt).toNat).toInt = 0
    · rw [if_pos hh, if_neg (fun z => hf.mp z hh)]
      have := ih (r + 1) cn σ (m_meets μ (nI r) q) (r_R_9 hR (fun y a _ => e9 y a)) (r_Q_9 hQ (fun y a _ => e9 y a)) (by rw [e9 _ (by simp)]; exact hN) (by rw [e9 _ (by simp)]; exact hq) (by omega) (by omega) h1 (by rw [e9 _ (by simp)]; exact h4) (by rw [e9 _ (by simp)]; exact hB)
      rw [e9 (1, 17, 0) (by simp)] at this
      exact this
    · rw [if_neg hh, if_pos (hf.mpr hh)]
      have ei : ((100 * ((5 * u.toInt) + v.toInt)) + ((cn : Nat) : Int)).toNat = 100 * (5 * s + j) + cn := by omega
      rw [ei]
      have er : (nI r).toInt = (r : Int) := g_nIT (by omega)
      have ec : (nI cn).toInt = (cn : Int) := g_nIT (by omega)
      have ea : x_rsAdd σ s j (nI r) = g_up (g_up σ (19, s, j) cn (nI r)) (18, s, j) 1 (nI (cn + 1)) := by
        unfold x_rsAdd
        rw [h1, if_neg (by rw [ec]; omega), g_nIc (by omega), nI_s (by omega)]
      rw [ea]
      have x1 : ∀ y : g_S, y ≠ (18, s, j) → y ≠ (19, s, j) → g_up (g_up σ (19, s, j) cn (nI r)) (18, s, j) 1 (nI (cn + 1)) y = σ y := fun y a b => by rw [g_up_row a, g_up_row b]
      have xG : r_xG σ (g_up (g_up σ (19, s, j) cn (nI r)) (18, s, j) 1 (nI (cn + 1))) := fun k i q hk => x1 _ (by simp; omega) (by simp; omega)
      have m1 : ∀ y : g_S, y ≠ (2, 9, 0) → y ≠ (1, 17, 0) → g_up (m_meets μ (nI r) q) (1, 17, 0) (100 * (5 * s + j) + cn) (nI r) y = μ y := fun y a b => by rw [g_up_row b, e9 y a]
      have m17 : ∀ a, g_up (m_meets μ (nI r) q) (1, 17, 0) (100 * (5 * s + j) + cn) (nI r) (1, 17, 0) a = if a = 100 * (5 * s + j) + cn then nI r else μ (1, 17, 0) a := fun a => by rw [g_up_at, if_pos rfl, e9 (1, 17, 0) (by simp)]
      have x19 : ∀ a, g_up (g_up σ (19, s, j) cn (nI r)) (18, s, j) 1 (nI (cn + 1)) (19, s, j) a = if a = cn then nI r else σ (19, s, j) a := fun a => by rw [g_up_row (by simp), g_up_at, if_pos rfl]
      obtain ⟨i1, i2, i3, i4, i5, i6⟩ := ih (r + 1) (cn + 1) _ _ (r_R_x xG (r_R_9 hR m1)) (r_Q_x xG (r_Q_9 hQ m1)) (by rw [m1 _ (by simp) (by simp)]; exact hN) (by rw [m1 _ (by simp) (by simp)]; exact hq) (by omega) (by omega) g_up_same (fun t ht => by
        rw [x19, m17]
        by_cases e : t = cn
        · rw [if_pos e, if_pos (by omega), er]
          exact ⟨rfl, by omega, by omega⟩
        · rw [if_neg e, if_neg (by omega)]
          exact h4 t (by omega)) (fun a => by
        rw [m17]
        split
        · rw [er]; omega
        · exact hB a)
      refine ⟨fun y a b => by rw [i1 y a b, x1 y a b], i2, ?_, i4, fun a ha => ?_, i6⟩
      · rw [i3, g_up_at, if_pos rfl, if_neg (by decide), g_up_row (by simp)]
      · rw [i5 a ha, m17, if_neg (by omega)]
section RI
variable {ns : Nat} {kk : Nat → Nat} {σ μ : r_M}
theorem r_srch (h : rel ns kk σ μ) {s j : Nat} (hs : s < ns) (hj : j < kk s) {u v q : Int32} (hu : u.toInt = (s : Int)) (hv : v.toInt = (j : Int)) (hq : 0 ≤ q.toInt ∧ q.toInt < (μ (0, 0, 0) 4).toInt) : x_srch σ s j q (18, s, j) 1 = nI (m_srch μ u v q).2 ∧ (m_srch μ u v q).2 ≤ 100 ∧ (m_srchM μ u v q) (2, 13, 0) = μ (2, 13, 0) ∧ rel ns kk (x_srch σ s j q) (m_srchM μ u v q) := by
  have hn := h.1.2.1
  obtain ⟨N, hN⟩ : ∃ N : Nat, (μ (0, 0, 0) 1).toInt = (N : Int) := ⟨(μ (0, 0, 0) 1).toInt.toNat, by omega⟩
  have x1 : ∀ y : g_S, y ≠ (18, s, j) → x_make σ s j y = σ y := fun y a => by unfold x_make; rw [g_up_row a, g_up_row a]
  have xG : r_xG σ (x_make σ s j) := fun k i q hk => x1 _ (by simp; omega)
  obtain ⟨i1, i2, i3, i4, i5, i6⟩ := r_srchGo (s := s) (j := j) (N := N) (q := q) hu hv N 0 0 (x_make σ s j) μ (r_R_x xG h.1) (r_Q_x xG h.2.1) hN hq (by omega) (by omega) (by unfold x_make; rw [g_up_same]; rfl) (fun t ht => by omega) h.2.2.2.2.2.2
  have ex : x_srch σ s j q = x_srchGo s j q N 0 (x_make σ s j) := by
    unfold x_srch; rw [h.1.1, hN, Int.toNat_natCast]
  have em : m_srch μ u v q = m_srchGo u v q N 0 0 μ := by
    unfold m_srch; rw [hN, Int.toNat_natCast]
  have hle := m_srchGo_le u v q N 0 0 μ
  have ei : (5 * u.toInt + v.toInt).toNat = 5 * s + j := by omega
  have hc : (nI (m_srch μ u v q).2).toInt = (((m_srch μ u v q).2 : Nat) : Int) := g_nIT (by rw [em]; omega)
  rw [← ex, ← em] at i2 i4
  rw [← ex] at i1 i3
  rw [← em] at i5 i6 hle
  have mrow : ∀ y : g_S, y ≠ (2, 9, 0) → y ≠ (1, 17, 0) → (m_srch μ u v q).1 y = μ y := fun y a b => by unfold m_srch; exact m_srchGo_row u v q a b _ _ _ _
  refine ⟨i2, by omega, ?_, ?_⟩
  · unfold m_srchM
    rw [g_up_row (by simp), mrow _ (by simp) (by simp)]
  · unfold m_srchM
    rw [ei]
    have r17 : g_up (m_srch μ u v q).1 (1, 16, 0) (5 * s + j) (nI (m_srch μ u v q).2) (1, 17, 0) = (m_srch μ u v q).1 (1, 17, 0) := g_up_row (by simp)
    refine rel_set h hs hj (fun y a b => by rw [i1 y a b, x1 y a]) (fun y a b c => by rw [g_up_row b, mrow y a c]) (fun a ha => by rw [g_up_at, if_pos rfl, if_neg ha, mrow _ (by simp) (by simp)]) (fun a ha => by rw [r17]; exact i5 a ha) (by rw [i2, hc]; omega) (by rw [i3]; unfold x_make; rw [g_up_at, if_pos rfl, if_neg (by decide), g_up_same]) (by rw [i2, g_up_same]) (fun n hn2 => by rw [r17, hN]; exact i4 n (by rw [i2, hc] at hn2; omega)) (fun a => by rw [r17]; exact i6 a)
theorem r_search (h : rel ns kk σ μ) (u q v : Int32) : x_searchR σ ns kk u q v = m_searchR μ u q v ∧ rel ns kk (x_searchM σ ns kk u q v) (m_searchM μ u q v) := by
  unfold x_searchR m_searchR x_searchM m_searchM
  by_cases ho : (0 ≤ u.toInt ∧ u.toInt < (ns : Int)) ∧ ¬ (σ (11, u.toNatClampNeg, 0) 4).toInt = 0
  · have ho2 := (r_open h u).mp ho
    have hs : u.toInt.toNat < ns := by omega
    rw [if_pos ho, if_pos ho2, if_pos ho, if_pos ho2, g_cl]
    by_cases hq : 0 ≤ q.toInt ∧ q.toInt < (σ (2, 0, 0) 4).toInt
    · have hq1 := hq
      rw [h.2.1.1] at hq1
      have hq2 : 0 ≤ (q).toInt ∧ (q).toInt ≤ ((μ (0, 0, 0) 4).toInt - 1) := by omega
      rw [if_pos hq, if_pos hq, if_pos hq2, if_pos hq2]
      by_cases hv : 0 ≤ v.toInt ∧ v.toInt < ((kk u.toInt.toNat : Nat) : Int)
      · have hv2 := (r_name h hs v).mp hv
        rw [if_pos hv, if_pos hv, if_pos hv2, if_pos hv2, g_cl]
        obtain ⟨a, b, c, d⟩ := r_srch h (s := u.toInt.toNat) (j := v.toInt.toNat) hs (by omega) (u := u) (v := v) (q := q) (by omega) (by omega) hq1
        have e1 : (nI (m_srch μ u v q).2).toInt = (((m_srch μ u v q).2 : Nat) : Int) := g_nIT (by omega)
        rw [a, e1]
        by_cases hz : (((m_srch μ u v q).2 : Nat) : Int) = 0
        · rw [if_pos hz, if_pos hz, if_pos hz]
          refine ⟨rfl, r_tell d hs (by omega) ?_ 108⟩
          rw [c]
          exact r_op13 h ho
        · rw [if_neg hz, if_neg hz, if_neg hz]
          exact ⟨rfl, d⟩
      · have hv2 : ¬ (0 ≤ (v).toInt ∧ (v).toInt ≤ (if (μ (1, 11, 0) ((u).toInt).toNat &&& 4).toInt = 4 then (4 : Int) else 0)) := fun z => hv ((r_name h hs v).mpr z)
        rw [if_neg hv, if_neg hv, if_neg hv2, if_neg hv2]
        exact ⟨rfl, r_tl h ho 104⟩
    · have hq2 : ¬ (0 ≤ (q).toInt ∧ (q).toInt ≤ ((μ (0, 0, 0) 4).toInt - 1)) := by rw [h.2.1.1] at hq; omega
      rw [if_neg hq, if_neg hq, if_neg hq2, if_neg hq2]
      exact ⟨rfl, r_tl h ho 103⟩
  · have ho2 : ¬ _ := fun q => ho ((r_open h u).mpr q)
    rw [if_neg ho, if_neg ho2, if_neg ho, if_neg ho2]
    exact ⟨rfl, h⟩
end RI
