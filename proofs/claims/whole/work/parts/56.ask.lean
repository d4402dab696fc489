section RG
variable {ns : Nat} {kk : Nat → Nat} {σ μ : r_M}
theorem r_qstep (h : rel ns kk σ μ) (k' a b d' k d : Int32) (hq : (μ (0, 0, 0) 4).toInt < 40) (hok : (k.toInt = 0 ∧ k'.toInt = 1 ∧ d' = b ∧ 0 ≤ a.toInt ∧ a.toInt ≤ 4 ∧ 0 ≤ b.toInt) ∨ (k.toInt = 1 ∧ k'.toInt = 1 ∧ d' = d ∧ 0 ≤ a.toInt ∧ a.toInt ≤ 4 ∧ 0 ≤ b.toInt) ∨ ((2 ≤ k.toInt ∧ k.toInt ≤ 4) ∧ k' = k ∧ 0 ≤ a.toInt ∧ a.toInt < (μ (0, 0, 0) 4).toInt ∧ 0 ≤ b.toInt ∧ b.toInt < (μ (0, 0, 0) 4).toInt)) :
    rel ns kk (x_qM σ k' a b d') (g_up (g_up (g_up (g_up (g_up μ (1, 5, 0) ((μ (0, 0, 0) 4).toInt).toNat k) (1, 6, 0) ((μ (0, 0, 0) 4).toInt).toNat a) (1, 7, 0) ((μ (0, 0, 0) 4).toInt).toNat b) (1, 8, 0) ((μ (0, 0, 0) 4).toInt).toNat d) (0, 0, 0) 4 (μ (0, 0, 0) 4 + 1)) := by
  obtain ⟨e1, e2, e3⟩ := h.2.1
  unfold x_qM
  rw [e1, g_cl, if_neg (by omega)]
  have z1 : (1 : Int32).toInt = 1 := rfl
  have en : (μ (0, 0, 0) 4 + 1).toInt = (μ (0, 0, 0) 4).toInt + 1 := by rw [g_addI (by omega) (by omega), z1]
  obtain ⟨n, hn⟩ : ∃ n : Nat, (μ (0, 0, 0) 4).toInt = (n : Int) := ⟨(μ (0, 0, 0) 4).toInt.toNat, by omega⟩
  rw [show (μ (0, 0, 0) 4).toInt.toNat = n by omega]
  refine rel_glob h (fun i k j hk => ?_) (fun k hk => ?_) ?_ ?_ ?_ ?_ ?_
  · rw [g_up_row (by simp; omega), g_up_row (by simp; omega), g_up_row (by simp; omega), g_up_row (by simp; omega), g_up_row (by simp; omega)]
  · rw [g_up_row (by simp), g_up_row (by simp; omega), g_up_row (by simp; omega), g_up_row (by simp; omega), g_up_row (by simp; omega)]
  · rw [g_up_row (by simp), g_up_row (by simp), g_up_row (by simp), g_up_row (by simp), g_up_row (by simp)]
  · have hR := h.1
    have x1 : ∀ k i : Nat, k ≠ 2 → k ≠ 5 → k ≠ 6 → k ≠ 7 → k ≠ 8 → ∀ v, (g_up (g_up (g_up (g_up (g_up σ (5, 0, 0) n k') (6, 0, 0) n a) (7, 0, 0) n b) (8, 0, 0) n d') (2, 0, 0) 4 v) (k, i, 0) = σ (k, i, 0) := fun k i h1 h2 h3 h4 h5 v => by
      rw [g_up_row (by simp [h1]), g_up_row (by simp [h5]), g_up_row (by simp [h4]), g_up_row (by simp [h3]), g_up_row (by simp [h2])]
    have m1 : ∀ v, (g_up (g_up (g_up (g_up (g_up μ (1, 5, 0) n k) (1, 6, 0) n a) (1, 7, 0) n b) (1, 8, 0) n d) (0, 0, 0) 4 v) (0, 0, 0) 1 = μ (0, 0, 0) 1 := fun v => by simp [g_up_at]
    unfold r_R at hR ⊢
    rw [m1, x1 1 0 (by omega) (by omega) (by omega) (by omega) (by omega), x1 3 0 (by omega) (by omega) (by omega) (by omega) (by omega)]
    refine ⟨hR.1, hR.2.1, fun r hr => ?_, fun r x hr hx => ?_⟩
    · rw [g_up_row (by simp), g_up_row (by simp), g_up_row (by simp), g_up_row (by simp), g_up_row (by simp)]
      exact hR.2.2.1 r hr
    · rw [x1 10 x (by omega) (by omega) (by omega) (by omega) (by omega), g_up_row (by simp), g_up_row (by simp), g_up_row (by simp), g_up_row (by simp), g_up_row (by simp)]
      exact hR.2.2.2 r x hr hx
  · unfold r_Q
    rw [g_up_same, g_up_same, en]
    refine ⟨rfl, by omega, fun q hq2 => ?_⟩
    have x5 : ∀ v, (g_up (g_up (g_up (g_up (g_up σ (5, 0, 0) n k') (6, 0, 0) n a) (7, 0, 0) n b) (8, 0, 0) n d') (2, 0, 0) 4 v) (5, 0, 0) q = if q = n then k' else σ (5, 0, 0) q := fun v => by simp [g_up_at]
    have x6 : ∀ v, (g_up (g_up (g_up (g_up (g_up σ (5, 0, 0) n k') (6, 0, 0) n a) (7, 0, 0) n b) (8, 0, 0) n d') (2, 0, 0) 4 v) (6, 0, 0) q = if q = n then a else σ (6, 0, 0) q := fun v => by simp [g_up_at]
    have x7 : ∀ v, (g_up (g_up (g_up (g_up (g_up σ (5, 0, 0) n k') (6, 0, 0) n a) (7, 0, 0) n b) (8, 0, 0) n d') (2, 0, 0) 4 v) (7, 0, 0) q = if q = n then b else σ (7, 0, 0) q := fun v => by simp [g_up_at]
    have x8 : ∀ v, (g_up (g_up (g_up (g_up (g_up σ (5, 0, 0) n k') (6, 0, 0) n a) (7, 0, 0) n b) (8, 0, 0) n d') (2, 0, 0) 4 v) (8, 0, 0) q = if q = n then d' else σ (8, 0, 0) q := fun v => by simp [g_up_at]
    have m5 : ∀ v, (g_up (g_up (g_up (g_up (g_up μ (1, 5, 0) n k) (1, 6, 0) n a) (1, 7, 0) n b) (1, 8, 0) n d) (0, 0, 0) 4 v) (1, 5, 0) q = if q = n then k else μ (1, 5, 0) q := fun v => by simp [g_up_at]
    have m6 : ∀ v, (g_up (g_up (g_up (g_up (g_up μ (1, 5, 0) n k) (1, 6, 0) n a) (1, 7, 0) n b) (1, 8, 0) n d) (0, 0, 0) 4 v) (1, 6, 0) q = if q = n then a else μ (1, 6, 0) q := fun v => by simp [g_up_at]
    have m7 : ∀ v, (g_up (g_up (g_up (g_up (g_up μ (1, 5, 0) n k) (1, 6, 0) n a) (1, 7, 0) n b) (1, 8, 0) n d) (0, 0, 0) 4 v) (1, 7, 0) q = if q = n then b else μ (1, 7, 0) q := fun v => by simp [g_up_at]
    have m8 : ∀ v, (g_up (g_up (g_up (g_up (g_up μ (1, 5, 0) n k) (1, 6, 0) n a) (1, 7, 0) n b) (1, 8, 0) n d) (0, 0, 0) 4 v) (1, 8, 0) q = if q = n then d else μ (1, 8, 0) q := fun v => by simp [g_up_at]
    unfold r_Q1
    rw [x5, x6, x7, x8, m5, m6, m7, m8]
    by_cases e : q = n
    · simp only [if_pos e]
      rcases hok with ⟨c1, c2, c3, c4, c5, c6⟩ | ⟨c1, c2, c3, c4, c5, c6⟩ | ⟨c1, c2, c3, c4, c5, c6⟩
      · exact Or.inl ⟨c1, c2, trivial, trivial, c3, c4, c5, c6⟩
      · exact Or.inr (Or.inl ⟨c1, c2, trivial, trivial, c3, c4, c5, c6⟩)
      · exact Or.inr (Or.inr ⟨c1, c2, trivial, trivial, c3, by omega, c5, by omega⟩)
    · simp only [if_neg e]
      exact e3 q (by omega)
  · have hN := h.2.2.1
    unfold r_N at hN ⊢
    rw [show ∀ v, (g_up (g_up (g_up (g_up (g_up μ (1, 5, 0) n k) (1, 6, 0) n a) (1, 7, 0) n b) (1, 8, 0) n d) (0, 0, 0) 4 v) (0, 0, 0) 10 = μ (0, 0, 0) 10 from fun v => by simp [g_up_at]]
    rw [g_up_row (by simp), g_up_row (by simp), g_up_row (by simp), g_up_row (by simp), g_up_row (by simp)]
    exact hN
  · rw [show ∀ v, (g_up (g_up (g_up (g_up (g_up μ (1, 5, 0) n k) (1, 6, 0) n a) (1, 7, 0) n b) (1, 8, 0) n d) (0, 0, 0) 4 v) (0, 0, 0) 1 = μ (0, 0, 0) 1 from fun v => by simp [g_up_at]]
    exact Int.le_refl _
theorem r_question (h : rel ns kk σ μ) (k a b d : Int32) : x_qsR σ k a b d = m_qsR μ k a b d ∧ rel ns kk (x_qsM σ k a b d) (m_qsM μ k a b d) := by
  obtain ⟨e1, e2, -⟩ := h.2.1
  have full : 40 ≤ (μ (0, 0, 0) 4).toInt → ∀ k' a' b' d' : Int32, x_qM σ k' a' b' d' = σ := fun hf k' a' b' d' => by unfold x_qM; rw [e1, if_pos hf]
  unfold x_qsR m_qsR x_qsM m_qsM x_rngR x_rngM x_pairR x_pairM x_qR
  rw [e1]
  by_cases hc : (((k.toInt = 0 ∧ (0 ≤ a.toInt ∧ a.toInt ≤ 4) ∧ (0 ≤ b.toInt ∧ b.toInt ≤ 999)) ∨ (k.toInt = 1 ∧ (0 ≤ a.toInt ∧ a.toInt ≤ 4) ∧ (0 ≤ b.toInt ∧ b.toInt ≤ 999) ∧ (0 ≤ d.toInt ∧ d.toInt ≤ 999) ∧ b.toInt ≤ d.toInt)) ∨ ((2 ≤ k.toInt ∧ k.toInt ≤ 4) ∧ (0 ≤ a.toInt ∧ a.toInt ≤ (μ (0, 0, 0) 4).toInt - 1) ∧ (0 ≤ b.toInt ∧ b.toInt ≤ (μ (0, 0, 0) 4).toInt - 1))) ∧ ¬ (μ (0, 0, 0) 4).toInt = 40
  · rw [if_pos hc, if_pos hc]
    have hf : ¬ 40 ≤ (μ (0, 0, 0) 4).toInt := by omega
    rcases hc.1 with (c | c) | c
    · have c2 : ((0 ≤ a.toInt ∧ a.toInt < 5) ∧ (0 ≤ b.toInt ∧ b.toInt ≤ 999)) ∧ ((0 ≤ b.toInt ∧ b.toInt ≤ 999) ∧ b.toInt ≤ b.toInt) := by omega
      rw [if_pos c.1, if_pos c2, if_neg hf, if_pos c.1, if_pos c2]
      exact ⟨rfl, r_qstep h 1 a b b k d (by omega) (Or.inl ⟨c.1, rfl, rfl, by omega, by omega, by omega⟩)⟩
    · have c2 : ((0 ≤ a.toInt ∧ a.toInt < 5) ∧ (0 ≤ b.toInt ∧ b.toInt ≤ 999)) ∧ ((0 ≤ d.toInt ∧ d.toInt ≤ 999) ∧ b.toInt ≤ d.toInt) := by omega
      have k0 : ¬ k.toInt = 0 := by omega
      rw [if_neg k0, if_pos c.1, if_pos c2, if_neg hf, if_neg k0, if_pos c.1, if_pos c2]
      exact ⟨rfl, r_qstep h 1 a b d k d (by omega) (Or.inr (Or.inl ⟨c.1, rfl, rfl, by omega, by omega, by omega⟩))⟩
    · have c2 : (2 ≤ k.toInt ∧ k.toInt ≤ 4) ∧ (0 ≤ a.toInt ∧ a.toInt < (μ (0, 0, 0) 4).toInt) ∧ (0 ≤ b.toInt ∧ b.toInt < (μ (0, 0, 0) 4).toInt) := by omega
      have k0 : ¬ k.toInt = 0 := by omega
      have k1 : ¬ k.toInt = 1 := by omega
      rw [if_neg k0, if_neg k1, if_pos c2, if_neg hf, if_neg k0, if_neg k1, if_pos c2]
      exact ⟨rfl, r_qstep h k a b 0 k d (by omega) (Or.inr (Or.inr ⟨c2.1, rfl, by omega, by omega, by omega, by omega⟩))⟩
  · rw [if_neg hc, if_neg hc]
    by_cases hf : 40 ≤ (μ (0, 0, 0) 4).toInt
    · simp only [full hf, if_pos hf, ite_self]
      exact ⟨trivial, h⟩
    · have c1 : k.toInt = 0 → ¬ (((0 ≤ a.toInt ∧ a.toInt < 5) ∧ (0 ≤ b.toInt ∧ b.toInt ≤ 999)) ∧ ((0 ≤ b.toInt ∧ b.toInt ≤ 999) ∧ b.toInt ≤ b.toInt)) := by omega
      have c2 : k.toInt = 1 → ¬ (((0 ≤ a.toInt ∧ a.toInt < 5) ∧ (0 ≤ b.toInt ∧ b.toInt ≤ 999)) ∧ ((0 ≤ d.toInt ∧ d.toInt ≤ 999) ∧ b.toInt ≤ d.toInt)) := by omega
      have c3 : ¬ ((2 ≤ k.toInt ∧ k.toInt ≤ 4) ∧ (0 ≤ a.toInt ∧ a.toInt < (μ (0, 0, 0) 4).toInt) ∧ (0 ≤ b.toInt ∧ b.toInt < (μ (0, 0, 0) 4).toInt)) := by omega
      by_cases k0 : k.toInt = 0
      · rw [if_pos k0, if_neg (c1 k0), if_pos k0, if_neg (c1 k0)]; exact ⟨rfl, h⟩
      · by_cases k1 : k.toInt = 1
        · rw [if_neg k0, if_pos k1, if_neg (c2 k1), if_neg k0, if_pos k1, if_neg (c2 k1)]; exact ⟨rfl, h⟩
        · rw [if_neg k0, if_neg k1, if_neg c3, if_neg k0, if_neg k1, if_neg c3]; exact ⟨rfl, h⟩
theorem r_sessionN (h : rel ns kk σ μ) (p q : Int32) (hC : ¬ (0 ≤ p.toInt ∧ p.toInt ≤ 7 ∧ 1 ≤ q.toInt ∧ q.toInt ≤ 1000 ∧ ns < 8)) : -1 = m_sesR μ p q ∧ rel ns kk σ (m_sesM μ p q) := by
  have hN := h.2.2.1.2
  have hc : ¬ ((0 ≤ p.toInt ∧ p.toInt ≤ 7) ∧ (1 ≤ q.toInt ∧ q.toInt ≤ 1000) ∧ ¬ (μ (0, 0, 0) 10).toInt = 8) := by omega
  unfold m_sesR m_sesM
  rw [if_neg hc, if_neg hc]
  exact ⟨rfl, h⟩
theorem r_sessionY (h : rel ns kk σ μ) (p q : Int32) (hC : 0 ≤ p.toInt ∧ p.toInt ≤ 7 ∧ 1 ≤ q.toInt ∧ q.toInt ≤ 1000 ∧ ns < 8) : σ (0, 0, 0) 3 = m_sesR μ p q ∧ rel (ns + 1) (x_kk kk ns p) (x_sesM σ ns p q) (m_sesM μ p q) := by
  obtain ⟨n1, n2, n3⟩ := h.2.2.1
  have hc : (0 ≤ p.toInt ∧ p.toInt ≤ 7) ∧ (1 ≤ q.toInt ∧ q.toInt ≤ 1000) ∧ ¬ (μ (0, 0, 0) 10).toInt = 8 := by omega
  unfold m_sesR m_sesM
  rw [if_pos hc, if_pos hc]
  refine ⟨by rw [Int32.add_sub_cancel, n1], ?_⟩
  have z1 : (1 : Int32).toInt = 1 := rfl
  have en : (μ (0, 0, 0) 10 + 1).toInt = (μ (0, 0, 0) 10).toInt + 1 := by rw [g_addI (by omega) (by omega), z1]
  rw [show (μ (0, 0, 0) 10).toInt.toNat = ns by omega]
  have mrow : ∀ y : g_S, y ≠ (1, 11, 0) → y ≠ (1, 12, 0) → y ≠ (0, 0, 0) → g_up (g_up (g_up μ (1, 11, 0) ns p) (1, 12, 0) ns q) (0, 0, 0) 10 (μ (0, 0, 0) 10 + 1) y = μ y := fun y h1 h2 h3 => by rw [g_up_row h3, g_up_row h2, g_up_row h1]
  have m11 : ∀ a, g_up (g_up (g_up μ (1, 11, 0) ns p) (1, 12, 0) ns q) (0, 0, 0) 10 (μ (0, 0, 0) 10 + 1) (1, 11, 0) a = if a = ns then p else μ (1, 11, 0) a := fun a => by simp [g_up_at]
  have m12 : ∀ a, g_up (g_up (g_up μ (1, 11, 0) ns p) (1, 12, 0) ns q) (0, 0, 0) 10 (μ (0, 0, 0) 10 + 1) (1, 12, 0) a = if a = ns then q else μ (1, 12, 0) a := fun a => by simp [g_up_at]
  have m0 : ∀ a, g_up (g_up (g_up μ (1, 11, 0) ns p) (1, 12, 0) ns q) (0, 0, 0) 10 (μ (0, 0, 0) 10 + 1) (0, 0, 0) a = if a = 10 then μ (0, 0, 0) 10 + 1 else μ (0, 0, 0) a := fun a => by simp [g_up_at]
  have xrow : ∀ k i j : Nat, (k < 11 ∨ i ≠ ns) → k ≠ 0 → x_sesM σ ns p q (k, i, j) = σ (k, i, j) := fun k i j h1 h2 => by
    unfold x_sesM
    rw [if_neg (by show ¬ (11 ≤ k ∧ i = ns); omega), if_neg (by simp [h2])]
  have x0 : ∀ a, x_sesM σ ns p q (0, 0, 0) a = if a = 3 then σ (0, 0, 0) 3 + 1 else σ (0, 0, 0) a := fun a => by
    unfold x_sesM upd
    rw [if_neg (by simp), if_pos rfl]
  have xn : ∀ k j a : Nat, 11 ≤ k → x_sesM σ ns p q (k, ns, j) a = x_new p q k a := fun k j a hk => by
    unfold x_sesM
    rw [if_pos ⟨hk, rfl⟩]
  generalize g_up (g_up (g_up μ (1, 11, 0) ns p) (1, 12, 0) ns q) (0, 0, 0) 10 (μ (0, 0, 0) 10 + 1) = ν at *
  have hE : ∀ i, i ≠ ns → r_mE μ ν i := fun i hi => by
    refine ⟨⟨⟨?_, ?_, ?_, ?_, ?_⟩, ?_, ?_, ?_⟩, fun j hj => ?_, fun j n hj hn => ?_, fun n hn => ⟨?_, ?_, ?_, ?_⟩, fun n hn => ⟨?_, ?_⟩⟩
    case refine_1 => rw [m11, if_neg hi]
    case refine_2 => rw [m12, if_neg hi]
    all_goals rw [mrow _ (by simp) (by simp) (by simp)]
  refine ⟨?_, ?_, ?_, fun i hi => ?_, fun i h1 h2 => r_U_congr (h.2.2.2.2.1 i (by omega) h2) (hE i (by omega)), ?_⟩
  · have hR := h.1
    unfold r_R at hR ⊢
    rw [m0, if_neg (by decide), mrow _ (by simp) (by simp) (by simp), mrow _ (by simp) (by simp) (by simp), xrow 1 0 0 (by omega) (by omega), xrow 3 0 0 (by omega) (by omega)]
    refine ⟨hR.1, hR.2.1, hR.2.2.1, fun r x hr hx => ?_⟩
    rw [xrow 10 x 0 (by omega) (by omega)]
    exact hR.2.2.2 r x hr hx
  · have hQ := h.2.1
    unfold r_Q r_Q1 at hQ ⊢
    rw [m0, if_neg (by decide), mrow _ (by simp) (by simp) (by simp), mrow _ (by simp) (by simp) (by simp), mrow _ (by simp) (by simp) (by simp), mrow _ (by simp) (by simp) (by simp), xrow 2 0 0 (by omega) (by omega), xrow 5 0 0 (by omega) (by omega), xrow 6 0 0 (by omega) (by omega), xrow 7 0 0 (by omega) (by omega), xrow 8 0 0 (by omega) (by omega)]
    exact hQ
  · unfold r_N
    rw [x0, m0, if_pos rfl, if_pos rfl, n1, en]
    exact ⟨rfl, by omega, by omega⟩
  · by_cases e : i = ns
    · subst e
      obtain ⟨u1, u2, u3, u4, u5, u6, u7⟩ := h.2.2.2.2.1 i (by omega) (by omega)
      have ekk : x_kk kk i p i = if (p &&& 4).toInt = 0 then 1 else 5 := by unfold x_kk; rw [if_pos rfl]
      rw [ekk]
      refine ⟨?_, fun j hj => ?_, ?_, ?_⟩
      · unfold r_O
        rw [xn 11 0 0 (by omega), xn 13 0 0 (by omega), xn 11 0 5 (by omega), xn 11 0 6 (by omega), xn 11 0 4 (by omega), m11, m12, if_pos rfl, if_pos rfl, mrow _ (by simp) (by simp) (by simp), mrow _ (by simp) (by simp) (by simp), mrow _ (by simp) (by simp) (by simp), u1, u2, u3]
        exact ⟨rfl, hc.1, rfl, rfl, hc.2.1, rfl, rfl, Or.inl ⟨rfl, rfl, by decide, by decide⟩⟩
      · unfold r_T
        rw [xn 18 j 1 (by omega), xn 18 j 2 (by omega), mrow _ (by simp) (by simp) (by simp), u4 j hj]
        by_cases hk : j < (if (p &&& 4).toInt = 0 then 1 else 5)
        · exact Or.inl ⟨hk, by show 0 ≤ (0 : Int32).toInt ∧ (0 : Int32).toInt ≤ 100; decide, Or.inr ⟨rfl, rfl⟩⟩
        · exact Or.inr ⟨Nat.not_lt.mp hk, rfl⟩
      · unfold r_P
        rw [xn 13 0 4 (by omega), xn 13 0 5 (by omega), mrow _ (by simp) (by simp) (by simp), mrow _ (by simp) (by simp) (by simp), u5, u6]
        have z0 : (x_new p q 13 4).toInt = 0 := rfl
        have z5 : (x_new p q 13 5).toInt = 0 := rfl
        exact ⟨rfl, rfl, by rw [z0, z5]; omega, fun n hn => by rw [z0] at hn; omega, fun g hg => by rw [z5] at hg; omega⟩
      · unfold r_Z
        rw [xn 17 0 2 (by omega), mrow _ (by simp) (by simp) (by simp), u7]
        have z2 : (x_new p q 17 2).toInt = 0 := rfl
        exact ⟨rfl, by rw [z2]; omega, fun n hn => by rw [z2] at hn; omega⟩
    · have hi2 : i < ns := by omega
      have ekk : x_kk kk ns p i = kk i := by unfold x_kk; rw [if_neg e]
      rw [ekk]
      exact r_S_congr (h.2.2.2.1 i hi2) (fun k j hk => xrow k i j (Or.inr e) (by omega)) (hE i e) (by rw [m0, if_neg (by decide)]; exact Int.le_refl _)
  · unfold r_B
    rw [mrow _ (by simp) (by simp) (by simp), mrow _ (by simp) (by simp) (by simp)]
    exact h.2.2.2.2.2
theorem r_start : rel 0 (fun _ => 0) (fun _ _ => 0) (fun z => if z = (1, 16, 0) then m_f0 40 else fun _ => 0) := by
  refine ⟨⟨rfl, by decide, fun r hr => ?_, fun r x hr hx => ?_⟩, ⟨rfl, by decide, fun q hq => ?_⟩, ⟨rfl, rfl, by omega⟩, fun i hi => by omega, fun i h1 h2 => ⟨rfl, rfl, rfl, fun j hj => ?_, rfl, rfl, rfl⟩, fun j => ?_, fun j => ?_⟩
  · have h0 : (r : Int) < 0 := hr
    omega
  · have h0 : (r : Int) < 0 := hr
    omega
  · have h0 : (q : Int) < 0 := hq
    omega
  · show m_f0 40 (5 * i + j) = -1
    unfold m_f0
    rw [if_pos (by omega)]
  · show -1 ≤ (m_f0 40 j).toInt ∧ (m_f0 40 j).toInt ≤ 100
    unfold m_f0
    split <;> decide
  · show 0 ≤ (0 : Int32).toInt ∧ (0 : Int32).toInt < 100
    decide
end RG
