/-! questions: the bits -/
theorem b_k63 : ∀ k : Fin 64, ((nI k.val).toInt64 &&& 63) = Int64.ofNat k.val := by decide
theorem b_smod : ∀ k : Fin 64, ((Int64.ofNat k.val).toBitVec.smod 64).toNat = k.val := by decide
theorem b_one (x : BitVec 64) : x &&& 1#64 = 0#64 ↔ x.getLsbD 0 = false := by
  constructor
  · intro h
    have := congrArg (fun z : BitVec 64 => z.getLsbD 0) h
    simpa using this
  · intro h
    apply BitVec.eq_of_getLsbD_eq
    intro i hi
    rw [BitVec.getLsbD_and, BitVec.getLsbD_one, BitVec.getLsbD_zero]
    by_cases e : i = 0
    · subst e; rw [h]; rfl
    · simp [e]
theorem b_x (yes : Int64) {k : Nat} (hk : k < 64) : x_bit yes (nI k) ↔ yes.toBitVec.getLsbD k = true := by
  unfold x_bit
  rw [b_k63 ⟨k, hk⟩]
  rw [← Int64.toBitVec_inj, Int64.toBitVec_and, Int64.toBitVec_shiftRight, BitVec.sshiftRight_eq', b_smod ⟨k, hk⟩]
  have e : (1 : Int64).toBitVec = 1#64 := rfl
  have e0 : (0 : Int64).toBitVec = 0#64 := rfl
  rw [e, e0, b_one, BitVec.getLsbD_sshiftRight]
  simp [hk]
theorem b_or (yes : Int64) {k : Nat} (hk : k < 64) (t : Nat) (ht : t < 64) : (yes ||| (1 <<< ((nI k).toInt64 &&& 63))).toBitVec.getLsbD t = (yes.toBitVec.getLsbD t || decide (t = k)) := by
  rw [b_k63 ⟨k, hk⟩]
  rw [Int64.toBitVec_or, Int64.toBitVec_shiftLeft, BitVec.getLsbD_or]
  have e : (1 : Int64).toBitVec = 1#64 := rfl
  rw [e]
  congr 1
  rw [BitVec.shiftLeft_eq', b_smod ⟨k, hk⟩, BitVec.getLsbD_shiftLeft, BitVec.getLsbD_one]
  by_cases h : t = k
  · subst h; simp [ht]
  · by_cases h2 : t < k
    · simp [h2, h]
    · have : t - k ≠ 0 := by omega
      simp [h, this]
theorem r_nI {w : Int32} (h : 0 ≤ w.toInt) : nI w.toInt.toNat = w := by
  have hw := g_rng w
  rw [g_eqI, g_nIT (by omega)]
  omega
theorem b_w (yes : Int64) {w : Int32} (h : 0 ≤ w.toInt ∧ w.toInt < 64) : x_bit yes w ↔ yes.toBitVec.getLsbD w.toInt.toNat = true := by
  have e := r_nI h.1
  rw [← b_x yes (k := w.toInt.toNat) (by omega), e]
theorem r_termOf {σ μ : r_M} (hR : r_R σ μ) {r : Nat} (hr : (r : Int) < (μ (0, 0, 0) 1).toInt) {x : Int32} (hx : 0 ≤ x.toInt ∧ x.toInt ≤ 4) : x_termOf σ (nI r) x = μ (1, 3, 0) (5 * r + x.toInt.toNat) := by
  obtain ⟨h1, h2, h3, h4⟩ := hR
  have e : (nI r).toInt = (r : Int) := g_nIT (by omega)
  unfold x_termOf
  rw [if_pos (by rw [e, h1]; omega), g_cl, g_cl, e, Int.toNat_natCast]
  exact (h4 r x.toInt.toNat hr (by omega)).1
theorem r_hold {σ μ : r_M} (hR : r_R σ μ) (hQ : r_Q σ μ) {k r : Nat} (hk : (k : Int) < (μ (0, 0, 0) 4).toInt) (hr : (r : Int) < (μ (0, 0, 0) 1).toInt) (yes : Int64) (hb : ∀ t, t < k → (yes.toBitVec.getLsbD t = true ↔ ¬ (μ (2, 9, 0) t).toInt = 0)) : x_holdsI σ (nI k) (nI r) yes = m_holdI μ (nI r) k := by
  have hn := hR.2.1
  have hq := hQ.2.1
  have er : (nI r).toInt = (r : Int) := g_nIT (by omega)
  have ek : (nI k).toNatClampNeg = k := g_nIc (by omega)
  unfold x_holdsI m_holdI
  rw [ek, er]
  have z1 : (1 : Int32).toInt = 1 := rfl
  rcases hQ.2.2 k hk with ⟨a, b, c, d, e, f, g, p⟩ | ⟨a, b, c, d, e, f, g, p⟩ | ⟨a, b, c, d, f, g, p, q⟩
  · rw [a, b, if_neg (by decide), if_neg (by decide), if_neg (by decide), if_pos rfl, c, d, e, r_termOf hR hr ⟨f, g⟩]
    have ei : (5 * (r : Int) + (μ (1, 6, 0) k).toInt).toNat = 5 * r + (μ (1, 6, 0) k).toInt.toNat := by omega
    rw [ei]
    generalize (μ (1, 3, 0) (5 * r + (μ (1, 6, 0) k).toInt.toNat)).toInt = T
    generalize (μ (1, 7, 0) k).toInt = B
    by_cases h : T = B
    · rw [if_pos h, if_pos (by omega)]
    · rw [if_neg h, if_neg (by omega)]
  · rw [a, b, if_neg (c := (1 : Int) = 2) (by decide), if_neg (c := (1 : Int) = 3) (by decide), if_neg (c := (1 : Int) = 4) (by decide), if_neg (c := (1 : Int) = 0) (by decide), if_pos (c := (1 : Int) = 1) rfl, c, d, e, r_termOf hR hr ⟨f, g⟩]
    have ei : (5 * (r : Int) + (μ (1, 6, 0) k).toInt).toNat = 5 * r + (μ (1, 6, 0) k).toInt.toNat := by omega
    rw [ei]
    rfl
  · rw [b, c, d]
    have h6 := (b_w yes (w := μ (1, 6, 0) k) ⟨f, by omega⟩).trans (hb (μ (1, 6, 0) k).toInt.toNat (by omega))
    have h7 := (b_w yes (w := μ (1, 7, 0) k) ⟨p, by omega⟩).trans (hb (μ (1, 7, 0) k).toInt.toNat (by omega))
    rw [if_neg (c := (μ (1, 5, 0) k).toInt = 0) (by omega), if_neg (c := (μ (1, 5, 0) k).toInt = 1) (by omega)]
    simp only [h6, h7]
    by_cases h2 : (μ (1, 5, 0) k).toInt = 2
    · rw [if_pos h2, if_pos h2]
    · rw [if_neg h2, if_neg h2]
      by_cases h3 : (μ (1, 5, 0) k).toInt = 3
      · rw [if_pos h3, if_pos h3]
      · rw [if_neg h3, if_neg h3, if_pos (by omega)]
        simp only [Decidable.not_not]
theorem r_R_9 {σ μ : r_M} (h : r_R σ μ) {ν : r_M} (e : ∀ y : g_S, y ≠ (2, 9, 0) → y ≠ (1, 17, 0) → ν y = μ y) : r_R σ ν := by
  unfold r_R at *
  rw [e (0, 0, 0) (by simp) (by simp), e (1, 2, 0) (by simp) (by simp), e (1, 3, 0) (by simp) (by simp)]
  exact h
theorem r_Q_9 {σ μ : r_M} (h : r_Q σ μ) {ν : r_M} (e : ∀ y : g_S, y ≠ (2, 9, 0) → y ≠ (1, 17, 0) → ν y = μ y) : r_Q σ ν := by
  unfold r_Q r_Q1 at *
  rw [e (0, 0, 0) (by simp) (by simp), e (1, 5, 0) (by simp) (by simp), e (1, 6, 0) (by simp) (by simp), e (1, 7, 0) (by simp) (by simp), e (1, 8, 0) (by simp) (by simp)]
  exact h
theorem r_meets {σ : r_M} {r : Nat} : ∀ (n k : Nat) (μ : r_M) (yes : Int64), r_R σ μ → r_Q σ μ → (r : Int) < (μ (0, 0, 0) 1).toInt → ((k + n : Nat) : Int) ≤ (μ (0, 0, 0) 4).toInt → (∀ t, t < k → (yes.toBitVec.getLsbD t = true ↔ ¬ (μ (2, 9, 0) t).toInt = 0)) → (∀ t, k ≤ t → t < 64 → yes.toBitVec.getLsbD t = false) →
    ∀ t, t < k + n → ((x_yesGo σ (nI r) n k yes).toBitVec.getLsbD t = true ↔ ¬ (m_meetsGo (nI r) n k μ (2, 9, 0) t).toInt = 0) := by
  intro n
  induction n with
  | zero => intro k μ yes _ _ _ _ h1 _ t ht; exact h1 t ht
  | succ n ih =>
    intro k μ yes hR hQ hr hk h1 h2 t ht
    have hq := hQ.2.1
    rw [x_yesGo_s, m_meetsGo_s, r_hold hR hQ (by omega) hr yes h1]
    have e : ∀ y : g_S, y ≠ (2, 9, 0) → y ≠ (1, 17, 0) → g_up μ (2, 9, 0) k (m_holdI μ (nI r) k) y = μ y := fun y h _ => g_up_row h
    have e0 := e (0, 0, 0) (by simp) (by simp)
    refine ih (k + 1) _ _ (r_R_9 hR e) (r_Q_9 hQ e) (by rw [e0]; exact hr) (by rw [e0]; omega) (fun t ht => ?_) (fun t h3 h4 => ?_) t (by omega)
    · rw [g_up_at, if_pos rfl]
      by_cases c : t = k
      · subst c
        rw [if_pos rfl]
        by_cases hh : (m_holdI μ (nI r) t).toInt = 0
        · rw [if_pos hh, h2 t (by omega) (by omega)]
          simp [hh]
        · rw [if_neg hh, b_or yes (by omega) t (by omega)]
          simp [hh]
      · rw [if_neg c, ← h1 t (by omega)]
        by_cases hh : (m_holdI μ (nI r) k).toInt = 0
        · rw [if_pos hh]
        · rw [if_neg hh, b_or yes (by omega) t (by omega)]
          simp [c]
    · by_cases hh : (m_holdI μ (nI r) k).toInt = 0
      · rw [if_pos hh]; exact h2 t (by omega) h4
      · rw [if_neg hh, b_or yes (by omega) t h4, h2 t (by omega) h4]
        simp; omega
theorem r_finds {σ μ : r_M} (hR : r_R σ μ) (hQ : r_Q σ μ) {r : Nat} (hr : (r : Int) < (μ (0, 0, 0) 1).toInt) {q : Int32} (hq : 0 ≤ q.toInt ∧ q.toInt < (μ (0, 0, 0) 4).toInt) : x_findsP σ q (nI r) ↔ ¬ (m_meets μ (nI r) q (2, 9, 0) q.toInt.toNat).toInt = 0 := by
  have h4 := hQ.2.1
  have e := b_w (x_yesGo σ (nI r) (q.toInt.toNat + 1) 0 0) (w := q) ⟨hq.1, by omega⟩
  have e2 := r_meets (σ := σ) (r := r) (q.toInt.toNat + 1) 0 μ 0 hR hQ hr (by omega) (fun t ht => by omega) (fun t _ _ => by simp) q.toInt.toNat (by omega)
  unfold x_findsP m_meets
  rw [hQ.1, ← e2, ← e]
  exact ⟨fun h => h.2, fun h => ⟨hq, h⟩⟩
