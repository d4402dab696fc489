/-! presenting -/
def r_PI (s k pt : Nat) (σ μ : r_M) : Prop := σ (13, s, 0) 4 = nI k ∧ σ (13, s, 0) 5 = nI pt ∧ pt ≤ k ∧ k ≤ 100 ∧ (∀ n, n < k → σ (14, s, 0) n = μ (1, 19, 0) (100 * s + n)) ∧
  ∀ g, g < pt → σ (15, s, 0) g = μ (1, 21, 0) (100 * s + g) ∧ σ (16, s, 0) g = μ (1, 23, 0) (100 * s + g) ∧ μ (1, 22, 0) (100 * s + g) = (if g + 1 < pt then σ (15, s, 0) (g + 1) else nI k) - σ (15, s, 0) g
def r_PF (s : Nat) (σ0 σ : r_M) : Prop := (∀ y : g_S, y ≠ (13, s, 0) → y ≠ (14, s, 0) → y ≠ (15, s, 0) → y ≠ (16, s, 0) → σ y = σ0 y) ∧ ∀ q, q ≠ 4 → q ≠ 5 → σ (13, s, 0) q = σ0 (13, s, 0) q
def r_PG (s : Nat) (μ0 μ : r_M) : Prop := (∀ y : g_S, y ≠ (1, 19, 0) → y ≠ (1, 21, 0) → y ≠ (1, 22, 0) → y ≠ (1, 23, 0) → μ y = μ0 y) ∧ ∀ a, ¬ (100 * s ≤ a ∧ a < 100 * s + 100) → μ (1, 19, 0) a = μ0 (1, 19, 0) a ∧ μ (1, 21, 0) a = μ0 (1, 21, 0) a ∧ μ (1, 22, 0) a = μ0 (1, 22, 0) a ∧ μ (1, 23, 0) a = μ0 (1, 23, 0) a
theorem b_sub1 (a b : Int32) : a - b + 1 = a + 1 - b := by
  rw [← Int32.toBitVec_inj]
  simp only [Int32.toBitVec_add, Int32.toBitVec_sub]
  generalize a.toBitVec = x
  generalize b.toBitVec = y
  generalize (1 : Int32).toBitVec = z
  rw [BitVec.sub_eq_add_neg, BitVec.sub_eq_add_neg, BitVec.add_assoc, BitVec.add_comm (-y) z, BitVec.add_assoc]
theorem b_sub2 (a : Int32) : a + 1 - a = 1 := by
  rw [← b_sub1]
  simp
theorem r_grow {s k pt : Nat} {σ μ σ0 μ0 : r_M} {R Z : Int32} (hp : 0 < pt) (hk : k < 100) (h : r_PI s k pt σ μ) (hF : r_PF s σ0 σ) (hG : r_PG s μ0 μ) {σ' μ' : r_M} (hσ : σ' = g_up (g_up (g_up σ (16, s, 0) (pt - 1) (σ (16, s, 0) (pt - 1) + Z)) (14, s, 0) k R) (13, s, 0) 4 (nI (k + 1))) (hμ : μ' = g_up (g_up (g_up μ (1, 19, 0) (100 * s + k) R) (1, 22, 0) (100 * s + (pt - 1)) (μ (1, 22, 0) (100 * s + (pt - 1)) + 1)) (1, 23, 0) (100 * s + (pt - 1)) (μ (1, 23, 0) (100 * s + (pt - 1)) + Z)) : r_PI s (k + 1) pt σ' μ' ∧ r_PF s σ0 σ' ∧ r_PG s μ0 μ' := by
  obtain ⟨h4, h5, h6, h7, h8, h9⟩ := h
  have a13 : ∀ q, σ' (13, s, 0) q = if q = 4 then nI (k + 1) else σ (13, s, 0) q := fun q => by
    rw [hσ, g_up_at, if_pos rfl, g_up_row (by simp), g_up_row (by simp)]
  have a14 : ∀ q, σ' (14, s, 0) q = if q = k then R else σ (14, s, 0) q := fun q => by
    rw [hσ, g_up_row (by simp), g_up_at, if_pos rfl, g_up_row (by simp)]
  have a15 : σ' (15, s, 0) = σ (15, s, 0) := by
    rw [hσ, g_up_row (by simp), g_up_row (by simp), g_up_row (by simp)]
  have a16 : ∀ q, σ' (16, s, 0) q = if q = pt - 1 then σ (16, s, 0) (pt - 1) + Z else σ (16, s, 0) q := fun q => by
    rw [hσ, g_up_row (by simp), g_up_row (by simp), g_up_at, if_pos rfl]
  have b19 : ∀ q, μ' (1, 19, 0) q = if q = 100 * s + k then R else μ (1, 19, 0) q := fun q => by
    rw [hμ, g_up_row (by simp), g_up_row (by simp), g_up_at, if_pos rfl]
  have b21 : μ' (1, 21, 0) = μ (1, 21, 0) := by
    rw [hμ, g_up_row (by simp), g_up_row (by simp), g_up_row (by simp)]
  have b22 : ∀ q, μ' (1, 22, 0) q = if q = 100 * s + (pt - 1) then μ (1, 22, 0) (100 * s + (pt - 1)) + 1 else μ (1, 22, 0) q := fun q => by
    rw [hμ, g_up_row (by simp), g_up_at, if_pos rfl, g_up_row (by simp)]
  have b23 : ∀ q, μ' (1, 23, 0) q = if q = 100 * s + (pt - 1) then μ (1, 23, 0) (100 * s + (pt - 1)) + Z else μ (1, 23, 0) q := fun q => by
    rw [hμ, g_up_at, if_pos rfl, g_up_row (by simp), g_up_row (by simp)]
  refine ⟨⟨?_, ?_, by omega, by omega, fun n hn => ?_, fun g hg => ⟨?_, ?_, ?_⟩⟩, ⟨fun y y3 y4 y5 y6 => ?_, fun q q4 q5 => ?_⟩, ⟨fun y y3 y4 y5 y6 => ?_, fun a ha => ⟨?_, ?_, ?_, ?_⟩⟩⟩
  · rw [a13, if_pos rfl]
  · rw [a13, if_neg (by decide), h5]
  · rw [a14, b19]
    by_cases e : n = k
    · rw [if_pos e, if_pos (by omega)]
    · rw [if_neg e, if_neg (by omega)]; exact h8 n (by omega)
  · rw [a15, b21]; exact (h9 g hg).1
  · rw [a16, b23]
    by_cases e : g = pt - 1
    · rw [if_pos e, if_pos (by omega), (h9 (pt - 1) (by omega)).2.1]
    · rw [if_neg e, if_neg (by omega)]; exact (h9 g hg).2.1
  · rw [a15, b22]
    by_cases e : g = pt - 1
    · rw [if_pos (by omega), (h9 (pt - 1) (by omega)).2.2, if_neg (by omega), if_neg (by omega), ← nI_s (by omega), b_sub1, e]
    · rw [if_neg (by omega), (h9 g hg).2.2, if_pos (by omega), if_pos (by omega)]
  · rw [hσ, g_up_row y3, g_up_row y4, g_up_row y6]; exact hF.1 y y3 y4 y5 y6
  · rw [a13, if_neg q4]; exact hF.2 q q4 q5
  · rw [hμ, g_up_row y6, g_up_row y5, g_up_row y3]; exact hG.1 y y3 y4 y5 y6
  · rw [b19, if_neg (by omega)]; exact (hG.2 a ha).1
  · rw [b21]; exact (hG.2 a ha).2.1
  · rw [b22, if_neg (by omega)]; exact (hG.2 a ha).2.2.1
  · rw [b23, if_neg (by omega)]; exact (hG.2 a ha).2.2.2
theorem r_fresh {s k pt : Nat} {σ μ σ0 μ0 : r_M} {R Z : Int32} (hk : k < 100) (h : r_PI s k pt σ μ) (hF : r_PF s σ0 σ) (hG : r_PG s μ0 μ) {σ' μ' : r_M} (hσ : σ' = g_up (g_up (g_up (g_up (g_up (g_up σ (15, s, 0) pt (nI k)) (16, s, 0) pt 0) (13, s, 0) 5 (nI (pt + 1))) (16, s, 0) pt Z) (14, s, 0) k R) (13, s, 0) 4 (nI (k + 1))) (hμ : μ' = g_up (g_up (g_up (g_up μ (1, 19, 0) (100 * s + k) R) (1, 21, 0) (100 * s + pt) (nI k)) (1, 22, 0) (100 * s + pt) 1) (1, 23, 0) (100 * s + pt) Z) : r_PI s (k + 1) (pt + 1) σ' μ' ∧ r_PF s σ0 σ' ∧ r_PG s μ0 μ' := by
  obtain ⟨h4, h5, h6, h7, h8, h9⟩ := h
  have a13 : ∀ q, σ' (13, s, 0) q = if q = 4 then nI (k + 1) else if q = 5 then nI (pt + 1) else σ (13, s, 0) q := fun q => by
    rw [hσ, g_up_at, if_pos rfl, g_up_row (by simp), g_up_row (by simp), g_up_at, if_pos rfl, g_up_row (by simp), g_up_row (by simp)]
  have a14 : ∀ q, σ' (14, s, 0) q = if q = k then R else σ (14, s, 0) q := fun q => by
    rw [hσ, g_up_row (by simp), g_up_at, if_pos rfl, g_up_row (by simp), g_up_row (by simp), g_up_row (by simp), g_up_row (by simp)]
  have a15 : ∀ q, σ' (15, s, 0) q = if q = pt then nI k else σ (15, s, 0) q := fun q => by
    rw [hσ, g_up_row (by simp), g_up_row (by simp), g_up_row (by simp), g_up_row (by simp), g_up_row (by simp), g_up_at, if_pos rfl]
  have a16 : ∀ q, σ' (16, s, 0) q = if q = pt then Z else σ (16, s, 0) q := fun q => by
    rw [hσ, g_up_row (by simp), g_up_row (by simp), g_up_at, if_pos rfl, g_up_row (by simp), g_up_at, if_pos rfl, g_up_row (by simp)]
    by_cases e : q = pt
    · rw [if_pos e, if_pos e]
    · rw [if_neg e, if_neg e, if_neg e]
  have b19 : ∀ q, μ' (1, 19, 0) q = if q = 100 * s + k then R else μ (1, 19, 0) q := fun q => by
    rw [hμ, g_up_row (by simp), g_up_row (by simp), g_up_row (by simp), g_up_at, if_pos rfl]
  have b21 : ∀ q, μ' (1, 21, 0) q = if q = 100 * s + pt then nI k else μ (1, 21, 0) q := fun q => by
    rw [hμ, g_up_row (by simp), g_up_row (by simp), g_up_at, if_pos rfl, g_up_row (by simp)]
  have b22 : ∀ q, μ' (1, 22, 0) q = if q = 100 * s + pt then 1 else μ (1, 22, 0) q := fun q => by
    rw [hμ, g_up_row (by simp), g_up_at, if_pos rfl, g_up_row (by simp), g_up_row (by simp)]
  have b23 : ∀ q, μ' (1, 23, 0) q = if q = 100 * s + pt then Z else μ (1, 23, 0) q := fun q => by
    rw [hμ, g_up_at, if_pos rfl, g_up_row (by simp), g_up_row (by simp), g_up_row (by simp)]
  refine ⟨⟨?_, ?_, by omega, by omega, fun n hn => ?_, fun g hg => ⟨?_, ?_, ?_⟩⟩, ⟨fun y y3 y4 y5 y6 => ?_, fun q q4 q5 => ?_⟩, ⟨fun y y3 y4 y5 y6 => ?_, fun a ha => ⟨?_, ?_, ?_, ?_⟩⟩⟩
  · rw [a13, if_pos rfl]
  · rw [a13, if_neg (by decide), if_pos rfl]
  · rw [a14, b19]
    by_cases e : n = k
    · rw [if_pos e, if_pos (by omega)]
    · rw [if_neg e, if_neg (by omega)]; exact h8 n (by omega)
  · rw [a15, b21]
    by_cases e : g = pt
    · rw [if_pos e, if_pos (by omega)]
    · rw [if_neg e, if_neg (by omega)]; exact (h9 g (by omega)).1
  · rw [a16, b23]
    by_cases e : g = pt
    · rw [if_pos e, if_pos (by omega)]
    · rw [if_neg e, if_neg (by omega)]; exact (h9 g (by omega)).2.1
  · rw [a15, b22, a15]
    by_cases e : g = pt
    · rw [if_pos (by omega), if_neg (by omega), if_pos e, ← nI_s (by omega), b_sub2]
    · rw [if_neg (by omega), (h9 g (by omega)).2.2, if_pos (show g + 1 < pt + 1 by omega), if_neg e]
      by_cases e2 : g + 1 = pt
      · rw [if_pos e2, if_neg (by omega)]
      · rw [if_neg e2, if_pos (by omega)]
  · rw [hσ, g_up_row y3, g_up_row y4, g_up_row y6, g_up_row y3, g_up_row y6, g_up_row y5]; exact hF.1 y y3 y4 y5 y6
  · rw [a13, if_neg q4, if_neg q5]; exact hF.2 q q4 q5
  · rw [hμ, g_up_row y6, g_up_row y5, g_up_row y4, g_up_row y3]; exact hG.1 y y3 y4 y5 y6
  · rw [b19, if_neg (by omega)]; exact (hG.2 a ha).1
  · rw [b21, if_neg (by omega)]; exact (hG.2 a ha).2.1
  · rw [b22, if_neg (by omega)]; exact (hG.2 a ha).2.2.1
  · rw [b23, if_neg (by omega)]; exact (hG.2 a ha).2.2.2
theorem r_presGo {s j f : Nat} {u v fr : Int32} (hu : u.toInt = (s : Int)) (hv : v.toInt = (j : Int)) (hf : fr.toInt = (f : Int)) {σ0 μ0 : r_M} {M N : Nat} (hM : σ0 (18, s, j) 1 = nI M) (hM1 : M ≤ 100) (hN : σ0 (1, 0, 0) 2 = nI N) (hN1 : N ≤ 100) (hmem : ∀ n, n < M → σ0 (19, s, j) n = μ0 (1, 17, 0) (100 * (5 * s + j) + n) ∧ 0 ≤ (σ0 (19, s, j) n).toInt ∧ (σ0 (19, s, j) n).toInt < (N : Int)) (hby : ∀ r, r < N → σ0 (3, 0, 0) r = μ0 (1, 2, 0) r) (hlim : σ0 (13, s, 0) 0 = μ0 (1, 12, 0) s) :
    ∀ (n k pt : Nat) (σ μ : r_M), k + n + f ≤ M → r_PI s k pt σ μ → r_PF s σ0 σ → r_PG s μ0 μ →
    r_PI s (k + n) (m_presGo u v fr n k pt μ).2 (x_presGo s j fr n k σ) (m_presGo u v fr n k pt μ).1 ∧ r_PF s σ0 (x_presGo s j fr n k σ) ∧ r_PG s μ0 (m_presGo u v fr n k pt μ).1 := by
  intro n
  induction n with
  | zero => intro k pt σ μ _ h1 h2 h3; exact ⟨h1, h2, h3⟩
  | succ n ih =>
    intro k pt σ μ hk hI hF hG
    have hi := hI
    obtain ⟨h4, h5, h6, h7, h8, h9⟩ := hi
    have ek : (nI k).toInt = (k : Int) := g_nIT (by omega)
    have ep : (nI pt).toInt = (pt : Int) := g_nIT (by omega)
    have eM : (nI M).toInt = (M : Int) := g_nIT (by omega)
    have eN : (nI N).toInt = (N : Int) := g_nIT (by omega)
    have efk : (fr + nI k).toInt = ((f + k : Nat) : Int) := by rw [g_addI (by omega) (by omega)]; omega
    have s18 : σ (18, s, j) = σ0 (18, s, j) := hF.1 _ (by simp) (by simp) (by simp) (by simp)
    have s19 : σ (19, s, j) = σ0 (19, s, j) := hF.1 _ (by simp) (by simp) (by simp) (by simp)
    have s1 : σ (1, 0, 0) = σ0 (1, 0, 0) := hF.1 _ (by simp) (by simp) (by simp) (by simp)
    have s3 : σ (3, 0, 0) = σ0 (3, 0, 0) := hF.1 _ (by simp) (by simp) (by simp) (by simp)
    have m17 : μ (1, 17, 0) = μ0 (1, 17, 0) := hG.1 _ (by simp) (by simp) (by simp) (by simp)
    have m2 : μ (1, 2, 0) = μ0 (1, 2, 0) := hG.1 _ (by simp) (by simp) (by simp) (by simp)
    have m12 : μ (1, 12, 0) = μ0 (1, 12, 0) := hG.1 _ (by simp) (by simp) (by simp) (by simp)
    obtain ⟨g1, g2, g3⟩ := hmem (f + k) (by omega)
    have eR : x_rsAt σ s j (fr + nI k) = μ0 (1, 17, 0) (100 * (5 * s + j) + (f + k)) := by
      unfold x_rsAt
      rw [s18, hM, eM, efk, if_pos (by omega), g_cl, efk, Int.toNat_natCast, s19, g1]
    have eR2 : m_rec μ u v fr k = μ0 (1, 17, 0) (100 * (5 * s + j) + (f + k)) := by
      unfold m_rec
      rw [m17]
      congr 1
      omega
    rw [g1] at g2 g3
    have eZ : x_bytesOf σ (μ0 (1, 17, 0) (100 * (5 * s + j) + (f + k))) = μ0 (1, 2, 0) (μ0 (1, 17, 0) (100 * (5 * s + j) + (f + k))).toInt.toNat := by
      unfold x_bytesOf
      rw [s1, hN, eN, if_pos (by omega), g_cl, s3]
      exact hby _ (by omega)
    rw [x_presGo_s, m_presGo_s, eR, eR2, eZ, m2, m12]
    have em1 : m_step1 μ u v fr k = g_up μ (1, 19, 0) (100 * s + k) (μ0 (1, 17, 0) (100 * (5 * s + j) + (f + k))) := by
      rw [← eR2]
      unfold m_step1 m_rec
      rw [show ((100 * u.toInt) + ((k : Nat) : Int)).toNat = 100 * s + k by omega]
    rw [em1]
    generalize μ0 (1, 2, 0) (μ0 (1, 17, 0) (100 * (5 * s + j) + (f + k))).toInt.toNat = Z
    generalize μ0 (1, 17, 0) (100 * (5 * s + j) + (f + k)) = R
    have es : u.toInt.toNat = s := by omega
    rw [es]
    have hadd : k + (n + 1) = k + 1 + n := by omega
    rw [hadd]
    by_cases hc : 0 < ((pt : Nat) : Int) ∧ (μ (1, 23, 0) (((100 * u.toInt) + ((pt : Nat) : Int)) - 1).toNat + Z).toInt ≤ (μ0 (1, 12, 0) s).toInt
    · rw [if_pos hc]
      have hp : 0 < pt := by omega
      have e1 : (nI pt - 1).toNatClampNeg = pt - 1 := by
        have z1 : (1 : Int32).toInt = 1 := rfl
        rw [g_cl, g_subI (by omega) (by omega), ep, z1]; omega
      have e2 : (((100 * u.toInt) + ((pt : Nat) : Int)) - 1).toNat = 100 * s + (pt - 1) := by omega
      rw [e2, ← (h9 (pt - 1) (by omega)).2.1, ← hlim] at hc
      have ex : x_preAdd σ s R Z = g_up (g_up (g_up σ (16, s, 0) (pt - 1) (σ (16, s, 0) (pt - 1) + Z)) (14, s, 0) k R) (13, s, 0) 4 (nI (k + 1)) := by
        unfold x_preAdd
        rw [h4, h5, ek, ep, e1, hF.2 0 (by decide) (by decide), if_neg (by omega), if_neg (by omega)]
        unfold x_segPut
        rw [g_nIc (by omega), nI_s (by omega)]
      have em : m_grow (g_up μ (1, 19, 0) (100 * s + k) R) (((100 * u.toInt) + ((pt : Nat) : Int)) - 1) Z = g_up (g_up (g_up μ (1, 19, 0) (100 * s + k) R) (1, 22, 0) (100 * s + (pt - 1)) (μ (1, 22, 0) (100 * s + (pt - 1)) + 1)) (1, 23, 0) (100 * s + (pt - 1)) (μ (1, 23, 0) (100 * s + (pt - 1)) + Z) := by
        unfold m_grow
        rw [e2, g_up_row (y := (1, 22, 0)) (by simp), g_up_row (y := (1, 23, 0)) (by simp)]
      obtain ⟨i1, i2, i3⟩ := r_grow hp (by omega) hI hF hG ex em
      exact ih (k + 1) pt _ _ (by omega) i1 i2 i3
    · rw [if_neg hc]
      have e2 : ((((100 * u.toInt) + ((pt : Nat) : Int)) - 1) + 1).toNat = 100 * s + pt := by omega
      have hcx : (pt : Int) = 0 ∨ (σ0 (13, s, 0) 0).toInt < (σ (16, s, 0) (nI pt - 1).toNatClampNeg + Z).toInt := by
        by_cases hp : pt = 0
        · left; omega
        · right
          have e1 : (nI pt - 1).toNatClampNeg = pt - 1 := by
            have z1 : (1 : Int32).toInt = 1 := rfl
            rw [g_cl, g_subI (by omega) (by omega), ep, z1]; omega
          rw [show (((100 * u.toInt) + ((pt : Nat) : Int)) - 1).toNat = 100 * s + (pt - 1) by omega, ← (h9 (pt - 1) (by omega)).2.1, ← hlim] at hc
          rw [e1]
          omega
      have e3 : (nI pt + 1 - 1).toNatClampNeg = pt := by
        have z1 : (1 : Int32).toInt = 1 := rfl
        rw [nI_s (by omega), g_cl, g_subI (by rw [g_nIT (by omega)]; omega) (by rw [g_nIT (by omega)]; omega), g_nIT (by omega), z1]; omega
      have ex : x_preAdd σ s R Z = g_up (g_up (g_up (g_up (g_up (g_up σ (15, s, 0) pt (nI k)) (16, s, 0) pt 0) (13, s, 0) 5 (nI (pt + 1))) (16, s, 0) pt Z) (14, s, 0) k R) (13, s, 0) 4 (nI (k + 1)) := by
        unfold x_preAdd
        rw [h4, h5, ek, ep, hF.2 0 (by decide) (by decide), if_neg (by omega), if_pos hcx, e3]
        unfold x_segPut x_segNew
        rw [h4, h5, g_nIc (n := pt) (by omega), g_nIc (n := k) (by omega), nI_s (n := k) (by omega), nI_s (n := pt) (by omega)]
        rw [show g_up (g_up (g_up σ (15, s, 0) pt (nI k)) (16, s, 0) pt 0) (13, s, 0) 5 (nI (pt + 1)) (16, s, 0) pt = 0 by rw [g_up_row (by simp), g_up_same], Int32.zero_add]
      have em : m_fresh (g_up μ (1, 19, 0) (100 * s + k) R) ((((100 * u.toInt) + ((pt : Nat) : Int)) - 1) + 1) (nI k) Z = g_up (g_up (g_up (g_up μ (1, 19, 0) (100 * s + k) R) (1, 21, 0) (100 * s + pt) (nI k)) (1, 22, 0) (100 * s + pt) 1) (1, 23, 0) (100 * s + pt) Z := by
        unfold m_fresh
        rw [e2]
      obtain ⟨i1, i2, i3⟩ := r_fresh (by omega) hI hF hG ex em
      exact ih (k + 1) (pt + 1) _ _ (by omega) i1 i2 i3
section RJ
variable {ns : Nat} {kk : Nat → Nat} {σ μ : r_M}
theorem r_pres (h : rel ns kk σ μ) {s j : Nat} (hs : s < ns) (hj : j < kk s) (hmade : ¬ (σ (18, s, j) 2).toInt = 0) {u v fr nn : Int32} (hu : u.toInt = (s : Int)) (hv : v.toInt = (j : Int)) (hf0 : 0 ≤ fr.toInt) (hn1 : 1 ≤ nn.toInt) (hfn : fr.toInt + nn.toInt ≤ (σ (18, s, j) 1).toInt) : x_pres σ s j fr nn (13, s, 0) 5 = nI (m_pres μ u v fr nn).2 ∧ rel ns kk (x_pres σ s j fr nn) (m_presM μ u v fr nn) := by
  obtain ⟨t1, t2, t3, t4⟩ := r_set h hs hj hmade
  obtain ⟨q1, q2, q3, q4⟩ := h.1
  obtain ⟨hO, hT, hP, hZ⟩ := h.2.2.2.1 _ hs
  obtain ⟨f, hf⟩ : ∃ f : Nat, fr.toInt = (f : Int) := ⟨fr.toInt.toNat, by omega⟩
  obtain ⟨n, hn⟩ : ∃ n : Nat, nn.toInt = (n : Int) := ⟨nn.toInt.toNat, by omega⟩
  obtain ⟨M, hM⟩ : ∃ M : Nat, (σ (18, s, j) 1).toInt = (M : Int) := ⟨(σ (18, s, j) 1).toInt.toNat, by omega⟩
  obtain ⟨N, hN⟩ : ∃ N : Nat, (μ (0, 0, 0) 1).toInt = (N : Int) := ⟨(μ (0, 0, 0) 1).toInt.toNat, by omega⟩
  have hM2 : σ (18, s, j) 1 = nI M := by rw [← r_nI (w := σ (18, s, j) 1) (by omega), hM]; rfl
  have hN2 : σ (1, 0, 0) 2 = nI N := by rw [q1, ← r_nI (w := μ (0, 0, 0) 1) (by omega), hN]; rfl
  have hn2 : nn = nI n := by rw [← r_nI (w := nn) (by omega), hn]; rfl
  have es : u.toInt.toNat = s := by omega
  have x13 : ∀ q, x_clear σ s (13, s, 0) q = if q = 5 then 0 else if q = 4 then 0 else σ (13, s, 0) q := fun q => by
    unfold x_clear; rw [g_up_at, if_pos rfl, g_up_at, if_pos rfl]
  have xr : ∀ y : g_S, y ≠ (13, s, 0) → x_clear σ s y = σ y := fun y a => by unfold x_clear; rw [g_up_row a, g_up_row a]
  have m17 : g_up μ (1, 18, 0) s nn (1, 17, 0) = μ (1, 17, 0) := g_up_row (by simp)
  have m2 : g_up μ (1, 18, 0) s nn (1, 2, 0) = μ (1, 2, 0) := g_up_row (by simp)
  have m12 : g_up μ (1, 18, 0) s nn (1, 12, 0) = μ (1, 12, 0) := g_up_row (by simp)
  obtain ⟨hI, hF, hG⟩ := r_presGo (s := s) (j := j) (f := f) (u := u) (v := v) (fr := fr) hu hv hf (σ0 := σ) (μ0 := g_up μ (1, 18, 0) s nn) (M := M) (N := N) hM2 (by omega) hN2 (by omega) (fun n hn => by rw [m17, ← hN]; exact t4 n (by omega)) (fun r hr => by rw [m2]; exact (q3 r (by omega)).1) (by rw [m12]; exact hO.2.2.2.1) n 0 0 (x_clear σ s) (g_up μ (1, 18, 0) s nn) (by omega)
    ⟨by rw [x13]; rfl, by rw [x13]; rfl, by omega, by omega, fun n hn => by omega, fun g hg => by omega⟩ ⟨fun y a _ _ _ => xr y a, fun q a b => by rw [x13, if_neg b, if_neg a]⟩ ⟨fun _ _ _ _ _ => rfl, fun _ _ => ⟨rfl, rfl, rfl, rfl⟩⟩
  have ex : x_pres σ s j fr nn = x_presGo s j fr n 0 (x_clear σ s) := by unfold x_pres; rw [hn, Int.toNat_natCast]
  have em : m_pres μ u v fr nn = m_presGo u v fr n 0 0 (g_up μ (1, 18, 0) s nn) := by unfold m_pres; rw [hn, es, Int.toNat_natCast]
  rw [← ex, ← em] at hI
  rw [← ex] at hF
  rw [← em] at hG
  obtain ⟨i4, i5, i6, i7, i8, i9⟩ := hI
  rw [show 0 + n = n by omega] at i4 i6 i7 i8 i9
  refine ⟨i5, ?_⟩
  unfold m_presM
  rw [es]
  generalize hpt : (m_pres μ u v fr nn).2 = pt at *
  have ep : (nI pt).toInt = (pt : Int) := g_nIT (by omega)
  have en : (nI n).toInt = (n : Int) := g_nIT (by omega)
  have mr : ∀ y : g_S, y ≠ (1, 18, 0) → y ≠ (1, 20, 0) → y ≠ (1, 19, 0) → y ≠ (1, 21, 0) → y ≠ (1, 22, 0) → y ≠ (1, 23, 0) → g_up (m_pres μ u v fr nn).1 (1, 20, 0) s (nI pt) y = μ y := fun y a b c d e f => by
    rw [g_up_row b, hG.1 y c d e f, g_up_row a]
  have mk : ∀ k, k ≠ 18 → k ≠ 20 → k ≠ 19 → k ≠ 21 → k ≠ 22 → k ≠ 23 → g_up (m_pres μ u v fr nn).1 (1, 20, 0) s (nI pt) (1, k, 0) = μ (1, k, 0) := fun k a b c d e f => mr _ (by simp [a]) (by simp [b]) (by simp [c]) (by simp [d]) (by simp [e]) (by simp [f])
  have m0 := mr (0, 0, 0) (by simp) (by simp) (by simp) (by simp) (by simp) (by simp)
  have m13 := mr (2, 13, 0) (by simp) (by simp) (by simp) (by simp) (by simp) (by simp)
  have m20 : ∀ a, g_up (m_pres μ u v fr nn).1 (1, 20, 0) s (nI pt) (1, 20, 0) a = if a = s then nI pt else μ (1, 20, 0) a := fun a => by
    rw [g_up_at, if_pos rfl, hG.1 _ (by simp) (by simp) (by simp) (by simp), g_up_row (by simp)]
  have m18 : ∀ a, g_up (m_pres μ u v fr nn).1 (1, 20, 0) s (nI pt) (1, 18, 0) a = if a = s then nn else μ (1, 18, 0) a := fun a => by
    rw [g_up_row (by simp), hG.1 _ (by simp) (by simp) (by simp) (by simp), g_up_at, if_pos rfl]
  have mq : ∀ k, k ≠ 20 → g_up (m_pres μ u v fr nn).1 (1, 20, 0) s (nI pt) (1, k, 0) = (m_pres μ u v fr nn).1 (1, k, 0) := fun k a => g_up_row (by simp [a])
  have mz : ∀ k, k ≠ 18 → g_up μ (1, 18, 0) s nn (1, k, 0) = μ (1, k, 0) := fun k a => g_up_row (by simp [a])
  refine rel_op h (s := s) (fun k i q hk => hF.1 _ (by simp; omega) (by simp; omega) (by simp; omega) (by simp; omega)) ⟨⟨by rw [m0], by rw [m0], by rw [m0]⟩, ⟨mk _ (by omega) (by omega) (by omega) (by omega) (by omega) (by omega), mk _ (by omega) (by omega) (by omega) (by omega) (by omega) (by omega)⟩, mk _ (by omega) (by omega) (by omega) (by omega) (by omega) (by omega), mk _ (by omega) (by omega) (by omega) (by omega) (by omega) (by omega), mk _ (by omega) (by omega) (by omega) (by omega) (by omega) (by omega), mk _ (by omega) (by omega) (by omega) (by omega) (by omega) (by omega)⟩ (fun i hi k q hk => hF.1 _ (by simp [hi]) (by simp [hi]) (by simp [hi]) (by simp [hi])) (fun i _ hi => ?_) hs ⟨?_, fun j2 hj2 => ?_, ?_, ?_⟩ ?_
  · refine ⟨⟨⟨?_, ?_, ?_, ?_, ?_⟩, ?_, ?_, ?_⟩, fun j2 hj => ?_, fun j2 n hj hn => ?_, fun n hn => ?_, fun n hn => ⟨?_, ?_⟩⟩
    case refine_3 => rw [m13]
    case refine_6 => rw [m18, if_neg hi]
    case refine_7 => rw [m20, if_neg hi]
    case refine_11 =>
      have := hG.2 (100 * i + n) (by omega)
      rw [mz 19 (by omega), mz 21 (by omega), mz 22 (by omega), mz 23 (by omega)] at this
      rw [mq 19 (by omega), mq 21 (by omega), mq 22 (by omega), mq 23 (by omega)]
      exact this
    all_goals rw [mk _ (by omega) (by omega) (by omega) (by omega) (by omega) (by omega)]
  · unfold r_O at hO ⊢
    rw [hF.1 (11, s, 0) (by simp) (by simp) (by simp) (by simp), hF.2 0 (by decide) (by decide), m13, mk 11 (by omega) (by omega) (by omega) (by omega) (by omega) (by omega), mk 12 (by omega) (by omega) (by omega) (by omega) (by omega) (by omega), mk 14 (by omega) (by omega) (by omega) (by omega) (by omega) (by omega), mk 15 (by omega) (by omega) (by omega) (by omega) (by omega) (by omega)]
    exact hO
  · have h9 := hT j2 hj2
    unfold r_T at h9 ⊢
    rw [hF.1 (18, s, j2) (by simp) (by simp) (by simp) (by simp), hF.1 (19, s, j2) (by simp) (by simp) (by simp) (by simp), m0, mk 16 (by omega) (by omega) (by omega) (by omega) (by omega) (by omega), mk 17 (by omega) (by omega) (by omega) (by omega) (by omega) (by omega)]
    exact h9
  · unfold r_P
    rw [m18, m20, if_pos rfl, if_pos rfl, i4, i5, ep, en, mq 19 (by omega), mq 21 (by omega), mq 22 (by omega), mq 23 (by omega)]
    refine ⟨hn2.symm, rfl, ⟨by omega, by omega, by omega⟩, fun a ha => i8 a (by omega), fun g hg => ?_⟩
    obtain ⟨j1, j2, j3⟩ := i9 g (by omega)
    refine ⟨j1, j2, ?_⟩
    rw [j3]
    by_cases e : g + 1 < pt
    · rw [if_pos e, if_pos (by omega)]
    · rw [if_neg e, if_neg (by omega)]
  · unfold r_Z at hZ ⊢
    rw [hF.1 (17, s, 0) (by simp) (by simp) (by simp) (by simp), hF.1 (20, s, 0) (by simp) (by simp) (by simp) (by simp), hF.1 (21, s, 0) (by simp) (by simp) (by simp) (by simp), mk 24 (by omega) (by omega) (by omega) (by omega) (by omega) (by omega), mk 25 (by omega) (by omega) (by omega) (by omega) (by omega) (by omega), mk 26 (by omega) (by omega) (by omega) (by omega) (by omega) (by omega)]
    exact hZ
  · unfold r_B
    rw [mk 16 (by omega) (by omega) (by omega) (by omega) (by omega) (by omega), mk 17 (by omega) (by omega) (by omega) (by omega) (by omega) (by omega)]
    exact h.2.2.2.2.2
theorem r_present (h : rel ns kk σ μ) (u v fr nn : Int32) : x_presentR σ ns kk u v fr nn = m_presentR μ u v fr nn ∧ rel ns kk (x_presentM σ ns kk u v fr nn) (m_presentM μ u v fr nn) := by
  unfold x_presentR m_presentR x_presentM m_presentM
  by_cases ho : (0 ≤ u.toInt ∧ u.toInt < (ns : Int)) ∧ ¬ (σ (11, u.toNatClampNeg, 0) 4).toInt = 0
  · have ho2 := (r_open h u).mp ho
    have hs : u.toInt.toNat < ns := by omega
    rw [if_pos ho, if_pos ho2, if_pos ho, if_pos ho2, g_cl]
    by_cases hm : (0 ≤ v.toInt ∧ v.toInt < ((kk u.toInt.toNat : Nat) : Int)) ∧ ¬ (σ (18, u.toInt.toNat, v.toNatClampNeg) 2).toInt = 0
    · have hm2 := (r_made h hs v).mp hm
      rw [if_pos hm, if_pos hm, r_ix ho.1.1 hm.1.1, if_pos hm2, if_pos hm2, g_cl]
      by_cases hn : 1 ≤ nn.toInt
      · rw [if_pos hn, if_pos hn, if_pos hn, if_pos hn]
        have hmm := hm.2
        rw [g_cl] at hmm
        have hset := r_set h hs (j := v.toInt.toNat) (by omega) hmm
        rw [← hset.1]
        by_cases hb : fr.toInt < 0 ∨ (σ (18, u.toInt.toNat, v.toInt.toNat) 1).toInt - nn.toInt < fr.toInt
        · have hb2 : fr.toInt < 0 ∨ (σ (18, u.toInt.toNat, v.toInt.toNat) 1).toInt < fr.toInt ∨ (σ (18, u.toInt.toNat, v.toInt.toNat) 1).toInt - fr.toInt < nn.toInt := by omega
          rw [if_pos hb, if_pos hb, if_pos hb2, if_pos hb2]
          exact ⟨rfl, r_tl h ho 105⟩
        · have hb2 : ¬ (fr.toInt < 0 ∨ (σ (18, u.toInt.toNat, v.toInt.toNat) 1).toInt < fr.toInt ∨ (σ (18, u.toInt.toNat, v.toInt.toNat) 1).toInt - fr.toInt < nn.toInt) := by omega
          rw [if_neg hb, if_neg hb, if_neg hb2, if_neg hb2]
          exact r_pres h hs (by omega) hmm (by omega) (by omega) (by omega) hn (by omega)
      · rw [if_neg hn, if_neg hn, if_neg hn, if_neg hn]
        exact ⟨rfl, r_tl h ho 107⟩
    · have hm2 : ¬ ((0 ≤ (v).toInt ∧ (v).toInt ≤ (if (μ (1, 11, 0) ((u).toInt).toNat &&& 4).toInt = 4 then (4 : Int) else 0)) ∧ 0 ≤ (μ (1, 16, 0) ((5 * (u).toInt) + (v).toInt).toNat).toInt) := fun q => hm ((r_made h hs v).mpr (by rw [r_ix ho.1.1 q.1.1] at q; exact q))
      rw [if_neg hm, if_neg hm, if_neg hm2, if_neg hm2]
      exact ⟨rfl, r_tl h ho 104⟩
  · have ho2 : ¬ _ := fun q => ho ((r_open h u).mpr q)
    rw [if_neg ho, if_neg ho2, if_neg ho, if_neg ho2]
    exact ⟨rfl, h⟩
end RJ
