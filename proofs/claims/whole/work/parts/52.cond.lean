/-! conditions that both sides ask -/
theorem r_and4 {o : Int32} (h0 : 0 ≤ o.toInt) (h7 : o.toInt ≤ 7) : (o &&& 4).toInt = 0 ∨ (o &&& 4).toInt = 4 := by
  have : o = 0 ∨ o = 1 ∨ o = 2 ∨ o = 3 ∨ o = 4 ∨ o = 5 ∨ o = 6 ∨ o = 7 := by
    have e : ∀ k : Int32, o.toInt = k.toInt → o = k := fun k h => Int32.toInt_inj.mp h
    rcases (show o.toInt = 0 ∨ o.toInt = 1 ∨ o.toInt = 2 ∨ o.toInt = 3 ∨ o.toInt = 4 ∨ o.toInt = 5 ∨ o.toInt = 6 ∨ o.toInt = 7 by omega) with h | h | h | h | h | h | h | h
    · exact Or.inl (e 0 h)
    · exact Or.inr (Or.inl (e 1 h))
    · exact Or.inr (Or.inr (Or.inl (e 2 h)))
    · exact Or.inr (Or.inr (Or.inr (Or.inl (e 3 h))))
    · exact Or.inr (Or.inr (Or.inr (Or.inr (Or.inl (e 4 h)))))
    · exact Or.inr (Or.inr (Or.inr (Or.inr (Or.inr (Or.inl (e 5 h))))))
    · exact Or.inr (Or.inr (Or.inr (Or.inr (Or.inr (Or.inr (Or.inl (e 6 h)))))))
    · exact Or.inr (Or.inr (Or.inr (Or.inr (Or.inr (Or.inr (Or.inr (e 7 h)))))))
  rcases this with rfl | rfl | rfl | rfl | rfl | rfl | rfl | rfl <;> decide
section RC
variable {ns : Nat} {kk : Nat → Nat} {σ μ : r_M}
theorem r_in (h : rel ns kk σ μ) (u : Int32) : (0 ≤ u.toInt ∧ u.toInt < (ns : Int)) ↔ (0 ≤ u.toInt ∧ u.toInt ≤ ((μ (0, 0, 0) 10).toInt - 1)) := by
  have hN := h.2.2.1.2.1
  omega
theorem r_open (h : rel ns kk σ μ) (u : Int32) : ((0 ≤ u.toInt ∧ u.toInt < (ns : Int)) ∧ ¬ (σ (11, u.toNatClampNeg, 0) 4).toInt = 0) ↔ ((0 ≤ u.toInt ∧ u.toInt ≤ ((μ (0, 0, 0) 10).toInt - 1)) ∧ (μ (2, 13, 0) (u.toInt).toNat).toInt = 0) := by
  have hN := h.2.2.1.2.1
  rw [g_cl]
  constructor
  · rintro ⟨⟨a, b⟩, c⟩
    refine ⟨by omega, ?_⟩
    rcases (h.2.2.2.1 u.toInt.toNat (by omega)).1.2.2.2.2.2.2.2 with ⟨-, e, -⟩ | ⟨e, -⟩
    · rw [e]; rfl
    · exact absurd (by rw [e]; rfl) c
  · rintro ⟨⟨a, b⟩, c⟩
    refine ⟨by omega, ?_⟩
    rcases (h.2.2.2.1 u.toInt.toNat (by omega)).1.2.2.2.2.2.2.2 with ⟨e, -, -⟩ | ⟨-, e⟩
    · rw [e]; decide
    · rw [e] at c; exact absurd c (by decide)
theorem r_name (h : rel ns kk σ μ) {s : Nat} (hs : s < ns) (v : Int32) : (0 ≤ v.toInt ∧ v.toInt < ((kk s : Nat) : Int)) ↔ (0 ≤ v.toInt ∧ v.toInt ≤ (if (μ (1, 11, 0) s &&& 4).toInt = 4 then (4 : Int) else 0)) := by
  obtain ⟨-, h1, h2, -⟩ := (h.2.2.2.1 s hs).1
  rw [h2]
  rcases r_and4 h1.1 h1.2 with e | e
  · rw [if_pos e, if_neg (by omega)]; omega
  · rw [if_neg (by omega), if_pos e]; omega
theorem r_kk5 (h : rel ns kk σ μ) {s : Nat} (hs : s < ns) : kk s ≤ 5 := rel_kn (h.2.2.2.1 s hs).1
theorem r_made (h : rel ns kk σ μ) {s : Nat} (hs : s < ns) (v : Int32) : ((0 ≤ v.toInt ∧ v.toInt < ((kk s : Nat) : Int)) ∧ ¬ (σ (18, s, v.toNatClampNeg) 2).toInt = 0) ↔ ((0 ≤ v.toInt ∧ v.toInt ≤ (if (μ (1, 11, 0) s &&& 4).toInt = 4 then (4 : Int) else 0)) ∧ 0 ≤ (μ (1, 16, 0) (5 * s + v.toInt.toNat)).toInt) := by
  rw [r_name h hs, g_cl]
  have hk5 := r_kk5 h hs
  constructor
  · rintro ⟨a, c⟩
    refine ⟨a, ?_⟩
    have a2 := (r_name h hs v).mpr a
    rcases (h.2.2.2.1 s hs).2.1 v.toInt.toNat (by omega) with ⟨-, b, ⟨-, e, -⟩ | ⟨e, -⟩⟩ | ⟨e, -⟩
    · rw [← e]; exact b.1
    · exact absurd (by rw [e]; rfl) c
    · omega
  · rintro ⟨a, c⟩
    refine ⟨a, ?_⟩
    have a2 := (r_name h hs v).mpr a
    rcases (h.2.2.2.1 s hs).2.1 v.toInt.toNat (by omega) with ⟨-, b, ⟨e, -⟩ | ⟨-, e⟩⟩ | ⟨-, e⟩
    · rw [e]; decide
    · rw [e] at c; exact absurd c (by decide)
    · rw [e] at c; exact absurd c (by decide)
theorem r_ix {u v : Int32} (hu : 0 ≤ u.toInt) (hv : 0 ≤ v.toInt) : (5 * u.toInt + v.toInt).toNat = 5 * u.toInt.toNat + v.toInt.toNat := by omega
/-- what a made set is -/
theorem r_set (h : rel ns kk σ μ) {s : Nat} (hs : s < ns) {j : Nat} (hj : j < kk s) (hm : ¬ (σ (18, s, j) 2).toInt = 0) : σ (18, s, j) 1 = μ (1, 16, 0) (5 * s + j) ∧ (0 ≤ (σ (18, s, j) 1).toInt ∧ (σ (18, s, j) 1).toInt ≤ 100) ∧ σ (18, s, j) 2 = 1 ∧ ∀ n : Nat, (n : Int) < (σ (18, s, j) 1).toInt → σ (19, s, j) n = μ (1, 17, 0) (100 * (5 * s + j) + n) ∧ 0 ≤ (σ (19, s, j) n).toInt ∧ (σ (19, s, j) n).toInt < (μ (0, 0, 0) 1).toInt := by
  have hk5 := r_kk5 h hs
  rcases (h.2.2.2.1 s hs).2.1 j (by omega) with ⟨-, b, ⟨e1, e2, e3⟩ | ⟨e, -⟩⟩ | ⟨e, -⟩
  · exact ⟨e2, b, e1, e3⟩
  · exact absurd (by rw [e]; rfl) hm
  · omega
theorem r_size (h : rel ns kk σ μ) (u v : Int32) : x_sizeR σ ns kk u v = m_sizeR μ u v ∧ rel ns kk σ μ := by
  refine ⟨?_, h⟩
  unfold x_sizeR m_sizeR
  by_cases ho : (0 ≤ u.toInt ∧ u.toInt < (ns : Int)) ∧ ¬ (σ (11, u.toNatClampNeg, 0) 4).toInt = 0
  · rw [if_pos ho, if_pos ((r_open h u).mp ho)]
    have hs : u.toInt.toNat < ns := by omega
    rw [g_cl]
    by_cases hm : (0 ≤ v.toInt ∧ v.toInt < ((kk u.toInt.toNat : Nat) : Int)) ∧ ¬ (σ (18, u.toInt.toNat, v.toNatClampNeg) 2).toInt = 0
    · have hm2 := (r_made h hs v).mp hm
      rw [if_pos hm, r_ix ho.1.1 hm.1.1, if_pos hm2]
      exact (r_set h hs (j := v.toNatClampNeg) (by rw [g_cl]; omega) hm.2).1
    · rw [if_neg hm, if_neg (fun q => hm ((r_made h hs v).mpr (by rw [r_ix ho.1.1 q.1.1] at q; exact q)))]
  · rw [if_neg ho, if_neg (fun q => ho ((r_open h u).mpr q))]
theorem r_at (h : rel ns kk σ μ) (u p : Int32) : x_atR σ ns u p = m_atR μ u p ∧ rel ns kk σ μ := by
  refine ⟨?_, h⟩
  unfold x_atR m_atR x_preAt
  by_cases ho : 0 ≤ u.toInt ∧ u.toInt < (ns : Int)
  · have hs : u.toInt.toNat < ns := by omega
    obtain ⟨p1, p2, p3, p4, p5⟩ := (h.2.2.2.1 _ hs).2.2.1
    rw [if_pos ho, g_cl]
    by_cases hp : 0 ≤ p.toInt ∧ p.toInt < (σ (13, u.toInt.toNat, 0) 4).toInt
    · rw [if_pos hp, if_pos ⟨(r_in h u).mp ho, by rw [← p1]; omega⟩, g_cl, p4 _ (by omega)]
      congr 1; omega
    · rw [if_neg hp, if_neg (fun q => hp (by rw [← p1] at q; omega))]
  · rw [if_neg ho, if_neg (fun q => ho ((r_in h u).mpr q.1))]
theorem r_scIff (h : rel ns kk σ μ) (u p : Int32) : x_scP2 σ ns u p ↔ ((0 ≤ u.toInt ∧ u.toInt ≤ ((μ (0, 0, 0) 10).toInt - 1)) ∧ (0 ≤ p.toInt ∧ p.toInt ≤ ((μ (1, 24, 0) (u.toInt).toNat).toInt - 1))) := by
  unfold x_scP2
  rw [← r_in h u, g_cl]
  constructor
  · rintro ⟨a, b⟩
    have z := (h.2.2.2.1 u.toInt.toNat (by omega)).2.2.2.1
    rw [← z]
    exact ⟨a, by omega⟩
  · rintro ⟨a, b⟩
    have z := (h.2.2.2.1 u.toInt.toNat (by omega)).2.2.2.1
    rw [← z] at b
    exact ⟨a, by omega⟩
theorem r_scannedY (h : rel ns kk σ μ) (u p w : Int32) (hP : x_scP2 σ ns u p) : x_scTell σ u.toNatClampNeg p w = m_scdR μ u p w ∧ m_scdM μ u p (0, 0, 0) 0 = 0 ∧ rel ns kk σ (m_scdM μ u p) := by
  have hQ := (r_scIff h u p).mp hP
  have hm : m_scdM μ u p = g_up μ (0, 0, 0) 0 0 := by unfold m_scdM; rw [if_pos hQ]
  refine ⟨?_, by rw [hm, g_up_same], by rw [hm]; exact rel_thrown h⟩
  unfold x_scTell m_scdR
  obtain ⟨a, b⟩ := hP
  rw [g_cl] at b ⊢
  have hs : u.toInt.toNat < ns := by omega
  obtain ⟨z1, z2, z3⟩ := (h.2.2.2.1 _ hs).2.2.2
  have e := z3 p.toInt.toNat (by omega)
  have ei : (20 * u.toInt + p.toInt).toNat = 20 * u.toInt.toNat + p.toInt.toNat := by omega
  rw [if_pos b, if_pos hQ, g_cl, ei, e.1, e.2]
theorem r_scannedN (h : rel ns kk σ μ) (u p : Int32) (hP : ¬ x_scP2 σ ns u p) : m_scdM μ u p (0, 0, 0) 0 = 1 ∧ rel ns kk σ (m_scdM μ u p) := by
  have hm : m_scdM μ u p = g_up μ (0, 0, 0) 0 1 := by unfold m_scdM; rw [if_neg (fun q => hP ((r_scIff h u p).mpr q))]
  exact ⟨by rw [hm, g_up_same], by rw [hm]; exact rel_thrown h⟩
end RC
