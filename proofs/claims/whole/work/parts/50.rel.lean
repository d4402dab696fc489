/-! what holds between the class's memory σ and the reference's memory μ -/
abbrev r_M : Type := g_S → Nat → Int32
def r_R (σ μ : r_M) : Prop := σ (1, 0, 0) 2 = μ (0, 0, 0) 1 ∧ (0 ≤ (μ (0, 0, 0) 1).toInt ∧ (μ (0, 0, 0) 1).toInt ≤ 100) ∧ (∀ r : Nat, (r : Int) < (μ (0, 0, 0) 1).toInt → σ (3, 0, 0) r = μ (1, 2, 0) r ∧ 1 ≤ (μ (1, 2, 0) r).toInt ∧ (μ (1, 2, 0) r).toInt ≤ 200) ∧ (∀ r x : Nat, (r : Int) < (μ (0, 0, 0) 1).toInt → x < 5 → σ (10, x, 0) r = μ (1, 3, 0) (5 * r + x) ∧ -1 ≤ (μ (1, 3, 0) (5 * r + x)).toInt ∧ (μ (1, 3, 0) (5 * r + x)).toInt ≤ 999)
def r_Q1 (σ μ : r_M) (q : Nat) : Prop :=
  ((μ (1, 5, 0) q).toInt = 0 ∧ (σ (5, 0, 0) q).toInt = 1 ∧ σ (6, 0, 0) q = μ (1, 6, 0) q ∧ σ (7, 0, 0) q = μ (1, 7, 0) q ∧ σ (8, 0, 0) q = μ (1, 7, 0) q ∧ 0 ≤ (μ (1, 6, 0) q).toInt ∧ (μ (1, 6, 0) q).toInt ≤ 4 ∧ 0 ≤ (μ (1, 7, 0) q).toInt) ∨
  ((μ (1, 5, 0) q).toInt = 1 ∧ (σ (5, 0, 0) q).toInt = 1 ∧ σ (6, 0, 0) q = μ (1, 6, 0) q ∧ σ (7, 0, 0) q = μ (1, 7, 0) q ∧ σ (8, 0, 0) q = μ (1, 8, 0) q ∧ 0 ≤ (μ (1, 6, 0) q).toInt ∧ (μ (1, 6, 0) q).toInt ≤ 4 ∧ 0 ≤ (μ (1, 7, 0) q).toInt) ∨
  ((2 ≤ (μ (1, 5, 0) q).toInt ∧ (μ (1, 5, 0) q).toInt ≤ 4) ∧ σ (5, 0, 0) q = μ (1, 5, 0) q ∧ σ (6, 0, 0) q = μ (1, 6, 0) q ∧ σ (7, 0, 0) q = μ (1, 7, 0) q ∧ 0 ≤ (μ (1, 6, 0) q).toInt ∧ (μ (1, 6, 0) q).toInt < (q : Int) ∧ 0 ≤ (μ (1, 7, 0) q).toInt ∧ (μ (1, 7, 0) q).toInt < (q : Int))
def r_Q (σ μ : r_M) : Prop := σ (2, 0, 0) 4 = μ (0, 0, 0) 4 ∧ (0 ≤ (μ (0, 0, 0) 4).toInt ∧ (μ (0, 0, 0) 4).toInt ≤ 40) ∧ ∀ q : Nat, (q : Int) < (μ (0, 0, 0) 4).toInt → r_Q1 σ μ q
/-- a set under a name -/
def r_T (σ μ : r_M) (kn i j : Nat) : Prop :=
  (j < kn ∧ (0 ≤ (σ (18, i, j) 1).toInt ∧ (σ (18, i, j) 1).toInt ≤ 100) ∧ ((σ (18, i, j) 2 = 1 ∧ σ (18, i, j) 1 = μ (1, 16, 0) (5 * i + j) ∧ ∀ n : Nat, (n : Int) < (σ (18, i, j) 1).toInt → σ (19, i, j) n = μ (1, 17, 0) (100 * (5 * i + j) + n) ∧ 0 ≤ (σ (19, i, j) n).toInt ∧ (σ (19, i, j) n).toInt < (μ (0, 0, 0) 1).toInt) ∨ (σ (18, i, j) 2 = 0 ∧ μ (1, 16, 0) (5 * i + j) = -1))) ∨
  (kn ≤ j ∧ μ (1, 16, 0) (5 * i + j) = -1)
/-- what was presented -/
def r_P (σ μ : r_M) (i : Nat) : Prop := σ (13, i, 0) 4 = μ (1, 18, 0) i ∧ σ (13, i, 0) 5 = μ (1, 20, 0) i ∧ (0 ≤ (σ (13, i, 0) 5).toInt ∧ (σ (13, i, 0) 5).toInt ≤ (σ (13, i, 0) 4).toInt ∧ (σ (13, i, 0) 4).toInt ≤ 100) ∧ (∀ n : Nat, (n : Int) < (σ (13, i, 0) 4).toInt → σ (14, i, 0) n = μ (1, 19, 0) (100 * i + n)) ∧
  (∀ g : Nat, (g : Int) < (σ (13, i, 0) 5).toInt → σ (15, i, 0) g = μ (1, 21, 0) (100 * i + g) ∧ σ (16, i, 0) g = μ (1, 23, 0) (100 * i + g) ∧ μ (1, 22, 0) (100 * i + g) = (if (g : Int) + 1 < (σ (13, i, 0) 5).toInt then σ (15, i, 0) (g + 1) else σ (13, i, 0) 4) - σ (15, i, 0) g)
/-- what was scanned -/
def r_Z (σ μ : r_M) (i : Nat) : Prop := σ (17, i, 0) 2 = μ (1, 24, 0) i ∧ (0 ≤ (σ (17, i, 0) 2).toInt ∧ (σ (17, i, 0) 2).toInt ≤ 20) ∧ ∀ n : Nat, (n : Int) < (σ (17, i, 0) 2).toInt → σ (20, i, 0) n = μ (1, 25, 0) (20 * i + n) ∧ σ (21, i, 0) n = μ (1, 26, 0) (20 * i + n)
/-- options, limit, diagnostics -/
def r_O (σ μ : r_M) (kn i : Nat) : Prop := σ (11, i, 0) 0 = μ (1, 11, 0) i ∧ (0 ≤ (μ (1, 11, 0) i).toInt ∧ (μ (1, 11, 0) i).toInt ≤ 7) ∧ kn = (if (μ (1, 11, 0) i &&& 4).toInt = 0 then 1 else 5) ∧ σ (13, i, 0) 0 = μ (1, 12, 0) i ∧ (1 ≤ (μ (1, 12, 0) i).toInt ∧ (μ (1, 12, 0) i).toInt ≤ 1000) ∧ σ (11, i, 0) 5 = μ (1, 14, 0) i ∧ σ (11, i, 0) 6 = μ (1, 15, 0) i ∧ ((σ (11, i, 0) 4 = 1 ∧ μ (2, 13, 0) i = 0 ∧ 0 ≤ (μ (1, 14, 0) i).toInt ∧ (μ (1, 14, 0) i).toInt ≤ 2) ∨ (σ (11, i, 0) 4 = 0 ∧ μ (2, 13, 0) i = 1))
def r_S (σ μ : r_M) (kn i : Nat) : Prop := r_O σ μ kn i ∧ (∀ j, j < 5 → r_T σ μ kn i j) ∧ r_P σ μ i ∧ r_Z σ μ i
/-- a session that was not opened yet, on the reference's side -/
def r_U (μ : r_M) (i : Nat) : Prop := μ (2, 13, 0) i = 0 ∧ μ (1, 14, 0) i = 0 ∧ μ (1, 15, 0) i = 0 ∧ (∀ j, j < 5 → μ (1, 16, 0) (5 * i + j) = -1) ∧ μ (1, 18, 0) i = 0 ∧ μ (1, 20, 0) i = 0 ∧ μ (1, 24, 0) i = 0
def r_B (μ : r_M) : Prop := (∀ j : Nat, -1 ≤ (μ (1, 16, 0) j).toInt ∧ (μ (1, 16, 0) j).toInt ≤ 100) ∧ ∀ j : Nat, 0 ≤ (μ (1, 17, 0) j).toInt ∧ (μ (1, 17, 0) j).toInt < 100
def r_N (ns : Nat) (σ μ : r_M) : Prop := σ (0, 0, 0) 3 = μ (0, 0, 0) 10 ∧ (μ (0, 0, 0) 10).toInt = (ns : Int) ∧ ns ≤ 8
def rel (ns : Nat) (kk : Nat → Nat) (σ μ : r_M) : Prop := r_R σ μ ∧ r_Q σ μ ∧ r_N ns σ μ ∧ (∀ i, i < ns → r_S σ μ (kk i) i) ∧ (∀ i, ns ≤ i → i < 8 → r_U μ i) ∧ r_B μ
theorem rel_kn {σ μ : r_M} {kn i : Nat} (h : r_O σ μ kn i) : kn ≤ 5 := by
  rw [h.2.2.1]; split <;> omega
theorem rel_I {ns : Nat} {kk : Nat → Nat} {σ μ : r_M} (h : rel ns kk σ μ) : x_I ns kk σ := by
  obtain ⟨⟨a1, a2, -, -⟩, ⟨b1, b2, -⟩, ⟨c1, c2, c3⟩, hS, -, -⟩ := h
  refine ⟨by rw [a1]; exact a2, by rw [b1]; exact b2, ⟨by rw [c1]; exact c2, c3⟩, fun i hi => rel_kn (hS i hi).1, fun i hi => ?_, fun i hi j hj => ?_, fun i hi j hj => ?_, fun i hi => (hS i hi).2.2.1.2.2.1, fun i hi => (hS i hi).2.2.2.2.1⟩
  · rcases (hS i hi).1.2.2.2.2.2.2.2 with h | h
    · exact Or.inr h.1
    · exact Or.inl h.1
  · rcases (hS i hi).2.1 j (Nat.lt_of_lt_of_le hj (rel_kn (hS i hi).1)) with ⟨-, -, h | h⟩ | h
    · exact Or.inr h.1
    · exact Or.inl h.1
    · omega
  · rcases (hS i hi).2.1 j (Nat.lt_of_lt_of_le hj (rel_kn (hS i hi).1)) with ⟨-, h, -⟩ | h
    · exact h
    · omega
theorem rel_thrown {ns : Nat} {kk : Nat → Nat} {σ μ : r_M} {v : Int32} (h : rel ns kk σ μ) : rel ns kk σ (g_up μ (0, 0, 0) 0 v) := by
  have e1 : g_up μ (0, 0, 0) 0 v (0, 0, 0) 1 = μ (0, 0, 0) 1 := by simp [g_up_at]
  have e2 : g_up μ (0, 0, 0) 0 v (0, 0, 0) 4 = μ (0, 0, 0) 4 := by simp [g_up_at]
  have e3 : g_up μ (0, 0, 0) 0 v (0, 0, 0) 10 = μ (0, 0, 0) 10 := by simp [g_up_at]
  have e4 : ∀ k : Nat, g_up μ (0, 0, 0) 0 v (1, k, 0) = μ (1, k, 0) := fun k => g_up_row (by simp)
  have e5 : ∀ k : Nat, g_up μ (0, 0, 0) 0 v (2, k, 0) = μ (2, k, 0) := fun k => g_up_row (by simp)
  simpa only [rel, r_R, r_Q, r_Q1, r_N, r_S, r_O, r_T, r_P, r_Z, r_U, r_B, e1, e2, e3, e4, e5] using h
theorem rel_kOK {ns : Nat} {kk : Nat → Nat} {σ μ : r_M} (h : rel ns kk σ μ) (k : Nat) (hk : (k : Int) < (μ (0, 0, 0) 4).toInt) : m_kOK μ k := by
  have hq := h.2.1.2.1
  rcases h.2.1.2.2 k hk with ⟨a, -, -, -, -, b, c, d⟩ | ⟨a, -, -, -, -, b, c, d⟩ | ⟨a, -, -, -, b, c, d, e⟩
  · exact Or.inl ⟨by omega, by omega, b, c⟩
  · exact Or.inl ⟨by omega, by omega, b, c⟩
  · exact Or.inr ⟨a.1, a.2, b, by omega, d, by omega⟩
theorem rel_seg {ns : Nat} {kk : Nat → Nat} {σ μ : r_M} (h : rel ns kk σ μ) (a : Nat) (ha : a < 8) : 0 ≤ (μ (1, 20, 0) a).toInt ∧ (μ (1, 20, 0) a).toInt ≤ 100 := by
  by_cases hi : a < ns
  · obtain ⟨-, h2, h3, -⟩ := (h.2.2.2.1 a hi).2.2.1
    rw [← h2]; omega
  · have h2 := (h.2.2.2.2.1 a (by omega) ha).2.2.2.2.2.1
    rw [h2]; decide
theorem rel_shw {ns : Nat} {kk : Nat → Nat} {σ μ : r_M} (h : rel ns kk σ μ) (a : Nat) (ha : a < 8) : 0 ≤ (μ (1, 18, 0) a).toInt ∧ (μ (1, 18, 0) a).toInt ≤ 100 := by
  by_cases hi : a < ns
  · obtain ⟨h1, h2, h3, -⟩ := (h.2.2.2.1 a hi).2.2.1
    rw [← h1]; omega
  · have h2 := (h.2.2.2.2.1 a (by omega) ha).2.2.2.2.1
    rw [h2]; decide
theorem rel_scn {ns : Nat} {kk : Nat → Nat} {σ μ : r_M} (h : rel ns kk σ μ) (a : Nat) (ha : a < 8) : 0 ≤ (μ (1, 24, 0) a).toInt ∧ (μ (1, 24, 0) a).toInt ≤ 20 := by
  by_cases hi : a < ns
  · obtain ⟨h1, h2, -⟩ := (h.2.2.2.1 a hi).2.2.2
    rw [← h1]; omega
  · have h2 := (h.2.2.2.2.1 a (by omega) ha).2.2.2.2.2.2
    rw [h2]; decide
theorem rel_tA {ns : Nat} {kk : Nat → Nat} {σ μ : r_M} (h : rel ns kk σ μ) (x : Int32) (r : Nat) (hr : (r : Int) < (μ (0, 0, 0) 1).toInt) (hx : 0 ≤ x.toInt ∧ x.toInt ≤ 4) : -1 ≤ (μ (1, 3, 0) ((5 * ((r : Nat) : Int)) + (x).toInt).toNat).toInt ∧ (μ (1, 3, 0) ((5 * ((r : Nat) : Int)) + (x).toInt).toNat).toInt ≤ 999 := by
  have e : ((5 * ((r : Nat) : Int)) + (x).toInt).toNat = 5 * r + x.toInt.toNat := by omega
  rw [e]
  exact (h.1.2.2.2 r x.toInt.toNat hr (by omega)).2
theorem rel_ns {ns : Nat} {kk : Nat → Nat} {σ μ : r_M} (h : rel ns kk σ μ) : 0 ≤ (μ (0, 0, 0) 10).toInt ∧ (μ (0, 0, 0) 10).toInt ≤ 8 := by
  obtain ⟨-, h2, h3⟩ := h.2.2.1
  omega
def x_putR (σ : r_M) (p x v : Int32) : Int32 := if (0 ≤ p.toInt ∧ p.toInt < (σ (1, 0, 0) 2).toInt) ∧ (0 ≤ x.toInt ∧ x.toInt < 5) ∧ (v.toInt = -1 ∨ (0 ≤ v.toInt ∧ v.toInt ≤ 999)) then 1 else -1
