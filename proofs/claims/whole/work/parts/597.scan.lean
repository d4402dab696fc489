/-! scanning -/
theorem r_cnt0 {c : Int32 → Bool} {a : Nat → Int32} : ∀ {n : Nat}, r_cnt c a n = 0 ↔ ∀ r, r < n → c (a r) = false := by
  intro n
  induction n with
  | zero => exact ⟨fun _ r hr => by omega, fun _ => rfl⟩
  | succ n ih =>
    rw [r_cnt_s]
    constructor
    · intro h r hr
      by_cases e : r = n
      · subst e
        cases hc : c (a r)
        · rfl
        · rw [hc] at h; simp at h
      · exact ih.mp (by omega) r (by omega)
    · intro h
      rw [ih.mpr (fun r hr => h r (by omega)), h n (by omega)]
      rfl
def r_C (a : Nat → Int32) (N k : Nat) : Nat := r_cnt (fun b => decide (b.toInt = (k : Int))) a N
theorem r_C0 {a : Nat → Int32} {N k : Nat} : r_C a N k = 0 ↔ ∀ r, r < N → ¬ (a r).toInt = (k : Int) := by
  unfold r_C
  rw [r_cnt0]
  constructor
  · intro h r hr; have := h r hr; simpa using this
  · intro h r hr; have := h r hr; simpa using this
theorem r_C1 {a : Nat → Int32} {N k r : Nat} (hr : r < N) (h : (a r).toInt = (k : Int)) : ¬ r_C a N k = 0 := fun e => r_C0.mp e r hr h
theorem r_C2 {a : Nat → Int32} {N k : Nat} (h : ¬ r_C a N k = 0) : ∃ r, r < N ∧ (a r).toInt = (k : Int) := by
  apply Classical.byContradiction
  intro hn
  exact h (r_C0.mpr (fun r hr e => hn ⟨r, hr, e⟩))
theorem r_C_le {a : Nat → Int32} {N k : Nat} : r_C a N k ≤ N := r_cnt_le
/-- the terms of an index: a, of N records -/
def r_TI (N : Nat) (a : Nat → Int32) (x : Int32) (σ : r_M) : Prop := (σ (1, 0, 0) 2).toInt = (N : Int) ∧ ∀ r, r < N → x_termOf σ (nI r) x = a r
theorem r_TI_x {N : Nat} {a : Nat → Int32} {x : Int32} {σ σ' : r_M} (h : r_TI N a x σ) (e : r_xG σ σ') : r_TI N a x σ' :=
  ⟨by rw [e _ _ _ (by omega)]; exact h.1, fun r hr => by rw [x_termOf_row e]; exact h.2 r hr⟩
theorem x_cnt_I {N : Nat} {a : Nat → Int32} {x : Int32} {σ : r_M} (h : r_TI N a x σ) (hN : N ≤ 100) {w : Int32} {k : Nat} (hw : w.toInt = (k : Int)) : x_cnt σ x w = nI (r_C a N k) := by
  have key : ∀ (n r : Nat) (acc : Int32), r + n = N → acc = nI (r_cnt (fun b => decide (b.toInt = (k : Int))) a r) → x_cntGo σ x w n r acc = nI (r_C a N k) := by
    intro n
    induction n with
    | zero => intro r acc hr ha; rw [show r = N by omega] at ha; exact ha
    | succ n ih =>
      intro r acc hr ha
      rw [x_cntGo_s, h.2 r (by omega), hw]
      apply ih (r + 1) _ (by omega)
      rw [← r_acc (by omega), ha]
      by_cases e : (a r).toInt = (k : Int)
      · rw [if_pos e, if_pos (by simpa using e)]
      · rw [if_neg e, if_neg (by simpa using e), Int32.add_zero]
  unfold x_cnt
  rw [h.1, Int.toNat_natCast]
  exact key N 0 0 (by omega) rfl
def r_L (a : Nat → Int32) (low : Int) (r : Nat) (w : Int32) : Prop := (w.toInt = -1 ∧ ∀ q, q < r → ¬ low ≤ (a q).toInt) ∨ (∃ q, q < r ∧ w = a q ∧ low ≤ (a q).toInt ∧ ∀ p, p < r → low ≤ (a p).toInt → (a q).toInt ≤ (a p).toInt)
theorem x_least_L {N : Nat} {a : Nat → Int32} {x : Int32} {σ : r_M} (h : r_TI N a x σ) {low : Int32} (hl : 0 ≤ low.toInt) : r_L a low.toInt N (x_least σ x low) := by
  have key : ∀ (n r : Nat) (acc : Int32), r + n = N → r_L a low.toInt r acc → r_L a low.toInt N (x_leastGo σ x low n r acc) := by
    intro n
    induction n with
    | zero => intro r acc hr ha; rw [show r = N by omega] at ha; exact ha
    | succ n ih =>
      intro r acc hr ha
      rw [x_leastGo_s, h.2 r (by omega)]
      apply ih (r + 1) _ (by omega)
      by_cases hc : low.toInt ≤ (a r).toInt ∧ (acc.toInt = -1 ∨ (a r).toInt < acc.toInt)
      · rw [if_pos hc]
        right
        refine ⟨r, by omega, rfl, hc.1, fun p hp hp2 => ?_⟩
        by_cases e : p = r
        · subst e; exact Int.le_refl _
        · rcases ha with ⟨h1, h2⟩ | ⟨q, h1, h2, h3, h4⟩
          · exact absurd hp2 (h2 p (by omega))
          · have := h4 p (by omega) hp2
            rw [← h2] at this h3
            omega
      · rw [if_neg hc]
        rcases ha with ⟨h1, h2⟩ | ⟨q, h1, h2, h3, h4⟩
        · left
          refine ⟨h1, fun q hq => ?_⟩
          by_cases e : q = r
          · subst e; omega
          · exact h2 q (by omega)
        · right
          refine ⟨q, by omega, h2, h3, fun p hp hp2 => ?_⟩
          by_cases e : p = r
          · subst e; rw [h2] at hc; omega
          · exact h4 p (by omega) hp2
  unfold x_least
  rw [h.1, Int.toNat_natCast]
  exact key N 0 (-1) (by omega) (Or.inl ⟨rfl, fun q hq => by omega⟩)
def r_G (a : Nat → Int32) (high : Int) (r : Nat) (w : Int32) : Prop := (w.toInt = -1 ∧ ∀ q, q < r → (a q).toInt < high → (a q).toInt ≤ -1) ∨ (∃ q, q < r ∧ w = a q ∧ (a q).toInt < high ∧ -1 < (a q).toInt ∧ ∀ p, p < r → (a p).toInt < high → (a p).toInt ≤ (a q).toInt)
theorem x_great_G {N : Nat} {a : Nat → Int32} {x : Int32} {σ : r_M} (h : r_TI N a x σ) {high : Int32} : r_G a high.toInt N (x_great σ x high) := by
  have key : ∀ (n r : Nat) (acc : Int32), r + n = N → r_G a high.toInt r acc → r_G a high.toInt N (x_greatGo σ x high n r acc) := by
    intro n
    induction n with
    | zero => intro r acc hr ha; rw [show r = N by omega] at ha; exact ha
    | succ n ih =>
      intro r acc hr ha
      rw [x_greatGo_s, h.2 r (by omega)]
      apply ih (r + 1) _ (by omega)
      by_cases hc : (a r).toInt < high.toInt ∧ acc.toInt < (a r).toInt
      · rw [if_pos hc]
        right
        refine ⟨r, by omega, rfl, hc.1, ?_, fun p hp hp2 => ?_⟩
        · rcases ha with ⟨h1, h2⟩ | ⟨q, h1, h2, h3, h4, h5⟩
          · omega
          · rw [h2] at hc; omega
        · by_cases e : p = r
          · subst e; exact Int.le_refl _
          · rcases ha with ⟨h1, h2⟩ | ⟨q, h1, h2, h3, h4, h5⟩
            · have := h2 p (by omega) hp2; omega
            · have := h5 p (by omega) hp2
              rw [h2] at hc
              omega
      · rw [if_neg hc]
        rcases ha with ⟨h1, h2⟩ | ⟨q, h1, h2, h3, h4, h5⟩
        · left
          refine ⟨h1, fun q hq hq2 => ?_⟩
          by_cases e : q = r
          · subst e; omega
          · exact h2 q (by omega) hq2
        · right
          refine ⟨q, by omega, h2, h3, h4, fun p hp hp2 => ?_⟩
          by_cases e : p = r
          · subst e; rw [h2] at hc; omega
          · exact h5 p (by omega) hp2
  unfold x_great
  rw [h.1, Int.toNat_natCast]
  exact key N 0 (-1) (by omega) (Or.inl ⟨rfl, fun q hq => by omega⟩)
/-- how many terms below k occur -/
def r_rk (C : Nat → Nat) : Nat → Nat
  | 0 => 0
  | k + 1 => r_rk C k + (if C k = 0 then 0 else 1)
theorem r_rk_s (C : Nat → Nat) (k : Nat) : r_rk C (k + 1) = r_rk C k + (if C k = 0 then 0 else 1) := rfl
theorem r_rk_mono {C : Nat → Nat} {a : Nat} : ∀ {n : Nat}, r_rk C a ≤ r_rk C (a + n) := by
  intro n
  induction n with
  | zero => exact Nat.le_refl _
  | succ n ih => rw [show a + (n + 1) = a + n + 1 by omega, r_rk_s]; omega
theorem r_rk_flat {C : Nat → Nat} {a : Nat} : ∀ {n : Nat}, (∀ j, a ≤ j → j < a + n → C j = 0) → r_rk C (a + n) = r_rk C a := by
  intro n
  induction n with
  | zero => intro _; rfl
  | succ n ih =>
    intro h
    rw [show a + (n + 1) = a + n + 1 by omega, r_rk_s, h (a + n) (by omega) (by omega), ih (fun j h1 h2 => h j h1 (by omega))]
    rfl
theorem r_back {N : Nat} {a : Nat → Int32} {x : Int32} {σ : r_M} (h : r_TI N a x σ) (ha : ∀ r, r < N → -1 ≤ (a r).toInt ∧ (a r).toInt ≤ 999) : ∀ (p : Nat) (b : Int32), 0 ≤ b.toInt → b.toInt ≤ 999 → (0 ≤ (x_backGo σ x p b).toInt ∧ (x_backGo σ x p b).toInt ≤ 999) ∧ r_rk (r_C a N) (x_backGo σ x p b).toInt.toNat = r_rk (r_C a N) b.toInt.toNat - p := by
  intro p
  induction p with
  | zero => intro b h0 h1; exact ⟨⟨h0, h1⟩, rfl⟩
  | succ p ih =>
    intro b h0 h1
    rw [x_backGo_s]
    rcases x_great_G h (high := b) with ⟨g1, g2⟩ | ⟨q, g1, g2, g3, g4, g5⟩
    · rw [if_pos g1]
      refine ⟨⟨h0, h1⟩, ?_⟩
      have : r_rk (r_C a N) (0 + b.toInt.toNat) = r_rk (r_C a N) 0 := r_rk_flat (fun j _ hj => r_C0.mpr (fun r hr e => by
        have := g2 r hr (by omega)
        omega))
      rw [Nat.zero_add] at this
      rw [this]
      show 0 = 0 - (p + 1)
      omega
    · rw [g2, if_neg (by omega)]
      obtain ⟨i1, i2⟩ := ih (a q) (by omega) (by omega)
      refine ⟨i1, ?_⟩
      rw [i2]
      have e1 : r_rk (r_C a N) ((a q).toInt.toNat + 1 + (b.toInt.toNat - ((a q).toInt.toNat + 1))) = r_rk (r_C a N) ((a q).toInt.toNat + 1) := r_rk_flat (fun j hj1 hj2 => r_C0.mpr (fun r hr e => by
        have := g5 r hr (by omega)
        omega))
      rw [show (a q).toInt.toNat + 1 + (b.toInt.toNat - ((a q).toInt.toNat + 1)) = b.toInt.toNat by omega, r_rk_s, if_neg (r_C1 g1 (by omega))] at e1
      omega
theorem x_least_skip {N : Nat} {a : Nat → Int32} {x : Int32} {σ : r_M} (h : r_TI N a x σ) {k : Nat} (hk : k < 1000) (hC : r_C a N k = 0) : x_least σ x (nI k) = x_least σ x (nI (k + 1)) := by
  have e1 : (nI k).toInt = (k : Int) := g_nIT (by omega)
  have e2 : (nI (k + 1)).toInt = ((k + 1 : Nat) : Int) := g_nIT (by omega)
  have h1 := x_least_L h (low := nI k) (by omega)
  have h2 := x_least_L h (low := nI (k + 1)) (by omega)
  have h0 := r_C0.mp hC
  rw [e1] at h1
  rw [e2] at h2
  rw [g_eqI]
  rcases h1 with ⟨a1, a2⟩ | ⟨q, a1, a2, a3, a4⟩
  · rcases h2 with ⟨b1, b2⟩ | ⟨p, b1, b2, b3, b4⟩
    · omega
    · exact absurd (show (k : Int) ≤ (a p).toInt by omega) (a2 p b1)
  · have := h0 q a1
    rcases h2 with ⟨b1, b2⟩ | ⟨p, b1, b2, b3, b4⟩
    · exact absurd (show ((k + 1 : Nat) : Int) ≤ (a q).toInt by omega) (b2 q a1)
    · have c1 := a4 p b1 (by omega)
      have c2 := b4 q a1 (by omega)
      rw [a2, b2]
      omega
theorem x_least_hit {N : Nat} {a : Nat → Int32} {x : Int32} {σ : r_M} (h : r_TI N a x σ) {k : Nat} (hk : k < 1000) (hC : ¬ r_C a N k = 0) : x_least σ x (nI k) = nI k := by
  have e1 : (nI k).toInt = (k : Int) := g_nIT (by omega)
  have h1 := x_least_L h (low := nI k) (by omega)
  rw [e1] at h1
  obtain ⟨r, hr, er⟩ := r_C2 hC
  rw [g_eqI]
  rcases h1 with ⟨a1, a2⟩ | ⟨q, a1, a2, a3, a4⟩
  · exact absurd (show (k : Int) ≤ (a r).toInt by omega) (a2 r hr)
  · have := a4 r hr (by omega)
    rw [a2]
    omega
theorem x_least_end {N : Nat} {a : Nat → Int32} {x : Int32} {σ : r_M} (h : r_TI N a x σ) (ha : ∀ r, r < N → -1 ≤ (a r).toInt ∧ (a r).toInt ≤ 999) : (x_least σ x (nI 1000)).toInt = -1 := by
  have e1 : (nI 1000).toInt = (1000 : Int) := g_nIT (by omega)
  have h1 := x_least_L h (low := nI 1000) (by omega)
  rw [e1] at h1
  rcases h1 with ⟨a1, a2⟩ | ⟨q, a1, a2, a3, a4⟩
  · exact a1
  · have := ha q a1
    omega
theorem x_least_0 {N : Nat} {a : Nat → Int32} {x : Int32} {σ : r_M} (h : r_TI N a x σ) (ha : ∀ r, r < N → -1 ≤ (a r).toInt ∧ (a r).toInt ≤ 999) : (x_least σ x 0).toInt = -1 ↔ r_rk (r_C a N) 1000 = 0 := by
  have e1 : (0 : Int32).toInt = 0 := rfl
  have h1 := x_least_L h (low := 0) (by omega)
  rw [e1] at h1
  constructor
  · intro hx
    rcases h1 with ⟨a1, a2⟩ | ⟨q, a1, a2, a3, a4⟩
    · have : r_rk (r_C a N) (0 + 1000) = r_rk (r_C a N) 0 := r_rk_flat (fun j _ hj => r_C0.mpr (fun r hr e => a2 r hr (by omega)))
      exact this
    · rw [a2] at hx; omega
  · intro hk
    rcases h1 with ⟨a1, a2⟩ | ⟨q, a1, a2, a3, a4⟩
    · exact a1
    · have b := ha q a1
      have c : r_rk (r_C a N) ((a q).toInt.toNat + 1) ≤ r_rk (r_C a N) ((a q).toInt.toNat + 1 + (1000 - ((a q).toInt.toNat + 1))) := r_rk_mono
      rw [show (a q).toInt.toNat + 1 + (1000 - ((a q).toInt.toNat + 1)) = 1000 by omega, r_rk_s, if_neg (r_C1 a1 (by omega))] at c
      omega
theorem m_zero_at {q : Nat} : ∀ (n k : Nat) (μ : r_M), m_zeroGo n k μ (1, 27, 0) q = if k ≤ q ∧ q < k + n then 0 else μ (1, 27, 0) q := by
  intro n
  induction n with
  | zero => intro k μ; rw [if_neg (by omega)]; rfl
  | succ n ih =>
    intro k μ
    rw [m_zeroGo_s, ih, g_up_at, if_pos rfl]
    by_cases e : q = k
    · rw [if_neg (by omega), if_pos e, if_pos (by omega)]
    · rw [if_neg e]
      by_cases e2 : k ≤ q ∧ q < k + (n + 1)
      · rw [if_pos e2, if_pos (by omega)]
      · rw [if_neg e2, if_neg (by omega)]
theorem m_reckon_27 {μ : r_M} {x : Int32} {N : Nat} {a : Nat → Int32} (hN : (μ (0, 0, 0) 1).toInt = (N : Int)) (hN1 : N ≤ 100) (ha : ∀ r, r < N → μ (1, 3, 0) ((5 * ((r : Nat) : Int)) + x.toInt).toNat = a r) {k : Nat} (hk : k < 1000) : m_reckon μ x (1, 27, 0) k = nI (r_C a N k) := by
  have key : ∀ (n r : Nat) (ν : r_M), r + n = N → (∀ r, r < N → ν (1, 3, 0) ((5 * ((r : Nat) : Int)) + x.toInt).toNat = a r) → ν (1, 27, 0) k = nI (r_cnt (fun b => decide (b.toInt = (k : Int))) a r) → m_rkGo x n r ν (1, 27, 0) k = nI (r_C a N k) := by
    intro n
    induction n with
    | zero => intro r ν hr _ h; rw [show r = N by omega] at h; exact h
    | succ n ih =>
      intro r ν hr h3 h
      rw [m_rkGo_s, h3 r (by omega)]
      apply ih (r + 1) _ (by omega)
      · intro q hq
        split
        · exact h3 q hq
        · rw [g_up_row (by simp)]; exact h3 q hq
      · rw [← r_acc (by omega)]
        by_cases e : (a r).toInt < 0
        · rw [if_pos e, if_neg (by simp; omega), Int32.add_zero]
          exact h
        · rw [if_neg e, g_up_at, if_pos rfl]
          by_cases e2 : k = (a r).toInt.toNat
          · rw [if_pos e2, ← e2, if_pos (by simp; omega), h]
          · rw [if_neg e2, if_neg (by simp; omega), Int32.add_zero]
            exact h
  unfold m_reckon
  rw [hN, Int.toNat_natCast]
  refine key N 0 _ (by omega) (fun r hr => ?_) ?_
  · rw [m_zeroGo_row (by simp)]; exact ha r hr
  · rw [m_zero_at, if_pos (by omega)]; rfl
theorem r_scA {ρ : r_M} {C : Nat → Nat} (hC : ∀ k, k < 1000 → ρ (1, 27, 0) k = nI (C k)) (hC1 : ∀ k, C k ≤ 100) {t : Int32} {t' : Nat} (ht : t.toInt = (t' : Int)) : ∀ (n k al be : Nat), k + n ≤ 1000 → al = r_rk C k → be = r_rk C (min k t') → m_scA ρ t n k al be = (r_rk C (k + n), r_rk C (min (k + n) t')) := by
  intro n
  induction n with
  | zero => intro k al be _ h1 h2; rw [h1, h2]; rfl
  | succ n ih =>
    intro k al be hk h1 h2
    have e : (nI (C k)).toInt = (C k : Int) := g_nIT (by have := hC1 k; omega)
    rw [m_scA_s, hC k (by omega), e, ht, show k + (n + 1) = k + 1 + n by omega]
    apply ih (k + 1) _ _ (by omega)
    · rw [r_rk_s, h1]
      by_cases c : C k = 0
      · rw [if_pos (by omega), if_pos c]
      · rw [if_neg (by omega), if_neg c]
    · rw [h2]
      by_cases c2 : t' ≤ k
      · rw [show min (k + 1) t' = t' by omega, show min k t' = t' by omega, if_pos (show (t' : Int) ≤ (k : Int) by omega)]
        split <;> rfl
      · rw [show min (k + 1) t' = k + 1 by omega, show min k t' = k by omega, if_neg (show ¬ (t' : Int) ≤ (k : Int) by omega), r_rk_s]
        by_cases c : C k = 0
        · rw [if_pos (by omega), if_pos c]
        · rw [if_neg (by omega), if_neg c]
theorem r_scB1 {ρ : r_M} {C : Nat → Nat} (hC : ∀ k, k < 1000 → ρ (1, 27, 0) k = nI (C k)) (hC1 : ∀ k, C k ≤ 100) {u nn : Int32} {zb : Int} {st : Nat} (hst : st ≤ 1000) (hzb : zb = (r_rk C st : Int)) (n : Nat) : ∀ (d k : Nat), k + d ≤ st → m_scB u nn zb (d + n) k (r_rk C k) 0 ρ = m_scB u nn zb n (k + d) (r_rk C (k + d)) 0 ρ := by
  intro d
  induction d with
  | zero => intro k _; rw [Nat.zero_add]; rfl
  | succ d ih =>
    intro k hk
    have e : (nI (C k)).toInt = (C k : Int) := g_nIT (by have := hC1 k; omega)
    rw [show d + 1 + n = (d + n) + 1 by omega, m_scB_s, hC k (by omega), e]
    have hi := ih (k + 1) (by omega)
    rw [r_rk_s] at hi
    rw [show k + (d + 1) = k + 1 + d by omega]
    by_cases c : C k = 0
    · rw [if_pos (by omega)]
      rw [if_pos c] at hi
      exact hi
    · rw [if_neg (by omega)]
      rw [if_neg c] at hi
      have hm : r_rk C (k + 1) ≤ r_rk C (k + 1 + (st - (k + 1))) := r_rk_mono
      rw [show k + 1 + (st - (k + 1)) = st by omega, r_rk_s, if_neg c] at hm
      rw [if_neg (by omega)]
      exact hi
def r_ZI (s gt : Nat) (σ μ : r_M) : Prop := σ (17, s, 0) 2 = nI gt ∧ gt ≤ 20 ∧ ∀ n, n < gt → σ (20, s, 0) n = μ (1, 25, 0) (20 * s + n) ∧ σ (21, s, 0) n = μ (1, 26, 0) (20 * s + n)
def r_ZF (s : Nat) (σ0 σ : r_M) : Prop := ∀ y : g_S, y ≠ (17, s, 0) → y ≠ (20, s, 0) → y ≠ (21, s, 0) → σ y = σ0 y
def r_ZG (s : Nat) (μ0 μ : r_M) : Prop := (∀ y : g_S, y ≠ (1, 25, 0) → y ≠ (1, 26, 0) → μ y = μ0 y) ∧ ∀ a, ¬ (20 * s ≤ a ∧ a < 20 * s + 20) → μ (1, 25, 0) a = μ0 (1, 25, 0) a ∧ μ (1, 26, 0) a = μ0 (1, 26, 0) a
theorem x_fill_stop {s : Nat} {x nn : Int32} {σ : r_M} {w : Int32} (h : nn.toInt ≤ (σ (17, s, 0) 2).toInt ∨ w.toInt = -1) : ∀ f, x_fillGo s x nn f σ w = σ := by
  intro f
  cases f with
  | zero => rfl
  | succ f => rw [x_fillGo_s, if_pos h]
theorem r_fillGo {s N : Nat} {a : Nat → Int32} {x u nn : Int32} {zb : Int} (hN : N ≤ 100) (ha : ∀ r, r < N → -1 ≤ (a r).toInt ∧ (a r).toInt ≤ 999) (hu : u.toInt = (s : Int)) (hnn : nn.toInt ≤ 20) {σ0 μ0 : r_M} (hT0 : r_TI N a x σ0) (hC0 : ∀ k, k < 1000 → μ0 (1, 27, 0) k = nI (r_C a N k)) : ∀ (n k gt f : Nat) (σ μ : r_M), k + n = 1000 → zb ≤ (r_rk (r_C a N) k : Int) → nn.toInt ≤ ((gt + f : Nat) : Int) → r_ZI s gt σ μ → r_ZF s σ0 σ → r_ZG s μ0 μ →
    r_ZI s (m_scB u nn zb n k (r_rk (r_C a N) k) gt μ).2 (x_fillGo s x nn f σ (x_least σ x (nI k))) (m_scB u nn zb n k (r_rk (r_C a N) k) gt μ).1 ∧ r_ZF s σ0 (x_fillGo s x nn f σ (x_least σ x (nI k))) ∧ r_ZG s μ0 (m_scB u nn zb n k (r_rk (r_C a N) k) gt μ).1 := by
  intro n
  induction n with
  | zero =>
    intro k gt f σ μ hk hz hf hI hF hG
    have hT : r_TI N a x σ := r_TI_x hT0 (fun k i j hk => hF _ (by simp; omega) (by simp; omega) (by simp; omega))
    rw [show k = 1000 by omega, x_fill_stop (Or.inr (x_least_end hT ha))]
    exact ⟨hI, hF, hG⟩
  | succ n ih =>
    intro k gt f σ μ hk hz hf hI hF hG
    have hT : r_TI N a x σ := r_TI_x hT0 (fun k i j hk => hF _ (by simp; omega) (by simp; omega) (by simp; omega))
    have hC : μ (1, 27, 0) k = nI (r_C a N k) := by rw [hG.1 _ (by simp) (by simp)]; exact hC0 k (by omega)
    have hle : r_C a N k ≤ N := r_C_le
    have e : (nI (r_C a N k)).toInt = (r_C a N k : Int) := g_nIT (by omega)
    have hr := r_rk_s (r_C a N) k
    have hz2 : zb ≤ (r_rk (r_C a N) (k + 1) : Int) := by omega
    obtain ⟨i1, i2, i3⟩ := hI
    have eg : (nI gt).toInt = (gt : Int) := g_nIT (by omega)
    rw [m_scB_s, hC, e]
    by_cases c : r_C a N k = 0
    · rw [if_pos (by omega), x_least_skip hT (by omega) c]
      have hr2 : r_rk (r_C a N) (k + 1) = r_rk (r_C a N) k := by rw [hr, if_pos c]; rfl
      rw [← hr2]
      exact ih (k + 1) gt f σ μ (by omega) hz2 hf ⟨i1, i2, i3⟩ hF hG
    · rw [if_neg (show ¬ (r_C a N k : Int) = 0 by omega)]
      rw [if_neg c] at hr
      by_cases c2 : (gt : Int) < nn.toInt
      · rw [if_pos ⟨hz, c2⟩, ← hr, x_least_hit hT (by omega) c]
        cases f with
        | zero => omega
        | succ f =>
          have ek : (nI k).toInt = (k : Int) := g_nIT (by omega)
          rw [x_fillGo_s, if_neg (by rw [i1, eg, ek]; omega), nI_s (by omega)]
          have ei : ((20 * u.toInt) + ((gt : Nat) : Int)).toNat = 20 * s + gt := by omega
          rw [ei]
          have ep : x_scPut σ s x (nI k) = g_up (g_up (g_up σ (20, s, 0) gt (nI k)) (21, s, 0) gt (nI (r_C a N k))) (17, s, 0) 2 (nI (gt + 1)) := by
            unfold x_scPut
            rw [i1, g_nIc (by omega), nI_s (by omega), x_cnt_I (r_TI_x hT (fun k i j hk => g_up_row (by simp; omega))) hN ek]
          rw [ep]
          have x17 : g_up (g_up (g_up σ (20, s, 0) gt (nI k)) (21, s, 0) gt (nI (r_C a N k))) (17, s, 0) 2 (nI (gt + 1)) (17, s, 0) 2 = nI (gt + 1) := g_up_same
          have x20 : ∀ q, g_up (g_up (g_up σ (20, s, 0) gt (nI k)) (21, s, 0) gt (nI (r_C a N k))) (17, s, 0) 2 (nI (gt + 1)) (20, s, 0) q = if q = gt then nI k else σ (20, s, 0) q := fun q => by
            rw [g_up_row (by simp), g_up_row (by simp), g_up_at, if_pos rfl]
          have x21 : ∀ q, g_up (g_up (g_up σ (20, s, 0) gt (nI k)) (21, s, 0) gt (nI (r_C a N k))) (17, s, 0) 2 (nI (gt + 1)) (21, s, 0) q = if q = gt then nI (r_C a N k) else σ (21, s, 0) q := fun q => by
            rw [g_up_row (by simp), g_up_at, if_pos rfl, g_up_row (by simp)]
          have m25 : ∀ q, g_up (g_up μ (1, 25, 0) (20 * s + gt) (nI k)) (1, 26, 0) (20 * s + gt) (nI (r_C a N k)) (1, 25, 0) q = if q = 20 * s + gt then nI k else μ (1, 25, 0) q := fun q => by
            rw [g_up_row (by simp), g_up_at, if_pos rfl]
          have m26 : ∀ q, g_up (g_up μ (1, 25, 0) (20 * s + gt) (nI k)) (1, 26, 0) (20 * s + gt) (nI (r_C a N k)) (1, 26, 0) q = if q = 20 * s + gt then nI (r_C a N k) else μ (1, 26, 0) q := fun q => by
            rw [g_up_at, if_pos rfl, g_up_row (by simp)]
          refine ih (k + 1) (gt + 1) f _ _ (by omega) hz2 (by omega) ⟨x17, by omega, fun q hq => ?_⟩ (fun y y1 y2 y3 => ?_) ⟨fun y y1 y2 => ?_, fun q hq => ?_⟩
          · rw [x20, x21, m25, m26]
            by_cases e5 : q = gt
            · rw [if_pos e5, if_pos e5, if_pos (by omega), if_pos (by omega)]; exact ⟨rfl, rfl⟩
            · rw [if_neg e5, if_neg e5, if_neg (by omega), if_neg (by omega)]; exact i3 q (by omega)
          · rw [g_up_row y1, g_up_row y3, g_up_row y2]; exact hF y y1 y2 y3
          · rw [g_up_row y2, g_up_row y1]; exact hG.1 y y1 y2
          · rw [m25, m26, if_neg (by omega), if_neg (by omega)]; exact hG.2 q hq
      · rw [if_neg (fun q => c2 q.2), ← hr, x_fill_stop (Or.inl (by rw [i1, eg]; omega))]
        have := ih (k + 1) gt f σ μ (by omega) hz2 hf ⟨i1, i2, i3⟩ hF hG
        rw [x_fill_stop (Or.inl (by rw [i1, eg]; omega))] at this
        exact this
theorem rel_27 {ns : Nat} {kk : Nat → Nat} {σ μ ν : r_M} (h : rel ns kk σ μ) (e : ∀ y : g_S, y ≠ (1, 27, 0) → ν y = μ y) : rel ns kk σ ν := by
  have e0 : ν (0, 0, 0) = μ (0, 0, 0) := e _ (by simp)
  have e4 : ∀ k : Nat, k ≠ 27 → ν (1, k, 0) = μ (1, k, 0) := fun k hk => e _ (by simp [hk])
  have e5 : ν (2, 13, 0) = μ (2, 13, 0) := e _ (by simp)
  have q2 := e4 2 (by decide)
  have q3 := e4 3 (by decide)
  have q5 := e4 5 (by decide)
  have q6 := e4 6 (by decide)
  have q7 := e4 7 (by decide)
  have q8 := e4 8 (by decide)
  have q11 := e4 11 (by decide)
  have q12 := e4 12 (by decide)
  have q14 := e4 14 (by decide)
  have q15 := e4 15 (by decide)
  have q16 := e4 16 (by decide)
  have q17 := e4 17 (by decide)
  have q18 := e4 18 (by decide)
  have q19 := e4 19 (by decide)
  have q20 := e4 20 (by decide)
  have q21 := e4 21 (by decide)
  have q22 := e4 22 (by decide)
  have q23 := e4 23 (by decide)
  have q24 := e4 24 (by decide)
  have q25 := e4 25 (by decide)
  have q26 := e4 26 (by decide)
  simpa only [rel, r_R, r_Q, r_Q1, r_N, r_S, r_O, r_T, r_P, r_Z, r_U, r_B, e0, e5, q2, q3, q5, q6, q7, q8, q11, q12, q14, q15, q16, q17, q18, q19, q20, q21, q22, q23, q24, q25, q26] using h
section RL
variable {ns : Nat} {kk : Nat → Nat} {σ μ : r_M}
theorem r_scn (h : rel ns kk σ μ) {s : Nat} (hs : s < ns) {u x t nn pl : Int32} (hu : u.toInt = (s : Int)) (hx : 0 ≤ x.toInt ∧ x.toInt < 5) (ht : 0 ≤ t.toInt ∧ t.toInt ≤ 999) (hnn : 1 ≤ nn.toInt ∧ nn.toInt ≤ 20) (hpl : 0 ≤ pl.toInt ∧ pl.toInt ≤ 9) : ((x_least σ x 0).toInt = -1 ↔ (((m_cA μ x t).1 : Nat) : Int) = 0) ∧ x_fillM σ s x (x_backGo σ x pl.toInt.toNat t) nn (17, s, 0) 2 = nI (m_cB μ u x t nn pl).2 ∧ rel ns kk (x_fillM σ s x (x_backGo σ x pl.toInt.toNat t) nn) (m_cM μ u x t nn pl) := by
  obtain ⟨q1, q2, q3, q4⟩ := h.1
  obtain ⟨hO, hT, hP, hZ⟩ := h.2.2.2.1 _ hs
  obtain ⟨N, hN⟩ : ∃ N : Nat, (μ (0, 0, 0) 1).toInt = (N : Int) := ⟨(μ (0, 0, 0) 1).toInt.toNat, by omega⟩
  obtain ⟨t', ht'⟩ : ∃ t' : Nat, t.toInt = (t' : Int) := ⟨t.toInt.toNat, by omega⟩
  obtain ⟨p, hp⟩ : ∃ p : Nat, pl.toInt = (p : Int) := ⟨pl.toInt.toNat, by omega⟩
  have es : u.toInt.toNat = s := by omega
  have hTI : r_TI N (fun r => μ (1, 3, 0) (5 * r + x.toInt.toNat)) x σ := ⟨by rw [q1]; exact hN, fun r hr => r_termOf h.1 (by omega) ⟨hx.1, by omega⟩⟩
  have ha : ∀ r, r < N → -1 ≤ ((fun r => μ (1, 3, 0) (5 * r + x.toInt.toNat)) r).toInt ∧ ((fun r => μ (1, 3, 0) (5 * r + x.toInt.toNat)) r).toInt ≤ 999 := fun r hr => (q4 r x.toInt.toNat (by omega) (by omega)).2
  have h27 : ∀ k, k < 1000 → m_reckon μ x (1, 27, 0) k = nI (r_C (fun r => μ (1, 3, 0) (5 * r + x.toInt.toNat)) N k) := fun k hk => m_reckon_27 hN (by omega) (fun r hr => by
    show _ = μ (1, 3, 0) (5 * r + x.toInt.toNat)
    rw [show ((5 * ((r : Nat) : Int)) + x.toInt).toNat = 5 * r + x.toInt.toNat by omega]) hk
  generalize (fun r => μ (1, 3, 0) (5 * r + x.toInt.toNat)) = a at hTI ha h27
  have hCle : ∀ k, r_C a N k ≤ 100 := fun k => by have : r_C a N k ≤ N := r_C_le; omega
  have eA : m_cA μ x t = (r_rk (r_C a N) 1000, r_rk (r_C a N) t') := by
    unfold m_cA
    rw [r_scA h27 hCle ht' 1000 0 0 0 (by omega) rfl (by rw [Nat.zero_min]; rfl), show min (0 + 1000) t' = t' by omega]
  have hb := r_back hTI ha p t ht.1 ht.2
  rw [hp, Int.toNat_natCast, eA]
  generalize x_backGo σ x p t = b at hb
  obtain ⟨⟨b1, b2⟩, b3⟩ := hb
  obtain ⟨st, hst⟩ : ∃ st : Nat, b.toInt = (st : Int) := ⟨b.toInt.toNat, by omega⟩
  have ebn : b = nI st := by rw [← r_nI (w := b) (by omega), hst]; rfl
  rw [hst, ht', Int.toNat_natCast, Int.toNat_natCast] at b3
  have ezb : m_zb (m_cA μ x t).2 pl = ((r_rk (r_C a N) st : Nat) : Int) := by
    unfold m_zb
    rw [eA, b3, hp]
    show (if ((r_rk (r_C a N) t' : Nat) : Int) < (p : Int) then (0 : Int) else ((r_rk (r_C a N) t' : Nat) : Int) - (p : Int)) = _
    split <;> omega
  have eB : m_cB μ u x t nn pl = m_scB u nn ((r_rk (r_C a N) st : Nat) : Int) (1000 - st) st (r_rk (r_C a N) st) 0 (m_reckon μ x) := by
    unfold m_cB
    rw [ezb]
    have := r_scB1 (u := u) (nn := nn) (zb := ((r_rk (r_C a N) st : Nat) : Int)) h27 hCle (st := st) (by omega) rfl (1000 - st) st 0 (by omega)
    rw [show st + (1000 - st) = 1000 by omega, Nat.zero_add] at this
    exact this
  have x1 : ∀ y : g_S, y ≠ (17, s, 0) → g_up σ (17, s, 0) 2 0 y = σ y := fun y hy => g_up_row hy
  obtain ⟨f1, f2, f3⟩ := r_fillGo (s := s) (zb := ((r_rk (r_C a N) st : Nat) : Int)) (u := u) (nn := nn) (by omega) ha hu hnn.2 (σ0 := σ) (μ0 := m_reckon μ x) hTI h27 (1000 - st) st 0 20 (g_up σ (17, s, 0) 2 0) (m_reckon μ x) (by omega) (Int.le_refl _) (by omega) ⟨g_up_same, by omega, fun n hn => by omega⟩ (fun y a _ _ => x1 y a) ⟨fun _ _ _ => rfl, fun _ _ => ⟨rfl, rfl⟩⟩
  have eF : x_fillM σ s x b nn = x_fillGo s x nn 20 (g_up σ (17, s, 0) 2 0) (x_least (g_up σ (17, s, 0) 2 0) x (nI st)) := by
    unfold x_fillM
    rw [ebn]
  rw [← eB, ← eF] at f1
  rw [← eF] at f2
  rw [← eB] at f3
  obtain ⟨z1, z2, z3⟩ := f1
  refine ⟨?_, z1, ?_⟩
  · rw [x_least_0 hTI ha]
    show _ ↔ ((r_rk (r_C a N) 1000 : Nat) : Int) = 0
    omega
  unfold m_cM
  rw [es]
  generalize x_fillM σ s x b nn = X at *
  generalize m_cB μ u x t nn pl = Y at *
  have ey : (nI Y.2).toInt = (Y.2 : Int) := g_nIT (by omega)
  have hrr : ∀ y : g_S, y ≠ (1, 27, 0) → m_reckon μ x y = μ y := fun y hy => m_reckon_row hy
  have mr : ∀ y : g_S, y ≠ (1, 24, 0) → y ≠ (1, 25, 0) → y ≠ (1, 26, 0) → y ≠ (1, 27, 0) → g_up Y.1 (1, 24, 0) s (nI Y.2) y = μ y := fun y a b c d => by
    rw [g_up_row a, f3.1 y b c, hrr y d]
  have mk : ∀ k, k ≠ 24 → k ≠ 25 → k ≠ 26 → k ≠ 27 → g_up Y.1 (1, 24, 0) s (nI Y.2) (1, k, 0) = μ (1, k, 0) := fun k a b c d => mr _ (by simp [a]) (by simp [b]) (by simp [c]) (by simp [d])
  have m0 := mr (0, 0, 0) (by simp) (by simp) (by simp) (by simp)
  have m13 := mr (2, 13, 0) (by simp) (by simp) (by simp) (by simp)
  have m24 : ∀ a, g_up Y.1 (1, 24, 0) s (nI Y.2) (1, 24, 0) a = if a = s then nI Y.2 else μ (1, 24, 0) a := fun a => by
    rw [g_up_at, if_pos rfl, f3.1 _ (by simp) (by simp), hrr _ (by simp)]
  have m25 : g_up Y.1 (1, 24, 0) s (nI Y.2) (1, 25, 0) = Y.1 (1, 25, 0) := g_up_row (by simp)
  have m26 : g_up Y.1 (1, 24, 0) s (nI Y.2) (1, 26, 0) = Y.1 (1, 26, 0) := g_up_row (by simp)
  refine rel_op h (s := s) (fun k i q hk => f2 _ (by simp; omega) (by simp; omega) (by simp; omega)) ⟨⟨by rw [m0], by rw [m0], by rw [m0]⟩, ⟨mk _ (by omega) (by omega) (by omega) (by omega), mk _ (by omega) (by omega) (by omega) (by omega)⟩, mk _ (by omega) (by omega) (by omega) (by omega), mk _ (by omega) (by omega) (by omega) (by omega), mk _ (by omega) (by omega) (by omega) (by omega), mk _ (by omega) (by omega) (by omega) (by omega)⟩ (fun i hi k q hk => f2 _ (by simp [hi]) (by simp [hi]) (by simp [hi])) (fun i _ hi => ?_) hs ⟨?_, fun j2 hj2 => ?_, ?_, ?_⟩ ?_
  · refine ⟨⟨⟨?_, ?_, ?_, ?_, ?_⟩, ?_, ?_, ?_⟩, fun j2 hj => ?_, fun j2 n hj hn => ?_, fun n hn => ⟨?_, ?_, ?_, ?_⟩, fun n hn => ?_⟩
    case refine_3 => rw [m13]
    case refine_8 => rw [m24, if_neg hi]
    case refine_15 =>
      have := f3.2 (20 * i + n) (by omega)
      rw [hrr (1, 25, 0) (by simp), hrr (1, 26, 0) (by simp)] at this
      rw [m25, m26]
      exact this
    all_goals rw [mk _ (by omega) (by omega) (by omega) (by omega)]
  · unfold r_O at hO ⊢
    rw [f2 (11, s, 0) (by simp) (by simp) (by simp), f2 (13, s, 0) (by simp) (by simp) (by simp), m13, mk 11 (by omega) (by omega) (by omega) (by omega), mk 12 (by omega) (by omega) (by omega) (by omega), mk 14 (by omega) (by omega) (by omega) (by omega), mk 15 (by omega) (by omega) (by omega) (by omega)]
    exact hO
  · have h9 := hT j2 hj2
    unfold r_T at h9 ⊢
    rw [f2 (18, s, j2) (by simp) (by simp) (by simp), f2 (19, s, j2) (by simp) (by simp) (by simp), m0, mk 16 (by omega) (by omega) (by omega) (by omega), mk 17 (by omega) (by omega) (by omega) (by omega)]
    exact h9
  · unfold r_P at hP ⊢
    rw [f2 (13, s, 0) (by simp) (by simp) (by simp), f2 (14, s, 0) (by simp) (by simp) (by simp), f2 (15, s, 0) (by simp) (by simp) (by simp), f2 (16, s, 0) (by simp) (by simp) (by simp), mk 18 (by omega) (by omega) (by omega) (by omega), mk 20 (by omega) (by omega) (by omega) (by omega), mk 19 (by omega) (by omega) (by omega) (by omega), mk 21 (by omega) (by omega) (by omega) (by omega), mk 22 (by omega) (by omega) (by omega) (by omega), mk 23 (by omega) (by omega) (by omega) (by omega)]
    exact hP
  · unfold r_Z
    rw [m24, if_pos rfl, m25, m26, z1, ey]
    exact ⟨rfl, ⟨by omega, by omega⟩, fun n hn => z3 n (by omega)⟩
  · unfold r_B
    rw [mk 16 (by omega) (by omega) (by omega) (by omega), mk 17 (by omega) (by omega) (by omega) (by omega)]
    exact h.2.2.2.2.2
theorem r_scan (h : rel ns kk σ μ) (u x t nn pl : Int32) : x_scanR σ ns kk u x t nn pl = m_scanR μ u x t nn pl ∧ rel ns kk (x_scanM σ ns kk u x t nn pl) (m_scanM μ u x t nn pl) := by
  unfold x_scanR m_scanR x_scanM m_scanM
  by_cases ho : (0 ≤ u.toInt ∧ u.toInt < (ns : Int)) ∧ ¬ (σ (11, u.toNatClampNeg, 0) 4).toInt = 0
  · have ho2 := (r_open h u).mp ho
    have hs : u.toInt.toNat < ns := by omega
    rw [if_pos ho, if_pos ho2, if_pos ho, if_pos ho2, g_cl, r_opt h hs]
    by_cases hp : ¬ (μ (1, 11, 0) u.toInt.toNat &&& 2).toInt = 0
    · rw [if_pos hp, if_pos hp, if_pos hp, if_pos hp]
      by_cases hx : 0 ≤ x.toInt ∧ x.toInt < 5
      · have hx2 : 0 ≤ x.toInt ∧ x.toInt ≤ 4 := by omega
        rw [if_pos hx, if_pos hx, if_pos hx2, if_pos hx2]
        by_cases hc : (0 ≤ t.toInt ∧ t.toInt ≤ 999) ∧ (1 ≤ nn.toInt ∧ nn.toInt ≤ 20) ∧ (0 ≤ pl.toInt ∧ pl.toInt ≤ 9)
        · rw [if_pos hc, if_pos hc, if_pos hc, if_pos hc]
          obtain ⟨a, b, c⟩ := r_scn h hs (u := u) (by omega) hx hc.1 hc.2.1 hc.2.2
          by_cases hz : (x_least σ x 0).toInt = -1
          · have hz2 := a.mp hz
            rw [if_pos hz, if_pos hz, if_pos hz2, if_pos hz2]
            refine ⟨rfl, r_tell (rel_27 h (fun y hy => m_reckon_row hy)) hs (by omega) ?_ 108⟩
            rw [m_reckon_row (by simp)]
            exact r_op13 h ho
          · have hz2 : ¬ _ := fun q => hz (a.mpr q)
            rw [if_neg hz, if_neg hz, if_neg hz2, if_neg hz2]
            exact ⟨b, c⟩
        · rw [if_neg hc, if_neg hc, if_neg hc, if_neg hc]
          exact ⟨rfl, r_tl h ho 107⟩
      · have hx2 : ¬ (0 ≤ x.toInt ∧ x.toInt ≤ 4) := by omega
        rw [if_neg hx, if_neg hx, if_neg hx2, if_neg hx2]
        exact ⟨rfl, r_tl h ho 106⟩
    · rw [if_neg hp, if_neg hp, if_neg hp, if_neg hp]
      exact ⟨rfl, r_tl h ho 102⟩
  · have ho2 : ¬ _ := fun q => ho ((r_open h u).mpr q)
    rw [if_neg ho, if_neg ho2, if_neg ho, if_neg ho2]
    exact ⟨rfl, h⟩
end RL
