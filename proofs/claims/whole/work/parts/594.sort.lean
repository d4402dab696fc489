/-! sorting -/
def r_cnt (c : Int32 → Bool) (a : Nat → Int32) : Nat → Nat
  | 0 => 0
  | k + 1 => r_cnt c a k + (if c (a k) then 1 else 0)
theorem r_cnt_s (c : Int32 → Bool) (a : Nat → Int32) (k : Nat) : r_cnt c a (k + 1) = r_cnt c a k + (if c (a k) then 1 else 0) := rfl
theorem r_cnt_congr {c : Int32 → Bool} {a b : Nat → Int32} : ∀ {k : Nat}, (∀ t, t < k → a t = b t) → r_cnt c a k = r_cnt c b k := by
  intro k
  induction k with
  | zero => intro _; rfl
  | succ k ih => intro h; rw [r_cnt_s, r_cnt_s, ih (fun t ht => h t (by omega)), h k (by omega)]
theorem r_cnt_le {c : Int32 → Bool} {a : Nat → Int32} : ∀ {k : Nat}, r_cnt c a k ≤ k := by
  intro k
  induction k with
  | zero => exact Nat.le_refl _
  | succ k ih => rw [r_cnt_s]; split <;> omega
theorem x_termOf_row {σ σ' : r_M} (e : r_xG σ σ') (p x : Int32) : x_termOf σ' p x = x_termOf σ p x := by
  unfold x_termOf
  rw [e _ _ _ (by omega), e _ _ _ (by omega)]
theorem x_key_I {t down : Int32} (h : -1 ≤ t.toInt ∧ t.toInt ≤ 999) : (x_key t down).toInt = if t.toInt = -1 then 1000 else if down.toInt = 0 then t.toInt else 999 - t.toInt := by
  unfold x_key
  have z : (999 : Int32).toInt = 999 := rfl
  by_cases h1 : t.toInt = -1
  · rw [if_pos h1, if_pos h1]; rfl
  · rw [if_neg h1, if_neg h1]
    by_cases h2 : down.toInt = 0
    · rw [if_pos h2, if_pos h2]
    · rw [if_neg h2, if_neg h2, g_subI (by omega) (by omega), z]
theorem x_key_cmp {r b down : Int32} (hr : -1 ≤ r.toInt ∧ r.toInt ≤ 999) (hb : -1 ≤ b.toInt ∧ b.toInt ≤ 999) : ((x_key r down).toInt < (x_key b down).toInt) ↔ ¬ (r.toInt < 0 ∨ (0 ≤ b.toInt ∧ ((¬ down.toInt = 0 ∧ r.toInt ≤ b.toInt) ∨ (down.toInt = 0 ∧ b.toInt ≤ r.toInt)))) := by
  rw [x_key_I hr, x_key_I hb]
  by_cases h1 : r.toInt = -1
  · rw [if_pos h1]
    by_cases h2 : b.toInt = -1
    · rw [if_pos h2]; omega
    · rw [if_neg h2]
      by_cases h3 : down.toInt = 0
      · rw [if_pos h3]; omega
      · rw [if_neg h3]; omega
  · rw [if_neg h1]
    by_cases h2 : b.toInt = -1
    · rw [if_pos h2]
      by_cases h3 : down.toInt = 0
      · rw [if_pos h3]; omega
      · rw [if_neg h3]; omega
    · rw [if_neg h2]
      by_cases h3 : down.toInt = 0
      · rw [if_pos h3, if_pos h3]; omega
      · rw [if_neg h3, if_neg h3]; omega
/-- what the sorting's two rows keep: T the terms, N the records' number, M the set's -/
def r_SI (s j M N B : Nat) (T : Nat → Int32) (x : Int32) (σ μ : r_M) : Prop := μ (1, 3, 0) = T ∧ (∀ b : Int32, 0 ≤ b.toInt → b.toInt < (N : Int) → x_termOf σ b x = T (5 * b.toInt + x.toInt).toNat ∧ -1 ≤ (T (5 * b.toInt + x.toInt).toNat).toInt ∧ (T (5 * b.toInt + x.toInt).toNat).toInt ≤ 999) ∧ (∀ t, t < M → σ (19, s, j) t = μ (1, 17, 0) (B + t) ∧ 0 ≤ (σ (19, s, j) t).toInt ∧ (σ (19, s, j) t).toInt < (N : Int)) ∧ ∀ a, 0 ≤ (μ (1, 17, 0) a).toInt ∧ (μ (1, 17, 0) a).toInt < 100
def r_c (T : Nat → Int32) (x : Int32) (b : Int32) : Bool := decide ((T (5 * b.toInt + x.toInt).toNat).toInt < 0)
theorem r_SI_up {s j M N B : Nat} {T : Nat → Int32} {x : Int32} {σ μ : r_M} (h : r_SI s j M N B T x σ μ) (hN : N ≤ 100) {k : Nat} {w : Int32} (hw : 0 ≤ w.toInt ∧ w.toInt < (N : Int)) : r_SI s j M N B T x (g_up σ (19, s, j) k w) (g_up μ (1, 17, 0) (B + k) w) := by
  obtain ⟨h1, h2, h3, h4⟩ := h
  refine ⟨by rw [g_up_row (by simp)]; exact h1, fun b hb hb2 => ?_, fun t ht => ?_, fun a => ?_⟩
  · rw [x_termOf_row (σ := σ) (fun k i q hk => g_up_row (by simp; omega))]
    exact h2 b hb hb2
  · rw [g_up_at, if_pos rfl, g_up_at, if_pos rfl]
    by_cases e : t = k
    · rw [if_pos e, if_pos (by omega)]; exact ⟨rfl, hw⟩
    · rw [if_neg e, if_neg (by omega)]; exact h3 t ht
  · rw [g_up_at, if_pos rfl]
    split
    · omega
    · exact h4 a
theorem r_inGo {s j M N B : Nat} {T : Nat → Int32} {x down rr : Int32} {bz : Int} (hbz : bz = (B : Int)) (hN : N ≤ 100) (hr : 0 ≤ rr.toInt ∧ rr.toInt < (N : Int)) : ∀ (h : Nat) (σ μ : r_M), h < M → r_SI s j M N B T x σ μ →
    (x_inGo s j x down (x_key (T (5 * rr.toInt + x.toInt).toNat) down) h σ).2 = (m_inGo bz rr x down h μ).2 ∧ r_SI s j M N B T x (x_inGo s j x down (x_key (T (5 * rr.toInt + x.toInt).toNat) down) h σ).1 (m_inGo bz rr x down h μ).1 ∧ (∀ a, ¬ (B ≤ a ∧ a < B + M) → (m_inGo bz rr x down h μ).1 (1, 17, 0) a = μ (1, 17, 0) a) ∧ (∀ t, h < t → (x_inGo s j x down (x_key (T (5 * rr.toInt + x.toInt).toNat) down) h σ).1 (19, s, j) t = σ (19, s, j) t) ∧
    ∀ w, r_cnt (r_c T x) (upd ((x_inGo s j x down (x_key (T (5 * rr.toInt + x.toInt).toNat) down) h σ).1 (19, s, j)) (x_inGo s j x down (x_key (T (5 * rr.toInt + x.toInt).toNat) down) h σ).2 w) (h + 1) = r_cnt (r_c T x) (σ (19, s, j)) h + (if r_c T x w then 1 else 0) := by
  intro h
  induction h with
  | zero =>
    intro σ μ _ hI
    refine ⟨rfl, hI, fun _ _ => rfl, fun _ _ => rfl, fun w => ?_⟩
    show r_cnt (r_c T x) (upd (σ (19, s, j)) 0 w) 1 = 0 + _
    rw [r_cnt_s]
    simp [r_cnt, upd]
  | succ h ih =>
    intro σ μ hM hI
    have hi := hI
    obtain ⟨h1, h2, h3, h4⟩ := hi
    obtain ⟨g1, g2, g3⟩ := h3 h (by omega)
    rw [x_inGo_s, m_inGo_s, h1]
    have e1 : ((bz + ((h + 1 : Nat) : Int)) - 1).toNat = B + h := by omega
    have e2 : (bz + ((h + 1 : Nat) : Int)).toNat = B + (h + 1) := by omega
    rw [e1, e2, ← g1, (h2 _ g2 g3).1]
    have hc := x_key_cmp (r := T (5 * rr.toInt + x.toInt).toNat) (b := T (5 * (σ (19, s, j) h).toInt + x.toInt).toNat) (down := down) (h2 rr hr.1 hr.2).2 (h2 _ g2 g3).2
    by_cases hx : (x_key (T (5 * rr.toInt + x.toInt).toNat) down).toInt < (x_key (T (5 * (σ (19, s, j) h).toInt + x.toInt).toNat) down).toInt
    · rw [if_pos hx, if_neg (hc.mp hx)]
      obtain ⟨i1, i2, i3, i4, i5⟩ := ih _ _ (by omega) (r_SI_up hI hN (k := h + 1) (w := σ (19, s, j) h) ⟨g2, g3⟩)
      refine ⟨i1, i2, fun a ha => ?_, fun t ht => ?_, fun w => ?_⟩
      · rw [i3 a ha, g_up_at, if_pos rfl, if_neg (by omega)]
      · rw [i4 t (by omega), g_up_at, if_pos rfl, if_neg (by omega)]
      · have hle := x_inGo_le s j x down (x_key (T (5 * rr.toInt + x.toInt).toNat) down) h (g_up σ (19, s, j) (h + 1) (σ (19, s, j) h))
        rw [r_cnt_s, i5 w, r_cnt_s]
        have e3 : r_cnt (r_c T x) (g_up σ (19, s, j) (h + 1) (σ (19, s, j) h) (19, s, j)) h = r_cnt (r_c T x) (σ (19, s, j)) h := r_cnt_congr (fun t ht => by rw [g_up_at, if_pos rfl, if_neg (by omega)])
        have e4 : upd ((x_inGo s j x down (x_key (T (5 * rr.toInt + x.toInt).toNat) down) h (g_up σ (19, s, j) (h + 1) (σ (19, s, j) h))).1 (19, s, j)) (x_inGo s j x down (x_key (T (5 * rr.toInt + x.toInt).toNat) down) h (g_up σ (19, s, j) (h + 1) (σ (19, s, j) h))).2 w (h + 1) = σ (19, s, j) h := by
          unfold upd
          rw [if_neg (by omega), i4 (h + 1) (by omega), g_up_same]
        rw [e3, e4]
        omega
    · have hm := Decidable.not_not.mp (fun q => hx (hc.mpr q))
      rw [if_neg hx, if_pos hm]
      refine ⟨rfl, hI, fun _ _ => rfl, fun _ _ => rfl, fun w => ?_⟩
      rw [r_cnt_s]
      congr 1
      · exact r_cnt_congr (fun t ht => by unfold upd; rw [if_neg (by omega)])
      · unfold upd; rw [if_pos rfl]
theorem r_acc {c : Int32 → Bool} {a : Nat → Int32} {k : Nat} (hk : k < 1000) : nI (r_cnt c a k) + (if c (a k) then 1 else 0) = nI (r_cnt c a (k + 1)) := by
  have := r_cnt_le (c := c) (a := a) (k := k)
  rw [r_cnt_s]
  split
  · exact nI_s (by omega)
  · rw [Int32.add_zero]; rfl
theorem r_ordGo {s j M N B : Nat} {T : Nat → Int32} {x down : Int32} {bz : Int} (hbz : bz = (B : Int)) (hN : N ≤ 100) (hM : M ≤ 100) : ∀ (n k : Nat) (σ μ : r_M) (acc : Int32), k + n = M → r_SI s j M N B T x σ μ → acc = nI (r_cnt (r_c T x) (σ (19, s, j)) k) →
    r_SI s j M N B T x (x_ordGo s j x down n k σ) (m_sortGo bz x down n k acc μ).1 ∧ (∀ a, ¬ (B ≤ a ∧ a < B + M) → (m_sortGo bz x down n k acc μ).1 (1, 17, 0) a = μ (1, 17, 0) a) ∧ (∀ y : g_S, y ≠ (1, 17, 0) → (m_sortGo bz x down n k acc μ).1 y = μ y) ∧ (m_sortGo bz x down n k acc μ).2 = nI (r_cnt (r_c T x) (x_ordGo s j x down n k σ (19, s, j)) M) := by
  intro n
  induction n with
  | zero =>
    intro k σ μ acc hk hI ha
    subst ha
    rw [show k = M by omega]
    exact ⟨hI, fun _ _ => rfl, fun _ _ => rfl, rfl⟩
  | succ n ih =>
    intro k σ μ acc hk hI ha
    have hi := hI
    obtain ⟨h1, h2, h3, h4⟩ := hi
    obtain ⟨g1, g2, g3⟩ := h3 k (by omega)
    have ek : (bz + ((k : Nat) : Int)).toNat = B + k := by omega
    rw [x_ordGo_s, m_sortGo_s, ek, ← g1, h1, (h2 _ g2 g3).1]
    obtain ⟨i1, i2, i3, i4, i5⟩ := r_inGo (down := down) (rr := σ (19, s, j) k) hbz hN ⟨g2, g3⟩ k σ μ (by omega) hI
    rw [← i1]
    have hle := x_inGo_le s j x down (x_key (T (5 * (σ (19, s, j) k).toInt + x.toInt).toNat) down) k σ
    have i5w := i5 (σ (19, s, j) k)
    rw [← g_up_self] at i5w
    generalize x_inGo s j x down (x_key (T (5 * (σ (19, s, j) k).toInt + x.toInt).toNat) down) k σ = X at *
    have hmr : ∀ y : g_S, y ≠ (1, 17, 0) → (m_inGo bz (σ (19, s, j) k) x down k μ).1 y = μ y := fun y hy => m_inGo_row bz _ x down hy k μ
    generalize m_inGo bz (σ (19, s, j) k) x down k μ = Y at *
    rw [show (bz + ((X.2 : Nat) : Int)).toNat = B + X.2 by omega]
    obtain ⟨q1, q2, q3, q4⟩ := ih (k + 1) _ _ (acc + (if 0 ≤ (T (5 * (σ (19, s, j) k).toInt + x.toInt).toNat).toInt then 0 else 1)) (by omega) (r_SI_up i2 hN (k := X.2) (w := σ (19, s, j) k) ⟨g2, g3⟩) (by
      rw [i5w, ← r_cnt_s, ← r_acc (by omega), ha]
      congr 1
      unfold r_c
      by_cases e : 0 ≤ (T (5 * (σ (19, s, j) k).toInt + x.toInt).toNat).toInt
      · rw [if_pos e, if_neg (by simp; omega)]
      · rw [if_neg e, if_pos (by simp; omega)])
    refine ⟨q1, fun a ha2 => ?_, fun y hy => ?_, q4⟩
    · rw [q2 a ha2, g_up_at, if_pos rfl, if_neg (by omega), i3 a ha2]
    · rw [q3 y hy, g_up_row hy, hmr y hy]
theorem r_cwt {s j N : Nat} {T : Nat → Int32} {x : Int32} {σ : r_M} (h2 : ∀ b : Int32, 0 ≤ b.toInt → b.toInt < (N : Int) → x_termOf σ b x = T (5 * b.toInt + x.toInt).toNat ∧ -1 ≤ (T (5 * b.toInt + x.toInt).toNat).toInt ∧ (T (5 * b.toInt + x.toInt).toNat).toInt ≤ 999) : ∀ (n k : Nat) (acc : Int32), k + n ≤ 100 → (∀ t, t < k + n → 0 ≤ (σ (19, s, j) t).toInt ∧ (σ (19, s, j) t).toInt < (N : Int)) → acc = nI (r_cnt (r_c T x) (σ (19, s, j)) k) → x_cwtGo σ s j x n k acc = nI (r_cnt (r_c T x) (σ (19, s, j)) (k + n)) := by
  intro n
  induction n with
  | zero => intro k acc _ _ ha; exact ha
  | succ n ih =>
    intro k acc hk hv ha
    obtain ⟨g2, g3⟩ := hv k (by omega)
    obtain ⟨f1, f2, f3⟩ := h2 _ g2 g3
    rw [x_cwtGo_s, f1, ih (k + 1) _ (by omega) (fun t ht => hv t (by omega)), show k + 1 + n = k + (n + 1) by omega]
    rw [← r_acc (by omega), ha]
    unfold r_c
    by_cases e : (T (5 * (σ (19, s, j) k).toInt + x.toInt).toNat).toInt = -1
    · rw [if_pos e, if_pos (by simp; omega)]
    · rw [if_neg e, if_neg (by simp; omega), Int32.add_zero]
section RK
variable {ns : Nat} {kk : Nat → Nat} {σ μ : r_M}
theorem r_srt (h : rel ns kk σ μ) {s j : Nat} (hs : s < ns) (hj : j < kk s) (hmade : ¬ (σ (18, s, j) 2).toInt = 0) {u v x down : Int32} (hu : u.toInt = (s : Int)) (hv : v.toInt = (j : Int)) (hx : 0 ≤ x.toInt ∧ x.toInt < 5) : x_cwt (x_ord σ s j x down) s j x = (m_sort μ u v x down).2 ∧ rel ns kk (x_ord σ s j x down) (m_sort μ u v x down).1 := by
  obtain ⟨t1, t2, t3, t4⟩ := r_set h hs hj hmade
  obtain ⟨q1, q2, q3, q4⟩ := h.1
  obtain ⟨M, hM⟩ : ∃ M : Nat, (σ (18, s, j) 1).toInt = (M : Int) := ⟨(σ (18, s, j) 1).toInt.toNat, by omega⟩
  obtain ⟨N, hN⟩ : ∃ N : Nat, (μ (0, 0, 0) 1).toInt = (N : Int) := ⟨(μ (0, 0, 0) 1).toInt.toNat, by omega⟩
  have ei : (5 * u.toInt + v.toInt).toNat = 5 * s + j := by omega
  have hbz : (100 * ((5 * u.toInt) + v.toInt)) = ((100 * (5 * s + j) : Nat) : Int) := by omega
  have hI : r_SI s j M N (100 * (5 * s + j)) (μ (1, 3, 0)) x σ μ := by
    refine ⟨rfl, fun b hb hb2 => ?_, fun t ht => ?_, h.2.2.2.2.2.2⟩
    · have e := r_termOf h.1 (r := b.toInt.toNat) (by omega) (x := x) ⟨hx.1, by omega⟩
      rw [r_nI hb] at e
      rw [e, show (5 * b.toInt + x.toInt).toNat = 5 * b.toInt.toNat + x.toInt.toNat by omega]
      exact ⟨rfl, (q4 b.toInt.toNat x.toInt.toNat (by omega) (by omega)).2⟩
    · rw [← hN]; exact t4 t (by omega)
  have em : m_sort μ u v x down = m_sortGo (100 * ((5 * u.toInt) + v.toInt)) x down M 0 0 μ := by
    unfold m_sort
    rw [ei, ← t1, hM, Int.toNat_natCast]
  have ex : x_ord σ s j x down = x_ordGo s j x down (M - 1) 1 σ := by
    unfold x_ord; rw [hM, Int.toNat_natCast]
  have ec : ∀ τ : r_M, τ (18, s, j) 1 = σ (18, s, j) 1 → x_cwt τ s j x = x_cwtGo τ s j x M 0 0 := fun τ e => by
    unfold x_cwt; rw [e, hM, Int.toNat_natCast]
  have key : r_SI s j M N (100 * (5 * s + j)) (μ (1, 3, 0)) x (x_ord σ s j x down) (m_sort μ u v x down).1 ∧ (∀ a, ¬ (100 * (5 * s + j) ≤ a ∧ a < 100 * (5 * s + j) + M) → (m_sort μ u v x down).1 (1, 17, 0) a = μ (1, 17, 0) a) ∧ (∀ y : g_S, y ≠ (1, 17, 0) → (m_sort μ u v x down).1 y = μ y) ∧ (m_sort μ u v x down).2 = nI (r_cnt (r_c (μ (1, 3, 0)) x) (x_ord σ s j x down (19, s, j)) M) := by
    rw [em, ex]
    cases M with
    | zero => exact ⟨hI, fun _ _ => rfl, fun _ _ => rfl, rfl⟩
    | succ M =>
      obtain ⟨g1, g2, g3⟩ := hI.2.2.1 0 (by omega)
      rw [m_sortGo_s]
      have e0 : (100 * ((5 * u.toInt) + v.toInt) + ((0 : Nat) : Int)).toNat = 100 * (5 * s + j) + 0 := by omega
      rw [e0, ← g1]
      show r_SI s j (M + 1) N (100 * (5 * s + j)) (μ (1, 3, 0)) x (x_ordGo s j x down M 1 σ) _ ∧ _
      have eg : (g_up (m_inGo (100 * ((5 * u.toInt) + v.toInt)) (σ (19, s, j) 0) x down 0 μ).1 (1, 17, 0) (100 * ((5 * u.toInt) + v.toInt) + (((m_inGo (100 * ((5 * u.toInt) + v.toInt)) (σ (19, s, j) 0) x down 0 μ).2 : Nat) : Int)).toNat (σ (19, s, j) 0)) = μ := by
        show g_up μ (1, 17, 0) (100 * ((5 * u.toInt) + v.toInt) + ((0 : Nat) : Int)).toNat (σ (19, s, j) 0) = μ
        rw [e0, g1]
        funext y a
        rw [g_up_at]
        split
        · rename_i e; subst e
          split
          · rename_i e; subst e; rfl
          · rfl
        · rfl
      rw [eg]
      refine r_ordGo hbz (by omega) (by omega) M 1 σ μ _ (by omega) hI ?_
      rw [← r_acc (by omega)]
      show 0 + _ = nI 0 + _
      congr 1
      unfold r_c
      by_cases e : 0 ≤ (μ (1, 3, 0) (5 * (σ (19, s, j) 0).toInt + x.toInt).toNat).toInt
      · rw [if_pos e, if_neg (by simp; omega)]
      · rw [if_neg e, if_pos (by simp; omega)]
  obtain ⟨kI, k17, kr, k2⟩ := key
  have e18 : x_ord σ s j x down (18, s, j) = σ (18, s, j) := x_ordGo_row s j x down (by simp) _ _ _
  refine ⟨?_, ?_⟩
  · rw [k2, ec _ (by rw [e18]), r_cwt (N := N) kI.2.1 M 0 0 (by omega) (fun t ht => (kI.2.2.1 t (by omega)).2) rfl, Nat.zero_add]
  · refine rel_set h hs hj (fun y a b => by unfold x_ord; exact x_ordGo_row s j x down b _ _ _) (fun y a b c => kr y c) (fun a ha => by rw [kr _ (by simp)]) (fun a ha => k17 a (by omega)) (by rw [e18]; exact t2) (by rw [e18]; exact t3) (by rw [e18, kr _ (by simp)]; exact t1) (fun n hn => ?_) kI.2.2.2
    rw [e18] at hn
    rw [hN]
    exact kI.2.2.1 n (by omega)
theorem r_opt (h : rel ns kk σ μ) {s : Nat} (hs : s < ns) : σ (11, s, 0) 0 = μ (1, 11, 0) s := (h.2.2.2.1 s hs).1.1
theorem r_sort (h : rel ns kk σ μ) (u v x down : Int32) : x_sortR σ ns kk u v x down = m_sortR μ u v x down ∧ rel ns kk (x_sortM σ ns kk u v x down) (m_sortM μ u v x down) := by
  unfold x_sortR m_sortR x_sortM m_sortM
  by_cases ho : (0 ≤ u.toInt ∧ u.toInt < (ns : Int)) ∧ ¬ (σ (11, u.toNatClampNeg, 0) 4).toInt = 0
  · have ho2 := (r_open h u).mp ho
    have hs : u.toInt.toNat < ns := by omega
    rw [if_pos ho, if_pos ho2, if_pos ho, if_pos ho2, g_cl, r_opt h hs]
    by_cases hp : ¬ (μ (1, 11, 0) u.toInt.toNat &&& 1).toInt = 0
    · rw [if_pos hp, if_pos hp, if_pos hp, if_pos hp]
      by_cases hm : (0 ≤ v.toInt ∧ v.toInt < ((kk u.toInt.toNat : Nat) : Int)) ∧ ¬ (σ (18, u.toInt.toNat, v.toNatClampNeg) 2).toInt = 0
      · have hm2 := (r_made h hs v).mp hm
        rw [if_pos hm, if_pos hm, r_ix ho.1.1 hm.1.1, if_pos hm2, if_pos hm2, g_cl]
        have hmm := hm.2
        rw [g_cl] at hmm
        by_cases hx : 0 ≤ x.toInt ∧ x.toInt < 5
        · have hx2 : 0 ≤ x.toInt ∧ x.toInt ≤ 4 := by omega
          rw [if_pos hx, if_pos hx, if_pos hx2, if_pos hx2]
          exact r_srt h hs (by omega) hmm (by omega) (by omega) hx
        · have hx2 : ¬ (0 ≤ x.toInt ∧ x.toInt ≤ 4) := by omega
          rw [if_neg hx, if_neg hx, if_neg hx2, if_neg hx2]
          exact ⟨rfl, r_tl h ho 106⟩
      · have hm2 : ¬ ((0 ≤ (v).toInt ∧ (v).toInt ≤ (if (μ (1, 11, 0) ((u).toInt).toNat &&& 4).toInt = 4 then (4 : Int) else 0)) ∧ 0 ≤ (μ (1, 16, 0) ((5 * (u).toInt) + (v).toInt).toNat).toInt) := fun q => hm ((r_made h hs v).mpr (by rw [r_ix ho.1.1 q.1.1] at q; exact q))
        rw [if_neg hm, if_neg hm, if_neg hm2, if_neg hm2]
        exact ⟨rfl, r_tl h ho 104⟩
    · rw [if_neg hp, if_neg hp, if_neg hp, if_neg hp]
      exact ⟨rfl, r_tl h ho 102⟩
  · have ho2 : ¬ _ := fun q => ho ((r_open h u).mpr q)
    rw [if_neg ho, if_neg ho2, if_neg ho, if_neg ho2]
    exact ⟨rfl, h⟩
end RK
