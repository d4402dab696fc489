/-! the reference: scanning -/
def m_zeroGo : Nat → Nat → (g_S → Nat → Int32) → (g_S → Nat → Int32)
  | 0, _, σ => σ
  | n + 1, k, σ => m_zeroGo n (k + 1) (g_up σ (1, 27, 0) k 0)
theorem m_zeroGo_s (n k : Nat) (σ : g_S → Nat → Int32) : m_zeroGo (n + 1) k σ = m_zeroGo n (k + 1) (g_up σ (1, 27, 0) k 0) := rfl
theorem m_zeroGo_row {y : g_S} (hy : y ≠ (1, 27, 0)) : ∀ (n k : Nat) (σ : g_S → Nat → Int32), m_zeroGo n k σ y = σ y := by
  intro n
  induction n with
  | zero => intro k σ; rfl
  | succ n ih => intro k σ; rw [m_zeroGo_s, ih, g_up_row hy]
def m_rkGo (x : Int32) : Nat → Nat → (g_S → Nat → Int32) → (g_S → Nat → Int32)
  | 0, _, σ => σ
  | n + 1, r, σ => m_rkGo x n (r + 1) (if (σ (1, 3, 0) ((5 * ((r : Nat) : Int)) + (x).toInt).toNat).toInt < 0 then σ else g_up σ (1, 27, 0) ((σ (1, 3, 0) ((5 * ((r : Nat) : Int)) + (x).toInt).toNat).toInt).toNat (σ (1, 27, 0) ((σ (1, 3, 0) ((5 * ((r : Nat) : Int)) + (x).toInt).toNat).toInt).toNat + 1))
theorem m_rkGo_s (x : Int32) (n r : Nat) (σ : g_S → Nat → Int32) : m_rkGo x (n + 1) r σ = m_rkGo x n (r + 1) (if (σ (1, 3, 0) ((5 * ((r : Nat) : Int)) + (x).toInt).toNat).toInt < 0 then σ else g_up σ (1, 27, 0) ((σ (1, 3, 0) ((5 * ((r : Nat) : Int)) + (x).toInt).toNat).toInt).toNat (σ (1, 27, 0) ((σ (1, 3, 0) ((5 * ((r : Nat) : Int)) + (x).toInt).toNat).toInt).toNat + 1)) := rfl
theorem m_rkGo_row (x : Int32) {y : g_S} (hy : y ≠ (1, 27, 0)) : ∀ (n r : Nat) (σ : g_S → Nat → Int32), m_rkGo x n r σ y = σ y := by
  intro n
  induction n with
  | zero => intro r σ; rfl
  | succ n ih =>
    intro r σ
    rw [m_rkGo_s, ih]
    split
    · rfl
    · rw [g_up_row hy]
def m_reckon (σ : g_S → Nat → Int32) (x : Int32) : g_S → Nat → Int32 := m_rkGo x (σ (0, 0, 0) 1).toInt.toNat 0 (m_zeroGo 1000 0 σ)
theorem m_reckon_row {σ : g_S → Nat → Int32} {x : Int32} {y : g_S} (hy : y ≠ (1, 27, 0)) : m_reckon σ x y = σ y := by
  unfold m_reckon
  rw [m_rkGo_row x hy, m_zeroGo_row hy]
def m_scA (σ : g_S → Nat → Int32) (t : Int32) : Nat → Nat → Nat → Nat → Nat × Nat
  | 0, _, al, be => (al, be)
  | n + 1, k, al, be => m_scA σ t n (k + 1) (al + (if (σ (1, 27, 0) k).toInt ≤ 0 then 0 else 1)) (be + (if (σ (1, 27, 0) k).toInt ≤ 0 then 0 else if t.toInt ≤ ((k : Nat) : Int) then 0 else 1))
theorem m_scA_s (σ : g_S → Nat → Int32) (t : Int32) (n k al be : Nat) : m_scA σ t (n + 1) k al be = m_scA σ t n (k + 1) (al + (if (σ (1, 27, 0) k).toInt ≤ 0 then 0 else 1)) (be + (if (σ (1, 27, 0) k).toInt ≤ 0 then 0 else if t.toInt ≤ ((k : Nat) : Int) then 0 else 1)) := rfl
theorem m_scA_le (σ : g_S → Nat → Int32) (t : Int32) : ∀ (n k al be : Nat), (m_scA σ t n k al be).1 ≤ al + n ∧ (m_scA σ t n k al be).2 ≤ be + n := by
  intro n
  induction n with
  | zero => intro k al be; exact ⟨Nat.le_refl _, Nat.le_refl _⟩
  | succ n ih =>
    intro k al be
    rw [m_scA_s]
    have := ih (k + 1) (al + (if (σ (1, 27, 0) k).toInt ≤ 0 then 0 else 1)) (be + (if (σ (1, 27, 0) k).toInt ≤ 0 then 0 else if t.toInt ≤ ((k : Nat) : Int) then 0 else 1))
    generalize m_scA σ t n (k + 1) (al + (if (σ (1, 27, 0) k).toInt ≤ 0 then 0 else 1)) (be + (if (σ (1, 27, 0) k).toInt ≤ 0 then 0 else if t.toInt ≤ ((k : Nat) : Int) then 0 else 1)) = z at this ⊢
    obtain ⟨h1, h2⟩ := this
    split at h1 <;> split at h2 <;> (try split at h2) <;> omega
def m_scB (u nn : Int32) (zb : Int) : Nat → Nat → Nat → Nat → (g_S → Nat → Int32) → (g_S → Nat → Int32) × Nat
  | 0, _, _, gt, σ => (σ, gt)
  | n + 1, k, se, gt, σ => if (σ (1, 27, 0) k).toInt = 0 then m_scB u nn zb n (k + 1) se gt σ else if zb ≤ ((se : Nat) : Int) ∧ ((gt : Nat) : Int) < nn.toInt then m_scB u nn zb n (k + 1) (se + 1) (gt + 1) (g_up (g_up σ (1, 25, 0) ((20 * (u).toInt) + ((gt : Nat) : Int)).toNat (nI k)) (1, 26, 0) ((20 * (u).toInt) + ((gt : Nat) : Int)).toNat (σ (1, 27, 0) k)) else m_scB u nn zb n (k + 1) (se + 1) gt σ
theorem m_scB_s (u nn : Int32) (zb : Int) (n k se gt : Nat) (σ : g_S → Nat → Int32) : m_scB u nn zb (n + 1) k se gt σ = if (σ (1, 27, 0) k).toInt = 0 then m_scB u nn zb n (k + 1) se gt σ else if zb ≤ ((se : Nat) : Int) ∧ ((gt : Nat) : Int) < nn.toInt then m_scB u nn zb n (k + 1) (se + 1) (gt + 1) (g_up (g_up σ (1, 25, 0) ((20 * (u).toInt) + ((gt : Nat) : Int)).toNat (nI k)) (1, 26, 0) ((20 * (u).toInt) + ((gt : Nat) : Int)).toNat (σ (1, 27, 0) k)) else m_scB u nn zb n (k + 1) (se + 1) gt σ := rfl
theorem m_scB_le (u nn : Int32) (zb : Int) : ∀ (n k se gt : Nat) (σ : g_S → Nat → Int32), gt ≤ 20 → nn.toInt ≤ 20 → (m_scB u nn zb n k se gt σ).2 ≤ 20 := by
  intro n
  induction n with
  | zero => intro k se gt σ h _; exact h
  | succ n ih =>
    intro k se gt σ h1 h2
    rw [m_scB_s]
    split
    · exact ih _ _ _ _ h1 h2
    · split
      · exact ih _ _ _ _ (by omega) h2
      · exact ih _ _ _ _ h1 h2
def m_cA (σ : g_S → Nat → Int32) (x t : Int32) : Nat × Nat := m_scA (m_reckon σ x) t 1000 0 0 0
def m_zb (be : Nat) (pl : Int32) : Int := if ((be : Nat) : Int) < pl.toInt then 0 else ((be : Nat) : Int) - pl.toInt
def m_cB (σ : g_S → Nat → Int32) (u x t nn pl : Int32) : (g_S → Nat → Int32) × Nat := m_scB u nn (m_zb (m_cA σ x t).2 pl) 1000 0 0 0 (m_reckon σ x)
def m_cM (σ : g_S → Nat → Int32) (u x t nn pl : Int32) : g_S → Nat → Int32 := g_up (m_cB σ u x t nn pl).1 (1, 24, 0) ((u).toInt).toNat (nI (m_cB σ u x t nn pl).2)
def m_scanR (σ : g_S → Nat → Int32) (u x t nn pl : Int32) : Int32 := if (0 ≤ (u).toInt ∧ (u).toInt ≤ ((σ (0, 0, 0) 10).toInt - 1)) ∧ (σ (2, 13, 0) ((u).toInt).toNat).toInt = 0 then (if ¬ (σ (1, 11, 0) ((u).toInt).toNat &&& 2).toInt = 0 then (if 0 ≤ (x).toInt ∧ (x).toInt ≤ 4 then (if (0 ≤ (t).toInt ∧ (t).toInt ≤ 999) ∧ (1 ≤ (nn).toInt ∧ (nn).toInt ≤ 20) ∧ (0 ≤ (pl).toInt ∧ (pl).toInt ≤ 9) then (if (((m_cA σ x t).1 : Nat) : Int) = 0 then -108 else nI (m_cB σ u x t nn pl).2) else -107) else -106) else -102) else -101
def m_scanM (σ : g_S → Nat → Int32) (u x t nn pl : Int32) : g_S → Nat → Int32 := if (0 ≤ (u).toInt ∧ (u).toInt ≤ ((σ (0, 0, 0) 10).toInt - 1)) ∧ (σ (2, 13, 0) ((u).toInt).toNat).toInt = 0 then (if ¬ (σ (1, 11, 0) ((u).toInt).toNat &&& 2).toInt = 0 then (if 0 ≤ (x).toInt ∧ (x).toInt ≤ 4 then (if (0 ≤ (t).toInt ∧ (t).toInt ≤ 999) ∧ (1 ≤ (nn).toInt ∧ (nn).toInt ≤ 20) ∧ (0 ≤ (pl).toInt ∧ (pl).toInt ≤ 9) then (if (((m_cA σ x t).1 : Nat) : Int) = 0 then m_tellM (m_reckon σ x) u 108 else m_cM σ u x t nn pl) else m_tellM σ u 107) else m_tellM σ u 106) else m_tellM σ u 102) else σ
def m_scdP (σ : g_S → Nat → Int32) (u p : Int32) : Prop := (0 ≤ (u).toInt ∧ (u).toInt ≤ ((σ (0, 0, 0) 10).toInt - 1)) ∧ (0 ≤ (p).toInt ∧ (p).toInt ≤ ((σ (1, 24, 0) ((u).toInt).toNat).toInt - 1))
def m_scdR (σ : g_S → Nat → Int32) (u p w : Int32) : Int32 := if (0 ≤ (u).toInt ∧ (u).toInt ≤ ((σ (0, 0, 0) 10).toInt - 1)) ∧ (0 ≤ (p).toInt ∧ (p).toInt ≤ ((σ (1, 24, 0) ((u).toInt).toNat).toInt - 1)) then (if (w).toInt = 0 then σ (1, 25, 0) ((20 * (u).toInt) + (p).toInt).toNat else if (w).toInt = 1 then σ (1, 26, 0) ((20 * (u).toInt) + (p).toInt).toNat else -1) else 0
def m_scdM (σ : g_S → Nat → Int32) (u p : Int32) : g_S → Nat → Int32 := if (0 ≤ (u).toInt ∧ (u).toInt ≤ ((σ (0, 0, 0) 10).toInt - 1)) ∧ (0 ≤ (p).toInt ∧ (p).toInt ≤ ((σ (1, 24, 0) ((u).toInt).toNat).toInt - 1)) then g_up σ (0, 0, 0) 0 0 else g_up σ (0, 0, 0) 0 1
set_option maxHeartbeats 4000000 in
set_option maxRecDepth 100000 in
theorem lp_zero (l : Launch) (D : va_G) (cy : Nat → ClassId) (L : g_S → Nat) {pg : Program} {e : Env} {s : State} {m : MethodId} {args : Array Value} {below : List Frame} {meth : Method} {c : Code} {Q : State → Prop} (C0 : g_C pg s m meth c args cX7_reckon none 3 RX7 D (x_tys cy)) (x : Int32) :
    ∀ (n : Nat) (σ : g_S → Nat → Int32) (k : Nat) (H : Heap) (locs : List Loc) (ls : Array Slot), k + n = 1000 → g_H D vwCl m_dom L (fun z => m_K cy L z (σ z)) H → va_S (g_A m_dom L) s.heap H locs → lv_has ls 3 [(2, .int (nI k)), (0, .ref (L (0, 0, 0))), (1, .int (x))] →
    (∀ (H : Heap) (locs : List Loc) (ls : Array Slot), g_H D vwCl m_dom L (fun z => m_K cy L z ((m_zeroGo n k σ) z)) H → va_S (g_A m_dom L) s.heap H locs → lv_has ls 3 [(0, .ref (L (0, 0, 0))), (1, .int (x))] → W pg l e (g_R 0) s m args below meth c H locs 0 0 Q (F0 m 22 ls [])) →
    W pg l e (g_R 0) s m args below meth c H locs 0 0 Q (F0 m 2 ls []) := by
  obtain ⟨hx, hb, hr, hlk, hml, hown, hts, hK, hN⟩ := C0
  intro n
  induction n with
  | zero =>
    intro σ k H locs ls hv9 hG hS hl kk9
    have hz9 := g_nIT (show k < 2147483648 by omega)
    refine lv_iload_n hx hb dX7_reckon_2 rfl (lv_at hl 0 rfl) ?_
    refine lv_sipush (v := 1000) hx hb dX7_reckon_3 (by decide) ?_
    refine kz_icmp_ge (X := ((k : Nat) : Int)) (Y := 1000) hx hb (g_nIT (by omega)) (by decide) dX7_reckon_6 (tgt := 22) (by decide) (fun c_6_1 => ?_) (fun c_6_1 => ?_)
    · exact kk9 H locs ls hG hS (lv_sub hl [1, 2] rfl)
    · exact absurd c_6_1 (by omega)
  | succ n ih =>
    intro σ k H locs ls hv9 hG hS hl kk9
    have hz9 := g_nIT (show k < 2147483648 by omega)
    refine lv_iload_n hx hb dX7_reckon_2 rfl (lv_at hl 0 rfl) ?_
    refine lv_sipush (v := 1000) hx hb dX7_reckon_3 (by decide) ?_
    refine kz_icmp_ge (X := ((k : Nat) : Int)) (Y := 1000) hx hb (g_nIT (by omega)) (by decide) dX7_reckon_6 (tgt := 22) (by decide) (fun c_6_1 => ?_) (fun c_6_1 => ?_)
    · exact absurd c_6_1 (by omega)
    · refine lv_aload_n hx hb dX7_reckon_9 rfl (lv_at hl 1 rfl) ?_
      refine g_get (C := RX7) (T := TX7) (N := 28) (v := .ref (L (1, 27, 0))) hx hb hts inX7g hown hK hG (0, 0, 0) ⟨rfl, rfl⟩ (m_at_0 cy L 0 0 (σ (0, 0, 0))) rfl 27 (by decide) fl_X7_80 rfl dX7_reckon_10 ?_
      refine lv_iload_n hx hb dX7_reckon_13 rfl (lv_at hl 0 rfl) ?_
      refine lv_iconst (v := 0) hx hb dX7_reckon_14 (by decide) ?_
      refine g_iast (n := 1000) hx hb hK hG hS (1, 27, 0) ⟨by decide, rfl⟩ 0 (fun _ => rfl) rfl (vp_in_nI (show k < 1000 by omega) (by omega)) dX7_reckon_15 (fun H locs hG hS => ?_)
      rw [g_nIc (show k < 2147483648 by omega)] at hG
      refine lv_iinc (v := nI (k + 1)) (lv' := [(2, .int (nI (k + 1))), (0, .ref (L (0, 0, 0))), (1, .int (x))]) hx hb dX7_reckon_16 hl (k := 0) rfl (nI_1 (k)) (by decide) rfl (fun ls hl => ?_)
      refine lv_goto (tgt := 2) hx hb dX7_reckon_19 (by decide) ?_
      have e90 : m_zeroGo (n + 1) k σ = m_zeroGo n (k + 1) (g_up σ (1, 27, 0) (k) (0)) := (by rw [m_zeroGo_s])
      rw [e90] at kk9
      exact ih (g_up σ (1, 27, 0) (k) (0)) (k + 1) H locs ls (by omega) hG hS (lv_sub hl [0, 1, 2] rfl) kk9
set_option maxHeartbeats 4000000 in
set_option maxRecDepth 100000 in
theorem lp_rk (l : Launch) (D : va_G) (cy : Nat → ClassId) (L : g_S → Nat) {pg : Program} {e : Env} {s : State} {m : MethodId} {args : Array Value} {below : List Frame} {meth : Method} {c : Code} {Q : State → Prop} (C0 : g_C pg s m meth c args cX7_reckon none 3 RX7 D (x_tys cy)) (x : Int32) (hx9 : 0 ≤ x.toInt ∧ x.toInt ≤ 4) (N : Nat) (hN9 : N ≤ 100) :
    ∀ (n : Nat) (σ : g_S → Nat → Int32) (r : Nat) (H : Heap) (locs : List Loc) (ls : Array Slot), r + n = N → ((σ (0, 0, 0) 1).toInt = (N : Int) ∧ ∀ r : Nat, (r : Int) < (σ (0, 0, 0) 1).toInt → -1 ≤ (σ (1, 3, 0) ((5 * ((r : Nat) : Int)) + (x).toInt).toNat).toInt ∧ (σ (1, 3, 0) ((5 * ((r : Nat) : Int)) + (x).toInt).toNat).toInt ≤ 999) → g_H D vwCl m_dom L (fun z => m_K cy L z (σ z)) H → va_S (g_A m_dom L) s.heap H locs → lv_has ls 3 [(2, .int (nI r)), (0, .ref (L (0, 0, 0))), (1, .int (x))] →
    (∀ (H : Heap) (locs : List Loc) (ls : Array Slot), g_H D vwCl m_dom L (fun z => m_K cy L z ((m_rkGo x n r σ) z)) H → va_S (g_A m_dom L) s.heap H locs → lv_has ls 3 [(0, .ref (L (0, 0, 0)))] → W pg l e (g_R 0) s m args below meth c H locs 0 0 Q (F0 m 70 ls [])) →
    W pg l e (g_R 0) s m args below meth c H locs 0 0 Q (F0 m 24 ls []) := by
  obtain ⟨hx, hb, hr, hlk, hml, hown, hts, hK, hN⟩ := C0
  intro n
  induction n with
  | zero =>
    intro σ r H locs ls hv9 hy hG hS hl kk9
    obtain ⟨hc, htA⟩ := id hy
    have hz9 := g_nIT (show r < 2147483648 by omega)
    refine lv_iload_n hx hb dX7_reckon_24 rfl (lv_at hl 0 rfl) ?_
    refine lv_aload_n hx hb dX7_reckon_25 rfl (lv_at hl 1 rfl) ?_
    refine g_get (C := RX7) (T := TX7) (N := 28) (v := .int (σ (0, 0, 0) 1)) hx hb hts inX7g hown hK hG (0, 0, 0) ⟨rfl, rfl⟩ (m_at_0 cy L 0 0 (σ (0, 0, 0))) rfl 1 (by decide) fl_X7_91 rfl dX7_reckon_26 ?_
    refine kz_icmp_ge (X := ((r : Nat) : Int)) (Y := (σ (0, 0, 0) 1).toInt) hx hb (g_nIT (by omega)) rfl dX7_reckon_29 (tgt := 70) (by decide) (fun c_29_1 => ?_) (fun c_29_1 => ?_)
    · exact kk9 H locs ls hG hS (lv_sub hl [1] rfl)
    · exact absurd c_29_1 (by omega)
  | succ n ih =>
    intro σ r H locs ls hv9 hy hG hS hl kk9
    obtain ⟨hc, htA⟩ := id hy
    have hz9 := g_nIT (show r < 2147483648 by omega)
    have ht9 := htA r (by omega)
    refine lv_iload_n hx hb dX7_reckon_24 rfl (lv_at hl 0 rfl) ?_
    refine lv_aload_n hx hb dX7_reckon_25 rfl (lv_at hl 1 rfl) ?_
    refine g_get (C := RX7) (T := TX7) (N := 28) (v := .int (σ (0, 0, 0) 1)) hx hb hts inX7g hown hK hG (0, 0, 0) ⟨rfl, rfl⟩ (m_at_0 cy L 0 0 (σ (0, 0, 0))) rfl 1 (by decide) fl_X7_91 rfl dX7_reckon_26 ?_
    refine kz_icmp_ge (X := ((r : Nat) : Int)) (Y := (σ (0, 0, 0) 1).toInt) hx hb (g_nIT (by omega)) rfl dX7_reckon_29 (tgt := 70) (by decide) (fun c_29_1 => ?_) (fun c_29_1 => ?_)
    · exact absurd c_29_1 (by omega)
    · refine lv_aload_n hx hb dX7_reckon_32 rfl (lv_at hl 1 rfl) ?_
      refine g_get (C := RX7) (T := TX7) (N := 28) (v := .ref (L (1, 3, 0))) hx hb hts inX7g hown hK hG (0, 0, 0) ⟨rfl, rfl⟩ (m_at_0 cy L 0 0 (σ (0, 0, 0))) rfl 3 (by decide) fl_X7_13 rfl dX7_reckon_33 ?_
      refine lv_iconst (v := 5) hx hb dX7_reckon_36 (by decide) ?_
      refine lv_iload_n hx hb dX7_reckon_37 rfl (lv_at hl 0 rfl) ?_
      refine lv_imul hx hb dX7_reckon_38 ?_
      have z_2 : ((5) * (nI r)).toInt = (5 * ((r : Nat) : Int)) := g_mulZ (by decide) (g_nIT (by omega)) (by omega) (by omega)
      refine lv_iload_n hx hb dX7_reckon_39 rfl (lv_at hl 2 rfl) ?_
      refine lv_iadd hx hb dX7_reckon_40 ?_
      have z_3 : (((5) * (nI r)) + (x)).toInt = ((5 * ((r : Nat) : Int)) + (x).toInt) := g_addZ z_2 rfl (by omega) (by omega)
      refine g_iald (n := 500) hx hb hK hG (1, 3, 0) ⟨by decide, rfl⟩ 0 rfl rfl (g_vp (by have := (show (((5) * (nI r)) + (x) : Int32).toInt = ((5 * ((r : Nat) : Int)) + (x).toInt) from z_3); omega) (by have := (show (((5) * (nI r)) + (x) : Int32).toInt = ((5 * ((r : Nat) : Int)) + (x).toInt) from z_3); omega)) dX7_reckon_41 ?_
      rw [show (((5) * (nI r)) + (x) : Int32).toNatClampNeg = (((5 * ((r : Nat) : Int)) + (x).toInt)).toNat from congrArg Int.toNat (show (((5) * (nI r)) + (x) : Int32).toInt = ((5 * ((r : Nat) : Int)) + (x).toInt) from z_3)]
      refine kz_if_lt (X := (σ (1, 3, 0) ((((5 * ((r : Nat) : Int)) + (x).toInt)).toNat)).toInt) hx hb rfl dX7_reckon_42 (tgt := 64) (by decide) (fun c_42_4 => ?_) (fun c_42_4 => ?_)
      · refine lv_iinc (v := nI (r + 1)) (lv' := [(2, .int (nI (r + 1))), (0, .ref (L (0, 0, 0))), (1, .int (x))]) hx hb dX7_reckon_64 hl (k := 0) rfl (nI_1 (r)) (by decide) rfl (fun ls hl => ?_)
        refine lv_goto (tgt := 24) hx hb dX7_reckon_67 (by decide) ?_
        have e90 : m_rkGo x (n + 1) r σ = m_rkGo x n (r + 1) σ := (by rw [m_rkGo_s]; first | (rw [if_pos (by omega)]) | (rw [if_neg (by omega)]))
        rw [e90] at kk9
        exact ih σ (r + 1) H locs ls (by omega) (by exact hy) hG hS (lv_sub hl [0, 1, 2] rfl) kk9
      · refine lv_aload_n hx hb dX7_reckon_45 rfl (lv_at hl 1 rfl) ?_
        refine g_get (C := RX7) (T := TX7) (N := 28) (v := .ref (L (1, 27, 0))) hx hb hts inX7g hown hK hG (0, 0, 0) ⟨rfl, rfl⟩ (m_at_0 cy L 0 0 (σ (0, 0, 0))) rfl 27 (by decide) fl_X7_80 rfl dX7_reckon_46 ?_
        refine lv_aload_n hx hb dX7_reckon_49 rfl (lv_at hl 1 rfl) ?_
        refine g_get (C := RX7) (T := TX7) (N := 28) (v := .ref (L (1, 3, 0))) hx hb hts inX7g hown hK hG (0, 0, 0) ⟨rfl, rfl⟩ (m_at_0 cy L 0 0 (σ (0, 0, 0))) rfl 3 (by decide) fl_X7_13 rfl dX7_reckon_50 ?_
        refine lv_iconst (v := 5) hx hb dX7_reckon_53 (by decide) ?_
        refine lv_iload_n hx hb dX7_reckon_54 rfl (lv_at hl 0 rfl) ?_
        refine lv_imul hx hb dX7_reckon_55 ?_
        have z_5 : ((5) * (nI r)).toInt = (5 * ((r : Nat) : Int)) := g_mulZ (by decide) (g_nIT (by omega)) (by omega) (by omega)
        refine lv_iload_n hx hb dX7_reckon_56 rfl (lv_at hl 2 rfl) ?_
        refine lv_iadd hx hb dX7_reckon_57 ?_
        have z_6 : (((5) * (nI r)) + (x)).toInt = ((5 * ((r : Nat) : Int)) + (x).toInt) := g_addZ z_5 rfl (by omega) (by omega)
        refine g_iald (n := 500) hx hb hK hG (1, 3, 0) ⟨by decide, rfl⟩ 0 rfl rfl (g_vp (by have := (show (((5) * (nI r)) + (x) : Int32).toInt = ((5 * ((r : Nat) : Int)) + (x).toInt) from z_6); omega) (by have := (show (((5) * (nI r)) + (x) : Int32).toInt = ((5 * ((r : Nat) : Int)) + (x).toInt) from z_6); omega)) dX7_reckon_58 ?_
        rw [show (((5) * (nI r)) + (x) : Int32).toNatClampNeg = (((5 * ((r : Nat) : Int)) + (x).toInt)).toNat from congrArg Int.toNat (show (((5) * (nI r)) + (x) : Int32).toInt = ((5 * ((r : Nat) : Int)) + (x).toInt) from z_6)]
        refine lv_dup2_11 hx hb dX7_reckon_59 rfl rfl ?_
        refine g_iald (n := 1000) hx hb hK hG (1, 27, 0) ⟨by decide, rfl⟩ 0 rfl rfl (g_vp (by omega) (by omega)) dX7_reckon_60 ?_
        rw [show (σ (1, 3, 0) ((((5 * ((r : Nat) : Int)) + (x).toInt)).toNat) : Int32).toNatClampNeg = ((σ (1, 3, 0) ((((5 * ((r : Nat) : Int)) + (x).toInt)).toNat)).toInt).toNat from congrArg Int.toNat (show (σ (1, 3, 0) ((((5 * ((r : Nat) : Int)) + (x).toInt)).toNat) : Int32).toInt = (σ (1, 3, 0) ((((5 * ((r : Nat) : Int)) + (x).toInt)).toNat)).toInt from rfl)]
        refine lv_iconst (v := 1) hx hb dX7_reckon_61 (by decide) ?_
        refine lv_iadd hx hb dX7_reckon_62 ?_
        refine g_iast (n := 1000) hx hb hK hG hS (1, 27, 0) ⟨by decide, rfl⟩ 0 (fun _ => rfl) rfl (g_vp (by omega) (by omega)) dX7_reckon_63 (fun H locs hG hS => ?_)
        rw [show (σ (1, 3, 0) ((((5 * ((r : Nat) : Int)) + (x).toInt)).toNat) : Int32).toNatClampNeg = ((σ (1, 3, 0) ((((5 * ((r : Nat) : Int)) + (x).toInt)).toNat)).toInt).toNat from congrArg Int.toNat (show (σ (1, 3, 0) ((((5 * ((r : Nat) : Int)) + (x).toInt)).toNat) : Int32).toInt = (σ (1, 3, 0) ((((5 * ((r : Nat) : Int)) + (x).toInt)).toNat)).toInt from rfl)] at hG
        refine lv_iinc (v := nI (r + 1)) (lv' := [(2, .int (nI (r + 1))), (0, .ref (L (0, 0, 0))), (1, .int (x))]) hx hb dX7_reckon_64 hl (k := 0) rfl (nI_1 (r)) (by decide) rfl (fun ls hl => ?_)
        refine lv_goto (tgt := 24) hx hb dX7_reckon_67 (by decide) ?_
        have e90 : m_rkGo x (n + 1) r σ = m_rkGo x n (r + 1) (g_up σ (1, 27, 0) (((σ (1, 3, 0) ((((5 * ((r : Nat) : Int)) + (x).toInt)).toNat)).toInt).toNat) ((σ (1, 27, 0) (((σ (1, 3, 0) ((((5 * ((r : Nat) : Int)) + (x).toInt)).toNat)).toInt).toNat)) + (1))) := (by rw [m_rkGo_s]; first | (rw [if_pos (by omega)]) | (rw [if_neg (by omega)]))
        rw [e90] at kk9
        exact ih (g_up σ (1, 27, 0) (((σ (1, 3, 0) ((((5 * ((r : Nat) : Int)) + (x).toInt)).toNat)).toInt).toNat) ((σ (1, 27, 0) (((σ (1, 3, 0) ((((5 * ((r : Nat) : Int)) + (x).toInt)).toNat)).toInt).toNat)) + (1))) (r + 1) H locs ls (by omega) (by exact hy) hG hS (lv_sub hl [0, 1, 2] rfl) kk9
set_option maxHeartbeats 4000000 in
set_option maxRecDepth 100000 in
theorem c_X7_reckon (l : Launch) (D : va_G) (cy : Nat → ClassId) (L : g_S → Nat) (σ : g_S → Nat → Int32) (x : Int32) (hx9 : 0 ≤ x.toInt ∧ x.toInt ≤ 4) (n0 : 0 ≤ (σ (0, 0, 0) 1).toInt) (n1 : (σ (0, 0, 0) 1).toInt ≤ 100) (htA : ∀ r : Nat, (r : Int) < (σ (0, 0, 0) 1).toInt → -1 ≤ (σ (1, 3, 0) ((5 * ((r : Nat) : Int)) + (x).toInt).toNat).toInt ∧ (σ (1, 3, 0) ((5 * ((r : Nat) : Int)) + (x).toInt).toNat).toInt ≤ 999) : m_Met l D cy L yX7_reckon (.code yX7_reckon cX7_reckon 3 none) 0 σ [.ref (L (0, 0, 0)), .int (x)] none (m_reckon σ x) := by
  refine g_Met.of (by decide) (Nat.le_of_ble_eq_true rfl) ?_
  intro pg e s m below meth c hx hb hr hlk hml hown hts hK hN H locs hG hS ls hl
  have hown : s.vm.findClass RX7 = some m.cls := hown
  have hl : lv_has ls 3 [(0, .ref (L (0, 0, 0))), (1, .int (x))] := hl
  refine lv_iconst (v := 0) hx hb dX7_reckon_0 (by decide) ?_
  refine lv_istore_n (lv' := [(2, .int 0), (0, .ref (L (0, 0, 0))), (1, .int (x))]) hx hb dX7_reckon_1 rfl hl (by decide) rfl (fun ls hl => ?_)
  refine lp_zero l D cy L ⟨hx, hb, hr, hlk, hml, hown, hts, hK, hN⟩ x 1000 σ 0 H locs ls (by omega) hG hS (lv_sub hl [0, 1, 2] rfl) (fun H locs ls hG hS hl => ?_)
  refine lv_iconst (v := 0) hx hb dX7_reckon_22 (by decide) ?_
  refine lv_istore_n (lv' := [(2, .int 0), (0, .ref (L (0, 0, 0))), (1, .int (x))]) hx hb dX7_reckon_23 rfl hl (by decide) rfl (fun ls hl => ?_)
  refine lp_rk l D cy L ⟨hx, hb, hr, hlk, hml, hown, hts, hK, hN⟩ x hx9 (σ (0, 0, 0) 1).toInt.toNat (by omega) (σ (0, 0, 0) 1).toInt.toNat (m_zeroGo 1000 0 σ) 0 H locs ls (by omega) ⟨by rw [m_zeroGo_row (by decide)]; omega, by rw [m_zeroGo_row (by decide), m_zeroGo_row (by decide)]; exact htA⟩ hG hS (lv_sub hl [0, 1, 2] rfl) (fun H locs ls hG hS hl => ?_)
  exact s_vret hx hb hr hlk hG hS dX7_reckon_70 rfl rfl
set_option maxHeartbeats 4000000 in
set_option maxRecDepth 100000 in
theorem lp_scA (l : Launch) (D : va_G) (cy : Nat → ClassId) (L : g_S → Nat) (σ : g_S → Nat → Int32) {pg : Program} {e : Env} {s : State} {m : MethodId} {args : Array Value} {below : List Frame} {meth : Method} {c : Code} {Q : State → Prop} (C0 : g_C pg s m meth c args cX7_scan (some .int) 12 RX7 D (x_tys cy)) (u x t nn pl : Int32) :
    ∀ (n : Nat) (k : Nat) (al : Nat) (be : Nat) (H : Heap) (locs : List Loc) (ls : Array Slot), (k + n = 1000 ∧ al ≤ k ∧ be ≤ k) → g_H D vwCl m_dom L (fun z => m_K cy L z (σ z)) H → va_S (g_A m_dom L) s.heap H locs → lv_has ls 12 [(8, .int (nI k)), (7, .int (nI be)), (6, .int (nI al)), (0, .ref (L (0, 0, 0))), (1, .int (u)), (2, .int (x)), (3, .int (t)), (4, .int (nn)), (5, .int (pl))] →
    (∀ (H : Heap) (locs : List Loc) (ls : Array Slot), g_H D vwCl m_dom L (fun z => m_K cy L z (σ z)) H → va_S (g_A m_dom L) s.heap H locs → lv_has ls 12 [(7, .int (nI ((m_scA σ t n k al be).2))), (6, .int (nI ((m_scA σ t n k al be).1))), (0, .ref (L (0, 0, 0))), (1, .int (u)), (2, .int (x)), (3, .int (t)), (4, .int (nn)), (5, .int (pl))] → W pg l e (g_R 3) s m args below meth c H locs 0 0 Q (F0 m 161 ls [])) →
    W pg l e (g_R 3) s m args below meth c H locs 0 0 Q (F0 m 101 ls []) := by
  obtain ⟨hx, hb, hr, hlk, hml, hown, hts, hK, hN⟩ := C0
  intro n
  induction n with
  | zero =>
    intro k al be H locs ls hv9 hG hS hl kk9
    have hz9 := g_nIT (show k < 2147483648 by omega)
    refine lv_iload hx hb dX7_scan_101 (lv_at hl 0 rfl) ?_
    refine lv_sipush (v := 1000) hx hb dX7_scan_103 (by decide) ?_
    refine kz_icmp_ge (X := ((k : Nat) : Int)) (Y := 1000) hx hb (g_nIT (by omega)) (by decide) dX7_scan_106 (tgt := 161) (by decide) (fun c_106_1 => ?_) (fun c_106_1 => ?_)
    · exact kk9 H locs ls hG hS (lv_sub hl [1, 2, 3, 4, 5, 6, 7, 8] rfl)
    · exact absurd c_106_1 (by omega)
  | succ n ih =>
    intro k al be H locs ls hv9 hG hS hl kk9
    have hz9 := g_nIT (show k < 2147483648 by omega)
    refine lv_iload hx hb dX7_scan_101 (lv_at hl 0 rfl) ?_
    refine lv_sipush (v := 1000) hx hb dX7_scan_103 (by decide) ?_
    refine kz_icmp_ge (X := ((k : Nat) : Int)) (Y := 1000) hx hb (g_nIT (by omega)) (by decide) dX7_scan_106 (tgt := 161) (by decide) (fun c_106_1 => ?_) (fun c_106_1 => ?_)
    · exact absurd c_106_1 (by omega)
    · refine lv_iload hx hb dX7_scan_109 (lv_at hl 2 rfl) ?_
      refine lv_aload_n hx hb dX7_scan_111 rfl (lv_at hl 3 rfl) ?_
      refine g_get (C := RX7) (T := TX7) (N := 28) (v := .ref (L (1, 27, 0))) hx hb hts inX7g hown hK hG (0, 0, 0) ⟨rfl, rfl⟩ (m_at_0 cy L 0 0 (σ (0, 0, 0))) rfl 27 (by decide) fl_X7_80 rfl dX7_scan_112 ?_
      refine lv_iload hx hb dX7_scan_115 (lv_at hl 0 rfl) ?_
      refine g_iald (n := 1000) hx hb hK hG (1, 27, 0) ⟨by decide, rfl⟩ 0 rfl rfl (vp_in_nI (show k < 1000 by omega) (by omega)) dX7_scan_117 ?_
      rw [g_nIc (show k < 2147483648 by omega)]
      refine kz_if_le (X := (σ (1, 27, 0) k).toInt) hx hb rfl dX7_scan_118 (tgt := 125) (by decide) (fun c_118_2 => ?_) (fun c_118_2 => ?_)
      · refine lv_iconst (v := 0) hx hb dX7_scan_125 (by decide) ?_
        refine lv_iadd hx hb dX7_scan_126 ?_
        rw [show nI (al) + 0 = nI (al + 0) from nI_add _ 0]
        refine lv_istore (lv' := [(6, .int (nI (al + 0))), (8, .int (nI k)), (7, .int (nI be)), (0, .ref (L (0, 0, 0))), (1, .int (u)), (2, .int (x)), (3, .int (t)), (4, .int (nn)), (5, .int (pl))]) hx hb dX7_scan_127 hl (by decide) rfl (fun ls hl => ?_)
        refine lv_iload hx hb dX7_scan_129 (lv_at hl 2 rfl) ?_
        refine lv_aload_n hx hb dX7_scan_131 rfl (lv_at hl 3 rfl) ?_
        refine g_get (C := RX7) (T := TX7) (N := 28) (v := .ref (L (1, 27, 0))) hx hb hts inX7g hown hK hG (0, 0, 0) ⟨rfl, rfl⟩ (m_at_0 cy L 0 0 (σ (0, 0, 0))) rfl 27 (by decide) fl_X7_80 rfl dX7_scan_132 ?_
        refine lv_iload hx hb dX7_scan_135 (lv_at hl 1 rfl) ?_
        refine g_iald (n := 1000) hx hb hK hG (1, 27, 0) ⟨by decide, rfl⟩ 0 rfl rfl (vp_in_nI (show k < 1000 by omega) (by omega)) dX7_scan_137 ?_
        rw [g_nIc (show k < 2147483648 by omega)]
        refine kz_if_le (X := (σ (1, 27, 0) k).toInt) hx hb rfl dX7_scan_138 (tgt := 151) (by decide) (fun c_138_3 => ?_) (fun c_138_3 => ?_)
        · refine lv_iconst (v := 0) hx hb dX7_scan_151 (by decide) ?_
          refine lv_iadd hx hb dX7_scan_152 ?_
          rw [show nI (be) + 0 = nI (be + 0) from nI_add _ 0]
          refine lv_istore (lv' := [(7, .int (nI (be + 0))), (6, .int (nI (al + 0))), (8, .int (nI k)), (0, .ref (L (0, 0, 0))), (1, .int (u)), (2, .int (x)), (3, .int (t)), (4, .int (nn)), (5, .int (pl))]) hx hb dX7_scan_153 hl (by decide) rfl (fun ls hl => ?_)
          refine lv_iinc (v := nI (k + 1)) (lv' := [(8, .int (nI (k + 1))), (7, .int (nI (be + 0))), (6, .int (nI (al + 0))), (0, .ref (L (0, 0, 0))), (1, .int (u)), (2, .int (x)), (3, .int (t)), (4, .int (nn)), (5, .int (pl))]) hx hb dX7_scan_155 hl (k := 2) rfl (nI_1 (k)) (by decide) rfl (fun ls hl => ?_)
          refine lv_goto (tgt := 101) hx hb dX7_scan_158 (by decide) ?_
          have e90 : m_scA σ t (n + 1) k al be = m_scA σ t n (k + 1) (al + 0) (be + 0) := (by rw [m_scA_s]; (repeat' split) <;> first | rfl | (exfalso; omega))
          rw [e90] at kk9
          exact ih (k + 1) (al + 0) (be + 0) H locs ls (by omega) hG hS (lv_sub hl [0, 1, 2, 3, 4, 5, 6, 7, 8] rfl) kk9
        · refine lv_iload hx hb dX7_scan_141 (lv_at hl 1 rfl) ?_
          refine lv_iload_n hx hb dX7_scan_143 rfl (lv_at hl 6 rfl) ?_
          refine kz_icmp_ge (X := ((k : Nat) : Int)) (Y := (t).toInt) hx hb (g_nIT (by omega)) rfl dX7_scan_144 (tgt := 151) (by decide) (fun c_144_4 => ?_) (fun c_144_4 => ?_)
          · refine lv_iconst (v := 0) hx hb dX7_scan_151 (by decide) ?_
            refine lv_iadd hx hb dX7_scan_152 ?_
            rw [show nI (be) + 0 = nI (be + 0) from nI_add _ 0]
            refine lv_istore (lv' := [(7, .int (nI (be + 0))), (6, .int (nI (al + 0))), (8, .int (nI k)), (0, .ref (L (0, 0, 0))), (1, .int (u)), (2, .int (x)), (3, .int (t)), (4, .int (nn)), (5, .int (pl))]) hx hb dX7_scan_153 hl (by decide) rfl (fun ls hl => ?_)
            refine lv_iinc (v := nI (k + 1)) (lv' := [(8, .int (nI (k + 1))), (7, .int (nI (be + 0))), (6, .int (nI (al + 0))), (0, .ref (L (0, 0, 0))), (1, .int (u)), (2, .int (x)), (3, .int (t)), (4, .int (nn)), (5, .int (pl))]) hx hb dX7_scan_155 hl (k := 2) rfl (nI_1 (k)) (by decide) rfl (fun ls hl => ?_)
            refine lv_goto (tgt := 101) hx hb dX7_scan_158 (by decide) ?_
            have e90 : m_scA σ t (n + 1) k al be = m_scA σ t n (k + 1) (al + 0) (be + 0) := (by rw [m_scA_s]; (repeat' split) <;> first | rfl | (exfalso; omega))
            rw [e90] at kk9
            exact ih (k + 1) (al + 0) (be + 0) H locs ls (by omega) hG hS (lv_sub hl [0, 1, 2, 3, 4, 5, 6, 7, 8] rfl) kk9
          · refine lv_iconst (v := 1) hx hb dX7_scan_147 (by decide) ?_
            refine lv_goto (tgt := 152) hx hb dX7_scan_148 (by decide) ?_
            refine lv_iadd hx hb dX7_scan_152 ?_
            rw [show nI (be) + 1 = nI (be + 1) from nI_add _ 1]
            refine lv_istore (lv' := [(7, .int (nI (be + 1))), (6, .int (nI (al + 0))), (8, .int (nI k)), (0, .ref (L (0, 0, 0))), (1, .int (u)), (2, .int (x)), (3, .int (t)), (4, .int (nn)), (5, .int (pl))]) hx hb dX7_scan_153 hl (by decide) rfl (fun ls hl => ?_)
            refine lv_iinc (v := nI (k + 1)) (lv' := [(8, .int (nI (k + 1))), (7, .int (nI (be + 1))), (6, .int (nI (al + 0))), (0, .ref (L (0, 0, 0))), (1, .int (u)), (2, .int (x)), (3, .int (t)), (4, .int (nn)), (5, .int (pl))]) hx hb dX7_scan_155 hl (k := 2) rfl (nI_1 (k)) (by decide) rfl (fun ls hl => ?_)
            refine lv_goto (tgt := 101) hx hb dX7_scan_158 (by decide) ?_
            have e90 : m_scA σ t (n + 1) k al be = m_scA σ t n (k + 1) (al + 0) (be + 1) := (by rw [m_scA_s]; (repeat' split) <;> first | rfl | (exfalso; omega))
            rw [e90] at kk9
            exact ih (k + 1) (al + 0) (be + 1) H locs ls (by omega) hG hS (lv_sub hl [0, 1, 2, 3, 4, 5, 6, 7, 8] rfl) kk9
      · refine lv_iconst (v := 1) hx hb dX7_scan_121 (by decide) ?_
        refine lv_goto (tgt := 126) hx hb dX7_scan_122 (by decide) ?_
        refine lv_iadd hx hb dX7_scan_126 ?_
        rw [show nI (al) + 1 = nI (al + 1) from nI_add _ 1]
        refine lv_istore (lv' := [(6, .int (nI (al + 1))), (8, .int (nI k)), (7, .int (nI be)), (0, .ref (L (0, 0, 0))), (1, .int (u)), (2, .int (x)), (3, .int (t)), (4, .int (nn)), (5, .int (pl))]) hx hb dX7_scan_127 hl (by decide) rfl (fun ls hl => ?_)
        refine lv_iload hx hb dX7_scan_129 (lv_at hl 2 rfl) ?_
        refine lv_aload_n hx hb dX7_scan_131 rfl (lv_at hl 3 rfl) ?_
        refine g_get (C := RX7) (T := TX7) (N := 28) (v := .ref (L (1, 27, 0))) hx hb hts inX7g hown hK hG (0, 0, 0) ⟨rfl, rfl⟩ (m_at_0 cy L 0 0 (σ (0, 0, 0))) rfl 27 (by decide) fl_X7_80 rfl dX7_scan_132 ?_
        refine lv_iload hx hb dX7_scan_135 (lv_at hl 1 rfl) ?_
        refine g_iald (n := 1000) hx hb hK hG (1, 27, 0) ⟨by decide, rfl⟩ 0 rfl rfl (vp_in_nI (show k < 1000 by omega) (by omega)) dX7_scan_137 ?_
        rw [g_nIc (show k < 2147483648 by omega)]
        refine kz_if_le (X := (σ (1, 27, 0) k).toInt) hx hb rfl dX7_scan_138 (tgt := 151) (by decide) (fun c_138_5 => ?_) (fun c_138_5 => ?_)
        · refine lv_iconst (v := 0) hx hb dX7_scan_151 (by decide) ?_
          refine lv_iadd hx hb dX7_scan_152 ?_
          rw [show nI (be) + 0 = nI (be + 0) from nI_add _ 0]
          refine lv_istore (lv' := [(7, .int (nI (be + 0))), (6, .int (nI (al + 1))), (8, .int (nI k)), (0, .ref (L (0, 0, 0))), (1, .int (u)), (2, .int (x)), (3, .int (t)), (4, .int (nn)), (5, .int (pl))]) hx hb dX7_scan_153 hl (by decide) rfl (fun ls hl => ?_)
          refine lv_iinc (v := nI (k + 1)) (lv' := [(8, .int (nI (k + 1))), (7, .int (nI (be + 0))), (6, .int (nI (al + 1))), (0, .ref (L (0, 0, 0))), (1, .int (u)), (2, .int (x)), (3, .int (t)), (4, .int (nn)), (5, .int (pl))]) hx hb dX7_scan_155 hl (k := 2) rfl (nI_1 (k)) (by decide) rfl (fun ls hl => ?_)
          refine lv_goto (tgt := 101) hx hb dX7_scan_158 (by decide) ?_
          have e90 : m_scA σ t (n + 1) k al be = m_scA σ t n (k + 1) (al + 1) (be + 0) := (by rw [m_scA_s]; (repeat' split) <;> first | rfl | (exfalso; omega))
          rw [e90] at kk9
          exact ih (k + 1) (al + 1) (be + 0) H locs ls (by omega) hG hS (lv_sub hl [0, 1, 2, 3, 4, 5, 6, 7, 8] rfl) kk9
        · refine lv_iload hx hb dX7_scan_141 (lv_at hl 1 rfl) ?_
          refine lv_iload_n hx hb dX7_scan_143 rfl (lv_at hl 6 rfl) ?_
          refine kz_icmp_ge (X := ((k : Nat) : Int)) (Y := (t).toInt) hx hb (g_nIT (by omega)) rfl dX7_scan_144 (tgt := 151) (by decide) (fun c_144_6 => ?_) (fun c_144_6 => ?_)
          · refine lv_iconst (v := 0) hx hb dX7_scan_151 (by decide) ?_
            refine lv_iadd hx hb dX7_scan_152 ?_
            rw [show nI (be) + 0 = nI (be + 0) from nI_add _ 0]
            refine lv_istore (lv' := [(7, .int (nI (be + 0))), (6, .int (nI (al + 1))), (8, .int (nI k)), (0, .ref (L (0, 0, 0))), (1, .int (u)), (2, .int (x)), (3, .int (t)), (4, .int (nn)), (5, .int (pl))]) hx hb dX7_scan_153 hl (by decide) rfl (fun ls hl => ?_)
            refine lv_iinc (v := nI (k + 1)) (lv' := [(8, .int (nI (k + 1))), (7, .int (nI (be + 0))), (6, .int (nI (al + 1))), (0, .ref (L (0, 0, 0))), (1, .int (u)), (2, .int (x)), (3, .int (t)), (4, .int (nn)), (5, .int (pl))]) hx hb dX7_scan_155 hl (k := 2) rfl (nI_1 (k)) (by decide) rfl (fun ls hl => ?_)
            refine lv_goto (tgt := 101) hx hb dX7_scan_158 (by decide) ?_
            have e90 : m_scA σ t (n + 1) k al be = m_scA σ t n (k + 1) (al + 1) (be + 0) := (by rw [m_scA_s]; (repeat' split) <;> first | rfl | (exfalso; omega))
            rw [e90] at kk9
            exact ih (k + 1) (al + 1) (be + 0) H locs ls (by omega) hG hS (lv_sub hl [0, 1, 2, 3, 4, 5, 6, 7, 8] rfl) kk9
          · refine lv_iconst (v := 1) hx hb dX7_scan_147 (by decide) ?_
            refine lv_goto (tgt := 152) hx hb dX7_scan_148 (by decide) ?_
            refine lv_iadd hx hb dX7_scan_152 ?_
            rw [show nI (be) + 1 = nI (be + 1) from nI_add _ 1]
            refine lv_istore (lv' := [(7, .int (nI (be + 1))), (6, .int (nI (al + 1))), (8, .int (nI k)), (0, .ref (L (0, 0, 0))), (1, .int (u)), (2, .int (x)), (3, .int (t)), (4, .int (nn)), (5, .int (pl))]) hx hb dX7_scan_153 hl (by decide) rfl (fun ls hl => ?_)
            refine lv_iinc (v := nI (k + 1)) (lv' := [(8, .int (nI (k + 1))), (7, .int (nI (be + 1))), (6, .int (nI (al + 1))), (0, .ref (L (0, 0, 0))), (1, .int (u)), (2, .int (x)), (3, .int (t)), (4, .int (nn)), (5, .int (pl))]) hx hb dX7_scan_155 hl (k := 2) rfl (nI_1 (k)) (by decide) rfl (fun ls hl => ?_)
            refine lv_goto (tgt := 101) hx hb dX7_scan_158 (by decide) ?_
            have e90 : m_scA σ t (n + 1) k al be = m_scA σ t n (k + 1) (al + 1) (be + 1) := (by rw [m_scA_s]; (repeat' split) <;> first | rfl | (exfalso; omega))
            rw [e90] at kk9
            exact ih (k + 1) (al + 1) (be + 1) H locs ls (by omega) hG hS (lv_sub hl [0, 1, 2, 3, 4, 5, 6, 7, 8] rfl) kk9
set_option maxHeartbeats 4000000 in
set_option maxRecDepth 100000 in
theorem lp_scB (l : Launch) (D : va_G) (cy : Nat → ClassId) (L : g_S → Nat) {pg : Program} {e : Env} {s : State} {m : MethodId} {args : Array Value} {below : List Frame} {meth : Method} {c : Code} {Q : State → Prop} (C0 : g_C pg s m meth c args cX7_scan (some .int) 12 RX7 D (x_tys cy)) (u nn bg : Int32) (zb : Int) (hbg : bg.toInt = zb) (hu : 0 ≤ u.toInt ∧ u.toInt < 8) (hnn : 1 ≤ nn.toInt ∧ nn.toInt ≤ 20) :
    ∀ (n : Nat) (σ : g_S → Nat → Int32) (k : Nat) (se : Nat) (gt : Nat) (H : Heap) (locs : List Loc) (ls : Array Slot), (k + n = 1000 ∧ se ≤ k ∧ gt ≤ 20) → g_H D vwCl m_dom L (fun z => m_K cy L z (σ z)) H → va_S (g_A m_dom L) s.heap H locs → lv_has ls 12 [(11, .int (nI k)), (10, .int (nI gt)), (9, .int (nI se)), (8, .int (bg)), (0, .ref (L (0, 0, 0))), (1, .int (u)), (4, .int (nn))] →
    (∀ (H : Heap) (locs : List Loc) (ls : Array Slot), g_H D vwCl m_dom L (fun z => m_K cy L z ((m_scB u nn zb n k se gt σ).1 z)) H → va_S (g_A m_dom L) s.heap H locs → lv_has ls 12 [(10, .int (nI ((m_scB u nn zb n k se gt σ).2))), (0, .ref (L (0, 0, 0))), (1, .int (u))] → W pg l e (g_R 3) s m args below meth c H locs 0 0 Q (F0 m 281 ls [])) →
    W pg l e (g_R 3) s m args below meth c H locs 0 0 Q (F0 m 201 ls []) := by
  obtain ⟨hx, hb, hr, hlk, hml, hown, hts, hK, hN⟩ := C0
  intro n
  induction n with
  | zero =>
    intro σ k se gt H locs ls hv9 hG hS hl kk9
    have hz9 := g_nIT (show k < 2147483648 by omega)
    refine lv_iload hx hb dX7_scan_201 (lv_at hl 0 rfl) ?_
    refine lv_sipush (v := 1000) hx hb dX7_scan_203 (by decide) ?_
    refine kz_icmp_ge (X := ((k : Nat) : Int)) (Y := 1000) hx hb (g_nIT (by omega)) (by decide) dX7_scan_206 (tgt := 281) (by decide) (fun c_206_1 => ?_) (fun c_206_1 => ?_)
    · exact kk9 H locs ls hG hS (lv_sub hl [1, 4, 5] rfl)
    · exact absurd c_206_1 (by omega)
  | succ n ih =>
    intro σ k se gt H locs ls hv9 hG hS hl kk9
    have hz9 := g_nIT (show k < 2147483648 by omega)
    refine lv_iload hx hb dX7_scan_201 (lv_at hl 0 rfl) ?_
    refine lv_sipush (v := 1000) hx hb dX7_scan_203 (by decide) ?_
    refine kz_icmp_ge (X := ((k : Nat) : Int)) (Y := 1000) hx hb (g_nIT (by omega)) (by decide) dX7_scan_206 (tgt := 281) (by decide) (fun c_206_1 => ?_) (fun c_206_1 => ?_)
    · exact absurd c_206_1 (by omega)
    · refine lv_aload_n hx hb dX7_scan_209 rfl (lv_at hl 4 rfl) ?_
      refine g_get (C := RX7) (T := TX7) (N := 28) (v := .ref (L (1, 27, 0))) hx hb hts inX7g hown hK hG (0, 0, 0) ⟨rfl, rfl⟩ (m_at_0 cy L 0 0 (σ (0, 0, 0))) rfl 27 (by decide) fl_X7_80 rfl dX7_scan_210 ?_
      refine lv_iload hx hb dX7_scan_213 (lv_at hl 0 rfl) ?_
      refine g_iald (n := 1000) hx hb hK hG (1, 27, 0) ⟨by decide, rfl⟩ 0 rfl rfl (vp_in_nI (show k < 1000 by omega) (by omega)) dX7_scan_215 ?_
      rw [g_nIc (show k < 2147483648 by omega)]
      refine kz_if_ne (X := (σ (1, 27, 0) k).toInt) hx hb rfl dX7_scan_216 (tgt := 222) (by decide) (fun c_216_2 => ?_) (fun c_216_2 => ?_)
      · refine lv_iload hx hb dX7_scan_222 (lv_at hl 2 rfl) ?_
        refine lv_iload hx hb dX7_scan_224 (lv_at hl 3 rfl) ?_
        refine kz_icmp_lt (X := ((se : Nat) : Int)) (Y := zb) hx hb (g_nIT (by omega)) hbg dX7_scan_226 (tgt := 272) (by decide) (fun c_226_3 => ?_) (fun c_226_3 => ?_)
        · refine lv_iinc (v := nI (se + 1)) (lv' := [(9, .int (nI (se + 1))), (11, .int (nI k)), (10, .int (nI gt)), (8, .int (bg)), (0, .ref (L (0, 0, 0))), (1, .int (u)), (4, .int (nn))]) hx hb dX7_scan_272 hl (k := 2) rfl (nI_1 (se)) (by decide) rfl (fun ls hl => ?_)
          refine lv_iinc (v := nI (k + 1)) (lv' := [(11, .int (nI (k + 1))), (9, .int (nI (se + 1))), (10, .int (nI gt)), (8, .int (bg)), (0, .ref (L (0, 0, 0))), (1, .int (u)), (4, .int (nn))]) hx hb dX7_scan_275 hl (k := 1) rfl (nI_1 (k)) (by decide) rfl (fun ls hl => ?_)
          refine lv_goto (tgt := 201) hx hb dX7_scan_278 (by decide) ?_
          have e90 : m_scB u nn zb (n + 1) k se gt σ = m_scB u nn zb n (k + 1) (se + 1) (gt) σ := (by rw [m_scB_s]; first | (rw [if_pos (by omega)]) | (rw [if_neg (by omega), if_pos (by omega)]) | (rw [if_neg (by omega), if_neg (by omega)]))
          rw [e90] at kk9
          exact ih σ (k + 1) (se + 1) (gt) H locs ls (by omega) hG hS (lv_sub hl [0, 2, 1, 3, 4, 5, 6] rfl) kk9
        · refine lv_iload hx hb dX7_scan_229 (lv_at hl 1 rfl) ?_
          refine lv_iload hx hb dX7_scan_231 (lv_at hl 6 rfl) ?_
          refine kz_icmp_ge (X := ((gt : Nat) : Int)) (Y := (nn).toInt) hx hb (g_nIT (by omega)) rfl dX7_scan_233 (tgt := 272) (by decide) (fun c_233_4 => ?_) (fun c_233_4 => ?_)
          · refine lv_iinc (v := nI (se + 1)) (lv' := [(9, .int (nI (se + 1))), (11, .int (nI k)), (10, .int (nI gt)), (8, .int (bg)), (0, .ref (L (0, 0, 0))), (1, .int (u)), (4, .int (nn))]) hx hb dX7_scan_272 hl (k := 2) rfl (nI_1 (se)) (by decide) rfl (fun ls hl => ?_)
            refine lv_iinc (v := nI (k + 1)) (lv' := [(11, .int (nI (k + 1))), (9, .int (nI (se + 1))), (10, .int (nI gt)), (8, .int (bg)), (0, .ref (L (0, 0, 0))), (1, .int (u)), (4, .int (nn))]) hx hb dX7_scan_275 hl (k := 1) rfl (nI_1 (k)) (by decide) rfl (fun ls hl => ?_)
            refine lv_goto (tgt := 201) hx hb dX7_scan_278 (by decide) ?_
            have e90 : m_scB u nn zb (n + 1) k se gt σ = m_scB u nn zb n (k + 1) (se + 1) (gt) σ := (by rw [m_scB_s]; first | (rw [if_pos (by omega)]) | (rw [if_neg (by omega), if_pos (by omega)]) | (rw [if_neg (by omega), if_neg (by omega)]))
            rw [e90] at kk9
            exact ih σ (k + 1) (se + 1) (gt) H locs ls (by omega) hG hS (lv_sub hl [0, 2, 1, 3, 4, 5, 6] rfl) kk9
          · refine lv_aload_n hx hb dX7_scan_236 rfl (lv_at hl 4 rfl) ?_
            refine g_get (C := RX7) (T := TX7) (N := 28) (v := .ref (L (1, 25, 0))) hx hb hts inX7g hown hK hG (0, 0, 0) ⟨rfl, rfl⟩ (m_at_0 cy L 0 0 (σ (0, 0, 0))) rfl 25 (by decide) fl_X7_74 rfl dX7_scan_237 ?_
            refine lv_bipush (v := 20) hx hb dX7_scan_240 (by decide) ?_
            refine lv_iload_n hx hb dX7_scan_242 rfl (lv_at hl 5 rfl) ?_
            refine lv_imul hx hb dX7_scan_243 ?_
            have z_5 : ((20) * (u)).toInt = (20 * (u).toInt) := g_mulZ (by decide) rfl (by omega) (by omega)
            refine lv_iload hx hb dX7_scan_244 (lv_at hl 1 rfl) ?_
            refine lv_iadd hx hb dX7_scan_246 ?_
            have z_6 : (((20) * (u)) + (nI gt)).toInt = ((20 * (u).toInt) + ((gt : Nat) : Int)) := g_addZ z_5 (g_nIT (by omega)) (by omega) (by omega)
            refine lv_iload hx hb dX7_scan_247 (lv_at hl 0 rfl) ?_
            refine g_iast (n := 160) hx hb hK hG hS (1, 25, 0) ⟨by decide, rfl⟩ 0 (fun _ => rfl) rfl (g_vp (by have := (show (((20) * (u)) + (nI gt) : Int32).toInt = ((20 * (u).toInt) + ((gt : Nat) : Int)) from z_6); omega) (by have := (show (((20) * (u)) + (nI gt) : Int32).toInt = ((20 * (u).toInt) + ((gt : Nat) : Int)) from z_6); omega)) dX7_scan_249 (fun H locs hG hS => ?_)
            rw [show (((20) * (u)) + (nI gt) : Int32).toNatClampNeg = (((20 * (u).toInt) + ((gt : Nat) : Int))).toNat from congrArg Int.toNat (show (((20) * (u)) + (nI gt) : Int32).toInt = ((20 * (u).toInt) + ((gt : Nat) : Int)) from z_6)] at hG
            refine lv_aload_n hx hb dX7_scan_250 rfl (lv_at hl 4 rfl) ?_
            refine g_get (C := RX7) (T := TX7) (N := 28) (v := .ref (L (1, 26, 0))) hx hb hts inX7g hown hK hG (0, 0, 0) ⟨rfl, rfl⟩ (m_at_0 cy L 0 0 ((g_up σ (1, 25, 0) ((((20 * (u).toInt) + ((gt : Nat) : Int))).toNat) (nI k)) (0, 0, 0))) rfl 26 (by decide) fl_X7_77 rfl dX7_scan_251 ?_
            refine lv_bipush (v := 20) hx hb dX7_scan_254 (by decide) ?_
            refine lv_iload_n hx hb dX7_scan_256 rfl (lv_at hl 5 rfl) ?_
            refine lv_imul hx hb dX7_scan_257 ?_
            have z_7 : ((20) * (u)).toInt = (20 * (u).toInt) := g_mulZ (by decide) rfl (by omega) (by omega)
            refine lv_iload hx hb dX7_scan_258 (lv_at hl 1 rfl) ?_
            refine lv_iadd hx hb dX7_scan_260 ?_
            have z_8 : (((20) * (u)) + (nI gt)).toInt = ((20 * (u).toInt) + ((gt : Nat) : Int)) := g_addZ z_7 (g_nIT (by omega)) (by omega) (by omega)
            refine lv_aload_n hx hb dX7_scan_261 rfl (lv_at hl 4 rfl) ?_
            refine g_get (C := RX7) (T := TX7) (N := 28) (v := .ref (L (1, 27, 0))) hx hb hts inX7g hown hK hG (0, 0, 0) ⟨rfl, rfl⟩ (m_at_0 cy L 0 0 ((g_up σ (1, 25, 0) ((((20 * (u).toInt) + ((gt : Nat) : Int))).toNat) (nI k)) (0, 0, 0))) rfl 27 (by decide) fl_X7_80 rfl dX7_scan_262 ?_
            refine lv_iload hx hb dX7_scan_265 (lv_at hl 0 rfl) ?_
            refine g_iald (n := 1000) hx hb hK hG (1, 27, 0) ⟨by decide, rfl⟩ 0 rfl rfl (vp_in_nI (show k < 1000 by omega) (by omega)) dX7_scan_267 ?_
            rw [g_nIc (show k < 2147483648 by omega)]
            refine W.eq (g2 := F0 m 268 ls [.int (σ (1, 27, 0) k), .int (((20) * (u)) + (nI gt)), .ref (L (1, 26, 0))]) rfl ?_
            refine g_iast (n := 160) hx hb hK hG hS (1, 26, 0) ⟨by decide, rfl⟩ 0 (fun _ => rfl) rfl (g_vp (by have := (show (((20) * (u)) + (nI gt) : Int32).toInt = ((20 * (u).toInt) + ((gt : Nat) : Int)) from z_8); omega) (by have := (show (((20) * (u)) + (nI gt) : Int32).toInt = ((20 * (u).toInt) + ((gt : Nat) : Int)) from z_8); omega)) dX7_scan_268 (fun H locs hG hS => ?_)
            rw [show (((20) * (u)) + (nI gt) : Int32).toNatClampNeg = (((20 * (u).toInt) + ((gt : Nat) : Int))).toNat from congrArg Int.toNat (show (((20) * (u)) + (nI gt) : Int32).toInt = ((20 * (u).toInt) + ((gt : Nat) : Int)) from z_8)] at hG
            refine lv_iinc (v := nI (gt + 1)) (lv' := [(10, .int (nI (gt + 1))), (11, .int (nI k)), (9, .int (nI se)), (8, .int (bg)), (0, .ref (L (0, 0, 0))), (1, .int (u)), (4, .int (nn))]) hx hb dX7_scan_269 hl (k := 1) rfl (nI_1 (gt)) (by decide) rfl (fun ls hl => ?_)
            refine lv_iinc (v := nI (se + 1)) (lv' := [(9, .int (nI (se + 1))), (10, .int (nI (gt + 1))), (11, .int (nI k)), (8, .int (bg)), (0, .ref (L (0, 0, 0))), (1, .int (u)), (4, .int (nn))]) hx hb dX7_scan_272 hl (k := 2) rfl (nI_1 (se)) (by decide) rfl (fun ls hl => ?_)
            refine lv_iinc (v := nI (k + 1)) (lv' := [(11, .int (nI (k + 1))), (9, .int (nI (se + 1))), (10, .int (nI (gt + 1))), (8, .int (bg)), (0, .ref (L (0, 0, 0))), (1, .int (u)), (4, .int (nn))]) hx hb dX7_scan_275 hl (k := 2) rfl (nI_1 (k)) (by decide) rfl (fun ls hl => ?_)
            refine lv_goto (tgt := 201) hx hb dX7_scan_278 (by decide) ?_
            have e90 : m_scB u nn zb (n + 1) k se gt σ = m_scB u nn zb n (k + 1) (se + 1) (gt + 1) (g_up (g_up σ (1, 25, 0) ((((20 * (u).toInt) + ((gt : Nat) : Int))).toNat) (nI k)) (1, 26, 0) ((((20 * (u).toInt) + ((gt : Nat) : Int))).toNat) (σ (1, 27, 0) k)) := (by rw [m_scB_s]; first | (rw [if_pos (by omega)]) | (rw [if_neg (by omega), if_pos (by omega)]) | (rw [if_neg (by omega), if_neg (by omega)]))
            rw [e90] at kk9
            exact ih (g_up (g_up σ (1, 25, 0) ((((20 * (u).toInt) + ((gt : Nat) : Int))).toNat) (nI k)) (1, 26, 0) ((((20 * (u).toInt) + ((gt : Nat) : Int))).toNat) (σ (1, 27, 0) k)) (k + 1) (se + 1) (gt + 1) H locs ls (by omega) hG hS (lv_sub hl [0, 2, 1, 3, 4, 5, 6] rfl) kk9
      · refine lv_goto (tgt := 275) hx hb dX7_scan_219 (by decide) ?_
        refine lv_iinc (v := nI (k + 1)) (lv' := [(11, .int (nI (k + 1))), (10, .int (nI gt)), (9, .int (nI se)), (8, .int (bg)), (0, .ref (L (0, 0, 0))), (1, .int (u)), (4, .int (nn))]) hx hb dX7_scan_275 hl (k := 0) rfl (nI_1 (k)) (by decide) rfl (fun ls hl => ?_)
        refine lv_goto (tgt := 201) hx hb dX7_scan_278 (by decide) ?_
        have e90 : m_scB u nn zb (n + 1) k se gt σ = m_scB u nn zb n (k + 1) (se) (gt) σ := (by rw [m_scB_s]; first | (rw [if_pos (by omega)]) | (rw [if_neg (by omega), if_pos (by omega)]) | (rw [if_neg (by omega), if_neg (by omega)]))
        rw [e90] at kk9
        exact ih σ (k + 1) (se) (gt) H locs ls (by omega) hG hS (lv_sub hl [0, 1, 2, 3, 4, 5, 6] rfl) kk9
set_option maxHeartbeats 4000000 in
set_option maxRecDepth 100000 in
theorem c_X7_scan (l : Launch) (D : va_G) (cy : Nat → ClassId) (L : g_S → Nat) (σ : g_S → Nat → Int32) (τ : g_S → Nat → Int32) (hτ : g_up σ (0, 0, 0) 0 0 = τ) (u x t nn pl : Int32) (n0 : 0 ≤ (τ (0, 0, 0) 1).toInt) (n1 : (τ (0, 0, 0) 1).toInt ≤ 100) (s0 : 0 ≤ (τ (0, 0, 0) 10).toInt) (s1 : (τ (0, 0, 0) 10).toInt ≤ 8) (htA : ∀ (x : Int32) (r : Nat), (r : Int) < (τ (0, 0, 0) 1).toInt → (0 ≤ x.toInt ∧ x.toInt ≤ 4) → -1 ≤ (τ (1, 3, 0) ((5 * ((r : Nat) : Int)) + (x).toInt).toNat).toInt ∧ (τ (1, 3, 0) ((5 * ((r : Nat) : Int)) + (x).toInt).toNat).toInt ≤ 999) : m_Met l D cy L yX7_scan (.code yX7_scan cX7_scan 12 (some .int)) 3 σ [.ref (L (0, 0, 0)), .int (u), .int (x), .int (t), .int (nn), .int (pl)] (some (.int (m_scanR τ u x t nn pl))) (m_scanM τ u x t nn pl) := by
  refine g_Met.of (by decide) (Nat.le_of_ble_eq_true rfl) ?_
  intro pg e s m below meth c hx hb hr hlk hml hown hts hK hN H locs hG hS ls hl
  have hown : s.vm.findClass RX7 = some m.cls := hown
  have hl : lv_has ls 12 [(0, .ref (L (0, 0, 0))), (1, .int (u)), (2, .int (x)), (3, .int (t)), (4, .int (nn)), (5, .int (pl))] := hl
  refine lv_aload_n hx hb dX7_scan_0 rfl (lv_at hl 0 rfl) ?_
  refine lv_iconst (v := 0) hx hb dX7_scan_1 (by decide) ?_
  refine g_puti (C := RX7) (T := TX7) (N := 28) (v := 0) (ty := .int) hx hb hts inX7g tyX7_ok nmX7 hown hK hG hS (0, 0, 0) ⟨rfl, rfl⟩ (m_at_0 cy L 0 0 (σ (0, 0, 0))) rfl 0 (by decide) (m_up_0_0 cy L 0 0 (σ (0, 0, 0)) (0)) fl_X7_83 rfl (by decide +kernel) rfl rfl (Nat.le_of_ble_eq_true rfl) dX7_scan_2 (fun H locs hG hS => ?_)
  rw [hτ] at hG
  refine lv_aload_n hx hb dX7_scan_5 rfl (lv_at hl 0 rfl) ?_
  refine lv_iload_n hx hb dX7_scan_6 rfl (lv_at hl 1 rfl) ?_
  refine g_cont (va_runV (As := [.int (u)]) (rest := []) ⟨hx, hb, hml, hown, hts⟩ (c_X7_isOpen l D cy L τ (u) s0 s1) (cwV 1 hts gV_X7_118 rfl rfl rfl (by decide +kernel) ⟨Nat.le_of_ble_eq_true rfl, Nat.le_of_ble_eq_true rfl⟩) (g_preV hK hN hG (x := (0, 0, 0)) ⟨rfl, rfl⟩ (q := (RX7, TX7, 28)) (m_at_0 cy L 0 0 (τ (0, 0, 0))) rfl) rfl rfl hl.1 rfl (lv_room (Nat.le_of_ble_eq_true rfl)) dX7_scan_7 ⟨Nat.zero_le _, Nat.zero_le _⟩) hS (fun H locs hG hS => ?_)
  refine W.eq (g2 := F0 m 10 ls [.int (g_b ((0 ≤ (u).toInt ∧ (u).toInt ≤ ((τ (0, 0, 0) 10).toInt - 1)) ∧ (τ (2, 13, 0) ((u).toInt).toNat).toInt = 0))]) rfl ?_
  refine kz_b_ne (tgt := 16) hx hb dX7_scan_10 (by decide) (fun c_10_1 => ?_) (fun c_10_1 => ?_)
  · refine lv_aload_n hx hb dX7_scan_16 rfl (lv_at hl 0 rfl) ?_
    refine g_get (C := RX7) (T := TX7) (N := 28) (v := .ref (L (1, 11, 0))) hx hb hts inX7g hown hK hG (0, 0, 0) ⟨rfl, rfl⟩ (m_at_0 cy L 0 0 (τ (0, 0, 0))) rfl 11 (by decide) fl_X7_32 rfl dX7_scan_17 ?_
    refine lv_iload_n hx hb dX7_scan_20 rfl (lv_at hl 1 rfl) ?_
    refine g_iald (n := 8) hx hb hK hG (1, 11, 0) ⟨by decide, rfl⟩ 0 rfl rfl (g_vp (by omega) (by omega)) dX7_scan_21 ?_
    rw [show (u : Int32).toNatClampNeg = ((u).toInt).toNat from congrArg Int.toNat (show (u : Int32).toInt = (u).toInt from rfl)]
    refine lv_iconst (v := 2) hx hb dX7_scan_22 (by decide) ?_
    refine lv_iand hx hb dX7_scan_23 ?_
    refine kz_if_ne (X := ((τ (1, 11, 0) (((u).toInt).toNat)) &&& (2)).toInt) hx hb rfl dX7_scan_24 (tgt := 35) (by decide) (fun c_24_2 => ?_) (fun c_24_2 => ?_)
    · refine lv_iload_n hx hb dX7_scan_35 rfl (lv_at hl 2 rfl) ?_
      refine g_cont (va_runS (As := [.int (x)]) (rest := []) ⟨hx, hb, hml, hown, hts⟩ (c_X7_isIndex l D cy L τ (x) (x).toInt rfl) (cwS 1 hts gS_X7_94 rfl rfl rfl (by decide +kernel) ⟨Nat.le_of_ble_eq_true rfl, Nat.le_of_ble_eq_true rfl⟩) (g_preS hK hN hG) rfl rfl hl.1 rfl (lv_room (Nat.le_of_ble_eq_true rfl)) dX7_scan_36 ⟨Nat.zero_le _, Nat.zero_le _⟩) hS (fun H locs hG hS => ?_)
      refine W.eq (g2 := F0 m 39 ls [.int (g_b (0 ≤ (x).toInt ∧ (x).toInt ≤ 4))]) rfl ?_
      refine kz_b_ne (tgt := 50) hx hb dX7_scan_39 (by decide) (fun c_39_3 => ?_) (fun c_39_3 => ?_)
      · refine lv_iload_n hx hb dX7_scan_50 rfl (lv_at hl 3 rfl) ?_
        refine g_cont (va_runS (As := [.int (t)]) (rest := []) ⟨hx, hb, hml, hown, hts⟩ (c_X7_isValue l D cy L τ (t) (t).toInt rfl) (cwS 1 hts gS_X7_101 rfl rfl rfl (by decide +kernel) ⟨Nat.le_of_ble_eq_true rfl, Nat.le_of_ble_eq_true rfl⟩) (g_preS hK hN hG) rfl rfl hl.1 rfl (lv_room (Nat.le_of_ble_eq_true rfl)) dX7_scan_51 ⟨Nat.zero_le _, Nat.zero_le _⟩) hS (fun H locs hG hS => ?_)
        refine W.eq (g2 := F0 m 54 ls [.int (g_b (0 ≤ (t).toInt ∧ (t).toInt ≤ 999))]) rfl ?_
        refine kz_b_eq (tgt := 79) hx hb dX7_scan_54 (by decide) (fun c_54_4 => ?_) (fun c_54_4 => ?_)
        · refine lv_aload_n hx hb dX7_scan_79 rfl (lv_at hl 0 rfl) ?_
          refine lv_iload_n hx hb dX7_scan_80 rfl (lv_at hl 1 rfl) ?_
          refine lv_bipush (v := 107) hx hb dX7_scan_81 (by decide) ?_
          refine g_cont (va_runV (As := [.int (u), .int 107]) (rest := []) ⟨hx, hb, hml, hown, hts⟩ (c_X7_tell l D cy L τ (u) (107) ⟨by omega, by omega⟩) (cwV 2 hts gV_X7_121 rfl rfl rfl (by decide +kernel) ⟨Nat.le_of_ble_eq_true rfl, Nat.le_of_ble_eq_true rfl⟩) (g_preV hK hN hG (x := (0, 0, 0)) ⟨rfl, rfl⟩ (q := (RX7, TX7, 28)) (m_at_0 cy L 0 0 (τ (0, 0, 0))) rfl) rfl rfl hl.1 rfl (lv_room (Nat.le_of_ble_eq_true rfl)) dX7_scan_83 ⟨Nat.zero_le _, Nat.zero_le _⟩) hS (fun H locs hG hS => ?_)
          refine W.eq (g2 := F0 m 86 ls [.int (-(107))]) rfl ?_
          exact s_iret hx hb hr hlk hG hS dX7_scan_86 (by unfold m_scanR; (repeat' split) <;> first | rfl | (exfalso; omega)) (by unfold m_scanM m_cM; (repeat' split) <;> first | rfl | (exfalso; omega))
        · refine lv_iload hx hb dX7_scan_57 (lv_at hl 4 rfl) ?_
          refine lv_iconst (v := 1) hx hb dX7_scan_59 (by decide) ?_
          refine lv_bipush (v := 20) hx hb dX7_scan_60 (by decide) ?_
          refine g_cont (va_runS (As := [.int (nn), .int 1, .int 20]) (rest := []) ⟨hx, hb, hml, hown, hts⟩ (c_X7_in l D cy L τ (nn) (1) (20) (nn).toInt 1 20 rfl (by decide) (by decide)) (cwS 3 hts gS_X7_87 rfl rfl rfl (by decide +kernel) ⟨Nat.le_of_ble_eq_true rfl, Nat.le_of_ble_eq_true rfl⟩) (g_preS hK hN hG) rfl rfl hl.1 rfl (lv_room (Nat.le_of_ble_eq_true rfl)) dX7_scan_62 ⟨Nat.zero_le _, Nat.zero_le _⟩) hS (fun H locs hG hS => ?_)
          refine W.eq (g2 := F0 m 65 ls [.int (g_b (1 ≤ (nn).toInt ∧ (nn).toInt ≤ 20))]) rfl ?_
          refine kz_b_eq (tgt := 79) hx hb dX7_scan_65 (by decide) (fun c_65_5 => ?_) (fun c_65_5 => ?_)
          · refine lv_aload_n hx hb dX7_scan_79 rfl (lv_at hl 0 rfl) ?_
            refine lv_iload_n hx hb dX7_scan_80 rfl (lv_at hl 1 rfl) ?_
            refine lv_bipush (v := 107) hx hb dX7_scan_81 (by decide) ?_
            refine g_cont (va_runV (As := [.int (u), .int 107]) (rest := []) ⟨hx, hb, hml, hown, hts⟩ (c_X7_tell l D cy L τ (u) (107) ⟨by omega, by omega⟩) (cwV 2 hts gV_X7_121 rfl rfl rfl (by decide +kernel) ⟨Nat.le_of_ble_eq_true rfl, Nat.le_of_ble_eq_true rfl⟩) (g_preV hK hN hG (x := (0, 0, 0)) ⟨rfl, rfl⟩ (q := (RX7, TX7, 28)) (m_at_0 cy L 0 0 (τ (0, 0, 0))) rfl) rfl rfl hl.1 rfl (lv_room (Nat.le_of_ble_eq_true rfl)) dX7_scan_83 ⟨Nat.zero_le _, Nat.zero_le _⟩) hS (fun H locs hG hS => ?_)
            refine W.eq (g2 := F0 m 86 ls [.int (-(107))]) rfl ?_
            exact s_iret hx hb hr hlk hG hS dX7_scan_86 (by unfold m_scanR; (repeat' split) <;> first | rfl | (exfalso; omega)) (by unfold m_scanM m_cM; (repeat' split) <;> first | rfl | (exfalso; omega))
          · refine lv_iload hx hb dX7_scan_68 (lv_at hl 5 rfl) ?_
            refine lv_iconst (v := 0) hx hb dX7_scan_70 (by decide) ?_
            refine lv_bipush (v := 9) hx hb dX7_scan_71 (by decide) ?_
            refine g_cont (va_runS (As := [.int (pl), .int 0, .int 9]) (rest := []) ⟨hx, hb, hml, hown, hts⟩ (c_X7_in l D cy L τ (pl) (0) (9) (pl).toInt 0 9 rfl (by decide) (by decide)) (cwS 3 hts gS_X7_87 rfl rfl rfl (by decide +kernel) ⟨Nat.le_of_ble_eq_true rfl, Nat.le_of_ble_eq_true rfl⟩) (g_preS hK hN hG) rfl rfl hl.1 rfl (lv_room (Nat.le_of_ble_eq_true rfl)) dX7_scan_73 ⟨Nat.zero_le _, Nat.zero_le _⟩) hS (fun H locs hG hS => ?_)
            refine W.eq (g2 := F0 m 76 ls [.int (g_b (0 ≤ (pl).toInt ∧ (pl).toInt ≤ 9))]) rfl ?_
            refine kz_b_ne (tgt := 87) hx hb dX7_scan_76 (by decide) (fun c_76_6 => ?_) (fun c_76_6 => ?_)
            · refine lv_aload_n hx hb dX7_scan_87 rfl (lv_at hl 0 rfl) ?_
              refine lv_iload_n hx hb dX7_scan_88 rfl (lv_at hl 2 rfl) ?_
              refine g_cont (va_runV (As := [.int (x)]) (rest := []) ⟨hx, hb, hml, hown, hts⟩ (c_X7_reckon l D cy L τ (x) ⟨by omega, by omega⟩ n0 n1 (fun r h => htA _ r h (by omega))) (cwV 1 hts gV_X7_135 rfl rfl rfl (by decide +kernel) ⟨Nat.le_of_ble_eq_true rfl, Nat.le_of_ble_eq_true rfl⟩) (g_preV hK hN hG (x := (0, 0, 0)) ⟨rfl, rfl⟩ (q := (RX7, TX7, 28)) (m_at_0 cy L 0 0 (τ (0, 0, 0))) rfl) rfl rfl hl.1 rfl (lv_room (Nat.le_of_ble_eq_true rfl)) dX7_scan_89 ⟨Nat.zero_le _, Nat.zero_le _⟩) hS (fun H locs hG hS => ?_)
              refine W.eq (g2 := F0 m 92 ls []) rfl ?_
              refine lv_iconst (v := 0) hx hb dX7_scan_92 (by decide) ?_
              refine lv_istore (lv' := [(6, .int 0), (0, .ref (L (0, 0, 0))), (1, .int (u)), (2, .int (x)), (3, .int (t)), (4, .int (nn)), (5, .int (pl))]) hx hb dX7_scan_93 hl (by decide) rfl (fun ls hl => ?_)
              refine lv_iconst (v := 0) hx hb dX7_scan_95 (by decide) ?_
              refine lv_istore (lv' := [(7, .int 0), (6, .int 0), (0, .ref (L (0, 0, 0))), (1, .int (u)), (2, .int (x)), (3, .int (t)), (4, .int (nn)), (5, .int (pl))]) hx hb dX7_scan_96 hl (by decide) rfl (fun ls hl => ?_)
              refine lv_iconst (v := 0) hx hb dX7_scan_98 (by decide) ?_
              refine lv_istore (lv' := [(8, .int 0), (7, .int 0), (6, .int 0), (0, .ref (L (0, 0, 0))), (1, .int (u)), (2, .int (x)), (3, .int (t)), (4, .int (nn)), (5, .int (pl))]) hx hb dX7_scan_99 hl (by decide) rfl (fun ls hl => ?_)
              refine lp_scA l D cy L (m_reckon τ (x)) ⟨hx, hb, hr, hlk, hml, hown, hts, hK, hN⟩ u x t nn pl 1000 0 0 0 H locs ls ⟨by omega, by omega, by omega⟩ hG hS (lv_sub hl [0, 1, 2, 3, 4, 5, 6, 7, 8] rfl) (fun H locs ls hG hS hl => ?_)
              have hle := m_scA_le (m_reckon τ x) t 1000 0 0 0
              have hle : (m_cA τ x t).1 ≤ 0 + 1000 ∧ (m_cA τ x t).2 ≤ 0 + 1000 := hle
              refine lv_iload hx hb dX7_scan_161 (lv_at hl 1 rfl) ?_
              refine kz_if_ne (X := (((m_cA τ x t).1 : Nat) : Int)) hx hb (g_nIT (by omega)) dX7_scan_163 (tgt := 174) (by decide) (fun c_163_7 => ?_) (fun c_163_7 => ?_)
              · refine lv_iload hx hb dX7_scan_174 (lv_at hl 0 rfl) ?_
                refine lv_iload hx hb dX7_scan_176 (lv_at hl 7 rfl) ?_
                refine kz_icmp_ge (X := (((m_cA τ x t).2 : Nat) : Int)) (Y := (pl).toInt) hx hb (g_nIT (by omega)) rfl dX7_scan_178 (tgt := 185) (by decide) (fun c_178_8 => ?_) (fun c_178_8 => ?_)
                · refine lv_iload hx hb dX7_scan_185 (lv_at hl 0 rfl) ?_
                  refine lv_iload hx hb dX7_scan_187 (lv_at hl 7 rfl) ?_
                  refine lv_isub hx hb dX7_scan_189 ?_
                  have z_9 : ((nI ((m_cA τ x t).2)) - (pl)).toInt = ((((m_cA τ x t).2 : Nat) : Int) - (pl).toInt) := g_subZ (g_nIT (by omega)) rfl (by omega) (by omega)
                  refine lv_istore (lv' := [(8, .int ((nI ((m_cA τ x t).2)) - (pl))), (7, .int (nI ((m_cA τ x t).2))), (6, .int (nI ((m_cA τ x t).1))), (0, .ref (L (0, 0, 0))), (1, .int (u)), (2, .int (x)), (3, .int (t)), (4, .int (nn)), (5, .int (pl))]) hx hb dX7_scan_190 hl (by decide) rfl (fun ls hl => ?_)
                  refine lv_iconst (v := 0) hx hb dX7_scan_192 (by decide) ?_
                  refine lv_istore (lv' := [(9, .int 0), (8, .int ((nI ((m_cA τ x t).2)) - (pl))), (7, .int (nI ((m_cA τ x t).2))), (6, .int (nI ((m_cA τ x t).1))), (0, .ref (L (0, 0, 0))), (1, .int (u)), (2, .int (x)), (3, .int (t)), (4, .int (nn)), (5, .int (pl))]) hx hb dX7_scan_193 hl (by decide) rfl (fun ls hl => ?_)
                  refine lv_iconst (v := 0) hx hb dX7_scan_195 (by decide) ?_
                  refine lv_istore (lv' := [(10, .int 0), (9, .int 0), (8, .int ((nI ((m_cA τ x t).2)) - (pl))), (7, .int (nI ((m_cA τ x t).2))), (6, .int (nI ((m_cA τ x t).1))), (0, .ref (L (0, 0, 0))), (1, .int (u)), (2, .int (x)), (3, .int (t)), (4, .int (nn)), (5, .int (pl))]) hx hb dX7_scan_196 hl (by decide) rfl (fun ls hl => ?_)
                  refine lv_iconst (v := 0) hx hb dX7_scan_198 (by decide) ?_
                  refine lv_istore (lv' := [(11, .int 0), (10, .int 0), (9, .int 0), (8, .int ((nI ((m_cA τ x t).2)) - (pl))), (7, .int (nI ((m_cA τ x t).2))), (6, .int (nI ((m_cA τ x t).1))), (0, .ref (L (0, 0, 0))), (1, .int (u)), (2, .int (x)), (3, .int (t)), (4, .int (nn)), (5, .int (pl))]) hx hb dX7_scan_199 hl (by decide) rfl (fun ls hl => ?_)
                  have hzb : m_zb (m_cA τ x t).2 pl = ((((m_cA τ x t).2 : Nat) : Int) - (pl).toInt) := by unfold m_zb; rw [if_neg (by omega)]
                  refine lp_scB l D cy L ⟨hx, hb, hr, hlk, hml, hown, hts, hK, hN⟩ u nn ((nI ((m_cA τ x t).2)) - (pl)) (m_zb (m_cA τ x t).2 pl) (by rw [hzb]; exact z_9) ⟨by omega, by omega⟩ ⟨by omega, by omega⟩ 1000 (m_reckon τ x) 0 0 0 H locs ls ⟨by omega, by omega, by omega⟩ hG hS (lv_sub hl [0, 1, 2, 3, 6, 7, 10] rfl) (fun H locs ls hG hS hl => ?_)
                  have hle2 := m_scB_le u nn (m_zb (m_cA τ x t).2 pl) 1000 0 0 0 (m_reckon τ x) (by omega) (by omega)
                  have hle2 : (m_cB τ u x t nn pl).2 ≤ 20 := hle2
                  refine lv_aload_n hx hb dX7_scan_281 rfl (lv_at hl 1 rfl) ?_
                  refine g_get (C := RX7) (T := TX7) (N := 28) (v := .ref (L (1, 24, 0))) hx hb hts inX7g hown hK hG (0, 0, 0) ⟨rfl, rfl⟩ (m_at_0 cy L 0 0 ((m_cB τ u x t nn pl).1 (0, 0, 0))) rfl 24 (by decide) fl_X7_71 rfl dX7_scan_282 ?_
                  refine lv_iload_n hx hb dX7_scan_285 rfl (lv_at hl 2 rfl) ?_
                  refine lv_iload hx hb dX7_scan_286 (lv_at hl 0 rfl) ?_
                  refine g_iast (n := 8) hx hb hK hG hS (1, 24, 0) ⟨by decide, rfl⟩ 0 (fun _ => rfl) rfl (g_vp (by omega) (by omega)) dX7_scan_288 (fun H locs hG hS => ?_)
                  rw [show (u : Int32).toNatClampNeg = ((u).toInt).toNat from congrArg Int.toNat (show (u : Int32).toInt = (u).toInt from rfl)] at hG
                  refine lv_iload hx hb dX7_scan_289 (lv_at hl 0 rfl) ?_
                  exact s_iret hx hb hr hlk hG hS dX7_scan_291 (by unfold m_scanR; (repeat' split) <;> first | rfl | (exfalso; omega)) (by unfold m_scanM m_cM; (repeat' split) <;> first | rfl | (exfalso; omega))
                · refine lv_iconst (v := 0) hx hb dX7_scan_181 (by decide) ?_
                  refine lv_goto (tgt := 190) hx hb dX7_scan_182 (by decide) ?_
                  refine lv_istore (lv' := [(8, .int 0), (7, .int (nI ((m_cA τ x t).2))), (6, .int (nI ((m_cA τ x t).1))), (0, .ref (L (0, 0, 0))), (1, .int (u)), (2, .int (x)), (3, .int (t)), (4, .int (nn)), (5, .int (pl))]) hx hb dX7_scan_190 hl (by decide) rfl (fun ls hl => ?_)
                  refine lv_iconst (v := 0) hx hb dX7_scan_192 (by decide) ?_
                  refine lv_istore (lv' := [(9, .int 0), (8, .int 0), (7, .int (nI ((m_cA τ x t).2))), (6, .int (nI ((m_cA τ x t).1))), (0, .ref (L (0, 0, 0))), (1, .int (u)), (2, .int (x)), (3, .int (t)), (4, .int (nn)), (5, .int (pl))]) hx hb dX7_scan_193 hl (by decide) rfl (fun ls hl => ?_)
                  refine lv_iconst (v := 0) hx hb dX7_scan_195 (by decide) ?_
                  refine lv_istore (lv' := [(10, .int 0), (9, .int 0), (8, .int 0), (7, .int (nI ((m_cA τ x t).2))), (6, .int (nI ((m_cA τ x t).1))), (0, .ref (L (0, 0, 0))), (1, .int (u)), (2, .int (x)), (3, .int (t)), (4, .int (nn)), (5, .int (pl))]) hx hb dX7_scan_196 hl (by decide) rfl (fun ls hl => ?_)
                  refine lv_iconst (v := 0) hx hb dX7_scan_198 (by decide) ?_
                  refine lv_istore (lv' := [(11, .int 0), (10, .int 0), (9, .int 0), (8, .int 0), (7, .int (nI ((m_cA τ x t).2))), (6, .int (nI ((m_cA τ x t).1))), (0, .ref (L (0, 0, 0))), (1, .int (u)), (2, .int (x)), (3, .int (t)), (4, .int (nn)), (5, .int (pl))]) hx hb dX7_scan_199 hl (by decide) rfl (fun ls hl => ?_)
                  have hzb : m_zb (m_cA τ x t).2 pl = 0 := by unfold m_zb; rw [if_pos (by omega)]
                  refine lp_scB l D cy L ⟨hx, hb, hr, hlk, hml, hown, hts, hK, hN⟩ u nn (0) (m_zb (m_cA τ x t).2 pl) (by rw [hzb]; exact (by decide)) ⟨by omega, by omega⟩ ⟨by omega, by omega⟩ 1000 (m_reckon τ x) 0 0 0 H locs ls ⟨by omega, by omega, by omega⟩ hG hS (lv_sub hl [0, 1, 2, 3, 6, 7, 10] rfl) (fun H locs ls hG hS hl => ?_)
                  have hle2 := m_scB_le u nn (m_zb (m_cA τ x t).2 pl) 1000 0 0 0 (m_reckon τ x) (by omega) (by omega)
                  have hle2 : (m_cB τ u x t nn pl).2 ≤ 20 := hle2
                  refine lv_aload_n hx hb dX7_scan_281 rfl (lv_at hl 1 rfl) ?_
                  refine g_get (C := RX7) (T := TX7) (N := 28) (v := .ref (L (1, 24, 0))) hx hb hts inX7g hown hK hG (0, 0, 0) ⟨rfl, rfl⟩ (m_at_0 cy L 0 0 ((m_cB τ u x t nn pl).1 (0, 0, 0))) rfl 24 (by decide) fl_X7_71 rfl dX7_scan_282 ?_
                  refine lv_iload_n hx hb dX7_scan_285 rfl (lv_at hl 2 rfl) ?_
                  refine lv_iload hx hb dX7_scan_286 (lv_at hl 0 rfl) ?_
                  refine g_iast (n := 8) hx hb hK hG hS (1, 24, 0) ⟨by decide, rfl⟩ 0 (fun _ => rfl) rfl (g_vp (by omega) (by omega)) dX7_scan_288 (fun H locs hG hS => ?_)
                  rw [show (u : Int32).toNatClampNeg = ((u).toInt).toNat from congrArg Int.toNat (show (u : Int32).toInt = (u).toInt from rfl)] at hG
                  refine lv_iload hx hb dX7_scan_289 (lv_at hl 0 rfl) ?_
                  exact s_iret hx hb hr hlk hG hS dX7_scan_291 (by unfold m_scanR; (repeat' split) <;> first | rfl | (exfalso; omega)) (by unfold m_scanM m_cM; (repeat' split) <;> first | rfl | (exfalso; omega))
              · refine lv_aload_n hx hb dX7_scan_166 rfl (lv_at hl 2 rfl) ?_
                refine lv_iload_n hx hb dX7_scan_167 rfl (lv_at hl 3 rfl) ?_
                refine lv_bipush (v := 108) hx hb dX7_scan_168 (by decide) ?_
                refine g_cont (va_runV (As := [.int (u), .int 108]) (rest := []) ⟨hx, hb, hml, hown, hts⟩ (c_X7_tell l D cy L (m_reckon τ (x)) (u) (108) ⟨by omega, by omega⟩) (cwV 2 hts gV_X7_121 rfl rfl rfl (by decide +kernel) ⟨Nat.le_of_ble_eq_true rfl, Nat.le_of_ble_eq_true rfl⟩) (g_preV hK hN hG (x := (0, 0, 0)) ⟨rfl, rfl⟩ (q := (RX7, TX7, 28)) (m_at_0 cy L 0 0 ((m_reckon τ (x)) (0, 0, 0))) rfl) rfl rfl hl.1 rfl (lv_room (Nat.le_of_ble_eq_true rfl)) dX7_scan_170 ⟨Nat.zero_le _, Nat.zero_le _⟩) hS (fun H locs hG hS => ?_)
                refine W.eq (g2 := F0 m 173 ls [.int (-(108))]) rfl ?_
                exact s_iret hx hb hr hlk hG hS dX7_scan_173 (by unfold m_scanR; (repeat' split) <;> first | rfl | (exfalso; omega)) (by unfold m_scanM m_cM; (repeat' split) <;> first | rfl | (exfalso; omega))
            · refine lv_aload_n hx hb dX7_scan_79 rfl (lv_at hl 0 rfl) ?_
              refine lv_iload_n hx hb dX7_scan_80 rfl (lv_at hl 1 rfl) ?_
              refine lv_bipush (v := 107) hx hb dX7_scan_81 (by decide) ?_
              refine g_cont (va_runV (As := [.int (u), .int 107]) (rest := []) ⟨hx, hb, hml, hown, hts⟩ (c_X7_tell l D cy L τ (u) (107) ⟨by omega, by omega⟩) (cwV 2 hts gV_X7_121 rfl rfl rfl (by decide +kernel) ⟨Nat.le_of_ble_eq_true rfl, Nat.le_of_ble_eq_true rfl⟩) (g_preV hK hN hG (x := (0, 0, 0)) ⟨rfl, rfl⟩ (q := (RX7, TX7, 28)) (m_at_0 cy L 0 0 (τ (0, 0, 0))) rfl) rfl rfl hl.1 rfl (lv_room (Nat.le_of_ble_eq_true rfl)) dX7_scan_83 ⟨Nat.zero_le _, Nat.zero_le _⟩) hS (fun H locs hG hS => ?_)
              refine W.eq (g2 := F0 m 86 ls [.int (-(107))]) rfl ?_
              exact s_iret hx hb hr hlk hG hS dX7_scan_86 (by unfold m_scanR; (repeat' split) <;> first | rfl | (exfalso; omega)) (by unfold m_scanM m_cM; (repeat' split) <;> first | rfl | (exfalso; omega))
      · refine lv_aload_n hx hb dX7_scan_42 rfl (lv_at hl 0 rfl) ?_
        refine lv_iload_n hx hb dX7_scan_43 rfl (lv_at hl 1 rfl) ?_
        refine lv_bipush (v := 106) hx hb dX7_scan_44 (by decide) ?_
        refine g_cont (va_runV (As := [.int (u), .int 106]) (rest := []) ⟨hx, hb, hml, hown, hts⟩ (c_X7_tell l D cy L τ (u) (106) ⟨by omega, by omega⟩) (cwV 2 hts gV_X7_121 rfl rfl rfl (by decide +kernel) ⟨Nat.le_of_ble_eq_true rfl, Nat.le_of_ble_eq_true rfl⟩) (g_preV hK hN hG (x := (0, 0, 0)) ⟨rfl, rfl⟩ (q := (RX7, TX7, 28)) (m_at_0 cy L 0 0 (τ (0, 0, 0))) rfl) rfl rfl hl.1 rfl (lv_room (Nat.le_of_ble_eq_true rfl)) dX7_scan_46 ⟨Nat.zero_le _, Nat.zero_le _⟩) hS (fun H locs hG hS => ?_)
        refine W.eq (g2 := F0 m 49 ls [.int (-(106))]) rfl ?_
        exact s_iret hx hb hr hlk hG hS dX7_scan_49 (by unfold m_scanR; (repeat' split) <;> first | rfl | (exfalso; omega)) (by unfold m_scanM m_cM; (repeat' split) <;> first | rfl | (exfalso; omega))
    · refine lv_aload_n hx hb dX7_scan_27 rfl (lv_at hl 0 rfl) ?_
      refine lv_iload_n hx hb dX7_scan_28 rfl (lv_at hl 1 rfl) ?_
      refine lv_bipush (v := 102) hx hb dX7_scan_29 (by decide) ?_
      refine g_cont (va_runV (As := [.int (u), .int 102]) (rest := []) ⟨hx, hb, hml, hown, hts⟩ (c_X7_tell l D cy L τ (u) (102) ⟨by omega, by omega⟩) (cwV 2 hts gV_X7_121 rfl rfl rfl (by decide +kernel) ⟨Nat.le_of_ble_eq_true rfl, Nat.le_of_ble_eq_true rfl⟩) (g_preV hK hN hG (x := (0, 0, 0)) ⟨rfl, rfl⟩ (q := (RX7, TX7, 28)) (m_at_0 cy L 0 0 (τ (0, 0, 0))) rfl) rfl rfl hl.1 rfl (lv_room (Nat.le_of_ble_eq_true rfl)) dX7_scan_31 ⟨Nat.zero_le _, Nat.zero_le _⟩) hS (fun H locs hG hS => ?_)
      refine W.eq (g2 := F0 m 34 ls [.int (-(102))]) rfl ?_
      exact s_iret hx hb hr hlk hG hS dX7_scan_34 (by unfold m_scanR; (repeat' split) <;> first | rfl | (exfalso; omega)) (by unfold m_scanM m_cM; (repeat' split) <;> first | rfl | (exfalso; omega))
  · refine lv_bipush (v := (-101)) hx hb dX7_scan_13 (by decide) ?_
    exact s_iret hx hb hr hlk hG hS dX7_scan_15 (by unfold m_scanR; (repeat' split) <;> first | rfl | (exfalso; omega)) (by unfold m_scanM m_cM; (repeat' split) <;> first | rfl | (exfalso; omega))
set_option maxHeartbeats 4000000 in
set_option maxRecDepth 100000 in
theorem c_X7_scanned (l : Launch) (D : va_G) (cy : Nat → ClassId) (L : g_S → Nat) (σ : g_S → Nat → Int32) (u p w : Int32) (s0 : 0 ≤ (σ (0, 0, 0) 10).toInt) (s1 : (σ (0, 0, 0) 10).toInt ≤ 8) (hsc : ∀ a : Nat, a < 8 → 0 ≤ (σ (1, 24, 0) a).toInt ∧ (σ (1, 24, 0) a).toInt ≤ 20) : m_Met l D cy L yX7_scanned (.code yX7_scanned cX7_scanned 4 (some .int)) 1 σ [.ref (L (0, 0, 0)), .int (u), .int (p), .int (w)] (some (.int (m_scdR σ u p w))) (m_scdM σ u p) := by
  refine g_Met.of (by decide) (Nat.le_of_ble_eq_true rfl) ?_
  intro pg e s m below meth c hx hb hr hlk hml hown hts hK hN H locs hG hS ls hl
  have hown : s.vm.findClass RX7 = some m.cls := hown
  have hl : lv_has ls 4 [(0, .ref (L (0, 0, 0))), (1, .int (u)), (2, .int (p)), (3, .int (w))] := hl
  refine lv_aload_n hx hb dX7_scanned_0 rfl (lv_at hl 0 rfl) ?_
  refine lv_iload_n hx hb dX7_scanned_1 rfl (lv_at hl 1 rfl) ?_
  refine lv_iconst (v := 0) hx hb dX7_scanned_2 (by decide) ?_
  refine lv_aload_n hx hb dX7_scanned_3 rfl (lv_at hl 0 rfl) ?_
  refine g_get (C := RX7) (T := TX7) (N := 28) (v := .int (σ (0, 0, 0) 10)) hx hb hts inX7g hown hK hG (0, 0, 0) ⟨rfl, rfl⟩ (m_at_0 cy L 0 0 (σ (0, 0, 0))) rfl 10 (by decide) fl_X7_107 rfl dX7_scanned_4 ?_
  refine lv_iconst (v := 1) hx hb dX7_scanned_7 (by decide) ?_
  refine lv_isub hx hb dX7_scanned_8 ?_
  have z_1 : ((σ (0, 0, 0) 10) - (1)).toInt = ((σ (0, 0, 0) 10).toInt - 1) := g_subZ rfl (by decide) (by omega) (by omega)
  refine g_cont (va_runS (As := [.int (u), .int 0, .int ((σ (0, 0, 0) 10) - (1))]) (rest := [.ref (L (0, 0, 0))]) ⟨hx, hb, hml, hown, hts⟩ (c_X7_in l D cy L σ (u) (0) ((σ (0, 0, 0) 10) - (1)) (u).toInt 0 ((σ (0, 0, 0) 10).toInt - 1) rfl (by decide) z_1) (cwS 3 hts gS_X7_87 rfl rfl rfl (by decide +kernel) ⟨Nat.le_of_ble_eq_true rfl, Nat.le_of_ble_eq_true rfl⟩) (g_preS hK hN hG) rfl rfl hl.1 rfl (lv_room (Nat.le_of_ble_eq_true rfl)) dX7_scanned_9 ⟨Nat.zero_le _, Nat.zero_le _⟩) hS (fun H locs hG hS => ?_)
  refine W.eq (g2 := F0 m 12 ls [.int (g_b (0 ≤ (u).toInt ∧ (u).toInt ≤ ((σ (0, 0, 0) 10).toInt - 1))), .ref (L (0, 0, 0))]) rfl ?_
  refine kz_b_eq (tgt := 35) hx hb dX7_scanned_12 (by decide) (fun c_12_2 => ?_) (fun c_12_2 => ?_)
  · refine lv_iconst (v := 1) hx hb dX7_scanned_35 (by decide) ?_
    refine g_puti (C := RX7) (T := TX7) (N := 28) (v := 1) (ty := .int) hx hb hts inX7g tyX7_ok nmX7 hown hK hG hS (0, 0, 0) ⟨rfl, rfl⟩ (m_at_0 cy L 0 0 (σ (0, 0, 0))) rfl 0 (by decide) (m_up_0_0 cy L 0 0 (σ (0, 0, 0)) (1)) fl_X7_83 rfl (by decide +kernel) rfl rfl (Nat.le_of_ble_eq_true rfl) dX7_scanned_36 (fun H locs hG hS => ?_)
    refine lv_aload_n hx hb dX7_scanned_39 rfl (lv_at hl 0 rfl) ?_
    refine g_get (C := RX7) (T := TX7) (N := 28) (v := .int 1) hx hb hts inX7g hown hK hG (0, 0, 0) ⟨rfl, rfl⟩ (m_at_0 cy L 0 0 ((g_up σ (0, 0, 0) (0) (1)) (0, 0, 0))) rfl 0 (by decide) fl_X7_83 rfl dX7_scanned_40 ?_
    refine kz_if_le (X := 1) hx hb (by decide) dX7_scanned_43 (tgt := 48) (by decide) (fun c_43_3 => ?_) (fun c_43_3 => ?_)
    · exact absurd c_43_3 (by decide)
    · refine lv_iconst (v := 0) hx hb dX7_scanned_46 (by decide) ?_
      exact s_iret hx hb hr hlk hG hS dX7_scanned_47 (by unfold m_scdR; (repeat' split) <;> first | rfl | (exfalso; omega)) (by unfold m_scdM; (repeat' split) <;> first | rfl | (exfalso; omega))
  · have hs9 := hsc ((u).toInt).toNat (by omega)
    refine lv_iload_n hx hb dX7_scanned_15 rfl (lv_at hl 2 rfl) ?_
    refine lv_iconst (v := 0) hx hb dX7_scanned_16 (by decide) ?_
    refine lv_aload_n hx hb dX7_scanned_17 rfl (lv_at hl 0 rfl) ?_
    refine g_get (C := RX7) (T := TX7) (N := 28) (v := .ref (L (1, 24, 0))) hx hb hts inX7g hown hK hG (0, 0, 0) ⟨rfl, rfl⟩ (m_at_0 cy L 0 0 (σ (0, 0, 0))) rfl 24 (by decide) fl_X7_71 rfl dX7_scanned_18 ?_
    refine lv_iload_n hx hb dX7_scanned_21 rfl (lv_at hl 1 rfl) ?_
    refine g_iald (n := 8) hx hb hK hG (1, 24, 0) ⟨by decide, rfl⟩ 0 rfl rfl (g_vp (by omega) (by omega)) dX7_scanned_22 ?_
    rw [show (u : Int32).toNatClampNeg = ((u).toInt).toNat from congrArg Int.toNat (show (u : Int32).toInt = (u).toInt from rfl)]
    refine lv_iconst (v := 1) hx hb dX7_scanned_23 (by decide) ?_
    refine lv_isub hx hb dX7_scanned_24 ?_
    have z_4 : ((σ (1, 24, 0) (((u).toInt).toNat)) - (1)).toInt = ((σ (1, 24, 0) (((u).toInt).toNat)).toInt - 1) := g_subZ rfl (by decide) (by omega) (by omega)
    refine g_cont (va_runS (As := [.int (p), .int 0, .int ((σ (1, 24, 0) (((u).toInt).toNat)) - (1))]) (rest := [.ref (L (0, 0, 0))]) ⟨hx, hb, hml, hown, hts⟩ (c_X7_in l D cy L σ (p) (0) ((σ (1, 24, 0) (((u).toInt).toNat)) - (1)) (p).toInt 0 ((σ (1, 24, 0) (((u).toInt).toNat)).toInt - 1) rfl (by decide) z_4) (cwS 3 hts gS_X7_87 rfl rfl rfl (by decide +kernel) ⟨Nat.le_of_ble_eq_true rfl, Nat.le_of_ble_eq_true rfl⟩) (g_preS hK hN hG) rfl rfl hl.1 rfl (lv_room (Nat.le_of_ble_eq_true rfl)) dX7_scanned_25 ⟨Nat.zero_le _, Nat.zero_le _⟩) hS (fun H locs hG hS => ?_)
    refine W.eq (g2 := F0 m 28 ls [.int (g_b (0 ≤ (p).toInt ∧ (p).toInt ≤ ((σ (1, 24, 0) (((u).toInt).toNat)).toInt - 1))), .ref (L (0, 0, 0))]) rfl ?_
    refine kz_b_eq (tgt := 35) hx hb dX7_scanned_28 (by decide) (fun c_28_5 => ?_) (fun c_28_5 => ?_)
    · refine lv_iconst (v := 1) hx hb dX7_scanned_35 (by decide) ?_
      refine g_puti (C := RX7) (T := TX7) (N := 28) (v := 1) (ty := .int) hx hb hts inX7g tyX7_ok nmX7 hown hK hG hS (0, 0, 0) ⟨rfl, rfl⟩ (m_at_0 cy L 0 0 (σ (0, 0, 0))) rfl 0 (by decide) (m_up_0_0 cy L 0 0 (σ (0, 0, 0)) (1)) fl_X7_83 rfl (by decide +kernel) rfl rfl (Nat.le_of_ble_eq_true rfl) dX7_scanned_36 (fun H locs hG hS => ?_)
      refine lv_aload_n hx hb dX7_scanned_39 rfl (lv_at hl 0 rfl) ?_
      refine g_get (C := RX7) (T := TX7) (N := 28) (v := .int 1) hx hb hts inX7g hown hK hG (0, 0, 0) ⟨rfl, rfl⟩ (m_at_0 cy L 0 0 ((g_up σ (0, 0, 0) (0) (1)) (0, 0, 0))) rfl 0 (by decide) fl_X7_83 rfl dX7_scanned_40 ?_
      refine kz_if_le (X := 1) hx hb (by decide) dX7_scanned_43 (tgt := 48) (by decide) (fun c_43_6 => ?_) (fun c_43_6 => ?_)
      · exact absurd c_43_6 (by decide)
      · refine lv_iconst (v := 0) hx hb dX7_scanned_46 (by decide) ?_
        exact s_iret hx hb hr hlk hG hS dX7_scanned_47 (by unfold m_scdR; (repeat' split) <;> first | rfl | (exfalso; omega)) (by unfold m_scdM; (repeat' split) <;> first | rfl | (exfalso; omega))
    · refine lv_iconst (v := 0) hx hb dX7_scanned_31 (by decide) ?_
      refine lv_goto (tgt := 36) hx hb dX7_scanned_32 (by decide) ?_
      refine g_puti (C := RX7) (T := TX7) (N := 28) (v := 0) (ty := .int) hx hb hts inX7g tyX7_ok nmX7 hown hK hG hS (0, 0, 0) ⟨rfl, rfl⟩ (m_at_0 cy L 0 0 (σ (0, 0, 0))) rfl 0 (by decide) (m_up_0_0 cy L 0 0 (σ (0, 0, 0)) (0)) fl_X7_83 rfl (by decide +kernel) rfl rfl (Nat.le_of_ble_eq_true rfl) dX7_scanned_36 (fun H locs hG hS => ?_)
      refine lv_aload_n hx hb dX7_scanned_39 rfl (lv_at hl 0 rfl) ?_
      refine g_get (C := RX7) (T := TX7) (N := 28) (v := .int 0) hx hb hts inX7g hown hK hG (0, 0, 0) ⟨rfl, rfl⟩ (m_at_0 cy L 0 0 ((g_up σ (0, 0, 0) (0) (0)) (0, 0, 0))) rfl 0 (by decide) fl_X7_83 rfl dX7_scanned_40 ?_
      refine kz_if_le (X := 0) hx hb (by decide) dX7_scanned_43 (tgt := 48) (by decide) (fun c_43_7 => ?_) (fun c_43_7 => ?_)
      · refine lv_iload_n hx hb dX7_scanned_48 rfl (lv_at hl 3 rfl) ?_
        refine kz_if_ne (X := (w).toInt) hx hb rfl dX7_scanned_49 (tgt := 66) (by decide) (fun c_49_8 => ?_) (fun c_49_8 => ?_)
        · refine lv_iload_n hx hb dX7_scanned_66 rfl (lv_at hl 3 rfl) ?_
          refine lv_iconst (v := 1) hx hb dX7_scanned_67 (by decide) ?_
          refine kz_icmp_ne (X := (w).toInt) (Y := 1) hx hb rfl (by decide) dX7_scanned_68 (tgt := 85) (by decide) (fun c_68_9 => ?_) (fun c_68_9 => ?_)
          · refine lv_iconst (v := (-1)) hx hb dX7_scanned_85 (by decide) ?_
            exact s_iret hx hb hr hlk hG hS dX7_scanned_86 (by unfold m_scdR; (repeat' split) <;> first | rfl | (exfalso; omega)) (by unfold m_scdM; (repeat' split) <;> first | rfl | (exfalso; omega))
          · refine lv_aload_n hx hb dX7_scanned_71 rfl (lv_at hl 0 rfl) ?_
            refine g_get (C := RX7) (T := TX7) (N := 28) (v := .ref (L (1, 26, 0))) hx hb hts inX7g hown hK hG (0, 0, 0) ⟨rfl, rfl⟩ (m_at_0 cy L 0 0 ((g_up σ (0, 0, 0) (0) (0)) (0, 0, 0))) rfl 26 (by decide) fl_X7_77 rfl dX7_scanned_72 ?_
            refine lv_bipush (v := 20) hx hb dX7_scanned_75 (by decide) ?_
            refine lv_iload_n hx hb dX7_scanned_77 rfl (lv_at hl 1 rfl) ?_
            refine lv_imul hx hb dX7_scanned_78 ?_
            have z_10 : ((20) * (u)).toInt = (20 * (u).toInt) := g_mulZ (by decide) rfl (by omega) (by omega)
            refine lv_iload_n hx hb dX7_scanned_79 rfl (lv_at hl 2 rfl) ?_
            refine lv_iadd hx hb dX7_scanned_80 ?_
            have z_11 : (((20) * (u)) + (p)).toInt = ((20 * (u).toInt) + (p).toInt) := g_addZ z_10 rfl (by omega) (by omega)
            refine g_iald (n := 160) hx hb hK hG (1, 26, 0) ⟨by decide, rfl⟩ 0 rfl rfl (g_vp (by have := (show (((20) * (u)) + (p) : Int32).toInt = ((20 * (u).toInt) + (p).toInt) from z_11); omega) (by have := (show (((20) * (u)) + (p) : Int32).toInt = ((20 * (u).toInt) + (p).toInt) from z_11); omega)) dX7_scanned_81 ?_
            rw [show (((20) * (u)) + (p) : Int32).toNatClampNeg = (((20 * (u).toInt) + (p).toInt)).toNat from congrArg Int.toNat (show (((20) * (u)) + (p) : Int32).toInt = ((20 * (u).toInt) + (p).toInt) from z_11)]
            refine W.eq (g2 := F0 m 82 ls [.int (σ (1, 26, 0) ((((20 * (u).toInt) + (p).toInt)).toNat))]) rfl ?_
            refine lv_goto (tgt := 86) hx hb dX7_scanned_82 (by decide) ?_
            exact s_iret hx hb hr hlk hG hS dX7_scanned_86 (by unfold m_scdR; (repeat' split) <;> first | rfl | (exfalso; omega)) (by unfold m_scdM; (repeat' split) <;> first | rfl | (exfalso; omega))
        · refine lv_aload_n hx hb dX7_scanned_52 rfl (lv_at hl 0 rfl) ?_
          refine g_get (C := RX7) (T := TX7) (N := 28) (v := .ref (L (1, 25, 0))) hx hb hts inX7g hown hK hG (0, 0, 0) ⟨rfl, rfl⟩ (m_at_0 cy L 0 0 ((g_up σ (0, 0, 0) (0) (0)) (0, 0, 0))) rfl 25 (by decide) fl_X7_74 rfl dX7_scanned_53 ?_
          refine lv_bipush (v := 20) hx hb dX7_scanned_56 (by decide) ?_
          refine lv_iload_n hx hb dX7_scanned_58 rfl (lv_at hl 1 rfl) ?_
          refine lv_imul hx hb dX7_scanned_59 ?_
          have z_12 : ((20) * (u)).toInt = (20 * (u).toInt) := g_mulZ (by decide) rfl (by omega) (by omega)
          refine lv_iload_n hx hb dX7_scanned_60 rfl (lv_at hl 2 rfl) ?_
          refine lv_iadd hx hb dX7_scanned_61 ?_
          have z_13 : (((20) * (u)) + (p)).toInt = ((20 * (u).toInt) + (p).toInt) := g_addZ z_12 rfl (by omega) (by omega)
          refine g_iald (n := 160) hx hb hK hG (1, 25, 0) ⟨by decide, rfl⟩ 0 rfl rfl (g_vp (by have := (show (((20) * (u)) + (p) : Int32).toInt = ((20 * (u).toInt) + (p).toInt) from z_13); omega) (by have := (show (((20) * (u)) + (p) : Int32).toInt = ((20 * (u).toInt) + (p).toInt) from z_13); omega)) dX7_scanned_62 ?_
          rw [show (((20) * (u)) + (p) : Int32).toNatClampNeg = (((20 * (u).toInt) + (p).toInt)).toNat from congrArg Int.toNat (show (((20) * (u)) + (p) : Int32).toInt = ((20 * (u).toInt) + (p).toInt) from z_13)]
          refine W.eq (g2 := F0 m 63 ls [.int (σ (1, 25, 0) ((((20 * (u).toInt) + (p).toInt)).toNat))]) rfl ?_
          refine lv_goto (tgt := 86) hx hb dX7_scanned_63 (by decide) ?_
          exact s_iret hx hb hr hlk hG hS dX7_scanned_86 (by unfold m_scdR; (repeat' split) <;> first | rfl | (exfalso; omega)) (by unfold m_scdM; (repeat' split) <;> first | rfl | (exfalso; omega))
      · exact absurd c_43_7 (by decide)
