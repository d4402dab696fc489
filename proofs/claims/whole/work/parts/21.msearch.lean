/-! the reference: searching -/
def m_kOK (σ : g_S → Nat → Int32) (k : Nat) : Prop := (0 ≤ (σ (1, 5, 0) k).toInt ∧ (σ (1, 5, 0) k).toInt ≤ 1 ∧ 0 ≤ (σ (1, 6, 0) k).toInt ∧ (σ (1, 6, 0) k).toInt ≤ 4) ∨ (2 ≤ (σ (1, 5, 0) k).toInt ∧ (σ (1, 5, 0) k).toInt ≤ 4 ∧ 0 ≤ (σ (1, 6, 0) k).toInt ∧ (σ (1, 6, 0) k).toInt < 40 ∧ 0 ≤ (σ (1, 7, 0) k).toInt ∧ (σ (1, 7, 0) k).toInt < 40)
def m_holdI (σ : g_S → Nat → Int32) (r : Int32) (k : Nat) : Int32 := if (σ (1, 5, 0) k).toInt = 0 then (if (σ (1, 3, 0) (((5 * (r).toInt) + (σ (1, 6, 0) k).toInt)).toNat).toInt = (σ (1, 7, 0) k).toInt then 1 else 0) else if (σ (1, 5, 0) k).toInt = 1 then g_b ((σ (1, 7, 0) k).toInt ≤ (σ (1, 3, 0) (((5 * (r).toInt) + (σ (1, 6, 0) k).toInt)).toNat).toInt ∧ (σ (1, 3, 0) (((5 * (r).toInt) + (σ (1, 6, 0) k).toInt)).toNat).toInt ≤ (σ (1, 8, 0) k).toInt) else if (σ (1, 5, 0) k).toInt = 2 then (if ¬ (σ (2, 9, 0) ((σ (1, 6, 0) k).toInt).toNat).toInt = 0 ∧ ¬ (σ (2, 9, 0) ((σ (1, 7, 0) k).toInt).toNat).toInt = 0 then 1 else 0) else if (σ (1, 5, 0) k).toInt = 3 then (if ¬ (σ (2, 9, 0) ((σ (1, 6, 0) k).toInt).toNat).toInt = 0 ∨ ¬ (σ (2, 9, 0) ((σ (1, 7, 0) k).toInt).toNat).toInt = 0 then 1 else 0) else (if ¬ (σ (2, 9, 0) ((σ (1, 6, 0) k).toInt).toNat).toInt = 0 ∧ (σ (2, 9, 0) ((σ (1, 7, 0) k).toInt).toNat).toInt = 0 then 1 else 0)
theorem m_holdI_01 (σ : g_S → Nat → Int32) (r : Int32) (k : Nat) : m_holdI σ r k = 0 ∨ m_holdI σ r k = 1 := by
  unfold m_holdI g_b
  (repeat' split) <;> simp
def m_meetsGo (r : Int32) : Nat → Nat → (g_S → Nat → Int32) → (g_S → Nat → Int32)
  | 0, _, σ => σ
  | n + 1, k, σ => m_meetsGo r n (k + 1) (g_up σ (2, 9, 0) k (m_holdI σ r k))
theorem m_meetsGo_s (r : Int32) (n k : Nat) (σ : g_S → Nat → Int32) : m_meetsGo r (n + 1) k σ = m_meetsGo r n (k + 1) (g_up σ (2, 9, 0) k (m_holdI σ r k)) := rfl
theorem m_meetsGo_row (r : Int32) {y : g_S} (hy : y ≠ (2, 9, 0)) : ∀ (n k : Nat) (σ : g_S → Nat → Int32), m_meetsGo r n k σ y = σ y := by
  intro n
  induction n with
  | zero => intro k σ; rfl
  | succ n ih => intro k σ; rw [m_meetsGo_s, ih, g_up_row hy]
theorem m_meetsGo_lo (r : Int32) : ∀ (n k : Nat) (σ : g_S → Nat → Int32) (j : Nat), j < k → m_meetsGo r n k σ (2, 9, 0) j = σ (2, 9, 0) j := by
  intro n
  induction n with
  | zero => intro k σ j _; rfl
  | succ n ih =>
    intro k σ j hj
    rw [m_meetsGo_s, ih _ _ _ (by omega), g_up_at]
    simp [show j ≠ k by omega]
theorem m_meetsGo_01 (r : Int32) : ∀ (n k : Nat) (σ : g_S → Nat → Int32) (j : Nat), k ≤ j → j < k + n → m_meetsGo r n k σ (2, 9, 0) j = 0 ∨ m_meetsGo r n k σ (2, 9, 0) j = 1 := by
  intro n
  induction n with
  | zero => intro k σ j h1 h2; omega
  | succ n ih =>
    intro k σ j h1 h2
    rw [m_meetsGo_s]
    by_cases e : j = k
    · subst e
      rw [m_meetsGo_lo _ _ _ _ _ (by omega), g_up_same]
      exact m_holdI_01 σ r j
    · exact ih _ _ _ (by omega) (by omega)
def m_meets (σ : g_S → Nat → Int32) (r q : Int32) : g_S → Nat → Int32 := m_meetsGo r (q.toInt.toNat + 1) 0 σ
theorem m_meets_row {σ : g_S → Nat → Int32} {r q : Int32} {y : g_S} (hy : y ≠ (2, 9, 0)) : m_meets σ r q y = σ y := m_meetsGo_row r hy _ _ _
theorem m_meets_01 (σ : g_S → Nat → Int32) (r q : Int32) : m_meets σ r q (2, 9, 0) ((q).toInt).toNat = 0 ∨ m_meets σ r q (2, 9, 0) ((q).toInt).toNat = 1 := m_meetsGo_01 r _ _ _ _ (by omega) (by omega)
theorem m_kOK_meets {σ : g_S → Nat → Int32} {r q : Int32} {k : Nat} (h : m_kOK σ k) : m_kOK (m_meets σ r q) k := by
  unfold m_kOK at *
  rw [m_meets_row (by decide), m_meets_row (by decide), m_meets_row (by decide)]
  exact h
def m_srchGo (u v q : Int32) : Nat → Nat → Nat → (g_S → Nat → Int32) → (g_S → Nat → Int32) × Nat
  | 0, _, cn, σ => (σ, cn)
  | n + 1, r, cn, σ => if (m_meets σ (nI r) q (2, 9, 0) ((q).toInt).toNat).toInt = 0 then m_srchGo u v q n (r + 1) cn (m_meets σ (nI r) q) else m_srchGo u v q n (r + 1) (cn + 1) (g_up (m_meets σ (nI r) q) (1, 17, 0) ((100 * ((5 * (u).toInt) + (v).toInt)) + ((cn : Nat) : Int)).toNat (nI r))
theorem m_srchGo_s (u v q : Int32) (n r cn : Nat) (σ : g_S → Nat → Int32) : m_srchGo u v q (n + 1) r cn σ = if (m_meets σ (nI r) q (2, 9, 0) ((q).toInt).toNat).toInt = 0 then m_srchGo u v q n (r + 1) cn (m_meets σ (nI r) q) else m_srchGo u v q n (r + 1) (cn + 1) (g_up (m_meets σ (nI r) q) (1, 17, 0) ((100 * ((5 * (u).toInt) + (v).toInt)) + ((cn : Nat) : Int)).toNat (nI r)) := rfl
theorem m_srchGo_le (u v q : Int32) : ∀ (n r cn : Nat) (σ : g_S → Nat → Int32), (m_srchGo u v q n r cn σ).2 ≤ cn + n := by
  intro n
  induction n with
  | zero => intro r cn σ; exact Nat.le_refl _
  | succ n ih =>
    intro r cn σ
    rw [m_srchGo_s]
    split
    · have := ih (r + 1) cn (m_meets σ (nI r) q); omega
    · have := ih (r + 1) (cn + 1) (g_up (m_meets σ (nI r) q) (1, 17, 0) ((100 * ((5 * (u).toInt) + (v).toInt)) + ((cn : Nat) : Int)).toNat (nI r)); omega
theorem m_srchGo_row (u v q : Int32) {y : g_S} (h1 : y ≠ (2, 9, 0)) (h2 : y ≠ (1, 17, 0)) : ∀ (n r cn : Nat) (σ : g_S → Nat → Int32), (m_srchGo u v q n r cn σ).1 y = σ y := by
  intro n
  induction n with
  | zero => intro r cn σ; rfl
  | succ n ih =>
    intro r cn σ
    rw [m_srchGo_s]
    split
    · rw [ih, m_meets_row h1]
    · rw [ih, g_up_row h2, m_meets_row h1]
def m_srch (σ : g_S → Nat → Int32) (u v q : Int32) : (g_S → Nat → Int32) × Nat := m_srchGo u v q (σ (0, 0, 0) 1).toInt.toNat 0 0 σ
def m_srchM (σ : g_S → Nat → Int32) (u v q : Int32) : g_S → Nat → Int32 := g_up (m_srch σ u v q).1 (1, 16, 0) ((5 * (u).toInt) + (v).toInt).toNat (nI (m_srch σ u v q).2)
def m_searchR (σ : g_S → Nat → Int32) (u q v : Int32) : Int32 := if (0 ≤ (u).toInt ∧ (u).toInt ≤ ((σ (0, 0, 0) 10).toInt - 1)) ∧ (σ (2, 13, 0) ((u).toInt).toNat).toInt = 0 then (if 0 ≤ (q).toInt ∧ (q).toInt ≤ ((σ (0, 0, 0) 4).toInt - 1) then (if 0 ≤ (v).toInt ∧ (v).toInt ≤ (if (σ (1, 11, 0) ((u).toInt).toNat &&& 4).toInt = 4 then (4 : Int) else 0) then (if (((m_srch σ u v q).2 : Nat) : Int) = 0 then -108 else nI (m_srch σ u v q).2) else -104) else -103) else -101
def m_searchM (σ : g_S → Nat → Int32) (u q v : Int32) : g_S → Nat → Int32 := if (0 ≤ (u).toInt ∧ (u).toInt ≤ ((σ (0, 0, 0) 10).toInt - 1)) ∧ (σ (2, 13, 0) ((u).toInt).toNat).toInt = 0 then (if 0 ≤ (q).toInt ∧ (q).toInt ≤ ((σ (0, 0, 0) 4).toInt - 1) then (if 0 ≤ (v).toInt ∧ (v).toInt ≤ (if (σ (1, 11, 0) ((u).toInt).toNat &&& 4).toInt = 4 then (4 : Int) else 0) then (if (((m_srch σ u v q).2 : Nat) : Int) = 0 then m_tellM (m_srchM σ u v q) u 108 else m_srchM σ u v q) else m_tellM σ u 104) else m_tellM σ u 103) else σ
set_option maxHeartbeats 4000000 in
set_option maxRecDepth 100000 in
theorem lp_meets (l : Launch) (D : va_G) (cy : Nat → ClassId) (L : g_S → Nat) {pg : Program} {e : Env} {s : State} {m : MethodId} {args : Array Value} {below : List Frame} {meth : Method} {c : Code} {Q : State → Prop} (C0 : g_C pg s m meth c args cX7_meets (some .boolean) 5 RX7 D (x_tys cy)) (r q : Int32) (hr9 : 0 ≤ r.toInt ∧ r.toInt < 100) (hq : 0 ≤ q.toInt ∧ q.toInt < 40) :
    ∀ (n : Nat) (σ : g_S → Nat → Int32) (k : Nat) (H : Heap) (locs : List Loc) (ls : Array Slot), k + n = q.toInt.toNat + 1 → (∀ k, k ≤ q.toInt.toNat → m_kOK σ k) → g_H D vwCl m_dom L (fun z => m_K cy L z (σ z)) H → va_S (g_A m_dom L) s.heap H locs → lv_has ls 5 [(3, .int (nI k)), (0, .ref (L (0, 0, 0))), (1, .int (r)), (2, .int (q))] →
    (∀ (H : Heap) (locs : List Loc) (ls : Array Slot), g_H D vwCl m_dom L (fun z => m_K cy L z ((m_meetsGo r n k σ) z)) H → va_S (g_A m_dom L) s.heap H locs → lv_has ls 5 [(0, .ref (L (0, 0, 0))), (2, .int (q))] → W pg l e (g_R 1) s m args below meth c H locs 0 0 Q (F0 m 256 ls [])) →
    W pg l e (g_R 1) s m args below meth c H locs 0 0 Q (F0 m 2 ls []) := by
  obtain ⟨hx, hb, hr, hlk, hml, hown, hts, hK, hN⟩ := C0
  intro n
  induction n with
  | zero =>
    intro σ k H locs ls hv9 hy hG hS hl kk9
    have hz9 := g_nIT (show k < 2147483648 by omega)
    refine lv_iload_n hx hb dX7_meets_2 rfl (lv_at hl 0 rfl) ?_
    refine lv_iload_n hx hb dX7_meets_3 rfl (lv_at hl 3 rfl) ?_
    refine kz_icmp_gt (X := ((k : Nat) : Int)) (Y := (q).toInt) hx hb (g_nIT (by omega)) rfl dX7_meets_4 (tgt := 256) (by decide) (fun c_4_1 => ?_) (fun c_4_1 => ?_)
    · exact kk9 H locs ls hG hS (lv_sub hl [1, 3] rfl)
    · exact absurd c_4_1 (by omega)
  | succ n ih =>
    intro σ k H locs ls hv9 hy hG hS hl kk9
    have hz9 := g_nIT (show k < 2147483648 by omega)
    have hk9 := hy k (by omega)
    unfold m_kOK at hk9
    refine lv_iload_n hx hb dX7_meets_2 rfl (lv_at hl 0 rfl) ?_
    refine lv_iload_n hx hb dX7_meets_3 rfl (lv_at hl 3 rfl) ?_
    refine kz_icmp_gt (X := ((k : Nat) : Int)) (Y := (q).toInt) hx hb (g_nIT (by omega)) rfl dX7_meets_4 (tgt := 256) (by decide) (fun c_4_1 => ?_) (fun c_4_1 => ?_)
    · exact absurd c_4_1 (by omega)
    · refine lv_aload_n hx hb dX7_meets_7 rfl (lv_at hl 1 rfl) ?_
      refine g_get (C := RX7) (T := TX7) (N := 28) (v := .ref (L (1, 5, 0))) hx hb hts inX7g hown hK hG (0, 0, 0) ⟨rfl, rfl⟩ (m_at_0 cy L 0 0 (σ (0, 0, 0))) rfl 5 (by decide) fl_X7_16 rfl dX7_meets_8 ?_
      refine lv_iload_n hx hb dX7_meets_11 rfl (lv_at hl 0 rfl) ?_
      refine g_iald (n := 40) hx hb hK hG (1, 5, 0) ⟨by decide, rfl⟩ 0 rfl rfl (vp_in_nI (show k < 40 by omega) (by omega)) dX7_meets_12 ?_
      rw [g_nIc (show k < 2147483648 by omega)]
      refine lv_iconst (v := 2) hx hb dX7_meets_13 (by decide) ?_
      refine kz_icmp_ge (X := (σ (1, 5, 0) k).toInt) (Y := 2) hx hb rfl (by decide) dX7_meets_14 (tgt := 35) (by decide) (fun c_14_2 => ?_) (fun c_14_2 => ?_)
      · refine lv_iconst (v := (-1)) hx hb dX7_meets_35 (by decide) ?_
        refine lv_istore (lv' := [(4, .int (-1)), (3, .int (nI k)), (0, .ref (L (0, 0, 0))), (1, .int (r)), (2, .int (q))]) hx hb dX7_meets_36 hl (by decide) rfl (fun ls hl => ?_)
        refine lv_aload_n hx hb dX7_meets_38 rfl (lv_at hl 2 rfl) ?_
        refine g_get (C := RX7) (T := TX7) (N := 28) (v := .ref (L (1, 5, 0))) hx hb hts inX7g hown hK hG (0, 0, 0) ⟨rfl, rfl⟩ (m_at_0 cy L 0 0 (σ (0, 0, 0))) rfl 5 (by decide) fl_X7_16 rfl dX7_meets_39 ?_
        refine lv_iload_n hx hb dX7_meets_42 rfl (lv_at hl 1 rfl) ?_
        refine g_iald (n := 40) hx hb hK hG (1, 5, 0) ⟨by decide, rfl⟩ 0 rfl rfl (vp_in_nI (show k < 40 by omega) (by omega)) dX7_meets_43 ?_
        rw [g_nIc (show k < 2147483648 by omega)]
        rcases (show (σ (1, 5, 0) k).toInt = 0 ∨ (σ (1, 5, 0) k).toInt = 1 ∨ (σ (1, 5, 0) k).toInt = 2 ∨ (σ (1, 5, 0) k).toInt = 3 ∨ ((σ (1, 5, 0) k).toInt < 0 ∨ 3 < (σ (1, 5, 0) k).toInt) by omega) with c_44_3 | c_44_3 | c_44_3 | c_44_3 | c_44_3
        · refine lv_tableIn (off := 32) (tgt := 76) hx hb dX7_meets_44 (by have := (show (σ (1, 5, 0) k : Int32).toInt = (σ (1, 5, 0) k).toInt from rfl); omega) (by have := (show (σ (1, 5, 0) k : Int32).toInt = (σ (1, 5, 0) k).toInt from rfl); omega) (by rw [((show (σ (1, 5, 0) k : Int32).toInt = (σ (1, 5, 0) k).toInt from rfl)).trans c_44_3]; rfl) (by decide) ?_
          refine lv_aload_n hx hb dX7_meets_76 rfl (lv_at hl 2 rfl) ?_
          refine g_get (C := RX7) (T := TX7) (N := 28) (v := .ref (L (2, 9, 0))) hx hb hts inX7g hown hK hG (0, 0, 0) ⟨rfl, rfl⟩ (m_at_0 cy L 0 0 (σ (0, 0, 0))) rfl 9 (by decide) fl_X7_28 rfl dX7_meets_77 ?_
          refine lv_iload_n hx hb dX7_meets_80 rfl (lv_at hl 1 rfl) ?_
          refine lv_iload hx hb dX7_meets_81 (lv_at hl 0 rfl) ?_
          refine lv_aload_n hx hb dX7_meets_83 rfl (lv_at hl 2 rfl) ?_
          refine g_get (C := RX7) (T := TX7) (N := 28) (v := .ref (L (1, 7, 0))) hx hb hts inX7g hown hK hG (0, 0, 0) ⟨rfl, rfl⟩ (m_at_0 cy L 0 0 (σ (0, 0, 0))) rfl 7 (by decide) fl_X7_22 rfl dX7_meets_84 ?_
          refine lv_iload_n hx hb dX7_meets_87 rfl (lv_at hl 1 rfl) ?_
          refine g_iald (n := 40) hx hb hK hG (1, 7, 0) ⟨by decide, rfl⟩ 0 rfl rfl (vp_in_nI (show k < 40 by omega) (by omega)) dX7_meets_88 ?_
          rw [g_nIc (show k < 2147483648 by omega)]
          refine kz_icmp_ne (X := (-1)) (Y := (σ (1, 7, 0) k).toInt) hx hb (by decide) rfl dX7_meets_89 (tgt := 96) (by decide) (fun c_89_4 => ?_) (fun c_89_4 => ?_)
          · refine lv_iconst (v := 0) hx hb dX7_meets_96 (by decide) ?_
            refine g_zast (n := 40) hx hb hK hG hS (2, 9, 0) ⟨by decide, rfl⟩ 4 (fun _ => rfl) rfl (vp_in_nI (show k < 40 by omega) (by omega)) rfl dX7_meets_97 (fun H locs hG hS => ?_)
            rw [g_nIc (show k < 2147483648 by omega)] at hG
            refine lv_goto (tgt := 250) hx hb dX7_meets_98 (by decide) ?_
            refine lv_iinc (v := nI (k + 1)) (lv' := [(3, .int (nI (k + 1))), (4, .int (-1)), (0, .ref (L (0, 0, 0))), (1, .int (r)), (2, .int (q))]) hx hb dX7_meets_250 hl (k := 1) rfl (nI_1 (k)) (by decide) rfl (fun ls hl => ?_)
            refine lv_goto (tgt := 2) hx hb dX7_meets_253 (by decide) ?_
            have e90 : m_meetsGo r (n + 1) k σ = m_meetsGo r n (k + 1) (g_up σ (2, 9, 0) (k) (0)) := (by rw [m_meetsGo_s]; unfold m_holdI; (repeat' split) <;> first | rfl | (exfalso; omega))
            rw [e90] at kk9
            exact ih (g_up σ (2, 9, 0) (k) (0)) (k + 1) H locs ls (by omega) (by exact hy) hG hS (lv_sub hl [0, 2, 3, 4] rfl) kk9
          · refine lv_iconst (v := 1) hx hb dX7_meets_92 (by decide) ?_
            refine lv_goto (tgt := 97) hx hb dX7_meets_93 (by decide) ?_
            refine g_zast (n := 40) hx hb hK hG hS (2, 9, 0) ⟨by decide, rfl⟩ 4 (fun _ => rfl) rfl (vp_in_nI (show k < 40 by omega) (by omega)) rfl dX7_meets_97 (fun H locs hG hS => ?_)
            rw [g_nIc (show k < 2147483648 by omega)] at hG
            refine lv_goto (tgt := 250) hx hb dX7_meets_98 (by decide) ?_
            refine lv_iinc (v := nI (k + 1)) (lv' := [(3, .int (nI (k + 1))), (4, .int (-1)), (0, .ref (L (0, 0, 0))), (1, .int (r)), (2, .int (q))]) hx hb dX7_meets_250 hl (k := 1) rfl (nI_1 (k)) (by decide) rfl (fun ls hl => ?_)
            refine lv_goto (tgt := 2) hx hb dX7_meets_253 (by decide) ?_
            have e90 : m_meetsGo r (n + 1) k σ = m_meetsGo r n (k + 1) (g_up σ (2, 9, 0) (k) (1)) := (by rw [m_meetsGo_s]; unfold m_holdI; (repeat' split) <;> first | rfl | (exfalso; omega))
            rw [e90] at kk9
            exact ih (g_up σ (2, 9, 0) (k) (1)) (k + 1) H locs ls (by omega) (by exact hy) hG hS (lv_sub hl [0, 2, 3, 4] rfl) kk9
        · refine lv_tableIn (off := 57) (tgt := 101) hx hb dX7_meets_44 (by have := (show (σ (1, 5, 0) k : Int32).toInt = (σ (1, 5, 0) k).toInt from rfl); omega) (by have := (show (σ (1, 5, 0) k : Int32).toInt = (σ (1, 5, 0) k).toInt from rfl); omega) (by rw [((show (σ (1, 5, 0) k : Int32).toInt = (σ (1, 5, 0) k).toInt from rfl)).trans c_44_3]; rfl) (by decide) ?_
          refine lv_aload_n hx hb dX7_meets_101 rfl (lv_at hl 2 rfl) ?_
          refine g_get (C := RX7) (T := TX7) (N := 28) (v := .ref (L (2, 9, 0))) hx hb hts inX7g hown hK hG (0, 0, 0) ⟨rfl, rfl⟩ (m_at_0 cy L 0 0 (σ (0, 0, 0))) rfl 9 (by decide) fl_X7_28 rfl dX7_meets_102 ?_
          refine lv_iload_n hx hb dX7_meets_105 rfl (lv_at hl 1 rfl) ?_
          refine lv_iload hx hb dX7_meets_106 (lv_at hl 0 rfl) ?_
          refine lv_aload_n hx hb dX7_meets_108 rfl (lv_at hl 2 rfl) ?_
          refine g_get (C := RX7) (T := TX7) (N := 28) (v := .ref (L (1, 7, 0))) hx hb hts inX7g hown hK hG (0, 0, 0) ⟨rfl, rfl⟩ (m_at_0 cy L 0 0 (σ (0, 0, 0))) rfl 7 (by decide) fl_X7_22 rfl dX7_meets_109 ?_
          refine lv_iload_n hx hb dX7_meets_112 rfl (lv_at hl 1 rfl) ?_
          refine g_iald (n := 40) hx hb hK hG (1, 7, 0) ⟨by decide, rfl⟩ 0 rfl rfl (vp_in_nI (show k < 40 by omega) (by omega)) dX7_meets_113 ?_
          rw [g_nIc (show k < 2147483648 by omega)]
          refine lv_aload_n hx hb dX7_meets_114 rfl (lv_at hl 2 rfl) ?_
          refine g_get (C := RX7) (T := TX7) (N := 28) (v := .ref (L (1, 8, 0))) hx hb hts inX7g hown hK hG (0, 0, 0) ⟨rfl, rfl⟩ (m_at_0 cy L 0 0 (σ (0, 0, 0))) rfl 8 (by decide) fl_X7_25 rfl dX7_meets_115 ?_
          refine lv_iload_n hx hb dX7_meets_118 rfl (lv_at hl 1 rfl) ?_
          refine g_iald (n := 40) hx hb hK hG (1, 8, 0) ⟨by decide, rfl⟩ 0 rfl rfl (vp_in_nI (show k < 40 by omega) (by omega)) dX7_meets_119 ?_
          rw [g_nIc (show k < 2147483648 by omega)]
          refine g_cont (va_runS (As := [.int (-1), .int (σ (1, 7, 0) k), .int (σ (1, 8, 0) k)]) (rest := [.int (nI k), .ref (L (2, 9, 0))]) ⟨hx, hb, hml, hown, hts⟩ (c_X7_in l D cy L σ ((-1)) (σ (1, 7, 0) k) (σ (1, 8, 0) k) (-1) (σ (1, 7, 0) k).toInt (σ (1, 8, 0) k).toInt (by decide) rfl rfl) (cwS 3 hts gS_X7_87 rfl rfl rfl (by decide +kernel) ⟨Nat.le_of_ble_eq_true rfl, Nat.le_of_ble_eq_true rfl⟩) (g_preS hK hN hG) rfl rfl hl.1 rfl (lv_room (Nat.le_of_ble_eq_true rfl)) dX7_meets_120 ⟨Nat.zero_le _, Nat.zero_le _⟩) hS (fun H locs hG hS => ?_)
          refine W.eq (g2 := F0 m 123 ls [.int (g_b ((σ (1, 7, 0) k).toInt ≤ (-1) ∧ (-1) ≤ (σ (1, 8, 0) k).toInt)), .int (nI k), .ref (L (2, 9, 0))]) rfl ?_
          refine g_zast (n := 40) hx hb hK hG hS (2, 9, 0) ⟨by decide, rfl⟩ 4 (fun _ => rfl) rfl (vp_in_nI (show k < 40 by omega) (by omega)) g_b_nar dX7_meets_123 (fun H locs hG hS => ?_)
          rw [g_nIc (show k < 2147483648 by omega)] at hG
          refine lv_goto (tgt := 250) hx hb dX7_meets_124 (by decide) ?_
          refine lv_iinc (v := nI (k + 1)) (lv' := [(3, .int (nI (k + 1))), (4, .int (-1)), (0, .ref (L (0, 0, 0))), (1, .int (r)), (2, .int (q))]) hx hb dX7_meets_250 hl (k := 1) rfl (nI_1 (k)) (by decide) rfl (fun ls hl => ?_)
          refine lv_goto (tgt := 2) hx hb dX7_meets_253 (by decide) ?_
          have e90 : m_meetsGo r (n + 1) k σ = m_meetsGo r n (k + 1) (g_up σ (2, 9, 0) (k) (g_b ((σ (1, 7, 0) k).toInt ≤ (-1) ∧ (-1) ≤ (σ (1, 8, 0) k).toInt))) := (by rw [m_meetsGo_s]; unfold m_holdI; (repeat' split) <;> first | rfl | (exfalso; omega))
          rw [e90] at kk9
          exact ih (g_up σ (2, 9, 0) (k) (g_b ((σ (1, 7, 0) k).toInt ≤ (-1) ∧ (-1) ≤ (σ (1, 8, 0) k).toInt))) (k + 1) H locs ls (by omega) (by exact hy) hG hS (lv_sub hl [0, 2, 3, 4] rfl) kk9
        · refine lv_tableIn (off := 83) (tgt := 127) hx hb dX7_meets_44 (by have := (show (σ (1, 5, 0) k : Int32).toInt = (σ (1, 5, 0) k).toInt from rfl); omega) (by have := (show (σ (1, 5, 0) k : Int32).toInt = (σ (1, 5, 0) k).toInt from rfl); omega) (by rw [((show (σ (1, 5, 0) k : Int32).toInt = (σ (1, 5, 0) k).toInt from rfl)).trans c_44_3]; rfl) (by decide) ?_
          refine lv_aload_n hx hb dX7_meets_127 rfl (lv_at hl 2 rfl) ?_
          refine g_get (C := RX7) (T := TX7) (N := 28) (v := .ref (L (2, 9, 0))) hx hb hts inX7g hown hK hG (0, 0, 0) ⟨rfl, rfl⟩ (m_at_0 cy L 0 0 (σ (0, 0, 0))) rfl 9 (by decide) fl_X7_28 rfl dX7_meets_128 ?_
          refine lv_iload_n hx hb dX7_meets_131 rfl (lv_at hl 1 rfl) ?_
          refine lv_aload_n hx hb dX7_meets_132 rfl (lv_at hl 2 rfl) ?_
          refine g_get (C := RX7) (T := TX7) (N := 28) (v := .ref (L (2, 9, 0))) hx hb hts inX7g hown hK hG (0, 0, 0) ⟨rfl, rfl⟩ (m_at_0 cy L 0 0 (σ (0, 0, 0))) rfl 9 (by decide) fl_X7_28 rfl dX7_meets_133 ?_
          refine lv_aload_n hx hb dX7_meets_136 rfl (lv_at hl 2 rfl) ?_
          refine g_get (C := RX7) (T := TX7) (N := 28) (v := .ref (L (1, 6, 0))) hx hb hts inX7g hown hK hG (0, 0, 0) ⟨rfl, rfl⟩ (m_at_0 cy L 0 0 (σ (0, 0, 0))) rfl 6 (by decide) fl_X7_19 rfl dX7_meets_137 ?_
          refine lv_iload_n hx hb dX7_meets_140 rfl (lv_at hl 1 rfl) ?_
          refine g_iald (n := 40) hx hb hK hG (1, 6, 0) ⟨by decide, rfl⟩ 0 rfl rfl (vp_in_nI (show k < 40 by omega) (by omega)) dX7_meets_141 ?_
          rw [g_nIc (show k < 2147483648 by omega)]
          refine g_zald (n := 40) hx hb hK hG (2, 9, 0) ⟨by decide, rfl⟩ 4 rfl rfl (g_vp (by omega) (by omega)) dX7_meets_142 ?_
          rw [show (σ (1, 6, 0) k : Int32).toNatClampNeg = ((σ (1, 6, 0) k).toInt).toNat from congrArg Int.toNat (show (σ (1, 6, 0) k : Int32).toInt = (σ (1, 6, 0) k).toInt from rfl)]
          refine kz_if_eq (X := (σ (2, 9, 0) (((σ (1, 6, 0) k).toInt).toNat)).toInt) hx hb rfl dX7_meets_143 (tgt := 164) (by decide) (fun c_143_5 => ?_) (fun c_143_5 => ?_)
          · refine lv_iconst (v := 0) hx hb dX7_meets_164 (by decide) ?_
            refine g_zast (n := 40) hx hb hK hG hS (2, 9, 0) ⟨by decide, rfl⟩ 4 (fun _ => rfl) rfl (vp_in_nI (show k < 40 by omega) (by omega)) rfl dX7_meets_165 (fun H locs hG hS => ?_)
            rw [g_nIc (show k < 2147483648 by omega)] at hG
            refine lv_goto (tgt := 250) hx hb dX7_meets_166 (by decide) ?_
            refine lv_iinc (v := nI (k + 1)) (lv' := [(3, .int (nI (k + 1))), (4, .int (-1)), (0, .ref (L (0, 0, 0))), (1, .int (r)), (2, .int (q))]) hx hb dX7_meets_250 hl (k := 1) rfl (nI_1 (k)) (by decide) rfl (fun ls hl => ?_)
            refine lv_goto (tgt := 2) hx hb dX7_meets_253 (by decide) ?_
            have e90 : m_meetsGo r (n + 1) k σ = m_meetsGo r n (k + 1) (g_up σ (2, 9, 0) (k) (0)) := (by rw [m_meetsGo_s]; unfold m_holdI; (repeat' split) <;> first | rfl | (exfalso; omega))
            rw [e90] at kk9
            exact ih (g_up σ (2, 9, 0) (k) (0)) (k + 1) H locs ls (by omega) (by exact hy) hG hS (lv_sub hl [0, 2, 3, 4] rfl) kk9
          · refine lv_aload_n hx hb dX7_meets_146 rfl (lv_at hl 2 rfl) ?_
            refine g_get (C := RX7) (T := TX7) (N := 28) (v := .ref (L (2, 9, 0))) hx hb hts inX7g hown hK hG (0, 0, 0) ⟨rfl, rfl⟩ (m_at_0 cy L 0 0 (σ (0, 0, 0))) rfl 9 (by decide) fl_X7_28 rfl dX7_meets_147 ?_
            refine lv_aload_n hx hb dX7_meets_150 rfl (lv_at hl 2 rfl) ?_
            refine g_get (C := RX7) (T := TX7) (N := 28) (v := .ref (L (1, 7, 0))) hx hb hts inX7g hown hK hG (0, 0, 0) ⟨rfl, rfl⟩ (m_at_0 cy L 0 0 (σ (0, 0, 0))) rfl 7 (by decide) fl_X7_22 rfl dX7_meets_151 ?_
            refine lv_iload_n hx hb dX7_meets_154 rfl (lv_at hl 1 rfl) ?_
            refine g_iald (n := 40) hx hb hK hG (1, 7, 0) ⟨by decide, rfl⟩ 0 rfl rfl (vp_in_nI (show k < 40 by omega) (by omega)) dX7_meets_155 ?_
            rw [g_nIc (show k < 2147483648 by omega)]
            refine g_zald (n := 40) hx hb hK hG (2, 9, 0) ⟨by decide, rfl⟩ 4 rfl rfl (g_vp (by omega) (by omega)) dX7_meets_156 ?_
            rw [show (σ (1, 7, 0) k : Int32).toNatClampNeg = ((σ (1, 7, 0) k).toInt).toNat from congrArg Int.toNat (show (σ (1, 7, 0) k : Int32).toInt = (σ (1, 7, 0) k).toInt from rfl)]
            refine kz_if_eq (X := (σ (2, 9, 0) (((σ (1, 7, 0) k).toInt).toNat)).toInt) hx hb rfl dX7_meets_157 (tgt := 164) (by decide) (fun c_157_6 => ?_) (fun c_157_6 => ?_)
            · refine lv_iconst (v := 0) hx hb dX7_meets_164 (by decide) ?_
              refine g_zast (n := 40) hx hb hK hG hS (2, 9, 0) ⟨by decide, rfl⟩ 4 (fun _ => rfl) rfl (vp_in_nI (show k < 40 by omega) (by omega)) rfl dX7_meets_165 (fun H locs hG hS => ?_)
              rw [g_nIc (show k < 2147483648 by omega)] at hG
              refine lv_goto (tgt := 250) hx hb dX7_meets_166 (by decide) ?_
              refine lv_iinc (v := nI (k + 1)) (lv' := [(3, .int (nI (k + 1))), (4, .int (-1)), (0, .ref (L (0, 0, 0))), (1, .int (r)), (2, .int (q))]) hx hb dX7_meets_250 hl (k := 1) rfl (nI_1 (k)) (by decide) rfl (fun ls hl => ?_)
              refine lv_goto (tgt := 2) hx hb dX7_meets_253 (by decide) ?_
              have e90 : m_meetsGo r (n + 1) k σ = m_meetsGo r n (k + 1) (g_up σ (2, 9, 0) (k) (0)) := (by rw [m_meetsGo_s]; unfold m_holdI; (repeat' split) <;> first | rfl | (exfalso; omega))
              rw [e90] at kk9
              exact ih (g_up σ (2, 9, 0) (k) (0)) (k + 1) H locs ls (by omega) (by exact hy) hG hS (lv_sub hl [0, 2, 3, 4] rfl) kk9
            · refine lv_iconst (v := 1) hx hb dX7_meets_160 (by decide) ?_
              refine lv_goto (tgt := 165) hx hb dX7_meets_161 (by decide) ?_
              refine g_zast (n := 40) hx hb hK hG hS (2, 9, 0) ⟨by decide, rfl⟩ 4 (fun _ => rfl) rfl (vp_in_nI (show k < 40 by omega) (by omega)) rfl dX7_meets_165 (fun H locs hG hS => ?_)
              rw [g_nIc (show k < 2147483648 by omega)] at hG
              refine lv_goto (tgt := 250) hx hb dX7_meets_166 (by decide) ?_
              refine lv_iinc (v := nI (k + 1)) (lv' := [(3, .int (nI (k + 1))), (4, .int (-1)), (0, .ref (L (0, 0, 0))), (1, .int (r)), (2, .int (q))]) hx hb dX7_meets_250 hl (k := 1) rfl (nI_1 (k)) (by decide) rfl (fun ls hl => ?_)
              refine lv_goto (tgt := 2) hx hb dX7_meets_253 (by decide) ?_
              have e90 : m_meetsGo r (n + 1) k σ = m_meetsGo r n (k + 1) (g_up σ (2, 9, 0) (k) (1)) := (by rw [m_meetsGo_s]; unfold m_holdI; (repeat' split) <;> first | rfl | (exfalso; omega))
              rw [e90] at kk9
              exact ih (g_up σ (2, 9, 0) (k) (1)) (k + 1) H locs ls (by omega) (by exact hy) hG hS (lv_sub hl [0, 2, 3, 4] rfl) kk9
        · refine lv_tableIn (off := 125) (tgt := 169) hx hb dX7_meets_44 (by have := (show (σ (1, 5, 0) k : Int32).toInt = (σ (1, 5, 0) k).toInt from rfl); omega) (by have := (show (σ (1, 5, 0) k : Int32).toInt = (σ (1, 5, 0) k).toInt from rfl); omega) (by rw [((show (σ (1, 5, 0) k : Int32).toInt = (σ (1, 5, 0) k).toInt from rfl)).trans c_44_3]; rfl) (by decide) ?_
          refine lv_aload_n hx hb dX7_meets_169 rfl (lv_at hl 2 rfl) ?_
          refine g_get (C := RX7) (T := TX7) (N := 28) (v := .ref (L (2, 9, 0))) hx hb hts inX7g hown hK hG (0, 0, 0) ⟨rfl, rfl⟩ (m_at_0 cy L 0 0 (σ (0, 0, 0))) rfl 9 (by decide) fl_X7_28 rfl dX7_meets_170 ?_
          refine lv_iload_n hx hb dX7_meets_173 rfl (lv_at hl 1 rfl) ?_
          refine lv_aload_n hx hb dX7_meets_174 rfl (lv_at hl 2 rfl) ?_
          refine g_get (C := RX7) (T := TX7) (N := 28) (v := .ref (L (2, 9, 0))) hx hb hts inX7g hown hK hG (0, 0, 0) ⟨rfl, rfl⟩ (m_at_0 cy L 0 0 (σ (0, 0, 0))) rfl 9 (by decide) fl_X7_28 rfl dX7_meets_175 ?_
          refine lv_aload_n hx hb dX7_meets_178 rfl (lv_at hl 2 rfl) ?_
          refine g_get (C := RX7) (T := TX7) (N := 28) (v := .ref (L (1, 6, 0))) hx hb hts inX7g hown hK hG (0, 0, 0) ⟨rfl, rfl⟩ (m_at_0 cy L 0 0 (σ (0, 0, 0))) rfl 6 (by decide) fl_X7_19 rfl dX7_meets_179 ?_
          refine lv_iload_n hx hb dX7_meets_182 rfl (lv_at hl 1 rfl) ?_
          refine g_iald (n := 40) hx hb hK hG (1, 6, 0) ⟨by decide, rfl⟩ 0 rfl rfl (vp_in_nI (show k < 40 by omega) (by omega)) dX7_meets_183 ?_
          rw [g_nIc (show k < 2147483648 by omega)]
          refine g_zald (n := 40) hx hb hK hG (2, 9, 0) ⟨by decide, rfl⟩ 4 rfl rfl (g_vp (by omega) (by omega)) dX7_meets_184 ?_
          rw [show (σ (1, 6, 0) k : Int32).toNatClampNeg = ((σ (1, 6, 0) k).toInt).toNat from congrArg Int.toNat (show (σ (1, 6, 0) k : Int32).toInt = (σ (1, 6, 0) k).toInt from rfl)]
          refine kz_if_ne (X := (σ (2, 9, 0) (((σ (1, 6, 0) k).toInt).toNat)).toInt) hx hb rfl dX7_meets_185 (tgt := 202) (by decide) (fun c_185_7 => ?_) (fun c_185_7 => ?_)
          · refine lv_iconst (v := 1) hx hb dX7_meets_202 (by decide) ?_
            refine lv_goto (tgt := 207) hx hb dX7_meets_203 (by decide) ?_
            refine g_zast (n := 40) hx hb hK hG hS (2, 9, 0) ⟨by decide, rfl⟩ 4 (fun _ => rfl) rfl (vp_in_nI (show k < 40 by omega) (by omega)) rfl dX7_meets_207 (fun H locs hG hS => ?_)
            rw [g_nIc (show k < 2147483648 by omega)] at hG
            refine lv_goto (tgt := 250) hx hb dX7_meets_208 (by decide) ?_
            refine lv_iinc (v := nI (k + 1)) (lv' := [(3, .int (nI (k + 1))), (4, .int (-1)), (0, .ref (L (0, 0, 0))), (1, .int (r)), (2, .int (q))]) hx hb dX7_meets_250 hl (k := 1) rfl (nI_1 (k)) (by decide) rfl (fun ls hl => ?_)
            refine lv_goto (tgt := 2) hx hb dX7_meets_253 (by decide) ?_
            have e90 : m_meetsGo r (n + 1) k σ = m_meetsGo r n (k + 1) (g_up σ (2, 9, 0) (k) (1)) := (by rw [m_meetsGo_s]; unfold m_holdI; (repeat' split) <;> first | rfl | (exfalso; omega))
            rw [e90] at kk9
            exact ih (g_up σ (2, 9, 0) (k) (1)) (k + 1) H locs ls (by omega) (by exact hy) hG hS (lv_sub hl [0, 2, 3, 4] rfl) kk9
          · refine lv_aload_n hx hb dX7_meets_188 rfl (lv_at hl 2 rfl) ?_
            refine g_get (C := RX7) (T := TX7) (N := 28) (v := .ref (L (2, 9, 0))) hx hb hts inX7g hown hK hG (0, 0, 0) ⟨rfl, rfl⟩ (m_at_0 cy L 0 0 (σ (0, 0, 0))) rfl 9 (by decide) fl_X7_28 rfl dX7_meets_189 ?_
            refine lv_aload_n hx hb dX7_meets_192 rfl (lv_at hl 2 rfl) ?_
            refine g_get (C := RX7) (T := TX7) (N := 28) (v := .ref (L (1, 7, 0))) hx hb hts inX7g hown hK hG (0, 0, 0) ⟨rfl, rfl⟩ (m_at_0 cy L 0 0 (σ (0, 0, 0))) rfl 7 (by decide) fl_X7_22 rfl dX7_meets_193 ?_
            refine lv_iload_n hx hb dX7_meets_196 rfl (lv_at hl 1 rfl) ?_
            refine g_iald (n := 40) hx hb hK hG (1, 7, 0) ⟨by decide, rfl⟩ 0 rfl rfl (vp_in_nI (show k < 40 by omega) (by omega)) dX7_meets_197 ?_
            rw [g_nIc (show k < 2147483648 by omega)]
            refine g_zald (n := 40) hx hb hK hG (2, 9, 0) ⟨by decide, rfl⟩ 4 rfl rfl (g_vp (by omega) (by omega)) dX7_meets_198 ?_
            rw [show (σ (1, 7, 0) k : Int32).toNatClampNeg = ((σ (1, 7, 0) k).toInt).toNat from congrArg Int.toNat (show (σ (1, 7, 0) k : Int32).toInt = (σ (1, 7, 0) k).toInt from rfl)]
            refine kz_if_eq (X := (σ (2, 9, 0) (((σ (1, 7, 0) k).toInt).toNat)).toInt) hx hb rfl dX7_meets_199 (tgt := 206) (by decide) (fun c_199_8 => ?_) (fun c_199_8 => ?_)
            · refine lv_iconst (v := 0) hx hb dX7_meets_206 (by decide) ?_
              refine g_zast (n := 40) hx hb hK hG hS (2, 9, 0) ⟨by decide, rfl⟩ 4 (fun _ => rfl) rfl (vp_in_nI (show k < 40 by omega) (by omega)) rfl dX7_meets_207 (fun H locs hG hS => ?_)
              rw [g_nIc (show k < 2147483648 by omega)] at hG
              refine lv_goto (tgt := 250) hx hb dX7_meets_208 (by decide) ?_
              refine lv_iinc (v := nI (k + 1)) (lv' := [(3, .int (nI (k + 1))), (4, .int (-1)), (0, .ref (L (0, 0, 0))), (1, .int (r)), (2, .int (q))]) hx hb dX7_meets_250 hl (k := 1) rfl (nI_1 (k)) (by decide) rfl (fun ls hl => ?_)
              refine lv_goto (tgt := 2) hx hb dX7_meets_253 (by decide) ?_
              have e90 : m_meetsGo r (n + 1) k σ = m_meetsGo r n (k + 1) (g_up σ (2, 9, 0) (k) (0)) := (by rw [m_meetsGo_s]; unfold m_holdI; (repeat' split) <;> first | rfl | (exfalso; omega))
              rw [e90] at kk9
              exact ih (g_up σ (2, 9, 0) (k) (0)) (k + 1) H locs ls (by omega) (by exact hy) hG hS (lv_sub hl [0, 2, 3, 4] rfl) kk9
            · refine lv_iconst (v := 1) hx hb dX7_meets_202 (by decide) ?_
              refine lv_goto (tgt := 207) hx hb dX7_meets_203 (by decide) ?_
              refine g_zast (n := 40) hx hb hK hG hS (2, 9, 0) ⟨by decide, rfl⟩ 4 (fun _ => rfl) rfl (vp_in_nI (show k < 40 by omega) (by omega)) rfl dX7_meets_207 (fun H locs hG hS => ?_)
              rw [g_nIc (show k < 2147483648 by omega)] at hG
              refine lv_goto (tgt := 250) hx hb dX7_meets_208 (by decide) ?_
              refine lv_iinc (v := nI (k + 1)) (lv' := [(3, .int (nI (k + 1))), (4, .int (-1)), (0, .ref (L (0, 0, 0))), (1, .int (r)), (2, .int (q))]) hx hb dX7_meets_250 hl (k := 1) rfl (nI_1 (k)) (by decide) rfl (fun ls hl => ?_)
              refine lv_goto (tgt := 2) hx hb dX7_meets_253 (by decide) ?_
              have e90 : m_meetsGo r (n + 1) k σ = m_meetsGo r n (k + 1) (g_up σ (2, 9, 0) (k) (1)) := (by rw [m_meetsGo_s]; unfold m_holdI; (repeat' split) <;> first | rfl | (exfalso; omega))
              rw [e90] at kk9
              exact ih (g_up σ (2, 9, 0) (k) (1)) (k + 1) H locs ls (by omega) (by exact hy) hG hS (lv_sub hl [0, 2, 3, 4] rfl) kk9
        · refine lv_tableOut (tgt := 211) hx hb dX7_meets_44 (by have := (show (σ (1, 5, 0) k : Int32).toInt = (σ (1, 5, 0) k).toInt from rfl); omega) (by decide) ?_
          refine lv_aload_n hx hb dX7_meets_211 rfl (lv_at hl 2 rfl) ?_
          refine g_get (C := RX7) (T := TX7) (N := 28) (v := .ref (L (2, 9, 0))) hx hb hts inX7g hown hK hG (0, 0, 0) ⟨rfl, rfl⟩ (m_at_0 cy L 0 0 (σ (0, 0, 0))) rfl 9 (by decide) fl_X7_28 rfl dX7_meets_212 ?_
          refine lv_iload_n hx hb dX7_meets_215 rfl (lv_at hl 1 rfl) ?_
          refine lv_aload_n hx hb dX7_meets_216 rfl (lv_at hl 2 rfl) ?_
          refine g_get (C := RX7) (T := TX7) (N := 28) (v := .ref (L (2, 9, 0))) hx hb hts inX7g hown hK hG (0, 0, 0) ⟨rfl, rfl⟩ (m_at_0 cy L 0 0 (σ (0, 0, 0))) rfl 9 (by decide) fl_X7_28 rfl dX7_meets_217 ?_
          refine lv_aload_n hx hb dX7_meets_220 rfl (lv_at hl 2 rfl) ?_
          refine g_get (C := RX7) (T := TX7) (N := 28) (v := .ref (L (1, 6, 0))) hx hb hts inX7g hown hK hG (0, 0, 0) ⟨rfl, rfl⟩ (m_at_0 cy L 0 0 (σ (0, 0, 0))) rfl 6 (by decide) fl_X7_19 rfl dX7_meets_221 ?_
          refine lv_iload_n hx hb dX7_meets_224 rfl (lv_at hl 1 rfl) ?_
          refine g_iald (n := 40) hx hb hK hG (1, 6, 0) ⟨by decide, rfl⟩ 0 rfl rfl (vp_in_nI (show k < 40 by omega) (by omega)) dX7_meets_225 ?_
          rw [g_nIc (show k < 2147483648 by omega)]
          refine g_zald (n := 40) hx hb hK hG (2, 9, 0) ⟨by decide, rfl⟩ 4 rfl rfl (g_vp (by omega) (by omega)) dX7_meets_226 ?_
          rw [show (σ (1, 6, 0) k : Int32).toNatClampNeg = ((σ (1, 6, 0) k).toInt).toNat from congrArg Int.toNat (show (σ (1, 6, 0) k : Int32).toInt = (σ (1, 6, 0) k).toInt from rfl)]
          refine kz_if_eq (X := (σ (2, 9, 0) (((σ (1, 6, 0) k).toInt).toNat)).toInt) hx hb rfl dX7_meets_227 (tgt := 248) (by decide) (fun c_227_9 => ?_) (fun c_227_9 => ?_)
          · refine lv_iconst (v := 0) hx hb dX7_meets_248 (by decide) ?_
            refine g_zast (n := 40) hx hb hK hG hS (2, 9, 0) ⟨by decide, rfl⟩ 4 (fun _ => rfl) rfl (vp_in_nI (show k < 40 by omega) (by omega)) rfl dX7_meets_249 (fun H locs hG hS => ?_)
            rw [g_nIc (show k < 2147483648 by omega)] at hG
            refine lv_iinc (v := nI (k + 1)) (lv' := [(3, .int (nI (k + 1))), (4, .int (-1)), (0, .ref (L (0, 0, 0))), (1, .int (r)), (2, .int (q))]) hx hb dX7_meets_250 hl (k := 1) rfl (nI_1 (k)) (by decide) rfl (fun ls hl => ?_)
            refine lv_goto (tgt := 2) hx hb dX7_meets_253 (by decide) ?_
            have e90 : m_meetsGo r (n + 1) k σ = m_meetsGo r n (k + 1) (g_up σ (2, 9, 0) (k) (0)) := (by rw [m_meetsGo_s]; unfold m_holdI; (repeat' split) <;> first | rfl | (exfalso; omega))
            rw [e90] at kk9
            exact ih (g_up σ (2, 9, 0) (k) (0)) (k + 1) H locs ls (by omega) (by exact hy) hG hS (lv_sub hl [0, 2, 3, 4] rfl) kk9
          · refine lv_aload_n hx hb dX7_meets_230 rfl (lv_at hl 2 rfl) ?_
            refine g_get (C := RX7) (T := TX7) (N := 28) (v := .ref (L (2, 9, 0))) hx hb hts inX7g hown hK hG (0, 0, 0) ⟨rfl, rfl⟩ (m_at_0 cy L 0 0 (σ (0, 0, 0))) rfl 9 (by decide) fl_X7_28 rfl dX7_meets_231 ?_
            refine lv_aload_n hx hb dX7_meets_234 rfl (lv_at hl 2 rfl) ?_
            refine g_get (C := RX7) (T := TX7) (N := 28) (v := .ref (L (1, 7, 0))) hx hb hts inX7g hown hK hG (0, 0, 0) ⟨rfl, rfl⟩ (m_at_0 cy L 0 0 (σ (0, 0, 0))) rfl 7 (by decide) fl_X7_22 rfl dX7_meets_235 ?_
            refine lv_iload_n hx hb dX7_meets_238 rfl (lv_at hl 1 rfl) ?_
            refine g_iald (n := 40) hx hb hK hG (1, 7, 0) ⟨by decide, rfl⟩ 0 rfl rfl (vp_in_nI (show k < 40 by omega) (by omega)) dX7_meets_239 ?_
            rw [g_nIc (show k < 2147483648 by omega)]
            refine g_zald (n := 40) hx hb hK hG (2, 9, 0) ⟨by decide, rfl⟩ 4 rfl rfl (g_vp (by omega) (by omega)) dX7_meets_240 ?_
            rw [show (σ (1, 7, 0) k : Int32).toNatClampNeg = ((σ (1, 7, 0) k).toInt).toNat from congrArg Int.toNat (show (σ (1, 7, 0) k : Int32).toInt = (σ (1, 7, 0) k).toInt from rfl)]
            refine kz_if_ne (X := (σ (2, 9, 0) (((σ (1, 7, 0) k).toInt).toNat)).toInt) hx hb rfl dX7_meets_241 (tgt := 248) (by decide) (fun c_241_10 => ?_) (fun c_241_10 => ?_)
            · refine lv_iconst (v := 0) hx hb dX7_meets_248 (by decide) ?_
              refine g_zast (n := 40) hx hb hK hG hS (2, 9, 0) ⟨by decide, rfl⟩ 4 (fun _ => rfl) rfl (vp_in_nI (show k < 40 by omega) (by omega)) rfl dX7_meets_249 (fun H locs hG hS => ?_)
              rw [g_nIc (show k < 2147483648 by omega)] at hG
              refine lv_iinc (v := nI (k + 1)) (lv' := [(3, .int (nI (k + 1))), (4, .int (-1)), (0, .ref (L (0, 0, 0))), (1, .int (r)), (2, .int (q))]) hx hb dX7_meets_250 hl (k := 1) rfl (nI_1 (k)) (by decide) rfl (fun ls hl => ?_)
              refine lv_goto (tgt := 2) hx hb dX7_meets_253 (by decide) ?_
              have e90 : m_meetsGo r (n + 1) k σ = m_meetsGo r n (k + 1) (g_up σ (2, 9, 0) (k) (0)) := (by rw [m_meetsGo_s]; unfold m_holdI; (repeat' split) <;> first | rfl | (exfalso; omega))
              rw [e90] at kk9
              exact ih (g_up σ (2, 9, 0) (k) (0)) (k + 1) H locs ls (by omega) (by exact hy) hG hS (lv_sub hl [0, 2, 3, 4] rfl) kk9
            · refine lv_iconst (v := 1) hx hb dX7_meets_244 (by decide) ?_
              refine lv_goto (tgt := 249) hx hb dX7_meets_245 (by decide) ?_
              refine g_zast (n := 40) hx hb hK hG hS (2, 9, 0) ⟨by decide, rfl⟩ 4 (fun _ => rfl) rfl (vp_in_nI (show k < 40 by omega) (by omega)) rfl dX7_meets_249 (fun H locs hG hS => ?_)
              rw [g_nIc (show k < 2147483648 by omega)] at hG
              refine lv_iinc (v := nI (k + 1)) (lv' := [(3, .int (nI (k + 1))), (4, .int (-1)), (0, .ref (L (0, 0, 0))), (1, .int (r)), (2, .int (q))]) hx hb dX7_meets_250 hl (k := 1) rfl (nI_1 (k)) (by decide) rfl (fun ls hl => ?_)
              refine lv_goto (tgt := 2) hx hb dX7_meets_253 (by decide) ?_
              have e90 : m_meetsGo r (n + 1) k σ = m_meetsGo r n (k + 1) (g_up σ (2, 9, 0) (k) (1)) := (by rw [m_meetsGo_s]; unfold m_holdI; (repeat' split) <;> first | rfl | (exfalso; omega))
              rw [e90] at kk9
              exact ih (g_up σ (2, 9, 0) (k) (1)) (k + 1) H locs ls (by omega) (by exact hy) hG hS (lv_sub hl [0, 2, 3, 4] rfl) kk9
      · refine lv_aload_n hx hb dX7_meets_17 rfl (lv_at hl 1 rfl) ?_
        refine g_get (C := RX7) (T := TX7) (N := 28) (v := .ref (L (1, 3, 0))) hx hb hts inX7g hown hK hG (0, 0, 0) ⟨rfl, rfl⟩ (m_at_0 cy L 0 0 (σ (0, 0, 0))) rfl 3 (by decide) fl_X7_13 rfl dX7_meets_18 ?_
        refine lv_iconst (v := 5) hx hb dX7_meets_21 (by decide) ?_
        refine lv_iload_n hx hb dX7_meets_22 rfl (lv_at hl 2 rfl) ?_
        refine lv_imul hx hb dX7_meets_23 ?_
        have z_11 : ((5) * (r)).toInt = (5 * (r).toInt) := g_mulZ (by decide) rfl (by omega) (by omega)
        refine lv_aload_n hx hb dX7_meets_24 rfl (lv_at hl 1 rfl) ?_
        refine g_get (C := RX7) (T := TX7) (N := 28) (v := .ref (L (1, 6, 0))) hx hb hts inX7g hown hK hG (0, 0, 0) ⟨rfl, rfl⟩ (m_at_0 cy L 0 0 (σ (0, 0, 0))) rfl 6 (by decide) fl_X7_19 rfl dX7_meets_25 ?_
        refine lv_iload_n hx hb dX7_meets_28 rfl (lv_at hl 0 rfl) ?_
        refine g_iald (n := 40) hx hb hK hG (1, 6, 0) ⟨by decide, rfl⟩ 0 rfl rfl (vp_in_nI (show k < 40 by omega) (by omega)) dX7_meets_29 ?_
        rw [g_nIc (show k < 2147483648 by omega)]
        refine lv_iadd hx hb dX7_meets_30 ?_
        have z_12 : (((5) * (r)) + (σ (1, 6, 0) k)).toInt = ((5 * (r).toInt) + (σ (1, 6, 0) k).toInt) := g_addZ z_11 rfl (by omega) (by omega)
        refine g_iald (n := 500) hx hb hK hG (1, 3, 0) ⟨by decide, rfl⟩ 0 rfl rfl (g_vp (by have := (show (((5) * (r)) + (σ (1, 6, 0) k) : Int32).toInt = ((5 * (r).toInt) + (σ (1, 6, 0) k).toInt) from z_12); omega) (by have := (show (((5) * (r)) + (σ (1, 6, 0) k) : Int32).toInt = ((5 * (r).toInt) + (σ (1, 6, 0) k).toInt) from z_12); omega)) dX7_meets_31 ?_
        rw [show (((5) * (r)) + (σ (1, 6, 0) k) : Int32).toNatClampNeg = (((5 * (r).toInt) + (σ (1, 6, 0) k).toInt)).toNat from congrArg Int.toNat (show (((5) * (r)) + (σ (1, 6, 0) k) : Int32).toInt = ((5 * (r).toInt) + (σ (1, 6, 0) k).toInt) from z_12)]
        refine lv_goto (tgt := 36) hx hb dX7_meets_32 (by decide) ?_
        refine lv_istore (lv' := [(4, .int (σ (1, 3, 0) ((((5 * (r).toInt) + (σ (1, 6, 0) k).toInt)).toNat))), (3, .int (nI k)), (0, .ref (L (0, 0, 0))), (1, .int (r)), (2, .int (q))]) hx hb dX7_meets_36 hl (by decide) rfl (fun ls hl => ?_)
        refine lv_aload_n hx hb dX7_meets_38 rfl (lv_at hl 2 rfl) ?_
        refine g_get (C := RX7) (T := TX7) (N := 28) (v := .ref (L (1, 5, 0))) hx hb hts inX7g hown hK hG (0, 0, 0) ⟨rfl, rfl⟩ (m_at_0 cy L 0 0 (σ (0, 0, 0))) rfl 5 (by decide) fl_X7_16 rfl dX7_meets_39 ?_
        refine lv_iload_n hx hb dX7_meets_42 rfl (lv_at hl 1 rfl) ?_
        refine g_iald (n := 40) hx hb hK hG (1, 5, 0) ⟨by decide, rfl⟩ 0 rfl rfl (vp_in_nI (show k < 40 by omega) (by omega)) dX7_meets_43 ?_
        rw [g_nIc (show k < 2147483648 by omega)]
        rcases (show (σ (1, 5, 0) k).toInt = 0 ∨ (σ (1, 5, 0) k).toInt = 1 ∨ (σ (1, 5, 0) k).toInt = 2 ∨ (σ (1, 5, 0) k).toInt = 3 ∨ ((σ (1, 5, 0) k).toInt < 0 ∨ 3 < (σ (1, 5, 0) k).toInt) by omega) with c_44_13 | c_44_13 | c_44_13 | c_44_13 | c_44_13
        · refine lv_tableIn (off := 32) (tgt := 76) hx hb dX7_meets_44 (by have := (show (σ (1, 5, 0) k : Int32).toInt = (σ (1, 5, 0) k).toInt from rfl); omega) (by have := (show (σ (1, 5, 0) k : Int32).toInt = (σ (1, 5, 0) k).toInt from rfl); omega) (by rw [((show (σ (1, 5, 0) k : Int32).toInt = (σ (1, 5, 0) k).toInt from rfl)).trans c_44_13]; rfl) (by decide) ?_
          refine lv_aload_n hx hb dX7_meets_76 rfl (lv_at hl 2 rfl) ?_
          refine g_get (C := RX7) (T := TX7) (N := 28) (v := .ref (L (2, 9, 0))) hx hb hts inX7g hown hK hG (0, 0, 0) ⟨rfl, rfl⟩ (m_at_0 cy L 0 0 (σ (0, 0, 0))) rfl 9 (by decide) fl_X7_28 rfl dX7_meets_77 ?_
          refine lv_iload_n hx hb dX7_meets_80 rfl (lv_at hl 1 rfl) ?_
          refine lv_iload hx hb dX7_meets_81 (lv_at hl 0 rfl) ?_
          refine lv_aload_n hx hb dX7_meets_83 rfl (lv_at hl 2 rfl) ?_
          refine g_get (C := RX7) (T := TX7) (N := 28) (v := .ref (L (1, 7, 0))) hx hb hts inX7g hown hK hG (0, 0, 0) ⟨rfl, rfl⟩ (m_at_0 cy L 0 0 (σ (0, 0, 0))) rfl 7 (by decide) fl_X7_22 rfl dX7_meets_84 ?_
          refine lv_iload_n hx hb dX7_meets_87 rfl (lv_at hl 1 rfl) ?_
          refine g_iald (n := 40) hx hb hK hG (1, 7, 0) ⟨by decide, rfl⟩ 0 rfl rfl (vp_in_nI (show k < 40 by omega) (by omega)) dX7_meets_88 ?_
          rw [g_nIc (show k < 2147483648 by omega)]
          refine kz_icmp_ne (X := (σ (1, 3, 0) ((((5 * (r).toInt) + (σ (1, 6, 0) k).toInt)).toNat)).toInt) (Y := (σ (1, 7, 0) k).toInt) hx hb rfl rfl dX7_meets_89 (tgt := 96) (by decide) (fun c_89_14 => ?_) (fun c_89_14 => ?_)
          · refine lv_iconst (v := 0) hx hb dX7_meets_96 (by decide) ?_
            refine g_zast (n := 40) hx hb hK hG hS (2, 9, 0) ⟨by decide, rfl⟩ 4 (fun _ => rfl) rfl (vp_in_nI (show k < 40 by omega) (by omega)) rfl dX7_meets_97 (fun H locs hG hS => ?_)
            rw [g_nIc (show k < 2147483648 by omega)] at hG
            refine lv_goto (tgt := 250) hx hb dX7_meets_98 (by decide) ?_
            refine lv_iinc (v := nI (k + 1)) (lv' := [(3, .int (nI (k + 1))), (4, .int (σ (1, 3, 0) ((((5 * (r).toInt) + (σ (1, 6, 0) k).toInt)).toNat))), (0, .ref (L (0, 0, 0))), (1, .int (r)), (2, .int (q))]) hx hb dX7_meets_250 hl (k := 1) rfl (nI_1 (k)) (by decide) rfl (fun ls hl => ?_)
            refine lv_goto (tgt := 2) hx hb dX7_meets_253 (by decide) ?_
            have e90 : m_meetsGo r (n + 1) k σ = m_meetsGo r n (k + 1) (g_up σ (2, 9, 0) (k) (0)) := (by rw [m_meetsGo_s]; unfold m_holdI; (repeat' split) <;> first | rfl | (exfalso; omega))
            rw [e90] at kk9
            exact ih (g_up σ (2, 9, 0) (k) (0)) (k + 1) H locs ls (by omega) (by exact hy) hG hS (lv_sub hl [0, 2, 3, 4] rfl) kk9
          · refine lv_iconst (v := 1) hx hb dX7_meets_92 (by decide) ?_
            refine lv_goto (tgt := 97) hx hb dX7_meets_93 (by decide) ?_
            refine g_zast (n := 40) hx hb hK hG hS (2, 9, 0) ⟨by decide, rfl⟩ 4 (fun _ => rfl) rfl (vp_in_nI (show k < 40 by omega) (by omega)) rfl dX7_meets_97 (fun H locs hG hS => ?_)
            rw [g_nIc (show k < 2147483648 by omega)] at hG
            refine lv_goto (tgt := 250) hx hb dX7_meets_98 (by decide) ?_
            refine lv_iinc (v := nI (k + 1)) (lv' := [(3, .int (nI (k + 1))), (4, .int (σ (1, 3, 0) ((((5 * (r).toInt) + (σ (1, 6, 0) k).toInt)).toNat))), (0, .ref (L (0, 0, 0))), (1, .int (r)), (2, .int (q))]) hx hb dX7_meets_250 hl (k := 1) rfl (nI_1 (k)) (by decide) rfl (fun ls hl => ?_)
            refine lv_goto (tgt := 2) hx hb dX7_meets_253 (by decide) ?_
            have e90 : m_meetsGo r (n + 1) k σ = m_meetsGo r n (k + 1) (g_up σ (2, 9, 0) (k) (1)) := (by rw [m_meetsGo_s]; unfold m_holdI; (repeat' split) <;> first | rfl | (exfalso; omega))
            rw [e90] at kk9
            exact ih (g_up σ (2, 9, 0) (k) (1)) (k + 1) H locs ls (by omega) (by exact hy) hG hS (lv_sub hl [0, 2, 3, 4] rfl) kk9
        · refine lv_tableIn (off := 57) (tgt := 101) hx hb dX7_meets_44 (by have := (show (σ (1, 5, 0) k : Int32).toInt = (σ (1, 5, 0) k).toInt from rfl); omega) (by have := (show (σ (1, 5, 0) k : Int32).toInt = (σ (1, 5, 0) k).toInt from rfl); omega) (by rw [((show (σ (1, 5, 0) k : Int32).toInt = (σ (1, 5, 0) k).toInt from rfl)).trans c_44_13]; rfl) (by decide) ?_
          refine lv_aload_n hx hb dX7_meets_101 rfl (lv_at hl 2 rfl) ?_
          refine g_get (C := RX7) (T := TX7) (N := 28) (v := .ref (L (2, 9, 0))) hx hb hts inX7g hown hK hG (0, 0, 0) ⟨rfl, rfl⟩ (m_at_0 cy L 0 0 (σ (0, 0, 0))) rfl 9 (by decide) fl_X7_28 rfl dX7_meets_102 ?_
          refine lv_iload_n hx hb dX7_meets_105 rfl (lv_at hl 1 rfl) ?_
          refine lv_iload hx hb dX7_meets_106 (lv_at hl 0 rfl) ?_
          refine lv_aload_n hx hb dX7_meets_108 rfl (lv_at hl 2 rfl) ?_
          refine g_get (C := RX7) (T := TX7) (N := 28) (v := .ref (L (1, 7, 0))) hx hb hts inX7g hown hK hG (0, 0, 0) ⟨rfl, rfl⟩ (m_at_0 cy L 0 0 (σ (0, 0, 0))) rfl 7 (by decide) fl_X7_22 rfl dX7_meets_109 ?_
          refine lv_iload_n hx hb dX7_meets_112 rfl (lv_at hl 1 rfl) ?_
          refine g_iald (n := 40) hx hb hK hG (1, 7, 0) ⟨by decide, rfl⟩ 0 rfl rfl (vp_in_nI (show k < 40 by omega) (by omega)) dX7_meets_113 ?_
          rw [g_nIc (show k < 2147483648 by omega)]
          refine lv_aload_n hx hb dX7_meets_114 rfl (lv_at hl 2 rfl) ?_
          refine g_get (C := RX7) (T := TX7) (N := 28) (v := .ref (L (1, 8, 0))) hx hb hts inX7g hown hK hG (0, 0, 0) ⟨rfl, rfl⟩ (m_at_0 cy L 0 0 (σ (0, 0, 0))) rfl 8 (by decide) fl_X7_25 rfl dX7_meets_115 ?_
          refine lv_iload_n hx hb dX7_meets_118 rfl (lv_at hl 1 rfl) ?_
          refine g_iald (n := 40) hx hb hK hG (1, 8, 0) ⟨by decide, rfl⟩ 0 rfl rfl (vp_in_nI (show k < 40 by omega) (by omega)) dX7_meets_119 ?_
          rw [g_nIc (show k < 2147483648 by omega)]
          refine g_cont (va_runS (As := [.int (σ (1, 3, 0) ((((5 * (r).toInt) + (σ (1, 6, 0) k).toInt)).toNat)), .int (σ (1, 7, 0) k), .int (σ (1, 8, 0) k)]) (rest := [.int (nI k), .ref (L (2, 9, 0))]) ⟨hx, hb, hml, hown, hts⟩ (c_X7_in l D cy L σ (σ (1, 3, 0) ((((5 * (r).toInt) + (σ (1, 6, 0) k).toInt)).toNat)) (σ (1, 7, 0) k) (σ (1, 8, 0) k) (σ (1, 3, 0) ((((5 * (r).toInt) + (σ (1, 6, 0) k).toInt)).toNat)).toInt (σ (1, 7, 0) k).toInt (σ (1, 8, 0) k).toInt rfl rfl rfl) (cwS 3 hts gS_X7_87 rfl rfl rfl (by decide +kernel) ⟨Nat.le_of_ble_eq_true rfl, Nat.le_of_ble_eq_true rfl⟩) (g_preS hK hN hG) rfl rfl hl.1 rfl (lv_room (Nat.le_of_ble_eq_true rfl)) dX7_meets_120 ⟨Nat.zero_le _, Nat.zero_le _⟩) hS (fun H locs hG hS => ?_)
          refine W.eq (g2 := F0 m 123 ls [.int (g_b ((σ (1, 7, 0) k).toInt ≤ (σ (1, 3, 0) ((((5 * (r).toInt) + (σ (1, 6, 0) k).toInt)).toNat)).toInt ∧ (σ (1, 3, 0) ((((5 * (r).toInt) + (σ (1, 6, 0) k).toInt)).toNat)).toInt ≤ (σ (1, 8, 0) k).toInt)), .int (nI k), .ref (L (2, 9, 0))]) rfl ?_
          refine g_zast (n := 40) hx hb hK hG hS (2, 9, 0) ⟨by decide, rfl⟩ 4 (fun _ => rfl) rfl (vp_in_nI (show k < 40 by omega) (by omega)) g_b_nar dX7_meets_123 (fun H locs hG hS => ?_)
          rw [g_nIc (show k < 2147483648 by omega)] at hG
          refine lv_goto (tgt := 250) hx hb dX7_meets_124 (by decide) ?_
          refine lv_iinc (v := nI (k + 1)) (lv' := [(3, .int (nI (k + 1))), (4, .int (σ (1, 3, 0) ((((5 * (r).toInt) + (σ (1, 6, 0) k).toInt)).toNat))), (0, .ref (L (0, 0, 0))), (1, .int (r)), (2, .int (q))]) hx hb dX7_meets_250 hl (k := 1) rfl (nI_1 (k)) (by decide) rfl (fun ls hl => ?_)
          refine lv_goto (tgt := 2) hx hb dX7_meets_253 (by decide) ?_
          have e90 : m_meetsGo r (n + 1) k σ = m_meetsGo r n (k + 1) (g_up σ (2, 9, 0) (k) (g_b ((σ (1, 7, 0) k).toInt ≤ (σ (1, 3, 0) ((((5 * (r).toInt) + (σ (1, 6, 0) k).toInt)).toNat)).toInt ∧ (σ (1, 3, 0) ((((5 * (r).toInt) + (σ (1, 6, 0) k).toInt)).toNat)).toInt ≤ (σ (1, 8, 0) k).toInt))) := (by rw [m_meetsGo_s]; unfold m_holdI; (repeat' split) <;> first | rfl | (exfalso; omega))
          rw [e90] at kk9
          exact ih (g_up σ (2, 9, 0) (k) (g_b ((σ (1, 7, 0) k).toInt ≤ (σ (1, 3, 0) ((((5 * (r).toInt) + (σ (1, 6, 0) k).toInt)).toNat)).toInt ∧ (σ (1, 3, 0) ((((5 * (r).toInt) + (σ (1, 6, 0) k).toInt)).toNat)).toInt ≤ (σ (1, 8, 0) k).toInt))) (k + 1) H locs ls (by omega) (by exact hy) hG hS (lv_sub hl [0, 2, 3, 4] rfl) kk9
        · refine lv_tableIn (off := 83) (tgt := 127) hx hb dX7_meets_44 (by have := (show (σ (1, 5, 0) k : Int32).toInt = (σ (1, 5, 0) k).toInt from rfl); omega) (by have := (show (σ (1, 5, 0) k : Int32).toInt = (σ (1, 5, 0) k).toInt from rfl); omega) (by rw [((show (σ (1, 5, 0) k : Int32).toInt = (σ (1, 5, 0) k).toInt from rfl)).trans c_44_13]; rfl) (by decide) ?_
          refine lv_aload_n hx hb dX7_meets_127 rfl (lv_at hl 2 rfl) ?_
          refine g_get (C := RX7) (T := TX7) (N := 28) (v := .ref (L (2, 9, 0))) hx hb hts inX7g hown hK hG (0, 0, 0) ⟨rfl, rfl⟩ (m_at_0 cy L 0 0 (σ (0, 0, 0))) rfl 9 (by decide) fl_X7_28 rfl dX7_meets_128 ?_
          refine lv_iload_n hx hb dX7_meets_131 rfl (lv_at hl 1 rfl) ?_
          refine lv_aload_n hx hb dX7_meets_132 rfl (lv_at hl 2 rfl) ?_
          refine g_get (C := RX7) (T := TX7) (N := 28) (v := .ref (L (2, 9, 0))) hx hb hts inX7g hown hK hG (0, 0, 0) ⟨rfl, rfl⟩ (m_at_0 cy L 0 0 (σ (0, 0, 0))) rfl 9 (by decide) fl_X7_28 rfl dX7_meets_133 ?_
          refine lv_aload_n hx hb dX7_meets_136 rfl (lv_at hl 2 rfl) ?_
          refine g_get (C := RX7) (T := TX7) (N := 28) (v := .ref (L (1, 6, 0))) hx hb hts inX7g hown hK hG (0, 0, 0) ⟨rfl, rfl⟩ (m_at_0 cy L 0 0 (σ (0, 0, 0))) rfl 6 (by decide) fl_X7_19 rfl dX7_meets_137 ?_
          refine lv_iload_n hx hb dX7_meets_140 rfl (lv_at hl 1 rfl) ?_
          refine g_iald (n := 40) hx hb hK hG (1, 6, 0) ⟨by decide, rfl⟩ 0 rfl rfl (vp_in_nI (show k < 40 by omega) (by omega)) dX7_meets_141 ?_
          rw [g_nIc (show k < 2147483648 by omega)]
          refine g_zald (n := 40) hx hb hK hG (2, 9, 0) ⟨by decide, rfl⟩ 4 rfl rfl (g_vp (by omega) (by omega)) dX7_meets_142 ?_
          rw [show (σ (1, 6, 0) k : Int32).toNatClampNeg = ((σ (1, 6, 0) k).toInt).toNat from congrArg Int.toNat (show (σ (1, 6, 0) k : Int32).toInt = (σ (1, 6, 0) k).toInt from rfl)]
          refine kz_if_eq (X := (σ (2, 9, 0) (((σ (1, 6, 0) k).toInt).toNat)).toInt) hx hb rfl dX7_meets_143 (tgt := 164) (by decide) (fun c_143_15 => ?_) (fun c_143_15 => ?_)
          · refine lv_iconst (v := 0) hx hb dX7_meets_164 (by decide) ?_
            refine g_zast (n := 40) hx hb hK hG hS (2, 9, 0) ⟨by decide, rfl⟩ 4 (fun _ => rfl) rfl (vp_in_nI (show k < 40 by omega) (by omega)) rfl dX7_meets_165 (fun H locs hG hS => ?_)
            rw [g_nIc (show k < 2147483648 by omega)] at hG
            refine lv_goto (tgt := 250) hx hb dX7_meets_166 (by decide) ?_
            refine lv_iinc (v := nI (k + 1)) (lv' := [(3, .int (nI (k + 1))), (4, .int (σ (1, 3, 0) ((((5 * (r).toInt) + (σ (1, 6, 0) k).toInt)).toNat))), (0, .ref (L (0, 0, 0))), (1, .int (r)), (2, .int (q))]) hx hb dX7_meets_250 hl (k := 1) rfl (nI_1 (k)) (by decide) rfl (fun ls hl => ?_)
            refine lv_goto (tgt := 2) hx hb dX7_meets_253 (by decide) ?_
            have e90 : m_meetsGo r (n + 1) k σ = m_meetsGo r n (k + 1) (g_up σ (2, 9, 0) (k) (0)) := (by rw [m_meetsGo_s]; unfold m_holdI; (repeat' split) <;> first | rfl | (exfalso; omega))
            rw [e90] at kk9
            exact ih (g_up σ (2, 9, 0) (k) (0)) (k + 1) H locs ls (by omega) (by exact hy) hG hS (lv_sub hl [0, 2, 3, 4] rfl) kk9
          · refine lv_aload_n hx hb dX7_meets_146 rfl (lv_at hl 2 rfl) ?_
            refine g_get (C := RX7) (T := TX7) (N := 28) (v := .ref (L (2, 9, 0))) hx hb hts inX7g hown hK hG (0, 0, 0) ⟨rfl, rfl⟩ (m_at_0 cy L 0 0 (σ (0, 0, 0))) rfl 9 (by decide) fl_X7_28 rfl dX7_meets_147 ?_
            refine lv_aload_n hx hb dX7_meets_150 rfl (lv_at hl 2 rfl) ?_
            refine g_get (C := RX7) (T := TX7) (N := 28) (v := .ref (L (1, 7, 0))) hx hb hts inX7g hown hK hG (0, 0, 0) ⟨rfl, rfl⟩ (m_at_0 cy L 0 0 (σ (0, 0, 0))) rfl 7 (by decide) fl_X7_22 rfl dX7_meets_151 ?_
            refine lv_iload_n hx hb dX7_meets_154 rfl (lv_at hl 1 rfl) ?_
            refine g_iald (n := 40) hx hb hK hG (1, 7, 0) ⟨by decide, rfl⟩ 0 rfl rfl (vp_in_nI (show k < 40 by omega) (by omega)) dX7_meets_155 ?_
            rw [g_nIc (show k < 2147483648 by omega)]
            refine g_zald (n := 40) hx hb hK hG (2, 9, 0) ⟨by decide, rfl⟩ 4 rfl rfl (g_vp (by omega) (by omega)) dX7_meets_156 ?_
            rw [show (σ (1, 7, 0) k : Int32).toNatClampNeg = ((σ (1, 7, 0) k).toInt).toNat from congrArg Int.toNat (show (σ (1, 7, 0) k : Int32).toInt = (σ (1, 7, 0) k).toInt from rfl)]
            refine kz_if_eq (X := (σ (2, 9, 0) (((σ (1, 7, 0) k).toInt).toNat)).toInt) hx hb rfl dX7_meets_157 (tgt := 164) (by decide) (fun c_157_16 => ?_) (fun c_157_16 => ?_)
            · refine lv_iconst (v := 0) hx hb dX7_meets_164 (by decide) ?_
              refine g_zast (n := 40) hx hb hK hG hS (2, 9, 0) ⟨by decide, rfl⟩ 4 (fun _ => rfl) rfl (vp_in_nI (show k < 40 by omega) (by omega)) rfl dX7_meets_165 (fun H locs hG hS => ?_)
              rw [g_nIc (show k < 2147483648 by omega)] at hG
              refine lv_goto (tgt := 250) hx hb dX7_meets_166 (by decide) ?_
              refine lv_iinc (v := nI (k + 1)) (lv' := [(3, .int (nI (k + 1))), (4, .int (σ (1, 3, 0) ((((5 * (r).toInt) + (σ (1, 6, 0) k).toInt)).toNat))), (0, .ref (L (0, 0, 0))), (1, .int (r)), (2, .int (q))]) hx hb dX7_meets_250 hl (k := 1) rfl (nI_1 (k)) (by decide) rfl (fun ls hl => ?_)
              refine lv_goto (tgt := 2) hx hb dX7_meets_253 (by decide) ?_
              have e90 : m_meetsGo r (n + 1) k σ = m_meetsGo r n (k + 1) (g_up σ (2, 9, 0) (k) (0)) := (by rw [m_meetsGo_s]; unfold m_holdI; (repeat' split) <;> first | rfl | (exfalso; omega))
              rw [e90] at kk9
              exact ih (g_up σ (2, 9, 0) (k) (0)) (k + 1) H locs ls (by omega) (by exact hy) hG hS (lv_sub hl [0, 2, 3, 4] rfl) kk9
            · refine lv_iconst (v := 1) hx hb dX7_meets_160 (by decide) ?_
              refine lv_goto (tgt := 165) hx hb dX7_meets_161 (by decide) ?_
              refine g_zast (n := 40) hx hb hK hG hS (2, 9, 0) ⟨by decide, rfl⟩ 4 (fun _ => rfl) rfl (vp_in_nI (show k < 40 by omega) (by omega)) rfl dX7_meets_165 (fun H locs hG hS => ?_)
              rw [g_nIc (show k < 2147483648 by omega)] at hG
              refine lv_goto (tgt := 250) hx hb dX7_meets_166 (by decide) ?_
              refine lv_iinc (v := nI (k + 1)) (lv' := [(3, .int (nI (k + 1))), (4, .int (σ (1, 3, 0) ((((5 * (r).toInt) + (σ (1, 6, 0) k).toInt)).toNat))), (0, .ref (L (0, 0, 0))), (1, .int (r)), (2, .int (q))]) hx hb dX7_meets_250 hl (k := 1) rfl (nI_1 (k)) (by decide) rfl (fun ls hl => ?_)
              refine lv_goto (tgt := 2) hx hb dX7_meets_253 (by decide) ?_
              have e90 : m_meetsGo r (n + 1) k σ = m_meetsGo r n (k + 1) (g_up σ (2, 9, 0) (k) (1)) := (by rw [m_meetsGo_s]; unfold m_holdI; (repeat' split) <;> first | rfl | (exfalso; omega))
              rw [e90] at kk9
              exact ih (g_up σ (2, 9, 0) (k) (1)) (k + 1) H locs ls (by omega) (by exact hy) hG hS (lv_sub hl [0, 2, 3, 4] rfl) kk9
        · refine lv_tableIn (off := 125) (tgt := 169) hx hb dX7_meets_44 (by have := (show (σ (1, 5, 0) k : Int32).toInt = (σ (1, 5, 0) k).toInt from rfl); omega) (by have := (show (σ (1, 5, 0) k : Int32).toInt = (σ (1, 5, 0) k).toInt from rfl); omega) (by rw [((show (σ (1, 5, 0) k : Int32).toInt = (σ (1, 5, 0) k).toInt from rfl)).trans c_44_13]; rfl) (by decide) ?_
          refine lv_aload_n hx hb dX7_meets_169 rfl (lv_at hl 2 rfl) ?_
          refine g_get (C := RX7) (T := TX7) (N := 28) (v := .ref (L (2, 9, 0))) hx hb hts inX7g hown hK hG (0, 0, 0) ⟨rfl, rfl⟩ (m_at_0 cy L 0 0 (σ (0, 0, 0))) rfl 9 (by decide) fl_X7_28 rfl dX7_meets_170 ?_
          refine lv_iload_n hx hb dX7_meets_173 rfl (lv_at hl 1 rfl) ?_
          refine lv_aload_n hx hb dX7_meets_174 rfl (lv_at hl 2 rfl) ?_
          refine g_get (C := RX7) (T := TX7) (N := 28) (v := .ref (L (2, 9, 0))) hx hb hts inX7g hown hK hG (0, 0, 0) ⟨rfl, rfl⟩ (m_at_0 cy L 0 0 (σ (0, 0, 0))) rfl 9 (by decide) fl_X7_28 rfl dX7_meets_175 ?_
          refine lv_aload_n hx hb dX7_meets_178 rfl (lv_at hl 2 rfl) ?_
          refine g_get (C := RX7) (T := TX7) (N := 28) (v := .ref (L (1, 6, 0))) hx hb hts inX7g hown hK hG (0, 0, 0) ⟨rfl, rfl⟩ (m_at_0 cy L 0 0 (σ (0, 0, 0))) rfl 6 (by decide) fl_X7_19 rfl dX7_meets_179 ?_
          refine lv_iload_n hx hb dX7_meets_182 rfl (lv_at hl 1 rfl) ?_
          refine g_iald (n := 40) hx hb hK hG (1, 6, 0) ⟨by decide, rfl⟩ 0 rfl rfl (vp_in_nI (show k < 40 by omega) (by omega)) dX7_meets_183 ?_
          rw [g_nIc (show k < 2147483648 by omega)]
          refine g_zald (n := 40) hx hb hK hG (2, 9, 0) ⟨by decide, rfl⟩ 4 rfl rfl (g_vp (by omega) (by omega)) dX7_meets_184 ?_
          rw [show (σ (1, 6, 0) k : Int32).toNatClampNeg = ((σ (1, 6, 0) k).toInt).toNat from congrArg Int.toNat (show (σ (1, 6, 0) k : Int32).toInt = (σ (1, 6, 0) k).toInt from rfl)]
          refine kz_if_ne (X := (σ (2, 9, 0) (((σ (1, 6, 0) k).toInt).toNat)).toInt) hx hb rfl dX7_meets_185 (tgt := 202) (by decide) (fun c_185_17 => ?_) (fun c_185_17 => ?_)
          · refine lv_iconst (v := 1) hx hb dX7_meets_202 (by decide) ?_
            refine lv_goto (tgt := 207) hx hb dX7_meets_203 (by decide) ?_
            refine g_zast (n := 40) hx hb hK hG hS (2, 9, 0) ⟨by decide, rfl⟩ 4 (fun _ => rfl) rfl (vp_in_nI (show k < 40 by omega) (by omega)) rfl dX7_meets_207 (fun H locs hG hS => ?_)
            rw [g_nIc (show k < 2147483648 by omega)] at hG
            refine lv_goto (tgt := 250) hx hb dX7_meets_208 (by decide) ?_
            refine lv_iinc (v := nI (k + 1)) (lv' := [(3, .int (nI (k + 1))), (4, .int (σ (1, 3, 0) ((((5 * (r).toInt) + (σ (1, 6, 0) k).toInt)).toNat))), (0, .ref (L (0, 0, 0))), (1, .int (r)), (2, .int (q))]) hx hb dX7_meets_250 hl (k := 1) rfl (nI_1 (k)) (by decide) rfl (fun ls hl => ?_)
            refine lv_goto (tgt := 2) hx hb dX7_meets_253 (by decide) ?_
            have e90 : m_meetsGo r (n + 1) k σ = m_meetsGo r n (k + 1) (g_up σ (2, 9, 0) (k) (1)) := (by rw [m_meetsGo_s]; unfold m_holdI; (repeat' split) <;> first | rfl | (exfalso; omega))
            rw [e90] at kk9
            exact ih (g_up σ (2, 9, 0) (k) (1)) (k + 1) H locs ls (by omega) (by exact hy) hG hS (lv_sub hl [0, 2, 3, 4] rfl) kk9
          · refine lv_aload_n hx hb dX7_meets_188 rfl (lv_at hl 2 rfl) ?_
            refine g_get (C := RX7) (T := TX7) (N := 28) (v := .ref (L (2, 9, 0))) hx hb hts inX7g hown hK hG (0, 0, 0) ⟨rfl, rfl⟩ (m_at_0 cy L 0 0 (σ (0, 0, 0))) rfl 9 (by decide) fl_X7_28 rfl dX7_meets_189 ?_
            refine lv_aload_n hx hb dX7_meets_192 rfl (lv_at hl 2 rfl) ?_
            refine g_get (C := RX7) (T := TX7) (N := 28) (v := .ref (L (1, 7, 0))) hx hb hts inX7g hown hK hG (0, 0, 0) ⟨rfl, rfl⟩ (m_at_0 cy L 0 0 (σ (0, 0, 0))) rfl 7 (by decide) fl_X7_22 rfl dX7_meets_193 ?_
            refine lv_iload_n hx hb dX7_meets_196 rfl (lv_at hl 1 rfl) ?_
            refine g_iald (n := 40) hx hb hK hG (1, 7, 0) ⟨by decide, rfl⟩ 0 rfl rfl (vp_in_nI (show k < 40 by omega) (by omega)) dX7_meets_197 ?_
            rw [g_nIc (show k < 2147483648 by omega)]
            refine g_zald (n := 40) hx hb hK hG (2, 9, 0) ⟨by decide, rfl⟩ 4 rfl rfl (g_vp (by omega) (by omega)) dX7_meets_198 ?_
            rw [show (σ (1, 7, 0) k : Int32).toNatClampNeg = ((σ (1, 7, 0) k).toInt).toNat from congrArg Int.toNat (show (σ (1, 7, 0) k : Int32).toInt = (σ (1, 7, 0) k).toInt from rfl)]
            refine kz_if_eq (X := (σ (2, 9, 0) (((σ (1, 7, 0) k).toInt).toNat)).toInt) hx hb rfl dX7_meets_199 (tgt := 206) (by decide) (fun c_199_18 => ?_) (fun c_199_18 => ?_)
            · refine lv_iconst (v := 0) hx hb dX7_meets_206 (by decide) ?_
              refine g_zast (n := 40) hx hb hK hG hS (2, 9, 0) ⟨by decide, rfl⟩ 4 (fun _ => rfl) rfl (vp_in_nI (show k < 40 by omega) (by omega)) rfl dX7_meets_207 (fun H locs hG hS => ?_)
              rw [g_nIc (show k < 2147483648 by omega)] at hG
              refine lv_goto (tgt := 250) hx hb dX7_meets_208 (by decide) ?_
              refine lv_iinc (v := nI (k + 1)) (lv' := [(3, .int (nI (k + 1))), (4, .int (σ (1, 3, 0) ((((5 * (r).toInt) + (σ (1, 6, 0) k).toInt)).toNat))), (0, .ref (L (0, 0, 0))), (1, .int (r)), (2, .int (q))]) hx hb dX7_meets_250 hl (k := 1) rfl (nI_1 (k)) (by decide) rfl (fun ls hl => ?_)
              refine lv_goto (tgt := 2) hx hb dX7_meets_253 (by decide) ?_
              have e90 : m_meetsGo r (n + 1) k σ = m_meetsGo r n (k + 1) (g_up σ (2, 9, 0) (k) (0)) := (by rw [m_meetsGo_s]; unfold m_holdI; (repeat' split) <;> first | rfl | (exfalso; omega))
              rw [e90] at kk9
              exact ih (g_up σ (2, 9, 0) (k) (0)) (k + 1) H locs ls (by omega) (by exact hy) hG hS (lv_sub hl [0, 2, 3, 4] rfl) kk9
            · refine lv_iconst (v := 1) hx hb dX7_meets_202 (by decide) ?_
              refine lv_goto (tgt := 207) hx hb dX7_meets_203 (by decide) ?_
              refine g_zast (n := 40) hx hb hK hG hS (2, 9, 0) ⟨by decide, rfl⟩ 4 (fun _ => rfl) rfl (vp_in_nI (show k < 40 by omega) (by omega)) rfl dX7_meets_207 (fun H locs hG hS => ?_)
              rw [g_nIc (show k < 2147483648 by omega)] at hG
              refine lv_goto (tgt := 250) hx hb dX7_meets_208 (by decide) ?_
              refine lv_iinc (v := nI (k + 1)) (lv' := [(3, .int (nI (k + 1))), (4, .int (σ (1, 3, 0) ((((5 * (r).toInt) + (σ (1, 6, 0) k).toInt)).toNat))), (0, .ref (L (0, 0, 0))), (1, .int (r)), (2, .int (q))]) hx hb dX7_meets_250 hl (k := 1) rfl (nI_1 (k)) (by decide) rfl (fun ls hl => ?_)
              refine lv_goto (tgt := 2) hx hb dX7_meets_253 (by decide) ?_
              have e90 : m_meetsGo r (n + 1) k σ = m_meetsGo r n (k + 1) (g_up σ (2, 9, 0) (k) (1)) := (by rw [m_meetsGo_s]; unfold m_holdI; (repeat' split) <;> first | rfl | (exfalso; omega))
              rw [e90] at kk9
              exact ih (g_up σ (2, 9, 0) (k) (1)) (k + 1) H locs ls (by omega) (by exact hy) hG hS (lv_sub hl [0, 2, 3, 4] rfl) kk9
        · refine lv_tableOut (tgt := 211) hx hb dX7_meets_44 (by have := (show (σ (1, 5, 0) k : Int32).toInt = (σ (1, 5, 0) k).toInt from rfl); omega) (by decide) ?_
          refine lv_aload_n hx hb dX7_meets_211 rfl (lv_at hl 2 rfl) ?_
          refine g_get (C := RX7) (T := TX7) (N := 28) (v := .ref (L (2, 9, 0))) hx hb hts inX7g hown hK hG (0, 0, 0) ⟨rfl, rfl⟩ (m_at_0 cy L 0 0 (σ (0, 0, 0))) rfl 9 (by decide) fl_X7_28 rfl dX7_meets_212 ?_
          refine lv_iload_n hx hb dX7_meets_215 rfl (lv_at hl 1 rfl) ?_
          refine lv_aload_n hx hb dX7_meets_216 rfl (lv_at hl 2 rfl) ?_
          refine g_get (C := RX7) (T := TX7) (N := 28) (v := .ref (L (2, 9, 0))) hx hb hts inX7g hown hK hG (0, 0, 0) ⟨rfl, rfl⟩ (m_at_0 cy L 0 0 (σ (0, 0, 0))) rfl 9 (by decide) fl_X7_28 rfl dX7_meets_217 ?_
          refine lv_aload_n hx hb dX7_meets_220 rfl (lv_at hl 2 rfl) ?_
          refine g_get (C := RX7) (T := TX7) (N := 28) (v := .ref (L (1, 6, 0))) hx hb hts inX7g hown hK hG (0, 0, 0) ⟨rfl, rfl⟩ (m_at_0 cy L 0 0 (σ (0, 0, 0))) rfl 6 (by decide) fl_X7_19 rfl dX7_meets_221 ?_
          refine lv_iload_n hx hb dX7_meets_224 rfl (lv_at hl 1 rfl) ?_
          refine g_iald (n := 40) hx hb hK hG (1, 6, 0) ⟨by decide, rfl⟩ 0 rfl rfl (vp_in_nI (show k < 40 by omega) (by omega)) dX7_meets_225 ?_
          rw [g_nIc (show k < 2147483648 by omega)]
          refine g_zald (n := 40) hx hb hK hG (2, 9, 0) ⟨by decide, rfl⟩ 4 rfl rfl (g_vp (by omega) (by omega)) dX7_meets_226 ?_
          rw [show (σ (1, 6, 0) k : Int32).toNatClampNeg = ((σ (1, 6, 0) k).toInt).toNat from congrArg Int.toNat (show (σ (1, 6, 0) k : Int32).toInt = (σ (1, 6, 0) k).toInt from rfl)]
          refine kz_if_eq (X := (σ (2, 9, 0) (((σ (1, 6, 0) k).toInt).toNat)).toInt) hx hb rfl dX7_meets_227 (tgt := 248) (by decide) (fun c_227_19 => ?_) (fun c_227_19 => ?_)
          · refine lv_iconst (v := 0) hx hb dX7_meets_248 (by decide) ?_
            refine g_zast (n := 40) hx hb hK hG hS (2, 9, 0) ⟨by decide, rfl⟩ 4 (fun _ => rfl) rfl (vp_in_nI (show k < 40 by omega) (by omega)) rfl dX7_meets_249 (fun H locs hG hS => ?_)
            rw [g_nIc (show k < 2147483648 by omega)] at hG
            refine lv_iinc (v := nI (k + 1)) (lv' := [(3, .int (nI (k + 1))), (4, .int (σ (1, 3, 0) ((((5 * (r).toInt) + (σ (1, 6, 0) k).toInt)).toNat))), (0, .ref (L (0, 0, 0))), (1, .int (r)), (2, .int (q))]) hx hb dX7_meets_250 hl (k := 1) rfl (nI_1 (k)) (by decide) rfl (fun ls hl => ?_)
            refine lv_goto (tgt := 2) hx hb dX7_meets_253 (by decide) ?_
            have e90 : m_meetsGo r (n + 1) k σ = m_meetsGo r n (k + 1) (g_up σ (2, 9, 0) (k) (0)) := (by rw [m_meetsGo_s]; unfold m_holdI; (repeat' split) <;> first | rfl | (exfalso; omega))
            rw [e90] at kk9
            exact ih (g_up σ (2, 9, 0) (k) (0)) (k + 1) H locs ls (by omega) (by exact hy) hG hS (lv_sub hl [0, 2, 3, 4] rfl) kk9
          · refine lv_aload_n hx hb dX7_meets_230 rfl (lv_at hl 2 rfl) ?_
            refine g_get (C := RX7) (T := TX7) (N := 28) (v := .ref (L (2, 9, 0))) hx hb hts inX7g hown hK hG (0, 0, 0) ⟨rfl, rfl⟩ (m_at_0 cy L 0 0 (σ (0, 0, 0))) rfl 9 (by decide) fl_X7_28 rfl dX7_meets_231 ?_
            refine lv_aload_n hx hb dX7_meets_234 rfl (lv_at hl 2 rfl) ?_
            refine g_get (C := RX7) (T := TX7) (N := 28) (v := .ref (L (1, 7, 0))) hx hb hts inX7g hown hK hG (0, 0, 0) ⟨rfl, rfl⟩ (m_at_0 cy L 0 0 (σ (0, 0, 0))) rfl 7 (by decide) fl_X7_22 rfl dX7_meets_235 ?_
            refine lv_iload_n hx hb dX7_meets_238 rfl (lv_at hl 1 rfl) ?_
            refine g_iald (n := 40) hx hb hK hG (1, 7, 0) ⟨by decide, rfl⟩ 0 rfl rfl (vp_in_nI (show k < 40 by omega) (by omega)) dX7_meets_239 ?_
            rw [g_nIc (show k < 2147483648 by omega)]
            refine g_zald (n := 40) hx hb hK hG (2, 9, 0) ⟨by decide, rfl⟩ 4 rfl rfl (g_vp (by omega) (by omega)) dX7_meets_240 ?_
            rw [show (σ (1, 7, 0) k : Int32).toNatClampNeg = ((σ (1, 7, 0) k).toInt).toNat from congrArg Int.toNat (show (σ (1, 7, 0) k : Int32).toInt = (σ (1, 7, 0) k).toInt from rfl)]
            refine kz_if_ne (X := (σ (2, 9, 0) (((σ (1, 7, 0) k).toInt).toNat)).toInt) hx hb rfl dX7_meets_241 (tgt := 248) (by decide) (fun c_241_20 => ?_) (fun c_241_20 => ?_)
            · refine lv_iconst (v := 0) hx hb dX7_meets_248 (by decide) ?_
              refine g_zast (n := 40) hx hb hK hG hS (2, 9, 0) ⟨by decide, rfl⟩ 4 (fun _ => rfl) rfl (vp_in_nI (show k < 40 by omega) (by omega)) rfl dX7_meets_249 (fun H locs hG hS => ?_)
              rw [g_nIc (show k < 2147483648 by omega)] at hG
              refine lv_iinc (v := nI (k + 1)) (lv' := [(3, .int (nI (k + 1))), (4, .int (σ (1, 3, 0) ((((5 * (r).toInt) + (σ (1, 6, 0) k).toInt)).toNat))), (0, .ref (L (0, 0, 0))), (1, .int (r)), (2, .int (q))]) hx hb dX7_meets_250 hl (k := 1) rfl (nI_1 (k)) (by decide) rfl (fun ls hl => ?_)
              refine lv_goto (tgt := 2) hx hb dX7_meets_253 (by decide) ?_
              have e90 : m_meetsGo r (n + 1) k σ = m_meetsGo r n (k + 1) (g_up σ (2, 9, 0) (k) (0)) := (by rw [m_meetsGo_s]; unfold m_holdI; (repeat' split) <;> first | rfl | (exfalso; omega))
              rw [e90] at kk9
              exact ih (g_up σ (2, 9, 0) (k) (0)) (k + 1) H locs ls (by omega) (by exact hy) hG hS (lv_sub hl [0, 2, 3, 4] rfl) kk9
            · refine lv_iconst (v := 1) hx hb dX7_meets_244 (by decide) ?_
              refine lv_goto (tgt := 249) hx hb dX7_meets_245 (by decide) ?_
              refine g_zast (n := 40) hx hb hK hG hS (2, 9, 0) ⟨by decide, rfl⟩ 4 (fun _ => rfl) rfl (vp_in_nI (show k < 40 by omega) (by omega)) rfl dX7_meets_249 (fun H locs hG hS => ?_)
              rw [g_nIc (show k < 2147483648 by omega)] at hG
              refine lv_iinc (v := nI (k + 1)) (lv' := [(3, .int (nI (k + 1))), (4, .int (σ (1, 3, 0) ((((5 * (r).toInt) + (σ (1, 6, 0) k).toInt)).toNat))), (0, .ref (L (0, 0, 0))), (1, .int (r)), (2, .int (q))]) hx hb dX7_meets_250 hl (k := 1) rfl (nI_1 (k)) (by decide) rfl (fun ls hl => ?_)
              refine lv_goto (tgt := 2) hx hb dX7_meets_253 (by decide) ?_
              have e90 : m_meetsGo r (n + 1) k σ = m_meetsGo r n (k + 1) (g_up σ (2, 9, 0) (k) (1)) := (by rw [m_meetsGo_s]; unfold m_holdI; (repeat' split) <;> first | rfl | (exfalso; omega))
              rw [e90] at kk9
              exact ih (g_up σ (2, 9, 0) (k) (1)) (k + 1) H locs ls (by omega) (by exact hy) hG hS (lv_sub hl [0, 2, 3, 4] rfl) kk9
set_option maxHeartbeats 4000000 in
set_option maxRecDepth 100000 in
theorem c_X7_meets (l : Launch) (D : va_G) (cy : Nat → ClassId) (L : g_S → Nat) (σ : g_S → Nat → Int32) (r q : Int32) (hr9 : 0 ≤ r.toInt ∧ r.toInt < 100) (hq : 0 ≤ q.toInt ∧ q.toInt < 40) (hk : ∀ k, k ≤ q.toInt.toNat → m_kOK σ k) : m_Met l D cy L yX7_meets (.code yX7_meets cX7_meets 5 (some .boolean)) 1 σ [.ref (L (0, 0, 0)), .int (r), .int (q)] (some (.int (m_meets σ r q (2, 9, 0) ((q).toInt).toNat))) (m_meets σ r q) := by
  refine g_Met.of (by decide) (Nat.le_of_ble_eq_true rfl) ?_
  intro pg e s m below meth c hx hb hr hlk hml hown hts hK hN H locs hG hS ls hl
  have hown : s.vm.findClass RX7 = some m.cls := hown
  have hl : lv_has ls 5 [(0, .ref (L (0, 0, 0))), (1, .int (r)), (2, .int (q))] := hl
  refine lv_iconst (v := 0) hx hb dX7_meets_0 (by decide) ?_
  refine lv_istore_n (lv' := [(3, .int 0), (0, .ref (L (0, 0, 0))), (1, .int (r)), (2, .int (q))]) hx hb dX7_meets_1 rfl hl (by decide) rfl (fun ls hl => ?_)
  refine lp_meets l D cy L  ⟨hx, hb, hr, hlk, hml, hown, hts, hK, hN⟩ r q hr9 hq (q.toInt.toNat + 1) σ 0 H locs ls (by omega) hk hG hS (lv_sub hl [0, 1, 2, 3] rfl) (fun H locs ls hG hS hl => ?_)
  refine lv_aload_n hx hb dX7_meets_256 rfl (lv_at hl 0 rfl) ?_
  refine g_get (C := RX7) (T := TX7) (N := 28) (v := .ref (L (2, 9, 0))) hx hb hts inX7g hown hK hG (0, 0, 0) ⟨rfl, rfl⟩ (m_at_0 cy L 0 0 ((m_meets σ r q) (0, 0, 0))) rfl 9 (by decide) fl_X7_28 rfl dX7_meets_257 ?_
  refine lv_iload_n hx hb dX7_meets_260 rfl (lv_at hl 1 rfl) ?_
  refine g_zald (n := 40) hx hb hK hG (2, 9, 0) ⟨by decide, rfl⟩ 4 rfl rfl (g_vp (by omega) (by omega)) dX7_meets_261 ?_
  rw [show (q : Int32).toNatClampNeg = ((q).toInt).toNat from congrArg Int.toNat (show (q : Int32).toInt = (q).toInt from rfl)]
  exact s_zret hx hb hr hlk hG hS dX7_meets_262 (g_nar01 (m_meets_01 σ r q)) rfl rfl
set_option maxHeartbeats 4000000 in
set_option maxRecDepth 100000 in
theorem lp_msrch (l : Launch) (D : va_G) (cy : Nat → ClassId) (L : g_S → Nat) {pg : Program} {e : Env} {s : State} {m : MethodId} {args : Array Value} {below : List Frame} {meth : Method} {c : Code} {Q : State → Prop} (C0 : g_C pg s m meth c args cX7_search (some .int) 6 RX7 D (x_tys cy)) (u v q : Int32) (hu : 0 ≤ u.toInt ∧ u.toInt < 8) (hv5 : 0 ≤ v.toInt ∧ v.toInt ≤ 4) (hq : 0 ≤ q.toInt ∧ q.toInt < 40) (N : Nat) (hN9 : N ≤ 100) :
    ∀ (n : Nat) (σ : g_S → Nat → Int32) (r : Nat) (cn : Nat) (H : Heap) (locs : List Loc) (ls : Array Slot), (r + n = N ∧ cn ≤ r) → ((σ (0, 0, 0) 1).toInt = (N : Int) ∧ ∀ k, k ≤ q.toInt.toNat → m_kOK σ k) → g_H D vwCl m_dom L (fun z => m_K cy L z (σ z)) H → va_S (g_A m_dom L) s.heap H locs → lv_has ls 6 [(5, .int (nI r)), (4, .int (nI cn)), (0, .ref (L (0, 0, 0))), (1, .int (u)), (2, .int (q)), (3, .int (v))] →
    (∀ (H : Heap) (locs : List Loc) (ls : Array Slot), g_H D vwCl m_dom L (fun z => m_K cy L z ((m_srchGo u v q n r cn σ).1 z)) H → va_S (g_A m_dom L) s.heap H locs → lv_has ls 6 [(4, .int (nI ((m_srchGo u v q n r cn σ).2))), (0, .ref (L (0, 0, 0))), (1, .int (u)), (3, .int (v))] → W pg l e (g_R 3) s m args below meth c H locs 0 0 Q (F0 m 104 ls [])) →
    W pg l e (g_R 3) s m args below meth c H locs 0 0 Q (F0 m 55 ls []) := by
  obtain ⟨hx, hb, hr, hlk, hml, hown, hts, hK, hN⟩ := C0
  intro n
  induction n with
  | zero =>
    intro σ r cn H locs ls hv9 hy hG hS hl kk9
    obtain ⟨hc, hkA⟩ := hy
    have hz9 := g_nIT (show r < 2147483648 by omega)
    refine lv_iload hx hb dX7_search_55 (lv_at hl 0 rfl) ?_
    refine lv_aload_n hx hb dX7_search_57 rfl (lv_at hl 2 rfl) ?_
    refine g_get (C := RX7) (T := TX7) (N := 28) (v := .int (σ (0, 0, 0) 1)) hx hb hts inX7g hown hK hG (0, 0, 0) ⟨rfl, rfl⟩ (m_at_0 cy L 0 0 (σ (0, 0, 0))) rfl 1 (by decide) fl_X7_91 rfl dX7_search_58 ?_
    refine kz_icmp_ge (X := ((r : Nat) : Int)) (Y := (σ (0, 0, 0) 1).toInt) hx hb (g_nIT (by omega)) rfl dX7_search_61 (tgt := 104) (by decide) (fun c_61_1 => ?_) (fun c_61_1 => ?_)
    · exact kk9 H locs ls hG hS (lv_sub hl [1, 2, 3, 5] rfl)
    · exact absurd c_61_1 (by omega)
  | succ n ih =>
    intro σ r cn H locs ls hv9 hy hG hS hl kk9
    obtain ⟨hc, hkA⟩ := hy
    have hz9 := g_nIT (show r < 2147483648 by omega)
    refine lv_iload hx hb dX7_search_55 (lv_at hl 0 rfl) ?_
    refine lv_aload_n hx hb dX7_search_57 rfl (lv_at hl 2 rfl) ?_
    refine g_get (C := RX7) (T := TX7) (N := 28) (v := .int (σ (0, 0, 0) 1)) hx hb hts inX7g hown hK hG (0, 0, 0) ⟨rfl, rfl⟩ (m_at_0 cy L 0 0 (σ (0, 0, 0))) rfl 1 (by decide) fl_X7_91 rfl dX7_search_58 ?_
    refine kz_icmp_ge (X := ((r : Nat) : Int)) (Y := (σ (0, 0, 0) 1).toInt) hx hb (g_nIT (by omega)) rfl dX7_search_61 (tgt := 104) (by decide) (fun c_61_1 => ?_) (fun c_61_1 => ?_)
    · exact absurd c_61_1 (by omega)
    · refine lv_aload_n hx hb dX7_search_64 rfl (lv_at hl 2 rfl) ?_
      refine lv_iload hx hb dX7_search_65 (lv_at hl 0 rfl) ?_
      refine lv_iload_n hx hb dX7_search_67 rfl (lv_at hl 4 rfl) ?_
      refine g_cont (va_runV (As := [.int (nI r), .int (q)]) (rest := []) ⟨hx, hb, hml, hown, hts⟩ (c_X7_meets l D cy L σ (nI r) (q) ⟨by omega, by omega⟩ ⟨by omega, by omega⟩ hkA) (cwV 2 hts gV_X7_125 rfl rfl rfl (by decide +kernel) ⟨Nat.le_of_ble_eq_true rfl, Nat.le_of_ble_eq_true rfl⟩) (g_preV hK hN hG (x := (0, 0, 0)) ⟨rfl, rfl⟩ (q := (RX7, TX7, 28)) (m_at_0 cy L 0 0 (σ (0, 0, 0))) rfl) rfl rfl hl.1 rfl (lv_room (Nat.le_of_ble_eq_true rfl)) dX7_search_68 ⟨Nat.zero_le _, Nat.zero_le _⟩) hS (fun H locs hG hS => ?_)
      refine W.eq (g2 := F0 m 71 ls [.int (m_meets σ (nI r) (q) (2, 9, 0) ((q).toInt).toNat)]) rfl ?_
      refine kz_if_ne (X := (m_meets σ (nI r) (q) (2, 9, 0) ((q).toInt).toNat).toInt) hx hb rfl dX7_search_71 (tgt := 77) (by decide) (fun c_71_2 => ?_) (fun c_71_2 => ?_)
      · refine lv_aload_n hx hb dX7_search_77 rfl (lv_at hl 2 rfl) ?_
        refine g_get (C := RX7) (T := TX7) (N := 28) (v := .ref (L (1, 17, 0))) hx hb hts inX7g hown hK hG (0, 0, 0) ⟨rfl, rfl⟩ (m_at_0 cy L 0 0 ((m_meets σ (nI r) (q)) (0, 0, 0))) rfl 17 (by decide) fl_X7_50 rfl dX7_search_78 ?_
        refine lv_bipush (v := 100) hx hb dX7_search_81 (by decide) ?_
        refine lv_iconst (v := 5) hx hb dX7_search_83 (by decide) ?_
        refine lv_iload_n hx hb dX7_search_84 rfl (lv_at hl 3 rfl) ?_
        refine lv_imul hx hb dX7_search_85 ?_
        have z_3 : ((5) * (u)).toInt = (5 * (u).toInt) := g_mulZ (by decide) rfl (by omega) (by omega)
        refine lv_iload_n hx hb dX7_search_86 rfl (lv_at hl 5 rfl) ?_
        refine lv_iadd hx hb dX7_search_87 ?_
        have z_4 : (((5) * (u)) + (v)).toInt = ((5 * (u).toInt) + (v).toInt) := g_addZ z_3 rfl (by omega) (by omega)
        refine lv_imul hx hb dX7_search_88 ?_
        have z_5 : ((100) * (((5) * (u)) + (v))).toInt = (100 * ((5 * (u).toInt) + (v).toInt)) := g_mulZ (by decide) z_4 (by omega) (by omega)
        refine lv_iload hx hb dX7_search_89 (lv_at hl 1 rfl) ?_
        refine lv_iadd hx hb dX7_search_91 ?_
        have z_6 : (((100) * (((5) * (u)) + (v))) + (nI cn)).toInt = ((100 * ((5 * (u).toInt) + (v).toInt)) + ((cn : Nat) : Int)) := g_addZ z_5 (g_nIT (by omega)) (by omega) (by omega)
        refine lv_iload hx hb dX7_search_92 (lv_at hl 0 rfl) ?_
        refine g_iast (n := 4000) hx hb hK hG hS (1, 17, 0) ⟨by decide, rfl⟩ 0 (fun _ => rfl) rfl (g_vp (by have := (show (((100) * (((5) * (u)) + (v))) + (nI cn) : Int32).toInt = ((100 * ((5 * (u).toInt) + (v).toInt)) + ((cn : Nat) : Int)) from z_6); omega) (by have := (show (((100) * (((5) * (u)) + (v))) + (nI cn) : Int32).toInt = ((100 * ((5 * (u).toInt) + (v).toInt)) + ((cn : Nat) : Int)) from z_6); omega)) dX7_search_94 (fun H locs hG hS => ?_)
        rw [show (((100) * (((5) * (u)) + (v))) + (nI cn) : Int32).toNatClampNeg = (((100 * ((5 * (u).toInt) + (v).toInt)) + ((cn : Nat) : Int))).toNat from congrArg Int.toNat (show (((100) * (((5) * (u)) + (v))) + (nI cn) : Int32).toInt = ((100 * ((5 * (u).toInt) + (v).toInt)) + ((cn : Nat) : Int)) from z_6)] at hG
        refine lv_iinc (v := nI (cn + 1)) (lv' := [(4, .int (nI (cn + 1))), (5, .int (nI r)), (0, .ref (L (0, 0, 0))), (1, .int (u)), (2, .int (q)), (3, .int (v))]) hx hb dX7_search_95 hl (k := 1) rfl (nI_1 (cn)) (by decide) rfl (fun ls hl => ?_)
        refine lv_iinc (v := nI (r + 1)) (lv' := [(5, .int (nI (r + 1))), (4, .int (nI (cn + 1))), (0, .ref (L (0, 0, 0))), (1, .int (u)), (2, .int (q)), (3, .int (v))]) hx hb dX7_search_98 hl (k := 1) rfl (nI_1 (r)) (by decide) rfl (fun ls hl => ?_)
        refine lv_goto (tgt := 55) hx hb dX7_search_101 (by decide) ?_
        have e90 : m_srchGo u v q (n + 1) r cn σ = m_srchGo u v q n (r + 1) (cn + 1) (g_up (m_meets σ (nI r) (q)) (1, 17, 0) ((((100 * ((5 * (u).toInt) + (v).toInt)) + ((cn : Nat) : Int))).toNat) (nI r)) := (by rw [m_srchGo_s]; first | (rw [if_pos (by omega)]) | (rw [if_neg (by omega)]))
        rw [e90] at kk9
        exact ih (g_up (m_meets σ (nI r) (q)) (1, 17, 0) ((((100 * ((5 * (u).toInt) + (v).toInt)) + ((cn : Nat) : Int))).toNat) (nI r)) (r + 1) (cn + 1) H locs ls (by omega) ⟨by first | (rw [m_meets_row (by decide)]; exact hc) | (rw [g_up_row (by decide), m_meets_row (by decide)]; exact hc), fun k h => by first | exact m_kOK_meets (hkA k h) | exact (m_kOK_meets (r := nI r) (q := q) (hkA k h))⟩ hG hS (lv_sub hl [0, 1, 2, 3, 4, 5] rfl) kk9
      · refine lv_goto (tgt := 98) hx hb dX7_search_74 (by decide) ?_
        refine lv_iinc (v := nI (r + 1)) (lv' := [(5, .int (nI (r + 1))), (4, .int (nI cn)), (0, .ref (L (0, 0, 0))), (1, .int (u)), (2, .int (q)), (3, .int (v))]) hx hb dX7_search_98 hl (k := 0) rfl (nI_1 (r)) (by decide) rfl (fun ls hl => ?_)
        refine lv_goto (tgt := 55) hx hb dX7_search_101 (by decide) ?_
        have e90 : m_srchGo u v q (n + 1) r cn σ = m_srchGo u v q n (r + 1) (cn) (m_meets σ (nI r) (q)) := (by rw [m_srchGo_s]; first | (rw [if_pos (by omega)]) | (rw [if_neg (by omega)]))
        rw [e90] at kk9
        exact ih (m_meets σ (nI r) (q)) (r + 1) (cn) H locs ls (by omega) ⟨by first | (rw [m_meets_row (by decide)]; exact hc) | (rw [g_up_row (by decide), m_meets_row (by decide)]; exact hc), fun k h => by first | exact m_kOK_meets (hkA k h) | exact (m_kOK_meets (r := nI r) (q := q) (hkA k h))⟩ hG hS (lv_sub hl [0, 1, 2, 3, 4, 5] rfl) kk9
set_option maxHeartbeats 4000000 in
set_option maxRecDepth 100000 in
theorem c_X7_search (l : Launch) (D : va_G) (cy : Nat → ClassId) (L : g_S → Nat) (σ : g_S → Nat → Int32) (τ : g_S → Nat → Int32) (hτ : g_up σ (0, 0, 0) 0 0 = τ) (u q v : Int32) (n0 : 0 ≤ (τ (0, 0, 0) 1).toInt) (n1 : (τ (0, 0, 0) 1).toInt ≤ 100) (q0 : 0 ≤ (τ (0, 0, 0) 4).toInt) (q1 : (τ (0, 0, 0) 4).toInt ≤ 40) (s0 : 0 ≤ (τ (0, 0, 0) 10).toInt) (s1 : (τ (0, 0, 0) 10).toInt ≤ 8) (hkA : ∀ k : Nat, (k : Int) < (τ (0, 0, 0) 4).toInt → m_kOK τ k) : m_Met l D cy L yX7_search (.code yX7_search cX7_search 6 (some .int)) 3 σ [.ref (L (0, 0, 0)), .int (u), .int (q), .int (v)] (some (.int (m_searchR τ u q v))) (m_searchM τ u q v) := by
  refine g_Met.of (by decide) (Nat.le_of_ble_eq_true rfl) ?_
  intro pg e s m below meth c hx hb hr hlk hml hown hts hK hN H locs hG hS ls hl
  have hown : s.vm.findClass RX7 = some m.cls := hown
  have hl : lv_has ls 6 [(0, .ref (L (0, 0, 0))), (1, .int (u)), (2, .int (q)), (3, .int (v))] := hl
  refine lv_aload_n hx hb dX7_search_0 rfl (lv_at hl 0 rfl) ?_
  refine lv_iconst (v := 0) hx hb dX7_search_1 (by decide) ?_
  refine g_puti (C := RX7) (T := TX7) (N := 28) (v := 0) (ty := .int) hx hb hts inX7g tyX7_ok nmX7 hown hK hG hS (0, 0, 0) ⟨rfl, rfl⟩ (m_at_0 cy L 0 0 (σ (0, 0, 0))) rfl 0 (by decide) (m_up_0_0 cy L 0 0 (σ (0, 0, 0)) (0)) fl_X7_83 rfl (by decide +kernel) rfl rfl (Nat.le_of_ble_eq_true rfl) dX7_search_2 (fun H locs hG hS => ?_)
  rw [hτ] at hG
  refine lv_aload_n hx hb dX7_search_5 rfl (lv_at hl 0 rfl) ?_
  refine lv_iload_n hx hb dX7_search_6 rfl (lv_at hl 1 rfl) ?_
  refine g_cont (va_runV (As := [.int (u)]) (rest := []) ⟨hx, hb, hml, hown, hts⟩ (c_X7_isOpen l D cy L τ (u) s0 s1) (cwV 1 hts gV_X7_118 rfl rfl rfl (by decide +kernel) ⟨Nat.le_of_ble_eq_true rfl, Nat.le_of_ble_eq_true rfl⟩) (g_preV hK hN hG (x := (0, 0, 0)) ⟨rfl, rfl⟩ (q := (RX7, TX7, 28)) (m_at_0 cy L 0 0 (τ (0, 0, 0))) rfl) rfl rfl hl.1 rfl (lv_room (Nat.le_of_ble_eq_true rfl)) dX7_search_7 ⟨Nat.zero_le _, Nat.zero_le _⟩) hS (fun H locs hG hS => ?_)
  refine W.eq (g2 := F0 m 10 ls [.int (g_b ((0 ≤ (u).toInt ∧ (u).toInt ≤ ((τ (0, 0, 0) 10).toInt - 1)) ∧ (τ (2, 13, 0) ((u).toInt).toNat).toInt = 0))]) rfl ?_
  refine kz_b_ne (tgt := 16) hx hb dX7_search_10 (by decide) (fun c_10_1 => ?_) (fun c_10_1 => ?_)
  · refine lv_aload_n hx hb dX7_search_16 rfl (lv_at hl 0 rfl) ?_
    refine lv_iload_n hx hb dX7_search_17 rfl (lv_at hl 2 rfl) ?_
    refine g_cont (va_runV (As := [.int (q)]) (rest := []) ⟨hx, hb, hml, hown, hts⟩ (c_X7_isQuestion l D cy L τ (q) q0 q1) (cwV 1 hts gV_X7_104 rfl rfl rfl (by decide +kernel) ⟨Nat.le_of_ble_eq_true rfl, Nat.le_of_ble_eq_true rfl⟩) (g_preV hK hN hG (x := (0, 0, 0)) ⟨rfl, rfl⟩ (q := (RX7, TX7, 28)) (m_at_0 cy L 0 0 (τ (0, 0, 0))) rfl) rfl rfl hl.1 rfl (lv_room (Nat.le_of_ble_eq_true rfl)) dX7_search_18 ⟨Nat.zero_le _, Nat.zero_le _⟩) hS (fun H locs hG hS => ?_)
    refine W.eq (g2 := F0 m 21 ls [.int (g_b (0 ≤ (q).toInt ∧ (q).toInt ≤ ((τ (0, 0, 0) 4).toInt - 1)))]) rfl ?_
    refine kz_b_ne (tgt := 32) hx hb dX7_search_21 (by decide) (fun c_21_2 => ?_) (fun c_21_2 => ?_)
    · refine lv_aload_n hx hb dX7_search_32 rfl (lv_at hl 0 rfl) ?_
      refine lv_iload_n hx hb dX7_search_33 rfl (lv_at hl 1 rfl) ?_
      refine lv_iload_n hx hb dX7_search_34 rfl (lv_at hl 3 rfl) ?_
      refine g_cont (va_runV (As := [.int (u), .int (v)]) (rest := []) ⟨hx, hb, hml, hown, hts⟩ (c_X7_isName l D cy L τ (u) (v) ⟨by omega, by omega⟩) (cwV 2 hts gV_X7_114 rfl rfl rfl (by decide +kernel) ⟨Nat.le_of_ble_eq_true rfl, Nat.le_of_ble_eq_true rfl⟩) (g_preV hK hN hG (x := (0, 0, 0)) ⟨rfl, rfl⟩ (q := (RX7, TX7, 28)) (m_at_0 cy L 0 0 (τ (0, 0, 0))) rfl) rfl rfl hl.1 rfl (lv_room (Nat.le_of_ble_eq_true rfl)) dX7_search_35 ⟨Nat.zero_le _, Nat.zero_le _⟩) hS (fun H locs hG hS => ?_)
      refine W.eq (g2 := F0 m 38 ls [.int (g_b (0 ≤ (v).toInt ∧ (v).toInt ≤ (if (τ (1, 11, 0) ((u).toInt).toNat &&& 4).toInt = 4 then (4 : Int) else 0)))]) rfl ?_
      refine kz_b_ne (tgt := 49) hx hb dX7_search_38 (by decide) (fun c_38_3 => ?_) (fun c_38_3 => ?_)
      · have hnm9 : (v).toInt ≤ (if (τ (1, 11, 0) ((u).toInt).toNat &&& 4).toInt = 4 then (4 : Int) else 0) := by omega
        refine lv_iconst (v := 0) hx hb dX7_search_49 (by decide) ?_
        refine lv_istore (lv' := [(4, .int 0), (0, .ref (L (0, 0, 0))), (1, .int (u)), (2, .int (q)), (3, .int (v))]) hx hb dX7_search_50 hl (by decide) rfl (fun ls hl => ?_)
        refine lv_iconst (v := 0) hx hb dX7_search_52 (by decide) ?_
        refine lv_istore (lv' := [(5, .int 0), (4, .int 0), (0, .ref (L (0, 0, 0))), (1, .int (u)), (2, .int (q)), (3, .int (v))]) hx hb dX7_search_53 hl (by decide) rfl (fun ls hl => ?_)
        refine lp_msrch l D cy L ⟨hx, hb, hr, hlk, hml, hown, hts, hK, hN⟩ u v q ⟨by omega, by omega⟩ ⟨by omega, by split at hnm9 <;> omega⟩ ⟨by omega, by omega⟩ (τ (0, 0, 0) 1).toInt.toNat (by omega) (τ (0, 0, 0) 1).toInt.toNat τ 0 0 H locs ls ⟨by omega, by omega⟩ ⟨by omega, fun k h => hkA k (by omega)⟩ hG hS (lv_sub hl [0, 1, 2, 3, 4, 5] rfl) (fun H locs ls hG hS hl => ?_)
        have hle := m_srchGo_le u v q (τ (0, 0, 0) 1).toInt.toNat 0 0 τ
        have hle : (m_srch τ u v q).2 ≤ 0 + (τ (0, 0, 0) 1).toInt.toNat := hle
        refine lv_aload_n hx hb dX7_search_104 rfl (lv_at hl 1 rfl) ?_
        refine g_get (C := RX7) (T := TX7) (N := 28) (v := .ref (L (1, 16, 0))) hx hb hts inX7g hown hK hG (0, 0, 0) ⟨rfl, rfl⟩ (m_at_0 cy L 0 0 ((m_srch τ u v q).1 (0, 0, 0))) rfl 16 (by decide) fl_X7_47 rfl dX7_search_105 ?_
        refine lv_iconst (v := 5) hx hb dX7_search_108 (by decide) ?_
        refine lv_iload_n hx hb dX7_search_109 rfl (lv_at hl 2 rfl) ?_
        refine lv_imul hx hb dX7_search_110 ?_
        have z_4 : ((5) * (u)).toInt = (5 * (u).toInt) := g_mulZ (by decide) rfl (by omega) (by omega)
        refine lv_iload_n hx hb dX7_search_111 rfl (lv_at hl 3 rfl) ?_
        refine lv_iadd hx hb dX7_search_112 ?_
        have z_5 : (((5) * (u)) + (v)).toInt = ((5 * (u).toInt) + (v).toInt) := g_addZ z_4 rfl (by omega) (by omega)
        refine lv_iload hx hb dX7_search_113 (lv_at hl 0 rfl) ?_
        refine g_iast (n := 40) hx hb hK hG hS (1, 16, 0) ⟨by decide, rfl⟩ 0 (fun _ => rfl) rfl (g_vp (by have := (show (((5) * (u)) + (v) : Int32).toInt = ((5 * (u).toInt) + (v).toInt) from z_5); omega) (by have := (show (((5) * (u)) + (v) : Int32).toInt = ((5 * (u).toInt) + (v).toInt) from z_5); omega)) dX7_search_115 (fun H locs hG hS => ?_)
        rw [show (((5) * (u)) + (v) : Int32).toNatClampNeg = (((5 * (u).toInt) + (v).toInt)).toNat from congrArg Int.toNat (show (((5) * (u)) + (v) : Int32).toInt = ((5 * (u).toInt) + (v).toInt) from z_5)] at hG
        refine lv_iload hx hb dX7_search_116 (lv_at hl 0 rfl) ?_
        refine kz_if_ne (X := (((m_srch τ u v q).2 : Nat) : Int)) hx hb (g_nIT (by omega)) dX7_search_118 (tgt := 131) (by decide) (fun c_118_6 => ?_) (fun c_118_6 => ?_)
        · refine lv_iload hx hb dX7_search_131 (lv_at hl 0 rfl) ?_
          exact s_iret hx hb hr hlk hG hS dX7_search_133 (by unfold m_searchR; (repeat' split) <;> first | rfl | (exfalso; omega)) (by unfold m_searchM m_srchM; (repeat' split) <;> first | rfl | (exfalso; omega))
        · refine lv_aload_n hx hb dX7_search_121 rfl (lv_at hl 1 rfl) ?_
          refine lv_iload_n hx hb dX7_search_122 rfl (lv_at hl 2 rfl) ?_
          refine lv_bipush (v := 108) hx hb dX7_search_123 (by decide) ?_
          refine g_cont (va_runV (As := [.int (u), .int 108]) (rest := []) ⟨hx, hb, hml, hown, hts⟩ (c_X7_tell l D cy L (g_up (m_srch τ u v q).1 (1, 16, 0) ((((5 * (u).toInt) + (v).toInt)).toNat) (nI ((m_srch τ u v q).2))) (u) (108) ⟨by omega, by omega⟩) (cwV 2 hts gV_X7_121 rfl rfl rfl (by decide +kernel) ⟨Nat.le_of_ble_eq_true rfl, Nat.le_of_ble_eq_true rfl⟩) (g_preV hK hN hG (x := (0, 0, 0)) ⟨rfl, rfl⟩ (q := (RX7, TX7, 28)) (m_at_0 cy L 0 0 ((g_up (m_srch τ u v q).1 (1, 16, 0) ((((5 * (u).toInt) + (v).toInt)).toNat) (nI ((m_srch τ u v q).2))) (0, 0, 0))) rfl) rfl rfl hl.1 rfl (lv_room (Nat.le_of_ble_eq_true rfl)) dX7_search_125 ⟨Nat.zero_le _, Nat.zero_le _⟩) hS (fun H locs hG hS => ?_)
          refine W.eq (g2 := F0 m 128 ls [.int (-(108))]) rfl ?_
          refine lv_goto (tgt := 133) hx hb dX7_search_128 (by decide) ?_
          exact s_iret hx hb hr hlk hG hS dX7_search_133 (by unfold m_searchR; (repeat' split) <;> first | rfl | (exfalso; omega)) (by unfold m_searchM m_srchM; (repeat' split) <;> first | rfl | (exfalso; omega))
      · refine lv_aload_n hx hb dX7_search_41 rfl (lv_at hl 0 rfl) ?_
        refine lv_iload_n hx hb dX7_search_42 rfl (lv_at hl 1 rfl) ?_
        refine lv_bipush (v := 104) hx hb dX7_search_43 (by decide) ?_
        refine g_cont (va_runV (As := [.int (u), .int 104]) (rest := []) ⟨hx, hb, hml, hown, hts⟩ (c_X7_tell l D cy L τ (u) (104) ⟨by omega, by omega⟩) (cwV 2 hts gV_X7_121 rfl rfl rfl (by decide +kernel) ⟨Nat.le_of_ble_eq_true rfl, Nat.le_of_ble_eq_true rfl⟩) (g_preV hK hN hG (x := (0, 0, 0)) ⟨rfl, rfl⟩ (q := (RX7, TX7, 28)) (m_at_0 cy L 0 0 (τ (0, 0, 0))) rfl) rfl rfl hl.1 rfl (lv_room (Nat.le_of_ble_eq_true rfl)) dX7_search_45 ⟨Nat.zero_le _, Nat.zero_le _⟩) hS (fun H locs hG hS => ?_)
        refine W.eq (g2 := F0 m 48 ls [.int (-(104))]) rfl ?_
        exact s_iret hx hb hr hlk hG hS dX7_search_48 (by unfold m_searchR; (repeat' split) <;> first | rfl | (exfalso; omega)) (by unfold m_searchM m_srchM; (repeat' split) <;> first | rfl | (exfalso; omega))
    · refine lv_aload_n hx hb dX7_search_24 rfl (lv_at hl 0 rfl) ?_
      refine lv_iload_n hx hb dX7_search_25 rfl (lv_at hl 1 rfl) ?_
      refine lv_bipush (v := 103) hx hb dX7_search_26 (by decide) ?_
      refine g_cont (va_runV (As := [.int (u), .int 103]) (rest := []) ⟨hx, hb, hml, hown, hts⟩ (c_X7_tell l D cy L τ (u) (103) ⟨by omega, by omega⟩) (cwV 2 hts gV_X7_121 rfl rfl rfl (by decide +kernel) ⟨Nat.le_of_ble_eq_true rfl, Nat.le_of_ble_eq_true rfl⟩) (g_preV hK hN hG (x := (0, 0, 0)) ⟨rfl, rfl⟩ (q := (RX7, TX7, 28)) (m_at_0 cy L 0 0 (τ (0, 0, 0))) rfl) rfl rfl hl.1 rfl (lv_room (Nat.le_of_ble_eq_true rfl)) dX7_search_28 ⟨Nat.zero_le _, Nat.zero_le _⟩) hS (fun H locs hG hS => ?_)
      refine W.eq (g2 := F0 m 31 ls [.int (-(103))]) rfl ?_
      exact s_iret hx hb hr hlk hG hS dX7_search_31 (by unfold m_searchR; (repeat' split) <;> first | rfl | (exfalso; omega)) (by unfold m_searchM m_srchM; (repeat' split) <;> first | rfl | (exfalso; omega))
  · refine lv_bipush (v := (-101)) hx hb dX7_search_13 (by decide) ?_
    exact s_iret hx hb hr hlk hG hS dX7_search_15 (by unfold m_searchR; (repeat' split) <;> first | rfl | (exfalso; omega)) (by unfold m_searchM m_srchM; (repeat' split) <;> first | rfl | (exfalso; omega))
