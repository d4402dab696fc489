/-! the reference: sorting -/
def m_mI (bz : Int) (N : Nat) (σ : g_S → Nat → Int32) : Prop := ∀ t : Nat, t < N → 0 ≤ (σ (1, 17, 0) (bz + (t : Int)).toNat).toInt ∧ (σ (1, 17, 0) (bz + (t : Int)).toNat).toInt < 100
theorem m_mI_up {bz : Int} {N i : Nat} {σ : g_S → Nat → Int32} {val : Int32} (h : m_mI bz N σ) (hv : 0 ≤ val.toInt ∧ val.toInt < 100) : m_mI bz N (g_up σ (1, 17, 0) i val) := by
  intro t ht
  rw [g_up_at, if_pos rfl]
  split
  · exact hv
  · exact h t ht
def m_inGo (bz : Int) (rr x down : Int32) : Nat → (g_S → Nat → Int32) → (g_S → Nat → Int32) × Nat
  | 0, σ => (σ, 0)
  | h + 1, σ => if (σ (1, 3, 0) ((5 * (rr).toInt) + (x).toInt).toNat).toInt < 0 ∨ (0 ≤ (σ (1, 3, 0) ((5 * ((σ (1, 17, 0) ((bz + ((h + 1 : Nat) : Int)) - 1).toNat)).toInt) + (x).toInt).toNat).toInt ∧ ((¬ (down).toInt = 0 ∧ (σ (1, 3, 0) ((5 * (rr).toInt) + (x).toInt).toNat).toInt ≤ (σ (1, 3, 0) ((5 * ((σ (1, 17, 0) ((bz + ((h + 1 : Nat) : Int)) - 1).toNat)).toInt) + (x).toInt).toNat).toInt) ∨ ((down).toInt = 0 ∧ (σ (1, 3, 0) ((5 * ((σ (1, 17, 0) ((bz + ((h + 1 : Nat) : Int)) - 1).toNat)).toInt) + (x).toInt).toNat).toInt ≤ (σ (1, 3, 0) ((5 * (rr).toInt) + (x).toInt).toNat).toInt))) then (σ, h + 1) else m_inGo bz rr x down h (g_up σ (1, 17, 0) (bz + ((h + 1 : Nat) : Int)).toNat (σ (1, 17, 0) ((bz + ((h + 1 : Nat) : Int)) - 1).toNat))
theorem m_inGo_s (bz : Int) (rr x down : Int32) (h : Nat) (σ : g_S → Nat → Int32) : m_inGo bz rr x down (h + 1) σ = if (σ (1, 3, 0) ((5 * (rr).toInt) + (x).toInt).toNat).toInt < 0 ∨ (0 ≤ (σ (1, 3, 0) ((5 * ((σ (1, 17, 0) ((bz + ((h + 1 : Nat) : Int)) - 1).toNat)).toInt) + (x).toInt).toNat).toInt ∧ ((¬ (down).toInt = 0 ∧ (σ (1, 3, 0) ((5 * (rr).toInt) + (x).toInt).toNat).toInt ≤ (σ (1, 3, 0) ((5 * ((σ (1, 17, 0) ((bz + ((h + 1 : Nat) : Int)) - 1).toNat)).toInt) + (x).toInt).toNat).toInt) ∨ ((down).toInt = 0 ∧ (σ (1, 3, 0) ((5 * ((σ (1, 17, 0) ((bz + ((h + 1 : Nat) : Int)) - 1).toNat)).toInt) + (x).toInt).toNat).toInt ≤ (σ (1, 3, 0) ((5 * (rr).toInt) + (x).toInt).toNat).toInt))) then (σ, h + 1) else m_inGo bz rr x down h (g_up σ (1, 17, 0) (bz + ((h + 1 : Nat) : Int)).toNat (σ (1, 17, 0) ((bz + ((h + 1 : Nat) : Int)) - 1).toNat)) := rfl
theorem m_inGo_row (bz : Int) (rr x down : Int32) {y : g_S} (hy : y ≠ (1, 17, 0)) : ∀ (h : Nat) (σ : g_S → Nat → Int32), (m_inGo bz rr x down h σ).1 y = σ y := by
  intro h
  induction h with
  | zero => intro σ; rfl
  | succ h ih =>
    intro σ
    rw [m_inGo_s]
    split
    · rfl
    · rw [ih, g_up_row hy]
theorem m_inGo_le (bz : Int) (rr x down : Int32) : ∀ (h : Nat) (σ : g_S → Nat → Int32), (m_inGo bz rr x down h σ).2 ≤ h := by
  intro h
  induction h with
  | zero => intro σ; exact Nat.le_refl 0
  | succ h ih =>
    intro σ
    rw [m_inGo_s]
    split
    · exact Nat.le_refl _
    · exact Nat.le_succ_of_le (ih _)
theorem m_inGo_mI (bz : Int) (rr x down : Int32) (N : Nat) : ∀ (h : Nat) (σ : g_S → Nat → Int32), h < N → m_mI bz N σ → m_mI bz N (m_inGo bz rr x down h σ).1 := by
  intro h
  induction h with
  | zero => intro σ _ hm; exact hm
  | succ h ih =>
    intro σ hN hm
    rw [m_inGo_s]
    split
    · exact hm
    · have h9 := hm h (by omega)
      rw [show bz + (h : Int) = (bz + ((h + 1 : Nat) : Int)) - 1 by omega] at h9
      exact ih _ (by omega) (m_mI_up hm h9)
def m_sortGo (bz : Int) (x down : Int32) : Nat → Nat → Int32 → (g_S → Nat → Int32) → (g_S → Nat → Int32) × Int32
  | 0, _, acc, σ => (σ, acc)
  | n + 1, k, acc, σ => m_sortGo bz x down n (k + 1) (acc + (if 0 ≤ (σ (1, 3, 0) ((5 * ((σ (1, 17, 0) (bz + ((k : Nat) : Int)).toNat)).toInt) + (x).toInt).toNat).toInt then 0 else 1)) (g_up (m_inGo bz (σ (1, 17, 0) (bz + ((k : Nat) : Int)).toNat) x down k σ).1 (1, 17, 0) (bz + (((m_inGo bz (σ (1, 17, 0) (bz + ((k : Nat) : Int)).toNat) x down k σ).2 : Nat) : Int)).toNat (σ (1, 17, 0) (bz + ((k : Nat) : Int)).toNat))
theorem m_sortGo_s (bz : Int) (x down : Int32) (n k : Nat) (acc : Int32) (σ : g_S → Nat → Int32) : m_sortGo bz x down (n + 1) k acc σ = m_sortGo bz x down n (k + 1) (acc + (if 0 ≤ (σ (1, 3, 0) ((5 * ((σ (1, 17, 0) (bz + ((k : Nat) : Int)).toNat)).toInt) + (x).toInt).toNat).toInt then 0 else 1)) (g_up (m_inGo bz (σ (1, 17, 0) (bz + ((k : Nat) : Int)).toNat) x down k σ).1 (1, 17, 0) (bz + (((m_inGo bz (σ (1, 17, 0) (bz + ((k : Nat) : Int)).toNat) x down k σ).2 : Nat) : Int)).toNat (σ (1, 17, 0) (bz + ((k : Nat) : Int)).toNat)) := rfl
def m_sort (σ : g_S → Nat → Int32) (u v x down : Int32) : (g_S → Nat → Int32) × Int32 := m_sortGo (100 * ((5 * (u).toInt) + (v).toInt)) x down (σ (1, 16, 0) ((5 * (u).toInt) + (v).toInt).toNat).toInt.toNat 0 0 σ
def m_sortR (σ : g_S → Nat → Int32) (u v x down : Int32) : Int32 := if (0 ≤ (u).toInt ∧ (u).toInt ≤ ((σ (0, 0, 0) 10).toInt - 1)) ∧ (σ (2, 13, 0) ((u).toInt).toNat).toInt = 0 then (if ¬ (σ (1, 11, 0) ((u).toInt).toNat &&& 1).toInt = 0 then (if (0 ≤ (v).toInt ∧ (v).toInt ≤ (if (σ (1, 11, 0) ((u).toInt).toNat &&& 4).toInt = 4 then (4 : Int) else 0)) ∧ 0 ≤ (σ (1, 16, 0) ((5 * (u).toInt) + (v).toInt).toNat).toInt then (if 0 ≤ (x).toInt ∧ (x).toInt ≤ 4 then (m_sort σ u v x down).2 else -106) else -104) else -102) else -101
def m_sortM (σ : g_S → Nat → Int32) (u v x down : Int32) : g_S → Nat → Int32 := if (0 ≤ (u).toInt ∧ (u).toInt ≤ ((σ (0, 0, 0) 10).toInt - 1)) ∧ (σ (2, 13, 0) ((u).toInt).toNat).toInt = 0 then (if ¬ (σ (1, 11, 0) ((u).toInt).toNat &&& 1).toInt = 0 then (if (0 ≤ (v).toInt ∧ (v).toInt ≤ (if (σ (1, 11, 0) ((u).toInt).toNat &&& 4).toInt = 4 then (4 : Int) else 0)) ∧ 0 ≤ (σ (1, 16, 0) ((5 * (u).toInt) + (v).toInt).toNat).toInt then (if 0 ≤ (x).toInt ∧ (x).toInt ≤ 4 then (m_sort σ u v x down).1 else m_tellM σ u 106) else m_tellM σ u 104) else m_tellM σ u 102) else σ
set_option maxHeartbeats 4000000 in
set_option maxRecDepth 100000 in
theorem c_X7_isBehind (l : Launch) (D : va_G) (cy : Nat → ClassId) (L : g_S → Nat) (σ : g_S → Nat → Int32) (r b x down : Int32) (hr9 : 0 ≤ r.toInt ∧ r.toInt < 100) (hb9 : 0 ≤ b.toInt ∧ b.toInt < 100) (hx9 : 0 ≤ x.toInt ∧ x.toInt ≤ 4) : m_Met l D cy L yX7_isBehind (.code yX7_isBehind cX7_isBehind 7 (some .boolean)) 0 σ [.ref (L (0, 0, 0)), .int (r), .int (b), .int (x), .int (down)] (some (.int (g_b ((σ (1, 3, 0) ((5 * (r).toInt) + (x).toInt).toNat).toInt < 0 ∨ (0 ≤ (σ (1, 3, 0) ((5 * (b).toInt) + (x).toInt).toNat).toInt ∧ ((¬ (down).toInt = 0 ∧ (σ (1, 3, 0) ((5 * (r).toInt) + (x).toInt).toNat).toInt ≤ (σ (1, 3, 0) ((5 * (b).toInt) + (x).toInt).toNat).toInt) ∨ ((down).toInt = 0 ∧ (σ (1, 3, 0) ((5 * (b).toInt) + (x).toInt).toNat).toInt ≤ (σ (1, 3, 0) ((5 * (r).toInt) + (x).toInt).toNat).toInt))))))) σ := by
  refine g_Met.of (by decide) (Nat.le_of_ble_eq_true rfl) ?_
  intro pg e s m below meth c hx hb hr hlk hml hown hts hK hN H locs hG hS ls hl
  have hown : s.vm.findClass RX7 = some m.cls := hown
  have hl : lv_has ls 7 [(0, .ref (L (0, 0, 0))), (1, .int (r)), (2, .int (b)), (3, .int (x)), (4, .int (down))] := hl
  refine lv_aload_n hx hb dX7_isBehind_0 rfl (lv_at hl 0 rfl) ?_
  refine g_get (C := RX7) (T := TX7) (N := 28) (v := .ref (L (1, 3, 0))) hx hb hts inX7g hown hK hG (0, 0, 0) ⟨rfl, rfl⟩ (m_at_0 cy L 0 0 (σ (0, 0, 0))) rfl 3 (by decide) fl_X7_13 rfl dX7_isBehind_1 ?_
  refine lv_iconst (v := 5) hx hb dX7_isBehind_4 (by decide) ?_
  refine lv_iload_n hx hb dX7_isBehind_5 rfl (lv_at hl 1 rfl) ?_
  refine lv_imul hx hb dX7_isBehind_6 ?_
  have z_1 : ((5) * (r)).toInt = (5 * (r).toInt) := g_mulZ (by decide) rfl (by omega) (by omega)
  refine lv_iload_n hx hb dX7_isBehind_7 rfl (lv_at hl 3 rfl) ?_
  refine lv_iadd hx hb dX7_isBehind_8 ?_
  have z_2 : (((5) * (r)) + (x)).toInt = ((5 * (r).toInt) + (x).toInt) := g_addZ z_1 rfl (by omega) (by omega)
  refine g_iald (n := 500) hx hb hK hG (1, 3, 0) ⟨by decide, rfl⟩ 0 rfl rfl (g_vp (by have := (show (((5) * (r)) + (x) : Int32).toInt = ((5 * (r).toInt) + (x).toInt) from z_2); omega) (by have := (show (((5) * (r)) + (x) : Int32).toInt = ((5 * (r).toInt) + (x).toInt) from z_2); omega)) dX7_isBehind_9 ?_
  rw [show (((5) * (r)) + (x) : Int32).toNatClampNeg = (((5 * (r).toInt) + (x).toInt)).toNat from congrArg Int.toNat (show (((5) * (r)) + (x) : Int32).toInt = ((5 * (r).toInt) + (x).toInt) from z_2)]
  refine lv_istore (lv' := [(5, .int (σ (1, 3, 0) ((((5 * (r).toInt) + (x).toInt)).toNat))), (0, .ref (L (0, 0, 0))), (1, .int (r)), (2, .int (b)), (3, .int (x)), (4, .int (down))]) hx hb dX7_isBehind_10 hl (by decide) rfl (fun ls hl => ?_)
  refine lv_aload_n hx hb dX7_isBehind_12 rfl (lv_at hl 1 rfl) ?_
  refine g_get (C := RX7) (T := TX7) (N := 28) (v := .ref (L (1, 3, 0))) hx hb hts inX7g hown hK hG (0, 0, 0) ⟨rfl, rfl⟩ (m_at_0 cy L 0 0 (σ (0, 0, 0))) rfl 3 (by decide) fl_X7_13 rfl dX7_isBehind_13 ?_
  refine lv_iconst (v := 5) hx hb dX7_isBehind_16 (by decide) ?_
  refine lv_iload_n hx hb dX7_isBehind_17 rfl (lv_at hl 3 rfl) ?_
  refine lv_imul hx hb dX7_isBehind_18 ?_
  have z_3 : ((5) * (b)).toInt = (5 * (b).toInt) := g_mulZ (by decide) rfl (by omega) (by omega)
  refine lv_iload_n hx hb dX7_isBehind_19 rfl (lv_at hl 4 rfl) ?_
  refine lv_iadd hx hb dX7_isBehind_20 ?_
  have z_4 : (((5) * (b)) + (x)).toInt = ((5 * (b).toInt) + (x).toInt) := g_addZ z_3 rfl (by omega) (by omega)
  refine g_iald (n := 500) hx hb hK hG (1, 3, 0) ⟨by decide, rfl⟩ 0 rfl rfl (g_vp (by have := (show (((5) * (b)) + (x) : Int32).toInt = ((5 * (b).toInt) + (x).toInt) from z_4); omega) (by have := (show (((5) * (b)) + (x) : Int32).toInt = ((5 * (b).toInt) + (x).toInt) from z_4); omega)) dX7_isBehind_21 ?_
  rw [show (((5) * (b)) + (x) : Int32).toNatClampNeg = (((5 * (b).toInt) + (x).toInt)).toNat from congrArg Int.toNat (show (((5) * (b)) + (x) : Int32).toInt = ((5 * (b).toInt) + (x).toInt) from z_4)]
  refine lv_istore (lv' := [(6, .int (σ (1, 3, 0) ((((5 * (b).toInt) + (x).toInt)).toNat))), (5, .int (σ (1, 3, 0) ((((5 * (r).toInt) + (x).toInt)).toNat))), (0, .ref (L (0, 0, 0))), (1, .int (r)), (2, .int (b)), (3, .int (x)), (4, .int (down))]) hx hb dX7_isBehind_22 hl (by decide) rfl (fun ls hl => ?_)
  refine lv_iload hx hb dX7_isBehind_24 (lv_at hl 1 rfl) ?_
  refine kz_if_ge (X := (σ (1, 3, 0) ((((5 * (r).toInt) + (x).toInt)).toNat)).toInt) hx hb rfl dX7_isBehind_26 (tgt := 31) (by decide) (fun c_26_5 => ?_) (fun c_26_5 => ?_)
  · refine lv_iload hx hb dX7_isBehind_31 (lv_at hl 0 rfl) ?_
    refine kz_if_lt (X := (σ (1, 3, 0) ((((5 * (b).toInt) + (x).toInt)).toNat)).toInt) hx hb rfl dX7_isBehind_33 (tgt := 62) (by decide) (fun c_33_6 => ?_) (fun c_33_6 => ?_)
    · refine lv_iconst (v := 0) hx hb dX7_isBehind_62 (by decide) ?_
      exact s_zret hx hb hr hlk hG hS dX7_isBehind_63 rfl (by unfold g_b; (repeat' split) <;> first | rfl | (exfalso; omega)) rfl
    · refine lv_iload hx hb dX7_isBehind_36 (lv_at hl 6 rfl) ?_
      refine kz_if_eq (X := (down).toInt) hx hb rfl dX7_isBehind_38 (tgt := 51) (by decide) (fun c_38_7 => ?_) (fun c_38_7 => ?_)
      · refine lv_iload hx hb dX7_isBehind_51 (lv_at hl 1 rfl) ?_
        refine lv_iload hx hb dX7_isBehind_53 (lv_at hl 0 rfl) ?_
        refine kz_icmp_lt (X := (σ (1, 3, 0) ((((5 * (r).toInt) + (x).toInt)).toNat)).toInt) (Y := (σ (1, 3, 0) ((((5 * (b).toInt) + (x).toInt)).toNat)).toInt) hx hb rfl rfl dX7_isBehind_55 (tgt := 62) (by decide) (fun c_55_8 => ?_) (fun c_55_8 => ?_)
        · refine lv_iconst (v := 0) hx hb dX7_isBehind_62 (by decide) ?_
          exact s_zret hx hb hr hlk hG hS dX7_isBehind_63 rfl (by unfold g_b; (repeat' split) <;> first | rfl | (exfalso; omega)) rfl
        · refine lv_iconst (v := 1) hx hb dX7_isBehind_58 (by decide) ?_
          refine lv_goto (tgt := 63) hx hb dX7_isBehind_59 (by decide) ?_
          exact s_zret hx hb hr hlk hG hS dX7_isBehind_63 rfl (by unfold g_b; (repeat' split) <;> first | rfl | (exfalso; omega)) rfl
      · refine lv_iload hx hb dX7_isBehind_41 (lv_at hl 1 rfl) ?_
        refine lv_iload hx hb dX7_isBehind_43 (lv_at hl 0 rfl) ?_
        refine kz_icmp_gt (X := (σ (1, 3, 0) ((((5 * (r).toInt) + (x).toInt)).toNat)).toInt) (Y := (σ (1, 3, 0) ((((5 * (b).toInt) + (x).toInt)).toNat)).toInt) hx hb rfl rfl dX7_isBehind_45 (tgt := 62) (by decide) (fun c_45_9 => ?_) (fun c_45_9 => ?_)
        · refine lv_iconst (v := 0) hx hb dX7_isBehind_62 (by decide) ?_
          exact s_zret hx hb hr hlk hG hS dX7_isBehind_63 rfl (by unfold g_b; (repeat' split) <;> first | rfl | (exfalso; omega)) rfl
        · refine lv_goto (tgt := 58) hx hb dX7_isBehind_48 (by decide) ?_
          refine lv_iconst (v := 1) hx hb dX7_isBehind_58 (by decide) ?_
          refine lv_goto (tgt := 63) hx hb dX7_isBehind_59 (by decide) ?_
          exact s_zret hx hb hr hlk hG hS dX7_isBehind_63 rfl (by unfold g_b; (repeat' split) <;> first | rfl | (exfalso; omega)) rfl
  · refine lv_iconst (v := 1) hx hb dX7_isBehind_29 (by decide) ?_
    exact s_zret hx hb hr hlk hG hS dX7_isBehind_30 rfl (by unfold g_b; (repeat' split) <;> first | rfl | (exfalso; omega)) rfl
set_option maxHeartbeats 4000000 in
set_option maxRecDepth 100000 in
theorem lp_min (l : Launch) (D : va_G) (cy : Nat → ClassId) (L : g_S → Nat) {pg : Program} {e : Env} {s : State} {m : MethodId} {args : Array Value} {below : List Frame} {meth : Method} {c : Code} {Q : State → Prop} (C0 : g_C pg s m meth c args cX7_sort (some .int) 10 RX7 D (x_tys cy)) (u v x down ba : Int32) (bz : Int) (hba : ba.toInt = bz) (hbz : 0 ≤ bz ∧ bz ≤ 3900) (hx9 : 0 ≤ x.toInt ∧ x.toInt ≤ 4) (N : Nat) (hN9 : N ≤ 100) (rr ki ac : Int32) (hrr : 0 ≤ rr.toInt ∧ rr.toInt < 100) :
    ∀ (n : Nat) (σ : g_S → Nat → Int32)  (H : Heap) (locs : List Loc) (ls : Array Slot), n < N → (m_mI bz N σ) → g_H D vwCl m_dom L (fun z => m_K cy L z (σ z)) H → va_S (g_A m_dom L) s.heap H locs → lv_has ls 10 [(9, .int (nI n)), (8, .int (rr)), (7, .int (ki)), (6, .int (ac)), (5, .int (ba)), (0, .ref (L (0, 0, 0))), (1, .int (u)), (2, .int (v)), (3, .int (x)), (4, .int (down))] →
    (∀ (H : Heap) (locs : List Loc) (ls : Array Slot), g_H D vwCl m_dom L (fun z => m_K cy L z ((m_inGo bz rr x down n σ).1 z)) H → va_S (g_A m_dom L) s.heap H locs → lv_has ls 10 [(9, .int (nI ((m_inGo bz rr x down n σ).2))), (8, .int (rr)), (7, .int (ki)), (6, .int (ac)), (5, .int (ba)), (0, .ref (L (0, 0, 0))), (1, .int (u)), (2, .int (v)), (3, .int (x)), (4, .int (down))] → W pg l e (g_R 3) s m args below meth c H locs 0 0 Q (F0 m 195 ls [])) →
    W pg l e (g_R 3) s m args below meth c H locs 0 0 Q (F0 m 138 ls []) := by
  obtain ⟨hx, hb, hr, hlk, hml, hown, hts, hK, hN⟩ := C0
  intro n
  induction n with
  | zero =>
    intro σ H locs ls hv9 hy hG hS hl kk9
    refine lv_iload hx hb dX7_sort_138 (lv_at hl 0 rfl) ?_
    refine kz_if_le (X := ((0 : Nat) : Int)) hx hb (g_nIT (by omega)) dX7_sort_140 (tgt := 195) (by decide) (fun c_140_1 => ?_) (fun c_140_1 => ?_)
    · exact kk9 H locs ls hG hS (lv_sub hl [0, 1, 2, 3, 4, 5, 6, 7, 8, 9] rfl)
    · exact absurd c_140_1 (by omega)
  | succ n ih =>
    intro σ H locs ls hv9 hy hG hS hl kk9
    have hm9 := hy n (by omega)
    rw [show bz + (n : Int) = (bz + ((n + 1 : Nat) : Int)) - 1 by omega] at hm9
    refine lv_iload hx hb dX7_sort_138 (lv_at hl 0 rfl) ?_
    refine kz_if_le (X := ((n + 1 : Nat) : Int)) hx hb (g_nIT (by omega)) dX7_sort_140 (tgt := 195) (by decide) (fun c_140_1 => ?_) (fun c_140_1 => ?_)
    · exact absurd c_140_1 (by omega)
    · refine lv_aload_n hx hb dX7_sort_143 rfl (lv_at hl 5 rfl) ?_
      refine lv_iload hx hb dX7_sort_144 (lv_at hl 1 rfl) ?_
      refine lv_aload_n hx hb dX7_sort_146 rfl (lv_at hl 5 rfl) ?_
      refine g_get (C := RX7) (T := TX7) (N := 28) (v := .ref (L (1, 17, 0))) hx hb hts inX7g hown hK hG (0, 0, 0) ⟨rfl, rfl⟩ (m_at_0 cy L 0 0 (σ (0, 0, 0))) rfl 17 (by decide) fl_X7_50 rfl dX7_sort_147 ?_
      refine lv_iload hx hb dX7_sort_150 (lv_at hl 4 rfl) ?_
      refine lv_iload hx hb dX7_sort_152 (lv_at hl 0 rfl) ?_
      refine lv_iadd hx hb dX7_sort_154 ?_
      have z_2 : ((ba) + (nI (n + 1))).toInt = (bz + ((n + 1 : Nat) : Int)) := g_addZ hba (g_nIT (by omega)) (by omega) (by omega)
      refine lv_iconst (v := 1) hx hb dX7_sort_155 (by decide) ?_
      refine lv_isub hx hb dX7_sort_156 ?_
      have z_3 : (((ba) + (nI (n + 1))) - (1)).toInt = ((bz + ((n + 1 : Nat) : Int)) - 1) := g_subZ z_2 (by decide) (by omega) (by omega)
      refine g_iald (n := 4000) hx hb hK hG (1, 17, 0) ⟨by decide, rfl⟩ 0 rfl rfl (g_vp (by have := (show (((ba) + (nI (n + 1))) - (1) : Int32).toInt = ((bz + ((n + 1 : Nat) : Int)) - 1) from z_3); omega) (by have := (show (((ba) + (nI (n + 1))) - (1) : Int32).toInt = ((bz + ((n + 1 : Nat) : Int)) - 1) from z_3); omega)) dX7_sort_157 ?_
      rw [show (((ba) + (nI (n + 1))) - (1) : Int32).toNatClampNeg = (((bz + ((n + 1 : Nat) : Int)) - 1)).toNat from congrArg Int.toNat (show (((ba) + (nI (n + 1))) - (1) : Int32).toInt = ((bz + ((n + 1 : Nat) : Int)) - 1) from z_3)]
      refine lv_iload_n hx hb dX7_sort_158 rfl (lv_at hl 8 rfl) ?_
      refine lv_iload hx hb dX7_sort_159 (lv_at hl 9 rfl) ?_
      refine g_cont (va_runV (As := [.int (rr), .int (σ (1, 17, 0) ((((bz + ((n + 1 : Nat) : Int)) - 1)).toNat)), .int (x), .int (down)]) (rest := []) ⟨hx, hb, hml, hown, hts⟩ (c_X7_isBehind l D cy L σ (rr) (σ (1, 17, 0) ((((bz + ((n + 1 : Nat) : Int)) - 1)).toNat)) (x) (down) ⟨by omega, by omega⟩ ⟨by omega, by omega⟩ ⟨by omega, by omega⟩) (cwV 4 hts gV_X7_131 rfl rfl rfl (by decide +kernel) ⟨Nat.le_of_ble_eq_true rfl, Nat.le_of_ble_eq_true rfl⟩) (g_preV hK hN hG (x := (0, 0, 0)) ⟨rfl, rfl⟩ (q := (RX7, TX7, 28)) (m_at_0 cy L 0 0 (σ (0, 0, 0))) rfl) rfl rfl hl.1 rfl (lv_room (Nat.le_of_ble_eq_true rfl)) dX7_sort_161 ⟨Nat.zero_le _, Nat.zero_le _⟩) hS (fun H locs hG hS => ?_)
      refine W.eq (g2 := F0 m 164 ls [.int (g_b ((σ (1, 3, 0) ((5 * (rr).toInt) + (x).toInt).toNat).toInt < 0 ∨ (0 ≤ (σ (1, 3, 0) ((5 * (σ (1, 17, 0) ((((bz + ((n + 1 : Nat) : Int)) - 1)).toNat)).toInt) + (x).toInt).toNat).toInt ∧ ((¬ (down).toInt = 0 ∧ (σ (1, 3, 0) ((5 * (rr).toInt) + (x).toInt).toNat).toInt ≤ (σ (1, 3, 0) ((5 * (σ (1, 17, 0) ((((bz + ((n + 1 : Nat) : Int)) - 1)).toNat)).toInt) + (x).toInt).toNat).toInt) ∨ ((down).toInt = 0 ∧ (σ (1, 3, 0) ((5 * (σ (1, 17, 0) ((((bz + ((n + 1 : Nat) : Int)) - 1)).toNat)).toInt) + (x).toInt).toNat).toInt ≤ (σ (1, 3, 0) ((5 * (rr).toInt) + (x).toInt).toNat).toInt)))))]) rfl ?_
      refine kz_b_ne (tgt := 195) hx hb dX7_sort_164 (by decide) (fun c_164_4 => ?_) (fun c_164_4 => ?_)
      · have e90 : m_inGo bz rr x down (n + 1) σ = (σ, n + 1) := (by rw [m_inGo_s]; first | (rw [if_pos (by omega)]) | (rw [if_neg (by omega)]))
        rw [e90] at kk9
        exact kk9 H locs ls hG hS (lv_sub hl [0, 1, 2, 3, 4, 5, 6, 7, 8, 9] rfl)
      · refine lv_aload_n hx hb dX7_sort_167 rfl (lv_at hl 5 rfl) ?_
        refine g_get (C := RX7) (T := TX7) (N := 28) (v := .ref (L (1, 17, 0))) hx hb hts inX7g hown hK hG (0, 0, 0) ⟨rfl, rfl⟩ (m_at_0 cy L 0 0 (σ (0, 0, 0))) rfl 17 (by decide) fl_X7_50 rfl dX7_sort_168 ?_
        refine lv_iload hx hb dX7_sort_171 (lv_at hl 4 rfl) ?_
        refine lv_iload hx hb dX7_sort_173 (lv_at hl 0 rfl) ?_
        refine lv_iadd hx hb dX7_sort_175 ?_
        have z_5 : ((ba) + (nI (n + 1))).toInt = (bz + ((n + 1 : Nat) : Int)) := g_addZ hba (g_nIT (by omega)) (by omega) (by omega)
        refine lv_aload_n hx hb dX7_sort_176 rfl (lv_at hl 5 rfl) ?_
        refine g_get (C := RX7) (T := TX7) (N := 28) (v := .ref (L (1, 17, 0))) hx hb hts inX7g hown hK hG (0, 0, 0) ⟨rfl, rfl⟩ (m_at_0 cy L 0 0 (σ (0, 0, 0))) rfl 17 (by decide) fl_X7_50 rfl dX7_sort_177 ?_
        refine lv_iload hx hb dX7_sort_180 (lv_at hl 4 rfl) ?_
        refine lv_iload hx hb dX7_sort_182 (lv_at hl 0 rfl) ?_
        refine lv_iadd hx hb dX7_sort_184 ?_
        have z_6 : ((ba) + (nI (n + 1))).toInt = (bz + ((n + 1 : Nat) : Int)) := g_addZ hba (g_nIT (by omega)) (by omega) (by omega)
        refine lv_iconst (v := 1) hx hb dX7_sort_185 (by decide) ?_
        refine lv_isub hx hb dX7_sort_186 ?_
        have z_7 : (((ba) + (nI (n + 1))) - (1)).toInt = ((bz + ((n + 1 : Nat) : Int)) - 1) := g_subZ z_6 (by decide) (by omega) (by omega)
        refine g_iald (n := 4000) hx hb hK hG (1, 17, 0) ⟨by decide, rfl⟩ 0 rfl rfl (g_vp (by have := (show (((ba) + (nI (n + 1))) - (1) : Int32).toInt = ((bz + ((n + 1 : Nat) : Int)) - 1) from z_7); omega) (by have := (show (((ba) + (nI (n + 1))) - (1) : Int32).toInt = ((bz + ((n + 1 : Nat) : Int)) - 1) from z_7); omega)) dX7_sort_187 ?_
        rw [show (((ba) + (nI (n + 1))) - (1) : Int32).toNatClampNeg = (((bz + ((n + 1 : Nat) : Int)) - 1)).toNat from congrArg Int.toNat (show (((ba) + (nI (n + 1))) - (1) : Int32).toInt = ((bz + ((n + 1 : Nat) : Int)) - 1) from z_7)]
        refine g_iast (n := 4000) hx hb hK hG hS (1, 17, 0) ⟨by decide, rfl⟩ 0 (fun _ => rfl) rfl (g_vp (by have := (show ((ba) + (nI (n + 1)) : Int32).toInt = (bz + ((n + 1 : Nat) : Int)) from z_5); omega) (by have := (show ((ba) + (nI (n + 1)) : Int32).toInt = (bz + ((n + 1 : Nat) : Int)) from z_5); omega)) dX7_sort_188 (fun H locs hG hS => ?_)
        rw [show ((ba) + (nI (n + 1)) : Int32).toNatClampNeg = ((bz + ((n + 1 : Nat) : Int))).toNat from congrArg Int.toNat (show ((ba) + (nI (n + 1)) : Int32).toInt = (bz + ((n + 1 : Nat) : Int)) from z_5)] at hG
        refine lv_iinc (v := nI n) (lv' := [(9, .int (nI n)), (8, .int (rr)), (7, .int (ki)), (6, .int (ac)), (5, .int (ba)), (0, .ref (L (0, 0, 0))), (1, .int (u)), (2, .int (v)), (3, .int (x)), (4, .int (down))]) hx hb dX7_sort_189 hl (k := 0) rfl (pk_m1 (n)) (by decide) rfl (fun ls hl => ?_)
        refine lv_goto (tgt := 138) hx hb dX7_sort_192 (by decide) ?_
        have e90 : m_inGo bz rr x down (n + 1) σ = m_inGo bz rr x down n (g_up σ (1, 17, 0) (((bz + ((n + 1 : Nat) : Int))).toNat) (σ (1, 17, 0) ((((bz + ((n + 1 : Nat) : Int)) - 1)).toNat))) := (by rw [m_inGo_s]; first | (rw [if_pos (by omega)]) | (rw [if_neg (by omega)]))
        rw [e90] at kk9
        exact ih (g_up σ (1, 17, 0) (((bz + ((n + 1 : Nat) : Int))).toNat) (σ (1, 17, 0) ((((bz + ((n + 1 : Nat) : Int)) - 1)).toNat)))  H locs ls (by omega) (m_mI_up hy hm9) hG hS (lv_sub hl [0, 1, 2, 3, 4, 5, 6, 7, 8, 9] rfl) kk9
set_option maxHeartbeats 4000000 in
set_option maxRecDepth 100000 in
theorem lp_msort (l : Launch) (D : va_G) (cy : Nat → ClassId) (L : g_S → Nat) {pg : Program} {e : Env} {s : State} {m : MethodId} {args : Array Value} {below : List Frame} {meth : Method} {c : Code} {Q : State → Prop} (C0 : g_C pg s m meth c args cX7_sort (some .int) 10 RX7 D (x_tys cy)) (u v x down ba : Int32) (bz : Int) (hba : ba.toInt = bz) (hbz : 0 ≤ bz ∧ bz ≤ 3900) (hx9 : 0 ≤ x.toInt ∧ x.toInt ≤ 4) (N : Nat) (hN9 : N ≤ 100) (hu : 0 ≤ u.toInt ∧ u.toInt < 8) (hv5 : 0 ≤ v.toInt ∧ v.toInt ≤ 4) :
    ∀ (n : Nat) (σ : g_S → Nat → Int32) (k : Nat) (acc : Int32) (H : Heap) (locs : List Loc) (ls : Array Slot), k + n = N → ((σ (1, 16, 0) ((5 * (u).toInt) + (v).toInt).toNat).toInt = (N : Int) ∧ m_mI bz N σ) → g_H D vwCl m_dom L (fun z => m_K cy L z (σ z)) H → va_S (g_A m_dom L) s.heap H locs → lv_has ls 10 [(7, .int (nI k)), (6, .int (acc)), (5, .int (ba)), (0, .ref (L (0, 0, 0))), (1, .int (u)), (2, .int (v)), (3, .int (x)), (4, .int (down))] →
    (∀ (H : Heap) (locs : List Loc) (ls : Array Slot), g_H D vwCl m_dom L (fun z => m_K cy L z ((m_sortGo bz x down n k acc σ).1 z)) H → va_S (g_A m_dom L) s.heap H locs → lv_has ls 10 [(6, .int ((m_sortGo bz x down n k acc σ).2))] → W pg l e (g_R 3) s m args below meth c H locs 0 0 Q (F0 m 213 ls [])) →
    W pg l e (g_R 3) s m args below meth c H locs 0 0 Q (F0 m 83 ls []) := by
  obtain ⟨hx, hb, hr, hlk, hml, hown, hts, hK, hN⟩ := C0
  intro n
  induction n with
  | zero =>
    intro σ k acc H locs ls hv9 hy hG hS hl kk9
    obtain ⟨hc, hmI⟩ := hy
    have hz9 := g_nIT (show k < 2147483648 by omega)
    refine lv_iload hx hb dX7_sort_83 (lv_at hl 0 rfl) ?_
    refine lv_aload_n hx hb dX7_sort_85 rfl (lv_at hl 3 rfl) ?_
    refine g_get (C := RX7) (T := TX7) (N := 28) (v := .ref (L (1, 16, 0))) hx hb hts inX7g hown hK hG (0, 0, 0) ⟨rfl, rfl⟩ (m_at_0 cy L 0 0 (σ (0, 0, 0))) rfl 16 (by decide) fl_X7_47 rfl dX7_sort_86 ?_
    refine lv_iconst (v := 5) hx hb dX7_sort_89 (by decide) ?_
    refine lv_iload_n hx hb dX7_sort_90 rfl (lv_at hl 4 rfl) ?_
    refine lv_imul hx hb dX7_sort_91 ?_
    have z_1 : ((5) * (u)).toInt = (5 * (u).toInt) := g_mulZ (by decide) rfl (by omega) (by omega)
    refine lv_iload_n hx hb dX7_sort_92 rfl (lv_at hl 5 rfl) ?_
    refine lv_iadd hx hb dX7_sort_93 ?_
    have z_2 : (((5) * (u)) + (v)).toInt = ((5 * (u).toInt) + (v).toInt) := g_addZ z_1 rfl (by omega) (by omega)
    refine g_iald (n := 40) hx hb hK hG (1, 16, 0) ⟨by decide, rfl⟩ 0 rfl rfl (g_vp (by have := (show (((5) * (u)) + (v) : Int32).toInt = ((5 * (u).toInt) + (v).toInt) from z_2); omega) (by have := (show (((5) * (u)) + (v) : Int32).toInt = ((5 * (u).toInt) + (v).toInt) from z_2); omega)) dX7_sort_94 ?_
    rw [show (((5) * (u)) + (v) : Int32).toNatClampNeg = (((5 * (u).toInt) + (v).toInt)).toNat from congrArg Int.toNat (show (((5) * (u)) + (v) : Int32).toInt = ((5 * (u).toInt) + (v).toInt) from z_2)]
    refine kz_icmp_ge (X := ((k : Nat) : Int)) (Y := (σ (1, 16, 0) ((((5 * (u).toInt) + (v).toInt)).toNat)).toInt) hx hb (g_nIT (by omega)) rfl dX7_sort_95 (tgt := 213) (by decide) (fun c_95_3 => ?_) (fun c_95_3 => ?_)
    · exact kk9 H locs ls hG hS (lv_sub hl [1] rfl)
    · exact absurd c_95_3 (by omega)
  | succ n ih =>
    intro σ k acc H locs ls hv9 hy hG hS hl kk9
    obtain ⟨hc, hmI⟩ := hy
    have hz9 := g_nIT (show k < 2147483648 by omega)
    have hm9 := hmI k (by omega)
    refine lv_iload hx hb dX7_sort_83 (lv_at hl 0 rfl) ?_
    refine lv_aload_n hx hb dX7_sort_85 rfl (lv_at hl 3 rfl) ?_
    refine g_get (C := RX7) (T := TX7) (N := 28) (v := .ref (L (1, 16, 0))) hx hb hts inX7g hown hK hG (0, 0, 0) ⟨rfl, rfl⟩ (m_at_0 cy L 0 0 (σ (0, 0, 0))) rfl 16 (by decide) fl_X7_47 rfl dX7_sort_86 ?_
    refine lv_iconst (v := 5) hx hb dX7_sort_89 (by decide) ?_
    refine lv_iload_n hx hb dX7_sort_90 rfl (lv_at hl 4 rfl) ?_
    refine lv_imul hx hb dX7_sort_91 ?_
    have z_1 : ((5) * (u)).toInt = (5 * (u).toInt) := g_mulZ (by decide) rfl (by omega) (by omega)
    refine lv_iload_n hx hb dX7_sort_92 rfl (lv_at hl 5 rfl) ?_
    refine lv_iadd hx hb dX7_sort_93 ?_
    have z_2 : (((5) * (u)) + (v)).toInt = ((5 * (u).toInt) + (v).toInt) := g_addZ z_1 rfl (by omega) (by omega)
    refine g_iald (n := 40) hx hb hK hG (1, 16, 0) ⟨by decide, rfl⟩ 0 rfl rfl (g_vp (by have := (show (((5) * (u)) + (v) : Int32).toInt = ((5 * (u).toInt) + (v).toInt) from z_2); omega) (by have := (show (((5) * (u)) + (v) : Int32).toInt = ((5 * (u).toInt) + (v).toInt) from z_2); omega)) dX7_sort_94 ?_
    rw [show (((5) * (u)) + (v) : Int32).toNatClampNeg = (((5 * (u).toInt) + (v).toInt)).toNat from congrArg Int.toNat (show (((5) * (u)) + (v) : Int32).toInt = ((5 * (u).toInt) + (v).toInt) from z_2)]
    refine kz_icmp_ge (X := ((k : Nat) : Int)) (Y := (σ (1, 16, 0) ((((5 * (u).toInt) + (v).toInt)).toNat)).toInt) hx hb (g_nIT (by omega)) rfl dX7_sort_95 (tgt := 213) (by decide) (fun c_95_3 => ?_) (fun c_95_3 => ?_)
    · exact absurd c_95_3 (by omega)
    · refine lv_aload_n hx hb dX7_sort_98 rfl (lv_at hl 3 rfl) ?_
      refine g_get (C := RX7) (T := TX7) (N := 28) (v := .ref (L (1, 17, 0))) hx hb hts inX7g hown hK hG (0, 0, 0) ⟨rfl, rfl⟩ (m_at_0 cy L 0 0 (σ (0, 0, 0))) rfl 17 (by decide) fl_X7_50 rfl dX7_sort_99 ?_
      refine lv_iload hx hb dX7_sort_102 (lv_at hl 2 rfl) ?_
      refine lv_iload hx hb dX7_sort_104 (lv_at hl 0 rfl) ?_
      refine lv_iadd hx hb dX7_sort_106 ?_
      have z_4 : ((ba) + (nI k)).toInt = (bz + ((k : Nat) : Int)) := g_addZ hba (g_nIT (by omega)) (by omega) (by omega)
      refine g_iald (n := 4000) hx hb hK hG (1, 17, 0) ⟨by decide, rfl⟩ 0 rfl rfl (g_vp (by have := (show ((ba) + (nI k) : Int32).toInt = (bz + ((k : Nat) : Int)) from z_4); omega) (by have := (show ((ba) + (nI k) : Int32).toInt = (bz + ((k : Nat) : Int)) from z_4); omega)) dX7_sort_107 ?_
      rw [show ((ba) + (nI k) : Int32).toNatClampNeg = ((bz + ((k : Nat) : Int))).toNat from congrArg Int.toNat (show ((ba) + (nI k) : Int32).toInt = (bz + ((k : Nat) : Int)) from z_4)]
      refine lv_istore (lv' := [(8, .int (σ (1, 17, 0) (((bz + ((k : Nat) : Int))).toNat))), (7, .int (nI k)), (6, .int (acc)), (5, .int (ba)), (0, .ref (L (0, 0, 0))), (1, .int (u)), (2, .int (v)), (3, .int (x)), (4, .int (down))]) hx hb dX7_sort_108 hl (by decide) rfl (fun ls hl => ?_)
      refine lv_iload hx hb dX7_sort_110 (lv_at hl 2 rfl) ?_
      refine lv_aload_n hx hb dX7_sort_112 rfl (lv_at hl 4 rfl) ?_
      refine g_get (C := RX7) (T := TX7) (N := 28) (v := .ref (L (1, 3, 0))) hx hb hts inX7g hown hK hG (0, 0, 0) ⟨rfl, rfl⟩ (m_at_0 cy L 0 0 (σ (0, 0, 0))) rfl 3 (by decide) fl_X7_13 rfl dX7_sort_113 ?_
      refine lv_iconst (v := 5) hx hb dX7_sort_116 (by decide) ?_
      refine lv_iload hx hb dX7_sort_117 (lv_at hl 0 rfl) ?_
      refine lv_imul hx hb dX7_sort_119 ?_
      have z_5 : ((5) * (σ (1, 17, 0) (((bz + ((k : Nat) : Int))).toNat))).toInt = (5 * (σ (1, 17, 0) (((bz + ((k : Nat) : Int))).toNat)).toInt) := g_mulZ (by decide) rfl (by omega) (by omega)
      refine lv_iload_n hx hb dX7_sort_120 rfl (lv_at hl 7 rfl) ?_
      refine lv_iadd hx hb dX7_sort_121 ?_
      have z_6 : (((5) * (σ (1, 17, 0) (((bz + ((k : Nat) : Int))).toNat))) + (x)).toInt = ((5 * (σ (1, 17, 0) (((bz + ((k : Nat) : Int))).toNat)).toInt) + (x).toInt) := g_addZ z_5 rfl (by omega) (by omega)
      refine g_iald (n := 500) hx hb hK hG (1, 3, 0) ⟨by decide, rfl⟩ 0 rfl rfl (g_vp (by have := (show (((5) * (σ (1, 17, 0) (((bz + ((k : Nat) : Int))).toNat))) + (x) : Int32).toInt = ((5 * (σ (1, 17, 0) (((bz + ((k : Nat) : Int))).toNat)).toInt) + (x).toInt) from z_6); omega) (by have := (show (((5) * (σ (1, 17, 0) (((bz + ((k : Nat) : Int))).toNat))) + (x) : Int32).toInt = ((5 * (σ (1, 17, 0) (((bz + ((k : Nat) : Int))).toNat)).toInt) + (x).toInt) from z_6); omega)) dX7_sort_122 ?_
      rw [show (((5) * (σ (1, 17, 0) (((bz + ((k : Nat) : Int))).toNat))) + (x) : Int32).toNatClampNeg = (((5 * (σ (1, 17, 0) (((bz + ((k : Nat) : Int))).toNat)).toInt) + (x).toInt)).toNat from congrArg Int.toNat (show (((5) * (σ (1, 17, 0) (((bz + ((k : Nat) : Int))).toNat))) + (x) : Int32).toInt = ((5 * (σ (1, 17, 0) (((bz + ((k : Nat) : Int))).toNat)).toInt) + (x).toInt) from z_6)]
      refine kz_if_ge (X := (σ (1, 3, 0) ((((5 * (σ (1, 17, 0) (((bz + ((k : Nat) : Int))).toNat)).toInt) + (x).toInt)).toNat)).toInt) hx hb rfl dX7_sort_123 (tgt := 130) (by decide) (fun c_123_7 => ?_) (fun c_123_7 => ?_)
      · refine lv_iconst (v := 0) hx hb dX7_sort_130 (by decide) ?_
        refine lv_iadd hx hb dX7_sort_131 ?_
        refine lv_istore (lv' := [(6, .int ((acc) + (0))), (8, .int (σ (1, 17, 0) (((bz + ((k : Nat) : Int))).toNat))), (7, .int (nI k)), (5, .int (ba)), (0, .ref (L (0, 0, 0))), (1, .int (u)), (2, .int (v)), (3, .int (x)), (4, .int (down))]) hx hb dX7_sort_132 hl (by decide) rfl (fun ls hl => ?_)
        refine lv_iload hx hb dX7_sort_134 (lv_at hl 2 rfl) ?_
        refine lv_istore (lv' := [(9, .int (nI k)), (6, .int ((acc) + (0))), (8, .int (σ (1, 17, 0) (((bz + ((k : Nat) : Int))).toNat))), (7, .int (nI k)), (5, .int (ba)), (0, .ref (L (0, 0, 0))), (1, .int (u)), (2, .int (v)), (3, .int (x)), (4, .int (down))]) hx hb dX7_sort_136 hl (by decide) rfl (fun ls hl => ?_)
        refine lp_min l D cy L ⟨hx, hb, hr, hlk, hml, hown, hts, hK, hN⟩ u v x down ba bz hba hbz hx9 N hN9 (σ (1, 17, 0) ((bz + ((k : Nat) : Int)).toNat)) (nI k) ((acc) + (0)) ⟨by omega, by omega⟩ k σ H locs ls (by omega) hmI hG hS (lv_sub hl [0, 2, 3, 1, 4, 5, 6, 7, 8, 9] rfl) (fun H locs ls hG hS hl => ?_)
        have hle := m_inGo_le bz (σ (1, 17, 0) ((bz + ((k : Nat) : Int)).toNat)) x down k σ
        refine lv_aload_n hx hb dX7_sort_195 rfl (lv_at hl 5 rfl) ?_
        refine g_get (C := RX7) (T := TX7) (N := 28) (v := .ref (L (1, 17, 0))) hx hb hts inX7g hown hK hG (0, 0, 0) ⟨rfl, rfl⟩ (m_at_0 cy L 0 0 ((m_inGo bz (σ (1, 17, 0) ((bz + ((k : Nat) : Int)).toNat)) (x) (down) k σ).1 (0, 0, 0))) rfl 17 (by decide) fl_X7_50 rfl dX7_sort_196 ?_
        refine lv_iload hx hb dX7_sort_199 (lv_at hl 4 rfl) ?_
        refine lv_iload hx hb dX7_sort_201 (lv_at hl 0 rfl) ?_
        refine lv_iadd hx hb dX7_sort_203 ?_
        have z_8 : ((ba) + (nI ((m_inGo bz (σ (1, 17, 0) ((bz + ((k : Nat) : Int)).toNat)) (x) (down) k σ).2))).toInt = (bz + (((m_inGo bz (σ (1, 17, 0) ((bz + ((k : Nat) : Int)).toNat)) (x) (down) k σ).2 : Nat) : Int)) := g_addZ hba (g_nIT (by omega)) (by omega) (by omega)
        refine lv_iload hx hb dX7_sort_204 (lv_at hl 1 rfl) ?_
        refine g_iast (n := 4000) hx hb hK hG hS (1, 17, 0) ⟨by decide, rfl⟩ 0 (fun _ => rfl) rfl (g_vp (by have := (show ((ba) + (nI ((m_inGo bz (σ (1, 17, 0) ((bz + ((k : Nat) : Int)).toNat)) (x) (down) k σ).2)) : Int32).toInt = (bz + (((m_inGo bz (σ (1, 17, 0) ((bz + ((k : Nat) : Int)).toNat)) (x) (down) k σ).2 : Nat) : Int)) from z_8); omega) (by have := (show ((ba) + (nI ((m_inGo bz (σ (1, 17, 0) ((bz + ((k : Nat) : Int)).toNat)) (x) (down) k σ).2)) : Int32).toInt = (bz + (((m_inGo bz (σ (1, 17, 0) ((bz + ((k : Nat) : Int)).toNat)) (x) (down) k σ).2 : Nat) : Int)) from z_8); omega)) dX7_sort_206 (fun H locs hG hS => ?_)
        rw [show ((ba) + (nI ((m_inGo bz (σ (1, 17, 0) ((bz + ((k : Nat) : Int)).toNat)) (x) (down) k σ).2)) : Int32).toNatClampNeg = ((bz + (((m_inGo bz (σ (1, 17, 0) ((bz + ((k : Nat) : Int)).toNat)) (x) (down) k σ).2 : Nat) : Int))).toNat from congrArg Int.toNat (show ((ba) + (nI ((m_inGo bz (σ (1, 17, 0) ((bz + ((k : Nat) : Int)).toNat)) (x) (down) k σ).2)) : Int32).toInt = (bz + (((m_inGo bz (σ (1, 17, 0) ((bz + ((k : Nat) : Int)).toNat)) (x) (down) k σ).2 : Nat) : Int)) from z_8)] at hG
        refine lv_iinc (v := nI (k + 1)) (lv' := [(7, .int (nI (k + 1))), (9, .int (nI ((m_inGo bz (σ (1, 17, 0) ((bz + ((k : Nat) : Int)).toNat)) (x) (down) k σ).2))), (8, .int (σ (1, 17, 0) ((bz + ((k : Nat) : Int)).toNat))), (6, .int ((acc) + (0))), (5, .int (ba)), (0, .ref (L (0, 0, 0))), (1, .int (u)), (2, .int (v)), (3, .int (x)), (4, .int (down))]) hx hb dX7_sort_207 hl (k := 2) rfl (nI_1 (k)) (by decide) rfl (fun ls hl => ?_)
        refine lv_goto (tgt := 83) hx hb dX7_sort_210 (by decide) ?_
        have e90 : m_sortGo bz x down (n + 1) k acc σ = m_sortGo bz x down n (k + 1) ((acc) + (0)) (g_up (m_inGo bz (σ (1, 17, 0) ((bz + ((k : Nat) : Int)).toNat)) (x) (down) k σ).1 (1, 17, 0) (((bz + (((m_inGo bz (σ (1, 17, 0) ((bz + ((k : Nat) : Int)).toNat)) (x) (down) k σ).2 : Nat) : Int))).toNat) (σ (1, 17, 0) ((bz + ((k : Nat) : Int)).toNat))) := (by rw [m_sortGo_s]; (repeat' split) <;> first | rfl | (exfalso; omega))
        rw [e90] at kk9
        exact ih (g_up (m_inGo bz (σ (1, 17, 0) ((bz + ((k : Nat) : Int)).toNat)) (x) (down) k σ).1 (1, 17, 0) (((bz + (((m_inGo bz (σ (1, 17, 0) ((bz + ((k : Nat) : Int)).toNat)) (x) (down) k σ).2 : Nat) : Int))).toNat) (σ (1, 17, 0) ((bz + ((k : Nat) : Int)).toNat))) (k + 1) ((acc) + (0)) H locs ls (by omega) ⟨by rw [g_up_row (by decide), m_inGo_row _ _ _ _ (by decide)]; exact hc, m_mI_up (m_inGo_mI _ _ _ _ _ _ _ (by omega) hmI) hm9⟩ hG hS (lv_sub hl [0, 3, 4, 5, 6, 7, 8, 9] rfl) kk9
      · refine lv_iconst (v := 1) hx hb dX7_sort_126 (by decide) ?_
        refine lv_goto (tgt := 131) hx hb dX7_sort_127 (by decide) ?_
        refine lv_iadd hx hb dX7_sort_131 ?_
        refine lv_istore (lv' := [(6, .int ((acc) + (1))), (8, .int (σ (1, 17, 0) (((bz + ((k : Nat) : Int))).toNat))), (7, .int (nI k)), (5, .int (ba)), (0, .ref (L (0, 0, 0))), (1, .int (u)), (2, .int (v)), (3, .int (x)), (4, .int (down))]) hx hb dX7_sort_132 hl (by decide) rfl (fun ls hl => ?_)
        refine lv_iload hx hb dX7_sort_134 (lv_at hl 2 rfl) ?_
        refine lv_istore (lv' := [(9, .int (nI k)), (6, .int ((acc) + (1))), (8, .int (σ (1, 17, 0) (((bz + ((k : Nat) : Int))).toNat))), (7, .int (nI k)), (5, .int (ba)), (0, .ref (L (0, 0, 0))), (1, .int (u)), (2, .int (v)), (3, .int (x)), (4, .int (down))]) hx hb dX7_sort_136 hl (by decide) rfl (fun ls hl => ?_)
        refine lp_min l D cy L ⟨hx, hb, hr, hlk, hml, hown, hts, hK, hN⟩ u v x down ba bz hba hbz hx9 N hN9 (σ (1, 17, 0) ((bz + ((k : Nat) : Int)).toNat)) (nI k) ((acc) + (1)) ⟨by omega, by omega⟩ k σ H locs ls (by omega) hmI hG hS (lv_sub hl [0, 2, 3, 1, 4, 5, 6, 7, 8, 9] rfl) (fun H locs ls hG hS hl => ?_)
        have hle := m_inGo_le bz (σ (1, 17, 0) ((bz + ((k : Nat) : Int)).toNat)) x down k σ
        refine lv_aload_n hx hb dX7_sort_195 rfl (lv_at hl 5 rfl) ?_
        refine g_get (C := RX7) (T := TX7) (N := 28) (v := .ref (L (1, 17, 0))) hx hb hts inX7g hown hK hG (0, 0, 0) ⟨rfl, rfl⟩ (m_at_0 cy L 0 0 ((m_inGo bz (σ (1, 17, 0) ((bz + ((k : Nat) : Int)).toNat)) (x) (down) k σ).1 (0, 0, 0))) rfl 17 (by decide) fl_X7_50 rfl dX7_sort_196 ?_
        refine lv_iload hx hb dX7_sort_199 (lv_at hl 4 rfl) ?_
        refine lv_iload hx hb dX7_sort_201 (lv_at hl 0 rfl) ?_
        refine lv_iadd hx hb dX7_sort_203 ?_
        have z_9 : ((ba) + (nI ((m_inGo bz (σ (1, 17, 0) ((bz + ((k : Nat) : Int)).toNat)) (x) (down) k σ).2))).toInt = (bz + (((m_inGo bz (σ (1, 17, 0) ((bz + ((k : Nat) : Int)).toNat)) (x) (down) k σ).2 : Nat) : Int)) := g_addZ hba (g_nIT (by omega)) (by omega) (by omega)
        refine lv_iload hx hb dX7_sort_204 (lv_at hl 1 rfl) ?_
        refine g_iast (n := 4000) hx hb hK hG hS (1, 17, 0) ⟨by decide, rfl⟩ 0 (fun _ => rfl) rfl (g_vp (by have := (show ((ba) + (nI ((m_inGo bz (σ (1, 17, 0) ((bz + ((k : Nat) : Int)).toNat)) (x) (down) k σ).2)) : Int32).toInt = (bz + (((m_inGo bz (σ (1, 17, 0) ((bz + ((k : Nat) : Int)).toNat)) (x) (down) k σ).2 : Nat) : Int)) from z_9); omega) (by have := (show ((ba) + (nI ((m_inGo bz (σ (1, 17, 0) ((bz + ((k : Nat) : Int)).toNat)) (x) (down) k σ).2)) : Int32).toInt = (bz + (((m_inGo bz (σ (1, 17, 0) ((bz + ((k : Nat) : Int)).toNat)) (x) (down) k σ).2 : Nat) : Int)) from z_9); omega)) dX7_sort_206 (fun H locs hG hS => ?_)
        rw [show ((ba) + (nI ((m_inGo bz (σ (1, 17, 0) ((bz + ((k : Nat) : Int)).toNat)) (x) (down) k σ).2)) : Int32).toNatClampNeg = ((bz + (((m_inGo bz (σ (1, 17, 0) ((bz + ((k : Nat) : Int)).toNat)) (x) (down) k σ).2 : Nat) : Int))).toNat from congrArg Int.toNat (show ((ba) + (nI ((m_inGo bz (σ (1, 17, 0) ((bz + ((k : Nat) : Int)).toNat)) (x) (down) k σ).2)) : Int32).toInt = (bz + (((m_inGo bz (σ (1, 17, 0) ((bz + ((k : Nat) : Int)).toNat)) (x) (down) k σ).2 : Nat) : Int)) from z_9)] at hG
        refine lv_iinc (v := nI (k + 1)) (lv' := [(7, .int (nI (k + 1))), (9, .int (nI ((m_inGo bz (σ (1, 17, 0) ((bz + ((k : Nat) : Int)).toNat)) (x) (down) k σ).2))), (8, .int (σ (1, 17, 0) ((bz + ((k : Nat) : Int)).toNat))), (6, .int ((acc) + (1))), (5, .int (ba)), (0, .ref (L (0, 0, 0))), (1, .int (u)), (2, .int (v)), (3, .int (x)), (4, .int (down))]) hx hb dX7_sort_207 hl (k := 2) rfl (nI_1 (k)) (by decide) rfl (fun ls hl => ?_)
        refine lv_goto (tgt := 83) hx hb dX7_sort_210 (by decide) ?_
        have e90 : m_sortGo bz x down (n + 1) k acc σ = m_sortGo bz x down n (k + 1) ((acc) + (1)) (g_up (m_inGo bz (σ (1, 17, 0) ((bz + ((k : Nat) : Int)).toNat)) (x) (down) k σ).1 (1, 17, 0) (((bz + (((m_inGo bz (σ (1, 17, 0) ((bz + ((k : Nat) : Int)).toNat)) (x) (down) k σ).2 : Nat) : Int))).toNat) (σ (1, 17, 0) ((bz + ((k : Nat) : Int)).toNat))) := (by rw [m_sortGo_s]; (repeat' split) <;> first | rfl | (exfalso; omega))
        rw [e90] at kk9
        exact ih (g_up (m_inGo bz (σ (1, 17, 0) ((bz + ((k : Nat) : Int)).toNat)) (x) (down) k σ).1 (1, 17, 0) (((bz + (((m_inGo bz (σ (1, 17, 0) ((bz + ((k : Nat) : Int)).toNat)) (x) (down) k σ).2 : Nat) : Int))).toNat) (σ (1, 17, 0) ((bz + ((k : Nat) : Int)).toNat))) (k + 1) ((acc) + (1)) H locs ls (by omega) ⟨by rw [g_up_row (by decide), m_inGo_row _ _ _ _ (by decide)]; exact hc, m_mI_up (m_inGo_mI _ _ _ _ _ _ _ (by omega) hmI) hm9⟩ hG hS (lv_sub hl [0, 3, 4, 5, 6, 7, 8, 9] rfl) kk9
set_option maxHeartbeats 4000000 in
set_option maxRecDepth 100000 in
theorem c_X7_sort (l : Launch) (D : va_G) (cy : Nat → ClassId) (L : g_S → Nat) (σ : g_S → Nat → Int32) (τ : g_S → Nat → Int32) (hτ : g_up σ (0, 0, 0) 0 0 = τ) (u v x down : Int32) (s0 : 0 ≤ (τ (0, 0, 0) 10).toInt) (s1 : (τ (0, 0, 0) 10).toInt ≤ 8) (hmY : (τ (1, 16, 0) ((5 * (u).toInt) + (v).toInt).toNat).toInt ≤ 100) (hmA0 : ∀ t : Nat, (t : Int) < (τ (1, 16, 0) ((5 * (u).toInt) + (v).toInt).toNat).toInt → 0 ≤ (τ (1, 17, 0) ((100 * ((5 * (u).toInt) + (v).toInt)) + (t : Int)).toNat).toInt ∧ (τ (1, 17, 0) ((100 * ((5 * (u).toInt) + (v).toInt)) + (t : Int)).toNat).toInt < 100) : m_Met l D cy L yX7_sort (.code yX7_sort cX7_sort 10 (some .int)) 3 σ [.ref (L (0, 0, 0)), .int (u), .int (v), .int (x), .int (down)] (some (.int (m_sortR τ u v x down))) (m_sortM τ u v x down) := by
  refine g_Met.of (by decide) (Nat.le_of_ble_eq_true rfl) ?_
  intro pg e s m below meth c hx hb hr hlk hml hown hts hK hN H locs hG hS ls hl
  have hown : s.vm.findClass RX7 = some m.cls := hown
  have hl : lv_has ls 10 [(0, .ref (L (0, 0, 0))), (1, .int (u)), (2, .int (v)), (3, .int (x)), (4, .int (down))] := hl
  refine lv_aload_n hx hb dX7_sort_0 rfl (lv_at hl 0 rfl) ?_
  refine lv_iconst (v := 0) hx hb dX7_sort_1 (by decide) ?_
  refine g_puti (C := RX7) (T := TX7) (N := 28) (v := 0) (ty := .int) hx hb hts inX7g tyX7_ok nmX7 hown hK hG hS (0, 0, 0) ⟨rfl, rfl⟩ (m_at_0 cy L 0 0 (σ (0, 0, 0))) rfl 0 (by decide) (m_up_0_0 cy L 0 0 (σ (0, 0, 0)) (0)) fl_X7_83 rfl (by decide +kernel) rfl rfl (Nat.le_of_ble_eq_true rfl) dX7_sort_2 (fun H locs hG hS => ?_)
  rw [hτ] at hG
  refine lv_aload_n hx hb dX7_sort_5 rfl (lv_at hl 0 rfl) ?_
  refine lv_iload_n hx hb dX7_sort_6 rfl (lv_at hl 1 rfl) ?_
  refine g_cont (va_runV (As := [.int (u)]) (rest := []) ⟨hx, hb, hml, hown, hts⟩ (c_X7_isOpen l D cy L τ (u) s0 s1) (cwV 1 hts gV_X7_118 rfl rfl rfl (by decide +kernel) ⟨Nat.le_of_ble_eq_true rfl, Nat.le_of_ble_eq_true rfl⟩) (g_preV hK hN hG (x := (0, 0, 0)) ⟨rfl, rfl⟩ (q := (RX7, TX7, 28)) (m_at_0 cy L 0 0 (τ (0, 0, 0))) rfl) rfl rfl hl.1 rfl (lv_room (Nat.le_of_ble_eq_true rfl)) dX7_sort_7 ⟨Nat.zero_le _, Nat.zero_le _⟩) hS (fun H locs hG hS => ?_)
  refine W.eq (g2 := F0 m 10 ls [.int (g_b ((0 ≤ (u).toInt ∧ (u).toInt ≤ ((τ (0, 0, 0) 10).toInt - 1)) ∧ (τ (2, 13, 0) ((u).toInt).toNat).toInt = 0))]) rfl ?_
  refine kz_b_ne (tgt := 16) hx hb dX7_sort_10 (by decide) (fun c_10_1 => ?_) (fun c_10_1 => ?_)
  · refine lv_aload_n hx hb dX7_sort_16 rfl (lv_at hl 0 rfl) ?_
    refine g_get (C := RX7) (T := TX7) (N := 28) (v := .ref (L (1, 11, 0))) hx hb hts inX7g hown hK hG (0, 0, 0) ⟨rfl, rfl⟩ (m_at_0 cy L 0 0 (τ (0, 0, 0))) rfl 11 (by decide) fl_X7_32 rfl dX7_sort_17 ?_
    refine lv_iload_n hx hb dX7_sort_20 rfl (lv_at hl 1 rfl) ?_
    refine g_iald (n := 8) hx hb hK hG (1, 11, 0) ⟨by decide, rfl⟩ 0 rfl rfl (g_vp (by omega) (by omega)) dX7_sort_21 ?_
    rw [show (u : Int32).toNatClampNeg = ((u).toInt).toNat from congrArg Int.toNat (show (u : Int32).toInt = (u).toInt from rfl)]
    refine lv_iconst (v := 1) hx hb dX7_sort_22 (by decide) ?_
    refine lv_iand hx hb dX7_sort_23 ?_
    refine kz_if_ne (X := ((τ (1, 11, 0) (((u).toInt).toNat)) &&& (1)).toInt) hx hb rfl dX7_sort_24 (tgt := 35) (by decide) (fun c_24_2 => ?_) (fun c_24_2 => ?_)
    · refine lv_aload_n hx hb dX7_sort_35 rfl (lv_at hl 0 rfl) ?_
      refine lv_iload_n hx hb dX7_sort_36 rfl (lv_at hl 1 rfl) ?_
      refine lv_iload_n hx hb dX7_sort_37 rfl (lv_at hl 2 rfl) ?_
      refine g_cont (va_runV (As := [.int (u), .int (v)]) (rest := []) ⟨hx, hb, hml, hown, hts⟩ (c_X7_isSet l D cy L τ (u) (v) ⟨by omega, by omega⟩) (cwV 2 hts gV_X7_128 rfl rfl rfl (by decide +kernel) ⟨Nat.le_of_ble_eq_true rfl, Nat.le_of_ble_eq_true rfl⟩) (g_preV hK hN hG (x := (0, 0, 0)) ⟨rfl, rfl⟩ (q := (RX7, TX7, 28)) (m_at_0 cy L 0 0 (τ (0, 0, 0))) rfl) rfl rfl hl.1 rfl (lv_room (Nat.le_of_ble_eq_true rfl)) dX7_sort_38 ⟨Nat.zero_le _, Nat.zero_le _⟩) hS (fun H locs hG hS => ?_)
      refine W.eq (g2 := F0 m 41 ls [.int (g_b ((0 ≤ (v).toInt ∧ (v).toInt ≤ (if (τ (1, 11, 0) ((u).toInt).toNat &&& 4).toInt = 4 then (4 : Int) else 0)) ∧ 0 ≤ (τ (1, 16, 0) ((5 * (u).toInt) + (v).toInt).toNat).toInt))]) rfl ?_
      refine kz_b_ne (tgt := 52) hx hb dX7_sort_41 (by decide) (fun c_41_3 => ?_) (fun c_41_3 => ?_)
      · refine lv_iload_n hx hb dX7_sort_52 rfl (lv_at hl 3 rfl) ?_
        refine g_cont (va_runS (As := [.int (x)]) (rest := []) ⟨hx, hb, hml, hown, hts⟩ (c_X7_isIndex l D cy L τ (x) (x).toInt rfl) (cwS 1 hts gS_X7_94 rfl rfl rfl (by decide +kernel) ⟨Nat.le_of_ble_eq_true rfl, Nat.le_of_ble_eq_true rfl⟩) (g_preS hK hN hG) rfl rfl hl.1 rfl (lv_room (Nat.le_of_ble_eq_true rfl)) dX7_sort_53 ⟨Nat.zero_le _, Nat.zero_le _⟩) hS (fun H locs hG hS => ?_)
        refine W.eq (g2 := F0 m 56 ls [.int (g_b (0 ≤ (x).toInt ∧ (x).toInt ≤ 4))]) rfl ?_
        refine kz_b_ne (tgt := 67) hx hb dX7_sort_56 (by decide) (fun c_56_4 => ?_) (fun c_56_4 => ?_)
        · refine lv_bipush (v := 100) hx hb dX7_sort_67 (by decide) ?_
          refine lv_iconst (v := 5) hx hb dX7_sort_69 (by decide) ?_
          refine lv_iload_n hx hb dX7_sort_70 rfl (lv_at hl 1 rfl) ?_
          refine lv_imul hx hb dX7_sort_71 ?_
          have z_5 : ((5) * (u)).toInt = (5 * (u).toInt) := g_mulZ (by decide) rfl (by omega) (by omega)
          refine lv_iload_n hx hb dX7_sort_72 rfl (lv_at hl 2 rfl) ?_
          refine lv_iadd hx hb dX7_sort_73 ?_
          have z_6 : (((5) * (u)) + (v)).toInt = ((5 * (u).toInt) + (v).toInt) := g_addZ z_5 rfl (by omega) (by omega)
          refine lv_imul hx hb dX7_sort_74 ?_
          have z_7 : ((100) * (((5) * (u)) + (v))).toInt = (100 * ((5 * (u).toInt) + (v).toInt)) := g_mulZ (by decide) z_6 (by omega) (by omega)
          refine lv_istore (lv' := [(5, .int ((100) * (((5) * (u)) + (v)))), (0, .ref (L (0, 0, 0))), (1, .int (u)), (2, .int (v)), (3, .int (x)), (4, .int (down))]) hx hb dX7_sort_75 hl (by decide) rfl (fun ls hl => ?_)
          refine lv_iconst (v := 0) hx hb dX7_sort_77 (by decide) ?_
          refine lv_istore (lv' := [(6, .int 0), (5, .int ((100) * (((5) * (u)) + (v)))), (0, .ref (L (0, 0, 0))), (1, .int (u)), (2, .int (v)), (3, .int (x)), (4, .int (down))]) hx hb dX7_sort_78 hl (by decide) rfl (fun ls hl => ?_)
          refine lv_iconst (v := 0) hx hb dX7_sort_80 (by decide) ?_
          refine lv_istore (lv' := [(7, .int 0), (6, .int 0), (5, .int ((100) * (((5) * (u)) + (v)))), (0, .ref (L (0, 0, 0))), (1, .int (u)), (2, .int (v)), (3, .int (x)), (4, .int (down))]) hx hb dX7_sort_81 hl (by decide) rfl (fun ls hl => ?_)
          have hnm9 : (v).toInt ≤ 4 := by
            have h7 : (v).toInt ≤ (if (τ (1, 11, 0) ((u).toInt).toNat &&& 4).toInt = 4 then (4 : Int) else 0) := by omega
            split at h7 <;> omega
          refine lp_msort l D cy L ⟨hx, hb, hr, hlk, hml, hown, hts, hK, hN⟩ u v x down ((100) * (((5) * (u)) + (v))) (100 * ((5 * (u).toInt) + (v).toInt)) z_7 ⟨by omega, by omega⟩ ⟨by omega, by omega⟩ (τ (1, 16, 0) ((5 * (u).toInt) + (v).toInt).toNat).toInt.toNat (by omega) ⟨by omega, by omega⟩ ⟨by omega, by omega⟩ (τ (1, 16, 0) ((5 * (u).toInt) + (v).toInt).toNat).toInt.toNat τ 0 0 H locs ls (by omega) ⟨by omega, fun t ht => hmA0 t (by omega)⟩ hG hS (lv_sub hl [0, 1, 2, 3, 4, 5, 6, 7] rfl) (fun H locs ls hG hS hl => ?_)
          refine lv_iload hx hb dX7_sort_213 (lv_at hl 0 rfl) ?_
          exact s_iret hx hb hr hlk hG hS dX7_sort_215 (by unfold m_sortR; (repeat' split) <;> first | rfl | (exfalso; omega)) (by unfold m_sortM; (repeat' split) <;> first | rfl | (exfalso; omega))
        · refine lv_aload_n hx hb dX7_sort_59 rfl (lv_at hl 0 rfl) ?_
          refine lv_iload_n hx hb dX7_sort_60 rfl (lv_at hl 1 rfl) ?_
          refine lv_bipush (v := 106) hx hb dX7_sort_61 (by decide) ?_
          refine g_cont (va_runV (As := [.int (u), .int 106]) (rest := []) ⟨hx, hb, hml, hown, hts⟩ (c_X7_tell l D cy L τ (u) (106) ⟨by omega, by omega⟩) (cwV 2 hts gV_X7_121 rfl rfl rfl (by decide +kernel) ⟨Nat.le_of_ble_eq_true rfl, Nat.le_of_ble_eq_true rfl⟩) (g_preV hK hN hG (x := (0, 0, 0)) ⟨rfl, rfl⟩ (q := (RX7, TX7, 28)) (m_at_0 cy L 0 0 (τ (0, 0, 0))) rfl) rfl rfl hl.1 rfl (lv_room (Nat.le_of_ble_eq_true rfl)) dX7_sort_63 ⟨Nat.zero_le _, Nat.zero_le _⟩) hS (fun H locs hG hS => ?_)
          refine W.eq (g2 := F0 m 66 ls [.int (-(106))]) rfl ?_
          exact s_iret hx hb hr hlk hG hS dX7_sort_66 (by unfold m_sortR; (repeat' split) <;> first | rfl | (exfalso; omega)) (by unfold m_sortM; (repeat' split) <;> first | rfl | (exfalso; omega))
      · refine lv_aload_n hx hb dX7_sort_44 rfl (lv_at hl 0 rfl) ?_
        refine lv_iload_n hx hb dX7_sort_45 rfl (lv_at hl 1 rfl) ?_
        refine lv_bipush (v := 104) hx hb dX7_sort_46 (by decide) ?_
        refine g_cont (va_runV (As := [.int (u), .int 104]) (rest := []) ⟨hx, hb, hml, hown, hts⟩ (c_X7_tell l D cy L τ (u) (104) ⟨by omega, by omega⟩) (cwV 2 hts gV_X7_121 rfl rfl rfl (by decide +kernel) ⟨Nat.le_of_ble_eq_true rfl, Nat.le_of_ble_eq_true rfl⟩) (g_preV hK hN hG (x := (0, 0, 0)) ⟨rfl, rfl⟩ (q := (RX7, TX7, 28)) (m_at_0 cy L 0 0 (τ (0, 0, 0))) rfl) rfl rfl hl.1 rfl (lv_room (Nat.le_of_ble_eq_true rfl)) dX7_sort_48 ⟨Nat.zero_le _, Nat.zero_le _⟩) hS (fun H locs hG hS => ?_)
        refine W.eq (g2 := F0 m 51 ls [.int (-(104))]) rfl ?_
        exact s_iret hx hb hr hlk hG hS dX7_sort_51 (by unfold m_sortR; (repeat' split) <;> first | rfl | (exfalso; omega)) (by unfold m_sortM; (repeat' split) <;> first | rfl | (exfalso; omega))
    · refine lv_aload_n hx hb dX7_sort_27 rfl (lv_at hl 0 rfl) ?_
      refine lv_iload_n hx hb dX7_sort_28 rfl (lv_at hl 1 rfl) ?_
      refine lv_bipush (v := 102) hx hb dX7_sort_29 (by decide) ?_
      refine g_cont (va_runV (As := [.int (u), .int 102]) (rest := []) ⟨hx, hb, hml, hown, hts⟩ (c_X7_tell l D cy L τ (u) (102) ⟨by omega, by omega⟩) (cwV 2 hts gV_X7_121 rfl rfl rfl (by decide +kernel) ⟨Nat.le_of_ble_eq_true rfl, Nat.le_of_ble_eq_true rfl⟩) (g_preV hK hN hG (x := (0, 0, 0)) ⟨rfl, rfl⟩ (q := (RX7, TX7, 28)) (m_at_0 cy L 0 0 (τ (0, 0, 0))) rfl) rfl rfl hl.1 rfl (lv_room (Nat.le_of_ble_eq_true rfl)) dX7_sort_31 ⟨Nat.zero_le _, Nat.zero_le _⟩) hS (fun H locs hG hS => ?_)
      refine W.eq (g2 := F0 m 34 ls [.int (-(102))]) rfl ?_
      exact s_iret hx hb hr hlk hG hS dX7_sort_34 (by unfold m_sortR; (repeat' split) <;> first | rfl | (exfalso; omega)) (by unfold m_sortM; (repeat' split) <;> first | rfl | (exfalso; omega))
  · refine lv_bipush (v := (-101)) hx hb dX7_sort_13 (by decide) ?_
    exact s_iret hx hb hr hlk hG hS dX7_sort_15 (by unfold m_sortR; (repeat' split) <;> first | rfl | (exfalso; omega)) (by unfold m_sortM; (repeat' split) <;> first | rfl | (exfalso; omega))
