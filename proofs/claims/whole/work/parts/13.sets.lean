/-! the class: its result sets -/
def x_make (σ : g_S → Nat → Int32) (i j : Nat) : g_S → Nat → Int32 := g_up (g_up σ (18, i, j) 2 1) (18, i, j) 1 0
def x_forget (σ : g_S → Nat → Int32) (i j : Nat) : g_S → Nat → Int32 := g_up (g_up σ (18, i, j) 2 0) (18, i, j) 1 0
def x_rsAdd (σ : g_S → Nat → Int32) (i j : Nat) (r : Int32) : g_S → Nat → Int32 := if 100 ≤ (σ (18, i, j) 1).toInt then σ else g_up (g_up σ (19, i, j) (σ (18, i, j) 1).toNatClampNeg r) (18, i, j) 1 (σ (18, i, j) 1 + 1)
def x_rsAt (σ : g_S → Nat → Int32) (i j : Nat) (p : Int32) : Int32 := if 0 ≤ p.toInt ∧ p.toInt < (σ (18, i, j) 1).toInt then σ (19, i, j) p.toNatClampNeg else -1
def x_key (t down : Int32) : Int32 := if t.toInt = -1 then 1000 else if down.toInt = 0 then t else 999 - t
def x_inGo (i j : Nat) (x down key : Int32) : Nat → (g_S → Nat → Int32) → (g_S → Nat → Int32) × Nat
  | 0, σ => (σ, 0)
  | h + 1, σ => if key.toInt < (x_key (x_termOf σ (σ (19, i, j) h) x) down).toInt then x_inGo i j x down key h (g_up σ (19, i, j) (h + 1) (σ (19, i, j) h)) else (σ, h + 1)
theorem x_inGo_s (i j : Nat) (x down key : Int32) (h : Nat) (σ : g_S → Nat → Int32) : x_inGo i j x down key (h + 1) σ = if key.toInt < (x_key (x_termOf σ (σ (19, i, j) h) x) down).toInt then x_inGo i j x down key h (g_up σ (19, i, j) (h + 1) (σ (19, i, j) h)) else (σ, h + 1) := rfl
theorem x_inGo_row (i j : Nat) (x down key : Int32) {y : g_S} (hy : y ≠ (19, i, j)) : ∀ (h : Nat) (σ : g_S → Nat → Int32), (x_inGo i j x down key h σ).1 y = σ y := by
  intro h
  induction h with
  | zero => intro σ; rfl
  | succ h ih =>
    intro σ
    rw [x_inGo_s]
    split
    · rw [ih, g_up_row hy]
    · rfl
theorem x_inGo_le (i j : Nat) (x down key : Int32) : ∀ (h : Nat) (σ : g_S → Nat → Int32), (x_inGo i j x down key h σ).2 ≤ h := by
  intro h
  induction h with
  | zero => intro σ; exact Nat.le_refl 0
  | succ h ih =>
    intro σ
    rw [x_inGo_s]
    split
    · exact Nat.le_succ_of_le (ih _)
    · exact Nat.le_refl _
def x_ordGo (i j : Nat) (x down : Int32) : Nat → Nat → (g_S → Nat → Int32) → (g_S → Nat → Int32)
  | 0, _, σ => σ
  | n + 1, k, σ => x_ordGo i j x down n (k + 1) (g_up (x_inGo i j x down (x_key (x_termOf σ (σ (19, i, j) k) x) down) k σ).1 (19, i, j) (x_inGo i j x down (x_key (x_termOf σ (σ (19, i, j) k) x) down) k σ).2 (σ (19, i, j) k))
theorem x_ordGo_s (i j : Nat) (x down : Int32) (n k : Nat) (σ : g_S → Nat → Int32) : x_ordGo i j x down (n + 1) k σ = x_ordGo i j x down n (k + 1) (g_up (x_inGo i j x down (x_key (x_termOf σ (σ (19, i, j) k) x) down) k σ).1 (19, i, j) (x_inGo i j x down (x_key (x_termOf σ (σ (19, i, j) k) x) down) k σ).2 (σ (19, i, j) k)) := rfl
theorem x_ordGo_row (i j : Nat) (x down : Int32) {y : g_S} (hy : y ≠ (19, i, j)) : ∀ (n k : Nat) (σ : g_S → Nat → Int32), x_ordGo i j x down n k σ y = σ y := by
  intro n
  induction n with
  | zero => intro k σ; rfl
  | succ n ih =>
    intro k σ
    rw [x_ordGo_s, ih, g_up_row hy, x_inGo_row i j x down _ hy]
def x_ord (σ : g_S → Nat → Int32) (i j : Nat) (x down : Int32) : g_S → Nat → Int32 := x_ordGo i j x down ((σ (18, i, j) 1).toInt.toNat - 1) 1 σ
def x_cwtGo (σ : g_S → Nat → Int32) (i j : Nat) (x : Int32) : Nat → Nat → Int32 → Int32
  | 0, _, acc => acc
  | n + 1, k, acc => x_cwtGo σ i j x n (k + 1) (if (x_termOf σ (σ (19, i, j) k) x).toInt = -1 then acc + 1 else acc)
theorem x_cwtGo_s (σ : g_S → Nat → Int32) (i j : Nat) (x : Int32) (n k : Nat) (acc : Int32) : x_cwtGo σ i j x (n + 1) k acc = x_cwtGo σ i j x n (k + 1) (if (x_termOf σ (σ (19, i, j) k) x).toInt = -1 then acc + 1 else acc) := rfl
def x_cwt (σ : g_S → Nat → Int32) (i j : Nat) (x : Int32) : Int32 := x_cwtGo σ i j x (σ (18, i, j) 1).toInt.toNat 0 0
set_option maxHeartbeats 4000000 in
set_option maxRecDepth 100000 in
theorem c_X3_make (l : Launch) (D : va_G) (cy : Nat → ClassId) (L : g_S → Nat) (ns : Nat) (kk : Nat → Nat) (σ : g_S → Nat → Int32) (i j : Nat) (hi : i < ns) (hj : j < kk i) : x_Met l D cy L ns kk yX3_make (.code yX3_make cX3_make 1 none) 0 σ [.ref (L (18, i, j))] none (x_make σ i j) := by
  refine g_Met.of (by decide) (Nat.le_of_ble_eq_true rfl) ?_
  intro pg e s m below meth c hx hb hr hlk hml hown hts hK hN H locs hG hS ls hl
  have hown : s.vm.findClass RX3 = some m.cls := hown
  have hl : lv_has ls 1 [(0, .ref (L (18, i, j)))] := hl
  refine lv_aload_n hx hb dX3_make_0 rfl (lv_at hl 0 rfl) ?_
  refine lv_iconst (v := 1) hx hb dX3_make_1 (by decide) ?_
  refine g_puti (C := RX3) (T := TX3) (N := 3) (v := 1) (ty := .boolean) hx hb hts inX3g tyX3_ok nmX3 hown hK hG hS (18, i, j) ⟨hi, hj⟩ (x_at_18 cy L ns kk (i) (j) (σ (18, i, j))) rfl 2 (by decide) (x_up_18_2 cy L ns kk (i) (j) (σ (18, i, j)) (1)) fl_X3_19 rfl (by decide +kernel) rfl rfl (Nat.le_of_ble_eq_true rfl) dX3_make_2 (fun H locs hG hS => ?_)
  refine lv_aload_n hx hb dX3_make_5 rfl (lv_at hl 0 rfl) ?_
  refine lv_iconst (v := 0) hx hb dX3_make_6 (by decide) ?_
  refine g_puti (C := RX3) (T := TX3) (N := 3) (v := 0) (ty := .int) hx hb hts inX3g tyX3_ok nmX3 hown hK hG hS (18, i, j) ⟨hi, hj⟩ (x_at_18 cy L ns kk (i) (j) ((g_up σ (18, i, j) (2) (1)) (18, i, j))) rfl 1 (by decide) (x_up_18_1 cy L ns kk (i) (j) ((g_up σ (18, i, j) (2) (1)) (18, i, j)) (0)) fl_X3_15 rfl (by decide +kernel) rfl rfl (Nat.le_of_ble_eq_true rfl) dX3_make_7 (fun H locs hG hS => ?_)
  exact s_vret hx hb hr hlk hG hS dX3_make_10 rfl rfl
set_option maxHeartbeats 4000000 in
set_option maxRecDepth 100000 in
theorem c_X3_forget (l : Launch) (D : va_G) (cy : Nat → ClassId) (L : g_S → Nat) (ns : Nat) (kk : Nat → Nat) (σ : g_S → Nat → Int32) (i j : Nat) (hi : i < ns) (hj : j < kk i) : x_Met l D cy L ns kk yX3_forget (.code yX3_forget cX3_forget 1 none) 0 σ [.ref (L (18, i, j))] none (x_forget σ i j) := by
  refine g_Met.of (by decide) (Nat.le_of_ble_eq_true rfl) ?_
  intro pg e s m below meth c hx hb hr hlk hml hown hts hK hN H locs hG hS ls hl
  have hown : s.vm.findClass RX3 = some m.cls := hown
  have hl : lv_has ls 1 [(0, .ref (L (18, i, j)))] := hl
  refine lv_aload_n hx hb dX3_forget_0 rfl (lv_at hl 0 rfl) ?_
  refine lv_iconst (v := 0) hx hb dX3_forget_1 (by decide) ?_
  refine g_puti (C := RX3) (T := TX3) (N := 3) (v := 0) (ty := .boolean) hx hb hts inX3g tyX3_ok nmX3 hown hK hG hS (18, i, j) ⟨hi, hj⟩ (x_at_18 cy L ns kk (i) (j) (σ (18, i, j))) rfl 2 (by decide) (x_up_18_2 cy L ns kk (i) (j) (σ (18, i, j)) (0)) fl_X3_19 rfl (by decide +kernel) rfl rfl (Nat.le_of_ble_eq_true rfl) dX3_forget_2 (fun H locs hG hS => ?_)
  refine lv_aload_n hx hb dX3_forget_5 rfl (lv_at hl 0 rfl) ?_
  refine lv_iconst (v := 0) hx hb dX3_forget_6 (by decide) ?_
  refine g_puti (C := RX3) (T := TX3) (N := 3) (v := 0) (ty := .int) hx hb hts inX3g tyX3_ok nmX3 hown hK hG hS (18, i, j) ⟨hi, hj⟩ (x_at_18 cy L ns kk (i) (j) ((g_up σ (18, i, j) (2) (0)) (18, i, j))) rfl 1 (by decide) (x_up_18_1 cy L ns kk (i) (j) ((g_up σ (18, i, j) (2) (0)) (18, i, j)) (0)) fl_X3_15 rfl (by decide +kernel) rfl rfl (Nat.le_of_ble_eq_true rfl) dX3_forget_7 (fun H locs hG hS => ?_)
  exact s_vret hx hb hr hlk hG hS dX3_forget_10 rfl rfl
set_option maxHeartbeats 4000000 in
set_option maxRecDepth 100000 in
theorem c_X3_isMade (l : Launch) (D : va_G) (cy : Nat → ClassId) (L : g_S → Nat) (ns : Nat) (kk : Nat → Nat) (σ : g_S → Nat → Int32) (i j : Nat) (hi : i < ns) (hj : j < kk i) (hm : narrow .boolean (.int (σ (18, i, j) 2)) = .int (σ (18, i, j) 2)) : x_Met l D cy L ns kk yX3_isMade (.code yX3_isMade cX3_isMade 1 (some .boolean)) 0 σ [.ref (L (18, i, j))] (some (.int (σ (18, i, j) 2))) σ := by
  refine g_Met.of (by decide) (Nat.le_of_ble_eq_true rfl) ?_
  intro pg e s m below meth c hx hb hr hlk hml hown hts hK hN H locs hG hS ls hl
  have hown : s.vm.findClass RX3 = some m.cls := hown
  have hl : lv_has ls 1 [(0, .ref (L (18, i, j)))] := hl
  refine lv_aload_n hx hb dX3_isMade_0 rfl (lv_at hl 0 rfl) ?_
  refine g_get (C := RX3) (T := TX3) (N := 3) (v := .int (σ (18, i, j) 2)) hx hb hts inX3g hown hK hG (18, i, j) ⟨hi, hj⟩ (x_at_18 cy L ns kk (i) (j) (σ (18, i, j))) rfl 2 (by decide) fl_X3_19 rfl dX3_isMade_1 ?_
  exact s_zret hx hb hr hlk hG hS dX3_isMade_4 hm rfl rfl
set_option maxHeartbeats 4000000 in
set_option maxRecDepth 100000 in
theorem c_X3_count (l : Launch) (D : va_G) (cy : Nat → ClassId) (L : g_S → Nat) (ns : Nat) (kk : Nat → Nat) (σ : g_S → Nat → Int32) (i j : Nat) (hi : i < ns) (hj : j < kk i) : x_Met l D cy L ns kk yX3_count (.code yX3_count cX3_count 1 (some .int)) 0 σ [.ref (L (18, i, j))] (some (.int (σ (18, i, j) 1))) σ := by
  refine g_Met.of (by decide) (Nat.le_of_ble_eq_true rfl) ?_
  intro pg e s m below meth c hx hb hr hlk hml hown hts hK hN H locs hG hS ls hl
  have hown : s.vm.findClass RX3 = some m.cls := hown
  have hl : lv_has ls 1 [(0, .ref (L (18, i, j)))] := hl
  refine lv_aload_n hx hb dX3_count_0 rfl (lv_at hl 0 rfl) ?_
  refine g_get (C := RX3) (T := TX3) (N := 3) (v := .int (σ (18, i, j) 1)) hx hb hts inX3g hown hK hG (18, i, j) ⟨hi, hj⟩ (x_at_18 cy L ns kk (i) (j) (σ (18, i, j))) rfl 1 (by decide) fl_X3_15 rfl dX3_count_1 ?_
  exact s_iret hx hb hr hlk hG hS dX3_count_4 rfl rfl
set_option maxHeartbeats 4000000 in
set_option maxRecDepth 100000 in
theorem c_X3_add (l : Launch) (D : va_G) (cy : Nat → ClassId) (L : g_S → Nat) (ns : Nat) (kk : Nat → Nat) (σ : g_S → Nat → Int32) (i j : Nat) (hi : i < ns) (hj : j < kk i) (r : Int32) (r0 : 0 ≤ (σ (18, i, j) 1).toInt) : x_Met l D cy L ns kk yX3_add (.code yX3_add cX3_add 2 none) 0 σ [.ref (L (18, i, j)), .int (r)] none (x_rsAdd σ i j r) := by
  refine g_Met.of (by decide) (Nat.le_of_ble_eq_true rfl) ?_
  intro pg e s m below meth c hx hb hr hlk hml hown hts hK hN H locs hG hS ls hl
  have hown : s.vm.findClass RX3 = some m.cls := hown
  have hl : lv_has ls 2 [(0, .ref (L (18, i, j))), (1, .int (r))] := hl
  refine lv_aload_n hx hb dX3_add_0 rfl (lv_at hl 0 rfl) ?_
  refine g_get (C := RX3) (T := TX3) (N := 3) (v := .int (σ (18, i, j) 1)) hx hb hts inX3g hown hK hG (18, i, j) ⟨hi, hj⟩ (x_at_18 cy L ns kk (i) (j) (σ (18, i, j))) rfl 1 (by decide) fl_X3_15 rfl dX3_add_1 ?_
  refine lv_bipush (v := 100) hx hb dX3_add_4 (by decide) ?_
  refine kz_icmp_ge (X := (σ (18, i, j) 1).toInt) (Y := 100) hx hb rfl (by decide) dX3_add_6 (tgt := 29) (by decide) (fun c_6_1 => ?_) (fun c_6_1 => ?_)
  · exact s_vret hx hb hr hlk hG hS dX3_add_29 rfl (by unfold x_rsAdd; (repeat' split) <;> first | rfl | (exfalso; omega))
  · refine lv_aload_n hx hb dX3_add_9 rfl (lv_at hl 0 rfl) ?_
    refine g_get (C := RX3) (T := TX3) (N := 3) (v := .ref (L (19, i, j))) hx hb hts inX3g hown hK hG (18, i, j) ⟨hi, hj⟩ (x_at_18 cy L ns kk (i) (j) (σ (18, i, j))) rfl 0 (by decide) fl_X3_9 rfl dX3_add_10 ?_
    refine lv_aload_n hx hb dX3_add_13 rfl (lv_at hl 0 rfl) ?_
    refine g_get (C := RX3) (T := TX3) (N := 3) (v := .int (σ (18, i, j) 1)) hx hb hts inX3g hown hK hG (18, i, j) ⟨hi, hj⟩ (x_at_18 cy L ns kk (i) (j) (σ (18, i, j))) rfl 1 (by decide) fl_X3_15 rfl dX3_add_14 ?_
    refine lv_iload_n hx hb dX3_add_17 rfl (lv_at hl 1 rfl) ?_
    refine g_iast (n := 100) hx hb hK hG hS (19, i, j) ⟨hi, hj⟩ 0 (fun _ => rfl) rfl (g_vp (by omega) (by omega)) dX3_add_18 (fun H locs hG hS => ?_)
    refine lv_aload_n hx hb dX3_add_19 rfl (lv_at hl 0 rfl) ?_
    refine lv_dup hx hb dX3_add_20 rfl ?_
    refine g_get (C := RX3) (T := TX3) (N := 3) (v := .int (σ (18, i, j) 1)) hx hb hts inX3g hown hK hG (18, i, j) ⟨hi, hj⟩ (x_at_18 cy L ns kk (i) (j) ((g_up σ (19, i, j) ((σ (18, i, j) 1).toNatClampNeg) (r)) (18, i, j))) rfl 1 (by decide) fl_X3_15 rfl dX3_add_21 ?_
    refine lv_iconst (v := 1) hx hb dX3_add_24 (by decide) ?_
    refine lv_iadd hx hb dX3_add_25 ?_
    refine g_puti (C := RX3) (T := TX3) (N := 3) (v := (σ (18, i, j) 1) + (1)) (ty := .int) hx hb hts inX3g tyX3_ok nmX3 hown hK hG hS (18, i, j) ⟨hi, hj⟩ (x_at_18 cy L ns kk (i) (j) ((g_up σ (19, i, j) ((σ (18, i, j) 1).toNatClampNeg) (r)) (18, i, j))) rfl 1 (by decide) (x_up_18_1 cy L ns kk (i) (j) ((g_up σ (19, i, j) ((σ (18, i, j) 1).toNatClampNeg) (r)) (18, i, j)) ((σ (18, i, j) 1) + (1))) fl_X3_15 rfl (by decide +kernel) rfl rfl (Nat.le_of_ble_eq_true rfl) dX3_add_26 (fun H locs hG hS => ?_)
    exact s_vret hx hb hr hlk hG hS dX3_add_29 rfl (by unfold x_rsAdd; (repeat' split) <;> first | rfl | (exfalso; omega))
set_option maxHeartbeats 4000000 in
set_option maxRecDepth 100000 in
theorem c_X3_recordAt (l : Launch) (D : va_G) (cy : Nat → ClassId) (L : g_S → Nat) (ns : Nat) (kk : Nat → Nat) (σ : g_S → Nat → Int32) (i j : Nat) (hi : i < ns) (hj : j < kk i) (p : Int32) (r1 : (σ (18, i, j) 1).toInt ≤ 100) : x_Met l D cy L ns kk yX3_recordAt (.code yX3_recordAt cX3_recordAt 2 (some .int)) 0 σ [.ref (L (18, i, j)), .int (p)] (some (.int (x_rsAt σ i j p))) σ := by
  refine g_Met.of (by decide) (Nat.le_of_ble_eq_true rfl) ?_
  intro pg e s m below meth c hx hb hr hlk hml hown hts hK hN H locs hG hS ls hl
  have hown : s.vm.findClass RX3 = some m.cls := hown
  have hl : lv_has ls 2 [(0, .ref (L (18, i, j))), (1, .int (p))] := hl
  refine lv_iload_n hx hb dX3_recordAt_0 rfl (lv_at hl 1 rfl) ?_
  refine kz_if_lt (X := (p).toInt) hx hb rfl dX3_recordAt_1 (tgt := 21) (by decide) (fun c_1_1 => ?_) (fun c_1_1 => ?_)
  · refine lv_iconst (v := (-1)) hx hb dX3_recordAt_21 (by decide) ?_
    exact s_iret hx hb hr hlk hG hS dX3_recordAt_22 (by unfold x_rsAt; (repeat' split) <;> first | rfl | (exfalso; omega)) rfl
  · refine lv_iload_n hx hb dX3_recordAt_4 rfl (lv_at hl 1 rfl) ?_
    refine lv_aload_n hx hb dX3_recordAt_5 rfl (lv_at hl 0 rfl) ?_
    refine g_get (C := RX3) (T := TX3) (N := 3) (v := .int (σ (18, i, j) 1)) hx hb hts inX3g hown hK hG (18, i, j) ⟨hi, hj⟩ (x_at_18 cy L ns kk (i) (j) (σ (18, i, j))) rfl 1 (by decide) fl_X3_15 rfl dX3_recordAt_6 ?_
    refine kz_icmp_ge (X := (p).toInt) (Y := (σ (18, i, j) 1).toInt) hx hb rfl rfl dX3_recordAt_9 (tgt := 21) (by decide) (fun c_9_2 => ?_) (fun c_9_2 => ?_)
    · refine lv_iconst (v := (-1)) hx hb dX3_recordAt_21 (by decide) ?_
      exact s_iret hx hb hr hlk hG hS dX3_recordAt_22 (by unfold x_rsAt; (repeat' split) <;> first | rfl | (exfalso; omega)) rfl
    · refine lv_aload_n hx hb dX3_recordAt_12 rfl (lv_at hl 0 rfl) ?_
      refine g_get (C := RX3) (T := TX3) (N := 3) (v := .ref (L (19, i, j))) hx hb hts inX3g hown hK hG (18, i, j) ⟨hi, hj⟩ (x_at_18 cy L ns kk (i) (j) (σ (18, i, j))) rfl 0 (by decide) fl_X3_9 rfl dX3_recordAt_13 ?_
      refine lv_iload_n hx hb dX3_recordAt_16 rfl (lv_at hl 1 rfl) ?_
      refine g_iald (n := 100) hx hb hK hG (19, i, j) ⟨hi, hj⟩ 0 rfl rfl (g_vp (by omega) (by omega)) dX3_recordAt_17 ?_
      refine lv_goto (tgt := 22) hx hb dX3_recordAt_18 (by decide) ?_
      exact s_iret hx hb hr hlk hG hS dX3_recordAt_22 (by unfold x_rsAt; (repeat' split) <;> first | rfl | (exfalso; omega)) rfl
set_option maxHeartbeats 4000000 in
set_option maxRecDepth 100000 in
theorem c_X3_keyOf (l : Launch) (D : va_G) (cy : Nat → ClassId) (L : g_S → Nat) (ns : Nat) (kk : Nat → Nat) (σ : g_S → Nat → Int32) (t down : Int32) : x_Met l D cy L ns kk yX3_keyOf (.code yX3_keyOf cX3_keyOf 2 (some .int)) 0 σ [.int (t), .int (down)] (some (.int (x_key t down))) σ := by
  refine g_Met.of (by decide) (Nat.le_of_ble_eq_true rfl) ?_
  intro pg e s m below meth c hx hb hr hlk hml hown hts hK hN H locs hG hS ls hl
  have hown : s.vm.findClass RX3 = some m.cls := hown
  have hl : lv_has ls 2 [(0, .int (t)), (1, .int (down))] := hl
  refine lv_iload_n hx hb dX3_keyOf_0 rfl (lv_at hl 0 rfl) ?_
  refine lv_iconst (v := (-1)) hx hb dX3_keyOf_1 (by decide) ?_
  refine kz_icmp_ne (X := (t).toInt) (Y := (-1)) hx hb rfl (by decide) dX3_keyOf_2 (tgt := 9) (by decide) (fun c_2_1 => ?_) (fun c_2_1 => ?_)
  · refine lv_iload_n hx hb dX3_keyOf_9 rfl (lv_at hl 1 rfl) ?_
    refine kz_if_eq (X := (down).toInt) hx hb rfl dX3_keyOf_10 (tgt := 21) (by decide) (fun c_10_2 => ?_) (fun c_10_2 => ?_)
    · refine lv_iload_n hx hb dX3_keyOf_21 rfl (lv_at hl 0 rfl) ?_
      exact s_iret hx hb hr hlk hG hS dX3_keyOf_22 (by unfold x_key; (repeat' split) <;> first | rfl | (exfalso; omega)) rfl
    · refine lv_sipush (v := 999) hx hb dX3_keyOf_13 (by decide) ?_
      refine lv_iload_n hx hb dX3_keyOf_16 rfl (lv_at hl 0 rfl) ?_
      refine lv_isub hx hb dX3_keyOf_17 ?_
      refine lv_goto (tgt := 22) hx hb dX3_keyOf_18 (by decide) ?_
      exact s_iret hx hb hr hlk hG hS dX3_keyOf_22 (by unfold x_key; (repeat' split) <;> first | rfl | (exfalso; omega)) rfl
  · refine lv_sipush (v := 1000) hx hb dX3_keyOf_5 (by decide) ?_
    exact s_iret hx hb hr hlk hG hS dX3_keyOf_8 (by unfold x_key; (repeat' split) <;> first | rfl | (exfalso; omega)) rfl
set_option maxHeartbeats 4000000 in
set_option maxRecDepth 100000 in
theorem lp_cwt (l : Launch) (D : va_G) (cy : Nat → ClassId) (L : g_S → Nat) (ns : Nat) (kk : Nat → Nat) (σ : g_S → Nat → Int32) {pg : Program} {e : Env} {s : State} {m : MethodId} {args : Array Value} {below : List Frame} {meth : Method} {c : Code} {Q : State → Prop} (C0 : g_C pg s m meth c args cX3_countWithoutTerm (some .int) 5 RX3 D (x_tys cy)) (i j : Nat) (hi : i < ns) (hj : j < kk i) (hn : (σ (1, 0, 0) 2).toInt ≤ 100) (r1 : (σ (18, i, j) 1).toInt ≤ 100) (x : Int32) :
    ∀ (n : Nat) (k : Nat) (acc : Int32) (H : Heap) (locs : List Loc) (ls : Array Slot), k + n = (σ (18, i, j) 1).toInt.toNat → g_H D vwCl (x_dom ns kk) L (fun z => x_K cy L ns kk z (σ z)) H → va_S (g_A (x_dom ns kk) L) s.heap H locs → lv_has ls 5 [(4, .int (nI k)), (3, .int (acc)), (0, .ref (L (18, i, j))), (1, .ref (L (1, 0, 0))), (2, .int (x))] →
    (∀ (H : Heap) (locs : List Loc) (ls : Array Slot), g_H D vwCl (x_dom ns kk) L (fun z => x_K cy L ns kk z (σ z)) H → va_S (g_A (x_dom ns kk) L) s.heap H locs → lv_has ls 5 [(3, .int (x_cwtGo σ i j x n k acc))] → W pg l e (g_R 2) s m args below meth c H locs 0 0 Q (F0 m 39 ls [])) →
    W pg l e (g_R 2) s m args below meth c H locs 0 0 Q (F0 m 5 ls []) := by
  obtain ⟨hx, hb, hr, hlk, hml, hown, hts, hK, hN⟩ := C0
  intro n
  induction n with
  | zero =>
    intro k acc H locs ls hv9 hG hS hl kk9
    have hz := g_nIT (show k < 2147483648 by omega)
    refine lv_iload hx hb dX3_countWithoutTerm_5 (lv_at hl 0 rfl) ?_
    refine lv_aload_n hx hb dX3_countWithoutTerm_7 rfl (lv_at hl 2 rfl) ?_
    refine g_get (C := RX3) (T := TX3) (N := 3) (v := .int (σ (18, i, j) 1)) hx hb hts inX3g hown hK hG (18, i, j) ⟨hi, hj⟩ (x_at_18 cy L ns kk (i) (j) (σ (18, i, j))) rfl 1 (by decide) fl_X3_15 rfl dX3_countWithoutTerm_8 ?_
    refine kz_icmp_ge (X := ((k : Nat) : Int)) (Y := (σ (18, i, j) 1).toInt) hx hb (g_nIT (by omega)) rfl dX3_countWithoutTerm_11 (tgt := 39) (by decide) (fun c_11_1 => ?_) (fun c_11_1 => ?_)
    · exact kk9 H locs ls hG hS (lv_sub hl [1] rfl)
    · exact absurd c_11_1 (by omega)
  | succ n ih =>
    intro k acc H locs ls hv9 hG hS hl kk9
    have hz := g_nIT (show k < 2147483648 by omega)
    refine lv_iload hx hb dX3_countWithoutTerm_5 (lv_at hl 0 rfl) ?_
    refine lv_aload_n hx hb dX3_countWithoutTerm_7 rfl (lv_at hl 2 rfl) ?_
    refine g_get (C := RX3) (T := TX3) (N := 3) (v := .int (σ (18, i, j) 1)) hx hb hts inX3g hown hK hG (18, i, j) ⟨hi, hj⟩ (x_at_18 cy L ns kk (i) (j) (σ (18, i, j))) rfl 1 (by decide) fl_X3_15 rfl dX3_countWithoutTerm_8 ?_
    refine kz_icmp_ge (X := ((k : Nat) : Int)) (Y := (σ (18, i, j) 1).toInt) hx hb (g_nIT (by omega)) rfl dX3_countWithoutTerm_11 (tgt := 39) (by decide) (fun c_11_1 => ?_) (fun c_11_1 => ?_)
    · exact absurd c_11_1 (by omega)
    · refine lv_aload_n hx hb dX3_countWithoutTerm_14 rfl (lv_at hl 3 rfl) ?_
      refine lv_aload_n hx hb dX3_countWithoutTerm_15 rfl (lv_at hl 2 rfl) ?_
      refine g_get (C := RX3) (T := TX3) (N := 3) (v := .ref (L (19, i, j))) hx hb hts inX3g hown hK hG (18, i, j) ⟨hi, hj⟩ (x_at_18 cy L ns kk (i) (j) (σ (18, i, j))) rfl 0 (by decide) fl_X3_9 rfl dX3_countWithoutTerm_16 ?_
      refine lv_iload hx hb dX3_countWithoutTerm_19 (lv_at hl 0 rfl) ?_
      refine g_iald (n := 100) hx hb hK hG (19, i, j) ⟨hi, hj⟩ 0 rfl rfl (vp_in_nI (show k < 100 by omega) (by omega)) dX3_countWithoutTerm_21 ?_
      rw [g_nIc (show k < 2147483648 by omega)]
      refine lv_iload_n hx hb dX3_countWithoutTerm_22 rfl (lv_at hl 4 rfl) ?_
      refine g_cont (va_runV (As := [.int (σ (19, i, j) k), .int (x)]) (rest := []) ⟨hx, hb, hml, hown, hts⟩ (c_X2_termOf l D cy L ns kk σ (σ (19, i, j) k) (x) hn) (cwV 2 hts gV_X3_23 rfl rfl rfl (by decide +kernel) ⟨Nat.le_of_ble_eq_true rfl, Nat.le_of_ble_eq_true rfl⟩) (g_preV hK hN hG (x := (1, 0, 0)) ⟨rfl, rfl⟩ (q := (RX2, TX2, 3)) (x_at_1 cy L ns kk (0) (0) (σ (1, 0, 0))) rfl) rfl rfl hl.1 rfl (lv_room (Nat.le_of_ble_eq_true rfl)) dX3_countWithoutTerm_23 ⟨Nat.zero_le _, Nat.zero_le _⟩) hS (fun H locs hG hS => ?_)
      refine W.eq (g2 := F0 m 26 ls [.int (x_termOf σ (σ (19, i, j) k) (x))]) rfl ?_
      refine lv_iconst (v := (-1)) hx hb dX3_countWithoutTerm_26 (by decide) ?_
      refine kz_icmp_ne (X := (x_termOf σ (σ (19, i, j) k) (x)).toInt) (Y := (-1)) hx hb rfl (by decide) dX3_countWithoutTerm_27 (tgt := 33) (by decide) (fun c_27_2 => ?_) (fun c_27_2 => ?_)
      · refine lv_iinc (v := nI (k + 1)) (lv' := [(4, .int (nI (k + 1))), (3, .int (acc)), (0, .ref (L (18, i, j))), (1, .ref (L (1, 0, 0))), (2, .int (x))]) hx hb dX3_countWithoutTerm_33 hl (k := 0) rfl (nI_1 (k)) (by decide) rfl (fun ls hl => ?_)
        refine lv_goto (tgt := 5) hx hb dX3_countWithoutTerm_36 (by decide) ?_
        have e90 : x_cwtGo σ i j x (n + 1) k acc = x_cwtGo σ i j x n (k + 1) (acc) := (by rw [x_cwtGo_s]; (repeat' split) <;> first | rfl | (exfalso; omega))
        rw [e90] at kk9
        exact ih (k + 1) (acc) H locs ls (by omega) hG hS (lv_sub hl [0, 1, 2, 3, 4] rfl) kk9
      · refine lv_iinc (v := acc + 1) (lv' := [(3, .int (acc + 1)), (4, .int (nI k)), (0, .ref (L (18, i, j))), (1, .ref (L (1, 0, 0))), (2, .int (x))]) hx hb dX3_countWithoutTerm_30 hl (k := 1) rfl rfl (by decide) rfl (fun ls hl => ?_)
        refine lv_iinc (v := nI (k + 1)) (lv' := [(4, .int (nI (k + 1))), (3, .int (acc + 1)), (0, .ref (L (18, i, j))), (1, .ref (L (1, 0, 0))), (2, .int (x))]) hx hb dX3_countWithoutTerm_33 hl (k := 1) rfl (nI_1 (k)) (by decide) rfl (fun ls hl => ?_)
        refine lv_goto (tgt := 5) hx hb dX3_countWithoutTerm_36 (by decide) ?_
        have e90 : x_cwtGo σ i j x (n + 1) k acc = x_cwtGo σ i j x n (k + 1) (acc + 1) := (by rw [x_cwtGo_s]; (repeat' split) <;> first | rfl | (exfalso; omega))
        rw [e90] at kk9
        exact ih (k + 1) (acc + 1) H locs ls (by omega) hG hS (lv_sub hl [0, 1, 2, 3, 4] rfl) kk9
set_option maxHeartbeats 4000000 in
set_option maxRecDepth 100000 in
theorem c_X3_countWithoutTerm (l : Launch) (D : va_G) (cy : Nat → ClassId) (L : g_S → Nat) (ns : Nat) (kk : Nat → Nat) (σ : g_S → Nat → Int32) (i j : Nat) (hi : i < ns) (hj : j < kk i) (x : Int32) (hn : (σ (1, 0, 0) 2).toInt ≤ 100) (r1 : (σ (18, i, j) 1).toInt ≤ 100) : x_Met l D cy L ns kk yX3_countWithoutTerm (.code yX3_countWithoutTerm cX3_countWithoutTerm 5 (some .int)) 2 σ [.ref (L (18, i, j)), .ref (L (1, 0, 0)), .int (x)] (some (.int (x_cwt σ i j x))) σ := by
  refine g_Met.of (by decide) (Nat.le_of_ble_eq_true rfl) ?_
  intro pg e s m below meth c hx hb hr hlk hml hown hts hK hN H locs hG hS ls hl
  have hown : s.vm.findClass RX3 = some m.cls := hown
  have hl : lv_has ls 5 [(0, .ref (L (18, i, j))), (1, .ref (L (1, 0, 0))), (2, .int (x))] := hl
  refine lv_iconst (v := 0) hx hb dX3_countWithoutTerm_0 (by decide) ?_
  refine lv_istore_n (lv' := [(3, .int 0), (0, .ref (L (18, i, j))), (1, .ref (L (1, 0, 0))), (2, .int (x))]) hx hb dX3_countWithoutTerm_1 rfl hl (by decide) rfl (fun ls hl => ?_)
  refine lv_iconst (v := 0) hx hb dX3_countWithoutTerm_2 (by decide) ?_
  refine lv_istore (lv' := [(4, .int 0), (3, .int 0), (0, .ref (L (18, i, j))), (1, .ref (L (1, 0, 0))), (2, .int (x))]) hx hb dX3_countWithoutTerm_3 hl (by decide) rfl (fun ls hl => ?_)
  refine lp_cwt l D cy L ns kk σ ⟨hx, hb, hr, hlk, hml, hown, hts, hK, hN⟩ i j hi hj hn r1 x (σ (18, i, j) 1).toInt.toNat 0 0 H locs ls (by omega) hG hS (lv_sub hl [0, 1, 2, 3, 4] rfl) (fun H locs ls hG hS hl => ?_)
  refine lv_iload_n hx hb dX3_countWithoutTerm_39 rfl (lv_at hl 0 rfl) ?_
  exact s_iret hx hb hr hlk hG hS dX3_countWithoutTerm_40 rfl rfl
set_option maxHeartbeats 4000000 in
set_option maxRecDepth 100000 in
theorem lp_in (l : Launch) (D : va_G) (cy : Nat → ClassId) (L : g_S → Nat) (ns : Nat) (kk : Nat → Nat) {pg : Program} {e : Env} {s : State} {m : MethodId} {args : Array Value} {below : List Frame} {meth : Method} {c : Code} {Q : State → Prop} (C0 : g_C pg s m meth c args cX3_putInOrder none 8 RX3 D (x_tys cy)) (i j : Nat) (hi : i < ns) (hj : j < kk i) (x down key mv ki : Int32) :
    ∀ (n : Nat) (σ : g_S → Nat → Int32)  (H : Heap) (locs : List Loc) (ls : Array Slot), n < 100 → ((σ (1, 0, 0) 2).toInt ≤ 100) → g_H D vwCl (x_dom ns kk) L (fun z => x_K cy L ns kk z (σ z)) H → va_S (g_A (x_dom ns kk) L) s.heap H locs → lv_has ls 8 [(7, .int (nI n)), (6, .int (key)), (5, .int (mv)), (4, .int (ki)), (0, .ref (L (18, i, j))), (1, .ref (L (1, 0, 0))), (2, .int (x)), (3, .int (down))] →
    (∀ (H : Heap) (locs : List Loc) (ls : Array Slot), g_H D vwCl (x_dom ns kk) L (fun z => x_K cy L ns kk z ((x_inGo i j x down key n σ).1 z)) H → va_S (g_A (x_dom ns kk) L) s.heap H locs → lv_has ls 8 [(7, .int (nI ((x_inGo i j x down key n σ).2))), (6, .int (key)), (5, .int (mv)), (4, .int (ki)), (0, .ref (L (18, i, j))), (1, .ref (L (1, 0, 0))), (2, .int (x)), (3, .int (down))] → W pg l e (g_R 2) s m args below meth c H locs 0 0 Q (F0 m 88 ls [])) →
    W pg l e (g_R 2) s m args below meth c H locs 0 0 Q (F0 m 38 ls []) := by
  obtain ⟨hx, hb, hr, hlk, hml, hown, hts, hK, hN⟩ := C0
  intro n
  induction n with
  | zero =>
    intro σ H locs ls hv9 hy hG hS hl kk9
    have hn := hy
    refine lv_iload hx hb dX3_putInOrder_38 (lv_at hl 0 rfl) ?_
    refine kz_if_le (X := ((0 : Nat) : Int)) hx hb (g_nIT (by omega)) dX3_putInOrder_40 (tgt := 88) (by decide) (fun c_40_1 => ?_) (fun c_40_1 => ?_)
    · exact kk9 H locs ls hG hS (lv_sub hl [0, 1, 2, 3, 4, 5, 6, 7] rfl)
    · exact absurd c_40_1 (by omega)
  | succ n ih =>
    intro σ H locs ls hv9 hy hG hS hl kk9
    have hn := hy
    refine lv_iload hx hb dX3_putInOrder_38 (lv_at hl 0 rfl) ?_
    refine kz_if_le (X := ((n + 1 : Nat) : Int)) hx hb (g_nIT (by omega)) dX3_putInOrder_40 (tgt := 88) (by decide) (fun c_40_1 => ?_) (fun c_40_1 => ?_)
    · exact absurd c_40_1 (by omega)
    · refine lv_aload_n hx hb dX3_putInOrder_43 rfl (lv_at hl 5 rfl) ?_
      refine lv_aload_n hx hb dX3_putInOrder_44 rfl (lv_at hl 4 rfl) ?_
      refine g_get (C := RX3) (T := TX3) (N := 3) (v := .ref (L (19, i, j))) hx hb hts inX3g hown hK hG (18, i, j) ⟨hi, hj⟩ (x_at_18 cy L ns kk (i) (j) (σ (18, i, j))) rfl 0 (by decide) fl_X3_9 rfl dX3_putInOrder_45 ?_
      refine lv_iload hx hb dX3_putInOrder_48 (lv_at hl 0 rfl) ?_
      refine lv_iconst (v := 1) hx hb dX3_putInOrder_50 (by decide) ?_
      refine lv_isub hx hb dX3_putInOrder_51 ?_
      rw [show nI (n + 1) - 1 = nI (n) from nI_pred _]
      refine g_iald (n := 100) hx hb hK hG (19, i, j) ⟨hi, hj⟩ 0 rfl rfl (vp_in_nI (show n < 100 by omega) (by omega)) dX3_putInOrder_52 ?_
      rw [g_nIc (show n < 2147483648 by omega)]
      refine lv_iload_n hx hb dX3_putInOrder_53 rfl (lv_at hl 6 rfl) ?_
      refine g_cont (va_runV (As := [.int (σ (19, i, j) n), .int (x)]) (rest := []) ⟨hx, hb, hml, hown, hts⟩ (c_X2_termOf l D cy L ns kk σ (σ (19, i, j) n) (x) hn) (cwV 2 hts gV_X3_23 rfl rfl rfl (by decide +kernel) ⟨Nat.le_of_ble_eq_true rfl, Nat.le_of_ble_eq_true rfl⟩) (g_preV hK hN hG (x := (1, 0, 0)) ⟨rfl, rfl⟩ (q := (RX2, TX2, 3)) (x_at_1 cy L ns kk (0) (0) (σ (1, 0, 0))) rfl) rfl rfl hl.1 rfl (lv_room (Nat.le_of_ble_eq_true rfl)) dX3_putInOrder_54 ⟨Nat.zero_le _, Nat.zero_le _⟩) hS (fun H locs hG hS => ?_)
      refine W.eq (g2 := F0 m 57 ls [.int (x_termOf σ (σ (19, i, j) n) (x))]) rfl ?_
      refine lv_iload_n hx hb dX3_putInOrder_57 rfl (lv_at hl 7 rfl) ?_
      refine g_cont (va_runS (As := [.int (x_termOf σ (σ (19, i, j) n) (x)), .int (down)]) (rest := []) ⟨hx, hb, hml, hown, hts⟩ (c_X3_keyOf l D cy L ns kk σ (x_termOf σ (σ (19, i, j) n) (x)) (down)) (cwS 2 hts gS_X3_29 rfl rfl rfl (by decide +kernel) ⟨Nat.le_of_ble_eq_true rfl, Nat.le_of_ble_eq_true rfl⟩) (g_preS hK hN hG) rfl rfl hl.1 rfl (lv_room (Nat.le_of_ble_eq_true rfl)) dX3_putInOrder_58 ⟨Nat.zero_le _, Nat.zero_le _⟩) hS (fun H locs hG hS => ?_)
      refine W.eq (g2 := F0 m 61 ls [.int (x_key (x_termOf σ (σ (19, i, j) n) (x)) (down))]) rfl ?_
      refine lv_iload hx hb dX3_putInOrder_61 (lv_at hl 1 rfl) ?_
      refine kz_icmp_le (X := (x_key (x_termOf σ (σ (19, i, j) n) (x)) (down)).toInt) (Y := (key).toInt) hx hb rfl rfl dX3_putInOrder_63 (tgt := 88) (by decide) (fun c_63_2 => ?_) (fun c_63_2 => ?_)
      · have e90 : x_inGo i j x down key (n + 1) σ = (σ, n + 1) := (by rw [x_inGo_s]; (repeat' split) <;> first | rfl | (exfalso; omega))
        rw [e90] at kk9
        exact kk9 H locs ls hG hS (lv_sub hl [0, 1, 2, 3, 4, 5, 6, 7] rfl)
      · refine lv_aload_n hx hb dX3_putInOrder_66 rfl (lv_at hl 4 rfl) ?_
        refine g_get (C := RX3) (T := TX3) (N := 3) (v := .ref (L (19, i, j))) hx hb hts inX3g hown hK hG (18, i, j) ⟨hi, hj⟩ (x_at_18 cy L ns kk (i) (j) (σ (18, i, j))) rfl 0 (by decide) fl_X3_9 rfl dX3_putInOrder_67 ?_
        refine lv_iload hx hb dX3_putInOrder_70 (lv_at hl 0 rfl) ?_
        refine lv_aload_n hx hb dX3_putInOrder_72 rfl (lv_at hl 4 rfl) ?_
        refine g_get (C := RX3) (T := TX3) (N := 3) (v := .ref (L (19, i, j))) hx hb hts inX3g hown hK hG (18, i, j) ⟨hi, hj⟩ (x_at_18 cy L ns kk (i) (j) (σ (18, i, j))) rfl 0 (by decide) fl_X3_9 rfl dX3_putInOrder_73 ?_
        refine lv_iload hx hb dX3_putInOrder_76 (lv_at hl 0 rfl) ?_
        refine lv_iconst (v := 1) hx hb dX3_putInOrder_78 (by decide) ?_
        refine lv_isub hx hb dX3_putInOrder_79 ?_
        rw [show nI (n + 1) - 1 = nI (n) from nI_pred _]
        refine g_iald (n := 100) hx hb hK hG (19, i, j) ⟨hi, hj⟩ 0 rfl rfl (vp_in_nI (show n < 100 by omega) (by omega)) dX3_putInOrder_80 ?_
        rw [g_nIc (show n < 2147483648 by omega)]
        refine g_iast (n := 100) hx hb hK hG hS (19, i, j) ⟨hi, hj⟩ 0 (fun _ => rfl) rfl (vp_in_nI (show n + 1 < 100 by omega) (by omega)) dX3_putInOrder_81 (fun H locs hG hS => ?_)
        rw [g_nIc (show n + 1 < 2147483648 by omega)] at hG
        refine lv_iinc (v := nI n) (lv' := [(7, .int (nI n)), (6, .int (key)), (5, .int (mv)), (4, .int (ki)), (0, .ref (L (18, i, j))), (1, .ref (L (1, 0, 0))), (2, .int (x)), (3, .int (down))]) hx hb dX3_putInOrder_82 hl (k := 0) rfl (pk_m1 (n)) (by decide) rfl (fun ls hl => ?_)
        refine lv_goto (tgt := 38) hx hb dX3_putInOrder_85 (by decide) ?_
        have e90 : x_inGo i j x down key (n + 1) σ = x_inGo i j x down key n (g_up σ (19, i, j) (n + 1) (σ (19, i, j) n)) := (by rw [x_inGo_s]; (repeat' split) <;> first | rfl | (exfalso; omega))
        rw [e90] at kk9
        exact ih (g_up σ (19, i, j) (n + 1) (σ (19, i, j) n))  H locs ls (by omega) (by simpa [g_up_at] using hn) hG hS (lv_sub hl [0, 1, 2, 3, 4, 5, 6, 7] rfl) kk9
set_option maxHeartbeats 4000000 in
set_option maxRecDepth 100000 in
theorem lp_ord (l : Launch) (D : va_G) (cy : Nat → ClassId) (L : g_S → Nat) (ns : Nat) (kk : Nat → Nat) {pg : Program} {e : Env} {s : State} {m : MethodId} {args : Array Value} {below : List Frame} {meth : Method} {c : Code} {Q : State → Prop} (C0 : g_C pg s m meth c args cX3_putInOrder none 8 RX3 D (x_tys cy)) (i j : Nat) (hi : i < ns) (hj : j < kk i) (N : Nat) (x down : Int32) :
    ∀ (n : Nat) (σ : g_S → Nat → Int32) (k : Nat) (H : Heap) (locs : List Loc) (ls : Array Slot), k + n = N + 1 → ((σ (18, i, j) 1).toInt = (N : Int) + 1 ∧ (σ (1, 0, 0) 2).toInt ≤ 100 ∧ N < 100) → g_H D vwCl (x_dom ns kk) L (fun z => x_K cy L ns kk z (σ z)) H → va_S (g_A (x_dom ns kk) L) s.heap H locs → lv_has ls 8 [(4, .int (nI k)), (0, .ref (L (18, i, j))), (1, .ref (L (1, 0, 0))), (2, .int (x)), (3, .int (down))] →
    (∀ (H : Heap) (locs : List Loc) (ls : Array Slot), g_H D vwCl (x_dom ns kk) L (fun z => x_K cy L ns kk z ((x_ordGo i j x down n k σ) z)) H → va_S (g_A (x_dom ns kk) L) s.heap H locs → lv_has ls 8 [(0, .ref (L (18, i, j)))] → W pg l e (g_R 2) s m args below meth c H locs 0 0 Q (F0 m 103 ls [])) →
    W pg l e (g_R 2) s m args below meth c H locs 0 0 Q (F0 m 3 ls []) := by
  obtain ⟨hx, hb, hr, hlk, hml, hown, hts, hK, hN⟩ := C0
  intro n
  induction n with
  | zero =>
    intro σ k H locs ls hv9 hy hG hS hl kk9
    obtain ⟨hc, hn, hN9⟩ := hy
    have hz := g_nIT (show k < 2147483648 by omega)
    refine lv_iload hx hb dX3_putInOrder_3 (lv_at hl 0 rfl) ?_
    refine lv_aload_n hx hb dX3_putInOrder_5 rfl (lv_at hl 1 rfl) ?_
    refine g_get (C := RX3) (T := TX3) (N := 3) (v := .int (σ (18, i, j) 1)) hx hb hts inX3g hown hK hG (18, i, j) ⟨hi, hj⟩ (x_at_18 cy L ns kk (i) (j) (σ (18, i, j))) rfl 1 (by decide) fl_X3_15 rfl dX3_putInOrder_6 ?_
    refine kz_icmp_ge (X := ((k : Nat) : Int)) (Y := (σ (18, i, j) 1).toInt) hx hb (g_nIT (by omega)) rfl dX3_putInOrder_9 (tgt := 103) (by decide) (fun c_9_1 => ?_) (fun c_9_1 => ?_)
    · exact kk9 H locs ls hG hS (lv_sub hl [1] rfl)
    · exact absurd c_9_1 (by omega)
  | succ n ih =>
    intro σ k H locs ls hv9 hy hG hS hl kk9
    obtain ⟨hc, hn, hN9⟩ := hy
    have hz := g_nIT (show k < 2147483648 by omega)
    refine lv_iload hx hb dX3_putInOrder_3 (lv_at hl 0 rfl) ?_
    refine lv_aload_n hx hb dX3_putInOrder_5 rfl (lv_at hl 1 rfl) ?_
    refine g_get (C := RX3) (T := TX3) (N := 3) (v := .int (σ (18, i, j) 1)) hx hb hts inX3g hown hK hG (18, i, j) ⟨hi, hj⟩ (x_at_18 cy L ns kk (i) (j) (σ (18, i, j))) rfl 1 (by decide) fl_X3_15 rfl dX3_putInOrder_6 ?_
    refine kz_icmp_ge (X := ((k : Nat) : Int)) (Y := (σ (18, i, j) 1).toInt) hx hb (g_nIT (by omega)) rfl dX3_putInOrder_9 (tgt := 103) (by decide) (fun c_9_1 => ?_) (fun c_9_1 => ?_)
    · exact absurd c_9_1 (by omega)
    · refine lv_aload_n hx hb dX3_putInOrder_12 rfl (lv_at hl 1 rfl) ?_
      refine g_get (C := RX3) (T := TX3) (N := 3) (v := .ref (L (19, i, j))) hx hb hts inX3g hown hK hG (18, i, j) ⟨hi, hj⟩ (x_at_18 cy L ns kk (i) (j) (σ (18, i, j))) rfl 0 (by decide) fl_X3_9 rfl dX3_putInOrder_13 ?_
      refine lv_iload hx hb dX3_putInOrder_16 (lv_at hl 0 rfl) ?_
      refine g_iald (n := 100) hx hb hK hG (19, i, j) ⟨hi, hj⟩ 0 rfl rfl (vp_in_nI (show k < 100 by omega) (by omega)) dX3_putInOrder_18 ?_
      rw [g_nIc (show k < 2147483648 by omega)]
      refine lv_istore (lv' := [(5, .int (σ (19, i, j) k)), (4, .int (nI k)), (0, .ref (L (18, i, j))), (1, .ref (L (1, 0, 0))), (2, .int (x)), (3, .int (down))]) hx hb dX3_putInOrder_19 hl (by decide) rfl (fun ls hl => ?_)
      refine lv_aload_n hx hb dX3_putInOrder_21 rfl (lv_at hl 3 rfl) ?_
      refine lv_iload hx hb dX3_putInOrder_22 (lv_at hl 0 rfl) ?_
      refine lv_iload_n hx hb dX3_putInOrder_24 rfl (lv_at hl 4 rfl) ?_
      refine g_cont (va_runV (As := [.int (σ (19, i, j) k), .int (x)]) (rest := []) ⟨hx, hb, hml, hown, hts⟩ (c_X2_termOf l D cy L ns kk σ (σ (19, i, j) k) (x) hn) (cwV 2 hts gV_X3_23 rfl rfl rfl (by decide +kernel) ⟨Nat.le_of_ble_eq_true rfl, Nat.le_of_ble_eq_true rfl⟩) (g_preV hK hN hG (x := (1, 0, 0)) ⟨rfl, rfl⟩ (q := (RX2, TX2, 3)) (x_at_1 cy L ns kk (0) (0) (σ (1, 0, 0))) rfl) rfl rfl hl.1 rfl (lv_room (Nat.le_of_ble_eq_true rfl)) dX3_putInOrder_25 ⟨Nat.zero_le _, Nat.zero_le _⟩) hS (fun H locs hG hS => ?_)
      refine W.eq (g2 := F0 m 28 ls [.int (x_termOf σ (σ (19, i, j) k) (x))]) rfl ?_
      refine lv_iload_n hx hb dX3_putInOrder_28 rfl (lv_at hl 5 rfl) ?_
      refine g_cont (va_runS (As := [.int (x_termOf σ (σ (19, i, j) k) (x)), .int (down)]) (rest := []) ⟨hx, hb, hml, hown, hts⟩ (c_X3_keyOf l D cy L ns kk σ (x_termOf σ (σ (19, i, j) k) (x)) (down)) (cwS 2 hts gS_X3_29 rfl rfl rfl (by decide +kernel) ⟨Nat.le_of_ble_eq_true rfl, Nat.le_of_ble_eq_true rfl⟩) (g_preS hK hN hG) rfl rfl hl.1 rfl (lv_room (Nat.le_of_ble_eq_true rfl)) dX3_putInOrder_29 ⟨Nat.zero_le _, Nat.zero_le _⟩) hS (fun H locs hG hS => ?_)
      refine W.eq (g2 := F0 m 32 ls [.int (x_key (x_termOf σ (σ (19, i, j) k) (x)) (down))]) rfl ?_
      refine lv_istore (lv' := [(6, .int (x_key (x_termOf σ (σ (19, i, j) k) (x)) (down))), (5, .int (σ (19, i, j) k)), (4, .int (nI k)), (0, .ref (L (18, i, j))), (1, .ref (L (1, 0, 0))), (2, .int (x)), (3, .int (down))]) hx hb dX3_putInOrder_32 hl (by decide) rfl (fun ls hl => ?_)
      refine lv_iload hx hb dX3_putInOrder_34 (lv_at hl 2 rfl) ?_
      refine lv_istore (lv' := [(7, .int (nI k)), (6, .int (x_key (x_termOf σ (σ (19, i, j) k) (x)) (down))), (5, .int (σ (19, i, j) k)), (4, .int (nI k)), (0, .ref (L (18, i, j))), (1, .ref (L (1, 0, 0))), (2, .int (x)), (3, .int (down))]) hx hb dX3_putInOrder_36 hl (by decide) rfl (fun ls hl => ?_)
      refine lp_in l D cy L ns kk ⟨hx, hb, hr, hlk, hml, hown, hts, hK, hN⟩ i j hi hj x down (x_key (x_termOf σ (σ (19, i, j) k) (x)) (down)) (σ (19, i, j) k) (nI k) k σ H locs ls (by omega) hn hG hS (lv_sub hl [0, 1, 2, 3, 4, 5, 6, 7] rfl) (fun H locs ls hG hS hl => ?_)
      have hle := x_inGo_le i j x down (x_key (x_termOf σ (σ (19, i, j) k) (x)) (down)) k σ
      refine lv_aload_n hx hb dX3_putInOrder_88 rfl (lv_at hl 4 rfl) ?_
      refine g_get (C := RX3) (T := TX3) (N := 3) (v := .ref (L (19, i, j))) hx hb hts inX3g hown hK hG (18, i, j) ⟨hi, hj⟩ (x_at_18 cy L ns kk (i) (j) ((x_inGo i j (x) (down) (x_key (x_termOf σ (σ (19, i, j) k) (x)) (down)) k σ).1 (18, i, j))) rfl 0 (by decide) fl_X3_9 rfl dX3_putInOrder_89 ?_
      refine lv_iload hx hb dX3_putInOrder_92 (lv_at hl 0 rfl) ?_
      refine lv_iload hx hb dX3_putInOrder_94 (lv_at hl 2 rfl) ?_
      refine g_iast (n := 100) hx hb hK hG hS (19, i, j) ⟨hi, hj⟩ 0 (fun _ => rfl) rfl (vp_in_nI (show (x_inGo i j (x) (down) (x_key (x_termOf σ (σ (19, i, j) k) (x)) (down)) k σ).2 < 100 by omega) (by omega)) dX3_putInOrder_96 (fun H locs hG hS => ?_)
      rw [g_nIc (show (x_inGo i j (x) (down) (x_key (x_termOf σ (σ (19, i, j) k) (x)) (down)) k σ).2 < 2147483648 by omega)] at hG
      refine lv_iinc (v := nI (k + 1)) (lv' := [(4, .int (nI (k + 1))), (7, .int (nI ((x_inGo i j (x) (down) (x_key (x_termOf σ (σ (19, i, j) k) (x)) (down)) k σ).2))), (6, .int (x_key (x_termOf σ (σ (19, i, j) k) (x)) (down))), (5, .int (σ (19, i, j) k)), (0, .ref (L (18, i, j))), (1, .ref (L (1, 0, 0))), (2, .int (x)), (3, .int (down))]) hx hb dX3_putInOrder_97 hl (k := 3) rfl (nI_1 (k)) (by decide) rfl (fun ls hl => ?_)
      refine lv_goto (tgt := 3) hx hb dX3_putInOrder_100 (by decide) ?_
      have e90 : x_ordGo i j x down (n + 1) k σ = x_ordGo i j x down n (k + 1) (g_up (x_inGo i j (x) (down) (x_key (x_termOf σ (σ (19, i, j) k) (x)) (down)) k σ).1 (19, i, j) ((x_inGo i j (x) (down) (x_key (x_termOf σ (σ (19, i, j) k) (x)) (down)) k σ).2) (σ (19, i, j) k)) := (by rw [x_ordGo_s])
      rw [e90] at kk9
      exact ih (g_up (x_inGo i j (x) (down) (x_key (x_termOf σ (σ (19, i, j) k) (x)) (down)) k σ).1 (19, i, j) ((x_inGo i j (x) (down) (x_key (x_termOf σ (σ (19, i, j) k) (x)) (down)) k σ).2) (σ (19, i, j) k)) (k + 1) H locs ls (by omega) ⟨by rw [g_up_row (by simp), x_inGo_row i j x down _ (by simp)]; exact hc, by rw [g_up_row (by simp), x_inGo_row i j x down _ (by simp)]; exact hn, hN9⟩ hG hS (lv_sub hl [0, 4, 5, 6, 7] rfl) kk9
set_option maxHeartbeats 4000000 in
set_option maxRecDepth 100000 in
theorem c_X3_putInOrder (l : Launch) (D : va_G) (cy : Nat → ClassId) (L : g_S → Nat) (ns : Nat) (kk : Nat → Nat) (σ : g_S → Nat → Int32) (i j : Nat) (hi : i < ns) (hj : j < kk i) (x down : Int32) (hn : (σ (1, 0, 0) 2).toInt ≤ 100) (r0 : 0 ≤ (σ (18, i, j) 1).toInt) (r1 : (σ (18, i, j) 1).toInt ≤ 100) : x_Met l D cy L ns kk yX3_putInOrder (.code yX3_putInOrder cX3_putInOrder 8 none) 2 σ [.ref (L (18, i, j)), .ref (L (1, 0, 0)), .int (x), .int (down)] none (x_ord σ i j x down) := by
  refine g_Met.of (by decide) (Nat.le_of_ble_eq_true rfl) ?_
  intro pg e s m below meth c hx hb hr hlk hml hown hts hK hN H locs hG hS ls hl
  have hown : s.vm.findClass RX3 = some m.cls := hown
  have hl : lv_has ls 8 [(0, .ref (L (18, i, j))), (1, .ref (L (1, 0, 0))), (2, .int (x)), (3, .int (down))] := hl
  refine lv_iconst (v := 1) hx hb dX3_putInOrder_0 (by decide) ?_
  refine lv_istore (lv' := [(4, .int 1), (0, .ref (L (18, i, j))), (1, .ref (L (1, 0, 0))), (2, .int (x)), (3, .int (down))]) hx hb dX3_putInOrder_1 hl (by decide) rfl (fun ls hl => ?_)
  by_cases hz0 : (σ (18, i, j) 1).toInt = 0
  · refine lv_iload hx hb dX3_putInOrder_3 (lv_at hl 0 rfl) ?_
    refine lv_aload_n hx hb dX3_putInOrder_5 rfl (lv_at hl 1 rfl) ?_
    refine g_get (C := RX3) (T := TX3) (N := 3) (v := .int (σ (18, i, j) 1)) hx hb hts inX3g hown hK hG (18, i, j) ⟨hi, hj⟩ (x_at_18 cy L ns kk (i) (j) (σ (18, i, j))) rfl 1 (by decide) fl_X3_15 rfl dX3_putInOrder_6 ?_
    refine kz_icmp_ge (X := 1) (Y := (σ (18, i, j) 1).toInt) hx hb (by decide) rfl dX3_putInOrder_9 (tgt := 103) (by decide) (fun c_9_1 => ?_) (fun c_9_1 => ?_)
    · exact s_vret hx hb hr hlk hG hS dX3_putInOrder_103 rfl (by unfold x_ord; rw [hz0]; rfl)
    · exact absurd c_9_1 (by omega)
  · refine lp_ord l D cy L ns kk  ⟨hx, hb, hr, hlk, hml, hown, hts, hK, hN⟩ i j hi hj ((σ (18, i, j) 1).toInt.toNat - 1) x down ((σ (18, i, j) 1).toInt.toNat - 1) σ 1 H locs ls (by omega) ⟨by omega, hn, by omega⟩ hG hS (lv_sub hl [0, 1, 2, 3, 4] rfl) (fun H locs ls hG hS hl => ?_)
    exact s_vret hx hb hr hlk hG hS dX3_putInOrder_103 rfl rfl
