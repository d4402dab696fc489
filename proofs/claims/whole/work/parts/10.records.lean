/-! the class: its records -/
def x_termOf (σ : g_S → Nat → Int32) (p x : Int32) : Int32 := if (0 ≤ p.toInt ∧ p.toInt < (σ (1, 0, 0) 2).toInt) ∧ (0 ≤ x.toInt ∧ x.toInt < 5) then σ (10, x.toNatClampNeg, 0) p.toNatClampNeg else -1
def x_bytesOf (σ : g_S → Nat → Int32) (p : Int32) : Int32 := if 0 ≤ p.toInt ∧ p.toInt < (σ (1, 0, 0) 2).toInt then σ (3, 0, 0) p.toNatClampNeg else 0
set_option maxHeartbeats 4000000 in
set_option maxRecDepth 100000 in
theorem c_X6_isIndex (l : Launch) (D : va_G) (cy : Nat → ClassId) (L : g_S → Nat) (ns : Nat) (kk : Nat → Nat) (σ : g_S → Nat → Int32) (p : Int32) : x_Met l D cy L ns kk yX6_isIndex (.code yX6_isIndex cX6_isIndex 1 (some .boolean)) 0 σ [.int (p)] (some (.int (g_b (0 ≤ (p).toInt ∧ (p).toInt < 5)))) σ := by
  refine g_Met.of (by decide) (Nat.le_of_ble_eq_true rfl) ?_
  intro pg e s m below meth c hx hb hr hlk hml hown hts hK hN H locs hG hS ls hl
  have hown : s.vm.findClass RX6 = some m.cls := hown
  have hl : lv_has ls 1 [(0, .int (p))] := hl
  refine lv_iload_n hx hb dX6_isIndex_0 rfl (lv_at hl 0 rfl) ?_
  refine kz_if_lt (X := (p).toInt) hx hb rfl dX6_isIndex_1 (tgt := 13) (by decide) (fun c_1_1 => ?_) (fun c_1_1 => ?_)
  · refine lv_iconst (v := 0) hx hb dX6_isIndex_13 (by decide) ?_
    exact s_zret hx hb hr hlk hG hS dX6_isIndex_14 rfl (by unfold g_b; (repeat' split) <;> first | rfl | (exfalso; omega)) rfl
  · refine lv_iload_n hx hb dX6_isIndex_4 rfl (lv_at hl 0 rfl) ?_
    refine lv_iconst (v := 5) hx hb dX6_isIndex_5 (by decide) ?_
    refine kz_icmp_ge (X := (p).toInt) (Y := 5) hx hb rfl (by decide) dX6_isIndex_6 (tgt := 13) (by decide) (fun c_6_2 => ?_) (fun c_6_2 => ?_)
    · refine lv_iconst (v := 0) hx hb dX6_isIndex_13 (by decide) ?_
      exact s_zret hx hb hr hlk hG hS dX6_isIndex_14 rfl (by unfold g_b; (repeat' split) <;> first | rfl | (exfalso; omega)) rfl
    · refine lv_iconst (v := 1) hx hb dX6_isIndex_9 (by decide) ?_
      refine lv_goto (tgt := 14) hx hb dX6_isIndex_10 (by decide) ?_
      exact s_zret hx hb hr hlk hG hS dX6_isIndex_14 rfl (by unfold g_b; (repeat' split) <;> first | rfl | (exfalso; omega)) rfl
set_option maxHeartbeats 4000000 in
set_option maxRecDepth 100000 in
theorem c_X6_isTerm (l : Launch) (D : va_G) (cy : Nat → ClassId) (L : g_S → Nat) (ns : Nat) (kk : Nat → Nat) (σ : g_S → Nat → Int32) (p : Int32) : x_Met l D cy L ns kk yX6_isTerm (.code yX6_isTerm cX6_isTerm 1 (some .boolean)) 0 σ [.int (p)] (some (.int (g_b (0 ≤ (p).toInt ∧ (p).toInt ≤ 999)))) σ := by
  refine g_Met.of (by decide) (Nat.le_of_ble_eq_true rfl) ?_
  intro pg e s m below meth c hx hb hr hlk hml hown hts hK hN H locs hG hS ls hl
  have hown : s.vm.findClass RX6 = some m.cls := hown
  have hl : lv_has ls 1 [(0, .int (p))] := hl
  refine lv_iload_n hx hb dX6_isTerm_0 rfl (lv_at hl 0 rfl) ?_
  refine kz_if_lt (X := (p).toInt) hx hb rfl dX6_isTerm_1 (tgt := 15) (by decide) (fun c_1_1 => ?_) (fun c_1_1 => ?_)
  · refine lv_iconst (v := 0) hx hb dX6_isTerm_15 (by decide) ?_
    exact s_zret hx hb hr hlk hG hS dX6_isTerm_16 rfl (by unfold g_b; (repeat' split) <;> first | rfl | (exfalso; omega)) rfl
  · refine lv_iload_n hx hb dX6_isTerm_4 rfl (lv_at hl 0 rfl) ?_
    refine lv_sipush (v := 999) hx hb dX6_isTerm_5 (by decide) ?_
    refine kz_icmp_gt (X := (p).toInt) (Y := 999) hx hb rfl (by decide) dX6_isTerm_8 (tgt := 15) (by decide) (fun c_8_2 => ?_) (fun c_8_2 => ?_)
    · refine lv_iconst (v := 0) hx hb dX6_isTerm_15 (by decide) ?_
      exact s_zret hx hb hr hlk hG hS dX6_isTerm_16 rfl (by unfold g_b; (repeat' split) <;> first | rfl | (exfalso; omega)) rfl
    · refine lv_iconst (v := 1) hx hb dX6_isTerm_11 (by decide) ?_
      refine lv_goto (tgt := 16) hx hb dX6_isTerm_12 (by decide) ?_
      exact s_zret hx hb hr hlk hG hS dX6_isTerm_16 rfl (by unfold g_b; (repeat' split) <;> first | rfl | (exfalso; omega)) rfl
set_option maxHeartbeats 4000000 in
set_option maxRecDepth 100000 in
theorem c_X2_count (l : Launch) (D : va_G) (cy : Nat → ClassId) (L : g_S → Nat) (ns : Nat) (kk : Nat → Nat) (σ : g_S → Nat → Int32)  : x_Met l D cy L ns kk yX2_count (.code yX2_count cX2_count 1 (some .int)) 0 σ [.ref (L (1, 0, 0))] (some (.int (σ (1, 0, 0) 2))) σ := by
  refine g_Met.of (by decide) (Nat.le_of_ble_eq_true rfl) ?_
  intro pg e s m below meth c hx hb hr hlk hml hown hts hK hN H locs hG hS ls hl
  have hown : s.vm.findClass RX2 = some m.cls := hown
  have hl : lv_has ls 1 [(0, .ref (L (1, 0, 0)))] := hl
  refine lv_aload_n hx hb dX2_count_0 rfl (lv_at hl 0 rfl) ?_
  refine g_get (C := RX2) (T := TX2) (N := 3) (v := .int (σ (1, 0, 0) 2)) hx hb hts inX2g hown hK hG (1, 0, 0) ⟨rfl, rfl⟩ (x_at_1 cy L ns kk (0) (0) (σ (1, 0, 0))) rfl 2 (by decide) fl_X2_20 rfl dX2_count_1 ?_
  exact s_iret hx hb hr hlk hG hS dX2_count_4 rfl rfl
set_option maxHeartbeats 4000000 in
set_option maxRecDepth 100000 in
theorem c_X2_has (l : Launch) (D : va_G) (cy : Nat → ClassId) (L : g_S → Nat) (ns : Nat) (kk : Nat → Nat) (σ : g_S → Nat → Int32) (p : Int32) : x_Met l D cy L ns kk yX2_has (.code yX2_has cX2_has 2 (some .boolean)) 0 σ [.ref (L (1, 0, 0)), .int (p)] (some (.int (g_b (0 ≤ (p).toInt ∧ (p).toInt < (σ (1, 0, 0) 2).toInt)))) σ := by
  refine g_Met.of (by decide) (Nat.le_of_ble_eq_true rfl) ?_
  intro pg e s m below meth c hx hb hr hlk hml hown hts hK hN H locs hG hS ls hl
  have hown : s.vm.findClass RX2 = some m.cls := hown
  have hl : lv_has ls 2 [(0, .ref (L (1, 0, 0))), (1, .int (p))] := hl
  refine lv_iload_n hx hb dX2_has_0 rfl (lv_at hl 1 rfl) ?_
  refine kz_if_lt (X := (p).toInt) hx hb rfl dX2_has_1 (tgt := 16) (by decide) (fun c_1_1 => ?_) (fun c_1_1 => ?_)
  · refine lv_iconst (v := 0) hx hb dX2_has_16 (by decide) ?_
    exact s_zret hx hb hr hlk hG hS dX2_has_17 rfl (by unfold g_b; (repeat' split) <;> first | rfl | (exfalso; omega)) rfl
  · refine lv_iload_n hx hb dX2_has_4 rfl (lv_at hl 1 rfl) ?_
    refine lv_aload_n hx hb dX2_has_5 rfl (lv_at hl 0 rfl) ?_
    refine g_get (C := RX2) (T := TX2) (N := 3) (v := .int (σ (1, 0, 0) 2)) hx hb hts inX2g hown hK hG (1, 0, 0) ⟨rfl, rfl⟩ (x_at_1 cy L ns kk (0) (0) (σ (1, 0, 0))) rfl 2 (by decide) fl_X2_20 rfl dX2_has_6 ?_
    refine kz_icmp_ge (X := (p).toInt) (Y := (σ (1, 0, 0) 2).toInt) hx hb rfl rfl dX2_has_9 (tgt := 16) (by decide) (fun c_9_2 => ?_) (fun c_9_2 => ?_)
    · refine lv_iconst (v := 0) hx hb dX2_has_16 (by decide) ?_
      exact s_zret hx hb hr hlk hG hS dX2_has_17 rfl (by unfold g_b; (repeat' split) <;> first | rfl | (exfalso; omega)) rfl
    · refine lv_iconst (v := 1) hx hb dX2_has_12 (by decide) ?_
      refine lv_goto (tgt := 17) hx hb dX2_has_13 (by decide) ?_
      exact s_zret hx hb hr hlk hG hS dX2_has_17 rfl (by unfold g_b; (repeat' split) <;> first | rfl | (exfalso; omega)) rfl
set_option maxHeartbeats 4000000 in
set_option maxRecDepth 100000 in
theorem c_X2_bytesOf (l : Launch) (D : va_G) (cy : Nat → ClassId) (L : g_S → Nat) (ns : Nat) (kk : Nat → Nat) (σ : g_S → Nat → Int32) (p : Int32) (hn : (σ (1, 0, 0) 2).toInt ≤ 100) : x_Met l D cy L ns kk yX2_bytesOf (.code yX2_bytesOf cX2_bytesOf 2 (some .int)) 1 σ [.ref (L (1, 0, 0)), .int (p)] (some (.int (x_bytesOf σ p))) σ := by
  refine g_Met.of (by decide) (Nat.le_of_ble_eq_true rfl) ?_
  intro pg e s m below meth c hx hb hr hlk hml hown hts hK hN H locs hG hS ls hl
  have hown : s.vm.findClass RX2 = some m.cls := hown
  have hl : lv_has ls 2 [(0, .ref (L (1, 0, 0))), (1, .int (p))] := hl
  refine lv_aload_n hx hb dX2_bytesOf_0 rfl (lv_at hl 0 rfl) ?_
  refine lv_iload_n hx hb dX2_bytesOf_1 rfl (lv_at hl 1 rfl) ?_
  refine g_cont (va_runV (As := [.int (p)]) (rest := []) ⟨hx, hb, hml, hown, hts⟩ (c_X2_has l D cy L ns kk σ (p)) (cwV 1 hts gV_X2_24 rfl rfl rfl (by decide +kernel) ⟨Nat.le_of_ble_eq_true rfl, Nat.le_of_ble_eq_true rfl⟩) (g_preV hK hN hG (x := (1, 0, 0)) ⟨rfl, rfl⟩ (q := (RX2, TX2, 3)) (x_at_1 cy L ns kk (0) (0) (σ (1, 0, 0))) rfl) rfl rfl hl.1 rfl (lv_room (Nat.le_of_ble_eq_true rfl)) dX2_bytesOf_2 ⟨Nat.zero_le _, Nat.zero_le _⟩) hS (fun H locs hG hS => ?_)
  refine W.eq (g2 := F0 m 5 ls [.int (g_b (0 ≤ (p).toInt ∧ (p).toInt < (σ (1, 0, 0) 2).toInt))]) rfl ?_
  refine kz_b_eq (tgt := 17) hx hb dX2_bytesOf_5 (by decide) (fun c_5_1 => ?_) (fun c_5_1 => ?_)
  · refine lv_iconst (v := 0) hx hb dX2_bytesOf_17 (by decide) ?_
    exact s_iret hx hb hr hlk hG hS dX2_bytesOf_18 (by unfold x_bytesOf; (repeat' split) <;> first | rfl | (exfalso; omega)) rfl
  · refine lv_aload_n hx hb dX2_bytesOf_8 rfl (lv_at hl 0 rfl) ?_
    refine g_get (C := RX2) (T := TX2) (N := 3) (v := .ref (L (3, 0, 0))) hx hb hts inX2g hown hK hG (1, 0, 0) ⟨rfl, rfl⟩ (x_at_1 cy L ns kk (0) (0) (σ (1, 0, 0))) rfl 0 (by decide) fl_X2_9 rfl dX2_bytesOf_9 ?_
    refine lv_iload_n hx hb dX2_bytesOf_12 rfl (lv_at hl 1 rfl) ?_
    refine g_iald (n := 100) hx hb hK hG (3, 0, 0) ⟨rfl, rfl⟩ 0 rfl rfl (g_vp (by omega) (by omega)) dX2_bytesOf_13 ?_
    refine lv_goto (tgt := 18) hx hb dX2_bytesOf_14 (by decide) ?_
    exact s_iret hx hb hr hlk hG hS dX2_bytesOf_18 (by unfold x_bytesOf; (repeat' split) <;> first | rfl | (exfalso; omega)) rfl
set_option maxHeartbeats 4000000 in
set_option maxRecDepth 100000 in
theorem c_X2_termOf (l : Launch) (D : va_G) (cy : Nat → ClassId) (L : g_S → Nat) (ns : Nat) (kk : Nat → Nat) (σ : g_S → Nat → Int32) (p x : Int32) (hn : (σ (1, 0, 0) 2).toInt ≤ 100) : x_Met l D cy L ns kk yX2_termOf (.code yX2_termOf cX2_termOf 3 (some .int)) 1 σ [.ref (L (1, 0, 0)), .int (p), .int (x)] (some (.int (x_termOf σ p x))) σ := by
  refine g_Met.of (by decide) (Nat.le_of_ble_eq_true rfl) ?_
  intro pg e s m below meth c hx hb hr hlk hml hown hts hK hN H locs hG hS ls hl
  have hown : s.vm.findClass RX2 = some m.cls := hown
  have hl : lv_has ls 3 [(0, .ref (L (1, 0, 0))), (1, .int (p)), (2, .int (x))] := hl
  refine lv_aload_n hx hb dX2_termOf_0 rfl (lv_at hl 0 rfl) ?_
  refine lv_iload_n hx hb dX2_termOf_1 rfl (lv_at hl 1 rfl) ?_
  refine g_cont (va_runV (As := [.int (p)]) (rest := []) ⟨hx, hb, hml, hown, hts⟩ (c_X2_has l D cy L ns kk σ (p)) (cwV 1 hts gV_X2_24 rfl rfl rfl (by decide +kernel) ⟨Nat.le_of_ble_eq_true rfl, Nat.le_of_ble_eq_true rfl⟩) (g_preV hK hN hG (x := (1, 0, 0)) ⟨rfl, rfl⟩ (q := (RX2, TX2, 3)) (x_at_1 cy L ns kk (0) (0) (σ (1, 0, 0))) rfl) rfl rfl hl.1 rfl (lv_room (Nat.le_of_ble_eq_true rfl)) dX2_termOf_2 ⟨Nat.zero_le _, Nat.zero_le _⟩) hS (fun H locs hG hS => ?_)
  refine W.eq (g2 := F0 m 5 ls [.int (g_b (0 ≤ (p).toInt ∧ (p).toInt < (σ (1, 0, 0) 2).toInt))]) rfl ?_
  refine kz_b_eq (tgt := 26) hx hb dX2_termOf_5 (by decide) (fun c_5_1 => ?_) (fun c_5_1 => ?_)
  · refine lv_iconst (v := (-1)) hx hb dX2_termOf_26 (by decide) ?_
    exact s_iret hx hb hr hlk hG hS dX2_termOf_27 (by unfold x_termOf; (repeat' split) <;> first | rfl | (exfalso; omega)) rfl
  · refine lv_iload_n hx hb dX2_termOf_8 rfl (lv_at hl 2 rfl) ?_
    refine g_cont (va_runSN (As := [.int (x)]) (rest := []) ⟨hx, hb, hml, hown, hts⟩ (c_X6_isIndex l D cy L ns kk σ (x)) ⟨va_cnB 1 hts (g_good cwd_X6_isIndex) rfl rfl rfl hN.1.1 (hts _ ini_X6) (by decide +kernel) ⟨Nat.le_of_ble_eq_true rfl, Nat.le_of_ble_eq_true rfl⟩, hts _ st_isIndex, trivial⟩ (g_preS hK hN hG) rfl rfl hl.1 rfl (lv_room (Nat.le_of_ble_eq_true rfl)) dX2_termOf_9 ⟨Nat.zero_le _, Nat.zero_le _⟩) hS (fun H locs hG hS => ?_)
    refine W.eq (g2 := F0 m 12 ls [.int (g_b (0 ≤ (x).toInt ∧ (x).toInt < 5))]) rfl ?_
    refine kz_b_eq (tgt := 26) hx hb dX2_termOf_12 (by decide) (fun c_12_2 => ?_) (fun c_12_2 => ?_)
    · refine lv_iconst (v := (-1)) hx hb dX2_termOf_26 (by decide) ?_
      exact s_iret hx hb hr hlk hG hS dX2_termOf_27 (by unfold x_termOf; (repeat' split) <;> first | rfl | (exfalso; omega)) rfl
    · refine lv_aload_n hx hb dX2_termOf_15 rfl (lv_at hl 0 rfl) ?_
      refine g_get (C := RX2) (T := TX2) (N := 3) (v := .ref (L (4, 0, 0))) hx hb hts inX2g hown hK hG (1, 0, 0) ⟨rfl, rfl⟩ (x_at_1 cy L ns kk (0) (0) (σ (1, 0, 0))) rfl 1 (by decide) fl_X2_17 rfl dX2_termOf_16 ?_
      refine lv_iload_n hx hb dX2_termOf_19 rfl (lv_at hl 2 rfl) ?_
      refine g_aald (n := 5) (v := .ref (L (10, (x).toNatClampNeg, 0))) hx hb hK hG (4, 0, 0) ⟨rfl, rfl⟩ 1 rfl rfl rfl (g_vp (by omega) (by omega)) rfl dX2_termOf_20 ?_
      refine lv_iload_n hx hb dX2_termOf_21 rfl (lv_at hl 1 rfl) ?_
      refine g_iald (n := 100) hx hb hK hG (10, (x).toNatClampNeg, 0) ⟨(by rw [g_cl]; omega), rfl⟩ 0 rfl rfl (g_vp (by omega) (by omega)) dX2_termOf_22 ?_
      refine lv_goto (tgt := 27) hx hb dX2_termOf_23 (by decide) ?_
      exact s_iret hx hb hr hlk hG hS dX2_termOf_27 (by unfold x_termOf; (repeat' split) <;> first | rfl | (exfalso; omega)) rfl
