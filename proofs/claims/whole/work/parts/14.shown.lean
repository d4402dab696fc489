/-! the class: what was presented, what was scanned -/
def x_clear (σ : g_S → Nat → Int32) (i : Nat) : g_S → Nat → Int32 := g_up (g_up σ (13, i, 0) 4 0) (13, i, 0) 5 0
/-- a new segment begins -/
def x_segNew (σ : g_S → Nat → Int32) (i : Nat) : g_S → Nat → Int32 := g_up (g_up (g_up σ (15, i, 0) (σ (13, i, 0) 5).toNatClampNeg (σ (13, i, 0) 4)) (16, i, 0) (σ (13, i, 0) 5).toNatClampNeg 0) (13, i, 0) 5 ((σ (13, i, 0) 5) + 1)
/-- the bytes of the last segment grow, the record goes into the row -/
def x_segPut (σ : g_S → Nat → Int32) (i : Nat) (k : Nat) (cn r size : Int32) : g_S → Nat → Int32 := g_up (g_up (g_up σ (16, i, 0) k (σ (16, i, 0) k + size)) (14, i, 0) cn.toNatClampNeg r) (13, i, 0) 4 (cn + 1)
def x_preAdd (σ : g_S → Nat → Int32) (i : Nat) (r size : Int32) : g_S → Nat → Int32 := if 100 ≤ (σ (13, i, 0) 4).toInt then σ else
  if (σ (13, i, 0) 5).toInt = 0 ∨ (σ (13, i, 0) 0).toInt < (σ (16, i, 0) ((σ (13, i, 0) 5) - 1).toNatClampNeg + size).toInt then x_segPut (x_segNew σ i) i (((σ (13, i, 0) 5) + 1) - 1).toNatClampNeg (σ (13, i, 0) 4) r size
  else x_segPut σ i ((σ (13, i, 0) 5) - 1).toNatClampNeg (σ (13, i, 0) 4) r size
def x_preAt (σ : g_S → Nat → Int32) (i : Nat) (p : Int32) : Int32 := if 0 ≤ p.toInt ∧ p.toInt < (σ (13, i, 0) 4).toInt then σ (14, i, 0) p.toNatClampNeg else -1
def x_endSeg (σ : g_S → Nat → Int32) (i : Nat) (p : Int32) : Int32 := if (p + 1).toInt < (σ (13, i, 0) 5).toInt then σ (15, i, 0) (p + 1).toNatClampNeg else (σ (13, i, 0) 4)
def x_tellSeg (σ : g_S → Nat → Int32) (i : Nat) (p w : Int32) : Int32 := if 0 ≤ p.toInt ∧ p.toInt < (σ (13, i, 0) 5).toInt then
  (if w.toInt = 0 then σ (15, i, 0) p.toNatClampNeg else if w.toInt = 1 then x_endSeg σ i p - σ (15, i, 0) p.toNatClampNeg else if w.toInt = 2 then σ (16, i, 0) p.toNatClampNeg else if w.toInt = 3 then (if (σ (16, i, 0) p.toNatClampNeg).toInt ≤ (σ (13, i, 0) 0).toInt then 0 else 1) else -1) else -1
def x_scTell (σ : g_S → Nat → Int32) (i : Nat) (p w : Int32) : Int32 := if 0 ≤ p.toInt ∧ p.toInt < (σ (17, i, 0) 2).toInt then (if w.toInt = 0 then σ (20, i, 0) p.toNatClampNeg else if w.toInt = 1 then σ (21, i, 0) p.toNatClampNeg else -1) else -1
def x_scPut (σ : g_S → Nat → Int32) (i : Nat) (x nx : Int32) : g_S → Nat → Int32 := g_up (g_up (g_up σ (20, i, 0) (σ (17, i, 0) 2).toNatClampNeg nx) (21, i, 0) (σ (17, i, 0) 2).toNatClampNeg (x_cnt (g_up σ (20, i, 0) (σ (17, i, 0) 2).toNatClampNeg nx) x nx)) (17, i, 0) 2 (σ (17, i, 0) 2 + 1)
def x_fillGo (i : Nat) (x most : Int32) : Nat → (g_S → Nat → Int32) → Int32 → (g_S → Nat → Int32)
  | 0, σ, _ => σ
  | n + 1, σ, nx => if most.toInt ≤ (σ (17, i, 0) 2).toInt ∨ nx.toInt = -1 then σ else x_fillGo i x most n (x_scPut σ i x nx) (x_least (x_scPut σ i x nx) x (nx + 1))
theorem x_fillGo_s (i : Nat) (x most : Int32) (n : Nat) (σ : g_S → Nat → Int32) (nx : Int32) : x_fillGo i x most (n + 1) σ nx = if most.toInt ≤ (σ (17, i, 0) 2).toInt ∨ nx.toInt = -1 then σ else x_fillGo i x most n (x_scPut σ i x nx) (x_least (x_scPut σ i x nx) x (nx + 1)) := rfl
def x_fillM (σ : g_S → Nat → Int32) (i : Nat) (x start most : Int32) : g_S → Nat → Int32 := x_fillGo i x most 20 (g_up σ (17, i, 0) 2 0) (x_least (g_up σ (17, i, 0) 2 0) x start)
set_option maxHeartbeats 4000000 in
set_option maxRecDepth 100000 in
theorem c_X0_clear (l : Launch) (D : va_G) (cy : Nat → ClassId) (L : g_S → Nat) (ns : Nat) (kk : Nat → Nat) (σ : g_S → Nat → Int32) (i : Nat) (hi : i < ns) : x_Met l D cy L ns kk yX0_clear (.code yX0_clear cX0_clear 1 none) 0 σ [.ref (L (13, i, 0))] none (x_clear σ i) := by
  refine g_Met.of (by decide) (Nat.le_of_ble_eq_true rfl) ?_
  intro pg e s m below meth c hx hb hr hlk hml hown hts hK hN H locs hG hS ls hl
  have hown : s.vm.findClass RX0 = some m.cls := hown
  have hl : lv_has ls 1 [(0, .ref (L (13, i, 0)))] := hl
  refine lv_aload_n hx hb dX0_clear_0 rfl (lv_at hl 0 rfl) ?_
  refine lv_iconst (v := 0) hx hb dX0_clear_1 (by decide) ?_
  refine g_puti (C := RX0) (T := TX0) (N := 6) (v := 0) (ty := .int) hx hb hts inX0g tyX0_ok nmX0 hown hK hG hS (13, i, 0) ⟨hi, rfl⟩ (x_at_13 cy L ns kk (i) (0) (σ (13, i, 0))) rfl 4 (by decide) (x_up_13_4 cy L ns kk (i) (0) (σ (13, i, 0)) (0)) fl_X0_21 rfl (by decide +kernel) rfl rfl (Nat.le_of_ble_eq_true rfl) dX0_clear_2 (fun H locs hG hS => ?_)
  refine lv_aload_n hx hb dX0_clear_5 rfl (lv_at hl 0 rfl) ?_
  refine lv_iconst (v := 0) hx hb dX0_clear_6 (by decide) ?_
  refine g_puti (C := RX0) (T := TX0) (N := 6) (v := 0) (ty := .int) hx hb hts inX0g tyX0_ok nmX0 hown hK hG hS (13, i, 0) ⟨hi, rfl⟩ (x_at_13 cy L ns kk (i) (0) ((g_up σ (13, i, 0) (4) (0)) (13, i, 0))) rfl 5 (by decide) (x_up_13_5 cy L ns kk (i) (0) ((g_up σ (13, i, 0) (4) (0)) (13, i, 0)) (0)) fl_X0_25 rfl (by decide +kernel) rfl rfl (Nat.le_of_ble_eq_true rfl) dX0_clear_7 (fun H locs hG hS => ?_)
  exact s_vret hx hb hr hlk hG hS dX0_clear_10 rfl rfl
set_option maxHeartbeats 4000000 in
set_option maxRecDepth 100000 in
theorem c_X0_segmentCount (l : Launch) (D : va_G) (cy : Nat → ClassId) (L : g_S → Nat) (ns : Nat) (kk : Nat → Nat) (σ : g_S → Nat → Int32) (i : Nat) (hi : i < ns) : x_Met l D cy L ns kk yX0_segmentCount (.code yX0_segmentCount cX0_segmentCount 1 (some .int)) 0 σ [.ref (L (13, i, 0))] (some (.int (σ (13, i, 0) 5))) σ := by
  refine g_Met.of (by decide) (Nat.le_of_ble_eq_true rfl) ?_
  intro pg e s m below meth c hx hb hr hlk hml hown hts hK hN H locs hG hS ls hl
  have hown : s.vm.findClass RX0 = some m.cls := hown
  have hl : lv_has ls 1 [(0, .ref (L (13, i, 0)))] := hl
  refine lv_aload_n hx hb dX0_segmentCount_0 rfl (lv_at hl 0 rfl) ?_
  refine g_get (C := RX0) (T := TX0) (N := 6) (v := .int (σ (13, i, 0) 5)) hx hb hts inX0g hown hK hG (13, i, 0) ⟨hi, rfl⟩ (x_at_13 cy L ns kk (i) (0) (σ (13, i, 0))) rfl 5 (by decide) fl_X0_25 rfl dX0_segmentCount_1 ?_
  exact s_iret hx hb hr hlk hG hS dX0_segmentCount_4 rfl rfl
set_option maxHeartbeats 4000000 in
set_option maxRecDepth 100000 in
theorem c_X0_add (l : Launch) (D : va_G) (cy : Nat → ClassId) (L : g_S → Nat) (ns : Nat) (kk : Nat → Nat) (σ : g_S → Nat → Int32) (i : Nat) (hi : i < ns) (r size : Int32) (s0 : 0 ≤ (σ (13, i, 0) 5).toInt) (s1 : (σ (13, i, 0) 5).toInt ≤ (σ (13, i, 0) 4).toInt) : x_Met l D cy L ns kk yX0_add (.code yX0_add cX0_add 3 none) 0 σ [.ref (L (13, i, 0)), .int (r), .int (size)] none (x_preAdd σ i r size) := by
  refine g_Met.of (by decide) (Nat.le_of_ble_eq_true rfl) ?_
  intro pg e s m below meth c hx hb hr hlk hml hown hts hK hN H locs hG hS ls hl
  have hown : s.vm.findClass RX0 = some m.cls := hown
  have hl : lv_has ls 3 [(0, .ref (L (13, i, 0))), (1, .int (r)), (2, .int (size))] := hl
  refine lv_aload_n hx hb dX0_add_0 rfl (lv_at hl 0 rfl) ?_
  refine g_get (C := RX0) (T := TX0) (N := 6) (v := .int (σ (13, i, 0) 4)) hx hb hts inX0g hown hK hG (13, i, 0) ⟨hi, rfl⟩ (x_at_13 cy L ns kk (i) (0) (σ (13, i, 0))) rfl 4 (by decide) fl_X0_21 rfl dX0_add_1 ?_
  refine lv_bipush (v := 100) hx hb dX0_add_4 (by decide) ?_
  refine kz_icmp_lt (X := (σ (13, i, 0) 4).toInt) (Y := 100) hx hb rfl (by decide) dX0_add_6 (tgt := 10) (by decide) (fun c_6_1 => ?_) (fun c_6_1 => ?_)
  · refine lv_aload_n hx hb dX0_add_10 rfl (lv_at hl 0 rfl) ?_
    refine g_get (C := RX0) (T := TX0) (N := 6) (v := .int (σ (13, i, 0) 5)) hx hb hts inX0g hown hK hG (13, i, 0) ⟨hi, rfl⟩ (x_at_13 cy L ns kk (i) (0) (σ (13, i, 0))) rfl 5 (by decide) fl_X0_25 rfl dX0_add_11 ?_
    refine kz_if_eq (X := (σ (13, i, 0) 5).toInt) hx hb rfl dX0_add_14 (tgt := 37) (by decide) (fun c_14_2 => ?_) (fun c_14_2 => ?_)
    · refine lv_aload_n hx hb dX0_add_37 rfl (lv_at hl 0 rfl) ?_
      refine g_get (C := RX0) (T := TX0) (N := 6) (v := .ref (L (15, i, 0))) hx hb hts inX0g hown hK hG (13, i, 0) ⟨hi, rfl⟩ (x_at_13 cy L ns kk (i) (0) (σ (13, i, 0))) rfl 2 (by decide) fl_X0_15 rfl dX0_add_38 ?_
      refine lv_aload_n hx hb dX0_add_41 rfl (lv_at hl 0 rfl) ?_
      refine g_get (C := RX0) (T := TX0) (N := 6) (v := .int (σ (13, i, 0) 5)) hx hb hts inX0g hown hK hG (13, i, 0) ⟨hi, rfl⟩ (x_at_13 cy L ns kk (i) (0) (σ (13, i, 0))) rfl 5 (by decide) fl_X0_25 rfl dX0_add_42 ?_
      refine lv_aload_n hx hb dX0_add_45 rfl (lv_at hl 0 rfl) ?_
      refine g_get (C := RX0) (T := TX0) (N := 6) (v := .int (σ (13, i, 0) 4)) hx hb hts inX0g hown hK hG (13, i, 0) ⟨hi, rfl⟩ (x_at_13 cy L ns kk (i) (0) (σ (13, i, 0))) rfl 4 (by decide) fl_X0_21 rfl dX0_add_46 ?_
      refine g_iast (n := 100) hx hb hK hG hS (15, i, 0) ⟨hi, rfl⟩ 0 (fun _ => rfl) rfl (g_vp (by omega) (by omega)) dX0_add_49 (fun H locs hG hS => ?_)
      refine lv_aload_n hx hb dX0_add_50 rfl (lv_at hl 0 rfl) ?_
      refine g_get (C := RX0) (T := TX0) (N := 6) (v := .ref (L (16, i, 0))) hx hb hts inX0g hown hK hG (13, i, 0) ⟨hi, rfl⟩ (x_at_13 cy L ns kk (i) (0) ((g_up σ (15, i, 0) ((σ (13, i, 0) 5).toNatClampNeg) (σ (13, i, 0) 4)) (13, i, 0))) rfl 3 (by decide) fl_X0_18 rfl dX0_add_51 ?_
      refine lv_aload_n hx hb dX0_add_54 rfl (lv_at hl 0 rfl) ?_
      refine g_get (C := RX0) (T := TX0) (N := 6) (v := .int (σ (13, i, 0) 5)) hx hb hts inX0g hown hK hG (13, i, 0) ⟨hi, rfl⟩ (x_at_13 cy L ns kk (i) (0) ((g_up σ (15, i, 0) ((σ (13, i, 0) 5).toNatClampNeg) (σ (13, i, 0) 4)) (13, i, 0))) rfl 5 (by decide) fl_X0_25 rfl dX0_add_55 ?_
      refine lv_iconst (v := 0) hx hb dX0_add_58 (by decide) ?_
      refine g_iast (n := 100) hx hb hK hG hS (16, i, 0) ⟨hi, rfl⟩ 0 (fun _ => rfl) rfl (g_vp (by omega) (by omega)) dX0_add_59 (fun H locs hG hS => ?_)
      refine lv_aload_n hx hb dX0_add_60 rfl (lv_at hl 0 rfl) ?_
      refine lv_dup hx hb dX0_add_61 rfl ?_
      refine g_get (C := RX0) (T := TX0) (N := 6) (v := .int (σ (13, i, 0) 5)) hx hb hts inX0g hown hK hG (13, i, 0) ⟨hi, rfl⟩ (x_at_13 cy L ns kk (i) (0) ((g_up (g_up σ (15, i, 0) ((σ (13, i, 0) 5).toNatClampNeg) (σ (13, i, 0) 4)) (16, i, 0) ((σ (13, i, 0) 5).toNatClampNeg) (0)) (13, i, 0))) rfl 5 (by decide) fl_X0_25 rfl dX0_add_62 ?_
      refine lv_iconst (v := 1) hx hb dX0_add_65 (by decide) ?_
      refine lv_iadd hx hb dX0_add_66 ?_
      have z_3 : ((σ (13, i, 0) 5) + (1)).toInt = ((σ (13, i, 0) 5).toInt + 1) := by have h1 : (σ (13, i, 0) 5 : Int32).toInt = (σ (13, i, 0) 5).toInt := rfl; have h2 : (1 : Int32).toInt = 1 := (by decide); rw [g_addI (by omega) (by omega)] <;> omega
      refine g_puti (C := RX0) (T := TX0) (N := 6) (v := (σ (13, i, 0) 5) + (1)) (ty := .int) hx hb hts inX0g tyX0_ok nmX0 hown hK hG hS (13, i, 0) ⟨hi, rfl⟩ (x_at_13 cy L ns kk (i) (0) ((g_up (g_up σ (15, i, 0) ((σ (13, i, 0) 5).toNatClampNeg) (σ (13, i, 0) 4)) (16, i, 0) ((σ (13, i, 0) 5).toNatClampNeg) (0)) (13, i, 0))) rfl 5 (by decide) (x_up_13_5 cy L ns kk (i) (0) ((g_up (g_up σ (15, i, 0) ((σ (13, i, 0) 5).toNatClampNeg) (σ (13, i, 0) 4)) (16, i, 0) ((σ (13, i, 0) 5).toNatClampNeg) (0)) (13, i, 0)) ((σ (13, i, 0) 5) + (1))) fl_X0_25 rfl (by decide +kernel) rfl rfl (Nat.le_of_ble_eq_true rfl) dX0_add_67 (fun H locs hG hS => ?_)
      refine lv_aload_n hx hb dX0_add_70 rfl (lv_at hl 0 rfl) ?_
      refine g_get (C := RX0) (T := TX0) (N := 6) (v := .ref (L (16, i, 0))) hx hb hts inX0g hown hK hG (13, i, 0) ⟨hi, rfl⟩ (x_at_13 cy L ns kk (i) (0) ((g_up (g_up (g_up σ (15, i, 0) ((σ (13, i, 0) 5).toNatClampNeg) (σ (13, i, 0) 4)) (16, i, 0) ((σ (13, i, 0) 5).toNatClampNeg) (0)) (13, i, 0) (5) ((σ (13, i, 0) 5) + (1))) (13, i, 0))) rfl 3 (by decide) fl_X0_18 rfl dX0_add_71 ?_
      refine lv_aload_n hx hb dX0_add_74 rfl (lv_at hl 0 rfl) ?_
      refine g_get (C := RX0) (T := TX0) (N := 6) (v := .int ((g_up (g_up (g_up σ (15, i, 0) ((σ (13, i, 0) 5).toNatClampNeg) (σ (13, i, 0) 4)) (16, i, 0) ((σ (13, i, 0) 5).toNatClampNeg) (0)) (13, i, 0) (5) ((σ (13, i, 0) 5) + (1))) (13, i, 0) 5)) hx hb hts inX0g hown hK hG (13, i, 0) ⟨hi, rfl⟩ (x_at_13 cy L ns kk (i) (0) ((g_up (g_up (g_up σ (15, i, 0) ((σ (13, i, 0) 5).toNatClampNeg) (σ (13, i, 0) 4)) (16, i, 0) ((σ (13, i, 0) 5).toNatClampNeg) (0)) (13, i, 0) (5) ((σ (13, i, 0) 5) + (1))) (13, i, 0))) rfl 5 (by decide) fl_X0_25 rfl dX0_add_75 ?_
      rw [show (g_up (g_up (g_up σ (15, i, 0) ((σ (13, i, 0) 5).toNatClampNeg) (σ (13, i, 0) 4)) (16, i, 0) ((σ (13, i, 0) 5).toNatClampNeg) (0)) (13, i, 0) (5) ((σ (13, i, 0) 5) + (1))) (13, i, 0) 5 = (σ (13, i, 0) 5) + (1) from by simp [g_up_at]]
      refine lv_iconst (v := 1) hx hb dX0_add_78 (by decide) ?_
      refine lv_isub hx hb dX0_add_79 ?_
      have z_4 : (((σ (13, i, 0) 5) + (1)) - (1)).toInt = (((σ (13, i, 0) 5).toInt + 1) - 1) := by have h1 : ((σ (13, i, 0) 5) + (1) : Int32).toInt = ((σ (13, i, 0) 5).toInt + 1) := z_3; have h2 : (1 : Int32).toInt = 1 := (by decide); rw [g_subI (by omega) (by omega)] <;> omega
      refine lv_dup2_11 hx hb dX0_add_80 rfl rfl ?_
      refine g_iald (n := 100) hx hb hK hG (16, i, 0) ⟨hi, rfl⟩ 0 rfl rfl (g_vp (by have := (show (((σ (13, i, 0) 5) + (1)) - (1) : Int32).toInt = (((σ (13, i, 0) 5).toInt + 1) - 1) from z_4); omega) (by have := (show (((σ (13, i, 0) 5) + (1)) - (1) : Int32).toInt = (((σ (13, i, 0) 5).toInt + 1) - 1) from z_4); omega)) dX0_add_81 ?_
      refine lv_iload_n hx hb dX0_add_82 rfl (lv_at hl 2 rfl) ?_
      refine lv_iadd hx hb dX0_add_83 ?_
      refine g_iast (n := 100) hx hb hK hG hS (16, i, 0) ⟨hi, rfl⟩ 0 (fun _ => rfl) rfl (g_vp (by have := (show (((σ (13, i, 0) 5) + (1)) - (1) : Int32).toInt = (((σ (13, i, 0) 5).toInt + 1) - 1) from z_4); omega) (by have := (show (((σ (13, i, 0) 5) + (1)) - (1) : Int32).toInt = (((σ (13, i, 0) 5).toInt + 1) - 1) from z_4); omega)) dX0_add_84 (fun H locs hG hS => ?_)
      refine lv_aload_n hx hb dX0_add_85 rfl (lv_at hl 0 rfl) ?_
      refine g_get (C := RX0) (T := TX0) (N := 6) (v := .ref (L (14, i, 0))) hx hb hts inX0g hown hK hG (13, i, 0) ⟨hi, rfl⟩ (x_at_13 cy L ns kk (i) (0) ((g_up (g_up (g_up (g_up σ (15, i, 0) ((σ (13, i, 0) 5).toNatClampNeg) (σ (13, i, 0) 4)) (16, i, 0) ((σ (13, i, 0) 5).toNatClampNeg) (0)) (13, i, 0) (5) ((σ (13, i, 0) 5) + (1))) (16, i, 0) ((((σ (13, i, 0) 5) + (1)) - (1)).toNatClampNeg) (((g_up (g_up (g_up σ (15, i, 0) ((σ (13, i, 0) 5).toNatClampNeg) (σ (13, i, 0) 4)) (16, i, 0) ((σ (13, i, 0) 5).toNatClampNeg) (0)) (13, i, 0) (5) ((σ (13, i, 0) 5) + (1))) (16, i, 0) ((((σ (13, i, 0) 5) + (1)) - (1)).toNatClampNeg)) + (size))) (13, i, 0))) rfl 1 (by decide) fl_X0_9 rfl dX0_add_86 ?_
      refine lv_aload_n hx hb dX0_add_89 rfl (lv_at hl 0 rfl) ?_
      refine g_get (C := RX0) (T := TX0) (N := 6) (v := .int ((g_up (g_up (g_up (g_up σ (15, i, 0) ((σ (13, i, 0) 5).toNatClampNeg) (σ (13, i, 0) 4)) (16, i, 0) ((σ (13, i, 0) 5).toNatClampNeg) (0)) (13, i, 0) (5) ((σ (13, i, 0) 5) + (1))) (16, i, 0) ((((σ (13, i, 0) 5) + (1)) - (1)).toNatClampNeg) (((g_up (g_up (g_up σ (15, i, 0) ((σ (13, i, 0) 5).toNatClampNeg) (σ (13, i, 0) 4)) (16, i, 0) ((σ (13, i, 0) 5).toNatClampNeg) (0)) (13, i, 0) (5) ((σ (13, i, 0) 5) + (1))) (16, i, 0) ((((σ (13, i, 0) 5) + (1)) - (1)).toNatClampNeg)) + (size))) (13, i, 0) 4)) hx hb hts inX0g hown hK hG (13, i, 0) ⟨hi, rfl⟩ (x_at_13 cy L ns kk (i) (0) ((g_up (g_up (g_up (g_up σ (15, i, 0) ((σ (13, i, 0) 5).toNatClampNeg) (σ (13, i, 0) 4)) (16, i, 0) ((σ (13, i, 0) 5).toNatClampNeg) (0)) (13, i, 0) (5) ((σ (13, i, 0) 5) + (1))) (16, i, 0) ((((σ (13, i, 0) 5) + (1)) - (1)).toNatClampNeg) (((g_up (g_up (g_up σ (15, i, 0) ((σ (13, i, 0) 5).toNatClampNeg) (σ (13, i, 0) 4)) (16, i, 0) ((σ (13, i, 0) 5).toNatClampNeg) (0)) (13, i, 0) (5) ((σ (13, i, 0) 5) + (1))) (16, i, 0) ((((σ (13, i, 0) 5) + (1)) - (1)).toNatClampNeg)) + (size))) (13, i, 0))) rfl 4 (by decide) fl_X0_21 rfl dX0_add_90 ?_
      rw [show (g_up (g_up (g_up (g_up σ (15, i, 0) ((σ (13, i, 0) 5).toNatClampNeg) (σ (13, i, 0) 4)) (16, i, 0) ((σ (13, i, 0) 5).toNatClampNeg) (0)) (13, i, 0) (5) ((σ (13, i, 0) 5) + (1))) (16, i, 0) ((((σ (13, i, 0) 5) + (1)) - (1)).toNatClampNeg) (((g_up (g_up (g_up σ (15, i, 0) ((σ (13, i, 0) 5).toNatClampNeg) (σ (13, i, 0) 4)) (16, i, 0) ((σ (13, i, 0) 5).toNatClampNeg) (0)) (13, i, 0) (5) ((σ (13, i, 0) 5) + (1))) (16, i, 0) ((((σ (13, i, 0) 5) + (1)) - (1)).toNatClampNeg)) + (size))) (13, i, 0) 4 = σ (13, i, 0) 4 from by simp [g_up_at]]
      refine lv_iload_n hx hb dX0_add_93 rfl (lv_at hl 1 rfl) ?_
      refine g_iast (n := 100) hx hb hK hG hS (14, i, 0) ⟨hi, rfl⟩ 0 (fun _ => rfl) rfl (g_vp (by omega) (by omega)) dX0_add_94 (fun H locs hG hS => ?_)
      refine lv_aload_n hx hb dX0_add_95 rfl (lv_at hl 0 rfl) ?_
      refine lv_dup hx hb dX0_add_96 rfl ?_
      refine g_get (C := RX0) (T := TX0) (N := 6) (v := .int ((g_up (g_up (g_up (g_up (g_up σ (15, i, 0) ((σ (13, i, 0) 5).toNatClampNeg) (σ (13, i, 0) 4)) (16, i, 0) ((σ (13, i, 0) 5).toNatClampNeg) (0)) (13, i, 0) (5) ((σ (13, i, 0) 5) + (1))) (16, i, 0) ((((σ (13, i, 0) 5) + (1)) - (1)).toNatClampNeg) (((g_up (g_up (g_up σ (15, i, 0) ((σ (13, i, 0) 5).toNatClampNeg) (σ (13, i, 0) 4)) (16, i, 0) ((σ (13, i, 0) 5).toNatClampNeg) (0)) (13, i, 0) (5) ((σ (13, i, 0) 5) + (1))) (16, i, 0) ((((σ (13, i, 0) 5) + (1)) - (1)).toNatClampNeg)) + (size))) (14, i, 0) ((σ (13, i, 0) 4).toNatClampNeg) (r)) (13, i, 0) 4)) hx hb hts inX0g hown hK hG (13, i, 0) ⟨hi, rfl⟩ (x_at_13 cy L ns kk (i) (0) ((g_up (g_up (g_up (g_up (g_up σ (15, i, 0) ((σ (13, i, 0) 5).toNatClampNeg) (σ (13, i, 0) 4)) (16, i, 0) ((σ (13, i, 0) 5).toNatClampNeg) (0)) (13, i, 0) (5) ((σ (13, i, 0) 5) + (1))) (16, i, 0) ((((σ (13, i, 0) 5) + (1)) - (1)).toNatClampNeg) (((g_up (g_up (g_up σ (15, i, 0) ((σ (13, i, 0) 5).toNatClampNeg) (σ (13, i, 0) 4)) (16, i, 0) ((σ (13, i, 0) 5).toNatClampNeg) (0)) (13, i, 0) (5) ((σ (13, i, 0) 5) + (1))) (16, i, 0) ((((σ (13, i, 0) 5) + (1)) - (1)).toNatClampNeg)) + (size))) (14, i, 0) ((σ (13, i, 0) 4).toNatClampNeg) (r)) (13, i, 0))) rfl 4 (by decide) fl_X0_21 rfl dX0_add_97 ?_
      rw [show (g_up (g_up (g_up (g_up (g_up σ (15, i, 0) ((σ (13, i, 0) 5).toNatClampNeg) (σ (13, i, 0) 4)) (16, i, 0) ((σ (13, i, 0) 5).toNatClampNeg) (0)) (13, i, 0) (5) ((σ (13, i, 0) 5) + (1))) (16, i, 0) ((((σ (13, i, 0) 5) + (1)) - (1)).toNatClampNeg) (((g_up (g_up (g_up σ (15, i, 0) ((σ (13, i, 0) 5).toNatClampNeg) (σ (13, i, 0) 4)) (16, i, 0) ((σ (13, i, 0) 5).toNatClampNeg) (0)) (13, i, 0) (5) ((σ (13, i, 0) 5) + (1))) (16, i, 0) ((((σ (13, i, 0) 5) + (1)) - (1)).toNatClampNeg)) + (size))) (14, i, 0) ((σ (13, i, 0) 4).toNatClampNeg) (r)) (13, i, 0) 4 = σ (13, i, 0) 4 from by simp [g_up_at]]
      refine lv_iconst (v := 1) hx hb dX0_add_100 (by decide) ?_
      refine lv_iadd hx hb dX0_add_101 ?_
      refine g_puti (C := RX0) (T := TX0) (N := 6) (v := (σ (13, i, 0) 4) + (1)) (ty := .int) hx hb hts inX0g tyX0_ok nmX0 hown hK hG hS (13, i, 0) ⟨hi, rfl⟩ (x_at_13 cy L ns kk (i) (0) ((g_up (g_up (g_up (g_up (g_up σ (15, i, 0) ((σ (13, i, 0) 5).toNatClampNeg) (σ (13, i, 0) 4)) (16, i, 0) ((σ (13, i, 0) 5).toNatClampNeg) (0)) (13, i, 0) (5) ((σ (13, i, 0) 5) + (1))) (16, i, 0) ((((σ (13, i, 0) 5) + (1)) - (1)).toNatClampNeg) (((g_up (g_up (g_up σ (15, i, 0) ((σ (13, i, 0) 5).toNatClampNeg) (σ (13, i, 0) 4)) (16, i, 0) ((σ (13, i, 0) 5).toNatClampNeg) (0)) (13, i, 0) (5) ((σ (13, i, 0) 5) + (1))) (16, i, 0) ((((σ (13, i, 0) 5) + (1)) - (1)).toNatClampNeg)) + (size))) (14, i, 0) ((σ (13, i, 0) 4).toNatClampNeg) (r)) (13, i, 0))) rfl 4 (by decide) (x_up_13_4 cy L ns kk (i) (0) ((g_up (g_up (g_up (g_up (g_up σ (15, i, 0) ((σ (13, i, 0) 5).toNatClampNeg) (σ (13, i, 0) 4)) (16, i, 0) ((σ (13, i, 0) 5).toNatClampNeg) (0)) (13, i, 0) (5) ((σ (13, i, 0) 5) + (1))) (16, i, 0) ((((σ (13, i, 0) 5) + (1)) - (1)).toNatClampNeg) (((g_up (g_up (g_up σ (15, i, 0) ((σ (13, i, 0) 5).toNatClampNeg) (σ (13, i, 0) 4)) (16, i, 0) ((σ (13, i, 0) 5).toNatClampNeg) (0)) (13, i, 0) (5) ((σ (13, i, 0) 5) + (1))) (16, i, 0) ((((σ (13, i, 0) 5) + (1)) - (1)).toNatClampNeg)) + (size))) (14, i, 0) ((σ (13, i, 0) 4).toNatClampNeg) (r)) (13, i, 0)) ((σ (13, i, 0) 4) + (1))) fl_X0_21 rfl (by decide +kernel) rfl rfl (Nat.le_of_ble_eq_true rfl) dX0_add_102 (fun H locs hG hS => ?_)
      exact s_vret hx hb hr hlk hG hS dX0_add_105 rfl (by unfold x_preAdd; rw [if_neg (by omega), if_pos (by omega)]; rfl)
    · refine lv_aload_n hx hb dX0_add_17 rfl (lv_at hl 0 rfl) ?_
      refine g_get (C := RX0) (T := TX0) (N := 6) (v := .ref (L (16, i, 0))) hx hb hts inX0g hown hK hG (13, i, 0) ⟨hi, rfl⟩ (x_at_13 cy L ns kk (i) (0) (σ (13, i, 0))) rfl 3 (by decide) fl_X0_18 rfl dX0_add_18 ?_
      refine lv_aload_n hx hb dX0_add_21 rfl (lv_at hl 0 rfl) ?_
      refine g_get (C := RX0) (T := TX0) (N := 6) (v := .int (σ (13, i, 0) 5)) hx hb hts inX0g hown hK hG (13, i, 0) ⟨hi, rfl⟩ (x_at_13 cy L ns kk (i) (0) (σ (13, i, 0))) rfl 5 (by decide) fl_X0_25 rfl dX0_add_22 ?_
      refine lv_iconst (v := 1) hx hb dX0_add_25 (by decide) ?_
      refine lv_isub hx hb dX0_add_26 ?_
      have z_5 : ((σ (13, i, 0) 5) - (1)).toInt = ((σ (13, i, 0) 5).toInt - 1) := by have h1 : (σ (13, i, 0) 5 : Int32).toInt = (σ (13, i, 0) 5).toInt := rfl; have h2 : (1 : Int32).toInt = 1 := (by decide); rw [g_subI (by omega) (by omega)] <;> omega
      refine g_iald (n := 100) hx hb hK hG (16, i, 0) ⟨hi, rfl⟩ 0 rfl rfl (g_vp (by have := (show ((σ (13, i, 0) 5) - (1) : Int32).toInt = ((σ (13, i, 0) 5).toInt - 1) from z_5); omega) (by have := (show ((σ (13, i, 0) 5) - (1) : Int32).toInt = ((σ (13, i, 0) 5).toInt - 1) from z_5); omega)) dX0_add_27 ?_
      refine lv_iload_n hx hb dX0_add_28 rfl (lv_at hl 2 rfl) ?_
      refine lv_iadd hx hb dX0_add_29 ?_
      refine lv_aload_n hx hb dX0_add_30 rfl (lv_at hl 0 rfl) ?_
      refine g_get (C := RX0) (T := TX0) (N := 6) (v := .int (σ (13, i, 0) 0)) hx hb hts inX0g hown hK hG (13, i, 0) ⟨hi, rfl⟩ (x_at_13 cy L ns kk (i) (0) (σ (13, i, 0))) rfl 0 (by decide) fl_X0_28 rfl dX0_add_31 ?_
      refine kz_icmp_le (X := ((σ (16, i, 0) (((σ (13, i, 0) 5) - (1)).toNatClampNeg)) + (size)).toInt) (Y := (σ (13, i, 0) 0).toInt) hx hb rfl rfl dX0_add_34 (tgt := 70) (by decide) (fun c_34_6 => ?_) (fun c_34_6 => ?_)
      · refine lv_aload_n hx hb dX0_add_70 rfl (lv_at hl 0 rfl) ?_
        refine g_get (C := RX0) (T := TX0) (N := 6) (v := .ref (L (16, i, 0))) hx hb hts inX0g hown hK hG (13, i, 0) ⟨hi, rfl⟩ (x_at_13 cy L ns kk (i) (0) (σ (13, i, 0))) rfl 3 (by decide) fl_X0_18 rfl dX0_add_71 ?_
        refine lv_aload_n hx hb dX0_add_74 rfl (lv_at hl 0 rfl) ?_
        refine g_get (C := RX0) (T := TX0) (N := 6) (v := .int (σ (13, i, 0) 5)) hx hb hts inX0g hown hK hG (13, i, 0) ⟨hi, rfl⟩ (x_at_13 cy L ns kk (i) (0) (σ (13, i, 0))) rfl 5 (by decide) fl_X0_25 rfl dX0_add_75 ?_
        refine lv_iconst (v := 1) hx hb dX0_add_78 (by decide) ?_
        refine lv_isub hx hb dX0_add_79 ?_
        have z_7 : ((σ (13, i, 0) 5) - (1)).toInt = ((σ (13, i, 0) 5).toInt - 1) := by have h1 : (σ (13, i, 0) 5 : Int32).toInt = (σ (13, i, 0) 5).toInt := rfl; have h2 : (1 : Int32).toInt = 1 := (by decide); rw [g_subI (by omega) (by omega)] <;> omega
        refine lv_dup2_11 hx hb dX0_add_80 rfl rfl ?_
        refine g_iald (n := 100) hx hb hK hG (16, i, 0) ⟨hi, rfl⟩ 0 rfl rfl (g_vp (by have := (show ((σ (13, i, 0) 5) - (1) : Int32).toInt = ((σ (13, i, 0) 5).toInt - 1) from z_7); omega) (by have := (show ((σ (13, i, 0) 5) - (1) : Int32).toInt = ((σ (13, i, 0) 5).toInt - 1) from z_7); omega)) dX0_add_81 ?_
        refine lv_iload_n hx hb dX0_add_82 rfl (lv_at hl 2 rfl) ?_
        refine lv_iadd hx hb dX0_add_83 ?_
        refine g_iast (n := 100) hx hb hK hG hS (16, i, 0) ⟨hi, rfl⟩ 0 (fun _ => rfl) rfl (g_vp (by have := (show ((σ (13, i, 0) 5) - (1) : Int32).toInt = ((σ (13, i, 0) 5).toInt - 1) from z_7); omega) (by have := (show ((σ (13, i, 0) 5) - (1) : Int32).toInt = ((σ (13, i, 0) 5).toInt - 1) from z_7); omega)) dX0_add_84 (fun H locs hG hS => ?_)
        refine lv_aload_n hx hb dX0_add_85 rfl (lv_at hl 0 rfl) ?_
        refine g_get (C := RX0) (T := TX0) (N := 6) (v := .ref (L (14, i, 0))) hx hb hts inX0g hown hK hG (13, i, 0) ⟨hi, rfl⟩ (x_at_13 cy L ns kk (i) (0) ((g_up σ (16, i, 0) (((σ (13, i, 0) 5) - (1)).toNatClampNeg) ((σ (16, i, 0) (((σ (13, i, 0) 5) - (1)).toNatClampNeg)) + (size))) (13, i, 0))) rfl 1 (by decide) fl_X0_9 rfl dX0_add_86 ?_
        refine lv_aload_n hx hb dX0_add_89 rfl (lv_at hl 0 rfl) ?_
        refine g_get (C := RX0) (T := TX0) (N := 6) (v := .int (σ (13, i, 0) 4)) hx hb hts inX0g hown hK hG (13, i, 0) ⟨hi, rfl⟩ (x_at_13 cy L ns kk (i) (0) ((g_up σ (16, i, 0) (((σ (13, i, 0) 5) - (1)).toNatClampNeg) ((σ (16, i, 0) (((σ (13, i, 0) 5) - (1)).toNatClampNeg)) + (size))) (13, i, 0))) rfl 4 (by decide) fl_X0_21 rfl dX0_add_90 ?_
        refine lv_iload_n hx hb dX0_add_93 rfl (lv_at hl 1 rfl) ?_
        refine g_iast (n := 100) hx hb hK hG hS (14, i, 0) ⟨hi, rfl⟩ 0 (fun _ => rfl) rfl (g_vp (by omega) (by omega)) dX0_add_94 (fun H locs hG hS => ?_)
        refine lv_aload_n hx hb dX0_add_95 rfl (lv_at hl 0 rfl) ?_
        refine lv_dup hx hb dX0_add_96 rfl ?_
        refine g_get (C := RX0) (T := TX0) (N := 6) (v := .int (σ (13, i, 0) 4)) hx hb hts inX0g hown hK hG (13, i, 0) ⟨hi, rfl⟩ (x_at_13 cy L ns kk (i) (0) ((g_up (g_up σ (16, i, 0) (((σ (13, i, 0) 5) - (1)).toNatClampNeg) ((σ (16, i, 0) (((σ (13, i, 0) 5) - (1)).toNatClampNeg)) + (size))) (14, i, 0) ((σ (13, i, 0) 4).toNatClampNeg) (r)) (13, i, 0))) rfl 4 (by decide) fl_X0_21 rfl dX0_add_97 ?_
        refine lv_iconst (v := 1) hx hb dX0_add_100 (by decide) ?_
        refine lv_iadd hx hb dX0_add_101 ?_
        refine g_puti (C := RX0) (T := TX0) (N := 6) (v := (σ (13, i, 0) 4) + (1)) (ty := .int) hx hb hts inX0g tyX0_ok nmX0 hown hK hG hS (13, i, 0) ⟨hi, rfl⟩ (x_at_13 cy L ns kk (i) (0) ((g_up (g_up σ (16, i, 0) (((σ (13, i, 0) 5) - (1)).toNatClampNeg) ((σ (16, i, 0) (((σ (13, i, 0) 5) - (1)).toNatClampNeg)) + (size))) (14, i, 0) ((σ (13, i, 0) 4).toNatClampNeg) (r)) (13, i, 0))) rfl 4 (by decide) (x_up_13_4 cy L ns kk (i) (0) ((g_up (g_up σ (16, i, 0) (((σ (13, i, 0) 5) - (1)).toNatClampNeg) ((σ (16, i, 0) (((σ (13, i, 0) 5) - (1)).toNatClampNeg)) + (size))) (14, i, 0) ((σ (13, i, 0) 4).toNatClampNeg) (r)) (13, i, 0)) ((σ (13, i, 0) 4) + (1))) fl_X0_21 rfl (by decide +kernel) rfl rfl (Nat.le_of_ble_eq_true rfl) dX0_add_102 (fun H locs hG hS => ?_)
        exact s_vret hx hb hr hlk hG hS dX0_add_105 rfl (by unfold x_preAdd; rw [if_neg (by omega), if_neg (by omega)]; rfl)
      · refine lv_aload_n hx hb dX0_add_37 rfl (lv_at hl 0 rfl) ?_
        refine g_get (C := RX0) (T := TX0) (N := 6) (v := .ref (L (15, i, 0))) hx hb hts inX0g hown hK hG (13, i, 0) ⟨hi, rfl⟩ (x_at_13 cy L ns kk (i) (0) (σ (13, i, 0))) rfl 2 (by decide) fl_X0_15 rfl dX0_add_38 ?_
        refine lv_aload_n hx hb dX0_add_41 rfl (lv_at hl 0 rfl) ?_
        refine g_get (C := RX0) (T := TX0) (N := 6) (v := .int (σ (13, i, 0) 5)) hx hb hts inX0g hown hK hG (13, i, 0) ⟨hi, rfl⟩ (x_at_13 cy L ns kk (i) (0) (σ (13, i, 0))) rfl 5 (by decide) fl_X0_25 rfl dX0_add_42 ?_
        refine lv_aload_n hx hb dX0_add_45 rfl (lv_at hl 0 rfl) ?_
        refine g_get (C := RX0) (T := TX0) (N := 6) (v := .int (σ (13, i, 0) 4)) hx hb hts inX0g hown hK hG (13, i, 0) ⟨hi, rfl⟩ (x_at_13 cy L ns kk (i) (0) (σ (13, i, 0))) rfl 4 (by decide) fl_X0_21 rfl dX0_add_46 ?_
        refine g_iast (n := 100) hx hb hK hG hS (15, i, 0) ⟨hi, rfl⟩ 0 (fun _ => rfl) rfl (g_vp (by omega) (by omega)) dX0_add_49 (fun H locs hG hS => ?_)
        refine lv_aload_n hx hb dX0_add_50 rfl (lv_at hl 0 rfl) ?_
        refine g_get (C := RX0) (T := TX0) (N := 6) (v := .ref (L (16, i, 0))) hx hb hts inX0g hown hK hG (13, i, 0) ⟨hi, rfl⟩ (x_at_13 cy L ns kk (i) (0) ((g_up σ (15, i, 0) ((σ (13, i, 0) 5).toNatClampNeg) (σ (13, i, 0) 4)) (13, i, 0))) rfl 3 (by decide) fl_X0_18 rfl dX0_add_51 ?_
        refine lv_aload_n hx hb dX0_add_54 rfl (lv_at hl 0 rfl) ?_
        refine g_get (C := RX0) (T := TX0) (N := 6) (v := .int (σ (13, i, 0) 5)) hx hb hts inX0g hown hK hG (13, i, 0) ⟨hi, rfl⟩ (x_at_13 cy L ns kk (i) (0) ((g_up σ (15, i, 0) ((σ (13, i, 0) 5).toNatClampNeg) (σ (13, i, 0) 4)) (13, i, 0))) rfl 5 (by decide) fl_X0_25 rfl dX0_add_55 ?_
        refine lv_iconst (v := 0) hx hb dX0_add_58 (by decide) ?_
        refine g_iast (n := 100) hx hb hK hG hS (16, i, 0) ⟨hi, rfl⟩ 0 (fun _ => rfl) rfl (g_vp (by omega) (by omega)) dX0_add_59 (fun H locs hG hS => ?_)
        refine lv_aload_n hx hb dX0_add_60 rfl (lv_at hl 0 rfl) ?_
        refine lv_dup hx hb dX0_add_61 rfl ?_
        refine g_get (C := RX0) (T := TX0) (N := 6) (v := .int (σ (13, i, 0) 5)) hx hb hts inX0g hown hK hG (13, i, 0) ⟨hi, rfl⟩ (x_at_13 cy L ns kk (i) (0) ((g_up (g_up σ (15, i, 0) ((σ (13, i, 0) 5).toNatClampNeg) (σ (13, i, 0) 4)) (16, i, 0) ((σ (13, i, 0) 5).toNatClampNeg) (0)) (13, i, 0))) rfl 5 (by decide) fl_X0_25 rfl dX0_add_62 ?_
        refine lv_iconst (v := 1) hx hb dX0_add_65 (by decide) ?_
        refine lv_iadd hx hb dX0_add_66 ?_
        have z_8 : ((σ (13, i, 0) 5) + (1)).toInt = ((σ (13, i, 0) 5).toInt + 1) := by have h1 : (σ (13, i, 0) 5 : Int32).toInt = (σ (13, i, 0) 5).toInt := rfl; have h2 : (1 : Int32).toInt = 1 := (by decide); rw [g_addI (by omega) (by omega)] <;> omega
        refine g_puti (C := RX0) (T := TX0) (N := 6) (v := (σ (13, i, 0) 5) + (1)) (ty := .int) hx hb hts inX0g tyX0_ok nmX0 hown hK hG hS (13, i, 0) ⟨hi, rfl⟩ (x_at_13 cy L ns kk (i) (0) ((g_up (g_up σ (15, i, 0) ((σ (13, i, 0) 5).toNatClampNeg) (σ (13, i, 0) 4)) (16, i, 0) ((σ (13, i, 0) 5).toNatClampNeg) (0)) (13, i, 0))) rfl 5 (by decide) (x_up_13_5 cy L ns kk (i) (0) ((g_up (g_up σ (15, i, 0) ((σ (13, i, 0) 5).toNatClampNeg) (σ (13, i, 0) 4)) (16, i, 0) ((σ (13, i, 0) 5).toNatClampNeg) (0)) (13, i, 0)) ((σ (13, i, 0) 5) + (1))) fl_X0_25 rfl (by decide +kernel) rfl rfl (Nat.le_of_ble_eq_true rfl) dX0_add_67 (fun H locs hG hS => ?_)
        refine lv_aload_n hx hb dX0_add_70 rfl (lv_at hl 0 rfl) ?_
        refine g_get (C := RX0) (T := TX0) (N := 6) (v := .ref (L (16, i, 0))) hx hb hts inX0g hown hK hG (13, i, 0) ⟨hi, rfl⟩ (x_at_13 cy L ns kk (i) (0) ((g_up (g_up (g_up σ (15, i, 0) ((σ (13, i, 0) 5).toNatClampNeg) (σ (13, i, 0) 4)) (16, i, 0) ((σ (13, i, 0) 5).toNatClampNeg) (0)) (13, i, 0) (5) ((σ (13, i, 0) 5) + (1))) (13, i, 0))) rfl 3 (by decide) fl_X0_18 rfl dX0_add_71 ?_
        refine lv_aload_n hx hb dX0_add_74 rfl (lv_at hl 0 rfl) ?_
        refine g_get (C := RX0) (T := TX0) (N := 6) (v := .int ((g_up (g_up (g_up σ (15, i, 0) ((σ (13, i, 0) 5).toNatClampNeg) (σ (13, i, 0) 4)) (16, i, 0) ((σ (13, i, 0) 5).toNatClampNeg) (0)) (13, i, 0) (5) ((σ (13, i, 0) 5) + (1))) (13, i, 0) 5)) hx hb hts inX0g hown hK hG (13, i, 0) ⟨hi, rfl⟩ (x_at_13 cy L ns kk (i) (0) ((g_up (g_up (g_up σ (15, i, 0) ((σ (13, i, 0) 5).toNatClampNeg) (σ (13, i, 0) 4)) (16, i, 0) ((σ (13, i, 0) 5).toNatClampNeg) (0)) (13, i, 0) (5) ((σ (13, i, 0) 5) + (1))) (13, i, 0))) rfl 5 (by decide) fl_X0_25 rfl dX0_add_75 ?_
        rw [show (g_up (g_up (g_up σ (15, i, 0) ((σ (13, i, 0) 5).toNatClampNeg) (σ (13, i, 0) 4)) (16, i, 0) ((σ (13, i, 0) 5).toNatClampNeg) (0)) (13, i, 0) (5) ((σ (13, i, 0) 5) + (1))) (13, i, 0) 5 = (σ (13, i, 0) 5) + (1) from by simp [g_up_at]]
        refine lv_iconst (v := 1) hx hb dX0_add_78 (by decide) ?_
        refine lv_isub hx hb dX0_add_79 ?_
        have z_9 : (((σ (13, i, 0) 5) + (1)) - (1)).toInt = (((σ (13, i, 0) 5).toInt + 1) - 1) := by have h1 : ((σ (13, i, 0) 5) + (1) : Int32).toInt = ((σ (13, i, 0) 5).toInt + 1) := z_8; have h2 : (1 : Int32).toInt = 1 := (by decide); rw [g_subI (by omega) (by omega)] <;> omega
        refine lv_dup2_11 hx hb dX0_add_80 rfl rfl ?_
        refine g_iald (n := 100) hx hb hK hG (16, i, 0) ⟨hi, rfl⟩ 0 rfl rfl (g_vp (by have := (show (((σ (13, i, 0) 5) + (1)) - (1) : Int32).toInt = (((σ (13, i, 0) 5).toInt + 1) - 1) from z_9); omega) (by have := (show (((σ (13, i, 0) 5) + (1)) - (1) : Int32).toInt = (((σ (13, i, 0) 5).toInt + 1) - 1) from z_9); omega)) dX0_add_81 ?_
        refine lv_iload_n hx hb dX0_add_82 rfl (lv_at hl 2 rfl) ?_
        refine lv_iadd hx hb dX0_add_83 ?_
        refine g_iast (n := 100) hx hb hK hG hS (16, i, 0) ⟨hi, rfl⟩ 0 (fun _ => rfl) rfl (g_vp (by have := (show (((σ (13, i, 0) 5) + (1)) - (1) : Int32).toInt = (((σ (13, i, 0) 5).toInt + 1) - 1) from z_9); omega) (by have := (show (((σ (13, i, 0) 5) + (1)) - (1) : Int32).toInt = (((σ (13, i, 0) 5).toInt + 1) - 1) from z_9); omega)) dX0_add_84 (fun H locs hG hS => ?_)
        refine lv_aload_n hx hb dX0_add_85 rfl (lv_at hl 0 rfl) ?_
        refine g_get (C := RX0) (T := TX0) (N := 6) (v := .ref (L (14, i, 0))) hx hb hts inX0g hown hK hG (13, i, 0) ⟨hi, rfl⟩ (x_at_13 cy L ns kk (i) (0) ((g_up (g_up (g_up (g_up σ (15, i, 0) ((σ (13, i, 0) 5).toNatClampNeg) (σ (13, i, 0) 4)) (16, i, 0) ((σ (13, i, 0) 5).toNatClampNeg) (0)) (13, i, 0) (5) ((σ (13, i, 0) 5) + (1))) (16, i, 0) ((((σ (13, i, 0) 5) + (1)) - (1)).toNatClampNeg) (((g_up (g_up (g_up σ (15, i, 0) ((σ (13, i, 0) 5).toNatClampNeg) (σ (13, i, 0) 4)) (16, i, 0) ((σ (13, i, 0) 5).toNatClampNeg) (0)) (13, i, 0) (5) ((σ (13, i, 0) 5) + (1))) (16, i, 0) ((((σ (13, i, 0) 5) + (1)) - (1)).toNatClampNeg)) + (size))) (13, i, 0))) rfl 1 (by decide) fl_X0_9 rfl dX0_add_86 ?_
        refine lv_aload_n hx hb dX0_add_89 rfl (lv_at hl 0 rfl) ?_
        refine g_get (C := RX0) (T := TX0) (N := 6) (v := .int ((g_up (g_up (g_up (g_up σ (15, i, 0) ((σ (13, i, 0) 5).toNatClampNeg) (σ (13, i, 0) 4)) (16, i, 0) ((σ (13, i, 0) 5).toNatClampNeg) (0)) (13, i, 0) (5) ((σ (13, i, 0) 5) + (1))) (16, i, 0) ((((σ (13, i, 0) 5) + (1)) - (1)).toNatClampNeg) (((g_up (g_up (g_up σ (15, i, 0) ((σ (13, i, 0) 5).toNatClampNeg) (σ (13, i, 0) 4)) (16, i, 0) ((σ (13, i, 0) 5).toNatClampNeg) (0)) (13, i, 0) (5) ((σ (13, i, 0) 5) + (1))) (16, i, 0) ((((σ (13, i, 0) 5) + (1)) - (1)).toNatClampNeg)) + (size))) (13, i, 0) 4)) hx hb hts inX0g hown hK hG (13, i, 0) ⟨hi, rfl⟩ (x_at_13 cy L ns kk (i) (0) ((g_up (g_up (g_up (g_up σ (15, i, 0) ((σ (13, i, 0) 5).toNatClampNeg) (σ (13, i, 0) 4)) (16, i, 0) ((σ (13, i, 0) 5).toNatClampNeg) (0)) (13, i, 0) (5) ((σ (13, i, 0) 5) + (1))) (16, i, 0) ((((σ (13, i, 0) 5) + (1)) - (1)).toNatClampNeg) (((g_up (g_up (g_up σ (15, i, 0) ((σ (13, i, 0) 5).toNatClampNeg) (σ (13, i, 0) 4)) (16, i, 0) ((σ (13, i, 0) 5).toNatClampNeg) (0)) (13, i, 0) (5) ((σ (13, i, 0) 5) + (1))) (16, i, 0) ((((σ (13, i, 0) 5) + (1)) - (1)).toNatClampNeg)) + (size))) (13, i, 0))) rfl 4 (by decide) fl_X0_21 rfl dX0_add_90 ?_
        rw [show (g_up (g_up (g_up (g_up σ (15, i, 0) ((σ (13, i, 0) 5).toNatClampNeg) (σ (13, i, 0) 4)) (16, i, 0) ((σ (13, i, 0) 5).toNatClampNeg) (0)) (13, i, 0) (5) ((σ (13, i, 0) 5) + (1))) (16, i, 0) ((((σ (13, i, 0) 5) + (1)) - (1)).toNatClampNeg) (((g_up (g_up (g_up σ (15, i, 0) ((σ (13, i, 0) 5).toNatClampNeg) (σ (13, i, 0) 4)) (16, i, 0) ((σ (13, i, 0) 5).toNatClampNeg) (0)) (13, i, 0) (5) ((σ (13, i, 0) 5) + (1))) (16, i, 0) ((((σ (13, i, 0) 5) + (1)) - (1)).toNatClampNeg)) + (size))) (13, i, 0) 4 = σ (13, i, 0) 4 from by simp [g_up_at]]
        refine lv_iload_n hx hb dX0_add_93 rfl (lv_at hl 1 rfl) ?_
        refine g_iast (n := 100) hx hb hK hG hS (14, i, 0) ⟨hi, rfl⟩ 0 (fun _ => rfl) rfl (g_vp (by omega) (by omega)) dX0_add_94 (fun H locs hG hS => ?_)
        refine lv_aload_n hx hb dX0_add_95 rfl (lv_at hl 0 rfl) ?_
        refine lv_dup hx hb dX0_add_96 rfl ?_
        refine g_get (C := RX0) (T := TX0) (N := 6) (v := .int ((g_up (g_up (g_up (g_up (g_up σ (15, i, 0) ((σ (13, i, 0) 5).toNatClampNeg) (σ (13, i, 0) 4)) (16, i, 0) ((σ (13, i, 0) 5).toNatClampNeg) (0)) (13, i, 0) (5) ((σ (13, i, 0) 5) + (1))) (16, i, 0) ((((σ (13, i, 0) 5) + (1)) - (1)).toNatClampNeg) (((g_up (g_up (g_up σ (15, i, 0) ((σ (13, i, 0) 5).toNatClampNeg) (σ (13, i, 0) 4)) (16, i, 0) ((σ (13, i, 0) 5).toNatClampNeg) (0)) (13, i, 0) (5) ((σ (13, i, 0) 5) + (1))) (16, i, 0) ((((σ (13, i, 0) 5) + (1)) - (1)).toNatClampNeg)) + (size))) (14, i, 0) ((σ (13, i, 0) 4).toNatClampNeg) (r)) (13, i, 0) 4)) hx hb hts inX0g hown hK hG (13, i, 0) ⟨hi, rfl⟩ (x_at_13 cy L ns kk (i) (0) ((g_up (g_up (g_up (g_up (g_up σ (15, i, 0) ((σ (13, i, 0) 5).toNatClampNeg) (σ (13, i, 0) 4)) (16, i, 0) ((σ (13, i, 0) 5).toNatClampNeg) (0)) (13, i, 0) (5) ((σ (13, i, 0) 5) + (1))) (16, i, 0) ((((σ (13, i, 0) 5) + (1)) - (1)).toNatClampNeg) (((g_up (g_up (g_up σ (15, i, 0) ((σ (13, i, 0) 5).toNatClampNeg) (σ (13, i, 0) 4)) (16, i, 0) ((σ (13, i, 0) 5).toNatClampNeg) (0)) (13, i, 0) (5) ((σ (13, i, 0) 5) + (1))) (16, i, 0) ((((σ (13, i, 0) 5) + (1)) - (1)).toNatClampNeg)) + (size))) (14, i, 0) ((σ (13, i, 0) 4).toNatClampNeg) (r)) (13, i, 0))) rfl 4 (by decide) fl_X0_21 rfl dX0_add_97 ?_
        rw [show (g_up (g_up (g_up (g_up (g_up σ (15, i, 0) ((σ (13, i, 0) 5).toNatClampNeg) (σ (13, i, 0) 4)) (16, i, 0) ((σ (13, i, 0) 5).toNatClampNeg) (0)) (13, i, 0) (5) ((σ (13, i, 0) 5) + (1))) (16, i, 0) ((((σ (13, i, 0) 5) + (1)) - (1)).toNatClampNeg) (((g_up (g_up (g_up σ (15, i, 0) ((σ (13, i, 0) 5).toNatClampNeg) (σ (13, i, 0) 4)) (16, i, 0) ((σ (13, i, 0) 5).toNatClampNeg) (0)) (13, i, 0) (5) ((σ (13, i, 0) 5) + (1))) (16, i, 0) ((((σ (13, i, 0) 5) + (1)) - (1)).toNatClampNeg)) + (size))) (14, i, 0) ((σ (13, i, 0) 4).toNatClampNeg) (r)) (13, i, 0) 4 = σ (13, i, 0) 4 from by simp [g_up_at]]
        refine lv_iconst (v := 1) hx hb dX0_add_100 (by decide) ?_
        refine lv_iadd hx hb dX0_add_101 ?_
        refine g_puti (C := RX0) (T := TX0) (N := 6) (v := (σ (13, i, 0) 4) + (1)) (ty := .int) hx hb hts inX0g tyX0_ok nmX0 hown hK hG hS (13, i, 0) ⟨hi, rfl⟩ (x_at_13 cy L ns kk (i) (0) ((g_up (g_up (g_up (g_up (g_up σ (15, i, 0) ((σ (13, i, 0) 5).toNatClampNeg) (σ (13, i, 0) 4)) (16, i, 0) ((σ (13, i, 0) 5).toNatClampNeg) (0)) (13, i, 0) (5) ((σ (13, i, 0) 5) + (1))) (16, i, 0) ((((σ (13, i, 0) 5) + (1)) - (1)).toNatClampNeg) (((g_up (g_up (g_up σ (15, i, 0) ((σ (13, i, 0) 5).toNatClampNeg) (σ (13, i, 0) 4)) (16, i, 0) ((σ (13, i, 0) 5).toNatClampNeg) (0)) (13, i, 0) (5) ((σ (13, i, 0) 5) + (1))) (16, i, 0) ((((σ (13, i, 0) 5) + (1)) - (1)).toNatClampNeg)) + (size))) (14, i, 0) ((σ (13, i, 0) 4).toNatClampNeg) (r)) (13, i, 0))) rfl 4 (by decide) (x_up_13_4 cy L ns kk (i) (0) ((g_up (g_up (g_up (g_up (g_up σ (15, i, 0) ((σ (13, i, 0) 5).toNatClampNeg) (σ (13, i, 0) 4)) (16, i, 0) ((σ (13, i, 0) 5).toNatClampNeg) (0)) (13, i, 0) (5) ((σ (13, i, 0) 5) + (1))) (16, i, 0) ((((σ (13, i, 0) 5) + (1)) - (1)).toNatClampNeg) (((g_up (g_up (g_up σ (15, i, 0) ((σ (13, i, 0) 5).toNatClampNeg) (σ (13, i, 0) 4)) (16, i, 0) ((σ (13, i, 0) 5).toNatClampNeg) (0)) (13, i, 0) (5) ((σ (13, i, 0) 5) + (1))) (16, i, 0) ((((σ (13, i, 0) 5) + (1)) - (1)).toNatClampNeg)) + (size))) (14, i, 0) ((σ (13, i, 0) 4).toNatClampNeg) (r)) (13, i, 0)) ((σ (13, i, 0) 4) + (1))) fl_X0_21 rfl (by decide +kernel) rfl rfl (Nat.le_of_ble_eq_true rfl) dX0_add_102 (fun H locs hG hS => ?_)
        exact s_vret hx hb hr hlk hG hS dX0_add_105 rfl (by unfold x_preAdd; rw [if_neg (by omega), if_pos (by omega)]; rfl)
  · exact s_vret hx hb hr hlk hG hS dX0_add_9 rfl (by unfold x_preAdd; rw [if_pos (by omega)])
set_option maxHeartbeats 4000000 in
set_option maxRecDepth 100000 in
theorem c_X0_recordAt (l : Launch) (D : va_G) (cy : Nat → ClassId) (L : g_S → Nat) (ns : Nat) (kk : Nat → Nat) (σ : g_S → Nat → Int32) (i : Nat) (hi : i < ns) (p : Int32) (p1 : (σ (13, i, 0) 4).toInt ≤ 100) : x_Met l D cy L ns kk yX0_recordAt (.code yX0_recordAt cX0_recordAt 2 (some .int)) 0 σ [.ref (L (13, i, 0)), .int (p)] (some (.int (x_preAt σ i p))) σ := by
  refine g_Met.of (by decide) (Nat.le_of_ble_eq_true rfl) ?_
  intro pg e s m below meth c hx hb hr hlk hml hown hts hK hN H locs hG hS ls hl
  have hown : s.vm.findClass RX0 = some m.cls := hown
  have hl : lv_has ls 2 [(0, .ref (L (13, i, 0))), (1, .int (p))] := hl
  refine lv_iload_n hx hb dX0_recordAt_0 rfl (lv_at hl 1 rfl) ?_
  refine kz_if_lt (X := (p).toInt) hx hb rfl dX0_recordAt_1 (tgt := 21) (by decide) (fun c_1_1 => ?_) (fun c_1_1 => ?_)
  · refine lv_iconst (v := (-1)) hx hb dX0_recordAt_21 (by decide) ?_
    exact s_iret hx hb hr hlk hG hS dX0_recordAt_22 (by unfold x_preAt; (repeat' split) <;> first | rfl | (exfalso; omega)) rfl
  · refine lv_iload_n hx hb dX0_recordAt_4 rfl (lv_at hl 1 rfl) ?_
    refine lv_aload_n hx hb dX0_recordAt_5 rfl (lv_at hl 0 rfl) ?_
    refine g_get (C := RX0) (T := TX0) (N := 6) (v := .int (σ (13, i, 0) 4)) hx hb hts inX0g hown hK hG (13, i, 0) ⟨hi, rfl⟩ (x_at_13 cy L ns kk (i) (0) (σ (13, i, 0))) rfl 4 (by decide) fl_X0_21 rfl dX0_recordAt_6 ?_
    refine kz_icmp_ge (X := (p).toInt) (Y := (σ (13, i, 0) 4).toInt) hx hb rfl rfl dX0_recordAt_9 (tgt := 21) (by decide) (fun c_9_2 => ?_) (fun c_9_2 => ?_)
    · refine lv_iconst (v := (-1)) hx hb dX0_recordAt_21 (by decide) ?_
      exact s_iret hx hb hr hlk hG hS dX0_recordAt_22 (by unfold x_preAt; (repeat' split) <;> first | rfl | (exfalso; omega)) rfl
    · refine lv_aload_n hx hb dX0_recordAt_12 rfl (lv_at hl 0 rfl) ?_
      refine g_get (C := RX0) (T := TX0) (N := 6) (v := .ref (L (14, i, 0))) hx hb hts inX0g hown hK hG (13, i, 0) ⟨hi, rfl⟩ (x_at_13 cy L ns kk (i) (0) (σ (13, i, 0))) rfl 1 (by decide) fl_X0_9 rfl dX0_recordAt_13 ?_
      refine lv_iload_n hx hb dX0_recordAt_16 rfl (lv_at hl 1 rfl) ?_
      refine g_iald (n := 100) hx hb hK hG (14, i, 0) ⟨hi, rfl⟩ 0 rfl rfl (g_vp (by omega) (by omega)) dX0_recordAt_17 ?_
      refine lv_goto (tgt := 22) hx hb dX0_recordAt_18 (by decide) ?_
      exact s_iret hx hb hr hlk hG hS dX0_recordAt_22 (by unfold x_preAt; (repeat' split) <;> first | rfl | (exfalso; omega)) rfl
set_option maxHeartbeats 4000000 in
set_option maxRecDepth 100000 in
theorem c_X0_endOfSegment (l : Launch) (D : va_G) (cy : Nat → ClassId) (L : g_S → Nat) (ns : Nat) (kk : Nat → Nat) (σ : g_S → Nat → Int32) (i : Nat) (hi : i < ns) (p : Int32) (hp : 0 ≤ p.toInt ∧ p.toInt < 100) (g1 : (σ (13, i, 0) 5).toInt ≤ 100) : x_Met l D cy L ns kk yX0_endOfSegment (.code yX0_endOfSegment cX0_endOfSegment 2 (some .int)) 0 σ [.ref (L (13, i, 0)), .int (p)] (some (.int (x_endSeg σ i p))) σ := by
  refine g_Met.of (by decide) (Nat.le_of_ble_eq_true rfl) ?_
  intro pg e s m below meth c hx hb hr hlk hml hown hts hK hN H locs hG hS ls hl
  have hown : s.vm.findClass RX0 = some m.cls := hown
  have hl : lv_has ls 2 [(0, .ref (L (13, i, 0))), (1, .int (p))] := hl
  refine lv_iload_n hx hb dX0_endOfSegment_0 rfl (lv_at hl 1 rfl) ?_
  refine lv_iconst (v := 1) hx hb dX0_endOfSegment_1 (by decide) ?_
  refine lv_iadd hx hb dX0_endOfSegment_2 ?_
  have z_1 : ((p) + (1)).toInt = ((p).toInt + 1) := by have h1 : (p : Int32).toInt = (p).toInt := rfl; have h2 : (1 : Int32).toInt = 1 := (by decide); rw [g_addI (by omega) (by omega)] <;> omega
  refine lv_aload_n hx hb dX0_endOfSegment_3 rfl (lv_at hl 0 rfl) ?_
  refine g_get (C := RX0) (T := TX0) (N := 6) (v := .int (σ (13, i, 0) 5)) hx hb hts inX0g hown hK hG (13, i, 0) ⟨hi, rfl⟩ (x_at_13 cy L ns kk (i) (0) (σ (13, i, 0))) rfl 5 (by decide) fl_X0_25 rfl dX0_endOfSegment_4 ?_
  refine kz_icmp_ge (X := ((p).toInt + 1)) (Y := (σ (13, i, 0) 5).toInt) hx hb z_1 rfl dX0_endOfSegment_7 (tgt := 21) (by decide) (fun c_7_2 => ?_) (fun c_7_2 => ?_)
  · refine lv_aload_n hx hb dX0_endOfSegment_21 rfl (lv_at hl 0 rfl) ?_
    refine g_get (C := RX0) (T := TX0) (N := 6) (v := .int (σ (13, i, 0) 4)) hx hb hts inX0g hown hK hG (13, i, 0) ⟨hi, rfl⟩ (x_at_13 cy L ns kk (i) (0) (σ (13, i, 0))) rfl 4 (by decide) fl_X0_21 rfl dX0_endOfSegment_22 ?_
    exact s_iret hx hb hr hlk hG hS dX0_endOfSegment_25 (by unfold x_endSeg; (repeat' split) <;> first | rfl | (exfalso; have := g_addI (a := p) (b := 1) (by have : (1 : Int32).toInt = 1 := rfl; omega) (by have : (1 : Int32).toInt = 1 := rfl; omega); have : (1 : Int32).toInt = 1 := rfl; omega)) rfl
  · refine lv_aload_n hx hb dX0_endOfSegment_10 rfl (lv_at hl 0 rfl) ?_
    refine g_get (C := RX0) (T := TX0) (N := 6) (v := .ref (L (15, i, 0))) hx hb hts inX0g hown hK hG (13, i, 0) ⟨hi, rfl⟩ (x_at_13 cy L ns kk (i) (0) (σ (13, i, 0))) rfl 2 (by decide) fl_X0_15 rfl dX0_endOfSegment_11 ?_
    refine lv_iload_n hx hb dX0_endOfSegment_14 rfl (lv_at hl 1 rfl) ?_
    refine lv_iconst (v := 1) hx hb dX0_endOfSegment_15 (by decide) ?_
    refine lv_iadd hx hb dX0_endOfSegment_16 ?_
    have z_3 : ((p) + (1)).toInt = ((p).toInt + 1) := by have h1 : (p : Int32).toInt = (p).toInt := rfl; have h2 : (1 : Int32).toInt = 1 := (by decide); rw [g_addI (by omega) (by omega)] <;> omega
    refine g_iald (n := 100) hx hb hK hG (15, i, 0) ⟨hi, rfl⟩ 0 rfl rfl (g_vp (by have := (show ((p) + (1) : Int32).toInt = ((p).toInt + 1) from z_3); omega) (by have := (show ((p) + (1) : Int32).toInt = ((p).toInt + 1) from z_3); omega)) dX0_endOfSegment_17 ?_
    refine lv_goto (tgt := 25) hx hb dX0_endOfSegment_18 (by decide) ?_
    exact s_iret hx hb hr hlk hG hS dX0_endOfSegment_25 (by unfold x_endSeg; (repeat' split) <;> first | rfl | (exfalso; have := g_addI (a := p) (b := 1) (by have : (1 : Int32).toInt = 1 := rfl; omega) (by have : (1 : Int32).toInt = 1 := rfl; omega); have : (1 : Int32).toInt = 1 := rfl; omega)) rfl
set_option maxHeartbeats 4000000 in
set_option maxRecDepth 100000 in
theorem c_X0_tellSegment (l : Launch) (D : va_G) (cy : Nat → ClassId) (L : g_S → Nat) (ns : Nat) (kk : Nat → Nat) (σ : g_S → Nat → Int32) (i : Nat) (hi : i < ns) (p w : Int32) (g1 : (σ (13, i, 0) 5).toInt ≤ 100) : x_Met l D cy L ns kk yX0_tellSegment (.code yX0_tellSegment cX0_tellSegment 3 (some .int)) 1 σ [.ref (L (13, i, 0)), .int (p), .int (w)] (some (.int (x_tellSeg σ i p w))) σ := by
  refine g_Met.of (by decide) (Nat.le_of_ble_eq_true rfl) ?_
  intro pg e s m below meth c hx hb hr hlk hml hown hts hK hN H locs hG hS ls hl
  have hown : s.vm.findClass RX0 = some m.cls := hown
  have hl : lv_has ls 3 [(0, .ref (L (13, i, 0))), (1, .int (p)), (2, .int (w))] := hl
  refine lv_iload_n hx hb dX0_tellSegment_0 rfl (lv_at hl 1 rfl) ?_
  refine kz_if_lt (X := (p).toInt) hx hb rfl dX0_tellSegment_1 (tgt := 12) (by decide) (fun c_1_1 => ?_) (fun c_1_1 => ?_)
  · refine lv_iconst (v := (-1)) hx hb dX0_tellSegment_12 (by decide) ?_
    exact s_iret hx hb hr hlk hG hS dX0_tellSegment_13 (by unfold x_tellSeg; (repeat' split) <;> first | rfl | (exfalso; omega)) rfl
  · refine lv_iload_n hx hb dX0_tellSegment_4 rfl (lv_at hl 1 rfl) ?_
    refine lv_aload_n hx hb dX0_tellSegment_5 rfl (lv_at hl 0 rfl) ?_
    refine g_get (C := RX0) (T := TX0) (N := 6) (v := .int (σ (13, i, 0) 5)) hx hb hts inX0g hown hK hG (13, i, 0) ⟨hi, rfl⟩ (x_at_13 cy L ns kk (i) (0) (σ (13, i, 0))) rfl 5 (by decide) fl_X0_25 rfl dX0_tellSegment_6 ?_
    refine kz_icmp_lt (X := (p).toInt) (Y := (σ (13, i, 0) 5).toInt) hx hb rfl rfl dX0_tellSegment_9 (tgt := 14) (by decide) (fun c_9_2 => ?_) (fun c_9_2 => ?_)
    · refine lv_iload_n hx hb dX0_tellSegment_14 rfl (lv_at hl 2 rfl) ?_
      rcases (show (w).toInt = 0 ∨ (w).toInt = 1 ∨ (w).toInt = 2 ∨ (w).toInt = 3 ∨ ((w).toInt < 0 ∨ 3 < (w).toInt) by omega) with c_15_3 | c_15_3 | c_15_3 | c_15_3 | c_15_3
      · refine lv_tableIn (off := 29) (tgt := 44) hx hb dX0_tellSegment_15 (by have := (show (w : Int32).toInt = (w).toInt from rfl); omega) (by have := (show (w : Int32).toInt = (w).toInt from rfl); omega) (by rw [((show (w : Int32).toInt = (w).toInt from rfl)).trans c_15_3]; rfl) (by decide) ?_
        refine lv_aload_n hx hb dX0_tellSegment_44 rfl (lv_at hl 0 rfl) ?_
        refine g_get (C := RX0) (T := TX0) (N := 6) (v := .ref (L (15, i, 0))) hx hb hts inX0g hown hK hG (13, i, 0) ⟨hi, rfl⟩ (x_at_13 cy L ns kk (i) (0) (σ (13, i, 0))) rfl 2 (by decide) fl_X0_15 rfl dX0_tellSegment_45 ?_
        refine lv_iload_n hx hb dX0_tellSegment_48 rfl (lv_at hl 1 rfl) ?_
        refine g_iald (n := 100) hx hb hK hG (15, i, 0) ⟨hi, rfl⟩ 0 rfl rfl (g_vp (by omega) (by omega)) dX0_tellSegment_49 ?_
        exact s_iret hx hb hr hlk hG hS dX0_tellSegment_50 (by unfold x_tellSeg; (repeat' split) <;> first | rfl | (exfalso; omega)) rfl
      · refine lv_tableIn (off := 36) (tgt := 51) hx hb dX0_tellSegment_15 (by have := (show (w : Int32).toInt = (w).toInt from rfl); omega) (by have := (show (w : Int32).toInt = (w).toInt from rfl); omega) (by rw [((show (w : Int32).toInt = (w).toInt from rfl)).trans c_15_3]; rfl) (by decide) ?_
        refine lv_aload_n hx hb dX0_tellSegment_51 rfl (lv_at hl 0 rfl) ?_
        refine lv_iload_n hx hb dX0_tellSegment_52 rfl (lv_at hl 1 rfl) ?_
        refine g_cont (va_runV (As := [.int (p)]) (rest := []) ⟨hx, hb, hml, hown, hts⟩ (c_X0_endOfSegment l D cy L ns kk σ (i) hi (p) ⟨by omega, by omega⟩ g1) (cwV 1 hts gV_X0_31 rfl rfl rfl (by decide +kernel) ⟨Nat.le_of_ble_eq_true rfl, Nat.le_of_ble_eq_true rfl⟩) (g_preV hK hN hG (x := (13, i, 0)) ⟨hi, rfl⟩ (q := (RX0, TX0, 6)) (x_at_13 cy L ns kk (i) (0) (σ (13, i, 0))) rfl) rfl rfl hl.1 rfl (lv_room (Nat.le_of_ble_eq_true rfl)) dX0_tellSegment_53 ⟨Nat.zero_le _, Nat.zero_le _⟩) hS (fun H locs hG hS => ?_)
        refine W.eq (g2 := F0 m 56 ls [.int (x_endSeg σ (i) (p))]) rfl ?_
        refine lv_aload_n hx hb dX0_tellSegment_56 rfl (lv_at hl 0 rfl) ?_
        refine g_get (C := RX0) (T := TX0) (N := 6) (v := .ref (L (15, i, 0))) hx hb hts inX0g hown hK hG (13, i, 0) ⟨hi, rfl⟩ (x_at_13 cy L ns kk (i) (0) (σ (13, i, 0))) rfl 2 (by decide) fl_X0_15 rfl dX0_tellSegment_57 ?_
        refine lv_iload_n hx hb dX0_tellSegment_60 rfl (lv_at hl 1 rfl) ?_
        refine g_iald (n := 100) hx hb hK hG (15, i, 0) ⟨hi, rfl⟩ 0 rfl rfl (g_vp (by omega) (by omega)) dX0_tellSegment_61 ?_
        refine lv_isub hx hb dX0_tellSegment_62 ?_
        exact s_iret hx hb hr hlk hG hS dX0_tellSegment_63 (by unfold x_tellSeg; (repeat' split) <;> first | rfl | (exfalso; omega)) rfl
      · refine lv_tableIn (off := 49) (tgt := 64) hx hb dX0_tellSegment_15 (by have := (show (w : Int32).toInt = (w).toInt from rfl); omega) (by have := (show (w : Int32).toInt = (w).toInt from rfl); omega) (by rw [((show (w : Int32).toInt = (w).toInt from rfl)).trans c_15_3]; rfl) (by decide) ?_
        refine lv_aload_n hx hb dX0_tellSegment_64 rfl (lv_at hl 0 rfl) ?_
        refine g_get (C := RX0) (T := TX0) (N := 6) (v := .ref (L (16, i, 0))) hx hb hts inX0g hown hK hG (13, i, 0) ⟨hi, rfl⟩ (x_at_13 cy L ns kk (i) (0) (σ (13, i, 0))) rfl 3 (by decide) fl_X0_18 rfl dX0_tellSegment_65 ?_
        refine lv_iload_n hx hb dX0_tellSegment_68 rfl (lv_at hl 1 rfl) ?_
        refine g_iald (n := 100) hx hb hK hG (16, i, 0) ⟨hi, rfl⟩ 0 rfl rfl (g_vp (by omega) (by omega)) dX0_tellSegment_69 ?_
        exact s_iret hx hb hr hlk hG hS dX0_tellSegment_70 (by unfold x_tellSeg; (repeat' split) <;> first | rfl | (exfalso; omega)) rfl
      · refine lv_tableIn (off := 56) (tgt := 71) hx hb dX0_tellSegment_15 (by have := (show (w : Int32).toInt = (w).toInt from rfl); omega) (by have := (show (w : Int32).toInt = (w).toInt from rfl); omega) (by rw [((show (w : Int32).toInt = (w).toInt from rfl)).trans c_15_3]; rfl) (by decide) ?_
        refine lv_aload_n hx hb dX0_tellSegment_71 rfl (lv_at hl 0 rfl) ?_
        refine g_get (C := RX0) (T := TX0) (N := 6) (v := .ref (L (16, i, 0))) hx hb hts inX0g hown hK hG (13, i, 0) ⟨hi, rfl⟩ (x_at_13 cy L ns kk (i) (0) (σ (13, i, 0))) rfl 3 (by decide) fl_X0_18 rfl dX0_tellSegment_72 ?_
        refine lv_iload_n hx hb dX0_tellSegment_75 rfl (lv_at hl 1 rfl) ?_
        refine g_iald (n := 100) hx hb hK hG (16, i, 0) ⟨hi, rfl⟩ 0 rfl rfl (g_vp (by omega) (by omega)) dX0_tellSegment_76 ?_
        refine lv_aload_n hx hb dX0_tellSegment_77 rfl (lv_at hl 0 rfl) ?_
        refine g_get (C := RX0) (T := TX0) (N := 6) (v := .int (σ (13, i, 0) 0)) hx hb hts inX0g hown hK hG (13, i, 0) ⟨hi, rfl⟩ (x_at_13 cy L ns kk (i) (0) (σ (13, i, 0))) rfl 0 (by decide) fl_X0_28 rfl dX0_tellSegment_78 ?_
        refine kz_icmp_le (X := (σ (16, i, 0) ((p).toNatClampNeg)).toInt) (Y := (σ (13, i, 0) 0).toInt) hx hb rfl rfl dX0_tellSegment_81 (tgt := 88) (by decide) (fun c_81_4 => ?_) (fun c_81_4 => ?_)
        · refine lv_iconst (v := 0) hx hb dX0_tellSegment_88 (by decide) ?_
          exact s_iret hx hb hr hlk hG hS dX0_tellSegment_89 (by unfold x_tellSeg; (repeat' split) <;> first | rfl | (exfalso; omega)) rfl
        · refine lv_iconst (v := 1) hx hb dX0_tellSegment_84 (by decide) ?_
          refine lv_goto (tgt := 89) hx hb dX0_tellSegment_85 (by decide) ?_
          exact s_iret hx hb hr hlk hG hS dX0_tellSegment_89 (by unfold x_tellSeg; (repeat' split) <;> first | rfl | (exfalso; omega)) rfl
      · refine lv_tableOut (tgt := 90) hx hb dX0_tellSegment_15 (by have := (show (w : Int32).toInt = (w).toInt from rfl); omega) (by decide) ?_
        refine lv_iconst (v := (-1)) hx hb dX0_tellSegment_90 (by decide) ?_
        exact s_iret hx hb hr hlk hG hS dX0_tellSegment_91 (by unfold x_tellSeg; (repeat' split) <;> first | rfl | (exfalso; omega)) rfl
    · refine lv_iconst (v := (-1)) hx hb dX0_tellSegment_12 (by decide) ?_
      exact s_iret hx hb hr hlk hG hS dX0_tellSegment_13 (by unfold x_tellSeg; (repeat' split) <;> first | rfl | (exfalso; omega)) rfl
set_option maxHeartbeats 4000000 in
set_option maxRecDepth 100000 in
theorem c_X4_has (l : Launch) (D : va_G) (cy : Nat → ClassId) (L : g_S → Nat) (ns : Nat) (kk : Nat → Nat) (σ : g_S → Nat → Int32) (i : Nat) (hi : i < ns) (p : Int32) : x_Met l D cy L ns kk yX4_has (.code yX4_has cX4_has 2 (some .boolean)) 0 σ [.ref (L (17, i, 0)), .int (p)] (some (.int (g_b (0 ≤ (p).toInt ∧ (p).toInt < (σ (17, i, 0) 2).toInt)))) σ := by
  refine g_Met.of (by decide) (Nat.le_of_ble_eq_true rfl) ?_
  intro pg e s m below meth c hx hb hr hlk hml hown hts hK hN H locs hG hS ls hl
  have hown : s.vm.findClass RX4 = some m.cls := hown
  have hl : lv_has ls 2 [(0, .ref (L (17, i, 0))), (1, .int (p))] := hl
  refine lv_iload_n hx hb dX4_has_0 rfl (lv_at hl 1 rfl) ?_
  refine kz_if_lt (X := (p).toInt) hx hb rfl dX4_has_1 (tgt := 16) (by decide) (fun c_1_1 => ?_) (fun c_1_1 => ?_)
  · refine lv_iconst (v := 0) hx hb dX4_has_16 (by decide) ?_
    exact s_zret hx hb hr hlk hG hS dX4_has_17 rfl (by unfold g_b; (repeat' split) <;> first | rfl | (exfalso; omega)) rfl
  · refine lv_iload_n hx hb dX4_has_4 rfl (lv_at hl 1 rfl) ?_
    refine lv_aload_n hx hb dX4_has_5 rfl (lv_at hl 0 rfl) ?_
    refine g_get (C := RX4) (T := TX4) (N := 3) (v := .int (σ (17, i, 0) 2)) hx hb hts inX4g hown hK hG (17, i, 0) ⟨hi, rfl⟩ (x_at_17 cy L ns kk (i) (0) (σ (17, i, 0))) rfl 2 (by decide) fl_X4_18 rfl dX4_has_6 ?_
    refine kz_icmp_ge (X := (p).toInt) (Y := (σ (17, i, 0) 2).toInt) hx hb rfl rfl dX4_has_9 (tgt := 16) (by decide) (fun c_9_2 => ?_) (fun c_9_2 => ?_)
    · refine lv_iconst (v := 0) hx hb dX4_has_16 (by decide) ?_
      exact s_zret hx hb hr hlk hG hS dX4_has_17 rfl (by unfold g_b; (repeat' split) <;> first | rfl | (exfalso; omega)) rfl
    · refine lv_iconst (v := 1) hx hb dX4_has_12 (by decide) ?_
      refine lv_goto (tgt := 17) hx hb dX4_has_13 (by decide) ?_
      exact s_zret hx hb hr hlk hG hS dX4_has_17 rfl (by unfold g_b; (repeat' split) <;> first | rfl | (exfalso; omega)) rfl
set_option maxHeartbeats 4000000 in
set_option maxRecDepth 100000 in
theorem c_X4_tell (l : Launch) (D : va_G) (cy : Nat → ClassId) (L : g_S → Nat) (ns : Nat) (kk : Nat → Nat) (σ : g_S → Nat → Int32) (i : Nat) (hi : i < ns) (p w : Int32) (t1 : (σ (17, i, 0) 2).toInt ≤ 20) : x_Met l D cy L ns kk yX4_tell (.code yX4_tell cX4_tell 3 (some .int)) 1 σ [.ref (L (17, i, 0)), .int (p), .int (w)] (some (.int (x_scTell σ i p w))) σ := by
  refine g_Met.of (by decide) (Nat.le_of_ble_eq_true rfl) ?_
  intro pg e s m below meth c hx hb hr hlk hml hown hts hK hN H locs hG hS ls hl
  have hown : s.vm.findClass RX4 = some m.cls := hown
  have hl : lv_has ls 3 [(0, .ref (L (17, i, 0))), (1, .int (p)), (2, .int (w))] := hl
  refine lv_aload_n hx hb dX4_tell_0 rfl (lv_at hl 0 rfl) ?_
  refine lv_iload_n hx hb dX4_tell_1 rfl (lv_at hl 1 rfl) ?_
  refine g_cont (va_runV (As := [.int (p)]) (rest := []) ⟨hx, hb, hml, hown, hts⟩ (c_X4_has l D cy L ns kk σ (i) hi (p)) (cwV 1 hts gV_X4_31 rfl rfl rfl (by decide +kernel) ⟨Nat.le_of_ble_eq_true rfl, Nat.le_of_ble_eq_true rfl⟩) (g_preV hK hN hG (x := (17, i, 0)) ⟨hi, rfl⟩ (q := (RX4, TX4, 3)) (x_at_17 cy L ns kk (i) (0) (σ (17, i, 0))) rfl) rfl rfl hl.1 rfl (lv_room (Nat.le_of_ble_eq_true rfl)) dX4_tell_2 ⟨Nat.zero_le _, Nat.zero_le _⟩) hS (fun H locs hG hS => ?_)
  refine W.eq (g2 := F0 m 5 ls [.int (g_b (0 ≤ (p).toInt ∧ (p).toInt < (σ (17, i, 0) 2).toInt))]) rfl ?_
  refine kz_b_ne (tgt := 10) hx hb dX4_tell_5 (by decide) (fun c_5_1 => ?_) (fun c_5_1 => ?_)
  · refine lv_iload_n hx hb dX4_tell_10 rfl (lv_at hl 2 rfl) ?_
    rcases (show w = 0 ∨ w = 1 ∨ (¬ w = 0 ∧ ¬ w = 1) by simp only [g_eqI]; omega) with c_11_2 | c_11_2 | c_11_2
    · refine lv_lookup (off := 25) (tgt := 36) hx hb dX4_tell_11 (by decide) (by rw [c_11_2]; decide) (by decide) ?_
      refine lv_aload_n hx hb dX4_tell_36 rfl (lv_at hl 0 rfl) ?_
      refine g_get (C := RX4) (T := TX4) (N := 3) (v := .ref (L (20, i, 0))) hx hb hts inX4g hown hK hG (17, i, 0) ⟨hi, rfl⟩ (x_at_17 cy L ns kk (i) (0) (σ (17, i, 0))) rfl 0 (by decide) fl_X4_9 rfl dX4_tell_37 ?_
      refine lv_iload_n hx hb dX4_tell_40 rfl (lv_at hl 1 rfl) ?_
      refine g_iald (n := 20) hx hb hK hG (20, i, 0) ⟨hi, rfl⟩ 0 rfl rfl (g_vp (by omega) (by omega)) dX4_tell_41 ?_
      exact s_iret hx hb hr hlk hG hS dX4_tell_42 (by unfold x_scTell; (repeat' split) <;> first | rfl | (exfalso; omega) | (exfalso; simp only [g_eqI] at *; have z0 : (0 : Int32).toInt = 0 := rfl; have z1 : (1 : Int32).toInt = 1 := rfl; omega)) rfl
    · refine lv_lookup (off := 32) (tgt := 43) hx hb dX4_tell_11 (by decide) (by rw [c_11_2]; decide) (by decide) ?_
      refine lv_aload_n hx hb dX4_tell_43 rfl (lv_at hl 0 rfl) ?_
      refine g_get (C := RX4) (T := TX4) (N := 3) (v := .ref (L (21, i, 0))) hx hb hts inX4g hown hK hG (17, i, 0) ⟨hi, rfl⟩ (x_at_17 cy L ns kk (i) (0) (σ (17, i, 0))) rfl 1 (by decide) fl_X4_15 rfl dX4_tell_44 ?_
      refine lv_iload_n hx hb dX4_tell_47 rfl (lv_at hl 1 rfl) ?_
      refine g_iald (n := 20) hx hb hK hG (21, i, 0) ⟨hi, rfl⟩ 0 rfl rfl (g_vp (by omega) (by omega)) dX4_tell_48 ?_
      exact s_iret hx hb hr hlk hG hS dX4_tell_49 (by unfold x_scTell; (repeat' split) <;> first | rfl | (exfalso; omega) | (exfalso; simp only [g_eqI] at *; have z0 : (0 : Int32).toInt = 0 := rfl; have z1 : (1 : Int32).toInt = 1 := rfl; omega)) rfl
    · refine lv_lookup (off := 39) (tgt := 50) hx hb dX4_tell_11 (by decide) ((lv_osw c_11_2.1 (by decide)).trans ((lv_osw c_11_2.2 (by decide)).trans rfl)) (by decide) ?_
      refine lv_iconst (v := (-1)) hx hb dX4_tell_50 (by decide) ?_
      exact s_iret hx hb hr hlk hG hS dX4_tell_51 (by unfold x_scTell; (repeat' split) <;> first | rfl | (exfalso; omega) | (exfalso; simp only [g_eqI] at *; have z0 : (0 : Int32).toInt = 0 := rfl; have z1 : (1 : Int32).toInt = 1 := rfl; omega)) rfl
  · refine lv_iconst (v := (-1)) hx hb dX4_tell_8 (by decide) ?_
    exact s_iret hx hb hr hlk hG hS dX4_tell_9 (by unfold x_scTell; (repeat' split) <;> first | rfl | (exfalso; omega) | (exfalso; simp only [g_eqI] at *; have z0 : (0 : Int32).toInt = 0 := rfl; have z1 : (1 : Int32).toInt = 1 := rfl; omega)) rfl
set_option maxHeartbeats 4000000 in
set_option maxRecDepth 100000 in
theorem lp_fill (l : Launch) (D : va_G) (cy : Nat → ClassId) (L : g_S → Nat) (ns : Nat) (kk : Nat → Nat) {pg : Program} {e : Env} {s : State} {m : MethodId} {args : Array Value} {below : List Frame} {meth : Method} {c : Code} {Q : State → Prop} (C0 : g_C pg s m meth c args cX4_fill (some .int) 6 RX4 D (x_tys cy)) (i : Nat) (hi : i < ns) (x most : Int32) :
    ∀ (n : Nat) (σ : g_S → Nat → Int32) (nx : Int32) (H : Heap) (locs : List Loc) (ls : Array Slot), 0 ≤ (n : Int) → (0 ≤ (σ (1, 0, 0) 2).toInt ∧ (σ (1, 0, 0) 2).toInt ≤ 100 ∧ ((σ (17, i, 0) 2).toInt + n = 20 ∧ 0 ≤ (σ (17, i, 0) 2).toInt)) → g_H D vwCl (x_dom ns kk) L (fun z => x_K cy L ns kk z (σ z)) H → va_S (g_A (x_dom ns kk) L) s.heap H locs → lv_has ls 6 [(5, .int (nx)), (0, .ref (L (17, i, 0))), (1, .ref (L (1, 0, 0))), (2, .int (x)), (4, .int (most))] →
    (∀ (H : Heap) (locs : List Loc) (ls : Array Slot), g_H D vwCl (x_dom ns kk) L (fun z => x_K cy L ns kk z ((x_fillGo i x most n σ nx) z)) H → va_S (g_A (x_dom ns kk) L) s.heap H locs → lv_has ls 6 [(0, .ref (L (17, i, 0)))] → W pg l e (g_R 3) s m args below meth c H locs 0 0 Q (F0 m 88 ls [])) →
    W pg l e (g_R 3) s m args below meth c H locs 0 0 Q (F0 m 13 ls []) := by
  obtain ⟨hx, hb, hr, hlk, hml, hown, hts, hK, hN⟩ := C0
  intro n
  induction n with
  | zero =>
    intro σ nx H locs ls hv9 hy hG hS hl kk9
    obtain ⟨h0, hn, hc9⟩ := hy
    have hc9 := hc9
    refine lv_aload_n hx hb dX4_fill_13 rfl (lv_at hl 1 rfl) ?_
    refine g_get (C := RX4) (T := TX4) (N := 3) (v := .int (σ (17, i, 0) 2)) hx hb hts inX4g hown hK hG (17, i, 0) ⟨hi, rfl⟩ (x_at_17 cy L ns kk (i) (0) (σ (17, i, 0))) rfl 2 (by decide) fl_X4_18 rfl dX4_fill_14 ?_
    refine lv_iload hx hb dX4_fill_17 (lv_at hl 4 rfl) ?_
    refine kz_icmp_ge (X := (σ (17, i, 0) 2).toInt) (Y := (most).toInt) hx hb rfl rfl dX4_fill_19 (tgt := 88) (by decide) (fun c_19_1 => ?_) (fun c_19_1 => ?_)
    · exact kk9 H locs ls hG hS (lv_sub hl [1] rfl)
    · refine lv_aload_n hx hb dX4_fill_22 rfl (lv_at hl 1 rfl) ?_
      refine g_get (C := RX4) (T := TX4) (N := 3) (v := .int (σ (17, i, 0) 2)) hx hb hts inX4g hown hK hG (17, i, 0) ⟨hi, rfl⟩ (x_at_17 cy L ns kk (i) (0) (σ (17, i, 0))) rfl 2 (by decide) fl_X4_18 rfl dX4_fill_23 ?_
      refine lv_bipush (v := 20) hx hb dX4_fill_26 (by decide) ?_
      refine kz_icmp_ge (X := (σ (17, i, 0) 2).toInt) (Y := 20) hx hb rfl (by decide) dX4_fill_28 (tgt := 88) (by decide) (fun c_28_2 => ?_) (fun c_28_2 => ?_)
      · exact kk9 H locs ls hG hS (lv_sub hl [1] rfl)
      · exact absurd c_28_2 (by omega)
  | succ n ih =>
    intro σ nx H locs ls hv9 hy hG hS hl kk9
    obtain ⟨h0, hn, hc9⟩ := hy
    have hc9 := hc9
    refine lv_aload_n hx hb dX4_fill_13 rfl (lv_at hl 1 rfl) ?_
    refine g_get (C := RX4) (T := TX4) (N := 3) (v := .int (σ (17, i, 0) 2)) hx hb hts inX4g hown hK hG (17, i, 0) ⟨hi, rfl⟩ (x_at_17 cy L ns kk (i) (0) (σ (17, i, 0))) rfl 2 (by decide) fl_X4_18 rfl dX4_fill_14 ?_
    refine lv_iload hx hb dX4_fill_17 (lv_at hl 4 rfl) ?_
    refine kz_icmp_ge (X := (σ (17, i, 0) 2).toInt) (Y := (most).toInt) hx hb rfl rfl dX4_fill_19 (tgt := 88) (by decide) (fun c_19_1 => ?_) (fun c_19_1 => ?_)
    · have e90 : x_fillGo i x most (n + 1) σ nx = σ := (by rw [x_fillGo_s]; first | (rw [if_neg (by omega)]) | (rw [if_pos (by omega)]))
      rw [e90] at kk9
      exact kk9 H locs ls hG hS (lv_sub hl [1] rfl)
    · refine lv_aload_n hx hb dX4_fill_22 rfl (lv_at hl 1 rfl) ?_
      refine g_get (C := RX4) (T := TX4) (N := 3) (v := .int (σ (17, i, 0) 2)) hx hb hts inX4g hown hK hG (17, i, 0) ⟨hi, rfl⟩ (x_at_17 cy L ns kk (i) (0) (σ (17, i, 0))) rfl 2 (by decide) fl_X4_18 rfl dX4_fill_23 ?_
      refine lv_bipush (v := 20) hx hb dX4_fill_26 (by decide) ?_
      refine kz_icmp_ge (X := (σ (17, i, 0) 2).toInt) (Y := 20) hx hb rfl (by decide) dX4_fill_28 (tgt := 88) (by decide) (fun c_28_2 => ?_) (fun c_28_2 => ?_)
      · exact absurd c_28_2 (by omega)
      · refine lv_iload hx hb dX4_fill_31 (lv_at hl 0 rfl) ?_
        refine lv_iconst (v := (-1)) hx hb dX4_fill_33 (by decide) ?_
        refine kz_icmp_eq (X := (nx).toInt) (Y := (-1)) hx hb rfl (by decide) dX4_fill_34 (tgt := 88) (by decide) (fun c_34_3 => ?_) (fun c_34_3 => ?_)
        · have e90 : x_fillGo i x most (n + 1) σ nx = σ := (by rw [x_fillGo_s]; first | (rw [if_neg (by omega)]) | (rw [if_pos (by omega)]))
          rw [e90] at kk9
          exact kk9 H locs ls hG hS (lv_sub hl [1] rfl)
        · refine lv_aload_n hx hb dX4_fill_37 rfl (lv_at hl 1 rfl) ?_
          refine g_get (C := RX4) (T := TX4) (N := 3) (v := .ref (L (20, i, 0))) hx hb hts inX4g hown hK hG (17, i, 0) ⟨hi, rfl⟩ (x_at_17 cy L ns kk (i) (0) (σ (17, i, 0))) rfl 0 (by decide) fl_X4_9 rfl dX4_fill_38 ?_
          refine lv_aload_n hx hb dX4_fill_41 rfl (lv_at hl 1 rfl) ?_
          refine g_get (C := RX4) (T := TX4) (N := 3) (v := .int (σ (17, i, 0) 2)) hx hb hts inX4g hown hK hG (17, i, 0) ⟨hi, rfl⟩ (x_at_17 cy L ns kk (i) (0) (σ (17, i, 0))) rfl 2 (by decide) fl_X4_18 rfl dX4_fill_42 ?_
          refine lv_iload hx hb dX4_fill_45 (lv_at hl 0 rfl) ?_
          refine g_iast (n := 20) hx hb hK hG hS (20, i, 0) ⟨hi, rfl⟩ 0 (fun _ => rfl) rfl (g_vp (by omega) (by omega)) dX4_fill_47 (fun H locs hG hS => ?_)
          refine lv_aload_n hx hb dX4_fill_48 rfl (lv_at hl 1 rfl) ?_
          refine g_get (C := RX4) (T := TX4) (N := 3) (v := .ref (L (21, i, 0))) hx hb hts inX4g hown hK hG (17, i, 0) ⟨hi, rfl⟩ (x_at_17 cy L ns kk (i) (0) ((g_up σ (20, i, 0) ((σ (17, i, 0) 2).toNatClampNeg) (nx)) (17, i, 0))) rfl 1 (by decide) fl_X4_15 rfl dX4_fill_49 ?_
          refine lv_aload_n hx hb dX4_fill_52 rfl (lv_at hl 1 rfl) ?_
          refine g_get (C := RX4) (T := TX4) (N := 3) (v := .int (σ (17, i, 0) 2)) hx hb hts inX4g hown hK hG (17, i, 0) ⟨hi, rfl⟩ (x_at_17 cy L ns kk (i) (0) ((g_up σ (20, i, 0) ((σ (17, i, 0) 2).toNatClampNeg) (nx)) (17, i, 0))) rfl 2 (by decide) fl_X4_18 rfl dX4_fill_53 ?_
          refine lv_aload_n hx hb dX4_fill_56 rfl (lv_at hl 2 rfl) ?_
          refine lv_iload_n hx hb dX4_fill_57 rfl (lv_at hl 3 rfl) ?_
          refine lv_iload hx hb dX4_fill_58 (lv_at hl 0 rfl) ?_
          refine g_cont (va_runV (As := [.int (x), .int (nx)]) (rest := [.int (σ (17, i, 0) 2), .ref (L (21, i, 0))]) ⟨hx, hb, hml, hown, hts⟩ (c_X2_countOfTerm l D cy L ns kk (g_up σ (20, i, 0) ((σ (17, i, 0) 2).toNatClampNeg) (nx)) (x) (nx) (by first | exact h0 | simpa [g_up_at] using h0 | (simpa [x_scPut, g_up_at] using h0)) (by first | exact hn | simpa [g_up_at] using hn | (simpa [x_scPut, g_up_at] using hn))) (cwV 2 hts gV_X4_28 rfl rfl rfl (by decide +kernel) ⟨Nat.le_of_ble_eq_true rfl, Nat.le_of_ble_eq_true rfl⟩) (g_preV hK hN hG (x := (1, 0, 0)) ⟨rfl, rfl⟩ (q := (RX2, TX2, 3)) (x_at_1 cy L ns kk (0) (0) ((g_up σ (20, i, 0) ((σ (17, i, 0) 2).toNatClampNeg) (nx)) (1, 0, 0))) rfl) rfl rfl hl.1 rfl (lv_room (Nat.le_of_ble_eq_true rfl)) dX4_fill_60 ⟨Nat.zero_le _, Nat.zero_le _⟩) hS (fun H locs hG hS => ?_)
          refine W.eq (g2 := F0 m 63 ls [.int (x_cnt (g_up σ (20, i, 0) ((σ (17, i, 0) 2).toNatClampNeg) (nx)) (x) (nx)), .int (σ (17, i, 0) 2), .ref (L (21, i, 0))]) rfl ?_
          refine g_iast (n := 20) hx hb hK hG hS (21, i, 0) ⟨hi, rfl⟩ 0 (fun _ => rfl) rfl (g_vp (by omega) (by omega)) dX4_fill_63 (fun H locs hG hS => ?_)
          refine lv_aload_n hx hb dX4_fill_64 rfl (lv_at hl 1 rfl) ?_
          refine lv_dup hx hb dX4_fill_65 rfl ?_
          refine g_get (C := RX4) (T := TX4) (N := 3) (v := .int (σ (17, i, 0) 2)) hx hb hts inX4g hown hK hG (17, i, 0) ⟨hi, rfl⟩ (x_at_17 cy L ns kk (i) (0) ((g_up (g_up σ (20, i, 0) ((σ (17, i, 0) 2).toNatClampNeg) (nx)) (21, i, 0) ((σ (17, i, 0) 2).toNatClampNeg) (x_cnt (g_up σ (20, i, 0) ((σ (17, i, 0) 2).toNatClampNeg) (nx)) (x) (nx))) (17, i, 0))) rfl 2 (by decide) fl_X4_18 rfl dX4_fill_66 ?_
          refine lv_iconst (v := 1) hx hb dX4_fill_69 (by decide) ?_
          refine lv_iadd hx hb dX4_fill_70 ?_
          refine g_puti (C := RX4) (T := TX4) (N := 3) (v := (σ (17, i, 0) 2) + (1)) (ty := .int) hx hb hts inX4g tyX4_ok nmX4 hown hK hG hS (17, i, 0) ⟨hi, rfl⟩ (x_at_17 cy L ns kk (i) (0) ((g_up (g_up σ (20, i, 0) ((σ (17, i, 0) 2).toNatClampNeg) (nx)) (21, i, 0) ((σ (17, i, 0) 2).toNatClampNeg) (x_cnt (g_up σ (20, i, 0) ((σ (17, i, 0) 2).toNatClampNeg) (nx)) (x) (nx))) (17, i, 0))) rfl 2 (by decide) (x_up_17_2 cy L ns kk (i) (0) ((g_up (g_up σ (20, i, 0) ((σ (17, i, 0) 2).toNatClampNeg) (nx)) (21, i, 0) ((σ (17, i, 0) 2).toNatClampNeg) (x_cnt (g_up σ (20, i, 0) ((σ (17, i, 0) 2).toNatClampNeg) (nx)) (x) (nx))) (17, i, 0)) ((σ (17, i, 0) 2) + (1))) fl_X4_18 rfl (by decide +kernel) rfl rfl (Nat.le_of_ble_eq_true rfl) dX4_fill_71 (fun H locs hG hS => ?_)
          refine lv_aload_n hx hb dX4_fill_74 rfl (lv_at hl 2 rfl) ?_
          refine lv_iload_n hx hb dX4_fill_75 rfl (lv_at hl 3 rfl) ?_
          refine lv_iload hx hb dX4_fill_76 (lv_at hl 0 rfl) ?_
          refine lv_iconst (v := 1) hx hb dX4_fill_78 (by decide) ?_
          refine lv_iadd hx hb dX4_fill_79 ?_
          refine g_cont (va_runV (As := [.int (x), .int ((nx) + (1))]) (rest := []) ⟨hx, hb, hml, hown, hts⟩ (c_X2_leastTermFrom l D cy L ns kk (g_up (g_up (g_up σ (20, i, 0) ((σ (17, i, 0) 2).toNatClampNeg) (nx)) (21, i, 0) ((σ (17, i, 0) 2).toNatClampNeg) (x_cnt (g_up σ (20, i, 0) ((σ (17, i, 0) 2).toNatClampNeg) (nx)) (x) (nx))) (17, i, 0) (2) ((σ (17, i, 0) 2) + (1))) (x) ((nx) + (1)) (by first | exact h0 | simpa [g_up_at] using h0 | (simpa [x_scPut, g_up_at] using h0)) (by first | exact hn | simpa [g_up_at] using hn | (simpa [x_scPut, g_up_at] using hn))) (cwV 2 hts gV_X4_22 rfl rfl rfl (by decide +kernel) ⟨Nat.le_of_ble_eq_true rfl, Nat.le_of_ble_eq_true rfl⟩) (g_preV hK hN hG (x := (1, 0, 0)) ⟨rfl, rfl⟩ (q := (RX2, TX2, 3)) (x_at_1 cy L ns kk (0) (0) ((g_up (g_up (g_up σ (20, i, 0) ((σ (17, i, 0) 2).toNatClampNeg) (nx)) (21, i, 0) ((σ (17, i, 0) 2).toNatClampNeg) (x_cnt (g_up σ (20, i, 0) ((σ (17, i, 0) 2).toNatClampNeg) (nx)) (x) (nx))) (17, i, 0) (2) ((σ (17, i, 0) 2) + (1))) (1, 0, 0))) rfl) rfl rfl hl.1 rfl (lv_room (Nat.le_of_ble_eq_true rfl)) dX4_fill_80 ⟨Nat.zero_le _, Nat.zero_le _⟩) hS (fun H locs hG hS => ?_)
          refine W.eq (g2 := F0 m 83 ls [.int (x_least (g_up (g_up (g_up σ (20, i, 0) ((σ (17, i, 0) 2).toNatClampNeg) (nx)) (21, i, 0) ((σ (17, i, 0) 2).toNatClampNeg) (x_cnt (g_up σ (20, i, 0) ((σ (17, i, 0) 2).toNatClampNeg) (nx)) (x) (nx))) (17, i, 0) (2) ((σ (17, i, 0) 2) + (1))) (x) ((nx) + (1)))]) rfl ?_
          refine lv_istore (lv' := [(5, .int (x_least (g_up (g_up (g_up σ (20, i, 0) ((σ (17, i, 0) 2).toNatClampNeg) (nx)) (21, i, 0) ((σ (17, i, 0) 2).toNatClampNeg) (x_cnt (g_up σ (20, i, 0) ((σ (17, i, 0) 2).toNatClampNeg) (nx)) (x) (nx))) (17, i, 0) (2) ((σ (17, i, 0) 2) + (1))) (x) ((nx) + (1)))), (0, .ref (L (17, i, 0))), (1, .ref (L (1, 0, 0))), (2, .int (x)), (4, .int (most))]) hx hb dX4_fill_83 hl (by decide) rfl (fun ls hl => ?_)
          refine lv_goto (tgt := 13) hx hb dX4_fill_85 (by decide) ?_
          have e90 : x_fillGo i x most (n + 1) σ nx = x_fillGo i x most n (x_scPut σ i x nx) (x_least (x_scPut σ i x nx) x (nx + 1)) := (by rw [x_fillGo_s]; first | (rw [if_neg (by omega)]) | (rw [if_pos (by omega)]))
          rw [e90] at kk9
          exact ih (g_up (g_up (g_up σ (20, i, 0) ((σ (17, i, 0) 2).toNatClampNeg) (nx)) (21, i, 0) ((σ (17, i, 0) 2).toNatClampNeg) (x_cnt (g_up σ (20, i, 0) ((σ (17, i, 0) 2).toNatClampNeg) (nx)) (x) (nx))) (17, i, 0) (2) ((σ (17, i, 0) 2) + (1))) (x_least (g_up (g_up (g_up σ (20, i, 0) ((σ (17, i, 0) 2).toNatClampNeg) (nx)) (21, i, 0) ((σ (17, i, 0) 2).toNatClampNeg) (x_cnt (g_up σ (20, i, 0) ((σ (17, i, 0) 2).toNatClampNeg) (nx)) (x) (nx))) (17, i, 0) (2) ((σ (17, i, 0) 2) + (1))) (x) ((nx) + (1))) H locs ls (by omega) ⟨by simpa [x_scPut, g_up_at] using h0, by simpa [x_scPut, g_up_at] using hn, by have z1 : (1 : Int32).toInt = 1 := rfl; rw [g_up_same, g_addI (by omega) (by omega)]; omega⟩ hG hS (lv_sub hl [0, 1, 2, 3, 4] rfl) kk9
set_option maxHeartbeats 4000000 in
set_option maxRecDepth 100000 in
theorem c_X4_fill (l : Launch) (D : va_G) (cy : Nat → ClassId) (L : g_S → Nat) (ns : Nat) (kk : Nat → Nat) (σ : g_S → Nat → Int32) (i : Nat) (hi : i < ns) (x start most : Int32) (h0 : 0 ≤ (σ (1, 0, 0) 2).toInt) (hn : (σ (1, 0, 0) 2).toInt ≤ 100) : x_Met l D cy L ns kk yX4_fill (.code yX4_fill cX4_fill 6 (some .int)) 3 σ [.ref (L (17, i, 0)), .ref (L (1, 0, 0)), .int (x), .int (start), .int (most)] (some (.int ((x_fillM σ i x start most) (17, i, 0) 2))) (x_fillM σ i x start most) := by
  refine g_Met.of (by decide) (Nat.le_of_ble_eq_true rfl) ?_
  intro pg e s m below meth c hx hb hr hlk hml hown hts hK hN H locs hG hS ls hl
  have hown : s.vm.findClass RX4 = some m.cls := hown
  have hl : lv_has ls 6 [(0, .ref (L (17, i, 0))), (1, .ref (L (1, 0, 0))), (2, .int (x)), (3, .int (start)), (4, .int (most))] := hl
  refine lv_aload_n hx hb dX4_fill_0 rfl (lv_at hl 0 rfl) ?_
  refine lv_iconst (v := 0) hx hb dX4_fill_1 (by decide) ?_
  refine g_puti (C := RX4) (T := TX4) (N := 3) (v := 0) (ty := .int) hx hb hts inX4g tyX4_ok nmX4 hown hK hG hS (17, i, 0) ⟨hi, rfl⟩ (x_at_17 cy L ns kk (i) (0) (σ (17, i, 0))) rfl 2 (by decide) (x_up_17_2 cy L ns kk (i) (0) (σ (17, i, 0)) (0)) fl_X4_18 rfl (by decide +kernel) rfl rfl (Nat.le_of_ble_eq_true rfl) dX4_fill_2 (fun H locs hG hS => ?_)
  refine lv_aload_n hx hb dX4_fill_5 rfl (lv_at hl 1 rfl) ?_
  refine lv_iload_n hx hb dX4_fill_6 rfl (lv_at hl 2 rfl) ?_
  refine lv_iload_n hx hb dX4_fill_7 rfl (lv_at hl 3 rfl) ?_
  refine g_cont (va_runV (As := [.int (x), .int (start)]) (rest := []) ⟨hx, hb, hml, hown, hts⟩ (c_X2_leastTermFrom l D cy L ns kk (g_up σ (17, i, 0) (2) (0)) (x) (start) (by first | exact h0 | simpa [g_up_at] using h0 | (simpa [x_scPut, g_up_at] using h0)) (by first | exact hn | simpa [g_up_at] using hn | (simpa [x_scPut, g_up_at] using hn))) (cwV 2 hts gV_X4_22 rfl rfl rfl (by decide +kernel) ⟨Nat.le_of_ble_eq_true rfl, Nat.le_of_ble_eq_true rfl⟩) (g_preV hK hN hG (x := (1, 0, 0)) ⟨rfl, rfl⟩ (q := (RX2, TX2, 3)) (x_at_1 cy L ns kk (0) (0) ((g_up σ (17, i, 0) (2) (0)) (1, 0, 0))) rfl) rfl rfl hl.1 rfl (lv_room (Nat.le_of_ble_eq_true rfl)) dX4_fill_8 ⟨Nat.zero_le _, Nat.zero_le _⟩) hS (fun H locs hG hS => ?_)
  refine W.eq (g2 := F0 m 11 ls [.int (x_least (g_up σ (17, i, 0) (2) (0)) (x) (start))]) rfl ?_
  refine lv_istore (lv' := [(5, .int (x_least (g_up σ (17, i, 0) (2) (0)) (x) (start))), (0, .ref (L (17, i, 0))), (1, .ref (L (1, 0, 0))), (2, .int (x)), (3, .int (start)), (4, .int (most))]) hx hb dX4_fill_11 hl (by decide) rfl (fun ls hl => ?_)
  refine lp_fill l D cy L ns kk  ⟨hx, hb, hr, hlk, hml, hown, hts, hK, hN⟩ i hi x most 20 (g_up σ (17, i, 0) 2 0) (x_least (g_up σ (17, i, 0) 2 0) x start) H locs ls (by omega) ⟨by simpa [g_up_at] using h0, by simpa [g_up_at] using hn, by simp [g_up_at]⟩ hG hS (lv_sub hl [0, 1, 2, 3, 5] rfl) (fun H locs ls hG hS hl => ?_)
  refine lv_aload_n hx hb dX4_fill_88 rfl (lv_at hl 0 rfl) ?_
  refine g_get (C := RX4) (T := TX4) (N := 3) (v := .int ((x_fillM σ i x start most) (17, i, 0) 2)) hx hb hts inX4g hown hK hG (17, i, 0) ⟨hi, rfl⟩ (x_at_17 cy L ns kk (i) (0) ((x_fillM σ i x start most) (17, i, 0))) rfl 2 (by decide) fl_X4_18 rfl dX4_fill_89 ?_
  exact s_iret hx hb hr hlk hG hS dX4_fill_92 rfl rfl
