/-! the reference: small things -/
def m_addR (σ : g_S → Nat → Int32) (z : Int32) : Int32 := if (1 ≤ z.toInt ∧ z.toInt ≤ 200) ∧ ¬ (σ (0, 0, 0) 1).toInt = 100 then σ (0, 0, 0) 1 + 1 - 1 else -1
def m_addM (σ : g_S → Nat → Int32) (z : Int32) : g_S → Nat → Int32 := if (1 ≤ z.toInt ∧ z.toInt ≤ 200) ∧ ¬ (σ (0, 0, 0) 1).toInt = 100 then
  g_up (g_up (g_up (g_up (g_up (g_up (g_up σ (1, 2, 0) ((σ (0, 0, 0) 1).toInt).toNat z) (1, 3, 0) ((5 * (σ (0, 0, 0) 1).toInt) + 0).toNat (-1)) (1, 3, 0) ((5 * (σ (0, 0, 0) 1).toInt) + 1).toNat (-1)) (1, 3, 0) ((5 * (σ (0, 0, 0) 1).toInt) + 2).toNat (-1)) (1, 3, 0) ((5 * (σ (0, 0, 0) 1).toInt) + 3).toNat (-1)) (1, 3, 0) ((5 * (σ (0, 0, 0) 1).toInt) + 4).toNat (-1)) (0, 0, 0) 1 (σ (0, 0, 0) 1 + 1) else σ
def m_putM (σ : g_S → Nat → Int32) (p x v : Int32) : g_S → Nat → Int32 := if (0 ≤ p.toInt ∧ p.toInt ≤ (σ (0, 0, 0) 1).toInt - 1) ∧ (0 ≤ x.toInt ∧ x.toInt ≤ 4) ∧ (-1 ≤ v.toInt ∧ v.toInt ≤ 999) then g_up σ (1, 3, 0) ((5 * p.toInt) + x.toInt).toNat v else σ
def m_putR (σ : g_S → Nat → Int32) (p x v : Int32) : Int32 := if (0 ≤ p.toInt ∧ p.toInt ≤ (σ (0, 0, 0) 1).toInt - 1) ∧ (0 ≤ x.toInt ∧ x.toInt ≤ 4) ∧ (-1 ≤ v.toInt ∧ v.toInt ≤ 999) then 1 else -1
def m_leaf (k a b d : Int32) : Prop := (k.toInt = 0 ∧ (0 ≤ a.toInt ∧ a.toInt ≤ 4) ∧ (0 ≤ b.toInt ∧ b.toInt ≤ 999)) ∨ (k.toInt = 1 ∧ (0 ≤ a.toInt ∧ a.toInt ≤ 4) ∧ (0 ≤ b.toInt ∧ b.toInt ≤ 999) ∧ (0 ≤ d.toInt ∧ d.toInt ≤ 999) ∧ b.toInt ≤ d.toInt)
def m_qsR (σ : g_S → Nat → Int32) (k a b d : Int32) : Int32 := if (((k.toInt = 0 ∧ (0 ≤ a.toInt ∧ a.toInt ≤ 4) ∧ (0 ≤ b.toInt ∧ b.toInt ≤ 999)) ∨ (k.toInt = 1 ∧ (0 ≤ a.toInt ∧ a.toInt ≤ 4) ∧ (0 ≤ b.toInt ∧ b.toInt ≤ 999) ∧ (0 ≤ d.toInt ∧ d.toInt ≤ 999) ∧ b.toInt ≤ d.toInt)) ∨ ((2 ≤ k.toInt ∧ k.toInt ≤ 4) ∧ (0 ≤ a.toInt ∧ a.toInt ≤ (σ (0, 0, 0) 4).toInt - 1) ∧ (0 ≤ b.toInt ∧ b.toInt ≤ (σ (0, 0, 0) 4).toInt - 1))) ∧ ¬ (σ (0, 0, 0) 4).toInt = 40 then σ (0, 0, 0) 4 + 1 - 1 else -1
def m_qsM (σ : g_S → Nat → Int32) (k a b d : Int32) : g_S → Nat → Int32 := if (((k.toInt = 0 ∧ (0 ≤ a.toInt ∧ a.toInt ≤ 4) ∧ (0 ≤ b.toInt ∧ b.toInt ≤ 999)) ∨ (k.toInt = 1 ∧ (0 ≤ a.toInt ∧ a.toInt ≤ 4) ∧ (0 ≤ b.toInt ∧ b.toInt ≤ 999) ∧ (0 ≤ d.toInt ∧ d.toInt ≤ 999) ∧ b.toInt ≤ d.toInt)) ∨ ((2 ≤ k.toInt ∧ k.toInt ≤ 4) ∧ (0 ≤ a.toInt ∧ a.toInt ≤ (σ (0, 0, 0) 4).toInt - 1) ∧ (0 ≤ b.toInt ∧ b.toInt ≤ (σ (0, 0, 0) 4).toInt - 1))) ∧ ¬ (σ (0, 0, 0) 4).toInt = 40 then
  g_up (g_up (g_up (g_up (g_up σ (1, 5, 0) ((σ (0, 0, 0) 4).toInt).toNat k) (1, 6, 0) ((σ (0, 0, 0) 4).toInt).toNat a) (1, 7, 0) ((σ (0, 0, 0) 4).toInt).toNat b) (1, 8, 0) ((σ (0, 0, 0) 4).toInt).toNat d) (0, 0, 0) 4 (σ (0, 0, 0) 4 + 1) else σ
def m_sesR (σ : g_S → Nat → Int32) (a b : Int32) : Int32 := if (0 ≤ a.toInt ∧ a.toInt ≤ 7) ∧ (1 ≤ b.toInt ∧ b.toInt ≤ 1000) ∧ ¬ (σ (0, 0, 0) 10).toInt = 8 then σ (0, 0, 0) 10 + 1 - 1 else -1
def m_sesM (σ : g_S → Nat → Int32) (a b : Int32) : g_S → Nat → Int32 := if (0 ≤ a.toInt ∧ a.toInt ≤ 7) ∧ (1 ≤ b.toInt ∧ b.toInt ≤ 1000) ∧ ¬ (σ (0, 0, 0) 10).toInt = 8 then g_up (g_up (g_up σ (1, 11, 0) ((σ (0, 0, 0) 10).toInt).toNat a) (1, 12, 0) ((σ (0, 0, 0) 10).toInt).toNat b) (0, 0, 0) 10 (σ (0, 0, 0) 10 + 1) else σ
def m_endM (σ : g_S → Nat → Int32) (u : Int32) : g_S → Nat → Int32 := g_up (g_up (g_up (g_up (g_up (g_up σ (2, 13, 0) (u.toInt).toNat 1) (1, 16, 0) ((5 * u.toInt)).toNat (-1)) (1, 16, 0) ((5 * u.toInt) + 1).toNat (-1)) (1, 16, 0) (((5 * u.toInt) + 1) + 1).toNat (-1)) (1, 16, 0) ((((5 * u.toInt) + 1) + 1) + 1).toNat (-1)) (1, 16, 0) (((((5 * u.toInt) + 1) + 1) + 1) + 1).toNat (-1)
def m_tellM0 (σ : g_S → Nat → Int32) (u code : Int32) : g_S → Nat → Int32 := g_up (g_up σ (1, 14, 0) (u.toInt).toNat (σ (1, 14, 0) (u.toInt).toNat + 1)) (1, 15, 0) (u.toInt).toNat code
def m_tellM (σ : g_S → Nat → Int32) (u code : Int32) : g_S → Nat → Int32 := if (m_tellM0 σ u code (1, 14, 0) (u.toInt).toNat).toInt = 3 then m_endM (m_tellM0 σ u code) u else m_tellM0 σ u code
def m_setsGo (σ : g_S → Nat → Int32) : Nat → Int → Int32 → Int32
  | 0, _, acc => acc
  | n + 1, z, acc => m_setsGo σ n (z + 1) (acc + (if 0 ≤ (σ (1, 16, 0) z.toNat).toInt then 1 else 0))
theorem m_setsGo_s (σ : g_S → Nat → Int32) (n : Nat) (z : Int) (acc : Int32) : m_setsGo σ (n + 1) z acc = m_setsGo σ n (z + 1) (acc + (if 0 ≤ (σ (1, 16, 0) z.toNat).toInt then 1 else 0)) := rfl
def m_setsR (σ : g_S → Nat → Int32) (u : Int32) : Int32 := m_setsGo σ 5 (5 * u.toInt) 0
def m_sizeR (σ : g_S → Nat → Int32) (u v : Int32) : Int32 := if (0 ≤ (u).toInt ∧ (u).toInt ≤ ((σ (0, 0, 0) 10).toInt - 1)) ∧ (σ (2, 13, 0) ((u).toInt).toNat).toInt = 0 then (if (0 ≤ (v).toInt ∧ (v).toInt ≤ (if (σ (1, 11, 0) ((u).toInt).toNat &&& 4).toInt = 4 then (4 : Int) else 0)) ∧ 0 ≤ (σ (1, 16, 0) ((5 * (u).toInt) + (v).toInt).toNat).toInt then σ (1, 16, 0) ((5 * (u).toInt) + (v).toInt).toNat else -104) else -101
def m_dropR (σ : g_S → Nat → Int32) (u v : Int32) : Int32 := if (0 ≤ (u).toInt ∧ (u).toInt ≤ ((σ (0, 0, 0) 10).toInt - 1)) ∧ (σ (2, 13, 0) ((u).toInt).toNat).toInt = 0 then (if (0 ≤ (v).toInt ∧ (v).toInt ≤ (if (σ (1, 11, 0) ((u).toInt).toNat &&& 4).toInt = 4 then (4 : Int) else 0)) ∧ 0 ≤ (σ (1, 16, 0) ((5 * (u).toInt) + (v).toInt).toNat).toInt then 1 else -104) else -101
def m_dropM (σ : g_S → Nat → Int32) (u v : Int32) : g_S → Nat → Int32 := if (0 ≤ (u).toInt ∧ (u).toInt ≤ ((σ (0, 0, 0) 10).toInt - 1)) ∧ (σ (2, 13, 0) ((u).toInt).toNat).toInt = 0 then (if (0 ≤ (v).toInt ∧ (v).toInt ≤ (if (σ (1, 11, 0) ((u).toInt).toNat &&& 4).toInt = 4 then (4 : Int) else 0)) ∧ 0 ≤ (σ (1, 16, 0) ((5 * (u).toInt) + (v).toInt).toNat).toInt then g_up σ (1, 16, 0) ((5 * (u).toInt) + (v).toInt).toNat (-1) else m_tellM σ u 104) else σ
def m_closeR (σ : g_S → Nat → Int32) (u : Int32) : Int32 := if (0 ≤ (u).toInt ∧ (u).toInt ≤ ((σ (0, 0, 0) 10).toInt - 1)) ∧ (σ (2, 13, 0) ((u).toInt).toNat).toInt = 0 then m_setsR σ u else -101
def m_closeM (σ : g_S → Nat → Int32) (u : Int32) : g_S → Nat → Int32 := if (0 ≤ (u).toInt ∧ (u).toInt ≤ ((σ (0, 0, 0) 10).toInt - 1)) ∧ (σ (2, 13, 0) ((u).toInt).toNat).toInt = 0 then m_endM σ u else σ
def m_stateR (σ : g_S → Nat → Int32) (u w : Int32) : Int32 := if (0 ≤ u.toInt ∧ u.toInt ≤ 7) ∧ (0 ≤ w.toInt ∧ w.toInt ≤ 3) then (if u.toInt < (σ (0, 0, 0) 10).toInt then (if w.toInt = 0 then (if (σ (2, 13, 0) ((u).toInt).toNat).toInt = 0 then 1 else 2) else if w.toInt = 1 then σ (1, 14, 0) ((u).toInt).toNat else if w.toInt = 2 then σ (1, 15, 0) ((u).toInt).toNat else m_setsR σ u) else 0) else -1
set_option maxHeartbeats 4000000 in
set_option maxRecDepth 100000 in
theorem c_X7_thrown (l : Launch) (D : va_G) (cy : Nat → ClassId) (L : g_S → Nat) (σ : g_S → Nat → Int32)  : m_Met l D cy L yX7_thrown (.code yX7_thrown cX7_thrown 1 (some .int)) 0 σ [.ref (L (0, 0, 0))] (some (.int (σ (0, 0, 0) 0))) σ := by
  refine g_Met.of (by decide) (Nat.le_of_ble_eq_true rfl) ?_
  intro pg e s m below meth c hx hb hr hlk hml hown hts hK hN H locs hG hS ls hl
  have hown : s.vm.findClass RX7 = some m.cls := hown
  have hl : lv_has ls 1 [(0, .ref (L (0, 0, 0)))] := hl
  refine lv_aload_n hx hb dX7_thrown_0 rfl (lv_at hl 0 rfl) ?_
  refine g_get (C := RX7) (T := TX7) (N := 28) (v := .int (σ (0, 0, 0) 0)) hx hb hts inX7g hown hK hG (0, 0, 0) ⟨rfl, rfl⟩ (m_at_0 cy L 0 0 (σ (0, 0, 0))) rfl 0 (by decide) fl_X7_83 rfl dX7_thrown_1 ?_
  exact s_iret hx hb hr hlk hG hS dX7_thrown_4 rfl rfl
set_option maxHeartbeats 4000000 in
set_option maxRecDepth 100000 in
theorem c_X7_in (l : Launch) (D : va_G) (cy : Nat → ClassId) (L : g_S → Nat) (σ : g_S → Nat → Int32) (v lo hi : Int32) (zv zl zh : Int) (hv : v.toInt = zv) (hlo : lo.toInt = zl) (hhi : hi.toInt = zh) : m_Met l D cy L yX7_in (.code yX7_in cX7_in 3 (some .boolean)) 0 σ [.int (v), .int (lo), .int (hi)] (some (.int (g_b (zl ≤ zv ∧ zv ≤ zh)))) σ := by
  refine g_Met.of (by decide) (Nat.le_of_ble_eq_true rfl) ?_
  intro pg e s m below meth c hx hb hr hlk hml hown hts hK hN H locs hG hS ls hl
  have hown : s.vm.findClass RX7 = some m.cls := hown
  have hl : lv_has ls 3 [(0, .int (v)), (1, .int (lo)), (2, .int (hi))] := hl
  refine lv_iload_n hx hb dX7_in_0 rfl (lv_at hl 0 rfl) ?_
  refine lv_iload_n hx hb dX7_in_1 rfl (lv_at hl 1 rfl) ?_
  refine kz_icmp_lt (X := zv) (Y := zl) hx hb hv hlo dX7_in_2 (tgt := 14) (by decide) (fun c_2_1 => ?_) (fun c_2_1 => ?_)
  · refine lv_iconst (v := 0) hx hb dX7_in_14 (by decide) ?_
    exact s_zret hx hb hr hlk hG hS dX7_in_15 rfl (by unfold g_b; (repeat' split) <;> first | rfl | (exfalso; omega)) rfl
  · refine lv_iload_n hx hb dX7_in_5 rfl (lv_at hl 0 rfl) ?_
    refine lv_iload_n hx hb dX7_in_6 rfl (lv_at hl 2 rfl) ?_
    refine kz_icmp_gt (X := zv) (Y := zh) hx hb hv hhi dX7_in_7 (tgt := 14) (by decide) (fun c_7_2 => ?_) (fun c_7_2 => ?_)
    · refine lv_iconst (v := 0) hx hb dX7_in_14 (by decide) ?_
      exact s_zret hx hb hr hlk hG hS dX7_in_15 rfl (by unfold g_b; (repeat' split) <;> first | rfl | (exfalso; omega)) rfl
    · refine lv_iconst (v := 1) hx hb dX7_in_10 (by decide) ?_
      refine lv_goto (tgt := 15) hx hb dX7_in_11 (by decide) ?_
      exact s_zret hx hb hr hlk hG hS dX7_in_15 rfl (by unfold g_b; (repeat' split) <;> first | rfl | (exfalso; omega)) rfl
set_option maxHeartbeats 4000000 in
set_option maxRecDepth 100000 in
theorem c_X7_isIndex (l : Launch) (D : va_G) (cy : Nat → ClassId) (L : g_S → Nat) (σ : g_S → Nat → Int32) (v : Int32) (zv : Int) (hv : v.toInt = zv) : m_Met l D cy L yX7_isIndex (.code yX7_isIndex cX7_isIndex 1 (some .boolean)) 1 σ [.int (v)] (some (.int (g_b (0 ≤ zv ∧ zv ≤ 4)))) σ := by
  refine g_Met.of (by decide) (Nat.le_of_ble_eq_true rfl) ?_
  intro pg e s m below meth c hx hb hr hlk hml hown hts hK hN H locs hG hS ls hl
  have hown : s.vm.findClass RX7 = some m.cls := hown
  have hl : lv_has ls 1 [(0, .int (v))] := hl
  refine lv_iload_n hx hb dX7_isIndex_0 rfl (lv_at hl 0 rfl) ?_
  refine lv_iconst (v := 0) hx hb dX7_isIndex_1 (by decide) ?_
  refine lv_iconst (v := 4) hx hb dX7_isIndex_2 (by decide) ?_
  refine g_cont (va_runS (As := [.int (v), .int 0, .int 4]) (rest := []) ⟨hx, hb, hml, hown, hts⟩ (c_X7_in l D cy L σ (v) (0) (4) zv 0 4 hv (by decide) (by decide)) (cwS 3 hts gS_X7_87 rfl rfl rfl (by decide +kernel) ⟨Nat.le_of_ble_eq_true rfl, Nat.le_of_ble_eq_true rfl⟩) (g_preS hK hN hG) rfl rfl hl.1 rfl (lv_room (Nat.le_of_ble_eq_true rfl)) dX7_isIndex_3 ⟨Nat.zero_le _, Nat.zero_le _⟩) hS (fun H locs hG hS => ?_)
  refine W.eq (g2 := F0 m 6 ls [.int (g_b (0 ≤ zv ∧ zv ≤ 4))]) rfl ?_
  exact s_zret hx hb hr hlk hG hS dX7_isIndex_6 g_b_nar rfl rfl
set_option maxHeartbeats 4000000 in
set_option maxRecDepth 100000 in
theorem c_X7_isValue (l : Launch) (D : va_G) (cy : Nat → ClassId) (L : g_S → Nat) (σ : g_S → Nat → Int32) (v : Int32) (zv : Int) (hv : v.toInt = zv) : m_Met l D cy L yX7_isValue (.code yX7_isValue cX7_isValue 1 (some .boolean)) 1 σ [.int (v)] (some (.int (g_b (0 ≤ zv ∧ zv ≤ 999)))) σ := by
  refine g_Met.of (by decide) (Nat.le_of_ble_eq_true rfl) ?_
  intro pg e s m below meth c hx hb hr hlk hml hown hts hK hN H locs hG hS ls hl
  have hown : s.vm.findClass RX7 = some m.cls := hown
  have hl : lv_has ls 1 [(0, .int (v))] := hl
  refine lv_iload_n hx hb dX7_isValue_0 rfl (lv_at hl 0 rfl) ?_
  refine lv_iconst (v := 0) hx hb dX7_isValue_1 (by decide) ?_
  refine lv_sipush (v := 999) hx hb dX7_isValue_2 (by decide) ?_
  refine g_cont (va_runS (As := [.int (v), .int 0, .int 999]) (rest := []) ⟨hx, hb, hml, hown, hts⟩ (c_X7_in l D cy L σ (v) (0) (999) zv 0 999 hv (by decide) (by decide)) (cwS 3 hts gS_X7_87 rfl rfl rfl (by decide +kernel) ⟨Nat.le_of_ble_eq_true rfl, Nat.le_of_ble_eq_true rfl⟩) (g_preS hK hN hG) rfl rfl hl.1 rfl (lv_room (Nat.le_of_ble_eq_true rfl)) dX7_isValue_5 ⟨Nat.zero_le _, Nat.zero_le _⟩) hS (fun H locs hG hS => ?_)
  refine W.eq (g2 := F0 m 8 ls [.int (g_b (0 ≤ zv ∧ zv ≤ 999))]) rfl ?_
  exact s_zret hx hb hr hlk hG hS dX7_isValue_8 g_b_nar rfl rfl
set_option maxHeartbeats 4000000 in
set_option maxRecDepth 100000 in
theorem c_X7_record (l : Launch) (D : va_G) (cy : Nat → ClassId) (L : g_S → Nat) (σ : g_S → Nat → Int32) (τ : g_S → Nat → Int32) (hτ : g_up σ (0, 0, 0) 0 0 = τ) (z : Int32) (n0 : 0 ≤ (τ (0, 0, 0) 1).toInt) (n1 : (τ (0, 0, 0) 1).toInt ≤ 100) : m_Met l D cy L yX7_record (.code yX7_record cX7_record 3 (some .int)) 1 σ [.ref (L (0, 0, 0)), .int (z)] (some (.int (m_addR τ z))) (m_addM τ z) := by
  refine g_Met.of (by decide) (Nat.le_of_ble_eq_true rfl) ?_
  intro pg e s m below meth c hx hb hr hlk hml hown hts hK hN H locs hG hS ls hl
  have hown : s.vm.findClass RX7 = some m.cls := hown
  have hl : lv_has ls 3 [(0, .ref (L (0, 0, 0))), (1, .int (z))] := hl
  refine lv_aload_n hx hb dX7_record_0 rfl (lv_at hl 0 rfl) ?_
  refine lv_iconst (v := 0) hx hb dX7_record_1 (by decide) ?_
  refine g_puti (C := RX7) (T := TX7) (N := 28) (v := 0) (ty := .int) hx hb hts inX7g tyX7_ok nmX7 hown hK hG hS (0, 0, 0) ⟨rfl, rfl⟩ (m_at_0 cy L 0 0 (σ (0, 0, 0))) rfl 0 (by decide) (m_up_0_0 cy L 0 0 (σ (0, 0, 0)) (0)) fl_X7_83 rfl (by decide +kernel) rfl rfl (Nat.le_of_ble_eq_true rfl) dX7_record_2 (fun H locs hG hS => ?_)
  rw [hτ] at hG
  refine lv_iload_n hx hb dX7_record_5 rfl (lv_at hl 1 rfl) ?_
  refine lv_iconst (v := 1) hx hb dX7_record_6 (by decide) ?_
  refine lv_sipush (v := 200) hx hb dX7_record_7 (by decide) ?_
  refine g_cont (va_runS (As := [.int (z), .int 1, .int 200]) (rest := []) ⟨hx, hb, hml, hown, hts⟩ (c_X7_in l D cy L τ (z) (1) (200) (z).toInt 1 200 rfl (by decide) (by decide)) (cwS 3 hts gS_X7_87 rfl rfl rfl (by decide +kernel) ⟨Nat.le_of_ble_eq_true rfl, Nat.le_of_ble_eq_true rfl⟩) (g_preS hK hN hG) rfl rfl hl.1 rfl (lv_room (Nat.le_of_ble_eq_true rfl)) dX7_record_10 ⟨Nat.zero_le _, Nat.zero_le _⟩) hS (fun H locs hG hS => ?_)
  refine W.eq (g2 := F0 m 13 ls [.int (g_b (1 ≤ (z).toInt ∧ (z).toInt ≤ 200))]) rfl ?_
  refine kz_b_eq (tgt := 25) hx hb dX7_record_13 (by decide) (fun c_13_1 => ?_) (fun c_13_1 => ?_)
  · refine lv_iconst (v := (-1)) hx hb dX7_record_25 (by decide) ?_
    exact s_iret hx hb hr hlk hG hS dX7_record_26 (by unfold m_addR; (repeat' split) <;> first | rfl | (exfalso; omega)) (by unfold m_addM; (repeat' split) <;> first | rfl | (exfalso; omega))
  · refine lv_aload_n hx hb dX7_record_16 rfl (lv_at hl 0 rfl) ?_
    refine g_get (C := RX7) (T := TX7) (N := 28) (v := .int (τ (0, 0, 0) 1)) hx hb hts inX7g hown hK hG (0, 0, 0) ⟨rfl, rfl⟩ (m_at_0 cy L 0 0 (τ (0, 0, 0))) rfl 1 (by decide) fl_X7_91 rfl dX7_record_17 ?_
    refine lv_bipush (v := 100) hx hb dX7_record_20 (by decide) ?_
    refine kz_icmp_ne (X := (τ (0, 0, 0) 1).toInt) (Y := 100) hx hb rfl (by decide) dX7_record_22 (tgt := 27) (by decide) (fun c_22_2 => ?_) (fun c_22_2 => ?_)
    · refine lv_aload_n hx hb dX7_record_27 rfl (lv_at hl 0 rfl) ?_
      refine g_get (C := RX7) (T := TX7) (N := 28) (v := .ref (L (1, 2, 0))) hx hb hts inX7g hown hK hG (0, 0, 0) ⟨rfl, rfl⟩ (m_at_0 cy L 0 0 (τ (0, 0, 0))) rfl 2 (by decide) fl_X7_7 rfl dX7_record_28 ?_
      refine lv_aload_n hx hb dX7_record_31 rfl (lv_at hl 0 rfl) ?_
      refine g_get (C := RX7) (T := TX7) (N := 28) (v := .int (τ (0, 0, 0) 1)) hx hb hts inX7g hown hK hG (0, 0, 0) ⟨rfl, rfl⟩ (m_at_0 cy L 0 0 (τ (0, 0, 0))) rfl 1 (by decide) fl_X7_91 rfl dX7_record_32 ?_
      refine lv_iload_n hx hb dX7_record_35 rfl (lv_at hl 1 rfl) ?_
      refine g_iast (n := 100) hx hb hK hG hS (1, 2, 0) ⟨by decide, rfl⟩ 0 (fun _ => rfl) rfl (g_vp (by omega) (by omega)) dX7_record_36 (fun H locs hG hS => ?_)
      rw [show (τ (0, 0, 0) 1 : Int32).toNatClampNeg = ((τ (0, 0, 0) 1).toInt).toNat from congrArg Int.toNat (show (τ (0, 0, 0) 1 : Int32).toInt = (τ (0, 0, 0) 1).toInt from rfl)] at hG
      refine lv_iconst (v := 0) hx hb dX7_record_37 (by decide) ?_
      refine lv_istore_n (lv' := [(2, .int 0), (0, .ref (L (0, 0, 0))), (1, .int (z))]) hx hb dX7_record_38 rfl hl (by decide) rfl (fun ls hl => ?_)
      refine lv_iload_n hx hb dX7_record_39 rfl (lv_at hl 0 rfl) ?_
      refine lv_iconst (v := 5) hx hb dX7_record_40 (by decide) ?_
      refine kz_icmp_ge (X := 0) (Y := 5) hx hb (by decide) (by decide) dX7_record_41 (tgt := 64) (by decide) (fun c_41_3 => ?_) (fun c_41_3 => ?_)
      · exact absurd c_41_3 (by decide)
      · refine lv_aload_n hx hb dX7_record_44 rfl (lv_at hl 1 rfl) ?_
        refine g_get (C := RX7) (T := TX7) (N := 28) (v := .ref (L (1, 3, 0))) hx hb hts inX7g hown hK hG (0, 0, 0) ⟨rfl, rfl⟩ (m_at_0 cy L 0 0 ((g_up τ (1, 2, 0) (((τ (0, 0, 0) 1).toInt).toNat) (z)) (0, 0, 0))) rfl 3 (by decide) fl_X7_13 rfl dX7_record_45 ?_
        refine lv_iconst (v := 5) hx hb dX7_record_48 (by decide) ?_
        refine lv_aload_n hx hb dX7_record_49 rfl (lv_at hl 1 rfl) ?_
        refine g_get (C := RX7) (T := TX7) (N := 28) (v := .int (τ (0, 0, 0) 1)) hx hb hts inX7g hown hK hG (0, 0, 0) ⟨rfl, rfl⟩ (m_at_0 cy L 0 0 ((g_up τ (1, 2, 0) (((τ (0, 0, 0) 1).toInt).toNat) (z)) (0, 0, 0))) rfl 1 (by decide) fl_X7_91 rfl dX7_record_50 ?_
        refine lv_imul hx hb dX7_record_53 ?_
        have z_4 : ((5) * (τ (0, 0, 0) 1)).toInt = (5 * (τ (0, 0, 0) 1).toInt) := g_mulZ (by decide) rfl (by omega) (by omega)
        refine lv_iload_n hx hb dX7_record_54 rfl (lv_at hl 0 rfl) ?_
        refine lv_iadd hx hb dX7_record_55 ?_
        have z_5 : (((5) * (τ (0, 0, 0) 1)) + (0)).toInt = ((5 * (τ (0, 0, 0) 1).toInt) + 0) := g_addZ z_4 (by decide) (by omega) (by omega)
        refine lv_iconst (v := (-1)) hx hb dX7_record_56 (by decide) ?_
        refine g_iast (n := 500) hx hb hK hG hS (1, 3, 0) ⟨by decide, rfl⟩ 0 (fun _ => rfl) rfl (g_vp (by have := (show (((5) * (τ (0, 0, 0) 1)) + (0) : Int32).toInt = ((5 * (τ (0, 0, 0) 1).toInt) + 0) from z_5); omega) (by have := (show (((5) * (τ (0, 0, 0) 1)) + (0) : Int32).toInt = ((5 * (τ (0, 0, 0) 1).toInt) + 0) from z_5); omega)) dX7_record_57 (fun H locs hG hS => ?_)
        rw [show (((5) * (τ (0, 0, 0) 1)) + (0) : Int32).toNatClampNeg = (((5 * (τ (0, 0, 0) 1).toInt) + 0)).toNat from congrArg Int.toNat (show (((5) * (τ (0, 0, 0) 1)) + (0) : Int32).toInt = ((5 * (τ (0, 0, 0) 1).toInt) + 0) from z_5)] at hG
        refine lv_iinc (v := 1) (lv' := [(2, .int 1), (0, .ref (L (0, 0, 0))), (1, .int (z))]) hx hb dX7_record_58 hl (k := 0) rfl (by decide) (by decide) rfl (fun ls hl => ?_)
        refine lv_goto (tgt := 39) hx hb dX7_record_61 (by decide) ?_
        refine lv_iload_n hx hb dX7_record_39 rfl (lv_at hl 0 rfl) ?_
        refine lv_iconst (v := 5) hx hb dX7_record_40 (by decide) ?_
        refine kz_icmp_ge (X := 1) (Y := 5) hx hb (by decide) (by decide) dX7_record_41 (tgt := 64) (by decide) (fun c_41_6 => ?_) (fun c_41_6 => ?_)
        · exact absurd c_41_6 (by decide)
        · refine lv_aload_n hx hb dX7_record_44 rfl (lv_at hl 1 rfl) ?_
          refine g_get (C := RX7) (T := TX7) (N := 28) (v := .ref (L (1, 3, 0))) hx hb hts inX7g hown hK hG (0, 0, 0) ⟨rfl, rfl⟩ (m_at_0 cy L 0 0 ((g_up (g_up τ (1, 2, 0) (((τ (0, 0, 0) 1).toInt).toNat) (z)) (1, 3, 0) ((((5 * (τ (0, 0, 0) 1).toInt) + 0)).toNat) ((-1))) (0, 0, 0))) rfl 3 (by decide) fl_X7_13 rfl dX7_record_45 ?_
          refine lv_iconst (v := 5) hx hb dX7_record_48 (by decide) ?_
          refine lv_aload_n hx hb dX7_record_49 rfl (lv_at hl 1 rfl) ?_
          refine g_get (C := RX7) (T := TX7) (N := 28) (v := .int (τ (0, 0, 0) 1)) hx hb hts inX7g hown hK hG (0, 0, 0) ⟨rfl, rfl⟩ (m_at_0 cy L 0 0 ((g_up (g_up τ (1, 2, 0) (((τ (0, 0, 0) 1).toInt).toNat) (z)) (1, 3, 0) ((((5 * (τ (0, 0, 0) 1).toInt) + 0)).toNat) ((-1))) (0, 0, 0))) rfl 1 (by decide) fl_X7_91 rfl dX7_record_50 ?_
          refine lv_imul hx hb dX7_record_53 ?_
          have z_7 : ((5) * (τ (0, 0, 0) 1)).toInt = (5 * (τ (0, 0, 0) 1).toInt) := g_mulZ (by decide) rfl (by omega) (by omega)
          refine lv_iload_n hx hb dX7_record_54 rfl (lv_at hl 0 rfl) ?_
          refine lv_iadd hx hb dX7_record_55 ?_
          have z_8 : (((5) * (τ (0, 0, 0) 1)) + (1)).toInt = ((5 * (τ (0, 0, 0) 1).toInt) + 1) := g_addZ z_7 (by decide) (by omega) (by omega)
          refine lv_iconst (v := (-1)) hx hb dX7_record_56 (by decide) ?_
          refine g_iast (n := 500) hx hb hK hG hS (1, 3, 0) ⟨by decide, rfl⟩ 0 (fun _ => rfl) rfl (g_vp (by have := (show (((5) * (τ (0, 0, 0) 1)) + (1) : Int32).toInt = ((5 * (τ (0, 0, 0) 1).toInt) + 1) from z_8); omega) (by have := (show (((5) * (τ (0, 0, 0) 1)) + (1) : Int32).toInt = ((5 * (τ (0, 0, 0) 1).toInt) + 1) from z_8); omega)) dX7_record_57 (fun H locs hG hS => ?_)
          rw [show (((5) * (τ (0, 0, 0) 1)) + (1) : Int32).toNatClampNeg = (((5 * (τ (0, 0, 0) 1).toInt) + 1)).toNat from congrArg Int.toNat (show (((5) * (τ (0, 0, 0) 1)) + (1) : Int32).toInt = ((5 * (τ (0, 0, 0) 1).toInt) + 1) from z_8)] at hG
          refine lv_iinc (v := 2) (lv' := [(2, .int 2), (0, .ref (L (0, 0, 0))), (1, .int (z))]) hx hb dX7_record_58 hl (k := 0) rfl (by decide) (by decide) rfl (fun ls hl => ?_)
          refine lv_goto (tgt := 39) hx hb dX7_record_61 (by decide) ?_
          refine lv_iload_n hx hb dX7_record_39 rfl (lv_at hl 0 rfl) ?_
          refine lv_iconst (v := 5) hx hb dX7_record_40 (by decide) ?_
          refine kz_icmp_ge (X := 2) (Y := 5) hx hb (by decide) (by decide) dX7_record_41 (tgt := 64) (by decide) (fun c_41_9 => ?_) (fun c_41_9 => ?_)
          · exact absurd c_41_9 (by decide)
          · refine lv_aload_n hx hb dX7_record_44 rfl (lv_at hl 1 rfl) ?_
            refine g_get (C := RX7) (T := TX7) (N := 28) (v := .ref (L (1, 3, 0))) hx hb hts inX7g hown hK hG (0, 0, 0) ⟨rfl, rfl⟩ (m_at_0 cy L 0 0 ((g_up (g_up (g_up τ (1, 2, 0) (((τ (0, 0, 0) 1).toInt).toNat) (z)) (1, 3, 0) ((((5 * (τ (0, 0, 0) 1).toInt) + 0)).toNat) ((-1))) (1, 3, 0) ((((5 * (τ (0, 0, 0) 1).toInt) + 1)).toNat) ((-1))) (0, 0, 0))) rfl 3 (by decide) fl_X7_13 rfl dX7_record_45 ?_
            refine lv_iconst (v := 5) hx hb dX7_record_48 (by decide) ?_
            refine lv_aload_n hx hb dX7_record_49 rfl (lv_at hl 1 rfl) ?_
            refine g_get (C := RX7) (T := TX7) (N := 28) (v := .int (τ (0, 0, 0) 1)) hx hb hts inX7g hown hK hG (0, 0, 0) ⟨rfl, rfl⟩ (m_at_0 cy L 0 0 ((g_up (g_up (g_up τ (1, 2, 0) (((τ (0, 0, 0) 1).toInt).toNat) (z)) (1, 3, 0) ((((5 * (τ (0, 0, 0) 1).toInt) + 0)).toNat) ((-1))) (1, 3, 0) ((((5 * (τ (0, 0, 0) 1).toInt) + 1)).toNat) ((-1))) (0, 0, 0))) rfl 1 (by decide) fl_X7_91 rfl dX7_record_50 ?_
            refine lv_imul hx hb dX7_record_53 ?_
            have z_10 : ((5) * (τ (0, 0, 0) 1)).toInt = (5 * (τ (0, 0, 0) 1).toInt) := g_mulZ (by decide) rfl (by omega) (by omega)
            refine lv_iload_n hx hb dX7_record_54 rfl (lv_at hl 0 rfl) ?_
            refine lv_iadd hx hb dX7_record_55 ?_
            have z_11 : (((5) * (τ (0, 0, 0) 1)) + (2)).toInt = ((5 * (τ (0, 0, 0) 1).toInt) + 2) := g_addZ z_10 (by decide) (by omega) (by omega)
            refine lv_iconst (v := (-1)) hx hb dX7_record_56 (by decide) ?_
            refine g_iast (n := 500) hx hb hK hG hS (1, 3, 0) ⟨by decide, rfl⟩ 0 (fun _ => rfl) rfl (g_vp (by have := (show (((5) * (τ (0, 0, 0) 1)) + (2) : Int32).toInt = ((5 * (τ (0, 0, 0) 1).toInt) + 2) from z_11); omega) (by have := (show (((5) * (τ (0, 0, 0) 1)) + (2) : Int32).toInt = ((5 * (τ (0, 0, 0) 1).toInt) + 2) from z_11); omega)) dX7_record_57 (fun H locs hG hS => ?_)
            rw [show (((5) * (τ (0, 0, 0) 1)) + (2) : Int32).toNatClampNeg = (((5 * (τ (0, 0, 0) 1).toInt) + 2)).toNat from congrArg Int.toNat (show (((5) * (τ (0, 0, 0) 1)) + (2) : Int32).toInt = ((5 * (τ (0, 0, 0) 1).toInt) + 2) from z_11)] at hG
            refine lv_iinc (v := 3) (lv' := [(2, .int 3), (0, .ref (L (0, 0, 0))), (1, .int (z))]) hx hb dX7_record_58 hl (k := 0) rfl (by decide) (by decide) rfl (fun ls hl => ?_)
            refine lv_goto (tgt := 39) hx hb dX7_record_61 (by decide) ?_
            refine lv_iload_n hx hb dX7_record_39 rfl (lv_at hl 0 rfl) ?_
            refine lv_iconst (v := 5) hx hb dX7_record_40 (by decide) ?_
            refine kz_icmp_ge (X := 3) (Y := 5) hx hb (by decide) (by decide) dX7_record_41 (tgt := 64) (by decide) (fun c_41_12 => ?_) (fun c_41_12 => ?_)
            · exact absurd c_41_12 (by decide)
            · refine lv_aload_n hx hb dX7_record_44 rfl (lv_at hl 1 rfl) ?_
              refine g_get (C := RX7) (T := TX7) (N := 28) (v := .ref (L (1, 3, 0))) hx hb hts inX7g hown hK hG (0, 0, 0) ⟨rfl, rfl⟩ (m_at_0 cy L 0 0 ((g_up (g_up (g_up (g_up τ (1, 2, 0) (((τ (0, 0, 0) 1).toInt).toNat) (z)) (1, 3, 0) ((((5 * (τ (0, 0, 0) 1).toInt) + 0)).toNat) ((-1))) (1, 3, 0) ((((5 * (τ (0, 0, 0) 1).toInt) + 1)).toNat) ((-1))) (1, 3, 0) ((((5 * (τ (0, 0, 0) 1).toInt) + 2)).toNat) ((-1))) (0, 0, 0))) rfl 3 (by decide) fl_X7_13 rfl dX7_record_45 ?_
              refine lv_iconst (v := 5) hx hb dX7_record_48 (by decide) ?_
              refine lv_aload_n hx hb dX7_record_49 rfl (lv_at hl 1 rfl) ?_
              refine g_get (C := RX7) (T := TX7) (N := 28) (v := .int (τ (0, 0, 0) 1)) hx hb hts inX7g hown hK hG (0, 0, 0) ⟨rfl, rfl⟩ (m_at_0 cy L 0 0 ((g_up (g_up (g_up (g_up τ (1, 2, 0) (((τ (0, 0, 0) 1).toInt).toNat) (z)) (1, 3, 0) ((((5 * (τ (0, 0, 0) 1).toInt) + 0)).toNat) ((-1))) (1, 3, 0) ((((5 * (τ (0, 0, 0) 1).toInt) + 1)).toNat) ((-1))) (1, 3, 0) ((((5 * (τ (0, 0, 0) 1).toInt) + 2)).toNat) ((-1))) (0, 0, 0))) rfl 1 (by decide) fl_X7_91 rfl dX7_record_50 ?_
              refine lv_imul hx hb dX7_record_53 ?_
              have z_13 : ((5) * (τ (0, 0, 0) 1)).toInt = (5 * (τ (0, 0, 0) 1).toInt) := g_mulZ (by decide) rfl (by omega) (by omega)
              refine lv_iload_n hx hb dX7_record_54 rfl (lv_at hl 0 rfl) ?_
              refine lv_iadd hx hb dX7_record_55 ?_
              have z_14 : (((5) * (τ (0, 0, 0) 1)) + (3)).toInt = ((5 * (τ (0, 0, 0) 1).toInt) + 3) := g_addZ z_13 (by decide) (by omega) (by omega)
              refine lv_iconst (v := (-1)) hx hb dX7_record_56 (by decide) ?_
              refine g_iast (n := 500) hx hb hK hG hS (1, 3, 0) ⟨by decide, rfl⟩ 0 (fun _ => rfl) rfl (g_vp (by have := (show (((5) * (τ (0, 0, 0) 1)) + (3) : Int32).toInt = ((5 * (τ (0, 0, 0) 1).toInt) + 3) from z_14); omega) (by have := (show (((5) * (τ (0, 0, 0) 1)) + (3) : Int32).toInt = ((5 * (τ (0, 0, 0) 1).toInt) + 3) from z_14); omega)) dX7_record_57 (fun H locs hG hS => ?_)
              rw [show (((5) * (τ (0, 0, 0) 1)) + (3) : Int32).toNatClampNeg = (((5 * (τ (0, 0, 0) 1).toInt) + 3)).toNat from congrArg Int.toNat (show (((5) * (τ (0, 0, 0) 1)) + (3) : Int32).toInt = ((5 * (τ (0, 0, 0) 1).toInt) + 3) from z_14)] at hG
              refine lv_iinc (v := 4) (lv' := [(2, .int 4), (0, .ref (L (0, 0, 0))), (1, .int (z))]) hx hb dX7_record_58 hl (k := 0) rfl (by decide) (by decide) rfl (fun ls hl => ?_)
              refine lv_goto (tgt := 39) hx hb dX7_record_61 (by decide) ?_
              refine lv_iload_n hx hb dX7_record_39 rfl (lv_at hl 0 rfl) ?_
              refine lv_iconst (v := 5) hx hb dX7_record_40 (by decide) ?_
              refine kz_icmp_ge (X := 4) (Y := 5) hx hb (by decide) (by decide) dX7_record_41 (tgt := 64) (by decide) (fun c_41_15 => ?_) (fun c_41_15 => ?_)
              · exact absurd c_41_15 (by decide)
              · refine lv_aload_n hx hb dX7_record_44 rfl (lv_at hl 1 rfl) ?_
                refine g_get (C := RX7) (T := TX7) (N := 28) (v := .ref (L (1, 3, 0))) hx hb hts inX7g hown hK hG (0, 0, 0) ⟨rfl, rfl⟩ (m_at_0 cy L 0 0 ((g_up (g_up (g_up (g_up (g_up τ (1, 2, 0) (((τ (0, 0, 0) 1).toInt).toNat) (z)) (1, 3, 0) ((((5 * (τ (0, 0, 0) 1).toInt) + 0)).toNat) ((-1))) (1, 3, 0) ((((5 * (τ (0, 0, 0) 1).toInt) + 1)).toNat) ((-1))) (1, 3, 0) ((((5 * (τ (0, 0, 0) 1).toInt) + 2)).toNat) ((-1))) (1, 3, 0) ((((5 * (τ (0, 0, 0) 1).toInt) + 3)).toNat) ((-1))) (0, 0, 0))) rfl 3 (by decide) fl_X7_13 rfl dX7_record_45 ?_
                refine lv_iconst (v := 5) hx hb dX7_record_48 (by decide) ?_
                refine lv_aload_n hx hb dX7_record_49 rfl (lv_at hl 1 rfl) ?_
                refine g_get (C := RX7) (T := TX7) (N := 28) (v := .int (τ (0, 0, 0) 1)) hx hb hts inX7g hown hK hG (0, 0, 0) ⟨rfl, rfl⟩ (m_at_0 cy L 0 0 ((g_up (g_up (g_up (g_up (g_up τ (1, 2, 0) (((τ (0, 0, 0) 1).toInt).toNat) (z)) (1, 3, 0) ((((5 * (τ (0, 0, 0) 1).toInt) + 0)).toNat) ((-1))) (1, 3, 0) ((((5 * (τ (0, 0, 0) 1).toInt) + 1)).toNat) ((-1))) (1, 3, 0) ((((5 * (τ (0, 0, 0) 1).toInt) + 2)).toNat) ((-1))) (1, 3, 0) ((((5 * (τ (0, 0, 0) 1).toInt) + 3)).toNat) ((-1))) (0, 0, 0))) rfl 1 (by decide) fl_X7_91 rfl dX7_record_50 ?_
                refine lv_imul hx hb dX7_record_53 ?_
                have z_16 : ((5) * (τ (0, 0, 0) 1)).toInt = (5 * (τ (0, 0, 0) 1).toInt) := g_mulZ (by decide) rfl (by omega) (by omega)
                refine lv_iload_n hx hb dX7_record_54 rfl (lv_at hl 0 rfl) ?_
                refine lv_iadd hx hb dX7_record_55 ?_
                have z_17 : (((5) * (τ (0, 0, 0) 1)) + (4)).toInt = ((5 * (τ (0, 0, 0) 1).toInt) + 4) := g_addZ z_16 (by decide) (by omega) (by omega)
                refine lv_iconst (v := (-1)) hx hb dX7_record_56 (by decide) ?_
                refine g_iast (n := 500) hx hb hK hG hS (1, 3, 0) ⟨by decide, rfl⟩ 0 (fun _ => rfl) rfl (g_vp (by have := (show (((5) * (τ (0, 0, 0) 1)) + (4) : Int32).toInt = ((5 * (τ (0, 0, 0) 1).toInt) + 4) from z_17); omega) (by have := (show (((5) * (τ (0, 0, 0) 1)) + (4) : Int32).toInt = ((5 * (τ (0, 0, 0) 1).toInt) + 4) from z_17); omega)) dX7_record_57 (fun H locs hG hS => ?_)
                rw [show (((5) * (τ (0, 0, 0) 1)) + (4) : Int32).toNatClampNeg = (((5 * (τ (0, 0, 0) 1).toInt) + 4)).toNat from congrArg Int.toNat (show (((5) * (τ (0, 0, 0) 1)) + (4) : Int32).toInt = ((5 * (τ (0, 0, 0) 1).toInt) + 4) from z_17)] at hG
                refine lv_iinc (v := 5) (lv' := [(2, .int 5), (0, .ref (L (0, 0, 0))), (1, .int (z))]) hx hb dX7_record_58 hl (k := 0) rfl (by decide) (by decide) rfl (fun ls hl => ?_)
                refine lv_goto (tgt := 39) hx hb dX7_record_61 (by decide) ?_
                refine lv_iload_n hx hb dX7_record_39 rfl (lv_at hl 0 rfl) ?_
                refine lv_iconst (v := 5) hx hb dX7_record_40 (by decide) ?_
                refine kz_icmp_ge (X := 5) (Y := 5) hx hb (by decide) (by decide) dX7_record_41 (tgt := 64) (by decide) (fun c_41_18 => ?_) (fun c_41_18 => ?_)
                · refine lv_aload_n hx hb dX7_record_64 rfl (lv_at hl 1 rfl) ?_
                  refine lv_dup hx hb dX7_record_65 rfl ?_
                  refine g_get (C := RX7) (T := TX7) (N := 28) (v := .int (τ (0, 0, 0) 1)) hx hb hts inX7g hown hK hG (0, 0, 0) ⟨rfl, rfl⟩ (m_at_0 cy L 0 0 ((g_up (g_up (g_up (g_up (g_up (g_up τ (1, 2, 0) (((τ (0, 0, 0) 1).toInt).toNat) (z)) (1, 3, 0) ((((5 * (τ (0, 0, 0) 1).toInt) + 0)).toNat) ((-1))) (1, 3, 0) ((((5 * (τ (0, 0, 0) 1).toInt) + 1)).toNat) ((-1))) (1, 3, 0) ((((5 * (τ (0, 0, 0) 1).toInt) + 2)).toNat) ((-1))) (1, 3, 0) ((((5 * (τ (0, 0, 0) 1).toInt) + 3)).toNat) ((-1))) (1, 3, 0) ((((5 * (τ (0, 0, 0) 1).toInt) + 4)).toNat) ((-1))) (0, 0, 0))) rfl 1 (by decide) fl_X7_91 rfl dX7_record_66 ?_
                  refine lv_iconst (v := 1) hx hb dX7_record_69 (by decide) ?_
                  refine lv_iadd hx hb dX7_record_70 ?_
                  have z_19 : ((τ (0, 0, 0) 1) + (1)).toInt = ((τ (0, 0, 0) 1).toInt + 1) := g_addZ rfl (by decide) (by omega) (by omega)
                  refine g_puti (C := RX7) (T := TX7) (N := 28) (v := (τ (0, 0, 0) 1) + (1)) (ty := .int) hx hb hts inX7g tyX7_ok nmX7 hown hK hG hS (0, 0, 0) ⟨rfl, rfl⟩ (m_at_0 cy L 0 0 ((g_up (g_up (g_up (g_up (g_up (g_up τ (1, 2, 0) (((τ (0, 0, 0) 1).toInt).toNat) (z)) (1, 3, 0) ((((5 * (τ (0, 0, 0) 1).toInt) + 0)).toNat) ((-1))) (1, 3, 0) ((((5 * (τ (0, 0, 0) 1).toInt) + 1)).toNat) ((-1))) (1, 3, 0) ((((5 * (τ (0, 0, 0) 1).toInt) + 2)).toNat) ((-1))) (1, 3, 0) ((((5 * (τ (0, 0, 0) 1).toInt) + 3)).toNat) ((-1))) (1, 3, 0) ((((5 * (τ (0, 0, 0) 1).toInt) + 4)).toNat) ((-1))) (0, 0, 0))) rfl 1 (by decide) (m_up_0_1 cy L 0 0 ((g_up (g_up (g_up (g_up (g_up (g_up τ (1, 2, 0) (((τ (0, 0, 0) 1).toInt).toNat) (z)) (1, 3, 0) ((((5 * (τ (0, 0, 0) 1).toInt) + 0)).toNat) ((-1))) (1, 3, 0) ((((5 * (τ (0, 0, 0) 1).toInt) + 1)).toNat) ((-1))) (1, 3, 0) ((((5 * (τ (0, 0, 0) 1).toInt) + 2)).toNat) ((-1))) (1, 3, 0) ((((5 * (τ (0, 0, 0) 1).toInt) + 3)).toNat) ((-1))) (1, 3, 0) ((((5 * (τ (0, 0, 0) 1).toInt) + 4)).toNat) ((-1))) (0, 0, 0)) ((τ (0, 0, 0) 1) + (1))) fl_X7_91 rfl (by decide +kernel) rfl rfl (Nat.le_of_ble_eq_true rfl) dX7_record_71 (fun H locs hG hS => ?_)
                  refine lv_aload_n hx hb dX7_record_74 rfl (lv_at hl 1 rfl) ?_
                  refine g_get (C := RX7) (T := TX7) (N := 28) (v := .int ((τ (0, 0, 0) 1) + (1))) hx hb hts inX7g hown hK hG (0, 0, 0) ⟨rfl, rfl⟩ (m_at_0 cy L 0 0 ((g_up (g_up (g_up (g_up (g_up (g_up (g_up τ (1, 2, 0) (((τ (0, 0, 0) 1).toInt).toNat) (z)) (1, 3, 0) ((((5 * (τ (0, 0, 0) 1).toInt) + 0)).toNat) ((-1))) (1, 3, 0) ((((5 * (τ (0, 0, 0) 1).toInt) + 1)).toNat) ((-1))) (1, 3, 0) ((((5 * (τ (0, 0, 0) 1).toInt) + 2)).toNat) ((-1))) (1, 3, 0) ((((5 * (τ (0, 0, 0) 1).toInt) + 3)).toNat) ((-1))) (1, 3, 0) ((((5 * (τ (0, 0, 0) 1).toInt) + 4)).toNat) ((-1))) (0, 0, 0) (1) ((τ (0, 0, 0) 1) + (1))) (0, 0, 0))) rfl 1 (by decide) fl_X7_91 rfl dX7_record_75 ?_
                  refine lv_iconst (v := 1) hx hb dX7_record_78 (by decide) ?_
                  refine lv_isub hx hb dX7_record_79 ?_
                  have z_20 : (((τ (0, 0, 0) 1) + (1)) - (1)).toInt = (((τ (0, 0, 0) 1).toInt + 1) - 1) := g_subZ z_19 (by decide) (by omega) (by omega)
                  exact s_iret hx hb hr hlk hG hS dX7_record_80 (by unfold m_addR; (repeat' split) <;> first | rfl | (exfalso; omega)) (by unfold m_addM; (repeat' split) <;> first | rfl | (exfalso; omega))
                · exact absurd c_41_18 (by decide)
    · refine lv_iconst (v := (-1)) hx hb dX7_record_25 (by decide) ?_
      exact s_iret hx hb hr hlk hG hS dX7_record_26 (by unfold m_addR; (repeat' split) <;> first | rfl | (exfalso; omega)) (by unfold m_addM; (repeat' split) <;> first | rfl | (exfalso; omega))
set_option maxHeartbeats 4000000 in
set_option maxRecDepth 100000 in
theorem c_X7_term (l : Launch) (D : va_G) (cy : Nat → ClassId) (L : g_S → Nat) (σ : g_S → Nat → Int32) (τ : g_S → Nat → Int32) (hτ : g_up σ (0, 0, 0) 0 0 = τ) (p x v : Int32) (n0 : 0 ≤ (τ (0, 0, 0) 1).toInt) (n1 : (τ (0, 0, 0) 1).toInt ≤ 100) : m_Met l D cy L yX7_term (.code yX7_term cX7_term 4 (some .int)) 2 σ [.ref (L (0, 0, 0)), .int (p), .int (x), .int (v)] (some (.int (m_putR τ p x v))) (m_putM τ p x v) := by
  refine g_Met.of (by decide) (Nat.le_of_ble_eq_true rfl) ?_
  intro pg e s m below meth c hx hb hr hlk hml hown hts hK hN H locs hG hS ls hl
  have hown : s.vm.findClass RX7 = some m.cls := hown
  have hl : lv_has ls 4 [(0, .ref (L (0, 0, 0))), (1, .int (p)), (2, .int (x)), (3, .int (v))] := hl
  refine lv_aload_n hx hb dX7_term_0 rfl (lv_at hl 0 rfl) ?_
  refine lv_iconst (v := 0) hx hb dX7_term_1 (by decide) ?_
  refine g_puti (C := RX7) (T := TX7) (N := 28) (v := 0) (ty := .int) hx hb hts inX7g tyX7_ok nmX7 hown hK hG hS (0, 0, 0) ⟨rfl, rfl⟩ (m_at_0 cy L 0 0 (σ (0, 0, 0))) rfl 0 (by decide) (m_up_0_0 cy L 0 0 (σ (0, 0, 0)) (0)) fl_X7_83 rfl (by decide +kernel) rfl rfl (Nat.le_of_ble_eq_true rfl) dX7_term_2 (fun H locs hG hS => ?_)
  rw [hτ] at hG
  refine lv_iload_n hx hb dX7_term_5 rfl (lv_at hl 1 rfl) ?_
  refine lv_iconst (v := 0) hx hb dX7_term_6 (by decide) ?_
  refine lv_aload_n hx hb dX7_term_7 rfl (lv_at hl 0 rfl) ?_
  refine g_get (C := RX7) (T := TX7) (N := 28) (v := .int (τ (0, 0, 0) 1)) hx hb hts inX7g hown hK hG (0, 0, 0) ⟨rfl, rfl⟩ (m_at_0 cy L 0 0 (τ (0, 0, 0))) rfl 1 (by decide) fl_X7_91 rfl dX7_term_8 ?_
  refine lv_iconst (v := 1) hx hb dX7_term_11 (by decide) ?_
  refine lv_isub hx hb dX7_term_12 ?_
  have z_1 : ((τ (0, 0, 0) 1) - (1)).toInt = ((τ (0, 0, 0) 1).toInt - 1) := g_subZ rfl (by decide) (by omega) (by omega)
  refine g_cont (va_runS (As := [.int (p), .int 0, .int ((τ (0, 0, 0) 1) - (1))]) (rest := []) ⟨hx, hb, hml, hown, hts⟩ (c_X7_in l D cy L τ (p) (0) ((τ (0, 0, 0) 1) - (1)) (p).toInt 0 ((τ (0, 0, 0) 1).toInt - 1) rfl (by decide) z_1) (cwS 3 hts gS_X7_87 rfl rfl rfl (by decide +kernel) ⟨Nat.le_of_ble_eq_true rfl, Nat.le_of_ble_eq_true rfl⟩) (g_preS hK hN hG) rfl rfl hl.1 rfl (lv_room (Nat.le_of_ble_eq_true rfl)) dX7_term_13 ⟨Nat.zero_le _, Nat.zero_le _⟩) hS (fun H locs hG hS => ?_)
  refine W.eq (g2 := F0 m 16 ls [.int (g_b (0 ≤ (p).toInt ∧ (p).toInt ≤ ((τ (0, 0, 0) 1).toInt - 1)))]) rfl ?_
  refine kz_b_eq (tgt := 37) hx hb dX7_term_16 (by decide) (fun c_16_2 => ?_) (fun c_16_2 => ?_)
  · refine lv_iconst (v := (-1)) hx hb dX7_term_37 (by decide) ?_
    exact s_iret hx hb hr hlk hG hS dX7_term_38 (by unfold m_putR; (repeat' split) <;> first | rfl | (exfalso; omega)) (by unfold m_putM; (repeat' split) <;> first | rfl | (exfalso; omega))
  · refine lv_iload_n hx hb dX7_term_19 rfl (lv_at hl 2 rfl) ?_
    refine g_cont (va_runS (As := [.int (x)]) (rest := []) ⟨hx, hb, hml, hown, hts⟩ (c_X7_isIndex l D cy L τ (x) (x).toInt rfl) (cwS 1 hts gS_X7_94 rfl rfl rfl (by decide +kernel) ⟨Nat.le_of_ble_eq_true rfl, Nat.le_of_ble_eq_true rfl⟩) (g_preS hK hN hG) rfl rfl hl.1 rfl (lv_room (Nat.le_of_ble_eq_true rfl)) dX7_term_20 ⟨Nat.zero_le _, Nat.zero_le _⟩) hS (fun H locs hG hS => ?_)
    refine W.eq (g2 := F0 m 23 ls [.int (g_b (0 ≤ (x).toInt ∧ (x).toInt ≤ 4))]) rfl ?_
    refine kz_b_eq (tgt := 37) hx hb dX7_term_23 (by decide) (fun c_23_3 => ?_) (fun c_23_3 => ?_)
    · refine lv_iconst (v := (-1)) hx hb dX7_term_37 (by decide) ?_
      exact s_iret hx hb hr hlk hG hS dX7_term_38 (by unfold m_putR; (repeat' split) <;> first | rfl | (exfalso; omega)) (by unfold m_putM; (repeat' split) <;> first | rfl | (exfalso; omega))
    · refine lv_iload_n hx hb dX7_term_26 rfl (lv_at hl 3 rfl) ?_
      refine lv_iconst (v := (-1)) hx hb dX7_term_27 (by decide) ?_
      refine lv_sipush (v := 999) hx hb dX7_term_28 (by decide) ?_
      refine g_cont (va_runS (As := [.int (v), .int (-1), .int 999]) (rest := []) ⟨hx, hb, hml, hown, hts⟩ (c_X7_in l D cy L τ (v) ((-1)) (999) (v).toInt (-1) 999 rfl (by decide) (by decide)) (cwS 3 hts gS_X7_87 rfl rfl rfl (by decide +kernel) ⟨Nat.le_of_ble_eq_true rfl, Nat.le_of_ble_eq_true rfl⟩) (g_preS hK hN hG) rfl rfl hl.1 rfl (lv_room (Nat.le_of_ble_eq_true rfl)) dX7_term_31 ⟨Nat.zero_le _, Nat.zero_le _⟩) hS (fun H locs hG hS => ?_)
      refine W.eq (g2 := F0 m 34 ls [.int (g_b ((-1) ≤ (v).toInt ∧ (v).toInt ≤ 999))]) rfl ?_
      refine kz_b_ne (tgt := 39) hx hb dX7_term_34 (by decide) (fun c_34_4 => ?_) (fun c_34_4 => ?_)
      · refine lv_aload_n hx hb dX7_term_39 rfl (lv_at hl 0 rfl) ?_
        refine g_get (C := RX7) (T := TX7) (N := 28) (v := .ref (L (1, 3, 0))) hx hb hts inX7g hown hK hG (0, 0, 0) ⟨rfl, rfl⟩ (m_at_0 cy L 0 0 (τ (0, 0, 0))) rfl 3 (by decide) fl_X7_13 rfl dX7_term_40 ?_
        refine lv_iconst (v := 5) hx hb dX7_term_43 (by decide) ?_
        refine lv_iload_n hx hb dX7_term_44 rfl (lv_at hl 1 rfl) ?_
        refine lv_imul hx hb dX7_term_45 ?_
        have z_5 : ((5) * (p)).toInt = (5 * (p).toInt) := g_mulZ (by decide) rfl (by omega) (by omega)
        refine lv_iload_n hx hb dX7_term_46 rfl (lv_at hl 2 rfl) ?_
        refine lv_iadd hx hb dX7_term_47 ?_
        have z_6 : (((5) * (p)) + (x)).toInt = ((5 * (p).toInt) + (x).toInt) := g_addZ z_5 rfl (by omega) (by omega)
        refine lv_iload_n hx hb dX7_term_48 rfl (lv_at hl 3 rfl) ?_
        refine g_iast (n := 500) hx hb hK hG hS (1, 3, 0) ⟨by decide, rfl⟩ 0 (fun _ => rfl) rfl (g_vp (by have := (show (((5) * (p)) + (x) : Int32).toInt = ((5 * (p).toInt) + (x).toInt) from z_6); omega) (by have := (show (((5) * (p)) + (x) : Int32).toInt = ((5 * (p).toInt) + (x).toInt) from z_6); omega)) dX7_term_49 (fun H locs hG hS => ?_)
        rw [show (((5) * (p)) + (x) : Int32).toNatClampNeg = (((5 * (p).toInt) + (x).toInt)).toNat from congrArg Int.toNat (show (((5) * (p)) + (x) : Int32).toInt = ((5 * (p).toInt) + (x).toInt) from z_6)] at hG
        refine lv_iconst (v := 1) hx hb dX7_term_50 (by decide) ?_
        exact s_iret hx hb hr hlk hG hS dX7_term_51 (by unfold m_putR; (repeat' split) <;> first | rfl | (exfalso; omega)) (by unfold m_putM; (repeat' split) <;> first | rfl | (exfalso; omega))
      · refine lv_iconst (v := (-1)) hx hb dX7_term_37 (by decide) ?_
        exact s_iret hx hb hr hlk hG hS dX7_term_38 (by unfold m_putR; (repeat' split) <;> first | rfl | (exfalso; omega)) (by unfold m_putM; (repeat' split) <;> first | rfl | (exfalso; omega))
set_option maxHeartbeats 4000000 in
set_option maxRecDepth 100000 in
theorem c_X7_isQuestion (l : Launch) (D : va_G) (cy : Nat → ClassId) (L : g_S → Nat) (σ : g_S → Nat → Int32) (q : Int32) (q0 : 0 ≤ (σ (0, 0, 0) 4).toInt) (q1 : (σ (0, 0, 0) 4).toInt ≤ 40) : m_Met l D cy L yX7_isQuestion (.code yX7_isQuestion cX7_isQuestion 2 (some .boolean)) 1 σ [.ref (L (0, 0, 0)), .int (q)] (some (.int (g_b (0 ≤ q.toInt ∧ q.toInt ≤ ((σ (0, 0, 0) 4).toInt - 1))))) σ := by
  refine g_Met.of (by decide) (Nat.le_of_ble_eq_true rfl) ?_
  intro pg e s m below meth c hx hb hr hlk hml hown hts hK hN H locs hG hS ls hl
  have hown : s.vm.findClass RX7 = some m.cls := hown
  have hl : lv_has ls 2 [(0, .ref (L (0, 0, 0))), (1, .int (q))] := hl
  refine lv_iload_n hx hb dX7_isQuestion_0 rfl (lv_at hl 1 rfl) ?_
  refine lv_iconst (v := 0) hx hb dX7_isQuestion_1 (by decide) ?_
  refine lv_aload_n hx hb dX7_isQuestion_2 rfl (lv_at hl 0 rfl) ?_
  refine g_get (C := RX7) (T := TX7) (N := 28) (v := .int (σ (0, 0, 0) 4)) hx hb hts inX7g hown hK hG (0, 0, 0) ⟨rfl, rfl⟩ (m_at_0 cy L 0 0 (σ (0, 0, 0))) rfl 4 (by decide) fl_X7_98 rfl dX7_isQuestion_3 ?_
  refine lv_iconst (v := 1) hx hb dX7_isQuestion_6 (by decide) ?_
  refine lv_isub hx hb dX7_isQuestion_7 ?_
  have z_1 : ((σ (0, 0, 0) 4) - (1)).toInt = ((σ (0, 0, 0) 4).toInt - 1) := g_subZ rfl (by decide) (by omega) (by omega)
  refine g_cont (va_runS (As := [.int (q), .int 0, .int ((σ (0, 0, 0) 4) - (1))]) (rest := []) ⟨hx, hb, hml, hown, hts⟩ (c_X7_in l D cy L σ (q) (0) ((σ (0, 0, 0) 4) - (1)) (q).toInt 0 ((σ (0, 0, 0) 4).toInt - 1) rfl (by decide) z_1) (cwS 3 hts gS_X7_87 rfl rfl rfl (by decide +kernel) ⟨Nat.le_of_ble_eq_true rfl, Nat.le_of_ble_eq_true rfl⟩) (g_preS hK hN hG) rfl rfl hl.1 rfl (lv_room (Nat.le_of_ble_eq_true rfl)) dX7_isQuestion_8 ⟨Nat.zero_le _, Nat.zero_le _⟩) hS (fun H locs hG hS => ?_)
  refine W.eq (g2 := F0 m 11 ls [.int (g_b (0 ≤ (q).toInt ∧ (q).toInt ≤ ((σ (0, 0, 0) 4).toInt - 1)))]) rfl ?_
  exact s_zret hx hb hr hlk hG hS dX7_isQuestion_11 g_b_nar rfl rfl
set_option maxHeartbeats 4000000 in
set_option maxRecDepth 100000 in
theorem c_X7_question (l : Launch) (D : va_G) (cy : Nat → ClassId) (L : g_S → Nat) (σ : g_S → Nat → Int32) (τ : g_S → Nat → Int32) (hτ : g_up σ (0, 0, 0) 0 0 = τ) (k a b d : Int32) (q0 : 0 ≤ (τ (0, 0, 0) 4).toInt) (q1 : (τ (0, 0, 0) 4).toInt ≤ 40) : m_Met l D cy L yX7_question (.code yX7_question cX7_question 7 (some .int)) 2 σ [.ref (L (0, 0, 0)), .int (k), .int (a), .int (b), .int (d)] (some (.int (m_qsR τ k a b d))) (m_qsM τ k a b d) := by
  refine g_Met.of (by decide) (Nat.le_of_ble_eq_true rfl) ?_
  intro pg e s m below meth c hx hb hr hlk hml hown hts hK hN H locs hG hS ls hl
  have hown : s.vm.findClass RX7 = some m.cls := hown
  have hl : lv_has ls 7 [(0, .ref (L (0, 0, 0))), (1, .int (k)), (2, .int (a)), (3, .int (b)), (4, .int (d))] := hl
  refine lv_aload_n hx hb dX7_question_0 rfl (lv_at hl 0 rfl) ?_
  refine lv_iconst (v := 0) hx hb dX7_question_1 (by decide) ?_
  refine g_puti (C := RX7) (T := TX7) (N := 28) (v := 0) (ty := .int) hx hb hts inX7g tyX7_ok nmX7 hown hK hG hS (0, 0, 0) ⟨rfl, rfl⟩ (m_at_0 cy L 0 0 (σ (0, 0, 0))) rfl 0 (by decide) (m_up_0_0 cy L 0 0 (σ (0, 0, 0)) (0)) fl_X7_83 rfl (by decide +kernel) rfl rfl (Nat.le_of_ble_eq_true rfl) dX7_question_2 (fun H locs hG hS => ?_)
  rw [hτ] at hG
  refine lv_iload_n hx hb dX7_question_5 rfl (lv_at hl 1 rfl) ?_
  refine kz_if_ne (X := (k).toInt) hx hb rfl dX7_question_6 (tgt := 31) (by decide) (fun c_6_1 => ?_) (fun c_6_1 => ?_)
  · refine lv_iload_n hx hb dX7_question_31 rfl (lv_at hl 1 rfl) ?_
    refine lv_iconst (v := 1) hx hb dX7_question_32 (by decide) ?_
    refine kz_icmp_ne (X := (k).toInt) (Y := 1) hx hb rfl (by decide) dX7_question_33 (tgt := 68) (by decide) (fun c_33_2 => ?_) (fun c_33_2 => ?_)
    · refine lv_iconst (v := 0) hx hb dX7_question_68 (by decide) ?_
      refine lv_istore (lv' := [(5, .int 0), (0, .ref (L (0, 0, 0))), (1, .int (k)), (2, .int (a)), (3, .int (b)), (4, .int (d))]) hx hb dX7_question_69 hl (by decide) rfl (fun ls hl => ?_)
      refine lv_iload_n hx hb dX7_question_71 rfl (lv_at hl 2 rfl) ?_
      refine lv_iconst (v := 2) hx hb dX7_question_72 (by decide) ?_
      refine lv_iconst (v := 4) hx hb dX7_question_73 (by decide) ?_
      refine g_cont (va_runS (As := [.int (k), .int 2, .int 4]) (rest := []) ⟨hx, hb, hml, hown, hts⟩ (c_X7_in l D cy L τ (k) (2) (4) (k).toInt 2 4 rfl (by decide) (by decide)) (cwS 3 hts gS_X7_87 rfl rfl rfl (by decide +kernel) ⟨Nat.le_of_ble_eq_true rfl, Nat.le_of_ble_eq_true rfl⟩) (g_preS hK hN hG) rfl rfl hl.1 rfl (lv_room (Nat.le_of_ble_eq_true rfl)) dX7_question_74 ⟨Nat.zero_le _, Nat.zero_le _⟩) hS (fun H locs hG hS => ?_)
      refine W.eq (g2 := F0 m 77 ls [.int (g_b (2 ≤ (k).toInt ∧ (k).toInt ≤ 4))]) rfl ?_
      refine kz_b_eq (tgt := 100) hx hb dX7_question_77 (by decide) (fun c_77_3 => ?_) (fun c_77_3 => ?_)
      · refine lv_iconst (v := 0) hx hb dX7_question_100 (by decide) ?_
        refine lv_istore (lv' := [(6, .int 0), (5, .int 0), (0, .ref (L (0, 0, 0))), (1, .int (k)), (2, .int (a)), (3, .int (b)), (4, .int (d))]) hx hb dX7_question_101 hl (by decide) rfl (fun ls hl => ?_)
        refine lv_iload hx hb dX7_question_103 (lv_at hl 1 rfl) ?_
        refine kz_if_ne (X := 0) hx hb (by decide) dX7_question_105 (tgt := 113) (by decide) (fun c_105_4 => ?_) (fun c_105_4 => ?_)
        · exact absurd c_105_4 (by decide)
        · refine lv_iload hx hb dX7_question_108 (lv_at hl 0 rfl) ?_
          refine kz_if_eq (X := 0) hx hb (by decide) dX7_question_110 (tgt := 122) (by decide) (fun c_110_5 => ?_) (fun c_110_5 => ?_)
          · refine lv_iconst (v := (-1)) hx hb dX7_question_122 (by decide) ?_
            exact s_iret hx hb hr hlk hG hS dX7_question_123 (by unfold m_qsR; (repeat' split) <;> first | rfl | (exfalso; omega)) (by unfold m_qsM; (repeat' split) <;> first | rfl | (exfalso; omega))
          · exact absurd c_110_5 (by decide)
      · refine lv_aload_n hx hb dX7_question_80 rfl (lv_at hl 1 rfl) ?_
        refine lv_iload_n hx hb dX7_question_81 rfl (lv_at hl 3 rfl) ?_
        refine g_cont (va_runV (As := [.int (a)]) (rest := []) ⟨hx, hb, hml, hown, hts⟩ (c_X7_isQuestion l D cy L τ (a) q0 q1) (cwV 1 hts gV_X7_104 rfl rfl rfl (by decide +kernel) ⟨Nat.le_of_ble_eq_true rfl, Nat.le_of_ble_eq_true rfl⟩) (g_preV hK hN hG (x := (0, 0, 0)) ⟨rfl, rfl⟩ (q := (RX7, TX7, 28)) (m_at_0 cy L 0 0 (τ (0, 0, 0))) rfl) rfl rfl hl.1 rfl (lv_room (Nat.le_of_ble_eq_true rfl)) dX7_question_82 ⟨Nat.zero_le _, Nat.zero_le _⟩) hS (fun H locs hG hS => ?_)
        refine W.eq (g2 := F0 m 85 ls [.int (g_b (0 ≤ (a).toInt ∧ (a).toInt ≤ ((τ (0, 0, 0) 4).toInt - 1)))]) rfl ?_
        refine kz_b_eq (tgt := 100) hx hb dX7_question_85 (by decide) (fun c_85_6 => ?_) (fun c_85_6 => ?_)
        · refine lv_iconst (v := 0) hx hb dX7_question_100 (by decide) ?_
          refine lv_istore (lv' := [(6, .int 0), (5, .int 0), (0, .ref (L (0, 0, 0))), (1, .int (k)), (2, .int (a)), (3, .int (b)), (4, .int (d))]) hx hb dX7_question_101 hl (by decide) rfl (fun ls hl => ?_)
          refine lv_iload hx hb dX7_question_103 (lv_at hl 1 rfl) ?_
          refine kz_if_ne (X := 0) hx hb (by decide) dX7_question_105 (tgt := 113) (by decide) (fun c_105_7 => ?_) (fun c_105_7 => ?_)
          · exact absurd c_105_7 (by decide)
          · refine lv_iload hx hb dX7_question_108 (lv_at hl 0 rfl) ?_
            refine kz_if_eq (X := 0) hx hb (by decide) dX7_question_110 (tgt := 122) (by decide) (fun c_110_8 => ?_) (fun c_110_8 => ?_)
            · refine lv_iconst (v := (-1)) hx hb dX7_question_122 (by decide) ?_
              exact s_iret hx hb hr hlk hG hS dX7_question_123 (by unfold m_qsR; (repeat' split) <;> first | rfl | (exfalso; omega)) (by unfold m_qsM; (repeat' split) <;> first | rfl | (exfalso; omega))
            · exact absurd c_110_8 (by decide)
        · refine lv_aload_n hx hb dX7_question_88 rfl (lv_at hl 1 rfl) ?_
          refine lv_iload_n hx hb dX7_question_89 rfl (lv_at hl 4 rfl) ?_
          refine g_cont (va_runV (As := [.int (b)]) (rest := []) ⟨hx, hb, hml, hown, hts⟩ (c_X7_isQuestion l D cy L τ (b) q0 q1) (cwV 1 hts gV_X7_104 rfl rfl rfl (by decide +kernel) ⟨Nat.le_of_ble_eq_true rfl, Nat.le_of_ble_eq_true rfl⟩) (g_preV hK hN hG (x := (0, 0, 0)) ⟨rfl, rfl⟩ (q := (RX7, TX7, 28)) (m_at_0 cy L 0 0 (τ (0, 0, 0))) rfl) rfl rfl hl.1 rfl (lv_room (Nat.le_of_ble_eq_true rfl)) dX7_question_90 ⟨Nat.zero_le _, Nat.zero_le _⟩) hS (fun H locs hG hS => ?_)
          refine W.eq (g2 := F0 m 93 ls [.int (g_b (0 ≤ (b).toInt ∧ (b).toInt ≤ ((τ (0, 0, 0) 4).toInt - 1)))]) rfl ?_
          refine kz_b_eq (tgt := 100) hx hb dX7_question_93 (by decide) (fun c_93_9 => ?_) (fun c_93_9 => ?_)
          · refine lv_iconst (v := 0) hx hb dX7_question_100 (by decide) ?_
            refine lv_istore (lv' := [(6, .int 0), (5, .int 0), (0, .ref (L (0, 0, 0))), (1, .int (k)), (2, .int (a)), (3, .int (b)), (4, .int (d))]) hx hb dX7_question_101 hl (by decide) rfl (fun ls hl => ?_)
            refine lv_iload hx hb dX7_question_103 (lv_at hl 1 rfl) ?_
            refine kz_if_ne (X := 0) hx hb (by decide) dX7_question_105 (tgt := 113) (by decide) (fun c_105_10 => ?_) (fun c_105_10 => ?_)
            · exact absurd c_105_10 (by decide)
            · refine lv_iload hx hb dX7_question_108 (lv_at hl 0 rfl) ?_
              refine kz_if_eq (X := 0) hx hb (by decide) dX7_question_110 (tgt := 122) (by decide) (fun c_110_11 => ?_) (fun c_110_11 => ?_)
              · refine lv_iconst (v := (-1)) hx hb dX7_question_122 (by decide) ?_
                exact s_iret hx hb hr hlk hG hS dX7_question_123 (by unfold m_qsR; (repeat' split) <;> first | rfl | (exfalso; omega)) (by unfold m_qsM; (repeat' split) <;> first | rfl | (exfalso; omega))
              · exact absurd c_110_11 (by decide)
          · refine lv_iconst (v := 1) hx hb dX7_question_96 (by decide) ?_
            refine lv_goto (tgt := 101) hx hb dX7_question_97 (by decide) ?_
            refine lv_istore (lv' := [(6, .int 1), (5, .int 0), (0, .ref (L (0, 0, 0))), (1, .int (k)), (2, .int (a)), (3, .int (b)), (4, .int (d))]) hx hb dX7_question_101 hl (by decide) rfl (fun ls hl => ?_)
            refine lv_iload hx hb dX7_question_103 (lv_at hl 1 rfl) ?_
            refine kz_if_ne (X := 0) hx hb (by decide) dX7_question_105 (tgt := 113) (by decide) (fun c_105_12 => ?_) (fun c_105_12 => ?_)
            · exact absurd c_105_12 (by decide)
            · refine lv_iload hx hb dX7_question_108 (lv_at hl 0 rfl) ?_
              refine kz_if_eq (X := 1) hx hb (by decide) dX7_question_110 (tgt := 122) (by decide) (fun c_110_13 => ?_) (fun c_110_13 => ?_)
              · exact absurd c_110_13 (by decide)
              · refine lv_aload_n hx hb dX7_question_113 rfl (lv_at hl 2 rfl) ?_
                refine g_get (C := RX7) (T := TX7) (N := 28) (v := .int (τ (0, 0, 0) 4)) hx hb hts inX7g hown hK hG (0, 0, 0) ⟨rfl, rfl⟩ (m_at_0 cy L 0 0 (τ (0, 0, 0))) rfl 4 (by decide) fl_X7_98 rfl dX7_question_114 ?_
                refine lv_bipush (v := 40) hx hb dX7_question_117 (by decide) ?_
                refine kz_icmp_ne (X := (τ (0, 0, 0) 4).toInt) (Y := 40) hx hb rfl (by decide) dX7_question_119 (tgt := 124) (by decide) (fun c_119_14 => ?_) (fun c_119_14 => ?_)
                · refine lv_aload_n hx hb dX7_question_124 rfl (lv_at hl 2 rfl) ?_
                  refine g_get (C := RX7) (T := TX7) (N := 28) (v := .ref (L (1, 5, 0))) hx hb hts inX7g hown hK hG (0, 0, 0) ⟨rfl, rfl⟩ (m_at_0 cy L 0 0 (τ (0, 0, 0))) rfl 5 (by decide) fl_X7_16 rfl dX7_question_125 ?_
                  refine lv_aload_n hx hb dX7_question_128 rfl (lv_at hl 2 rfl) ?_
                  refine g_get (C := RX7) (T := TX7) (N := 28) (v := .int (τ (0, 0, 0) 4)) hx hb hts inX7g hown hK hG (0, 0, 0) ⟨rfl, rfl⟩ (m_at_0 cy L 0 0 (τ (0, 0, 0))) rfl 4 (by decide) fl_X7_98 rfl dX7_question_129 ?_
                  refine lv_iload_n hx hb dX7_question_132 rfl (lv_at hl 3 rfl) ?_
                  refine g_iast (n := 40) hx hb hK hG hS (1, 5, 0) ⟨by decide, rfl⟩ 0 (fun _ => rfl) rfl (g_vp (by omega) (by omega)) dX7_question_133 (fun H locs hG hS => ?_)
                  rw [show (τ (0, 0, 0) 4 : Int32).toNatClampNeg = ((τ (0, 0, 0) 4).toInt).toNat from congrArg Int.toNat (show (τ (0, 0, 0) 4 : Int32).toInt = (τ (0, 0, 0) 4).toInt from rfl)] at hG
                  refine lv_aload_n hx hb dX7_question_134 rfl (lv_at hl 2 rfl) ?_
                  refine g_get (C := RX7) (T := TX7) (N := 28) (v := .ref (L (1, 6, 0))) hx hb hts inX7g hown hK hG (0, 0, 0) ⟨rfl, rfl⟩ (m_at_0 cy L 0 0 ((g_up τ (1, 5, 0) (((τ (0, 0, 0) 4).toInt).toNat) (k)) (0, 0, 0))) rfl 6 (by decide) fl_X7_19 rfl dX7_question_135 ?_
                  refine lv_aload_n hx hb dX7_question_138 rfl (lv_at hl 2 rfl) ?_
                  refine g_get (C := RX7) (T := TX7) (N := 28) (v := .int (τ (0, 0, 0) 4)) hx hb hts inX7g hown hK hG (0, 0, 0) ⟨rfl, rfl⟩ (m_at_0 cy L 0 0 ((g_up τ (1, 5, 0) (((τ (0, 0, 0) 4).toInt).toNat) (k)) (0, 0, 0))) rfl 4 (by decide) fl_X7_98 rfl dX7_question_139 ?_
                  refine lv_iload_n hx hb dX7_question_142 rfl (lv_at hl 4 rfl) ?_
                  refine g_iast (n := 40) hx hb hK hG hS (1, 6, 0) ⟨by decide, rfl⟩ 0 (fun _ => rfl) rfl (g_vp (by omega) (by omega)) dX7_question_143 (fun H locs hG hS => ?_)
                  rw [show (τ (0, 0, 0) 4 : Int32).toNatClampNeg = ((τ (0, 0, 0) 4).toInt).toNat from congrArg Int.toNat (show (τ (0, 0, 0) 4 : Int32).toInt = (τ (0, 0, 0) 4).toInt from rfl)] at hG
                  refine lv_aload_n hx hb dX7_question_144 rfl (lv_at hl 2 rfl) ?_
                  refine g_get (C := RX7) (T := TX7) (N := 28) (v := .ref (L (1, 7, 0))) hx hb hts inX7g hown hK hG (0, 0, 0) ⟨rfl, rfl⟩ (m_at_0 cy L 0 0 ((g_up (g_up τ (1, 5, 0) (((τ (0, 0, 0) 4).toInt).toNat) (k)) (1, 6, 0) (((τ (0, 0, 0) 4).toInt).toNat) (a)) (0, 0, 0))) rfl 7 (by decide) fl_X7_22 rfl dX7_question_145 ?_
                  refine lv_aload_n hx hb dX7_question_148 rfl (lv_at hl 2 rfl) ?_
                  refine g_get (C := RX7) (T := TX7) (N := 28) (v := .int (τ (0, 0, 0) 4)) hx hb hts inX7g hown hK hG (0, 0, 0) ⟨rfl, rfl⟩ (m_at_0 cy L 0 0 ((g_up (g_up τ (1, 5, 0) (((τ (0, 0, 0) 4).toInt).toNat) (k)) (1, 6, 0) (((τ (0, 0, 0) 4).toInt).toNat) (a)) (0, 0, 0))) rfl 4 (by decide) fl_X7_98 rfl dX7_question_149 ?_
                  refine lv_iload_n hx hb dX7_question_152 rfl (lv_at hl 5 rfl) ?_
                  refine g_iast (n := 40) hx hb hK hG hS (1, 7, 0) ⟨by decide, rfl⟩ 0 (fun _ => rfl) rfl (g_vp (by omega) (by omega)) dX7_question_153 (fun H locs hG hS => ?_)
                  rw [show (τ (0, 0, 0) 4 : Int32).toNatClampNeg = ((τ (0, 0, 0) 4).toInt).toNat from congrArg Int.toNat (show (τ (0, 0, 0) 4 : Int32).toInt = (τ (0, 0, 0) 4).toInt from rfl)] at hG
                  refine lv_aload_n hx hb dX7_question_154 rfl (lv_at hl 2 rfl) ?_
                  refine g_get (C := RX7) (T := TX7) (N := 28) (v := .ref (L (1, 8, 0))) hx hb hts inX7g hown hK hG (0, 0, 0) ⟨rfl, rfl⟩ (m_at_0 cy L 0 0 ((g_up (g_up (g_up τ (1, 5, 0) (((τ (0, 0, 0) 4).toInt).toNat) (k)) (1, 6, 0) (((τ (0, 0, 0) 4).toInt).toNat) (a)) (1, 7, 0) (((τ (0, 0, 0) 4).toInt).toNat) (b)) (0, 0, 0))) rfl 8 (by decide) fl_X7_25 rfl dX7_question_155 ?_
                  refine lv_aload_n hx hb dX7_question_158 rfl (lv_at hl 2 rfl) ?_
                  refine g_get (C := RX7) (T := TX7) (N := 28) (v := .int (τ (0, 0, 0) 4)) hx hb hts inX7g hown hK hG (0, 0, 0) ⟨rfl, rfl⟩ (m_at_0 cy L 0 0 ((g_up (g_up (g_up τ (1, 5, 0) (((τ (0, 0, 0) 4).toInt).toNat) (k)) (1, 6, 0) (((τ (0, 0, 0) 4).toInt).toNat) (a)) (1, 7, 0) (((τ (0, 0, 0) 4).toInt).toNat) (b)) (0, 0, 0))) rfl 4 (by decide) fl_X7_98 rfl dX7_question_159 ?_
                  refine lv_iload hx hb dX7_question_162 (lv_at hl 6 rfl) ?_
                  refine g_iast (n := 40) hx hb hK hG hS (1, 8, 0) ⟨by decide, rfl⟩ 0 (fun _ => rfl) rfl (g_vp (by omega) (by omega)) dX7_question_164 (fun H locs hG hS => ?_)
                  rw [show (τ (0, 0, 0) 4 : Int32).toNatClampNeg = ((τ (0, 0, 0) 4).toInt).toNat from congrArg Int.toNat (show (τ (0, 0, 0) 4 : Int32).toInt = (τ (0, 0, 0) 4).toInt from rfl)] at hG
                  refine lv_aload_n hx hb dX7_question_165 rfl (lv_at hl 2 rfl) ?_
                  refine lv_dup hx hb dX7_question_166 rfl ?_
                  refine g_get (C := RX7) (T := TX7) (N := 28) (v := .int (τ (0, 0, 0) 4)) hx hb hts inX7g hown hK hG (0, 0, 0) ⟨rfl, rfl⟩ (m_at_0 cy L 0 0 ((g_up (g_up (g_up (g_up τ (1, 5, 0) (((τ (0, 0, 0) 4).toInt).toNat) (k)) (1, 6, 0) (((τ (0, 0, 0) 4).toInt).toNat) (a)) (1, 7, 0) (((τ (0, 0, 0) 4).toInt).toNat) (b)) (1, 8, 0) (((τ (0, 0, 0) 4).toInt).toNat) (d)) (0, 0, 0))) rfl 4 (by decide) fl_X7_98 rfl dX7_question_167 ?_
                  refine lv_iconst (v := 1) hx hb dX7_question_170 (by decide) ?_
                  refine lv_iadd hx hb dX7_question_171 ?_
                  have z_15 : ((τ (0, 0, 0) 4) + (1)).toInt = ((τ (0, 0, 0) 4).toInt + 1) := g_addZ rfl (by decide) (by omega) (by omega)
                  refine g_puti (C := RX7) (T := TX7) (N := 28) (v := (τ (0, 0, 0) 4) + (1)) (ty := .int) hx hb hts inX7g tyX7_ok nmX7 hown hK hG hS (0, 0, 0) ⟨rfl, rfl⟩ (m_at_0 cy L 0 0 ((g_up (g_up (g_up (g_up τ (1, 5, 0) (((τ (0, 0, 0) 4).toInt).toNat) (k)) (1, 6, 0) (((τ (0, 0, 0) 4).toInt).toNat) (a)) (1, 7, 0) (((τ (0, 0, 0) 4).toInt).toNat) (b)) (1, 8, 0) (((τ (0, 0, 0) 4).toInt).toNat) (d)) (0, 0, 0))) rfl 4 (by decide) (m_up_0_4 cy L 0 0 ((g_up (g_up (g_up (g_up τ (1, 5, 0) (((τ (0, 0, 0) 4).toInt).toNat) (k)) (1, 6, 0) (((τ (0, 0, 0) 4).toInt).toNat) (a)) (1, 7, 0) (((τ (0, 0, 0) 4).toInt).toNat) (b)) (1, 8, 0) (((τ (0, 0, 0) 4).toInt).toNat) (d)) (0, 0, 0)) ((τ (0, 0, 0) 4) + (1))) fl_X7_98 rfl (by decide +kernel) rfl rfl (Nat.le_of_ble_eq_true rfl) dX7_question_172 (fun H locs hG hS => ?_)
                  refine lv_aload_n hx hb dX7_question_175 rfl (lv_at hl 2 rfl) ?_
                  refine g_get (C := RX7) (T := TX7) (N := 28) (v := .int ((τ (0, 0, 0) 4) + (1))) hx hb hts inX7g hown hK hG (0, 0, 0) ⟨rfl, rfl⟩ (m_at_0 cy L 0 0 ((g_up (g_up (g_up (g_up (g_up τ (1, 5, 0) (((τ (0, 0, 0) 4).toInt).toNat) (k)) (1, 6, 0) (((τ (0, 0, 0) 4).toInt).toNat) (a)) (1, 7, 0) (((τ (0, 0, 0) 4).toInt).toNat) (b)) (1, 8, 0) (((τ (0, 0, 0) 4).toInt).toNat) (d)) (0, 0, 0) (4) ((τ (0, 0, 0) 4) + (1))) (0, 0, 0))) rfl 4 (by decide) fl_X7_98 rfl dX7_question_176 ?_
                  refine lv_iconst (v := 1) hx hb dX7_question_179 (by decide) ?_
                  refine lv_isub hx hb dX7_question_180 ?_
                  have z_16 : (((τ (0, 0, 0) 4) + (1)) - (1)).toInt = (((τ (0, 0, 0) 4).toInt + 1) - 1) := g_subZ z_15 (by decide) (by omega) (by omega)
                  exact s_iret hx hb hr hlk hG hS dX7_question_181 (by unfold m_qsR; (repeat' split) <;> first | rfl | (exfalso; omega)) (by unfold m_qsM; (repeat' split) <;> first | rfl | (exfalso; omega))
                · refine lv_iconst (v := (-1)) hx hb dX7_question_122 (by decide) ?_
                  exact s_iret hx hb hr hlk hG hS dX7_question_123 (by unfold m_qsR; (repeat' split) <;> first | rfl | (exfalso; omega)) (by unfold m_qsM; (repeat' split) <;> first | rfl | (exfalso; omega))
    · refine lv_iload_n hx hb dX7_question_36 rfl (lv_at hl 2 rfl) ?_
      refine g_cont (va_runS (As := [.int (a)]) (rest := []) ⟨hx, hb, hml, hown, hts⟩ (c_X7_isIndex l D cy L τ (a) (a).toInt rfl) (cwS 1 hts gS_X7_94 rfl rfl rfl (by decide +kernel) ⟨Nat.le_of_ble_eq_true rfl, Nat.le_of_ble_eq_true rfl⟩) (g_preS hK hN hG) rfl rfl hl.1 rfl (lv_room (Nat.le_of_ble_eq_true rfl)) dX7_question_37 ⟨Nat.zero_le _, Nat.zero_le _⟩) hS (fun H locs hG hS => ?_)
      refine W.eq (g2 := F0 m 40 ls [.int (g_b (0 ≤ (a).toInt ∧ (a).toInt ≤ 4))]) rfl ?_
      refine kz_b_eq (tgt := 68) hx hb dX7_question_40 (by decide) (fun c_40_17 => ?_) (fun c_40_17 => ?_)
      · refine lv_iconst (v := 0) hx hb dX7_question_68 (by decide) ?_
        refine lv_istore (lv' := [(5, .int 0), (0, .ref (L (0, 0, 0))), (1, .int (k)), (2, .int (a)), (3, .int (b)), (4, .int (d))]) hx hb dX7_question_69 hl (by decide) rfl (fun ls hl => ?_)
        refine lv_iload_n hx hb dX7_question_71 rfl (lv_at hl 2 rfl) ?_
        refine lv_iconst (v := 2) hx hb dX7_question_72 (by decide) ?_
        refine lv_iconst (v := 4) hx hb dX7_question_73 (by decide) ?_
        refine g_cont (va_runS (As := [.int (k), .int 2, .int 4]) (rest := []) ⟨hx, hb, hml, hown, hts⟩ (c_X7_in l D cy L τ (k) (2) (4) (k).toInt 2 4 rfl (by decide) (by decide)) (cwS 3 hts gS_X7_87 rfl rfl rfl (by decide +kernel) ⟨Nat.le_of_ble_eq_true rfl, Nat.le_of_ble_eq_true rfl⟩) (g_preS hK hN hG) rfl rfl hl.1 rfl (lv_room (Nat.le_of_ble_eq_true rfl)) dX7_question_74 ⟨Nat.zero_le _, Nat.zero_le _⟩) hS (fun H locs hG hS => ?_)
        refine W.eq (g2 := F0 m 77 ls [.int (g_b (2 ≤ (k).toInt ∧ (k).toInt ≤ 4))]) rfl ?_
        refine kz_b_eq (tgt := 100) hx hb dX7_question_77 (by decide) (fun c_77_18 => ?_) (fun c_77_18 => ?_)
        · refine lv_iconst (v := 0) hx hb dX7_question_100 (by decide) ?_
          refine lv_istore (lv' := [(6, .int 0), (5, .int 0), (0, .ref (L (0, 0, 0))), (1, .int (k)), (2, .int (a)), (3, .int (b)), (4, .int (d))]) hx hb dX7_question_101 hl (by decide) rfl (fun ls hl => ?_)
          refine lv_iload hx hb dX7_question_103 (lv_at hl 1 rfl) ?_
          refine kz_if_ne (X := 0) hx hb (by decide) dX7_question_105 (tgt := 113) (by decide) (fun c_105_19 => ?_) (fun c_105_19 => ?_)
          · exact absurd c_105_19 (by decide)
          · refine lv_iload hx hb dX7_question_108 (lv_at hl 0 rfl) ?_
            refine kz_if_eq (X := 0) hx hb (by decide) dX7_question_110 (tgt := 122) (by decide) (fun c_110_20 => ?_) (fun c_110_20 => ?_)
            · refine lv_iconst (v := (-1)) hx hb dX7_question_122 (by decide) ?_
              exact s_iret hx hb hr hlk hG hS dX7_question_123 (by unfold m_qsR; (repeat' split) <;> first | rfl | (exfalso; omega)) (by unfold m_qsM; (repeat' split) <;> first | rfl | (exfalso; omega))
            · exact absurd c_110_20 (by decide)
        · refine lv_aload_n hx hb dX7_question_80 rfl (lv_at hl 1 rfl) ?_
          refine lv_iload_n hx hb dX7_question_81 rfl (lv_at hl 3 rfl) ?_
          refine g_cont (va_runV (As := [.int (a)]) (rest := []) ⟨hx, hb, hml, hown, hts⟩ (c_X7_isQuestion l D cy L τ (a) q0 q1) (cwV 1 hts gV_X7_104 rfl rfl rfl (by decide +kernel) ⟨Nat.le_of_ble_eq_true rfl, Nat.le_of_ble_eq_true rfl⟩) (g_preV hK hN hG (x := (0, 0, 0)) ⟨rfl, rfl⟩ (q := (RX7, TX7, 28)) (m_at_0 cy L 0 0 (τ (0, 0, 0))) rfl) rfl rfl hl.1 rfl (lv_room (Nat.le_of_ble_eq_true rfl)) dX7_question_82 ⟨Nat.zero_le _, Nat.zero_le _⟩) hS (fun H locs hG hS => ?_)
          refine W.eq (g2 := F0 m 85 ls [.int (g_b (0 ≤ (a).toInt ∧ (a).toInt ≤ ((τ (0, 0, 0) 4).toInt - 1)))]) rfl ?_
          refine kz_b_eq (tgt := 100) hx hb dX7_question_85 (by decide) (fun c_85_21 => ?_) (fun c_85_21 => ?_)
          · refine lv_iconst (v := 0) hx hb dX7_question_100 (by decide) ?_
            refine lv_istore (lv' := [(6, .int 0), (5, .int 0), (0, .ref (L (0, 0, 0))), (1, .int (k)), (2, .int (a)), (3, .int (b)), (4, .int (d))]) hx hb dX7_question_101 hl (by decide) rfl (fun ls hl => ?_)
            refine lv_iload hx hb dX7_question_103 (lv_at hl 1 rfl) ?_
            refine kz_if_ne (X := 0) hx hb (by decide) dX7_question_105 (tgt := 113) (by decide) (fun c_105_22 => ?_) (fun c_105_22 => ?_)
            · exact absurd c_105_22 (by decide)
            · refine lv_iload hx hb dX7_question_108 (lv_at hl 0 rfl) ?_
              refine kz_if_eq (X := 0) hx hb (by decide) dX7_question_110 (tgt := 122) (by decide) (fun c_110_23 => ?_) (fun c_110_23 => ?_)
              · refine lv_iconst (v := (-1)) hx hb dX7_question_122 (by decide) ?_
                exact s_iret hx hb hr hlk hG hS dX7_question_123 (by unfold m_qsR; (repeat' split) <;> first | rfl | (exfalso; omega)) (by unfold m_qsM; (repeat' split) <;> first | rfl | (exfalso; omega))
              · exact absurd c_110_23 (by decide)
          · refine lv_aload_n hx hb dX7_question_88 rfl (lv_at hl 1 rfl) ?_
            refine lv_iload_n hx hb dX7_question_89 rfl (lv_at hl 4 rfl) ?_
            refine g_cont (va_runV (As := [.int (b)]) (rest := []) ⟨hx, hb, hml, hown, hts⟩ (c_X7_isQuestion l D cy L τ (b) q0 q1) (cwV 1 hts gV_X7_104 rfl rfl rfl (by decide +kernel) ⟨Nat.le_of_ble_eq_true rfl, Nat.le_of_ble_eq_true rfl⟩) (g_preV hK hN hG (x := (0, 0, 0)) ⟨rfl, rfl⟩ (q := (RX7, TX7, 28)) (m_at_0 cy L 0 0 (τ (0, 0, 0))) rfl) rfl rfl hl.1 rfl (lv_room (Nat.le_of_ble_eq_true rfl)) dX7_question_90 ⟨Nat.zero_le _, Nat.zero_le _⟩) hS (fun H locs hG hS => ?_)
            refine W.eq (g2 := F0 m 93 ls [.int (g_b (0 ≤ (b).toInt ∧ (b).toInt ≤ ((τ (0, 0, 0) 4).toInt - 1)))]) rfl ?_
            refine kz_b_eq (tgt := 100) hx hb dX7_question_93 (by decide) (fun c_93_24 => ?_) (fun c_93_24 => ?_)
            · refine lv_iconst (v := 0) hx hb dX7_question_100 (by decide) ?_
              refine lv_istore (lv' := [(6, .int 0), (5, .int 0), (0, .ref (L (0, 0, 0))), (1, .int (k)), (2, .int (a)), (3, .int (b)), (4, .int (d))]) hx hb dX7_question_101 hl (by decide) rfl (fun ls hl => ?_)
              refine lv_iload hx hb dX7_question_103 (lv_at hl 1 rfl) ?_
              refine kz_if_ne (X := 0) hx hb (by decide) dX7_question_105 (tgt := 113) (by decide) (fun c_105_25 => ?_) (fun c_105_25 => ?_)
              · exact absurd c_105_25 (by decide)
              · refine lv_iload hx hb dX7_question_108 (lv_at hl 0 rfl) ?_
                refine kz_if_eq (X := 0) hx hb (by decide) dX7_question_110 (tgt := 122) (by decide) (fun c_110_26 => ?_) (fun c_110_26 => ?_)
                · refine lv_iconst (v := (-1)) hx hb dX7_question_122 (by decide) ?_
                  exact s_iret hx hb hr hlk hG hS dX7_question_123 (by unfold m_qsR; (repeat' split) <;> first | rfl | (exfalso; omega)) (by unfold m_qsM; (repeat' split) <;> first | rfl | (exfalso; omega))
                · exact absurd c_110_26 (by decide)
            · refine lv_iconst (v := 1) hx hb dX7_question_96 (by decide) ?_
              refine lv_goto (tgt := 101) hx hb dX7_question_97 (by decide) ?_
              refine lv_istore (lv' := [(6, .int 1), (5, .int 0), (0, .ref (L (0, 0, 0))), (1, .int (k)), (2, .int (a)), (3, .int (b)), (4, .int (d))]) hx hb dX7_question_101 hl (by decide) rfl (fun ls hl => ?_)
              refine lv_iload hx hb dX7_question_103 (lv_at hl 1 rfl) ?_
              refine kz_if_ne (X := 0) hx hb (by decide) dX7_question_105 (tgt := 113) (by decide) (fun c_105_27 => ?_) (fun c_105_27 => ?_)
              · exact absurd c_105_27 (by decide)
              · refine lv_iload hx hb dX7_question_108 (lv_at hl 0 rfl) ?_
                refine kz_if_eq (X := 1) hx hb (by decide) dX7_question_110 (tgt := 122) (by decide) (fun c_110_28 => ?_) (fun c_110_28 => ?_)
                · exact absurd c_110_28 (by decide)
                · refine lv_aload_n hx hb dX7_question_113 rfl (lv_at hl 2 rfl) ?_
                  refine g_get (C := RX7) (T := TX7) (N := 28) (v := .int (τ (0, 0, 0) 4)) hx hb hts inX7g hown hK hG (0, 0, 0) ⟨rfl, rfl⟩ (m_at_0 cy L 0 0 (τ (0, 0, 0))) rfl 4 (by decide) fl_X7_98 rfl dX7_question_114 ?_
                  refine lv_bipush (v := 40) hx hb dX7_question_117 (by decide) ?_
                  refine kz_icmp_ne (X := (τ (0, 0, 0) 4).toInt) (Y := 40) hx hb rfl (by decide) dX7_question_119 (tgt := 124) (by decide) (fun c_119_29 => ?_) (fun c_119_29 => ?_)
                  · refine lv_aload_n hx hb dX7_question_124 rfl (lv_at hl 2 rfl) ?_
                    refine g_get (C := RX7) (T := TX7) (N := 28) (v := .ref (L (1, 5, 0))) hx hb hts inX7g hown hK hG (0, 0, 0) ⟨rfl, rfl⟩ (m_at_0 cy L 0 0 (τ (0, 0, 0))) rfl 5 (by decide) fl_X7_16 rfl dX7_question_125 ?_
                    refine lv_aload_n hx hb dX7_question_128 rfl (lv_at hl 2 rfl) ?_
                    refine g_get (C := RX7) (T := TX7) (N := 28) (v := .int (τ (0, 0, 0) 4)) hx hb hts inX7g hown hK hG (0, 0, 0) ⟨rfl, rfl⟩ (m_at_0 cy L 0 0 (τ (0, 0, 0))) rfl 4 (by decide) fl_X7_98 rfl dX7_question_129 ?_
                    refine lv_iload_n hx hb dX7_question_132 rfl (lv_at hl 3 rfl) ?_
                    refine g_iast (n := 40) hx hb hK hG hS (1, 5, 0) ⟨by decide, rfl⟩ 0 (fun _ => rfl) rfl (g_vp (by omega) (by omega)) dX7_question_133 (fun H locs hG hS => ?_)
                    rw [show (τ (0, 0, 0) 4 : Int32).toNatClampNeg = ((τ (0, 0, 0) 4).toInt).toNat from congrArg Int.toNat (show (τ (0, 0, 0) 4 : Int32).toInt = (τ (0, 0, 0) 4).toInt from rfl)] at hG
                    refine lv_aload_n hx hb dX7_question_134 rfl (lv_at hl 2 rfl) ?_
                    refine g_get (C := RX7) (T := TX7) (N := 28) (v := .ref (L (1, 6, 0))) hx hb hts inX7g hown hK hG (0, 0, 0) ⟨rfl, rfl⟩ (m_at_0 cy L 0 0 ((g_up τ (1, 5, 0) (((τ (0, 0, 0) 4).toInt).toNat) (k)) (0, 0, 0))) rfl 6 (by decide) fl_X7_19 rfl dX7_question_135 ?_
                    refine lv_aload_n hx hb dX7_question_138 rfl (lv_at hl 2 rfl) ?_
                    refine g_get (C := RX7) (T := TX7) (N := 28) (v := .int (τ (0, 0, 0) 4)) hx hb hts inX7g hown hK hG (0, 0, 0) ⟨rfl, rfl⟩ (m_at_0 cy L 0 0 ((g_up τ (1, 5, 0) (((τ (0, 0, 0) 4).toInt).toNat) (k)) (0, 0, 0))) rfl 4 (by decide) fl_X7_98 rfl dX7_question_139 ?_
                    refine lv_iload_n hx hb dX7_question_142 rfl (lv_at hl 4 rfl) ?_
                    refine g_iast (n := 40) hx hb hK hG hS (1, 6, 0) ⟨by decide, rfl⟩ 0 (fun _ => rfl) rfl (g_vp (by omega) (by omega)) dX7_question_143 (fun H locs hG hS => ?_)
                    rw [show (τ (0, 0, 0) 4 : Int32).toNatClampNeg = ((τ (0, 0, 0) 4).toInt).toNat from congrArg Int.toNat (show (τ (0, 0, 0) 4 : Int32).toInt = (τ (0, 0, 0) 4).toInt from rfl)] at hG
                    refine lv_aload_n hx hb dX7_question_144 rfl (lv_at hl 2 rfl) ?_
                    refine g_get (C := RX7) (T := TX7) (N := 28) (v := .ref (L (1, 7, 0))) hx hb hts inX7g hown hK hG (0, 0, 0) ⟨rfl, rfl⟩ (m_at_0 cy L 0 0 ((g_up (g_up τ (1, 5, 0) (((τ (0, 0, 0) 4).toInt).toNat) (k)) (1, 6, 0) (((τ (0, 0, 0) 4).toInt).toNat) (a)) (0, 0, 0))) rfl 7 (by decide) fl_X7_22 rfl dX7_question_145 ?_
                    refine lv_aload_n hx hb dX7_question_148 rfl (lv_at hl 2 rfl) ?_
                    refine g_get (C := RX7) (T := TX7) (N := 28) (v := .int (τ (0, 0, 0) 4)) hx hb hts inX7g hown hK hG (0, 0, 0) ⟨rfl, rfl⟩ (m_at_0 cy L 0 0 ((g_up (g_up τ (1, 5, 0) (((τ (0, 0, 0) 4).toInt).toNat) (k)) (1, 6, 0) (((τ (0, 0, 0) 4).toInt).toNat) (a)) (0, 0, 0))) rfl 4 (by decide) fl_X7_98 rfl dX7_question_149 ?_
                    refine lv_iload_n hx hb dX7_question_152 rfl (lv_at hl 5 rfl) ?_
                    refine g_iast (n := 40) hx hb hK hG hS (1, 7, 0) ⟨by decide, rfl⟩ 0 (fun _ => rfl) rfl (g_vp (by omega) (by omega)) dX7_question_153 (fun H locs hG hS => ?_)
                    rw [show (τ (0, 0, 0) 4 : Int32).toNatClampNeg = ((τ (0, 0, 0) 4).toInt).toNat from congrArg Int.toNat (show (τ (0, 0, 0) 4 : Int32).toInt = (τ (0, 0, 0) 4).toInt from rfl)] at hG
                    refine lv_aload_n hx hb dX7_question_154 rfl (lv_at hl 2 rfl) ?_
                    refine g_get (C := RX7) (T := TX7) (N := 28) (v := .ref (L (1, 8, 0))) hx hb hts inX7g hown hK hG (0, 0, 0) ⟨rfl, rfl⟩ (m_at_0 cy L 0 0 ((g_up (g_up (g_up τ (1, 5, 0) (((τ (0, 0, 0) 4).toInt).toNat) (k)) (1, 6, 0) (((τ (0, 0, 0) 4).toInt).toNat) (a)) (1, 7, 0) (((τ (0, 0, 0) 4).toInt).toNat) (b)) (0, 0, 0))) rfl 8 (by decide) fl_X7_25 rfl dX7_question_155 ?_
                    refine lv_aload_n hx hb dX7_question_158 rfl (lv_at hl 2 rfl) ?_
                    refine g_get (C := RX7) (T := TX7) (N := 28) (v := .int (τ (0, 0, 0) 4)) hx hb hts inX7g hown hK hG (0, 0, 0) ⟨rfl, rfl⟩ (m_at_0 cy L 0 0 ((g_up (g_up (g_up τ (1, 5, 0) (((τ (0, 0, 0) 4).toInt).toNat) (k)) (1, 6, 0) (((τ (0, 0, 0) 4).toInt).toNat) (a)) (1, 7, 0) (((τ (0, 0, 0) 4).toInt).toNat) (b)) (0, 0, 0))) rfl 4 (by decide) fl_X7_98 rfl dX7_question_159 ?_
                    refine lv_iload hx hb dX7_question_162 (lv_at hl 6 rfl) ?_
                    refine g_iast (n := 40) hx hb hK hG hS (1, 8, 0) ⟨by decide, rfl⟩ 0 (fun _ => rfl) rfl (g_vp (by omega) (by omega)) dX7_question_164 (fun H locs hG hS => ?_)
                    rw [show (τ (0, 0, 0) 4 : Int32).toNatClampNeg = ((τ (0, 0, 0) 4).toInt).toNat from congrArg Int.toNat (show (τ (0, 0, 0) 4 : Int32).toInt = (τ (0, 0, 0) 4).toInt from rfl)] at hG
                    refine lv_aload_n hx hb dX7_question_165 rfl (lv_at hl 2 rfl) ?_
                    refine lv_dup hx hb dX7_question_166 rfl ?_
                    refine g_get (C := RX7) (T := TX7) (N := 28) (v := .int (τ (0, 0, 0) 4)) hx hb hts inX7g hown hK hG (0, 0, 0) ⟨rfl, rfl⟩ (m_at_0 cy L 0 0 ((g_up (g_up (g_up (g_up τ (1, 5, 0) (((τ (0, 0, 0) 4).toInt).toNat) (k)) (1, 6, 0) (((τ (0, 0, 0) 4).toInt).toNat) (a)) (1, 7, 0) (((τ (0, 0, 0) 4).toInt).toNat) (b)) (1, 8, 0) (((τ (0, 0, 0) 4).toInt).toNat) (d)) (0, 0, 0))) rfl 4 (by decide) fl_X7_98 rfl dX7_question_167 ?_
                    refine lv_iconst (v := 1) hx hb dX7_question_170 (by decide) ?_
                    refine lv_iadd hx hb dX7_question_171 ?_
                    have z_30 : ((τ (0, 0, 0) 4) + (1)).toInt = ((τ (0, 0, 0) 4).toInt + 1) := g_addZ rfl (by decide) (by omega) (by omega)
                    refine g_puti (C := RX7) (T := TX7) (N := 28) (v := (τ (0, 0, 0) 4) + (1)) (ty := .int) hx hb hts inX7g tyX7_ok nmX7 hown hK hG hS (0, 0, 0) ⟨rfl, rfl⟩ (m_at_0 cy L 0 0 ((g_up (g_up (g_up (g_up τ (1, 5, 0) (((τ (0, 0, 0) 4).toInt).toNat) (k)) (1, 6, 0) (((τ (0, 0, 0) 4).toInt).toNat) (a)) (1, 7, 0) (((τ (0, 0, 0) 4).toInt).toNat) (b)) (1, 8, 0) (((τ (0, 0, 0) 4).toInt).toNat) (d)) (0, 0, 0))) rfl 4 (by decide) (m_up_0_4 cy L 0 0 ((g_up (g_up (g_up (g_up τ (1, 5, 0) (((τ (0, 0, 0) 4).toInt).toNat) (k)) (1, 6, 0) (((τ (0, 0, 0) 4).toInt).toNat) (a)) (1, 7, 0) (((τ (0, 0, 0) 4).toInt).toNat) (b)) (1, 8, 0) (((τ (0, 0, 0) 4).toInt).toNat) (d)) (0, 0, 0)) ((τ (0, 0, 0) 4) + (1))) fl_X7_98 rfl (by decide +kernel) rfl rfl (Nat.le_of_ble_eq_true rfl) dX7_question_172 (fun H locs hG hS => ?_)
                    refine lv_aload_n hx hb dX7_question_175 rfl (lv_at hl 2 rfl) ?_
                    refine g_get (C := RX7) (T := TX7) (N := 28) (v := .int ((τ (0, 0, 0) 4) + (1))) hx hb hts inX7g hown hK hG (0, 0, 0) ⟨rfl, rfl⟩ (m_at_0 cy L 0 0 ((g_up (g_up (g_up (g_up (g_up τ (1, 5, 0) (((τ (0, 0, 0) 4).toInt).toNat) (k)) (1, 6, 0) (((τ (0, 0, 0) 4).toInt).toNat) (a)) (1, 7, 0) (((τ (0, 0, 0) 4).toInt).toNat) (b)) (1, 8, 0) (((τ (0, 0, 0) 4).toInt).toNat) (d)) (0, 0, 0) (4) ((τ (0, 0, 0) 4) + (1))) (0, 0, 0))) rfl 4 (by decide) fl_X7_98 rfl dX7_question_176 ?_
                    refine lv_iconst (v := 1) hx hb dX7_question_179 (by decide) ?_
                    refine lv_isub hx hb dX7_question_180 ?_
                    have z_31 : (((τ (0, 0, 0) 4) + (1)) - (1)).toInt = (((τ (0, 0, 0) 4).toInt + 1) - 1) := g_subZ z_30 (by decide) (by omega) (by omega)
                    exact s_iret hx hb hr hlk hG hS dX7_question_181 (by unfold m_qsR; (repeat' split) <;> first | rfl | (exfalso; omega)) (by unfold m_qsM; (repeat' split) <;> first | rfl | (exfalso; omega))
                  · refine lv_iconst (v := (-1)) hx hb dX7_question_122 (by decide) ?_
                    exact s_iret hx hb hr hlk hG hS dX7_question_123 (by unfold m_qsR; (repeat' split) <;> first | rfl | (exfalso; omega)) (by unfold m_qsM; (repeat' split) <;> first | rfl | (exfalso; omega))
      · refine lv_iload_n hx hb dX7_question_43 rfl (lv_at hl 3 rfl) ?_
        refine g_cont (va_runS (As := [.int (b)]) (rest := []) ⟨hx, hb, hml, hown, hts⟩ (c_X7_isValue l D cy L τ (b) (b).toInt rfl) (cwS 1 hts gS_X7_101 rfl rfl rfl (by decide +kernel) ⟨Nat.le_of_ble_eq_true rfl, Nat.le_of_ble_eq_true rfl⟩) (g_preS hK hN hG) rfl rfl hl.1 rfl (lv_room (Nat.le_of_ble_eq_true rfl)) dX7_question_44 ⟨Nat.zero_le _, Nat.zero_le _⟩) hS (fun H locs hG hS => ?_)
        refine W.eq (g2 := F0 m 47 ls [.int (g_b (0 ≤ (b).toInt ∧ (b).toInt ≤ 999))]) rfl ?_
        refine kz_b_eq (tgt := 68) hx hb dX7_question_47 (by decide) (fun c_47_32 => ?_) (fun c_47_32 => ?_)
        · refine lv_iconst (v := 0) hx hb dX7_question_68 (by decide) ?_
          refine lv_istore (lv' := [(5, .int 0), (0, .ref (L (0, 0, 0))), (1, .int (k)), (2, .int (a)), (3, .int (b)), (4, .int (d))]) hx hb dX7_question_69 hl (by decide) rfl (fun ls hl => ?_)
          refine lv_iload_n hx hb dX7_question_71 rfl (lv_at hl 2 rfl) ?_
          refine lv_iconst (v := 2) hx hb dX7_question_72 (by decide) ?_
          refine lv_iconst (v := 4) hx hb dX7_question_73 (by decide) ?_
          refine g_cont (va_runS (As := [.int (k), .int 2, .int 4]) (rest := []) ⟨hx, hb, hml, hown, hts⟩ (c_X7_in l D cy L τ (k) (2) (4) (k).toInt 2 4 rfl (by decide) (by decide)) (cwS 3 hts gS_X7_87 rfl rfl rfl (by decide +kernel) ⟨Nat.le_of_ble_eq_true rfl, Nat.le_of_ble_eq_true rfl⟩) (g_preS hK hN hG) rfl rfl hl.1 rfl (lv_room (Nat.le_of_ble_eq_true rfl)) dX7_question_74 ⟨Nat.zero_le _, Nat.zero_le _⟩) hS (fun H locs hG hS => ?_)
          refine W.eq (g2 := F0 m 77 ls [.int (g_b (2 ≤ (k).toInt ∧ (k).toInt ≤ 4))]) rfl ?_
          refine kz_b_eq (tgt := 100) hx hb dX7_question_77 (by decide) (fun c_77_33 => ?_) (fun c_77_33 => ?_)
          · refine lv_iconst (v := 0) hx hb dX7_question_100 (by decide) ?_
            refine lv_istore (lv' := [(6, .int 0), (5, .int 0), (0, .ref (L (0, 0, 0))), (1, .int (k)), (2, .int (a)), (3, .int (b)), (4, .int (d))]) hx hb dX7_question_101 hl (by decide) rfl (fun ls hl => ?_)
            refine lv_iload hx hb dX7_question_103 (lv_at hl 1 rfl) ?_
            refine kz_if_ne (X := 0) hx hb (by decide) dX7_question_105 (tgt := 113) (by decide) (fun c_105_34 => ?_) (fun c_105_34 => ?_)
            · exact absurd c_105_34 (by decide)
            · refine lv_iload hx hb dX7_question_108 (lv_at hl 0 rfl) ?_
              refine kz_if_eq (X := 0) hx hb (by decide) dX7_question_110 (tgt := 122) (by decide) (fun c_110_35 => ?_) (fun c_110_35 => ?_)
              · refine lv_iconst (v := (-1)) hx hb dX7_question_122 (by decide) ?_
                exact s_iret hx hb hr hlk hG hS dX7_question_123 (by unfold m_qsR; (repeat' split) <;> first | rfl | (exfalso; omega)) (by unfold m_qsM; (repeat' split) <;> first | rfl | (exfalso; omega))
              · exact absurd c_110_35 (by decide)
          · refine lv_aload_n hx hb dX7_question_80 rfl (lv_at hl 1 rfl) ?_
            refine lv_iload_n hx hb dX7_question_81 rfl (lv_at hl 3 rfl) ?_
            refine g_cont (va_runV (As := [.int (a)]) (rest := []) ⟨hx, hb, hml, hown, hts⟩ (c_X7_isQuestion l D cy L τ (a) q0 q1) (cwV 1 hts gV_X7_104 rfl rfl rfl (by decide +kernel) ⟨Nat.le_of_ble_eq_true rfl, Nat.le_of_ble_eq_true rfl⟩) (g_preV hK hN hG (x := (0, 0, 0)) ⟨rfl, rfl⟩ (q := (RX7, TX7, 28)) (m_at_0 cy L 0 0 (τ (0, 0, 0))) rfl) rfl rfl hl.1 rfl (lv_room (Nat.le_of_ble_eq_true rfl)) dX7_question_82 ⟨Nat.zero_le _, Nat.zero_le _⟩) hS (fun H locs hG hS => ?_)
            refine W.eq (g2 := F0 m 85 ls [.int (g_b (0 ≤ (a).toInt ∧ (a).toInt ≤ ((τ (0, 0, 0) 4).toInt - 1)))]) rfl ?_
            refine kz_b_eq (tgt := 100) hx hb dX7_question_85 (by decide) (fun c_85_36 => ?_) (fun c_85_36 => ?_)
            · refine lv_iconst (v := 0) hx hb dX7_question_100 (by decide) ?_
              refine lv_istore (lv' := [(6, .int 0), (5, .int 0), (0, .ref (L (0, 0, 0))), (1, .int (k)), (2, .int (a)), (3, .int (b)), (4, .int (d))]) hx hb dX7_question_101 hl (by decide) rfl (fun ls hl => ?_)
              refine lv_iload hx hb dX7_question_103 (lv_at hl 1 rfl) ?_
              refine kz_if_ne (X := 0) hx hb (by decide) dX7_question_105 (tgt := 113) (by decide) (fun c_105_37 => ?_) (fun c_105_37 => ?_)
              · exact absurd c_105_37 (by decide)
              · refine lv_iload hx hb dX7_question_108 (lv_at hl 0 rfl) ?_
                refine kz_if_eq (X := 0) hx hb (by decide) dX7_question_110 (tgt := 122) (by decide) (fun c_110_38 => ?_) (fun c_110_38 => ?_)
                · refine lv_iconst (v := (-1)) hx hb dX7_question_122 (by decide) ?_
                  exact s_iret hx hb hr hlk hG hS dX7_question_123 (by unfold m_qsR; (repeat' split) <;> first | rfl | (exfalso; omega)) (by unfold m_qsM; (repeat' split) <;> first | rfl | (exfalso; omega))
                · exact absurd c_110_38 (by decide)
            · refine lv_aload_n hx hb dX7_question_88 rfl (lv_at hl 1 rfl) ?_
              refine lv_iload_n hx hb dX7_question_89 rfl (lv_at hl 4 rfl) ?_
              refine g_cont (va_runV (As := [.int (b)]) (rest := []) ⟨hx, hb, hml, hown, hts⟩ (c_X7_isQuestion l D cy L τ (b) q0 q1) (cwV 1 hts gV_X7_104 rfl rfl rfl (by decide +kernel) ⟨Nat.le_of_ble_eq_true rfl, Nat.le_of_ble_eq_true rfl⟩) (g_preV hK hN hG (x := (0, 0, 0)) ⟨rfl, rfl⟩ (q := (RX7, TX7, 28)) (m_at_0 cy L 0 0 (τ (0, 0, 0))) rfl) rfl rfl hl.1 rfl (lv_room (Nat.le_of_ble_eq_true rfl)) dX7_question_90 ⟨Nat.zero_le _, Nat.zero_le _⟩) hS (fun H locs hG hS => ?_)
              refine W.eq (g2 := F0 m 93 ls [.int (g_b (0 ≤ (b).toInt ∧ (b).toInt ≤ ((τ (0, 0, 0) 4).toInt - 1)))]) rfl ?_
              refine kz_b_eq (tgt := 100) hx hb dX7_question_93 (by decide) (fun c_93_39 => ?_) (fun c_93_39 => ?_)
              · refine lv_iconst (v := 0) hx hb dX7_question_100 (by decide) ?_
                refine lv_istore (lv' := [(6, .int 0), (5, .int 0), (0, .ref (L (0, 0, 0))), (1, .int (k)), (2, .int (a)), (3, .int (b)), (4, .int (d))]) hx hb dX7_question_101 hl (by decide) rfl (fun ls hl => ?_)
                refine lv_iload hx hb dX7_question_103 (lv_at hl 1 rfl) ?_
                refine kz_if_ne (X := 0) hx hb (by decide) dX7_question_105 (tgt := 113) (by decide) (fun c_105_40 => ?_) (fun c_105_40 => ?_)
                · exact absurd c_105_40 (by decide)
                · refine lv_iload hx hb dX7_question_108 (lv_at hl 0 rfl) ?_
                  refine kz_if_eq (X := 0) hx hb (by decide) dX7_question_110 (tgt := 122) (by decide) (fun c_110_41 => ?_) (fun c_110_41 => ?_)
                  · refine lv_iconst (v := (-1)) hx hb dX7_question_122 (by decide) ?_
                    exact s_iret hx hb hr hlk hG hS dX7_question_123 (by unfold m_qsR; (repeat' split) <;> first | rfl | (exfalso; omega)) (by unfold m_qsM; (repeat' split) <;> first | rfl | (exfalso; omega))
                  · exact absurd c_110_41 (by decide)
              · refine lv_iconst (v := 1) hx hb dX7_question_96 (by decide) ?_
                refine lv_goto (tgt := 101) hx hb dX7_question_97 (by decide) ?_
                refine lv_istore (lv' := [(6, .int 1), (5, .int 0), (0, .ref (L (0, 0, 0))), (1, .int (k)), (2, .int (a)), (3, .int (b)), (4, .int (d))]) hx hb dX7_question_101 hl (by decide) rfl (fun ls hl => ?_)
                refine lv_iload hx hb dX7_question_103 (lv_at hl 1 rfl) ?_
                refine kz_if_ne (X := 0) hx hb (by decide) dX7_question_105 (tgt := 113) (by decide) (fun c_105_42 => ?_) (fun c_105_42 => ?_)
                · exact absurd c_105_42 (by decide)
                · refine lv_iload hx hb dX7_question_108 (lv_at hl 0 rfl) ?_
                  refine kz_if_eq (X := 1) hx hb (by decide) dX7_question_110 (tgt := 122) (by decide) (fun c_110_43 => ?_) (fun c_110_43 => ?_)
                  · exact absurd c_110_43 (by decide)
                  · refine lv_aload_n hx hb dX7_question_113 rfl (lv_at hl 2 rfl) ?_
                    refine g_get (C := RX7) (T := TX7) (N := 28) (v := .int (τ (0, 0, 0) 4)) hx hb hts inX7g hown hK hG (0, 0, 0) ⟨rfl, rfl⟩ (m_at_0 cy L 0 0 (τ (0, 0, 0))) rfl 4 (by decide) fl_X7_98 rfl dX7_question_114 ?_
                    refine lv_bipush (v := 40) hx hb dX7_question_117 (by decide) ?_
                    refine kz_icmp_ne (X := (τ (0, 0, 0) 4).toInt) (Y := 40) hx hb rfl (by decide) dX7_question_119 (tgt := 124) (by decide) (fun c_119_44 => ?_) (fun c_119_44 => ?_)
                    · refine lv_aload_n hx hb dX7_question_124 rfl (lv_at hl 2 rfl) ?_
                      refine g_get (C := RX7) (T := TX7) (N := 28) (v := .ref (L (1, 5, 0))) hx hb hts inX7g hown hK hG (0, 0, 0) ⟨rfl, rfl⟩ (m_at_0 cy L 0 0 (τ (0, 0, 0))) rfl 5 (by decide) fl_X7_16 rfl dX7_question_125 ?_
                      refine lv_aload_n hx hb dX7_question_128 rfl (lv_at hl 2 rfl) ?_
                      refine g_get (C := RX7) (T := TX7) (N := 28) (v := .int (τ (0, 0, 0) 4)) hx hb hts inX7g hown hK hG (0, 0, 0) ⟨rfl, rfl⟩ (m_at_0 cy L 0 0 (τ (0, 0, 0))) rfl 4 (by decide) fl_X7_98 rfl dX7_question_129 ?_
                      refine lv_iload_n hx hb dX7_question_132 rfl (lv_at hl 3 rfl) ?_
                      refine g_iast (n := 40) hx hb hK hG hS (1, 5, 0) ⟨by decide, rfl⟩ 0 (fun _ => rfl) rfl (g_vp (by omega) (by omega)) dX7_question_133 (fun H locs hG hS => ?_)
                      rw [show (τ (0, 0, 0) 4 : Int32).toNatClampNeg = ((τ (0, 0, 0) 4).toInt).toNat from congrArg Int.toNat (show (τ (0, 0, 0) 4 : Int32).toInt = (τ (0, 0, 0) 4).toInt from rfl)] at hG
                      refine lv_aload_n hx hb dX7_question_134 rfl (lv_at hl 2 rfl) ?_
                      refine g_get (C := RX7) (T := TX7) (N := 28) (v := .ref (L (1, 6, 0))) hx hb hts inX7g hown hK hG (0, 0, 0) ⟨rfl, rfl⟩ (m_at_0 cy L 0 0 ((g_up τ (1, 5, 0) (((τ (0, 0, 0) 4).toInt).toNat) (k)) (0, 0, 0))) rfl 6 (by decide) fl_X7_19 rfl dX7_question_135 ?_
                      refine lv_aload_n hx hb dX7_question_138 rfl (lv_at hl 2 rfl) ?_
                      refine g_get (C := RX7) (T := TX7) (N := 28) (v := .int (τ (0, 0, 0) 4)) hx hb hts inX7g hown hK hG (0, 0, 0) ⟨rfl, rfl⟩ (m_at_0 cy L 0 0 ((g_up τ (1, 5, 0) (((τ (0, 0, 0) 4).toInt).toNat) (k)) (0, 0, 0))) rfl 4 (by decide) fl_X7_98 rfl dX7_question_139 ?_
                      refine lv_iload_n hx hb dX7_question_142 rfl (lv_at hl 4 rfl) ?_
                      refine g_iast (n := 40) hx hb hK hG hS (1, 6, 0) ⟨by decide, rfl⟩ 0 (fun _ => rfl) rfl (g_vp (by omega) (by omega)) dX7_question_143 (fun H locs hG hS => ?_)
                      rw [show (τ (0, 0, 0) 4 : Int32).toNatClampNeg = ((τ (0, 0, 0) 4).toInt).toNat from congrArg Int.toNat (show (τ (0, 0, 0) 4 : Int32).toInt = (τ (0, 0, 0) 4).toInt from rfl)] at hG
                      refine lv_aload_n hx hb dX7_question_144 rfl (lv_at hl 2 rfl) ?_
                      refine g_get (C := RX7) (T := TX7) (N := 28) (v := .ref (L (1, 7, 0))) hx hb hts inX7g hown hK hG (0, 0, 0) ⟨rfl, rfl⟩ (m_at_0 cy L 0 0 ((g_up (g_up τ (1, 5, 0) (((τ (0, 0, 0) 4).toInt).toNat) (k)) (1, 6, 0) (((τ (0, 0, 0) 4).toInt).toNat) (a)) (0, 0, 0))) rfl 7 (by decide) fl_X7_22 rfl dX7_question_145 ?_
                      refine lv_aload_n hx hb dX7_question_148 rfl (lv_at hl 2 rfl) ?_
                      refine g_get (C := RX7) (T := TX7) (N := 28) (v := .int (τ (0, 0, 0) 4)) hx hb hts inX7g hown hK hG (0, 0, 0) ⟨rfl, rfl⟩ (m_at_0 cy L 0 0 ((g_up (g_up τ (1, 5, 0) (((τ (0, 0, 0) 4).toInt).toNat) (k)) (1, 6, 0) (((τ (0, 0, 0) 4).toInt).toNat) (a)) (0, 0, 0))) rfl 4 (by decide) fl_X7_98 rfl dX7_question_149 ?_
                      refine lv_iload_n hx hb dX7_question_152 rfl (lv_at hl 5 rfl) ?_
                      refine g_iast (n := 40) hx hb hK hG hS (1, 7, 0) ⟨by decide, rfl⟩ 0 (fun _ => rfl) rfl (g_vp (by omega) (by omega)) dX7_question_153 (fun H locs hG hS => ?_)
                      rw [show (τ (0, 0, 0) 4 : Int32).toNatClampNeg = ((τ (0, 0, 0) 4).toInt).toNat from congrArg Int.toNat (show (τ (0, 0, 0) 4 : Int32).toInt = (τ (0, 0, 0) 4).toInt from rfl)] at hG
                      refine lv_aload_n hx hb dX7_question_154 rfl (lv_at hl 2 rfl) ?_
                      refine g_get (C := RX7) (T := TX7) (N := 28) (v := .ref (L (1, 8, 0))) hx hb hts inX7g hown hK hG (0, 0, 0) ⟨rfl, rfl⟩ (m_at_0 cy L 0 0 ((g_up (g_up (g_up τ (1, 5, 0) (((τ (0, 0, 0) 4).toInt).toNat) (k)) (1, 6, 0) (((τ (0, 0, 0) 4).toInt).toNat) (a)) (1, 7, 0) (((τ (0, 0, 0) 4).toInt).toNat) (b)) (0, 0, 0))) rfl 8 (by decide) fl_X7_25 rfl dX7_question_155 ?_
                      refine lv_aload_n hx hb dX7_question_158 rfl (lv_at hl 2 rfl) ?_
                      refine g_get (C := RX7) (T := TX7) (N := 28) (v := .int (τ (0, 0, 0) 4)) hx hb hts inX7g hown hK hG (0, 0, 0) ⟨rfl, rfl⟩ (m_at_0 cy L 0 0 ((g_up (g_up (g_up τ (1, 5, 0) (((τ (0, 0, 0) 4).toInt).toNat) (k)) (1, 6, 0) (((τ (0, 0, 0) 4).toInt).toNat) (a)) (1, 7, 0) (((τ (0, 0, 0) 4).toInt).toNat) (b)) (0, 0, 0))) rfl 4 (by decide) fl_X7_98 rfl dX7_question_159 ?_
                      refine lv_iload hx hb dX7_question_162 (lv_at hl 6 rfl) ?_
                      refine g_iast (n := 40) hx hb hK hG hS (1, 8, 0) ⟨by decide, rfl⟩ 0 (fun _ => rfl) rfl (g_vp (by omega) (by omega)) dX7_question_164 (fun H locs hG hS => ?_)
                      rw [show (τ (0, 0, 0) 4 : Int32).toNatClampNeg = ((τ (0, 0, 0) 4).toInt).toNat from congrArg Int.toNat (show (τ (0, 0, 0) 4 : Int32).toInt = (τ (0, 0, 0) 4).toInt from rfl)] at hG
                      refine lv_aload_n hx hb dX7_question_165 rfl (lv_at hl 2 rfl) ?_
                      refine lv_dup hx hb dX7_question_166 rfl ?_
                      refine g_get (C := RX7) (T := TX7) (N := 28) (v := .int (τ (0, 0, 0) 4)) hx hb hts inX7g hown hK hG (0, 0, 0) ⟨rfl, rfl⟩ (m_at_0 cy L 0 0 ((g_up (g_up (g_up (g_up τ (1, 5, 0) (((τ (0, 0, 0) 4).toInt).toNat) (k)) (1, 6, 0) (((τ (0, 0, 0) 4).toInt).toNat) (a)) (1, 7, 0) (((τ (0, 0, 0) 4).toInt).toNat) (b)) (1, 8, 0) (((τ (0, 0, 0) 4).toInt).toNat) (d)) (0, 0, 0))) rfl 4 (by decide) fl_X7_98 rfl dX7_question_167 ?_
                      refine lv_iconst (v := 1) hx hb dX7_question_170 (by decide) ?_
                      refine lv_iadd hx hb dX7_question_171 ?_
                      have z_45 : ((τ (0, 0, 0) 4) + (1)).toInt = ((τ (0, 0, 0) 4).toInt + 1) := g_addZ rfl (by decide) (by omega) (by omega)
                      refine g_puti (C := RX7) (T := TX7) (N := 28) (v := (τ (0, 0, 0) 4) + (1)) (ty := .int) hx hb hts inX7g tyX7_ok nmX7 hown hK hG hS (0, 0, 0) ⟨rfl, rfl⟩ (m_at_0 cy L 0 0 ((g_up (g_up (g_up (g_up τ (1, 5, 0) (((τ (0, 0, 0) 4).toInt).toNat) (k)) (1, 6, 0) (((τ (0, 0, 0) 4).toInt).toNat) (a)) (1, 7, 0) (((τ (0, 0, 0) 4).toInt).toNat) (b)) (1, 8, 0) (((τ (0, 0, 0) 4).toInt).toNat) (d)) (0, 0, 0))) rfl 4 (by decide) (m_up_0_4 cy L 0 0 ((g_up (g_up (g_up (g_up τ (1, 5, 0) (((τ (0, 0, 0) 4).toInt).toNat) (k)) (1, 6, 0) (((τ (0, 0, 0) 4).toInt).toNat) (a)) (1, 7, 0) (((τ (0, 0, 0) 4).toInt).toNat) (b)) (1, 8, 0) (((τ (0, 0, 0) 4).toInt).toNat) (d)) (0, 0, 0)) ((τ (0, 0, 0) 4) + (1))) fl_X7_98 rfl (by decide +kernel) rfl rfl (Nat.le_of_ble_eq_true rfl) dX7_question_172 (fun H locs hG hS => ?_)
                      refine lv_aload_n hx hb dX7_question_175 rfl (lv_at hl 2 rfl) ?_
                      refine g_get (C := RX7) (T := TX7) (N := 28) (v := .int ((τ (0, 0, 0) 4) + (1))) hx hb hts inX7g hown hK hG (0, 0, 0) ⟨rfl, rfl⟩ (m_at_0 cy L 0 0 ((g_up (g_up (g_up (g_up (g_up τ (1, 5, 0) (((τ (0, 0, 0) 4).toInt).toNat) (k)) (1, 6, 0) (((τ (0, 0, 0) 4).toInt).toNat) (a)) (1, 7, 0) (((τ (0, 0, 0) 4).toInt).toNat) (b)) (1, 8, 0) (((τ (0, 0, 0) 4).toInt).toNat) (d)) (0, 0, 0) (4) ((τ (0, 0, 0) 4) + (1))) (0, 0, 0))) rfl 4 (by decide) fl_X7_98 rfl dX7_question_176 ?_
                      refine lv_iconst (v := 1) hx hb dX7_question_179 (by decide) ?_
                      refine lv_isub hx hb dX7_question_180 ?_
                      have z_46 : (((τ (0, 0, 0) 4) + (1)) - (1)).toInt = (((τ (0, 0, 0) 4).toInt + 1) - 1) := g_subZ z_45 (by decide) (by omega) (by omega)
                      exact s_iret hx hb hr hlk hG hS dX7_question_181 (by unfold m_qsR; (repeat' split) <;> first | rfl | (exfalso; omega)) (by unfold m_qsM; (repeat' split) <;> first | rfl | (exfalso; omega))
                    · refine lv_iconst (v := (-1)) hx hb dX7_question_122 (by decide) ?_
                      exact s_iret hx hb hr hlk hG hS dX7_question_123 (by unfold m_qsR; (repeat' split) <;> first | rfl | (exfalso; omega)) (by unfold m_qsM; (repeat' split) <;> first | rfl | (exfalso; omega))
        · refine lv_iload hx hb dX7_question_50 (lv_at hl 4 rfl) ?_
          refine g_cont (va_runS (As := [.int (d)]) (rest := []) ⟨hx, hb, hml, hown, hts⟩ (c_X7_isValue l D cy L τ (d) (d).toInt rfl) (cwS 1 hts gS_X7_101 rfl rfl rfl (by decide +kernel) ⟨Nat.le_of_ble_eq_true rfl, Nat.le_of_ble_eq_true rfl⟩) (g_preS hK hN hG) rfl rfl hl.1 rfl (lv_room (Nat.le_of_ble_eq_true rfl)) dX7_question_52 ⟨Nat.zero_le _, Nat.zero_le _⟩) hS (fun H locs hG hS => ?_)
          refine W.eq (g2 := F0 m 55 ls [.int (g_b (0 ≤ (d).toInt ∧ (d).toInt ≤ 999))]) rfl ?_
          refine kz_b_eq (tgt := 68) hx hb dX7_question_55 (by decide) (fun c_55_47 => ?_) (fun c_55_47 => ?_)
          · refine lv_iconst (v := 0) hx hb dX7_question_68 (by decide) ?_
            refine lv_istore (lv' := [(5, .int 0), (0, .ref (L (0, 0, 0))), (1, .int (k)), (2, .int (a)), (3, .int (b)), (4, .int (d))]) hx hb dX7_question_69 hl (by decide) rfl (fun ls hl => ?_)
            refine lv_iload_n hx hb dX7_question_71 rfl (lv_at hl 2 rfl) ?_
            refine lv_iconst (v := 2) hx hb dX7_question_72 (by decide) ?_
            refine lv_iconst (v := 4) hx hb dX7_question_73 (by decide) ?_
            refine g_cont (va_runS (As := [.int (k), .int 2, .int 4]) (rest := []) ⟨hx, hb, hml, hown, hts⟩ (c_X7_in l D cy L τ (k) (2) (4) (k).toInt 2 4 rfl (by decide) (by decide)) (cwS 3 hts gS_X7_87 rfl rfl rfl (by decide +kernel) ⟨Nat.le_of_ble_eq_true rfl, Nat.le_of_ble_eq_true rfl⟩) (g_preS hK hN hG) rfl rfl hl.1 rfl (lv_room (Nat.le_of_ble_eq_true rfl)) dX7_question_74 ⟨Nat.zero_le _, Nat.zero_le _⟩) hS (fun H locs hG hS => ?_)
            refine W.eq (g2 := F0 m 77 ls [.int (g_b (2 ≤ (k).toInt ∧ (k).toInt ≤ 4))]) rfl ?_
            refine kz_b_eq (tgt := 100) hx hb dX7_question_77 (by decide) (fun c_77_48 => ?_) (fun c_77_48 => ?_)
            · refine lv_iconst (v := 0) hx hb dX7_question_100 (by decide) ?_
              refine lv_istore (lv' := [(6, .int 0), (5, .int 0), (0, .ref (L (0, 0, 0))), (1, .int (k)), (2, .int (a)), (3, .int (b)), (4, .int (d))]) hx hb dX7_question_101 hl (by decide) rfl (fun ls hl => ?_)
              refine lv_iload hx hb dX7_question_103 (lv_at hl 1 rfl) ?_
              refine kz_if_ne (X := 0) hx hb (by decide) dX7_question_105 (tgt := 113) (by decide) (fun c_105_49 => ?_) (fun c_105_49 => ?_)
              · exact absurd c_105_49 (by decide)
              · refine lv_iload hx hb dX7_question_108 (lv_at hl 0 rfl) ?_
                refine kz_if_eq (X := 0) hx hb (by decide) dX7_question_110 (tgt := 122) (by decide) (fun c_110_50 => ?_) (fun c_110_50 => ?_)
                · refine lv_iconst (v := (-1)) hx hb dX7_question_122 (by decide) ?_
                  exact s_iret hx hb hr hlk hG hS dX7_question_123 (by unfold m_qsR; (repeat' split) <;> first | rfl | (exfalso; omega)) (by unfold m_qsM; (repeat' split) <;> first | rfl | (exfalso; omega))
                · exact absurd c_110_50 (by decide)
            · refine lv_aload_n hx hb dX7_question_80 rfl (lv_at hl 1 rfl) ?_
              refine lv_iload_n hx hb dX7_question_81 rfl (lv_at hl 3 rfl) ?_
              refine g_cont (va_runV (As := [.int (a)]) (rest := []) ⟨hx, hb, hml, hown, hts⟩ (c_X7_isQuestion l D cy L τ (a) q0 q1) (cwV 1 hts gV_X7_104 rfl rfl rfl (by decide +kernel) ⟨Nat.le_of_ble_eq_true rfl, Nat.le_of_ble_eq_true rfl⟩) (g_preV hK hN hG (x := (0, 0, 0)) ⟨rfl, rfl⟩ (q := (RX7, TX7, 28)) (m_at_0 cy L 0 0 (τ (0, 0, 0))) rfl) rfl rfl hl.1 rfl (lv_room (Nat.le_of_ble_eq_true rfl)) dX7_question_82 ⟨Nat.zero_le _, Nat.zero_le _⟩) hS (fun H locs hG hS => ?_)
              refine W.eq (g2 := F0 m 85 ls [.int (g_b (0 ≤ (a).toInt ∧ (a).toInt ≤ ((τ (0, 0, 0) 4).toInt - 1)))]) rfl ?_
              refine kz_b_eq (tgt := 100) hx hb dX7_question_85 (by decide) (fun c_85_51 => ?_) (fun c_85_51 => ?_)
              · refine lv_iconst (v := 0) hx hb dX7_question_100 (by decide) ?_
                refine lv_istore (lv' := [(6, .int 0), (5, .int 0), (0, .ref (L (0, 0, 0))), (1, .int (k)), (2, .int (a)), (3, .int (b)), (4, .int (d))]) hx hb dX7_question_101 hl (by decide) rfl (fun ls hl => ?_)
                refine lv_iload hx hb dX7_question_103 (lv_at hl 1 rfl) ?_
                refine kz_if_ne (X := 0) hx hb (by decide) dX7_question_105 (tgt := 113) (by decide) (fun c_105_52 => ?_) (fun c_105_52 => ?_)
                · exact absurd c_105_52 (by decide)
                · refine lv_iload hx hb dX7_question_108 (lv_at hl 0 rfl) ?_
                  refine kz_if_eq (X := 0) hx hb (by decide) dX7_question_110 (tgt := 122) (by decide) (fun c_110_53 => ?_) (fun c_110_53 => ?_)
                  · refine lv_iconst (v := (-1)) hx hb dX7_question_122 (by decide) ?_
                    exact s_iret hx hb hr hlk hG hS dX7_question_123 (by unfold m_qsR; (repeat' split) <;> first | rfl | (exfalso; omega)) (by unfold m_qsM; (repeat' split) <;> first | rfl | (exfalso; omega))
                  · exact absurd c_110_53 (by decide)
              · refine lv_aload_n hx hb dX7_question_88 rfl (lv_at hl 1 rfl) ?_
                refine lv_iload_n hx hb dX7_question_89 rfl (lv_at hl 4 rfl) ?_
                refine g_cont (va_runV (As := [.int (b)]) (rest := []) ⟨hx, hb, hml, hown, hts⟩ (c_X7_isQuestion l D cy L τ (b) q0 q1) (cwV 1 hts gV_X7_104 rfl rfl rfl (by decide +kernel) ⟨Nat.le_of_ble_eq_true rfl, Nat.le_of_ble_eq_true rfl⟩) (g_preV hK hN hG (x := (0, 0, 0)) ⟨rfl, rfl⟩ (q := (RX7, TX7, 28)) (m_at_0 cy L 0 0 (τ (0, 0, 0))) rfl) rfl rfl hl.1 rfl (lv_room (Nat.le_of_ble_eq_true rfl)) dX7_question_90 ⟨Nat.zero_le _, Nat.zero_le _⟩) hS (fun H locs hG hS => ?_)
                refine W.eq (g2 := F0 m 93 ls [.int (g_b (0 ≤ (b).toInt ∧ (b).toInt ≤ ((τ (0, 0, 0) 4).toInt - 1)))]) rfl ?_
                refine kz_b_eq (tgt := 100) hx hb dX7_question_93 (by decide) (fun c_93_54 => ?_) (fun c_93_54 => ?_)
                · refine lv_iconst (v := 0) hx hb dX7_question_100 (by decide) ?_
                  refine lv_istore (lv' := [(6, .int 0), (5, .int 0), (0, .ref (L (0, 0, 0))), (1, .int (k)), (2, .int (a)), (3, .int (b)), (4, .int (d))]) hx hb dX7_question_101 hl (by decide) rfl (fun ls hl => ?_)
                  refine lv_iload hx hb dX7_question_103 (lv_at hl 1 rfl) ?_
                  refine kz_if_ne (X := 0) hx hb (by decide) dX7_question_105 (tgt := 113) (by decide) (fun c_105_55 => ?_) (fun c_105_55 => ?_)
                  · exact absurd c_105_55 (by decide)
                  · refine lv_iload hx hb dX7_question_108 (lv_at hl 0 rfl) ?_
                    refine kz_if_eq (X := 0) hx hb (by decide) dX7_question_110 (tgt := 122) (by decide) (fun c_110_56 => ?_) (fun c_110_56 => ?_)
                    · refine lv_iconst (v := (-1)) hx hb dX7_question_122 (by decide) ?_
                      exact s_iret hx hb hr hlk hG hS dX7_question_123 (by unfold m_qsR; (repeat' split) <;> first | rfl | (exfalso; omega)) (by unfold m_qsM; (repeat' split) <;> first | rfl | (exfalso; omega))
                    · exact absurd c_110_56 (by decide)
                · refine lv_iconst (v := 1) hx hb dX7_question_96 (by decide) ?_
                  refine lv_goto (tgt := 101) hx hb dX7_question_97 (by decide) ?_
                  refine lv_istore (lv' := [(6, .int 1), (5, .int 0), (0, .ref (L (0, 0, 0))), (1, .int (k)), (2, .int (a)), (3, .int (b)), (4, .int (d))]) hx hb dX7_question_101 hl (by decide) rfl (fun ls hl => ?_)
                  refine lv_iload hx hb dX7_question_103 (lv_at hl 1 rfl) ?_
                  refine kz_if_ne (X := 0) hx hb (by decide) dX7_question_105 (tgt := 113) (by decide) (fun c_105_57 => ?_) (fun c_105_57 => ?_)
                  · exact absurd c_105_57 (by decide)
                  · refine lv_iload hx hb dX7_question_108 (lv_at hl 0 rfl) ?_
                    refine kz_if_eq (X := 1) hx hb (by decide) dX7_question_110 (tgt := 122) (by decide) (fun c_110_58 => ?_) (fun c_110_58 => ?_)
                    · exact absurd c_110_58 (by decide)
                    · refine lv_aload_n hx hb dX7_question_113 rfl (lv_at hl 2 rfl) ?_
                      refine g_get (C := RX7) (T := TX7) (N := 28) (v := .int (τ (0, 0, 0) 4)) hx hb hts inX7g hown hK hG (0, 0, 0) ⟨rfl, rfl⟩ (m_at_0 cy L 0 0 (τ (0, 0, 0))) rfl 4 (by decide) fl_X7_98 rfl dX7_question_114 ?_
                      refine lv_bipush (v := 40) hx hb dX7_question_117 (by decide) ?_
                      refine kz_icmp_ne (X := (τ (0, 0, 0) 4).toInt) (Y := 40) hx hb rfl (by decide) dX7_question_119 (tgt := 124) (by decide) (fun c_119_59 => ?_) (fun c_119_59 => ?_)
                      · refine lv_aload_n hx hb dX7_question_124 rfl (lv_at hl 2 rfl) ?_
                        refine g_get (C := RX7) (T := TX7) (N := 28) (v := .ref (L (1, 5, 0))) hx hb hts inX7g hown hK hG (0, 0, 0) ⟨rfl, rfl⟩ (m_at_0 cy L 0 0 (τ (0, 0, 0))) rfl 5 (by decide) fl_X7_16 rfl dX7_question_125 ?_
                        refine lv_aload_n hx hb dX7_question_128 rfl (lv_at hl 2 rfl) ?_
                        refine g_get (C := RX7) (T := TX7) (N := 28) (v := .int (τ (0, 0, 0) 4)) hx hb hts inX7g hown hK hG (0, 0, 0) ⟨rfl, rfl⟩ (m_at_0 cy L 0 0 (τ (0, 0, 0))) rfl 4 (by decide) fl_X7_98 rfl dX7_question_129 ?_
                        refine lv_iload_n hx hb dX7_question_132 rfl (lv_at hl 3 rfl) ?_
                        refine g_iast (n := 40) hx hb hK hG hS (1, 5, 0) ⟨by decide, rfl⟩ 0 (fun _ => rfl) rfl (g_vp (by omega) (by omega)) dX7_question_133 (fun H locs hG hS => ?_)
                        rw [show (τ (0, 0, 0) 4 : Int32).toNatClampNeg = ((τ (0, 0, 0) 4).toInt).toNat from congrArg Int.toNat (show (τ (0, 0, 0) 4 : Int32).toInt = (τ (0, 0, 0) 4).toInt from rfl)] at hG
                        refine lv_aload_n hx hb dX7_question_134 rfl (lv_at hl 2 rfl) ?_
                        refine g_get (C := RX7) (T := TX7) (N := 28) (v := .ref (L (1, 6, 0))) hx hb hts inX7g hown hK hG (0, 0, 0) ⟨rfl, rfl⟩ (m_at_0 cy L 0 0 ((g_up τ (1, 5, 0) (((τ (0, 0, 0) 4).toInt).toNat) (k)) (0, 0, 0))) rfl 6 (by decide) fl_X7_19 rfl dX7_question_135 ?_
                        refine lv_aload_n hx hb dX7_question_138 rfl (lv_at hl 2 rfl) ?_
                        refine g_get (C := RX7) (T := TX7) (N := 28) (v := .int (τ (0, 0, 0) 4)) hx hb hts inX7g hown hK hG (0, 0, 0) ⟨rfl, rfl⟩ (m_at_0 cy L 0 0 ((g_up τ (1, 5, 0) (((τ (0, 0, 0) 4).toInt).toNat) (k)) (0, 0, 0))) rfl 4 (by decide) fl_X7_98 rfl dX7_question_139 ?_
                        refine lv_iload_n hx hb dX7_question_142 rfl (lv_at hl 4 rfl) ?_
                        refine g_iast (n := 40) hx hb hK hG hS (1, 6, 0) ⟨by decide, rfl⟩ 0 (fun _ => rfl) rfl (g_vp (by omega) (by omega)) dX7_question_143 (fun H locs hG hS => ?_)
                        rw [show (τ (0, 0, 0) 4 : Int32).toNatClampNeg = ((τ (0, 0, 0) 4).toInt).toNat from congrArg Int.toNat (show (τ (0, 0, 0) 4 : Int32).toInt = (τ (0, 0, 0) 4).toInt from rfl)] at hG
                        refine lv_aload_n hx hb dX7_question_144 rfl (lv_at hl 2 rfl) ?_
                        refine g_get (C := RX7) (T := TX7) (N := 28) (v := .ref (L (1, 7, 0))) hx hb hts inX7g hown hK hG (0, 0, 0) ⟨rfl, rfl⟩ (m_at_0 cy L 0 0 ((g_up (g_up τ (1, 5, 0) (((τ (0, 0, 0) 4).toInt).toNat) (k)) (1, 6, 0) (((τ (0, 0, 0) 4).toInt).toNat) (a)) (0, 0, 0))) rfl 7 (by decide) fl_X7_22 rfl dX7_question_145 ?_
                        refine lv_aload_n hx hb dX7_question_148 rfl (lv_at hl 2 rfl) ?_
                        refine g_get (C := RX7) (T := TX7) (N := 28) (v := .int (τ (0, 0, 0) 4)) hx hb hts inX7g hown hK hG (0, 0, 0) ⟨rfl, rfl⟩ (m_at_0 cy L 0 0 ((g_up (g_up τ (1, 5, 0) (((τ (0, 0, 0) 4).toInt).toNat) (k)) (1, 6, 0) (((τ (0, 0, 0) 4).toInt).toNat) (a)) (0, 0, 0))) rfl 4 (by decide) fl_X7_98 rfl dX7_question_149 ?_
                        refine lv_iload_n hx hb dX7_question_152 rfl (lv_at hl 5 rfl) ?_
                        refine g_iast (n := 40) hx hb hK hG hS (1, 7, 0) ⟨by decide, rfl⟩ 0 (fun _ => rfl) rfl (g_vp (by omega) (by omega)) dX7_question_153 (fun H locs hG hS => ?_)
                        rw [show (τ (0, 0, 0) 4 : Int32).toNatClampNeg = ((τ (0, 0, 0) 4).toInt).toNat from congrArg Int.toNat (show (τ (0, 0, 0) 4 : Int32).toInt = (τ (0, 0, 0) 4).toInt from rfl)] at hG
                        refine lv_aload_n hx hb dX7_question_154 rfl (lv_at hl 2 rfl) ?_
                        refine g_get (C := RX7) (T := TX7) (N := 28) (v := .ref (L (1, 8, 0))) hx hb hts inX7g hown hK hG (0, 0, 0) ⟨rfl, rfl⟩ (m_at_0 cy L 0 0 ((g_up (g_up (g_up τ (1, 5, 0) (((τ (0, 0, 0) 4).toInt).toNat) (k)) (1, 6, 0) (((τ (0, 0, 0) 4).toInt).toNat) (a)) (1, 7, 0) (((τ (0, 0, 0) 4).toInt).toNat) (b)) (0, 0, 0))) rfl 8 (by decide) fl_X7_25 rfl dX7_question_155 ?_
                        refine lv_aload_n hx hb dX7_question_158 rfl (lv_at hl 2 rfl) ?_
                        refine g_get (C := RX7) (T := TX7) (N := 28) (v := .int (τ (0, 0, 0) 4)) hx hb hts inX7g hown hK hG (0, 0, 0) ⟨rfl, rfl⟩ (m_at_0 cy L 0 0 ((g_up (g_up (g_up τ (1, 5, 0) (((τ (0, 0, 0) 4).toInt).toNat) (k)) (1, 6, 0) (((τ (0, 0, 0) 4).toInt).toNat) (a)) (1, 7, 0) (((τ (0, 0, 0) 4).toInt).toNat) (b)) (0, 0, 0))) rfl 4 (by decide) fl_X7_98 rfl dX7_question_159 ?_
                        refine lv_iload hx hb dX7_question_162 (lv_at hl 6 rfl) ?_
                        refine g_iast (n := 40) hx hb hK hG hS (1, 8, 0) ⟨by decide, rfl⟩ 0 (fun _ => rfl) rfl (g_vp (by omega) (by omega)) dX7_question_164 (fun H locs hG hS => ?_)
                        rw [show (τ (0, 0, 0) 4 : Int32).toNatClampNeg = ((τ (0, 0, 0) 4).toInt).toNat from congrArg Int.toNat (show (τ (0, 0, 0) 4 : Int32).toInt = (τ (0, 0, 0) 4).toInt from rfl)] at hG
                        refine lv_aload_n hx hb dX7_question_165 rfl (lv_at hl 2 rfl) ?_
                        refine lv_dup hx hb dX7_question_166 rfl ?_
                        refine g_get (C := RX7) (T := TX7) (N := 28) (v := .int (τ (0, 0, 0) 4)) hx hb hts inX7g hown hK hG (0, 0, 0) ⟨rfl, rfl⟩ (m_at_0 cy L 0 0 ((g_up (g_up (g_up (g_up τ (1, 5, 0) (((τ (0, 0, 0) 4).toInt).toNat) (k)) (1, 6, 0) (((τ (0, 0, 0) 4).toInt).toNat) (a)) (1, 7, 0) (((τ (0, 0, 0) 4).toInt).toNat) (b)) (1, 8, 0) (((τ (0, 0, 0) 4).toInt).toNat) (d)) (0, 0, 0))) rfl 4 (by decide) fl_X7_98 rfl dX7_question_167 ?_
                        refine lv_iconst (v := 1) hx hb dX7_question_170 (by decide) ?_
                        refine lv_iadd hx hb dX7_question_171 ?_
                        have z_60 : ((τ (0, 0, 0) 4) + (1)).toInt = ((τ (0, 0, 0) 4).toInt + 1) := g_addZ rfl (by decide) (by omega) (by omega)
                        refine g_puti (C := RX7) (T := TX7) (N := 28) (v := (τ (0, 0, 0) 4) + (1)) (ty := .int) hx hb hts inX7g tyX7_ok nmX7 hown hK hG hS (0, 0, 0) ⟨rfl, rfl⟩ (m_at_0 cy L 0 0 ((g_up (g_up (g_up (g_up τ (1, 5, 0) (((τ (0, 0, 0) 4).toInt).toNat) (k)) (1, 6, 0) (((τ (0, 0, 0) 4).toInt).toNat) (a)) (1, 7, 0) (((τ (0, 0, 0) 4).toInt).toNat) (b)) (1, 8, 0) (((τ (0, 0, 0) 4).toInt).toNat) (d)) (0, 0, 0))) rfl 4 (by decide) (m_up_0_4 cy L 0 0 ((g_up (g_up (g_up (g_up τ (1, 5, 0) (((τ (0, 0, 0) 4).toInt).toNat) (k)) (1, 6, 0) (((τ (0, 0, 0) 4).toInt).toNat) (a)) (1, 7, 0) (((τ (0, 0, 0) 4).toInt).toNat) (b)) (1, 8, 0) (((τ (0, 0, 0) 4).toInt).toNat) (d)) (0, 0, 0)) ((τ (0, 0, 0) 4) + (1))) fl_X7_98 rfl (by decide +kernel) rfl rfl (Nat.le_of_ble_eq_true rfl) dX7_question_172 (fun H locs hG hS => ?_)
                        refine lv_aload_n hx hb dX7_question_175 rfl (lv_at hl 2 rfl) ?_
                        refine g_get (C := RX7) (T := TX7) (N := 28) (v := .int ((τ (0, 0, 0) 4) + (1))) hx hb hts inX7g hown hK hG (0, 0, 0) ⟨rfl, rfl⟩ (m_at_0 cy L 0 0 ((g_up (g_up (g_up (g_up (g_up τ (1, 5, 0) (((τ (0, 0, 0) 4).toInt).toNat) (k)) (1, 6, 0) (((τ (0, 0, 0) 4).toInt).toNat) (a)) (1, 7, 0) (((τ (0, 0, 0) 4).toInt).toNat) (b)) (1, 8, 0) (((τ (0, 0, 0) 4).toInt).toNat) (d)) (0, 0, 0) (4) ((τ (0, 0, 0) 4) + (1))) (0, 0, 0))) rfl 4 (by decide) fl_X7_98 rfl dX7_question_176 ?_
                        refine lv_iconst (v := 1) hx hb dX7_question_179 (by decide) ?_
                        refine lv_isub hx hb dX7_question_180 ?_
                        have z_61 : (((τ (0, 0, 0) 4) + (1)) - (1)).toInt = (((τ (0, 0, 0) 4).toInt + 1) - 1) := g_subZ z_60 (by decide) (by omega) (by omega)
                        exact s_iret hx hb hr hlk hG hS dX7_question_181 (by unfold m_qsR; (repeat' split) <;> first | rfl | (exfalso; omega)) (by unfold m_qsM; (repeat' split) <;> first | rfl | (exfalso; omega))
                      · refine lv_iconst (v := (-1)) hx hb dX7_question_122 (by decide) ?_
                        exact s_iret hx hb hr hlk hG hS dX7_question_123 (by unfold m_qsR; (repeat' split) <;> first | rfl | (exfalso; omega)) (by unfold m_qsM; (repeat' split) <;> first | rfl | (exfalso; omega))
          · refine lv_iload_n hx hb dX7_question_58 rfl (lv_at hl 3 rfl) ?_
            refine lv_iload hx hb dX7_question_59 (lv_at hl 4 rfl) ?_
            refine kz_icmp_gt (X := (b).toInt) (Y := (d).toInt) hx hb rfl rfl dX7_question_61 (tgt := 68) (by decide) (fun c_61_62 => ?_) (fun c_61_62 => ?_)
            · refine lv_iconst (v := 0) hx hb dX7_question_68 (by decide) ?_
              refine lv_istore (lv' := [(5, .int 0), (0, .ref (L (0, 0, 0))), (1, .int (k)), (2, .int (a)), (3, .int (b)), (4, .int (d))]) hx hb dX7_question_69 hl (by decide) rfl (fun ls hl => ?_)
              refine lv_iload_n hx hb dX7_question_71 rfl (lv_at hl 2 rfl) ?_
              refine lv_iconst (v := 2) hx hb dX7_question_72 (by decide) ?_
              refine lv_iconst (v := 4) hx hb dX7_question_73 (by decide) ?_
              refine g_cont (va_runS (As := [.int (k), .int 2, .int 4]) (rest := []) ⟨hx, hb, hml, hown, hts⟩ (c_X7_in l D cy L τ (k) (2) (4) (k).toInt 2 4 rfl (by decide) (by decide)) (cwS 3 hts gS_X7_87 rfl rfl rfl (by decide +kernel) ⟨Nat.le_of_ble_eq_true rfl, Nat.le_of_ble_eq_true rfl⟩) (g_preS hK hN hG) rfl rfl hl.1 rfl (lv_room (Nat.le_of_ble_eq_true rfl)) dX7_question_74 ⟨Nat.zero_le _, Nat.zero_le _⟩) hS (fun H locs hG hS => ?_)
              refine W.eq (g2 := F0 m 77 ls [.int (g_b (2 ≤ (k).toInt ∧ (k).toInt ≤ 4))]) rfl ?_
              refine kz_b_eq (tgt := 100) hx hb dX7_question_77 (by decide) (fun c_77_63 => ?_) (fun c_77_63 => ?_)
              · refine lv_iconst (v := 0) hx hb dX7_question_100 (by decide) ?_
                refine lv_istore (lv' := [(6, .int 0), (5, .int 0), (0, .ref (L (0, 0, 0))), (1, .int (k)), (2, .int (a)), (3, .int (b)), (4, .int (d))]) hx hb dX7_question_101 hl (by decide) rfl (fun ls hl => ?_)
                refine lv_iload hx hb dX7_question_103 (lv_at hl 1 rfl) ?_
                refine kz_if_ne (X := 0) hx hb (by decide) dX7_question_105 (tgt := 113) (by decide) (fun c_105_64 => ?_) (fun c_105_64 => ?_)
                · exact absurd c_105_64 (by decide)
                · refine lv_iload hx hb dX7_question_108 (lv_at hl 0 rfl) ?_
                  refine kz_if_eq (X := 0) hx hb (by decide) dX7_question_110 (tgt := 122) (by decide) (fun c_110_65 => ?_) (fun c_110_65 => ?_)
                  · refine lv_iconst (v := (-1)) hx hb dX7_question_122 (by decide) ?_
                    exact s_iret hx hb hr hlk hG hS dX7_question_123 (by unfold m_qsR; (repeat' split) <;> first | rfl | (exfalso; omega)) (by unfold m_qsM; (repeat' split) <;> first | rfl | (exfalso; omega))
                  · exact absurd c_110_65 (by decide)
              · refine lv_aload_n hx hb dX7_question_80 rfl (lv_at hl 1 rfl) ?_
                refine lv_iload_n hx hb dX7_question_81 rfl (lv_at hl 3 rfl) ?_
                refine g_cont (va_runV (As := [.int (a)]) (rest := []) ⟨hx, hb, hml, hown, hts⟩ (c_X7_isQuestion l D cy L τ (a) q0 q1) (cwV 1 hts gV_X7_104 rfl rfl rfl (by decide +kernel) ⟨Nat.le_of_ble_eq_true rfl, Nat.le_of_ble_eq_true rfl⟩) (g_preV hK hN hG (x := (0, 0, 0)) ⟨rfl, rfl⟩ (q := (RX7, TX7, 28)) (m_at_0 cy L 0 0 (τ (0, 0, 0))) rfl) rfl rfl hl.1 rfl (lv_room (Nat.le_of_ble_eq_true rfl)) dX7_question_82 ⟨Nat.zero_le _, Nat.zero_le _⟩) hS (fun H locs hG hS => ?_)
                refine W.eq (g2 := F0 m 85 ls [.int (g_b (0 ≤ (a).toInt ∧ (a).toInt ≤ ((τ (0, 0, 0) 4).toInt - 1)))]) rfl ?_
                refine kz_b_eq (tgt := 100) hx hb dX7_question_85 (by decide) (fun c_85_66 => ?_) (fun c_85_66 => ?_)
                · refine lv_iconst (v := 0) hx hb dX7_question_100 (by decide) ?_
                  refine lv_istore (lv' := [(6, .int 0), (5, .int 0), (0, .ref (L (0, 0, 0))), (1, .int (k)), (2, .int (a)), (3, .int (b)), (4, .int (d))]) hx hb dX7_question_101 hl (by decide) rfl (fun ls hl => ?_)
                  refine lv_iload hx hb dX7_question_103 (lv_at hl 1 rfl) ?_
                  refine kz_if_ne (X := 0) hx hb (by decide) dX7_question_105 (tgt := 113) (by decide) (fun c_105_67 => ?_) (fun c_105_67 => ?_)
                  · exact absurd c_105_67 (by decide)
                  · refine lv_iload hx hb dX7_question_108 (lv_at hl 0 rfl) ?_
                    refine kz_if_eq (X := 0) hx hb (by decide) dX7_question_110 (tgt := 122) (by decide) (fun c_110_68 => ?_) (fun c_110_68 => ?_)
                    · refine lv_iconst (v := (-1)) hx hb dX7_question_122 (by decide) ?_
                      exact s_iret hx hb hr hlk hG hS dX7_question_123 (by unfold m_qsR; (repeat' split) <;> first | rfl | (exfalso; omega)) (by unfold m_qsM; (repeat' split) <;> first | rfl | (exfalso; omega))
                    · exact absurd c_110_68 (by decide)
                · refine lv_aload_n hx hb dX7_question_88 rfl (lv_at hl 1 rfl) ?_
                  refine lv_iload_n hx hb dX7_question_89 rfl (lv_at hl 4 rfl) ?_
                  refine g_cont (va_runV (As := [.int (b)]) (rest := []) ⟨hx, hb, hml, hown, hts⟩ (c_X7_isQuestion l D cy L τ (b) q0 q1) (cwV 1 hts gV_X7_104 rfl rfl rfl (by decide +kernel) ⟨Nat.le_of_ble_eq_true rfl, Nat.le_of_ble_eq_true rfl⟩) (g_preV hK hN hG (x := (0, 0, 0)) ⟨rfl, rfl⟩ (q := (RX7, TX7, 28)) (m_at_0 cy L 0 0 (τ (0, 0, 0))) rfl) rfl rfl hl.1 rfl (lv_room (Nat.le_of_ble_eq_true rfl)) dX7_question_90 ⟨Nat.zero_le _, Nat.zero_le _⟩) hS (fun H locs hG hS => ?_)
                  refine W.eq (g2 := F0 m 93 ls [.int (g_b (0 ≤ (b).toInt ∧ (b).toInt ≤ ((τ (0, 0, 0) 4).toInt - 1)))]) rfl ?_
                  refine kz_b_eq (tgt := 100) hx hb dX7_question_93 (by decide) (fun c_93_69 => ?_) (fun c_93_69 => ?_)
                  · refine lv_iconst (v := 0) hx hb dX7_question_100 (by decide) ?_
                    refine lv_istore (lv' := [(6, .int 0), (5, .int 0), (0, .ref (L (0, 0, 0))), (1, .int (k)), (2, .int (a)), (3, .int (b)), (4, .int (d))]) hx hb dX7_question_101 hl (by decide) rfl (fun ls hl => ?_)
                    refine lv_iload hx hb dX7_question_103 (lv_at hl 1 rfl) ?_
                    refine kz_if_ne (X := 0) hx hb (by decide) dX7_question_105 (tgt := 113) (by decide) (fun c_105_70 => ?_) (fun c_105_70 => ?_)
                    · exact absurd c_105_70 (by decide)
                    · refine lv_iload hx hb dX7_question_108 (lv_at hl 0 rfl) ?_
                      refine kz_if_eq (X := 0) hx hb (by decide) dX7_question_110 (tgt := 122) (by decide) (fun c_110_71 => ?_) (fun c_110_71 => ?_)
                      · refine lv_iconst (v := (-1)) hx hb dX7_question_122 (by decide) ?_
                        exact s_iret hx hb hr hlk hG hS dX7_question_123 (by unfold m_qsR; (repeat' split) <;> first | rfl | (exfalso; omega)) (by unfold m_qsM; (repeat' split) <;> first | rfl | (exfalso; omega))
                      · exact absurd c_110_71 (by decide)
                  · refine lv_iconst (v := 1) hx hb dX7_question_96 (by decide) ?_
                    refine lv_goto (tgt := 101) hx hb dX7_question_97 (by decide) ?_
                    refine lv_istore (lv' := [(6, .int 1), (5, .int 0), (0, .ref (L (0, 0, 0))), (1, .int (k)), (2, .int (a)), (3, .int (b)), (4, .int (d))]) hx hb dX7_question_101 hl (by decide) rfl (fun ls hl => ?_)
                    refine lv_iload hx hb dX7_question_103 (lv_at hl 1 rfl) ?_
                    refine kz_if_ne (X := 0) hx hb (by decide) dX7_question_105 (tgt := 113) (by decide) (fun c_105_72 => ?_) (fun c_105_72 => ?_)
                    · exact absurd c_105_72 (by decide)
                    · refine lv_iload hx hb dX7_question_108 (lv_at hl 0 rfl) ?_
                      refine kz_if_eq (X := 1) hx hb (by decide) dX7_question_110 (tgt := 122) (by decide) (fun c_110_73 => ?_) (fun c_110_73 => ?_)
                      · exact absurd c_110_73 (by decide)
                      · refine lv_aload_n hx hb dX7_question_113 rfl (lv_at hl 2 rfl) ?_
                        refine g_get (C := RX7) (T := TX7) (N := 28) (v := .int (τ (0, 0, 0) 4)) hx hb hts inX7g hown hK hG (0, 0, 0) ⟨rfl, rfl⟩ (m_at_0 cy L 0 0 (τ (0, 0, 0))) rfl 4 (by decide) fl_X7_98 rfl dX7_question_114 ?_
                        refine lv_bipush (v := 40) hx hb dX7_question_117 (by decide) ?_
                        refine kz_icmp_ne (X := (τ (0, 0, 0) 4).toInt) (Y := 40) hx hb rfl (by decide) dX7_question_119 (tgt := 124) (by decide) (fun c_119_74 => ?_) (fun c_119_74 => ?_)
                        · refine lv_aload_n hx hb dX7_question_124 rfl (lv_at hl 2 rfl) ?_
                          refine g_get (C := RX7) (T := TX7) (N := 28) (v := .ref (L (1, 5, 0))) hx hb hts inX7g hown hK hG (0, 0, 0) ⟨rfl, rfl⟩ (m_at_0 cy L 0 0 (τ (0, 0, 0))) rfl 5 (by decide) fl_X7_16 rfl dX7_question_125 ?_
                          refine lv_aload_n hx hb dX7_question_128 rfl (lv_at hl 2 rfl) ?_
                          refine g_get (C := RX7) (T := TX7) (N := 28) (v := .int (τ (0, 0, 0) 4)) hx hb hts inX7g hown hK hG (0, 0, 0) ⟨rfl, rfl⟩ (m_at_0 cy L 0 0 (τ (0, 0, 0))) rfl 4 (by decide) fl_X7_98 rfl dX7_question_129 ?_
                          refine lv_iload_n hx hb dX7_question_132 rfl (lv_at hl 3 rfl) ?_
                          refine g_iast (n := 40) hx hb hK hG hS (1, 5, 0) ⟨by decide, rfl⟩ 0 (fun _ => rfl) rfl (g_vp (by omega) (by omega)) dX7_question_133 (fun H locs hG hS => ?_)
                          rw [show (τ (0, 0, 0) 4 : Int32).toNatClampNeg = ((τ (0, 0, 0) 4).toInt).toNat from congrArg Int.toNat (show (τ (0, 0, 0) 4 : Int32).toInt = (τ (0, 0, 0) 4).toInt from rfl)] at hG
                          refine lv_aload_n hx hb dX7_question_134 rfl (lv_at hl 2 rfl) ?_
                          refine g_get (C := RX7) (T := TX7) (N := 28) (v := .ref (L (1, 6, 0))) hx hb hts inX7g hown hK hG (0, 0, 0) ⟨rfl, rfl⟩ (m_at_0 cy L 0 0 ((g_up τ (1, 5, 0) (((τ (0, 0, 0) 4).toInt).toNat) (k)) (0, 0, 0))) rfl 6 (by decide) fl_X7_19 rfl dX7_question_135 ?_
                          refine lv_aload_n hx hb dX7_question_138 rfl (lv_at hl 2 rfl) ?_
                          refine g_get (C := RX7) (T := TX7) (N := 28) (v := .int (τ (0, 0, 0) 4)) hx hb hts inX7g hown hK hG (0, 0, 0) ⟨rfl, rfl⟩ (m_at_0 cy L 0 0 ((g_up τ (1, 5, 0) (((τ (0, 0, 0) 4).toInt).toNat) (k)) (0, 0, 0))) rfl 4 (by decide) fl_X7_98 rfl dX7_question_139 ?_
                          refine lv_iload_n hx hb dX7_question_142 rfl (lv_at hl 4 rfl) ?_
                          refine g_iast (n := 40) hx hb hK hG hS (1, 6, 0) ⟨by decide, rfl⟩ 0 (fun _ => rfl) rfl (g_vp (by omega) (by omega)) dX7_question_143 (fun H locs hG hS => ?_)
                          rw [show (τ (0, 0, 0) 4 : Int32).toNatClampNeg = ((τ (0, 0, 0) 4).toInt).toNat from congrArg Int.toNat (show (τ (0, 0, 0) 4 : Int32).toInt = (τ (0, 0, 0) 4).toInt from rfl)] at hG
                          refine lv_aload_n hx hb dX7_question_144 rfl (lv_at hl 2 rfl) ?_
                          refine g_get (C := RX7) (T := TX7) (N := 28) (v := .ref (L (1, 7, 0))) hx hb hts inX7g hown hK hG (0, 0, 0) ⟨rfl, rfl⟩ (m_at_0 cy L 0 0 ((g_up (g_up τ (1, 5, 0) (((τ (0, 0, 0) 4).toInt).toNat) (k)) (1, 6, 0) (((τ (0, 0, 0) 4).toInt).toNat) (a)) (0, 0, 0))) rfl 7 (by decide) fl_X7_22 rfl dX7_question_145 ?_
                          refine lv_aload_n hx hb dX7_question_148 rfl (lv_at hl 2 rfl) ?_
                          refine g_get (C := RX7) (T := TX7) (N := 28) (v := .int (τ (0, 0, 0) 4)) hx hb hts inX7g hown hK hG (0, 0, 0) ⟨rfl, rfl⟩ (m_at_0 cy L 0 0 ((g_up (g_up τ (1, 5, 0) (((τ (0, 0, 0) 4).toInt).toNat) (k)) (1, 6, 0) (((τ (0, 0, 0) 4).toInt).toNat) (a)) (0, 0, 0))) rfl 4 (by decide) fl_X7_98 rfl dX7_question_149 ?_
                          refine lv_iload_n hx hb dX7_question_152 rfl (lv_at hl 5 rfl) ?_
                          refine g_iast (n := 40) hx hb hK hG hS (1, 7, 0) ⟨by decide, rfl⟩ 0 (fun _ => rfl) rfl (g_vp (by omega) (by omega)) dX7_question_153 (fun H locs hG hS => ?_)
                          rw [show (τ (0, 0, 0) 4 : Int32).toNatClampNeg = ((τ (0, 0, 0) 4).toInt).toNat from congrArg Int.toNat (show (τ (0, 0, 0) 4 : Int32).toInt = (τ (0, 0, 0) 4).toInt from rfl)] at hG
                          refine lv_aload_n hx hb dX7_question_154 rfl (lv_at hl 2 rfl) ?_
                          refine g_get (C := RX7) (T := TX7) (N := 28) (v := .ref (L (1, 8, 0))) hx hb hts inX7g hown hK hG (0, 0, 0) ⟨rfl, rfl⟩ (m_at_0 cy L 0 0 ((g_up (g_up (g_up τ (1, 5, 0) (((τ (0, 0, 0) 4).toInt).toNat) (k)) (1, 6, 0) (((τ (0, 0, 0) 4).toInt).toNat) (a)) (1, 7, 0) (((τ (0, 0, 0) 4).toInt).toNat) (b)) (0, 0, 0))) rfl 8 (by decide) fl_X7_25 rfl dX7_question_155 ?_
                          refine lv_aload_n hx hb dX7_question_158 rfl (lv_at hl 2 rfl) ?_
                          refine g_get (C := RX7) (T := TX7) (N := 28) (v := .int (τ (0, 0, 0) 4)) hx hb hts inX7g hown hK hG (0, 0, 0) ⟨rfl, rfl⟩ (m_at_0 cy L 0 0 ((g_up (g_up (g_up τ (1, 5, 0) (((τ (0, 0, 0) 4).toInt).toNat) (k)) (1, 6, 0) (((τ (0, 0, 0) 4).toInt).toNat) (a)) (1, 7, 0) (((τ (0, 0, 0) 4).toInt).toNat) (b)) (0, 0, 0))) rfl 4 (by decide) fl_X7_98 rfl dX7_question_159 ?_
                          refine lv_iload hx hb dX7_question_162 (lv_at hl 6 rfl) ?_
                          refine g_iast (n := 40) hx hb hK hG hS (1, 8, 0) ⟨by decide, rfl⟩ 0 (fun _ => rfl) rfl (g_vp (by omega) (by omega)) dX7_question_164 (fun H locs hG hS => ?_)
                          rw [show (τ (0, 0, 0) 4 : Int32).toNatClampNeg = ((τ (0, 0, 0) 4).toInt).toNat from congrArg Int.toNat (show (τ (0, 0, 0) 4 : Int32).toInt = (τ (0, 0, 0) 4).toInt from rfl)] at hG
                          refine lv_aload_n hx hb dX7_question_165 rfl (lv_at hl 2 rfl) ?_
                          refine lv_dup hx hb dX7_question_166 rfl ?_
                          refine g_get (C := RX7) (T := TX7) (N := 28) (v := .int (τ (0, 0, 0) 4)) hx hb hts inX7g hown hK hG (0, 0, 0) ⟨rfl, rfl⟩ (m_at_0 cy L 0 0 ((g_up (g_up (g_up (g_up τ (1, 5, 0) (((τ (0, 0, 0) 4).toInt).toNat) (k)) (1, 6, 0) (((τ (0, 0, 0) 4).toInt).toNat) (a)) (1, 7, 0) (((τ (0, 0, 0) 4).toInt).toNat) (b)) (1, 8, 0) (((τ (0, 0, 0) 4).toInt).toNat) (d)) (0, 0, 0))) rfl 4 (by decide) fl_X7_98 rfl dX7_question_167 ?_
                          refine lv_iconst (v := 1) hx hb dX7_question_170 (by decide) ?_
                          refine lv_iadd hx hb dX7_question_171 ?_
                          have z_75 : ((τ (0, 0, 0) 4) + (1)).toInt = ((τ (0, 0, 0) 4).toInt + 1) := g_addZ rfl (by decide) (by omega) (by omega)
                          refine g_puti (C := RX7) (T := TX7) (N := 28) (v := (τ (0, 0, 0) 4) + (1)) (ty := .int) hx hb hts inX7g tyX7_ok nmX7 hown hK hG hS (0, 0, 0) ⟨rfl, rfl⟩ (m_at_0 cy L 0 0 ((g_up (g_up (g_up (g_up τ (1, 5, 0) (((τ (0, 0, 0) 4).toInt).toNat) (k)) (1, 6, 0) (((τ (0, 0, 0) 4).toInt).toNat) (a)) (1, 7, 0) (((τ (0, 0, 0) 4).toInt).toNat) (b)) (1, 8, 0) (((τ (0, 0, 0) 4).toInt).toNat) (d)) (0, 0, 0))) rfl 4 (by decide) (m_up_0_4 cy L 0 0 ((g_up (g_up (g_up (g_up τ (1, 5, 0) (((τ (0, 0, 0) 4).toInt).toNat) (k)) (1, 6, 0) (((τ (0, 0, 0) 4).toInt).toNat) (a)) (1, 7, 0) (((τ (0, 0, 0) 4).toInt).toNat) (b)) (1, 8, 0) (((τ (0, 0, 0) 4).toInt).toNat) (d)) (0, 0, 0)) ((τ (0, 0, 0) 4) + (1))) fl_X7_98 rfl (by decide +kernel) rfl rfl (Nat.le_of_ble_eq_true rfl) dX7_question_172 (fun H locs hG hS => ?_)
                          refine lv_aload_n hx hb dX7_question_175 rfl (lv_at hl 2 rfl) ?_
                          refine g_get (C := RX7) (T := TX7) (N := 28) (v := .int ((τ (0, 0, 0) 4) + (1))) hx hb hts inX7g hown hK hG (0, 0, 0) ⟨rfl, rfl⟩ (m_at_0 cy L 0 0 ((g_up (g_up (g_up (g_up (g_up τ (1, 5, 0) (((τ (0, 0, 0) 4).toInt).toNat) (k)) (1, 6, 0) (((τ (0, 0, 0) 4).toInt).toNat) (a)) (1, 7, 0) (((τ (0, 0, 0) 4).toInt).toNat) (b)) (1, 8, 0) (((τ (0, 0, 0) 4).toInt).toNat) (d)) (0, 0, 0) (4) ((τ (0, 0, 0) 4) + (1))) (0, 0, 0))) rfl 4 (by decide) fl_X7_98 rfl dX7_question_176 ?_
                          refine lv_iconst (v := 1) hx hb dX7_question_179 (by decide) ?_
                          refine lv_isub hx hb dX7_question_180 ?_
                          have z_76 : (((τ (0, 0, 0) 4) + (1)) - (1)).toInt = (((τ (0, 0, 0) 4).toInt + 1) - 1) := g_subZ z_75 (by decide) (by omega) (by omega)
                          exact s_iret hx hb hr hlk hG hS dX7_question_181 (by unfold m_qsR; (repeat' split) <;> first | rfl | (exfalso; omega)) (by unfold m_qsM; (repeat' split) <;> first | rfl | (exfalso; omega))
                        · refine lv_iconst (v := (-1)) hx hb dX7_question_122 (by decide) ?_
                          exact s_iret hx hb hr hlk hG hS dX7_question_123 (by unfold m_qsR; (repeat' split) <;> first | rfl | (exfalso; omega)) (by unfold m_qsM; (repeat' split) <;> first | rfl | (exfalso; omega))
            · refine lv_iconst (v := 1) hx hb dX7_question_64 (by decide) ?_
              refine lv_goto (tgt := 69) hx hb dX7_question_65 (by decide) ?_
              refine lv_istore (lv' := [(5, .int 1), (0, .ref (L (0, 0, 0))), (1, .int (k)), (2, .int (a)), (3, .int (b)), (4, .int (d))]) hx hb dX7_question_69 hl (by decide) rfl (fun ls hl => ?_)
              refine lv_iload_n hx hb dX7_question_71 rfl (lv_at hl 2 rfl) ?_
              refine lv_iconst (v := 2) hx hb dX7_question_72 (by decide) ?_
              refine lv_iconst (v := 4) hx hb dX7_question_73 (by decide) ?_
              refine g_cont (va_runS (As := [.int (k), .int 2, .int 4]) (rest := []) ⟨hx, hb, hml, hown, hts⟩ (c_X7_in l D cy L τ (k) (2) (4) (k).toInt 2 4 rfl (by decide) (by decide)) (cwS 3 hts gS_X7_87 rfl rfl rfl (by decide +kernel) ⟨Nat.le_of_ble_eq_true rfl, Nat.le_of_ble_eq_true rfl⟩) (g_preS hK hN hG) rfl rfl hl.1 rfl (lv_room (Nat.le_of_ble_eq_true rfl)) dX7_question_74 ⟨Nat.zero_le _, Nat.zero_le _⟩) hS (fun H locs hG hS => ?_)
              refine W.eq (g2 := F0 m 77 ls [.int (g_b (2 ≤ (k).toInt ∧ (k).toInt ≤ 4))]) rfl ?_
              refine kz_b_eq (tgt := 100) hx hb dX7_question_77 (by decide) (fun c_77_77 => ?_) (fun c_77_77 => ?_)
              · refine lv_iconst (v := 0) hx hb dX7_question_100 (by decide) ?_
                refine lv_istore (lv' := [(6, .int 0), (5, .int 1), (0, .ref (L (0, 0, 0))), (1, .int (k)), (2, .int (a)), (3, .int (b)), (4, .int (d))]) hx hb dX7_question_101 hl (by decide) rfl (fun ls hl => ?_)
                refine lv_iload hx hb dX7_question_103 (lv_at hl 1 rfl) ?_
                refine kz_if_ne (X := 1) hx hb (by decide) dX7_question_105 (tgt := 113) (by decide) (fun c_105_78 => ?_) (fun c_105_78 => ?_)
                · refine lv_aload_n hx hb dX7_question_113 rfl (lv_at hl 2 rfl) ?_
                  refine g_get (C := RX7) (T := TX7) (N := 28) (v := .int (τ (0, 0, 0) 4)) hx hb hts inX7g hown hK hG (0, 0, 0) ⟨rfl, rfl⟩ (m_at_0 cy L 0 0 (τ (0, 0, 0))) rfl 4 (by decide) fl_X7_98 rfl dX7_question_114 ?_
                  refine lv_bipush (v := 40) hx hb dX7_question_117 (by decide) ?_
                  refine kz_icmp_ne (X := (τ (0, 0, 0) 4).toInt) (Y := 40) hx hb rfl (by decide) dX7_question_119 (tgt := 124) (by decide) (fun c_119_79 => ?_) (fun c_119_79 => ?_)
                  · refine lv_aload_n hx hb dX7_question_124 rfl (lv_at hl 2 rfl) ?_
                    refine g_get (C := RX7) (T := TX7) (N := 28) (v := .ref (L (1, 5, 0))) hx hb hts inX7g hown hK hG (0, 0, 0) ⟨rfl, rfl⟩ (m_at_0 cy L 0 0 (τ (0, 0, 0))) rfl 5 (by decide) fl_X7_16 rfl dX7_question_125 ?_
                    refine lv_aload_n hx hb dX7_question_128 rfl (lv_at hl 2 rfl) ?_
                    refine g_get (C := RX7) (T := TX7) (N := 28) (v := .int (τ (0, 0, 0) 4)) hx hb hts inX7g hown hK hG (0, 0, 0) ⟨rfl, rfl⟩ (m_at_0 cy L 0 0 (τ (0, 0, 0))) rfl 4 (by decide) fl_X7_98 rfl dX7_question_129 ?_
                    refine lv_iload_n hx hb dX7_question_132 rfl (lv_at hl 3 rfl) ?_
                    refine g_iast (n := 40) hx hb hK hG hS (1, 5, 0) ⟨by decide, rfl⟩ 0 (fun _ => rfl) rfl (g_vp (by omega) (by omega)) dX7_question_133 (fun H locs hG hS => ?_)
                    rw [show (τ (0, 0, 0) 4 : Int32).toNatClampNeg = ((τ (0, 0, 0) 4).toInt).toNat from congrArg Int.toNat (show (τ (0, 0, 0) 4 : Int32).toInt = (τ (0, 0, 0) 4).toInt from rfl)] at hG
                    refine lv_aload_n hx hb dX7_question_134 rfl (lv_at hl 2 rfl) ?_
                    refine g_get (C := RX7) (T := TX7) (N := 28) (v := .ref (L (1, 6, 0))) hx hb hts inX7g hown hK hG (0, 0, 0) ⟨rfl, rfl⟩ (m_at_0 cy L 0 0 ((g_up τ (1, 5, 0) (((τ (0, 0, 0) 4).toInt).toNat) (k)) (0, 0, 0))) rfl 6 (by decide) fl_X7_19 rfl dX7_question_135 ?_
                    refine lv_aload_n hx hb dX7_question_138 rfl (lv_at hl 2 rfl) ?_
                    refine g_get (C := RX7) (T := TX7) (N := 28) (v := .int (τ (0, 0, 0) 4)) hx hb hts inX7g hown hK hG (0, 0, 0) ⟨rfl, rfl⟩ (m_at_0 cy L 0 0 ((g_up τ (1, 5, 0) (((τ (0, 0, 0) 4).toInt).toNat) (k)) (0, 0, 0))) rfl 4 (by decide) fl_X7_98 rfl dX7_question_139 ?_
                    refine lv_iload_n hx hb dX7_question_142 rfl (lv_at hl 4 rfl) ?_
                    refine g_iast (n := 40) hx hb hK hG hS (1, 6, 0) ⟨by decide, rfl⟩ 0 (fun _ => rfl) rfl (g_vp (by omega) (by omega)) dX7_question_143 (fun H locs hG hS => ?_)
                    rw [show (τ (0, 0, 0) 4 : Int32).toNatClampNeg = ((τ (0, 0, 0) 4).toInt).toNat from congrArg Int.toNat (show (τ (0, 0, 0) 4 : Int32).toInt = (τ (0, 0, 0) 4).toInt from rfl)] at hG
                    refine lv_aload_n hx hb dX7_question_144 rfl (lv_at hl 2 rfl) ?_
                    refine g_get (C := RX7) (T := TX7) (N := 28) (v := .ref (L (1, 7, 0))) hx hb hts inX7g hown hK hG (0, 0, 0) ⟨rfl, rfl⟩ (m_at_0 cy L 0 0 ((g_up (g_up τ (1, 5, 0) (((τ (0, 0, 0) 4).toInt).toNat) (k)) (1, 6, 0) (((τ (0, 0, 0) 4).toInt).toNat) (a)) (0, 0, 0))) rfl 7 (by decide) fl_X7_22 rfl dX7_question_145 ?_
                    refine lv_aload_n hx hb dX7_question_148 rfl (lv_at hl 2 rfl) ?_
                    refine g_get (C := RX7) (T := TX7) (N := 28) (v := .int (τ (0, 0, 0) 4)) hx hb hts inX7g hown hK hG (0, 0, 0) ⟨rfl, rfl⟩ (m_at_0 cy L 0 0 ((g_up (g_up τ (1, 5, 0) (((τ (0, 0, 0) 4).toInt).toNat) (k)) (1, 6, 0) (((τ (0, 0, 0) 4).toInt).toNat) (a)) (0, 0, 0))) rfl 4 (by decide) fl_X7_98 rfl dX7_question_149 ?_
                    refine lv_iload_n hx hb dX7_question_152 rfl (lv_at hl 5 rfl) ?_
                    refine g_iast (n := 40) hx hb hK hG hS (1, 7, 0) ⟨by decide, rfl⟩ 0 (fun _ => rfl) rfl (g_vp (by omega) (by omega)) dX7_question_153 (fun H locs hG hS => ?_)
                    rw [show (τ (0, 0, 0) 4 : Int32).toNatClampNeg = ((τ (0, 0, 0) 4).toInt).toNat from congrArg Int.toNat (show (τ (0, 0, 0) 4 : Int32).toInt = (τ (0, 0, 0) 4).toInt from rfl)] at hG
                    refine lv_aload_n hx hb dX7_question_154 rfl (lv_at hl 2 rfl) ?_
                    refine g_get (C := RX7) (T := TX7) (N := 28) (v := .ref (L (1, 8, 0))) hx hb hts inX7g hown hK hG (0, 0, 0) ⟨rfl, rfl⟩ (m_at_0 cy L 0 0 ((g_up (g_up (g_up τ (1, 5, 0) (((τ (0, 0, 0) 4).toInt).toNat) (k)) (1, 6, 0) (((τ (0, 0, 0) 4).toInt).toNat) (a)) (1, 7, 0) (((τ (0, 0, 0) 4).toInt).toNat) (b)) (0, 0, 0))) rfl 8 (by decide) fl_X7_25 rfl dX7_question_155 ?_
                    refine lv_aload_n hx hb dX7_question_158 rfl (lv_at hl 2 rfl) ?_
                    refine g_get (C := RX7) (T := TX7) (N := 28) (v := .int (τ (0, 0, 0) 4)) hx hb hts inX7g hown hK hG (0, 0, 0) ⟨rfl, rfl⟩ (m_at_0 cy L 0 0 ((g_up (g_up (g_up τ (1, 5, 0) (((τ (0, 0, 0) 4).toInt).toNat) (k)) (1, 6, 0) (((τ (0, 0, 0) 4).toInt).toNat) (a)) (1, 7, 0) (((τ (0, 0, 0) 4).toInt).toNat) (b)) (0, 0, 0))) rfl 4 (by decide) fl_X7_98 rfl dX7_question_159 ?_
                    refine lv_iload hx hb dX7_question_162 (lv_at hl 6 rfl) ?_
                    refine g_iast (n := 40) hx hb hK hG hS (1, 8, 0) ⟨by decide, rfl⟩ 0 (fun _ => rfl) rfl (g_vp (by omega) (by omega)) dX7_question_164 (fun H locs hG hS => ?_)
                    rw [show (τ (0, 0, 0) 4 : Int32).toNatClampNeg = ((τ (0, 0, 0) 4).toInt).toNat from congrArg Int.toNat (show (τ (0, 0, 0) 4 : Int32).toInt = (τ (0, 0, 0) 4).toInt from rfl)] at hG
                    refine lv_aload_n hx hb dX7_question_165 rfl (lv_at hl 2 rfl) ?_
                    refine lv_dup hx hb dX7_question_166 rfl ?_
                    refine g_get (C := RX7) (T := TX7) (N := 28) (v := .int (τ (0, 0, 0) 4)) hx hb hts inX7g hown hK hG (0, 0, 0) ⟨rfl, rfl⟩ (m_at_0 cy L 0 0 ((g_up (g_up (g_up (g_up τ (1, 5, 0) (((τ (0, 0, 0) 4).toInt).toNat) (k)) (1, 6, 0) (((τ (0, 0, 0) 4).toInt).toNat) (a)) (1, 7, 0) (((τ (0, 0, 0) 4).toInt).toNat) (b)) (1, 8, 0) (((τ (0, 0, 0) 4).toInt).toNat) (d)) (0, 0, 0))) rfl 4 (by decide) fl_X7_98 rfl dX7_question_167 ?_
                    refine lv_iconst (v := 1) hx hb dX7_question_170 (by decide) ?_
                    refine lv_iadd hx hb dX7_question_171 ?_
                    have z_80 : ((τ (0, 0, 0) 4) + (1)).toInt = ((τ (0, 0, 0) 4).toInt + 1) := g_addZ rfl (by decide) (by omega) (by omega)
                    refine g_puti (C := RX7) (T := TX7) (N := 28) (v := (τ (0, 0, 0) 4) + (1)) (ty := .int) hx hb hts inX7g tyX7_ok nmX7 hown hK hG hS (0, 0, 0) ⟨rfl, rfl⟩ (m_at_0 cy L 0 0 ((g_up (g_up (g_up (g_up τ (1, 5, 0) (((τ (0, 0, 0) 4).toInt).toNat) (k)) (1, 6, 0) (((τ (0, 0, 0) 4).toInt).toNat) (a)) (1, 7, 0) (((τ (0, 0, 0) 4).toInt).toNat) (b)) (1, 8, 0) (((τ (0, 0, 0) 4).toInt).toNat) (d)) (0, 0, 0))) rfl 4 (by decide) (m_up_0_4 cy L 0 0 ((g_up (g_up (g_up (g_up τ (1, 5, 0) (((τ (0, 0, 0) 4).toInt).toNat) (k)) (1, 6, 0) (((τ (0, 0, 0) 4).toInt).toNat) (a)) (1, 7, 0) (((τ (0, 0, 0) 4).toInt).toNat) (b)) (1, 8, 0) (((τ (0, 0, 0) 4).toInt).toNat) (d)) (0, 0, 0)) ((τ (0, 0, 0) 4) + (1))) fl_X7_98 rfl (by decide +kernel) rfl rfl (Nat.le_of_ble_eq_true rfl) dX7_question_172 (fun H locs hG hS => ?_)
                    refine lv_aload_n hx hb dX7_question_175 rfl (lv_at hl 2 rfl) ?_
                    refine g_get (C := RX7) (T := TX7) (N := 28) (v := .int ((τ (0, 0, 0) 4) + (1))) hx hb hts inX7g hown hK hG (0, 0, 0) ⟨rfl, rfl⟩ (m_at_0 cy L 0 0 ((g_up (g_up (g_up (g_up (g_up τ (1, 5, 0) (((τ (0, 0, 0) 4).toInt).toNat) (k)) (1, 6, 0) (((τ (0, 0, 0) 4).toInt).toNat) (a)) (1, 7, 0) (((τ (0, 0, 0) 4).toInt).toNat) (b)) (1, 8, 0) (((τ (0, 0, 0) 4).toInt).toNat) (d)) (0, 0, 0) (4) ((τ (0, 0, 0) 4) + (1))) (0, 0, 0))) rfl 4 (by decide) fl_X7_98 rfl dX7_question_176 ?_
                    refine lv_iconst (v := 1) hx hb dX7_question_179 (by decide) ?_
                    refine lv_isub hx hb dX7_question_180 ?_
                    have z_81 : (((τ (0, 0, 0) 4) + (1)) - (1)).toInt = (((τ (0, 0, 0) 4).toInt + 1) - 1) := g_subZ z_80 (by decide) (by omega) (by omega)
                    exact s_iret hx hb hr hlk hG hS dX7_question_181 (by unfold m_qsR; (repeat' split) <;> first | rfl | (exfalso; omega)) (by unfold m_qsM; (repeat' split) <;> first | rfl | (exfalso; omega))
                  · refine lv_iconst (v := (-1)) hx hb dX7_question_122 (by decide) ?_
                    exact s_iret hx hb hr hlk hG hS dX7_question_123 (by unfold m_qsR; (repeat' split) <;> first | rfl | (exfalso; omega)) (by unfold m_qsM; (repeat' split) <;> first | rfl | (exfalso; omega))
                · exact absurd c_105_78 (by decide)
              · refine lv_aload_n hx hb dX7_question_80 rfl (lv_at hl 1 rfl) ?_
                refine lv_iload_n hx hb dX7_question_81 rfl (lv_at hl 3 rfl) ?_
                refine g_cont (va_runV (As := [.int (a)]) (rest := []) ⟨hx, hb, hml, hown, hts⟩ (c_X7_isQuestion l D cy L τ (a) q0 q1) (cwV 1 hts gV_X7_104 rfl rfl rfl (by decide +kernel) ⟨Nat.le_of_ble_eq_true rfl, Nat.le_of_ble_eq_true rfl⟩) (g_preV hK hN hG (x := (0, 0, 0)) ⟨rfl, rfl⟩ (q := (RX7, TX7, 28)) (m_at_0 cy L 0 0 (τ (0, 0, 0))) rfl) rfl rfl hl.1 rfl (lv_room (Nat.le_of_ble_eq_true rfl)) dX7_question_82 ⟨Nat.zero_le _, Nat.zero_le _⟩) hS (fun H locs hG hS => ?_)
                refine W.eq (g2 := F0 m 85 ls [.int (g_b (0 ≤ (a).toInt ∧ (a).toInt ≤ ((τ (0, 0, 0) 4).toInt - 1)))]) rfl ?_
                refine kz_b_eq (tgt := 100) hx hb dX7_question_85 (by decide) (fun c_85_82 => ?_) (fun c_85_82 => ?_)
                · refine lv_iconst (v := 0) hx hb dX7_question_100 (by decide) ?_
                  refine lv_istore (lv' := [(6, .int 0), (5, .int 1), (0, .ref (L (0, 0, 0))), (1, .int (k)), (2, .int (a)), (3, .int (b)), (4, .int (d))]) hx hb dX7_question_101 hl (by decide) rfl (fun ls hl => ?_)
                  refine lv_iload hx hb dX7_question_103 (lv_at hl 1 rfl) ?_
                  refine kz_if_ne (X := 1) hx hb (by decide) dX7_question_105 (tgt := 113) (by decide) (fun c_105_83 => ?_) (fun c_105_83 => ?_)
                  · refine lv_aload_n hx hb dX7_question_113 rfl (lv_at hl 2 rfl) ?_
                    refine g_get (C := RX7) (T := TX7) (N := 28) (v := .int (τ (0, 0, 0) 4)) hx hb hts inX7g hown hK hG (0, 0, 0) ⟨rfl, rfl⟩ (m_at_0 cy L 0 0 (τ (0, 0, 0))) rfl 4 (by decide) fl_X7_98 rfl dX7_question_114 ?_
                    refine lv_bipush (v := 40) hx hb dX7_question_117 (by decide) ?_
                    refine kz_icmp_ne (X := (τ (0, 0, 0) 4).toInt) (Y := 40) hx hb rfl (by decide) dX7_question_119 (tgt := 124) (by decide) (fun c_119_84 => ?_) (fun c_119_84 => ?_)
                    · refine lv_aload_n hx hb dX7_question_124 rfl (lv_at hl 2 rfl) ?_
                      refine g_get (C := RX7) (T := TX7) (N := 28) (v := .ref (L (1, 5, 0))) hx hb hts inX7g hown hK hG (0, 0, 0) ⟨rfl, rfl⟩ (m_at_0 cy L 0 0 (τ (0, 0, 0))) rfl 5 (by decide) fl_X7_16 rfl dX7_question_125 ?_
                      refine lv_aload_n hx hb dX7_question_128 rfl (lv_at hl 2 rfl) ?_
                      refine g_get (C := RX7) (T := TX7) (N := 28) (v := .int (τ (0, 0, 0) 4)) hx hb hts inX7g hown hK hG (0, 0, 0) ⟨rfl, rfl⟩ (m_at_0 cy L 0 0 (τ (0, 0, 0))) rfl 4 (by decide) fl_X7_98 rfl dX7_question_129 ?_
                      refine lv_iload_n hx hb dX7_question_132 rfl (lv_at hl 3 rfl) ?_
                      refine g_iast (n := 40) hx hb hK hG hS (1, 5, 0) ⟨by decide, rfl⟩ 0 (fun _ => rfl) rfl (g_vp (by omega) (by omega)) dX7_question_133 (fun H locs hG hS => ?_)
                      rw [show (τ (0, 0, 0) 4 : Int32).toNatClampNeg = ((τ (0, 0, 0) 4).toInt).toNat from congrArg Int.toNat (show (τ (0, 0, 0) 4 : Int32).toInt = (τ (0, 0, 0) 4).toInt from rfl)] at hG
                      refine lv_aload_n hx hb dX7_question_134 rfl (lv_at hl 2 rfl) ?_
                      refine g_get (C := RX7) (T := TX7) (N := 28) (v := .ref (L (1, 6, 0))) hx hb hts inX7g hown hK hG (0, 0, 0) ⟨rfl, rfl⟩ (m_at_0 cy L 0 0 ((g_up τ (1, 5, 0) (((τ (0, 0, 0) 4).toInt).toNat) (k)) (0, 0, 0))) rfl 6 (by decide) fl_X7_19 rfl dX7_question_135 ?_
                      refine lv_aload_n hx hb dX7_question_138 rfl (lv_at hl 2 rfl) ?_
                      refine g_get (C := RX7) (T := TX7) (N := 28) (v := .int (τ (0, 0, 0) 4)) hx hb hts inX7g hown hK hG (0, 0, 0) ⟨rfl, rfl⟩ (m_at_0 cy L 0 0 ((g_up τ (1, 5, 0) (((τ (0, 0, 0) 4).toInt).toNat) (k)) (0, 0, 0))) rfl 4 (by decide) fl_X7_98 rfl dX7_question_139 ?_
                      refine lv_iload_n hx hb dX7_question_142 rfl (lv_at hl 4 rfl) ?_
                      refine g_iast (n := 40) hx hb hK hG hS (1, 6, 0) ⟨by decide, rfl⟩ 0 (fun _ => rfl) rfl (g_vp (by omega) (by omega)) dX7_question_143 (fun H locs hG hS => ?_)
                      rw [show (τ (0, 0, 0) 4 : Int32).toNatClampNeg = ((τ (0, 0, 0) 4).toInt).toNat from congrArg Int.toNat (show (τ (0, 0, 0) 4 : Int32).toInt = (τ (0, 0, 0) 4).toInt from rfl)] at hG
                      refine lv_aload_n hx hb dX7_question_144 rfl (lv_at hl 2 rfl) ?_
                      refine g_get (C := RX7) (T := TX7) (N := 28) (v := .ref (L (1, 7, 0))) hx hb hts inX7g hown hK hG (0, 0, 0) ⟨rfl, rfl⟩ (m_at_0 cy L 0 0 ((g_up (g_up τ (1, 5, 0) (((τ (0, 0, 0) 4).toInt).toNat) (k)) (1, 6, 0) (((τ (0, 0, 0) 4).toInt).toNat) (a)) (0, 0, 0))) rfl 7 (by decide) fl_X7_22 rfl dX7_question_145 ?_
                      refine lv_aload_n hx hb dX7_question_148 rfl (lv_at hl 2 rfl) ?_
                      refine g_get (C := RX7) (T := TX7) (N := 28) (v := .int (τ (0, 0, 0) 4)) hx hb hts inX7g hown hK hG (0, 0, 0) ⟨rfl, rfl⟩ (m_at_0 cy L 0 0 ((g_up (g_up τ (1, 5, 0) (((τ (0, 0, 0) 4).toInt).toNat) (k)) (1, 6, 0) (((τ (0, 0, 0) 4).toInt).toNat) (a)) (0, 0, 0))) rfl 4 (by decide) fl_X7_98 rfl dX7_question_149 ?_
                      refine lv_iload_n hx hb dX7_question_152 rfl (lv_at hl 5 rfl) ?_
                      refine g_iast (n := 40) hx hb hK hG hS (1, 7, 0) ⟨by decide, rfl⟩ 0 (fun _ => rfl) rfl (g_vp (by omega) (by omega)) dX7_question_153 (fun H locs hG hS => ?_)
                      rw [show (τ (0, 0, 0) 4 : Int32).toNatClampNeg = ((τ (0, 0, 0) 4).toInt).toNat from congrArg Int.toNat (show (τ (0, 0, 0) 4 : Int32).toInt = (τ (0, 0, 0) 4).toInt from rfl)] at hG
                      refine lv_aload_n hx hb dX7_question_154 rfl (lv_at hl 2 rfl) ?_
                      refine g_get (C := RX7) (T := TX7) (N := 28) (v := .ref (L (1, 8, 0))) hx hb hts inX7g hown hK hG (0, 0, 0) ⟨rfl, rfl⟩ (m_at_0 cy L 0 0 ((g_up (g_up (g_up τ (1, 5, 0) (((τ (0, 0, 0) 4).toInt).toNat) (k)) (1, 6, 0) (((τ (0, 0, 0) 4).toInt).toNat) (a)) (1, 7, 0) (((τ (0, 0, 0) 4).toInt).toNat) (b)) (0, 0, 0))) rfl 8 (by decide) fl_X7_25 rfl dX7_question_155 ?_
                      refine lv_aload_n hx hb dX7_question_158 rfl (lv_at hl 2 rfl) ?_
                      refine g_get (C := RX7) (T := TX7) (N := 28) (v := .int (τ (0, 0, 0) 4)) hx hb hts inX7g hown hK hG (0, 0, 0) ⟨rfl, rfl⟩ (m_at_0 cy L 0 0 ((g_up (g_up (g_up τ (1, 5, 0) (((τ (0, 0, 0) 4).toInt).toNat) (k)) (1, 6, 0) (((τ (0, 0, 0) 4).toInt).toNat) (a)) (1, 7, 0) (((τ (0, 0, 0) 4).toInt).toNat) (b)) (0, 0, 0))) rfl 4 (by decide) fl_X7_98 rfl dX7_question_159 ?_
                      refine lv_iload hx hb dX7_question_162 (lv_at hl 6 rfl) ?_
                      refine g_iast (n := 40) hx hb hK hG hS (1, 8, 0) ⟨by decide, rfl⟩ 0 (fun _ => rfl) rfl (g_vp (by omega) (by omega)) dX7_question_164 (fun H locs hG hS => ?_)
                      rw [show (τ (0, 0, 0) 4 : Int32).toNatClampNeg = ((τ (0, 0, 0) 4).toInt).toNat from congrArg Int.toNat (show (τ (0, 0, 0) 4 : Int32).toInt = (τ (0, 0, 0) 4).toInt from rfl)] at hG
                      refine lv_aload_n hx hb dX7_question_165 rfl (lv_at hl 2 rfl) ?_
                      refine lv_dup hx hb dX7_question_166 rfl ?_
                      refine g_get (C := RX7) (T := TX7) (N := 28) (v := .int (τ (0, 0, 0) 4)) hx hb hts inX7g hown hK hG (0, 0, 0) ⟨rfl, rfl⟩ (m_at_0 cy L 0 0 ((g_up (g_up (g_up (g_up τ (1, 5, 0) (((τ (0, 0, 0) 4).toInt).toNat) (k)) (1, 6, 0) (((τ (0, 0, 0) 4).toInt).toNat) (a)) (1, 7, 0) (((τ (0, 0, 0) 4).toInt).toNat) (b)) (1, 8, 0) (((τ (0, 0, 0) 4).toInt).toNat) (d)) (0, 0, 0))) rfl 4 (by decide) fl_X7_98 rfl dX7_question_167 ?_
                      refine lv_iconst (v := 1) hx hb dX7_question_170 (by decide) ?_
                      refine lv_iadd hx hb dX7_question_171 ?_
                      have z_85 : ((τ (0, 0, 0) 4) + (1)).toInt = ((τ (0, 0, 0) 4).toInt + 1) := g_addZ rfl (by decide) (by omega) (by omega)
                      refine g_puti (C := RX7) (T := TX7) (N := 28) (v := (τ (0, 0, 0) 4) + (1)) (ty := .int) hx hb hts inX7g tyX7_ok nmX7 hown hK hG hS (0, 0, 0) ⟨rfl, rfl⟩ (m_at_0 cy L 0 0 ((g_up (g_up (g_up (g_up τ (1, 5, 0) (((τ (0, 0, 0) 4).toInt).toNat) (k)) (1, 6, 0) (((τ (0, 0, 0) 4).toInt).toNat) (a)) (1, 7, 0) (((τ (0, 0, 0) 4).toInt).toNat) (b)) (1, 8, 0) (((τ (0, 0, 0) 4).toInt).toNat) (d)) (0, 0, 0))) rfl 4 (by decide) (m_up_0_4 cy L 0 0 ((g_up (g_up (g_up (g_up τ (1, 5, 0) (((τ (0, 0, 0) 4).toInt).toNat) (k)) (1, 6, 0) (((τ (0, 0, 0) 4).toInt).toNat) (a)) (1, 7, 0) (((τ (0, 0, 0) 4).toInt).toNat) (b)) (1, 8, 0) (((τ (0, 0, 0) 4).toInt).toNat) (d)) (0, 0, 0)) ((τ (0, 0, 0) 4) + (1))) fl_X7_98 rfl (by decide +kernel) rfl rfl (Nat.le_of_ble_eq_true rfl) dX7_question_172 (fun H locs hG hS => ?_)
                      refine lv_aload_n hx hb dX7_question_175 rfl (lv_at hl 2 rfl) ?_
                      refine g_get (C := RX7) (T := TX7) (N := 28) (v := .int ((τ (0, 0, 0) 4) + (1))) hx hb hts inX7g hown hK hG (0, 0, 0) ⟨rfl, rfl⟩ (m_at_0 cy L 0 0 ((g_up (g_up (g_up (g_up (g_up τ (1, 5, 0) (((τ (0, 0, 0) 4).toInt).toNat) (k)) (1, 6, 0) (((τ (0, 0, 0) 4).toInt).toNat) (a)) (1, 7, 0) (((τ (0, 0, 0) 4).toInt).toNat) (b)) (1, 8, 0) (((τ (0, 0, 0) 4).toInt).toNat) (d)) (0, 0, 0) (4) ((τ (0, 0, 0) 4) + (1))) (0, 0, 0))) rfl 4 (by decide) fl_X7_98 rfl dX7_question_176 ?_
                      refine lv_iconst (v := 1) hx hb dX7_question_179 (by decide) ?_
                      refine lv_isub hx hb dX7_question_180 ?_
                      have z_86 : (((τ (0, 0, 0) 4) + (1)) - (1)).toInt = (((τ (0, 0, 0) 4).toInt + 1) - 1) := g_subZ z_85 (by decide) (by omega) (by omega)
                      exact s_iret hx hb hr hlk hG hS dX7_question_181 (by unfold m_qsR; (repeat' split) <;> first | rfl | (exfalso; omega)) (by unfold m_qsM; (repeat' split) <;> first | rfl | (exfalso; omega))
                    · refine lv_iconst (v := (-1)) hx hb dX7_question_122 (by decide) ?_
                      exact s_iret hx hb hr hlk hG hS dX7_question_123 (by unfold m_qsR; (repeat' split) <;> first | rfl | (exfalso; omega)) (by unfold m_qsM; (repeat' split) <;> first | rfl | (exfalso; omega))
                  · exact absurd c_105_83 (by decide)
                · refine lv_aload_n hx hb dX7_question_88 rfl (lv_at hl 1 rfl) ?_
                  refine lv_iload_n hx hb dX7_question_89 rfl (lv_at hl 4 rfl) ?_
                  refine g_cont (va_runV (As := [.int (b)]) (rest := []) ⟨hx, hb, hml, hown, hts⟩ (c_X7_isQuestion l D cy L τ (b) q0 q1) (cwV 1 hts gV_X7_104 rfl rfl rfl (by decide +kernel) ⟨Nat.le_of_ble_eq_true rfl, Nat.le_of_ble_eq_true rfl⟩) (g_preV hK hN hG (x := (0, 0, 0)) ⟨rfl, rfl⟩ (q := (RX7, TX7, 28)) (m_at_0 cy L 0 0 (τ (0, 0, 0))) rfl) rfl rfl hl.1 rfl (lv_room (Nat.le_of_ble_eq_true rfl)) dX7_question_90 ⟨Nat.zero_le _, Nat.zero_le _⟩) hS (fun H locs hG hS => ?_)
                  refine W.eq (g2 := F0 m 93 ls [.int (g_b (0 ≤ (b).toInt ∧ (b).toInt ≤ ((τ (0, 0, 0) 4).toInt - 1)))]) rfl ?_
                  refine kz_b_eq (tgt := 100) hx hb dX7_question_93 (by decide) (fun c_93_87 => ?_) (fun c_93_87 => ?_)
                  · refine lv_iconst (v := 0) hx hb dX7_question_100 (by decide) ?_
                    refine lv_istore (lv' := [(6, .int 0), (5, .int 1), (0, .ref (L (0, 0, 0))), (1, .int (k)), (2, .int (a)), (3, .int (b)), (4, .int (d))]) hx hb dX7_question_101 hl (by decide) rfl (fun ls hl => ?_)
                    refine lv_iload hx hb dX7_question_103 (lv_at hl 1 rfl) ?_
                    refine kz_if_ne (X := 1) hx hb (by decide) dX7_question_105 (tgt := 113) (by decide) (fun c_105_88 => ?_) (fun c_105_88 => ?_)
                    · refine lv_aload_n hx hb dX7_question_113 rfl (lv_at hl 2 rfl) ?_
                      refine g_get (C := RX7) (T := TX7) (N := 28) (v := .int (τ (0, 0, 0) 4)) hx hb hts inX7g hown hK hG (0, 0, 0) ⟨rfl, rfl⟩ (m_at_0 cy L 0 0 (τ (0, 0, 0))) rfl 4 (by decide) fl_X7_98 rfl dX7_question_114 ?_
                      refine lv_bipush (v := 40) hx hb dX7_question_117 (by decide) ?_
                      refine kz_icmp_ne (X := (τ (0, 0, 0) 4).toInt) (Y := 40) hx hb rfl (by decide) dX7_question_119 (tgt := 124) (by decide) (fun c_119_89 => ?_) (fun c_119_89 => ?_)
                      · refine lv_aload_n hx hb dX7_question_124 rfl (lv_at hl 2 rfl) ?_
                        refine g_get (C := RX7) (T := TX7) (N := 28) (v := .ref (L (1, 5, 0))) hx hb hts inX7g hown hK hG (0, 0, 0) ⟨rfl, rfl⟩ (m_at_0 cy L 0 0 (τ (0, 0, 0))) rfl 5 (by decide) fl_X7_16 rfl dX7_question_125 ?_
                        refine lv_aload_n hx hb dX7_question_128 rfl (lv_at hl 2 rfl) ?_
                        refine g_get (C := RX7) (T := TX7) (N := 28) (v := .int (τ (0, 0, 0) 4)) hx hb hts inX7g hown hK hG (0, 0, 0) ⟨rfl, rfl⟩ (m_at_0 cy L 0 0 (τ (0, 0, 0))) rfl 4 (by decide) fl_X7_98 rfl dX7_question_129 ?_
                        refine lv_iload_n hx hb dX7_question_132 rfl (lv_at hl 3 rfl) ?_
                        refine g_iast (n := 40) hx hb hK hG hS (1, 5, 0) ⟨by decide, rfl⟩ 0 (fun _ => rfl) rfl (g_vp (by omega) (by omega)) dX7_question_133 (fun H locs hG hS => ?_)
                        rw [show (τ (0, 0, 0) 4 : Int32).toNatClampNeg = ((τ (0, 0, 0) 4).toInt).toNat from congrArg Int.toNat (show (τ (0, 0, 0) 4 : Int32).toInt = (τ (0, 0, 0) 4).toInt from rfl)] at hG
                        refine lv_aload_n hx hb dX7_question_134 rfl (lv_at hl 2 rfl) ?_
                        refine g_get (C := RX7) (T := TX7) (N := 28) (v := .ref (L (1, 6, 0))) hx hb hts inX7g hown hK hG (0, 0, 0) ⟨rfl, rfl⟩ (m_at_0 cy L 0 0 ((g_up τ (1, 5, 0) (((τ (0, 0, 0) 4).toInt).toNat) (k)) (0, 0, 0))) rfl 6 (by decide) fl_X7_19 rfl dX7_question_135 ?_
                        refine lv_aload_n hx hb dX7_question_138 rfl (lv_at hl 2 rfl) ?_
                        refine g_get (C := RX7) (T := TX7) (N := 28) (v := .int (τ (0, 0, 0) 4)) hx hb hts inX7g hown hK hG (0, 0, 0) ⟨rfl, rfl⟩ (m_at_0 cy L 0 0 ((g_up τ (1, 5, 0) (((τ (0, 0, 0) 4).toInt).toNat) (k)) (0, 0, 0))) rfl 4 (by decide) fl_X7_98 rfl dX7_question_139 ?_
                        refine lv_iload_n hx hb dX7_question_142 rfl (lv_at hl 4 rfl) ?_
                        refine g_iast (n := 40) hx hb hK hG hS (1, 6, 0) ⟨by decide, rfl⟩ 0 (fun _ => rfl) rfl (g_vp (by omega) (by omega)) dX7_question_143 (fun H locs hG hS => ?_)
                        rw [show (τ (0, 0, 0) 4 : Int32).toNatClampNeg = ((τ (0, 0, 0) 4).toInt).toNat from congrArg Int.toNat (show (τ (0, 0, 0) 4 : Int32).toInt = (τ (0, 0, 0) 4).toInt from rfl)] at hG
                        refine lv_aload_n hx hb dX7_question_144 rfl (lv_at hl 2 rfl) ?_
                        refine g_get (C := RX7) (T := TX7) (N := 28) (v := .ref (L (1, 7, 0))) hx hb hts inX7g hown hK hG (0, 0, 0) ⟨rfl, rfl⟩ (m_at_0 cy L 0 0 ((g_up (g_up τ (1, 5, 0) (((τ (0, 0, 0) 4).toInt).toNat) (k)) (1, 6, 0) (((τ (0, 0, 0) 4).toInt).toNat) (a)) (0, 0, 0))) rfl 7 (by decide) fl_X7_22 rfl dX7_question_145 ?_
                        refine lv_aload_n hx hb dX7_question_148 rfl (lv_at hl 2 rfl) ?_
                        refine g_get (C := RX7) (T := TX7) (N := 28) (v := .int (τ (0, 0, 0) 4)) hx hb hts inX7g hown hK hG (0, 0, 0) ⟨rfl, rfl⟩ (m_at_0 cy L 0 0 ((g_up (g_up τ (1, 5, 0) (((τ (0, 0, 0) 4).toInt).toNat) (k)) (1, 6, 0) (((τ (0, 0, 0) 4).toInt).toNat) (a)) (0, 0, 0))) rfl 4 (by decide) fl_X7_98 rfl dX7_question_149 ?_
                        refine lv_iload_n hx hb dX7_question_152 rfl (lv_at hl 5 rfl) ?_
                        refine g_iast (n := 40) hx hb hK hG hS (1, 7, 0) ⟨by decide, rfl⟩ 0 (fun _ => rfl) rfl (g_vp (by omega) (by omega)) dX7_question_153 (fun H locs hG hS => ?_)
                        rw [show (τ (0, 0, 0) 4 : Int32).toNatClampNeg = ((τ (0, 0, 0) 4).toInt).toNat from congrArg Int.toNat (show (τ (0, 0, 0) 4 : Int32).toInt = (τ (0, 0, 0) 4).toInt from rfl)] at hG
                        refine lv_aload_n hx hb dX7_question_154 rfl (lv_at hl 2 rfl) ?_
                        refine g_get (C := RX7) (T := TX7) (N := 28) (v := .ref (L (1, 8, 0))) hx hb hts inX7g hown hK hG (0, 0, 0) ⟨rfl, rfl⟩ (m_at_0 cy L 0 0 ((g_up (g_up (g_up τ (1, 5, 0) (((τ (0, 0, 0) 4).toInt).toNat) (k)) (1, 6, 0) (((τ (0, 0, 0) 4).toInt).toNat) (a)) (1, 7, 0) (((τ (0, 0, 0) 4).toInt).toNat) (b)) (0, 0, 0))) rfl 8 (by decide) fl_X7_25 rfl dX7_question_155 ?_
                        refine lv_aload_n hx hb dX7_question_158 rfl (lv_at hl 2 rfl) ?_
                        refine g_get (C := RX7) (T := TX7) (N := 28) (v := .int (τ (0, 0, 0) 4)) hx hb hts inX7g hown hK hG (0, 0, 0) ⟨rfl, rfl⟩ (m_at_0 cy L 0 0 ((g_up (g_up (g_up τ (1, 5, 0) (((τ (0, 0, 0) 4).toInt).toNat) (k)) (1, 6, 0) (((τ (0, 0, 0) 4).toInt).toNat) (a)) (1, 7, 0) (((τ (0, 0, 0) 4).toInt).toNat) (b)) (0, 0, 0))) rfl 4 (by decide) fl_X7_98 rfl dX7_question_159 ?_
                        refine lv_iload hx hb dX7_question_162 (lv_at hl 6 rfl) ?_
                        refine g_iast (n := 40) hx hb hK hG hS (1, 8, 0) ⟨by decide, rfl⟩ 0 (fun _ => rfl) rfl (g_vp (by omega) (by omega)) dX7_question_164 (fun H locs hG hS => ?_)
                        rw [show (τ (0, 0, 0) 4 : Int32).toNatClampNeg = ((τ (0, 0, 0) 4).toInt).toNat from congrArg Int.toNat (show (τ (0, 0, 0) 4 : Int32).toInt = (τ (0, 0, 0) 4).toInt from rfl)] at hG
                        refine lv_aload_n hx hb dX7_question_165 rfl (lv_at hl 2 rfl) ?_
                        refine lv_dup hx hb dX7_question_166 rfl ?_
                        refine g_get (C := RX7) (T := TX7) (N := 28) (v := .int (τ (0, 0, 0) 4)) hx hb hts inX7g hown hK hG (0, 0, 0) ⟨rfl, rfl⟩ (m_at_0 cy L 0 0 ((g_up (g_up (g_up (g_up τ (1, 5, 0) (((τ (0, 0, 0) 4).toInt).toNat) (k)) (1, 6, 0) (((τ (0, 0, 0) 4).toInt).toNat) (a)) (1, 7, 0) (((τ (0, 0, 0) 4).toInt).toNat) (b)) (1, 8, 0) (((τ (0, 0, 0) 4).toInt).toNat) (d)) (0, 0, 0))) rfl 4 (by decide) fl_X7_98 rfl dX7_question_167 ?_
                        refine lv_iconst (v := 1) hx hb dX7_question_170 (by decide) ?_
                        refine lv_iadd hx hb dX7_question_171 ?_
                        have z_90 : ((τ (0, 0, 0) 4) + (1)).toInt = ((τ (0, 0, 0) 4).toInt + 1) := g_addZ rfl (by decide) (by omega) (by omega)
                        refine g_puti (C := RX7) (T := TX7) (N := 28) (v := (τ (0, 0, 0) 4) + (1)) (ty := .int) hx hb hts inX7g tyX7_ok nmX7 hown hK hG hS (0, 0, 0) ⟨rfl, rfl⟩ (m_at_0 cy L 0 0 ((g_up (g_up (g_up (g_up τ (1, 5, 0) (((τ (0, 0, 0) 4).toInt).toNat) (k)) (1, 6, 0) (((τ (0, 0, 0) 4).toInt).toNat) (a)) (1, 7, 0) (((τ (0, 0, 0) 4).toInt).toNat) (b)) (1, 8, 0) (((τ (0, 0, 0) 4).toInt).toNat) (d)) (0, 0, 0))) rfl 4 (by decide) (m_up_0_4 cy L 0 0 ((g_up (g_up (g_up (g_up τ (1, 5, 0) (((τ (0, 0, 0) 4).toInt).toNat) (k)) (1, 6, 0) (((τ (0, 0, 0) 4).toInt).toNat) (a)) (1, 7, 0) (((τ (0, 0, 0) 4).toInt).toNat) (b)) (1, 8, 0) (((τ (0, 0, 0) 4).toInt).toNat) (d)) (0, 0, 0)) ((τ (0, 0, 0) 4) + (1))) fl_X7_98 rfl (by decide +kernel) rfl rfl (Nat.le_of_ble_eq_true rfl) dX7_question_172 (fun H locs hG hS => ?_)
                        refine lv_aload_n hx hb dX7_question_175 rfl (lv_at hl 2 rfl) ?_
                        refine g_get (C := RX7) (T := TX7) (N := 28) (v := .int ((τ (0, 0, 0) 4) + (1))) hx hb hts inX7g hown hK hG (0, 0, 0) ⟨rfl, rfl⟩ (m_at_0 cy L 0 0 ((g_up (g_up (g_up (g_up (g_up τ (1, 5, 0) (((τ (0, 0, 0) 4).toInt).toNat) (k)) (1, 6, 0) (((τ (0, 0, 0) 4).toInt).toNat) (a)) (1, 7, 0) (((τ (0, 0, 0) 4).toInt).toNat) (b)) (1, 8, 0) (((τ (0, 0, 0) 4).toInt).toNat) (d)) (0, 0, 0) (4) ((τ (0, 0, 0) 4) + (1))) (0, 0, 0))) rfl 4 (by decide) fl_X7_98 rfl dX7_question_176 ?_
                        refine lv_iconst (v := 1) hx hb dX7_question_179 (by decide) ?_
                        refine lv_isub hx hb dX7_question_180 ?_
                        have z_91 : (((τ (0, 0, 0) 4) + (1)) - (1)).toInt = (((τ (0, 0, 0) 4).toInt + 1) - 1) := g_subZ z_90 (by decide) (by omega) (by omega)
                        exact s_iret hx hb hr hlk hG hS dX7_question_181 (by unfold m_qsR; (repeat' split) <;> first | rfl | (exfalso; omega)) (by unfold m_qsM; (repeat' split) <;> first | rfl | (exfalso; omega))
                      · refine lv_iconst (v := (-1)) hx hb dX7_question_122 (by decide) ?_
                        exact s_iret hx hb hr hlk hG hS dX7_question_123 (by unfold m_qsR; (repeat' split) <;> first | rfl | (exfalso; omega)) (by unfold m_qsM; (repeat' split) <;> first | rfl | (exfalso; omega))
                    · exact absurd c_105_88 (by decide)
                  · refine lv_iconst (v := 1) hx hb dX7_question_96 (by decide) ?_
                    refine lv_goto (tgt := 101) hx hb dX7_question_97 (by decide) ?_
                    refine lv_istore (lv' := [(6, .int 1), (5, .int 1), (0, .ref (L (0, 0, 0))), (1, .int (k)), (2, .int (a)), (3, .int (b)), (4, .int (d))]) hx hb dX7_question_101 hl (by decide) rfl (fun ls hl => ?_)
                    refine lv_iload hx hb dX7_question_103 (lv_at hl 1 rfl) ?_
                    refine kz_if_ne (X := 1) hx hb (by decide) dX7_question_105 (tgt := 113) (by decide) (fun c_105_92 => ?_) (fun c_105_92 => ?_)
                    · refine lv_aload_n hx hb dX7_question_113 rfl (lv_at hl 2 rfl) ?_
                      refine g_get (C := RX7) (T := TX7) (N := 28) (v := .int (τ (0, 0, 0) 4)) hx hb hts inX7g hown hK hG (0, 0, 0) ⟨rfl, rfl⟩ (m_at_0 cy L 0 0 (τ (0, 0, 0))) rfl 4 (by decide) fl_X7_98 rfl dX7_question_114 ?_
                      refine lv_bipush (v := 40) hx hb dX7_question_117 (by decide) ?_
                      refine kz_icmp_ne (X := (τ (0, 0, 0) 4).toInt) (Y := 40) hx hb rfl (by decide) dX7_question_119 (tgt := 124) (by decide) (fun c_119_93 => ?_) (fun c_119_93 => ?_)
                      · refine lv_aload_n hx hb dX7_question_124 rfl (lv_at hl 2 rfl) ?_
                        refine g_get (C := RX7) (T := TX7) (N := 28) (v := .ref (L (1, 5, 0))) hx hb hts inX7g hown hK hG (0, 0, 0) ⟨rfl, rfl⟩ (m_at_0 cy L 0 0 (τ (0, 0, 0))) rfl 5 (by decide) fl_X7_16 rfl dX7_question_125 ?_
                        refine lv_aload_n hx hb dX7_question_128 rfl (lv_at hl 2 rfl) ?_
                        refine g_get (C := RX7) (T := TX7) (N := 28) (v := .int (τ (0, 0, 0) 4)) hx hb hts inX7g hown hK hG (0, 0, 0) ⟨rfl, rfl⟩ (m_at_0 cy L 0 0 (τ (0, 0, 0))) rfl 4 (by decide) fl_X7_98 rfl dX7_question_129 ?_
                        refine lv_iload_n hx hb dX7_question_132 rfl (lv_at hl 3 rfl) ?_
                        refine g_iast (n := 40) hx hb hK hG hS (1, 5, 0) ⟨by decide, rfl⟩ 0 (fun _ => rfl) rfl (g_vp (by omega) (by omega)) dX7_question_133 (fun H locs hG hS => ?_)
                        rw [show (τ (0, 0, 0) 4 : Int32).toNatClampNeg = ((τ (0, 0, 0) 4).toInt).toNat from congrArg Int.toNat (show (τ (0, 0, 0) 4 : Int32).toInt = (τ (0, 0, 0) 4).toInt from rfl)] at hG
                        refine lv_aload_n hx hb dX7_question_134 rfl (lv_at hl 2 rfl) ?_
                        refine g_get (C := RX7) (T := TX7) (N := 28) (v := .ref (L (1, 6, 0))) hx hb hts inX7g hown hK hG (0, 0, 0) ⟨rfl, rfl⟩ (m_at_0 cy L 0 0 ((g_up τ (1, 5, 0) (((τ (0, 0, 0) 4).toInt).toNat) (k)) (0, 0, 0))) rfl 6 (by decide) fl_X7_19 rfl dX7_question_135 ?_
                        refine lv_aload_n hx hb dX7_question_138 rfl (lv_at hl 2 rfl) ?_
                        refine g_get (C := RX7) (T := TX7) (N := 28) (v := .int (τ (0, 0, 0) 4)) hx hb hts inX7g hown hK hG (0, 0, 0) ⟨rfl, rfl⟩ (m_at_0 cy L 0 0 ((g_up τ (1, 5, 0) (((τ (0, 0, 0) 4).toInt).toNat) (k)) (0, 0, 0))) rfl 4 (by decide) fl_X7_98 rfl dX7_question_139 ?_
                        refine lv_iload_n hx hb dX7_question_142 rfl (lv_at hl 4 rfl) ?_
                        refine g_iast (n := 40) hx hb hK hG hS (1, 6, 0) ⟨by decide, rfl⟩ 0 (fun _ => rfl) rfl (g_vp (by omega) (by omega)) dX7_question_143 (fun H locs hG hS => ?_)
                        rw [show (τ (0, 0, 0) 4 : Int32).toNatClampNeg = ((τ (0, 0, 0) 4).toInt).toNat from congrArg Int.toNat (show (τ (0, 0, 0) 4 : Int32).toInt = (τ (0, 0, 0) 4).toInt from rfl)] at hG
                        refine lv_aload_n hx hb dX7_question_144 rfl (lv_at hl 2 rfl) ?_
                        refine g_get (C := RX7) (T := TX7) (N := 28) (v := .ref (L (1, 7, 0))) hx hb hts inX7g hown hK hG (0, 0, 0) ⟨rfl, rfl⟩ (m_at_0 cy L 0 0 ((g_up (g_up τ (1, 5, 0) (((τ (0, 0, 0) 4).toInt).toNat) (k)) (1, 6, 0) (((τ (0, 0, 0) 4).toInt).toNat) (a)) (0, 0, 0))) rfl 7 (by decide) fl_X7_22 rfl dX7_question_145 ?_
                        refine lv_aload_n hx hb dX7_question_148 rfl (lv_at hl 2 rfl) ?_
                        refine g_get (C := RX7) (T := TX7) (N := 28) (v := .int (τ (0, 0, 0) 4)) hx hb hts inX7g hown hK hG (0, 0, 0) ⟨rfl, rfl⟩ (m_at_0 cy L 0 0 ((g_up (g_up τ (1, 5, 0) (((τ (0, 0, 0) 4).toInt).toNat) (k)) (1, 6, 0) (((τ (0, 0, 0) 4).toInt).toNat) (a)) (0, 0, 0))) rfl 4 (by decide) fl_X7_98 rfl dX7_question_149 ?_
                        refine lv_iload_n hx hb dX7_question_152 rfl (lv_at hl 5 rfl) ?_
                        refine g_iast (n := 40) hx hb hK hG hS (1, 7, 0) ⟨by decide, rfl⟩ 0 (fun _ => rfl) rfl (g_vp (by omega) (by omega)) dX7_question_153 (fun H locs hG hS => ?_)
                        rw [show (τ (0, 0, 0) 4 : Int32).toNatClampNeg = ((τ (0, 0, 0) 4).toInt).toNat from congrArg Int.toNat (show (τ (0, 0, 0) 4 : Int32).toInt = (τ (0, 0, 0) 4).toInt from rfl)] at hG
                        refine lv_aload_n hx hb dX7_question_154 rfl (lv_at hl 2 rfl) ?_
                        refine g_get (C := RX7) (T := TX7) (N := 28) (v := .ref (L (1, 8, 0))) hx hb hts inX7g hown hK hG (0, 0, 0) ⟨rfl, rfl⟩ (m_at_0 cy L 0 0 ((g_up (g_up (g_up τ (1, 5, 0) (((τ (0, 0, 0) 4).toInt).toNat) (k)) (1, 6, 0) (((τ (0, 0, 0) 4).toInt).toNat) (a)) (1, 7, 0) (((τ (0, 0, 0) 4).toInt).toNat) (b)) (0, 0, 0))) rfl 8 (by decide) fl_X7_25 rfl dX7_question_155 ?_
                        refine lv_aload_n hx hb dX7_question_158 rfl (lv_at hl 2 rfl) ?_
                        refine g_get (C := RX7) (T := TX7) (N := 28) (v := .int (τ (0, 0, 0) 4)) hx hb hts inX7g hown hK hG (0, 0, 0) ⟨rfl, rfl⟩ (m_at_0 cy L 0 0 ((g_up (g_up (g_up τ (1, 5, 0) (((τ (0, 0, 0) 4).toInt).toNat) (k)) (1, 6, 0) (((τ (0, 0, 0) 4).toInt).toNat) (a)) (1, 7, 0) (((τ (0, 0, 0) 4).toInt).toNat) (b)) (0, 0, 0))) rfl 4 (by decide) fl_X7_98 rfl dX7_question_159 ?_
                        refine lv_iload hx hb dX7_question_162 (lv_at hl 6 rfl) ?_
                        refine g_iast (n := 40) hx hb hK hG hS (1, 8, 0) ⟨by decide, rfl⟩ 0 (fun _ => rfl) rfl (g_vp (by omega) (by omega)) dX7_question_164 (fun H locs hG hS => ?_)
                        rw [show (τ (0, 0, 0) 4 : Int32).toNatClampNeg = ((τ (0, 0, 0) 4).toInt).toNat from congrArg Int.toNat (show (τ (0, 0, 0) 4 : Int32).toInt = (τ (0, 0, 0) 4).toInt from rfl)] at hG
                        refine lv_aload_n hx hb dX7_question_165 rfl (lv_at hl 2 rfl) ?_
                        refine lv_dup hx hb dX7_question_166 rfl ?_
                        refine g_get (C := RX7) (T := TX7) (N := 28) (v := .int (τ (0, 0, 0) 4)) hx hb hts inX7g hown hK hG (0, 0, 0) ⟨rfl, rfl⟩ (m_at_0 cy L 0 0 ((g_up (g_up (g_up (g_up τ (1, 5, 0) (((τ (0, 0, 0) 4).toInt).toNat) (k)) (1, 6, 0) (((τ (0, 0, 0) 4).toInt).toNat) (a)) (1, 7, 0) (((τ (0, 0, 0) 4).toInt).toNat) (b)) (1, 8, 0) (((τ (0, 0, 0) 4).toInt).toNat) (d)) (0, 0, 0))) rfl 4 (by decide) fl_X7_98 rfl dX7_question_167 ?_
                        refine lv_iconst (v := 1) hx hb dX7_question_170 (by decide) ?_
                        refine lv_iadd hx hb dX7_question_171 ?_
                        have z_94 : ((τ (0, 0, 0) 4) + (1)).toInt = ((τ (0, 0, 0) 4).toInt + 1) := g_addZ rfl (by decide) (by omega) (by omega)
                        refine g_puti (C := RX7) (T := TX7) (N := 28) (v := (τ (0, 0, 0) 4) + (1)) (ty := .int) hx hb hts inX7g tyX7_ok nmX7 hown hK hG hS (0, 0, 0) ⟨rfl, rfl⟩ (m_at_0 cy L 0 0 ((g_up (g_up (g_up (g_up τ (1, 5, 0) (((τ (0, 0, 0) 4).toInt).toNat) (k)) (1, 6, 0) (((τ (0, 0, 0) 4).toInt).toNat) (a)) (1, 7, 0) (((τ (0, 0, 0) 4).toInt).toNat) (b)) (1, 8, 0) (((τ (0, 0, 0) 4).toInt).toNat) (d)) (0, 0, 0))) rfl 4 (by decide) (m_up_0_4 cy L 0 0 ((g_up (g_up (g_up (g_up τ (1, 5, 0) (((τ (0, 0, 0) 4).toInt).toNat) (k)) (1, 6, 0) (((τ (0, 0, 0) 4).toInt).toNat) (a)) (1, 7, 0) (((τ (0, 0, 0) 4).toInt).toNat) (b)) (1, 8, 0) (((τ (0, 0, 0) 4).toInt).toNat) (d)) (0, 0, 0)) ((τ (0, 0, 0) 4) + (1))) fl_X7_98 rfl (by decide +kernel) rfl rfl (Nat.le_of_ble_eq_true rfl) dX7_question_172 (fun H locs hG hS => ?_)
                        refine lv_aload_n hx hb dX7_question_175 rfl (lv_at hl 2 rfl) ?_
                        refine g_get (C := RX7) (T := TX7) (N := 28) (v := .int ((τ (0, 0, 0) 4) + (1))) hx hb hts inX7g hown hK hG (0, 0, 0) ⟨rfl, rfl⟩ (m_at_0 cy L 0 0 ((g_up (g_up (g_up (g_up (g_up τ (1, 5, 0) (((τ (0, 0, 0) 4).toInt).toNat) (k)) (1, 6, 0) (((τ (0, 0, 0) 4).toInt).toNat) (a)) (1, 7, 0) (((τ (0, 0, 0) 4).toInt).toNat) (b)) (1, 8, 0) (((τ (0, 0, 0) 4).toInt).toNat) (d)) (0, 0, 0) (4) ((τ (0, 0, 0) 4) + (1))) (0, 0, 0))) rfl 4 (by decide) fl_X7_98 rfl dX7_question_176 ?_
                        refine lv_iconst (v := 1) hx hb dX7_question_179 (by decide) ?_
                        refine lv_isub hx hb dX7_question_180 ?_
                        have z_95 : (((τ (0, 0, 0) 4) + (1)) - (1)).toInt = (((τ (0, 0, 0) 4).toInt + 1) - 1) := g_subZ z_94 (by decide) (by omega) (by omega)
                        exact s_iret hx hb hr hlk hG hS dX7_question_181 (by unfold m_qsR; (repeat' split) <;> first | rfl | (exfalso; omega)) (by unfold m_qsM; (repeat' split) <;> first | rfl | (exfalso; omega))
                      · refine lv_iconst (v := (-1)) hx hb dX7_question_122 (by decide) ?_
                        exact s_iret hx hb hr hlk hG hS dX7_question_123 (by unfold m_qsR; (repeat' split) <;> first | rfl | (exfalso; omega)) (by unfold m_qsM; (repeat' split) <;> first | rfl | (exfalso; omega))
                    · exact absurd c_105_92 (by decide)
  · refine lv_iload_n hx hb dX7_question_9 rfl (lv_at hl 2 rfl) ?_
    refine g_cont (va_runS (As := [.int (a)]) (rest := []) ⟨hx, hb, hml, hown, hts⟩ (c_X7_isIndex l D cy L τ (a) (a).toInt rfl) (cwS 1 hts gS_X7_94 rfl rfl rfl (by decide +kernel) ⟨Nat.le_of_ble_eq_true rfl, Nat.le_of_ble_eq_true rfl⟩) (g_preS hK hN hG) rfl rfl hl.1 rfl (lv_room (Nat.le_of_ble_eq_true rfl)) dX7_question_10 ⟨Nat.zero_le _, Nat.zero_le _⟩) hS (fun H locs hG hS => ?_)
    refine W.eq (g2 := F0 m 13 ls [.int (g_b (0 ≤ (a).toInt ∧ (a).toInt ≤ 4))]) rfl ?_
    refine kz_b_eq (tgt := 27) hx hb dX7_question_13 (by decide) (fun c_13_96 => ?_) (fun c_13_96 => ?_)
    · refine lv_iconst (v := 0) hx hb dX7_question_27 (by decide) ?_
      refine lv_goto (tgt := 69) hx hb dX7_question_28 (by decide) ?_
      refine lv_istore (lv' := [(5, .int 0), (0, .ref (L (0, 0, 0))), (1, .int (k)), (2, .int (a)), (3, .int (b)), (4, .int (d))]) hx hb dX7_question_69 hl (by decide) rfl (fun ls hl => ?_)
      refine lv_iload_n hx hb dX7_question_71 rfl (lv_at hl 2 rfl) ?_
      refine lv_iconst (v := 2) hx hb dX7_question_72 (by decide) ?_
      refine lv_iconst (v := 4) hx hb dX7_question_73 (by decide) ?_
      refine g_cont (va_runS (As := [.int (k), .int 2, .int 4]) (rest := []) ⟨hx, hb, hml, hown, hts⟩ (c_X7_in l D cy L τ (k) (2) (4) (k).toInt 2 4 rfl (by decide) (by decide)) (cwS 3 hts gS_X7_87 rfl rfl rfl (by decide +kernel) ⟨Nat.le_of_ble_eq_true rfl, Nat.le_of_ble_eq_true rfl⟩) (g_preS hK hN hG) rfl rfl hl.1 rfl (lv_room (Nat.le_of_ble_eq_true rfl)) dX7_question_74 ⟨Nat.zero_le _, Nat.zero_le _⟩) hS (fun H locs hG hS => ?_)
      refine W.eq (g2 := F0 m 77 ls [.int (g_b (2 ≤ (k).toInt ∧ (k).toInt ≤ 4))]) rfl ?_
      refine kz_b_eq (tgt := 100) hx hb dX7_question_77 (by decide) (fun c_77_97 => ?_) (fun c_77_97 => ?_)
      · refine lv_iconst (v := 0) hx hb dX7_question_100 (by decide) ?_
        refine lv_istore (lv' := [(6, .int 0), (5, .int 0), (0, .ref (L (0, 0, 0))), (1, .int (k)), (2, .int (a)), (3, .int (b)), (4, .int (d))]) hx hb dX7_question_101 hl (by decide) rfl (fun ls hl => ?_)
        refine lv_iload hx hb dX7_question_103 (lv_at hl 1 rfl) ?_
        refine kz_if_ne (X := 0) hx hb (by decide) dX7_question_105 (tgt := 113) (by decide) (fun c_105_98 => ?_) (fun c_105_98 => ?_)
        · exact absurd c_105_98 (by decide)
        · refine lv_iload hx hb dX7_question_108 (lv_at hl 0 rfl) ?_
          refine kz_if_eq (X := 0) hx hb (by decide) dX7_question_110 (tgt := 122) (by decide) (fun c_110_99 => ?_) (fun c_110_99 => ?_)
          · refine lv_iconst (v := (-1)) hx hb dX7_question_122 (by decide) ?_
            exact s_iret hx hb hr hlk hG hS dX7_question_123 (by unfold m_qsR; (repeat' split) <;> first | rfl | (exfalso; omega)) (by unfold m_qsM; (repeat' split) <;> first | rfl | (exfalso; omega))
          · exact absurd c_110_99 (by decide)
      · refine lv_aload_n hx hb dX7_question_80 rfl (lv_at hl 1 rfl) ?_
        refine lv_iload_n hx hb dX7_question_81 rfl (lv_at hl 3 rfl) ?_
        refine g_cont (va_runV (As := [.int (a)]) (rest := []) ⟨hx, hb, hml, hown, hts⟩ (c_X7_isQuestion l D cy L τ (a) q0 q1) (cwV 1 hts gV_X7_104 rfl rfl rfl (by decide +kernel) ⟨Nat.le_of_ble_eq_true rfl, Nat.le_of_ble_eq_true rfl⟩) (g_preV hK hN hG (x := (0, 0, 0)) ⟨rfl, rfl⟩ (q := (RX7, TX7, 28)) (m_at_0 cy L 0 0 (τ (0, 0, 0))) rfl) rfl rfl hl.1 rfl (lv_room (Nat.le_of_ble_eq_true rfl)) dX7_question_82 ⟨Nat.zero_le _, Nat.zero_le _⟩) hS (fun H locs hG hS => ?_)
        refine W.eq (g2 := F0 m 85 ls [.int (g_b (0 ≤ (a).toInt ∧ (a).toInt ≤ ((τ (0, 0, 0) 4).toInt - 1)))]) rfl ?_
        refine kz_b_eq (tgt := 100) hx hb dX7_question_85 (by decide) (fun c_85_100 => ?_) (fun c_85_100 => ?_)
        · refine lv_iconst (v := 0) hx hb dX7_question_100 (by decide) ?_
          refine lv_istore (lv' := [(6, .int 0), (5, .int 0), (0, .ref (L (0, 0, 0))), (1, .int (k)), (2, .int (a)), (3, .int (b)), (4, .int (d))]) hx hb dX7_question_101 hl (by decide) rfl (fun ls hl => ?_)
          refine lv_iload hx hb dX7_question_103 (lv_at hl 1 rfl) ?_
          refine kz_if_ne (X := 0) hx hb (by decide) dX7_question_105 (tgt := 113) (by decide) (fun c_105_101 => ?_) (fun c_105_101 => ?_)
          · exact absurd c_105_101 (by decide)
          · refine lv_iload hx hb dX7_question_108 (lv_at hl 0 rfl) ?_
            refine kz_if_eq (X := 0) hx hb (by decide) dX7_question_110 (tgt := 122) (by decide) (fun c_110_102 => ?_) (fun c_110_102 => ?_)
            · refine lv_iconst (v := (-1)) hx hb dX7_question_122 (by decide) ?_
              exact s_iret hx hb hr hlk hG hS dX7_question_123 (by unfold m_qsR; (repeat' split) <;> first | rfl | (exfalso; omega)) (by unfold m_qsM; (repeat' split) <;> first | rfl | (exfalso; omega))
            · exact absurd c_110_102 (by decide)
        · refine lv_aload_n hx hb dX7_question_88 rfl (lv_at hl 1 rfl) ?_
          refine lv_iload_n hx hb dX7_question_89 rfl (lv_at hl 4 rfl) ?_
          refine g_cont (va_runV (As := [.int (b)]) (rest := []) ⟨hx, hb, hml, hown, hts⟩ (c_X7_isQuestion l D cy L τ (b) q0 q1) (cwV 1 hts gV_X7_104 rfl rfl rfl (by decide +kernel) ⟨Nat.le_of_ble_eq_true rfl, Nat.le_of_ble_eq_true rfl⟩) (g_preV hK hN hG (x := (0, 0, 0)) ⟨rfl, rfl⟩ (q := (RX7, TX7, 28)) (m_at_0 cy L 0 0 (τ (0, 0, 0))) rfl) rfl rfl hl.1 rfl (lv_room (Nat.le_of_ble_eq_true rfl)) dX7_question_90 ⟨Nat.zero_le _, Nat.zero_le _⟩) hS (fun H locs hG hS => ?_)
          refine W.eq (g2 := F0 m 93 ls [.int (g_b (0 ≤ (b).toInt ∧ (b).toInt ≤ ((τ (0, 0, 0) 4).toInt - 1)))]) rfl ?_
          refine kz_b_eq (tgt := 100) hx hb dX7_question_93 (by decide) (fun c_93_103 => ?_) (fun c_93_103 => ?_)
          · refine lv_iconst (v := 0) hx hb dX7_question_100 (by decide) ?_
            refine lv_istore (lv' := [(6, .int 0), (5, .int 0), (0, .ref (L (0, 0, 0))), (1, .int (k)), (2, .int (a)), (3, .int (b)), (4, .int (d))]) hx hb dX7_question_101 hl (by decide) rfl (fun ls hl => ?_)
            refine lv_iload hx hb dX7_question_103 (lv_at hl 1 rfl) ?_
            refine kz_if_ne (X := 0) hx hb (by decide) dX7_question_105 (tgt := 113) (by decide) (fun c_105_104 => ?_) (fun c_105_104 => ?_)
            · exact absurd c_105_104 (by decide)
            · refine lv_iload hx hb dX7_question_108 (lv_at hl 0 rfl) ?_
              refine kz_if_eq (X := 0) hx hb (by decide) dX7_question_110 (tgt := 122) (by decide) (fun c_110_105 => ?_) (fun c_110_105 => ?_)
              · refine lv_iconst (v := (-1)) hx hb dX7_question_122 (by decide) ?_
                exact s_iret hx hb hr hlk hG hS dX7_question_123 (by unfold m_qsR; (repeat' split) <;> first | rfl | (exfalso; omega)) (by unfold m_qsM; (repeat' split) <;> first | rfl | (exfalso; omega))
              · exact absurd c_110_105 (by decide)
          · refine lv_iconst (v := 1) hx hb dX7_question_96 (by decide) ?_
            refine lv_goto (tgt := 101) hx hb dX7_question_97 (by decide) ?_
            refine lv_istore (lv' := [(6, .int 1), (5, .int 0), (0, .ref (L (0, 0, 0))), (1, .int (k)), (2, .int (a)), (3, .int (b)), (4, .int (d))]) hx hb dX7_question_101 hl (by decide) rfl (fun ls hl => ?_)
            refine lv_iload hx hb dX7_question_103 (lv_at hl 1 rfl) ?_
            refine kz_if_ne (X := 0) hx hb (by decide) dX7_question_105 (tgt := 113) (by decide) (fun c_105_106 => ?_) (fun c_105_106 => ?_)
            · exact absurd c_105_106 (by decide)
            · refine lv_iload hx hb dX7_question_108 (lv_at hl 0 rfl) ?_
              refine kz_if_eq (X := 1) hx hb (by decide) dX7_question_110 (tgt := 122) (by decide) (fun c_110_107 => ?_) (fun c_110_107 => ?_)
              · exact absurd c_110_107 (by decide)
              · refine lv_aload_n hx hb dX7_question_113 rfl (lv_at hl 2 rfl) ?_
                refine g_get (C := RX7) (T := TX7) (N := 28) (v := .int (τ (0, 0, 0) 4)) hx hb hts inX7g hown hK hG (0, 0, 0) ⟨rfl, rfl⟩ (m_at_0 cy L 0 0 (τ (0, 0, 0))) rfl 4 (by decide) fl_X7_98 rfl dX7_question_114 ?_
                refine lv_bipush (v := 40) hx hb dX7_question_117 (by decide) ?_
                refine kz_icmp_ne (X := (τ (0, 0, 0) 4).toInt) (Y := 40) hx hb rfl (by decide) dX7_question_119 (tgt := 124) (by decide) (fun c_119_108 => ?_) (fun c_119_108 => ?_)
                · refine lv_aload_n hx hb dX7_question_124 rfl (lv_at hl 2 rfl) ?_
                  refine g_get (C := RX7) (T := TX7) (N := 28) (v := .ref (L (1, 5, 0))) hx hb hts inX7g hown hK hG (0, 0, 0) ⟨rfl, rfl⟩ (m_at_0 cy L 0 0 (τ (0, 0, 0))) rfl 5 (by decide) fl_X7_16 rfl dX7_question_125 ?_
                  refine lv_aload_n hx hb dX7_question_128 rfl (lv_at hl 2 rfl) ?_
                  refine g_get (C := RX7) (T := TX7) (N := 28) (v := .int (τ (0, 0, 0) 4)) hx hb hts inX7g hown hK hG (0, 0, 0) ⟨rfl, rfl⟩ (m_at_0 cy L 0 0 (τ (0, 0, 0))) rfl 4 (by decide) fl_X7_98 rfl dX7_question_129 ?_
                  refine lv_iload_n hx hb dX7_question_132 rfl (lv_at hl 3 rfl) ?_
                  refine g_iast (n := 40) hx hb hK hG hS (1, 5, 0) ⟨by decide, rfl⟩ 0 (fun _ => rfl) rfl (g_vp (by omega) (by omega)) dX7_question_133 (fun H locs hG hS => ?_)
                  rw [show (τ (0, 0, 0) 4 : Int32).toNatClampNeg = ((τ (0, 0, 0) 4).toInt).toNat from congrArg Int.toNat (show (τ (0, 0, 0) 4 : Int32).toInt = (τ (0, 0, 0) 4).toInt from rfl)] at hG
                  refine lv_aload_n hx hb dX7_question_134 rfl (lv_at hl 2 rfl) ?_
                  refine g_get (C := RX7) (T := TX7) (N := 28) (v := .ref (L (1, 6, 0))) hx hb hts inX7g hown hK hG (0, 0, 0) ⟨rfl, rfl⟩ (m_at_0 cy L 0 0 ((g_up τ (1, 5, 0) (((τ (0, 0, 0) 4).toInt).toNat) (k)) (0, 0, 0))) rfl 6 (by decide) fl_X7_19 rfl dX7_question_135 ?_
                  refine lv_aload_n hx hb dX7_question_138 rfl (lv_at hl 2 rfl) ?_
                  refine g_get (C := RX7) (T := TX7) (N := 28) (v := .int (τ (0, 0, 0) 4)) hx hb hts inX7g hown hK hG (0, 0, 0) ⟨rfl, rfl⟩ (m_at_0 cy L 0 0 ((g_up τ (1, 5, 0) (((τ (0, 0, 0) 4).toInt).toNat) (k)) (0, 0, 0))) rfl 4 (by decide) fl_X7_98 rfl dX7_question_139 ?_
                  refine lv_iload_n hx hb dX7_question_142 rfl (lv_at hl 4 rfl) ?_
                  refine g_iast (n := 40) hx hb hK hG hS (1, 6, 0) ⟨by decide, rfl⟩ 0 (fun _ => rfl) rfl (g_vp (by omega) (by omega)) dX7_question_143 (fun H locs hG hS => ?_)
                  rw [show (τ (0, 0, 0) 4 : Int32).toNatClampNeg = ((τ (0, 0, 0) 4).toInt).toNat from congrArg Int.toNat (show (τ (0, 0, 0) 4 : Int32).toInt = (τ (0, 0, 0) 4).toInt from rfl)] at hG
                  refine lv_aload_n hx hb dX7_question_144 rfl (lv_at hl 2 rfl) ?_
                  refine g_get (C := RX7) (T := TX7) (N := 28) (v := .ref (L (1, 7, 0))) hx hb hts inX7g hown hK hG (0, 0, 0) ⟨rfl, rfl⟩ (m_at_0 cy L 0 0 ((g_up (g_up τ (1, 5, 0) (((τ (0, 0, 0) 4).toInt).toNat) (k)) (1, 6, 0) (((τ (0, 0, 0) 4).toInt).toNat) (a)) (0, 0, 0))) rfl 7 (by decide) fl_X7_22 rfl dX7_question_145 ?_
                  refine lv_aload_n hx hb dX7_question_148 rfl (lv_at hl 2 rfl) ?_
                  refine g_get (C := RX7) (T := TX7) (N := 28) (v := .int (τ (0, 0, 0) 4)) hx hb hts inX7g hown hK hG (0, 0, 0) ⟨rfl, rfl⟩ (m_at_0 cy L 0 0 ((g_up (g_up τ (1, 5, 0) (((τ (0, 0, 0) 4).toInt).toNat) (k)) (1, 6, 0) (((τ (0, 0, 0) 4).toInt).toNat) (a)) (0, 0, 0))) rfl 4 (by decide) fl_X7_98 rfl dX7_question_149 ?_
                  refine lv_iload_n hx hb dX7_question_152 rfl (lv_at hl 5 rfl) ?_
                  refine g_iast (n := 40) hx hb hK hG hS (1, 7, 0) ⟨by decide, rfl⟩ 0 (fun _ => rfl) rfl (g_vp (by omega) (by omega)) dX7_question_153 (fun H locs hG hS => ?_)
                  rw [show (τ (0, 0, 0) 4 : Int32).toNatClampNeg = ((τ (0, 0, 0) 4).toInt).toNat from congrArg Int.toNat (show (τ (0, 0, 0) 4 : Int32).toInt = (τ (0, 0, 0) 4).toInt from rfl)] at hG
                  refine lv_aload_n hx hb dX7_question_154 rfl (lv_at hl 2 rfl) ?_
                  refine g_get (C := RX7) (T := TX7) (N := 28) (v := .ref (L (1, 8, 0))) hx hb hts inX7g hown hK hG (0, 0, 0) ⟨rfl, rfl⟩ (m_at_0 cy L 0 0 ((g_up (g_up (g_up τ (1, 5, 0) (((τ (0, 0, 0) 4).toInt).toNat) (k)) (1, 6, 0) (((τ (0, 0, 0) 4).toInt).toNat) (a)) (1, 7, 0) (((τ (0, 0, 0) 4).toInt).toNat) (b)) (0, 0, 0))) rfl 8 (by decide) fl_X7_25 rfl dX7_question_155 ?_
                  refine lv_aload_n hx hb dX7_question_158 rfl (lv_at hl 2 rfl) ?_
                  refine g_get (C := RX7) (T := TX7) (N := 28) (v := .int (τ (0, 0, 0) 4)) hx hb hts inX7g hown hK hG (0, 0, 0) ⟨rfl, rfl⟩ (m_at_0 cy L 0 0 ((g_up (g_up (g_up τ (1, 5, 0) (((τ (0, 0, 0) 4).toInt).toNat) (k)) (1, 6, 0) (((τ (0, 0, 0) 4).toInt).toNat) (a)) (1, 7, 0) (((τ (0, 0, 0) 4).toInt).toNat) (b)) (0, 0, 0))) rfl 4 (by decide) fl_X7_98 rfl dX7_question_159 ?_
                  refine lv_iload hx hb dX7_question_162 (lv_at hl 6 rfl) ?_
                  refine g_iast (n := 40) hx hb hK hG hS (1, 8, 0) ⟨by decide, rfl⟩ 0 (fun _ => rfl) rfl (g_vp (by omega) (by omega)) dX7_question_164 (fun H locs hG hS => ?_)
                  rw [show (τ (0, 0, 0) 4 : Int32).toNatClampNeg = ((τ (0, 0, 0) 4).toInt).toNat from congrArg Int.toNat (show (τ (0, 0, 0) 4 : Int32).toInt = (τ (0, 0, 0) 4).toInt from rfl)] at hG
                  refine lv_aload_n hx hb dX7_question_165 rfl (lv_at hl 2 rfl) ?_
                  refine lv_dup hx hb dX7_question_166 rfl ?_
                  refine g_get (C := RX7) (T := TX7) (N := 28) (v := .int (τ (0, 0, 0) 4)) hx hb hts inX7g hown hK hG (0, 0, 0) ⟨rfl, rfl⟩ (m_at_0 cy L 0 0 ((g_up (g_up (g_up (g_up τ (1, 5, 0) (((τ (0, 0, 0) 4).toInt).toNat) (k)) (1, 6, 0) (((τ (0, 0, 0) 4).toInt).toNat) (a)) (1, 7, 0) (((τ (0, 0, 0) 4).toInt).toNat) (b)) (1, 8, 0) (((τ (0, 0, 0) 4).toInt).toNat) (d)) (0, 0, 0))) rfl 4 (by decide) fl_X7_98 rfl dX7_question_167 ?_
                  refine lv_iconst (v := 1) hx hb dX7_question_170 (by decide) ?_
                  refine lv_iadd hx hb dX7_question_171 ?_
                  have z_109 : ((τ (0, 0, 0) 4) + (1)).toInt = ((τ (0, 0, 0) 4).toInt + 1) := g_addZ rfl (by decide) (by omega) (by omega)
                  refine g_puti (C := RX7) (T := TX7) (N := 28) (v := (τ (0, 0, 0) 4) + (1)) (ty := .int) hx hb hts inX7g tyX7_ok nmX7 hown hK hG hS (0, 0, 0) ⟨rfl, rfl⟩ (m_at_0 cy L 0 0 ((g_up (g_up (g_up (g_up τ (1, 5, 0) (((τ (0, 0, 0) 4).toInt).toNat) (k)) (1, 6, 0) (((τ (0, 0, 0) 4).toInt).toNat) (a)) (1, 7, 0) (((τ (0, 0, 0) 4).toInt).toNat) (b)) (1, 8, 0) (((τ (0, 0, 0) 4).toInt).toNat) (d)) (0, 0, 0))) rfl 4 (by decide) (m_up_0_4 cy L 0 0 ((g_up (g_up (g_up (g_up τ (1, 5, 0) (((τ (0, 0, 0) 4).toInt).toNat) (k)) (1, 6, 0) (((τ (0, 0, 0) 4).toInt).toNat) (a)) (1, 7, 0) (((τ (0, 0, 0) 4).toInt).toNat) (b)) (1, 8, 0) (((τ (0, 0, 0) 4).toInt).toNat) (d)) (0, 0, 0)) ((τ (0, 0, 0) 4) + (1))) fl_X7_98 rfl (by decide +kernel) rfl rfl (Nat.le_of_ble_eq_true rfl) dX7_question_172 (fun H locs hG hS => ?_)
                  refine lv_aload_n hx hb dX7_question_175 rfl (lv_at hl 2 rfl) ?_
                  refine g_get (C := RX7) (T := TX7) (N := 28) (v := .int ((τ (0, 0, 0) 4) + (1))) hx hb hts inX7g hown hK hG (0, 0, 0) ⟨rfl, rfl⟩ (m_at_0 cy L 0 0 ((g_up (g_up (g_up (g_up (g_up τ (1, 5, 0) (((τ (0, 0, 0) 4).toInt).toNat) (k)) (1, 6, 0) (((τ (0, 0, 0) 4).toInt).toNat) (a)) (1, 7, 0) (((τ (0, 0, 0) 4).toInt).toNat) (b)) (1, 8, 0) (((τ (0, 0, 0) 4).toInt).toNat) (d)) (0, 0, 0) (4) ((τ (0, 0, 0) 4) + (1))) (0, 0, 0))) rfl 4 (by decide) fl_X7_98 rfl dX7_question_176 ?_
                  refine lv_iconst (v := 1) hx hb dX7_question_179 (by decide) ?_
                  refine lv_isub hx hb dX7_question_180 ?_
                  have z_110 : (((τ (0, 0, 0) 4) + (1)) - (1)).toInt = (((τ (0, 0, 0) 4).toInt + 1) - 1) := g_subZ z_109 (by decide) (by omega) (by omega)
                  exact s_iret hx hb hr hlk hG hS dX7_question_181 (by unfold m_qsR; (repeat' split) <;> first | rfl | (exfalso; omega)) (by unfold m_qsM; (repeat' split) <;> first | rfl | (exfalso; omega))
                · refine lv_iconst (v := (-1)) hx hb dX7_question_122 (by decide) ?_
                  exact s_iret hx hb hr hlk hG hS dX7_question_123 (by unfold m_qsR; (repeat' split) <;> first | rfl | (exfalso; omega)) (by unfold m_qsM; (repeat' split) <;> first | rfl | (exfalso; omega))
    · refine lv_iload_n hx hb dX7_question_16 rfl (lv_at hl 3 rfl) ?_
      refine g_cont (va_runS (As := [.int (b)]) (rest := []) ⟨hx, hb, hml, hown, hts⟩ (c_X7_isValue l D cy L τ (b) (b).toInt rfl) (cwS 1 hts gS_X7_101 rfl rfl rfl (by decide +kernel) ⟨Nat.le_of_ble_eq_true rfl, Nat.le_of_ble_eq_true rfl⟩) (g_preS hK hN hG) rfl rfl hl.1 rfl (lv_room (Nat.le_of_ble_eq_true rfl)) dX7_question_17 ⟨Nat.zero_le _, Nat.zero_le _⟩) hS (fun H locs hG hS => ?_)
      refine W.eq (g2 := F0 m 20 ls [.int (g_b (0 ≤ (b).toInt ∧ (b).toInt ≤ 999))]) rfl ?_
      refine kz_b_eq (tgt := 27) hx hb dX7_question_20 (by decide) (fun c_20_111 => ?_) (fun c_20_111 => ?_)
      · refine lv_iconst (v := 0) hx hb dX7_question_27 (by decide) ?_
        refine lv_goto (tgt := 69) hx hb dX7_question_28 (by decide) ?_
        refine lv_istore (lv' := [(5, .int 0), (0, .ref (L (0, 0, 0))), (1, .int (k)), (2, .int (a)), (3, .int (b)), (4, .int (d))]) hx hb dX7_question_69 hl (by decide) rfl (fun ls hl => ?_)
        refine lv_iload_n hx hb dX7_question_71 rfl (lv_at hl 2 rfl) ?_
        refine lv_iconst (v := 2) hx hb dX7_question_72 (by decide) ?_
        refine lv_iconst (v := 4) hx hb dX7_question_73 (by decide) ?_
        refine g_cont (va_runS (As := [.int (k), .int 2, .int 4]) (rest := []) ⟨hx, hb, hml, hown, hts⟩ (c_X7_in l D cy L τ (k) (2) (4) (k).toInt 2 4 rfl (by decide) (by decide)) (cwS 3 hts gS_X7_87 rfl rfl rfl (by decide +kernel) ⟨Nat.le_of_ble_eq_true rfl, Nat.le_of_ble_eq_true rfl⟩) (g_preS hK hN hG) rfl rfl hl.1 rfl (lv_room (Nat.le_of_ble_eq_true rfl)) dX7_question_74 ⟨Nat.zero_le _, Nat.zero_le _⟩) hS (fun H locs hG hS => ?_)
        refine W.eq (g2 := F0 m 77 ls [.int (g_b (2 ≤ (k).toInt ∧ (k).toInt ≤ 4))]) rfl ?_
        refine kz_b_eq (tgt := 100) hx hb dX7_question_77 (by decide) (fun c_77_112 => ?_) (fun c_77_112 => ?_)
        · refine lv_iconst (v := 0) hx hb dX7_question_100 (by decide) ?_
          refine lv_istore (lv' := [(6, .int 0), (5, .int 0), (0, .ref (L (0, 0, 0))), (1, .int (k)), (2, .int (a)), (3, .int (b)), (4, .int (d))]) hx hb dX7_question_101 hl (by decide) rfl (fun ls hl => ?_)
          refine lv_iload hx hb dX7_question_103 (lv_at hl 1 rfl) ?_
          refine kz_if_ne (X := 0) hx hb (by decide) dX7_question_105 (tgt := 113) (by decide) (fun c_105_113 => ?_) (fun c_105_113 => ?_)
          · exact absurd c_105_113 (by decide)
          · refine lv_iload hx hb dX7_question_108 (lv_at hl 0 rfl) ?_
            refine kz_if_eq (X := 0) hx hb (by decide) dX7_question_110 (tgt := 122) (by decide) (fun c_110_114 => ?_) (fun c_110_114 => ?_)
            · refine lv_iconst (v := (-1)) hx hb dX7_question_122 (by decide) ?_
              exact s_iret hx hb hr hlk hG hS dX7_question_123 (by unfold m_qsR; (repeat' split) <;> first | rfl | (exfalso; omega)) (by unfold m_qsM; (repeat' split) <;> first | rfl | (exfalso; omega))
            · exact absurd c_110_114 (by decide)
        · refine lv_aload_n hx hb dX7_question_80 rfl (lv_at hl 1 rfl) ?_
          refine lv_iload_n hx hb dX7_question_81 rfl (lv_at hl 3 rfl) ?_
          refine g_cont (va_runV (As := [.int (a)]) (rest := []) ⟨hx, hb, hml, hown, hts⟩ (c_X7_isQuestion l D cy L τ (a) q0 q1) (cwV 1 hts gV_X7_104 rfl rfl rfl (by decide +kernel) ⟨Nat.le_of_ble_eq_true rfl, Nat.le_of_ble_eq_true rfl⟩) (g_preV hK hN hG (x := (0, 0, 0)) ⟨rfl, rfl⟩ (q := (RX7, TX7, 28)) (m_at_0 cy L 0 0 (τ (0, 0, 0))) rfl) rfl rfl hl.1 rfl (lv_room (Nat.le_of_ble_eq_true rfl)) dX7_question_82 ⟨Nat.zero_le _, Nat.zero_le _⟩) hS (fun H locs hG hS => ?_)
          refine W.eq (g2 := F0 m 85 ls [.int (g_b (0 ≤ (a).toInt ∧ (a).toInt ≤ ((τ (0, 0, 0) 4).toInt - 1)))]) rfl ?_
          refine kz_b_eq (tgt := 100) hx hb dX7_question_85 (by decide) (fun c_85_115 => ?_) (fun c_85_115 => ?_)
          · refine lv_iconst (v := 0) hx hb dX7_question_100 (by decide) ?_
            refine lv_istore (lv' := [(6, .int 0), (5, .int 0), (0, .ref (L (0, 0, 0))), (1, .int (k)), (2, .int (a)), (3, .int (b)), (4, .int (d))]) hx hb dX7_question_101 hl (by decide) rfl (fun ls hl => ?_)
            refine lv_iload hx hb dX7_question_103 (lv_at hl 1 rfl) ?_
            refine kz_if_ne (X := 0) hx hb (by decide) dX7_question_105 (tgt := 113) (by decide) (fun c_105_116 => ?_) (fun c_105_116 => ?_)
            · exact absurd c_105_116 (by decide)
            · refine lv_iload hx hb dX7_question_108 (lv_at hl 0 rfl) ?_
              refine kz_if_eq (X := 0) hx hb (by decide) dX7_question_110 (tgt := 122) (by decide) (fun c_110_117 => ?_) (fun c_110_117 => ?_)
              · refine lv_iconst (v := (-1)) hx hb dX7_question_122 (by decide) ?_
                exact s_iret hx hb hr hlk hG hS dX7_question_123 (by unfold m_qsR; (repeat' split) <;> first | rfl | (exfalso; omega)) (by unfold m_qsM; (repeat' split) <;> first | rfl | (exfalso; omega))
              · exact absurd c_110_117 (by decide)
          · refine lv_aload_n hx hb dX7_question_88 rfl (lv_at hl 1 rfl) ?_
            refine lv_iload_n hx hb dX7_question_89 rfl (lv_at hl 4 rfl) ?_
            refine g_cont (va_runV (As := [.int (b)]) (rest := []) ⟨hx, hb, hml, hown, hts⟩ (c_X7_isQuestion l D cy L τ (b) q0 q1) (cwV 1 hts gV_X7_104 rfl rfl rfl (by decide +kernel) ⟨Nat.le_of_ble_eq_true rfl, Nat.le_of_ble_eq_true rfl⟩) (g_preV hK hN hG (x := (0, 0, 0)) ⟨rfl, rfl⟩ (q := (RX7, TX7, 28)) (m_at_0 cy L 0 0 (τ (0, 0, 0))) rfl) rfl rfl hl.1 rfl (lv_room (Nat.le_of_ble_eq_true rfl)) dX7_question_90 ⟨Nat.zero_le _, Nat.zero_le _⟩) hS (fun H locs hG hS => ?_)
            refine W.eq (g2 := F0 m 93 ls [.int (g_b (0 ≤ (b).toInt ∧ (b).toInt ≤ ((τ (0, 0, 0) 4).toInt - 1)))]) rfl ?_
            refine kz_b_eq (tgt := 100) hx hb dX7_question_93 (by decide) (fun c_93_118 => ?_) (fun c_93_118 => ?_)
            · refine lv_iconst (v := 0) hx hb dX7_question_100 (by decide) ?_
              refine lv_istore (lv' := [(6, .int 0), (5, .int 0), (0, .ref (L (0, 0, 0))), (1, .int (k)), (2, .int (a)), (3, .int (b)), (4, .int (d))]) hx hb dX7_question_101 hl (by decide) rfl (fun ls hl => ?_)
              refine lv_iload hx hb dX7_question_103 (lv_at hl 1 rfl) ?_
              refine kz_if_ne (X := 0) hx hb (by decide) dX7_question_105 (tgt := 113) (by decide) (fun c_105_119 => ?_) (fun c_105_119 => ?_)
              · exact absurd c_105_119 (by decide)
              · refine lv_iload hx hb dX7_question_108 (lv_at hl 0 rfl) ?_
                refine kz_if_eq (X := 0) hx hb (by decide) dX7_question_110 (tgt := 122) (by decide) (fun c_110_120 => ?_) (fun c_110_120 => ?_)
                · refine lv_iconst (v := (-1)) hx hb dX7_question_122 (by decide) ?_
                  exact s_iret hx hb hr hlk hG hS dX7_question_123 (by unfold m_qsR; (repeat' split) <;> first | rfl | (exfalso; omega)) (by unfold m_qsM; (repeat' split) <;> first | rfl | (exfalso; omega))
                · exact absurd c_110_120 (by decide)
            · refine lv_iconst (v := 1) hx hb dX7_question_96 (by decide) ?_
              refine lv_goto (tgt := 101) hx hb dX7_question_97 (by decide) ?_
              refine lv_istore (lv' := [(6, .int 1), (5, .int 0), (0, .ref (L (0, 0, 0))), (1, .int (k)), (2, .int (a)), (3, .int (b)), (4, .int (d))]) hx hb dX7_question_101 hl (by decide) rfl (fun ls hl => ?_)
              refine lv_iload hx hb dX7_question_103 (lv_at hl 1 rfl) ?_
              refine kz_if_ne (X := 0) hx hb (by decide) dX7_question_105 (tgt := 113) (by decide) (fun c_105_121 => ?_) (fun c_105_121 => ?_)
              · exact absurd c_105_121 (by decide)
              · refine lv_iload hx hb dX7_question_108 (lv_at hl 0 rfl) ?_
                refine kz_if_eq (X := 1) hx hb (by decide) dX7_question_110 (tgt := 122) (by decide) (fun c_110_122 => ?_) (fun c_110_122 => ?_)
                · exact absurd c_110_122 (by decide)
                · refine lv_aload_n hx hb dX7_question_113 rfl (lv_at hl 2 rfl) ?_
                  refine g_get (C := RX7) (T := TX7) (N := 28) (v := .int (τ (0, 0, 0) 4)) hx hb hts inX7g hown hK hG (0, 0, 0) ⟨rfl, rfl⟩ (m_at_0 cy L 0 0 (τ (0, 0, 0))) rfl 4 (by decide) fl_X7_98 rfl dX7_question_114 ?_
                  refine lv_bipush (v := 40) hx hb dX7_question_117 (by decide) ?_
                  refine kz_icmp_ne (X := (τ (0, 0, 0) 4).toInt) (Y := 40) hx hb rfl (by decide) dX7_question_119 (tgt := 124) (by decide) (fun c_119_123 => ?_) (fun c_119_123 => ?_)
                  · refine lv_aload_n hx hb dX7_question_124 rfl (lv_at hl 2 rfl) ?_
                    refine g_get (C := RX7) (T := TX7) (N := 28) (v := .ref (L (1, 5, 0))) hx hb hts inX7g hown hK hG (0, 0, 0) ⟨rfl, rfl⟩ (m_at_0 cy L 0 0 (τ (0, 0, 0))) rfl 5 (by decide) fl_X7_16 rfl dX7_question_125 ?_
                    refine lv_aload_n hx hb dX7_question_128 rfl (lv_at hl 2 rfl) ?_
                    refine g_get (C := RX7) (T := TX7) (N := 28) (v := .int (τ (0, 0, 0) 4)) hx hb hts inX7g hown hK hG (0, 0, 0) ⟨rfl, rfl⟩ (m_at_0 cy L 0 0 (τ (0, 0, 0))) rfl 4 (by decide) fl_X7_98 rfl dX7_question_129 ?_
                    refine lv_iload_n hx hb dX7_question_132 rfl (lv_at hl 3 rfl) ?_
                    refine g_iast (n := 40) hx hb hK hG hS (1, 5, 0) ⟨by decide, rfl⟩ 0 (fun _ => rfl) rfl (g_vp (by omega) (by omega)) dX7_question_133 (fun H locs hG hS => ?_)
                    rw [show (τ (0, 0, 0) 4 : Int32).toNatClampNeg = ((τ (0, 0, 0) 4).toInt).toNat from congrArg Int.toNat (show (τ (0, 0, 0) 4 : Int32).toInt = (τ (0, 0, 0) 4).toInt from rfl)] at hG
                    refine lv_aload_n hx hb dX7_question_134 rfl (lv_at hl 2 rfl) ?_
                    refine g_get (C := RX7) (T := TX7) (N := 28) (v := .ref (L (1, 6, 0))) hx hb hts inX7g hown hK hG (0, 0, 0) ⟨rfl, rfl⟩ (m_at_0 cy L 0 0 ((g_up τ (1, 5, 0) (((τ (0, 0, 0) 4).toInt).toNat) (k)) (0, 0, 0))) rfl 6 (by decide) fl_X7_19 rfl dX7_question_135 ?_
                    refine lv_aload_n hx hb dX7_question_138 rfl (lv_at hl 2 rfl) ?_
                    refine g_get (C := RX7) (T := TX7) (N := 28) (v := .int (τ (0, 0, 0) 4)) hx hb hts inX7g hown hK hG (0, 0, 0) ⟨rfl, rfl⟩ (m_at_0 cy L 0 0 ((g_up τ (1, 5, 0) (((τ (0, 0, 0) 4).toInt).toNat) (k)) (0, 0, 0))) rfl 4 (by decide) fl_X7_98 rfl dX7_question_139 ?_
                    refine lv_iload_n hx hb dX7_question_142 rfl (lv_at hl 4 rfl) ?_
                    refine g_iast (n := 40) hx hb hK hG hS (1, 6, 0) ⟨by decide, rfl⟩ 0 (fun _ => rfl) rfl (g_vp (by omega) (by omega)) dX7_question_143 (fun H locs hG hS => ?_)
                    rw [show (τ (0, 0, 0) 4 : Int32).toNatClampNeg = ((τ (0, 0, 0) 4).toInt).toNat from congrArg Int.toNat (show (τ (0, 0, 0) 4 : Int32).toInt = (τ (0, 0, 0) 4).toInt from rfl)] at hG
                    refine lv_aload_n hx hb dX7_question_144 rfl (lv_at hl 2 rfl) ?_
                    refine g_get (C := RX7) (T := TX7) (N := 28) (v := .ref (L (1, 7, 0))) hx hb hts inX7g hown hK hG (0, 0, 0) ⟨rfl, rfl⟩ (m_at_0 cy L 0 0 ((g_up (g_up τ (1, 5, 0) (((τ (0, 0, 0) 4).toInt).toNat) (k)) (1, 6, 0) (((τ (0, 0, 0) 4).toInt).toNat) (a)) (0, 0, 0))) rfl 7 (by decide) fl_X7_22 rfl dX7_question_145 ?_
                    refine lv_aload_n hx hb dX7_question_148 rfl (lv_at hl 2 rfl) ?_
                    refine g_get (C := RX7) (T := TX7) (N := 28) (v := .int (τ (0, 0, 0) 4)) hx hb hts inX7g hown hK hG (0, 0, 0) ⟨rfl, rfl⟩ (m_at_0 cy L 0 0 ((g_up (g_up τ (1, 5, 0) (((τ (0, 0, 0) 4).toInt).toNat) (k)) (1, 6, 0) (((τ (0, 0, 0) 4).toInt).toNat) (a)) (0, 0, 0))) rfl 4 (by decide) fl_X7_98 rfl dX7_question_149 ?_
                    refine lv_iload_n hx hb dX7_question_152 rfl (lv_at hl 5 rfl) ?_
                    refine g_iast (n := 40) hx hb hK hG hS (1, 7, 0) ⟨by decide, rfl⟩ 0 (fun _ => rfl) rfl (g_vp (by omega) (by omega)) dX7_question_153 (fun H locs hG hS => ?_)
                    rw [show (τ (0, 0, 0) 4 : Int32).toNatClampNeg = ((τ (0, 0, 0) 4).toInt).toNat from congrArg Int.toNat (show (τ (0, 0, 0) 4 : Int32).toInt = (τ (0, 0, 0) 4).toInt from rfl)] at hG
                    refine lv_aload_n hx hb dX7_question_154 rfl (lv_at hl 2 rfl) ?_
                    refine g_get (C := RX7) (T := TX7) (N := 28) (v := .ref (L (1, 8, 0))) hx hb hts inX7g hown hK hG (0, 0, 0) ⟨rfl, rfl⟩ (m_at_0 cy L 0 0 ((g_up (g_up (g_up τ (1, 5, 0) (((τ (0, 0, 0) 4).toInt).toNat) (k)) (1, 6, 0) (((τ (0, 0, 0) 4).toInt).toNat) (a)) (1, 7, 0) (((τ (0, 0, 0) 4).toInt).toNat) (b)) (0, 0, 0))) rfl 8 (by decide) fl_X7_25 rfl dX7_question_155 ?_
                    refine lv_aload_n hx hb dX7_question_158 rfl (lv_at hl 2 rfl) ?_
                    refine g_get (C := RX7) (T := TX7) (N := 28) (v := .int (τ (0, 0, 0) 4)) hx hb hts inX7g hown hK hG (0, 0, 0) ⟨rfl, rfl⟩ (m_at_0 cy L 0 0 ((g_up (g_up (g_up τ (1, 5, 0) (((τ (0, 0, 0) 4).toInt).toNat) (k)) (1, 6, 0) (((τ (0, 0, 0) 4).toInt).toNat) (a)) (1, 7, 0) (((τ (0, 0, 0) 4).toInt).toNat) (b)) (0, 0, 0))) rfl 4 (by decide) fl_X7_98 rfl dX7_question_159 ?_
                    refine lv_iload hx hb dX7_question_162 (lv_at hl 6 rfl) ?_
                    refine g_iast (n := 40) hx hb hK hG hS (1, 8, 0) ⟨by decide, rfl⟩ 0 (fun _ => rfl) rfl (g_vp (by omega) (by omega)) dX7_question_164 (fun H locs hG hS => ?_)
                    rw [show (τ (0, 0, 0) 4 : Int32).toNatClampNeg = ((τ (0, 0, 0) 4).toInt).toNat from congrArg Int.toNat (show (τ (0, 0, 0) 4 : Int32).toInt = (τ (0, 0, 0) 4).toInt from rfl)] at hG
                    refine lv_aload_n hx hb dX7_question_165 rfl (lv_at hl 2 rfl) ?_
                    refine lv_dup hx hb dX7_question_166 rfl ?_
                    refine g_get (C := RX7) (T := TX7) (N := 28) (v := .int (τ (0, 0, 0) 4)) hx hb hts inX7g hown hK hG (0, 0, 0) ⟨rfl, rfl⟩ (m_at_0 cy L 0 0 ((g_up (g_up (g_up (g_up τ (1, 5, 0) (((τ (0, 0, 0) 4).toInt).toNat) (k)) (1, 6, 0) (((τ (0, 0, 0) 4).toInt).toNat) (a)) (1, 7, 0) (((τ (0, 0, 0) 4).toInt).toNat) (b)) (1, 8, 0) (((τ (0, 0, 0) 4).toInt).toNat) (d)) (0, 0, 0))) rfl 4 (by decide) fl_X7_98 rfl dX7_question_167 ?_
                    refine lv_iconst (v := 1) hx hb dX7_question_170 (by decide) ?_
                    refine lv_iadd hx hb dX7_question_171 ?_
                    have z_124 : ((τ (0, 0, 0) 4) + (1)).toInt = ((τ (0, 0, 0) 4).toInt + 1) := g_addZ rfl (by decide) (by omega) (by omega)
                    refine g_puti (C := RX7) (T := TX7) (N := 28) (v := (τ (0, 0, 0) 4) + (1)) (ty := .int) hx hb hts inX7g tyX7_ok nmX7 hown hK hG hS (0, 0, 0) ⟨rfl, rfl⟩ (m_at_0 cy L 0 0 ((g_up (g_up (g_up (g_up τ (1, 5, 0) (((τ (0, 0, 0) 4).toInt).toNat) (k)) (1, 6, 0) (((τ (0, 0, 0) 4).toInt).toNat) (a)) (1, 7, 0) (((τ (0, 0, 0) 4).toInt).toNat) (b)) (1, 8, 0) (((τ (0, 0, 0) 4).toInt).toNat) (d)) (0, 0, 0))) rfl 4 (by decide) (m_up_0_4 cy L 0 0 ((g_up (g_up (g_up (g_up τ (1, 5, 0) (((τ (0, 0, 0) 4).toInt).toNat) (k)) (1, 6, 0) (((τ (0, 0, 0) 4).toInt).toNat) (a)) (1, 7, 0) (((τ (0, 0, 0) 4).toInt).toNat) (b)) (1, 8, 0) (((τ (0, 0, 0) 4).toInt).toNat) (d)) (0, 0, 0)) ((τ (0, 0, 0) 4) + (1))) fl_X7_98 rfl (by decide +kernel) rfl rfl (Nat.le_of_ble_eq_true rfl) dX7_question_172 (fun H locs hG hS => ?_)
                    refine lv_aload_n hx hb dX7_question_175 rfl (lv_at hl 2 rfl) ?_
                    refine g_get (C := RX7) (T := TX7) (N := 28) (v := .int ((τ (0, 0, 0) 4) + (1))) hx hb hts inX7g hown hK hG (0, 0, 0) ⟨rfl, rfl⟩ (m_at_0 cy L 0 0 ((g_up (g_up (g_up (g_up (g_up τ (1, 5, 0) (((τ (0, 0, 0) 4).toInt).toNat) (k)) (1, 6, 0) (((τ (0, 0, 0) 4).toInt).toNat) (a)) (1, 7, 0) (((τ (0, 0, 0) 4).toInt).toNat) (b)) (1, 8, 0) (((τ (0, 0, 0) 4).toInt).toNat) (d)) (0, 0, 0) (4) ((τ (0, 0, 0) 4) + (1))) (0, 0, 0))) rfl 4 (by decide) fl_X7_98 rfl dX7_question_176 ?_
                    refine lv_iconst (v := 1) hx hb dX7_question_179 (by decide) ?_
                    refine lv_isub hx hb dX7_question_180 ?_
                    have z_125 : (((τ (0, 0, 0) 4) + (1)) - (1)).toInt = (((τ (0, 0, 0) 4).toInt + 1) - 1) := g_subZ z_124 (by decide) (by omega) (by omega)
                    exact s_iret hx hb hr hlk hG hS dX7_question_181 (by unfold m_qsR; (repeat' split) <;> first | rfl | (exfalso; omega)) (by unfold m_qsM; (repeat' split) <;> first | rfl | (exfalso; omega))
                  · refine lv_iconst (v := (-1)) hx hb dX7_question_122 (by decide) ?_
                    exact s_iret hx hb hr hlk hG hS dX7_question_123 (by unfold m_qsR; (repeat' split) <;> first | rfl | (exfalso; omega)) (by unfold m_qsM; (repeat' split) <;> first | rfl | (exfalso; omega))
      · refine lv_iconst (v := 1) hx hb dX7_question_23 (by decide) ?_
        refine lv_goto (tgt := 69) hx hb dX7_question_24 (by decide) ?_
        refine lv_istore (lv' := [(5, .int 1), (0, .ref (L (0, 0, 0))), (1, .int (k)), (2, .int (a)), (3, .int (b)), (4, .int (d))]) hx hb dX7_question_69 hl (by decide) rfl (fun ls hl => ?_)
        refine lv_iload_n hx hb dX7_question_71 rfl (lv_at hl 2 rfl) ?_
        refine lv_iconst (v := 2) hx hb dX7_question_72 (by decide) ?_
        refine lv_iconst (v := 4) hx hb dX7_question_73 (by decide) ?_
        refine g_cont (va_runS (As := [.int (k), .int 2, .int 4]) (rest := []) ⟨hx, hb, hml, hown, hts⟩ (c_X7_in l D cy L τ (k) (2) (4) (k).toInt 2 4 rfl (by decide) (by decide)) (cwS 3 hts gS_X7_87 rfl rfl rfl (by decide +kernel) ⟨Nat.le_of_ble_eq_true rfl, Nat.le_of_ble_eq_true rfl⟩) (g_preS hK hN hG) rfl rfl hl.1 rfl (lv_room (Nat.le_of_ble_eq_true rfl)) dX7_question_74 ⟨Nat.zero_le _, Nat.zero_le _⟩) hS (fun H locs hG hS => ?_)
        refine W.eq (g2 := F0 m 77 ls [.int (g_b (2 ≤ (k).toInt ∧ (k).toInt ≤ 4))]) rfl ?_
        refine kz_b_eq (tgt := 100) hx hb dX7_question_77 (by decide) (fun c_77_126 => ?_) (fun c_77_126 => ?_)
        · refine lv_iconst (v := 0) hx hb dX7_question_100 (by decide) ?_
          refine lv_istore (lv' := [(6, .int 0), (5, .int 1), (0, .ref (L (0, 0, 0))), (1, .int (k)), (2, .int (a)), (3, .int (b)), (4, .int (d))]) hx hb dX7_question_101 hl (by decide) rfl (fun ls hl => ?_)
          refine lv_iload hx hb dX7_question_103 (lv_at hl 1 rfl) ?_
          refine kz_if_ne (X := 1) hx hb (by decide) dX7_question_105 (tgt := 113) (by decide) (fun c_105_127 => ?_) (fun c_105_127 => ?_)
          · refine lv_aload_n hx hb dX7_question_113 rfl (lv_at hl 2 rfl) ?_
            refine g_get (C := RX7) (T := TX7) (N := 28) (v := .int (τ (0, 0, 0) 4)) hx hb hts inX7g hown hK hG (0, 0, 0) ⟨rfl, rfl⟩ (m_at_0 cy L 0 0 (τ (0, 0, 0))) rfl 4 (by decide) fl_X7_98 rfl dX7_question_114 ?_
            refine lv_bipush (v := 40) hx hb dX7_question_117 (by decide) ?_
            refine kz_icmp_ne (X := (τ (0, 0, 0) 4).toInt) (Y := 40) hx hb rfl (by decide) dX7_question_119 (tgt := 124) (by decide) (fun c_119_128 => ?_) (fun c_119_128 => ?_)
            · refine lv_aload_n hx hb dX7_question_124 rfl (lv_at hl 2 rfl) ?_
              refine g_get (C := RX7) (T := TX7) (N := 28) (v := .ref (L (1, 5, 0))) hx hb hts inX7g hown hK hG (0, 0, 0) ⟨rfl, rfl⟩ (m_at_0 cy L 0 0 (τ (0, 0, 0))) rfl 5 (by decide) fl_X7_16 rfl dX7_question_125 ?_
              refine lv_aload_n hx hb dX7_question_128 rfl (lv_at hl 2 rfl) ?_
              refine g_get (C := RX7) (T := TX7) (N := 28) (v := .int (τ (0, 0, 0) 4)) hx hb hts inX7g hown hK hG (0, 0, 0) ⟨rfl, rfl⟩ (m_at_0 cy L 0 0 (τ (0, 0, 0))) rfl 4 (by decide) fl_X7_98 rfl dX7_question_129 ?_
              refine lv_iload_n hx hb dX7_question_132 rfl (lv_at hl 3 rfl) ?_
              refine g_iast (n := 40) hx hb hK hG hS (1, 5, 0) ⟨by decide, rfl⟩ 0 (fun _ => rfl) rfl (g_vp (by omega) (by omega)) dX7_question_133 (fun H locs hG hS => ?_)
              rw [show (τ (0, 0, 0) 4 : Int32).toNatClampNeg = ((τ (0, 0, 0) 4).toInt).toNat from congrArg Int.toNat (show (τ (0, 0, 0) 4 : Int32).toInt = (τ (0, 0, 0) 4).toInt from rfl)] at hG
              refine lv_aload_n hx hb dX7_question_134 rfl (lv_at hl 2 rfl) ?_
              refine g_get (C := RX7) (T := TX7) (N := 28) (v := .ref (L (1, 6, 0))) hx hb hts inX7g hown hK hG (0, 0, 0) ⟨rfl, rfl⟩ (m_at_0 cy L 0 0 ((g_up τ (1, 5, 0) (((τ (0, 0, 0) 4).toInt).toNat) (k)) (0, 0, 0))) rfl 6 (by decide) fl_X7_19 rfl dX7_question_135 ?_
              refine lv_aload_n hx hb dX7_question_138 rfl (lv_at hl 2 rfl) ?_
              refine g_get (C := RX7) (T := TX7) (N := 28) (v := .int (τ (0, 0, 0) 4)) hx hb hts inX7g hown hK hG (0, 0, 0) ⟨rfl, rfl⟩ (m_at_0 cy L 0 0 ((g_up τ (1, 5, 0) (((τ (0, 0, 0) 4).toInt).toNat) (k)) (0, 0, 0))) rfl 4 (by decide) fl_X7_98 rfl dX7_question_139 ?_
              refine lv_iload_n hx hb dX7_question_142 rfl (lv_at hl 4 rfl) ?_
              refine g_iast (n := 40) hx hb hK hG hS (1, 6, 0) ⟨by decide, rfl⟩ 0 (fun _ => rfl) rfl (g_vp (by omega) (by omega)) dX7_question_143 (fun H locs hG hS => ?_)
              rw [show (τ (0, 0, 0) 4 : Int32).toNatClampNeg = ((τ (0, 0, 0) 4).toInt).toNat from congrArg Int.toNat (show (τ (0, 0, 0) 4 : Int32).toInt = (τ (0, 0, 0) 4).toInt from rfl)] at hG
              refine lv_aload_n hx hb dX7_question_144 rfl (lv_at hl 2 rfl) ?_
              refine g_get (C := RX7) (T := TX7) (N := 28) (v := .ref (L (1, 7, 0))) hx hb hts inX7g hown hK hG (0, 0, 0) ⟨rfl, rfl⟩ (m_at_0 cy L 0 0 ((g_up (g_up τ (1, 5, 0) (((τ (0, 0, 0) 4).toInt).toNat) (k)) (1, 6, 0) (((τ (0, 0, 0) 4).toInt).toNat) (a)) (0, 0, 0))) rfl 7 (by decide) fl_X7_22 rfl dX7_question_145 ?_
              refine lv_aload_n hx hb dX7_question_148 rfl (lv_at hl 2 rfl) ?_
              refine g_get (C := RX7) (T := TX7) (N := 28) (v := .int (τ (0, 0, 0) 4)) hx hb hts inX7g hown hK hG (0, 0, 0) ⟨rfl, rfl⟩ (m_at_0 cy L 0 0 ((g_up (g_up τ (1, 5, 0) (((τ (0, 0, 0) 4).toInt).toNat) (k)) (1, 6, 0) (((τ (0, 0, 0) 4).toInt).toNat) (a)) (0, 0, 0))) rfl 4 (by decide) fl_X7_98 rfl dX7_question_149 ?_
              refine lv_iload_n hx hb dX7_question_152 rfl (lv_at hl 5 rfl) ?_
              refine g_iast (n := 40) hx hb hK hG hS (1, 7, 0) ⟨by decide, rfl⟩ 0 (fun _ => rfl) rfl (g_vp (by omega) (by omega)) dX7_question_153 (fun H locs hG hS => ?_)
              rw [show (τ (0, 0, 0) 4 : Int32).toNatClampNeg = ((τ (0, 0, 0) 4).toInt).toNat from congrArg Int.toNat (show (τ (0, 0, 0) 4 : Int32).toInt = (τ (0, 0, 0) 4).toInt from rfl)] at hG
              refine lv_aload_n hx hb dX7_question_154 rfl (lv_at hl 2 rfl) ?_
              refine g_get (C := RX7) (T := TX7) (N := 28) (v := .ref (L (1, 8, 0))) hx hb hts inX7g hown hK hG (0, 0, 0) ⟨rfl, rfl⟩ (m_at_0 cy L 0 0 ((g_up (g_up (g_up τ (1, 5, 0) (((τ (0, 0, 0) 4).toInt).toNat) (k)) (1, 6, 0) (((τ (0, 0, 0) 4).toInt).toNat) (a)) (1, 7, 0) (((τ (0, 0, 0) 4).toInt).toNat) (b)) (0, 0, 0))) rfl 8 (by decide) fl_X7_25 rfl dX7_question_155 ?_
              refine lv_aload_n hx hb dX7_question_158 rfl (lv_at hl 2 rfl) ?_
              refine g_get (C := RX7) (T := TX7) (N := 28) (v := .int (τ (0, 0, 0) 4)) hx hb hts inX7g hown hK hG (0, 0, 0) ⟨rfl, rfl⟩ (m_at_0 cy L 0 0 ((g_up (g_up (g_up τ (1, 5, 0) (((τ (0, 0, 0) 4).toInt).toNat) (k)) (1, 6, 0) (((τ (0, 0, 0) 4).toInt).toNat) (a)) (1, 7, 0) (((τ (0, 0, 0) 4).toInt).toNat) (b)) (0, 0, 0))) rfl 4 (by decide) fl_X7_98 rfl dX7_question_159 ?_
              refine lv_iload hx hb dX7_question_162 (lv_at hl 6 rfl) ?_
              refine g_iast (n := 40) hx hb hK hG hS (1, 8, 0) ⟨by decide, rfl⟩ 0 (fun _ => rfl) rfl (g_vp (by omega) (by omega)) dX7_question_164 (fun H locs hG hS => ?_)
              rw [show (τ (0, 0, 0) 4 : Int32).toNatClampNeg = ((τ (0, 0, 0) 4).toInt).toNat from congrArg Int.toNat (show (τ (0, 0, 0) 4 : Int32).toInt = (τ (0, 0, 0) 4).toInt from rfl)] at hG
              refine lv_aload_n hx hb dX7_question_165 rfl (lv_at hl 2 rfl) ?_
              refine lv_dup hx hb dX7_question_166 rfl ?_
              refine g_get (C := RX7) (T := TX7) (N := 28) (v := .int (τ (0, 0, 0) 4)) hx hb hts inX7g hown hK hG (0, 0, 0) ⟨rfl, rfl⟩ (m_at_0 cy L 0 0 ((g_up (g_up (g_up (g_up τ (1, 5, 0) (((τ (0, 0, 0) 4).toInt).toNat) (k)) (1, 6, 0) (((τ (0, 0, 0) 4).toInt).toNat) (a)) (1, 7, 0) (((τ (0, 0, 0) 4).toInt).toNat) (b)) (1, 8, 0) (((τ (0, 0, 0) 4).toInt).toNat) (d)) (0, 0, 0))) rfl 4 (by decide) fl_X7_98 rfl dX7_question_167 ?_
              refine lv_iconst (v := 1) hx hb dX7_question_170 (by decide) ?_
              refine lv_iadd hx hb dX7_question_171 ?_
              have z_129 : ((τ (0, 0, 0) 4) + (1)).toInt = ((τ (0, 0, 0) 4).toInt + 1) := g_addZ rfl (by decide) (by omega) (by omega)
              refine g_puti (C := RX7) (T := TX7) (N := 28) (v := (τ (0, 0, 0) 4) + (1)) (ty := .int) hx hb hts inX7g tyX7_ok nmX7 hown hK hG hS (0, 0, 0) ⟨rfl, rfl⟩ (m_at_0 cy L 0 0 ((g_up (g_up (g_up (g_up τ (1, 5, 0) (((τ (0, 0, 0) 4).toInt).toNat) (k)) (1, 6, 0) (((τ (0, 0, 0) 4).toInt).toNat) (a)) (1, 7, 0) (((τ (0, 0, 0) 4).toInt).toNat) (b)) (1, 8, 0) (((τ (0, 0, 0) 4).toInt).toNat) (d)) (0, 0, 0))) rfl 4 (by decide) (m_up_0_4 cy L 0 0 ((g_up (g_up (g_up (g_up τ (1, 5, 0) (((τ (0, 0, 0) 4).toInt).toNat) (k)) (1, 6, 0) (((τ (0, 0, 0) 4).toInt).toNat) (a)) (1, 7, 0) (((τ (0, 0, 0) 4).toInt).toNat) (b)) (1, 8, 0) (((τ (0, 0, 0) 4).toInt).toNat) (d)) (0, 0, 0)) ((τ (0, 0, 0) 4) + (1))) fl_X7_98 rfl (by decide +kernel) rfl rfl (Nat.le_of_ble_eq_true rfl) dX7_question_172 (fun H locs hG hS => ?_)
              refine lv_aload_n hx hb dX7_question_175 rfl (lv_at hl 2 rfl) ?_
              refine g_get (C := RX7) (T := TX7) (N := 28) (v := .int ((τ (0, 0, 0) 4) + (1))) hx hb hts inX7g hown hK hG (0, 0, 0) ⟨rfl, rfl⟩ (m_at_0 cy L 0 0 ((g_up (g_up (g_up (g_up (g_up τ (1, 5, 0) (((τ (0, 0, 0) 4).toInt).toNat) (k)) (1, 6, 0) (((τ (0, 0, 0) 4).toInt).toNat) (a)) (1, 7, 0) (((τ (0, 0, 0) 4).toInt).toNat) (b)) (1, 8, 0) (((τ (0, 0, 0) 4).toInt).toNat) (d)) (0, 0, 0) (4) ((τ (0, 0, 0) 4) + (1))) (0, 0, 0))) rfl 4 (by decide) fl_X7_98 rfl dX7_question_176 ?_
              refine lv_iconst (v := 1) hx hb dX7_question_179 (by decide) ?_
              refine lv_isub hx hb dX7_question_180 ?_
              have z_130 : (((τ (0, 0, 0) 4) + (1)) - (1)).toInt = (((τ (0, 0, 0) 4).toInt + 1) - 1) := g_subZ z_129 (by decide) (by omega) (by omega)
              exact s_iret hx hb hr hlk hG hS dX7_question_181 (by unfold m_qsR; (repeat' split) <;> first | rfl | (exfalso; omega)) (by unfold m_qsM; (repeat' split) <;> first | rfl | (exfalso; omega))
            · refine lv_iconst (v := (-1)) hx hb dX7_question_122 (by decide) ?_
              exact s_iret hx hb hr hlk hG hS dX7_question_123 (by unfold m_qsR; (repeat' split) <;> first | rfl | (exfalso; omega)) (by unfold m_qsM; (repeat' split) <;> first | rfl | (exfalso; omega))
          · exact absurd c_105_127 (by decide)
        · refine lv_aload_n hx hb dX7_question_80 rfl (lv_at hl 1 rfl) ?_
          refine lv_iload_n hx hb dX7_question_81 rfl (lv_at hl 3 rfl) ?_
          refine g_cont (va_runV (As := [.int (a)]) (rest := []) ⟨hx, hb, hml, hown, hts⟩ (c_X7_isQuestion l D cy L τ (a) q0 q1) (cwV 1 hts gV_X7_104 rfl rfl rfl (by decide +kernel) ⟨Nat.le_of_ble_eq_true rfl, Nat.le_of_ble_eq_true rfl⟩) (g_preV hK hN hG (x := (0, 0, 0)) ⟨rfl, rfl⟩ (q := (RX7, TX7, 28)) (m_at_0 cy L 0 0 (τ (0, 0, 0))) rfl) rfl rfl hl.1 rfl (lv_room (Nat.le_of_ble_eq_true rfl)) dX7_question_82 ⟨Nat.zero_le _, Nat.zero_le _⟩) hS (fun H locs hG hS => ?_)
          refine W.eq (g2 := F0 m 85 ls [.int (g_b (0 ≤ (a).toInt ∧ (a).toInt ≤ ((τ (0, 0, 0) 4).toInt - 1)))]) rfl ?_
          refine kz_b_eq (tgt := 100) hx hb dX7_question_85 (by decide) (fun c_85_131 => ?_) (fun c_85_131 => ?_)
          · refine lv_iconst (v := 0) hx hb dX7_question_100 (by decide) ?_
            refine lv_istore (lv' := [(6, .int 0), (5, .int 1), (0, .ref (L (0, 0, 0))), (1, .int (k)), (2, .int (a)), (3, .int (b)), (4, .int (d))]) hx hb dX7_question_101 hl (by decide) rfl (fun ls hl => ?_)
            refine lv_iload hx hb dX7_question_103 (lv_at hl 1 rfl) ?_
            refine kz_if_ne (X := 1) hx hb (by decide) dX7_question_105 (tgt := 113) (by decide) (fun c_105_132 => ?_) (fun c_105_132 => ?_)
            · refine lv_aload_n hx hb dX7_question_113 rfl (lv_at hl 2 rfl) ?_
              refine g_get (C := RX7) (T := TX7) (N := 28) (v := .int (τ (0, 0, 0) 4)) hx hb hts inX7g hown hK hG (0, 0, 0) ⟨rfl, rfl⟩ (m_at_0 cy L 0 0 (τ (0, 0, 0))) rfl 4 (by decide) fl_X7_98 rfl dX7_question_114 ?_
              refine lv_bipush (v := 40) hx hb dX7_question_117 (by decide) ?_
              refine kz_icmp_ne (X := (τ (0, 0, 0) 4).toInt) (Y := 40) hx hb rfl (by decide) dX7_question_119 (tgt := 124) (by decide) (fun c_119_133 => ?_) (fun c_119_133 => ?_)
              · refine lv_aload_n hx hb dX7_question_124 rfl (lv_at hl 2 rfl) ?_
                refine g_get (C := RX7) (T := TX7) (N := 28) (v := .ref (L (1, 5, 0))) hx hb hts inX7g hown hK hG (0, 0, 0) ⟨rfl, rfl⟩ (m_at_0 cy L 0 0 (τ (0, 0, 0))) rfl 5 (by decide) fl_X7_16 rfl dX7_question_125 ?_
                refine lv_aload_n hx hb dX7_question_128 rfl (lv_at hl 2 rfl) ?_
                refine g_get (C := RX7) (T := TX7) (N := 28) (v := .int (τ (0, 0, 0) 4)) hx hb hts inX7g hown hK hG (0, 0, 0) ⟨rfl, rfl⟩ (m_at_0 cy L 0 0 (τ (0, 0, 0))) rfl 4 (by decide) fl_X7_98 rfl dX7_question_129 ?_
                refine lv_iload_n hx hb dX7_question_132 rfl (lv_at hl 3 rfl) ?_
                refine g_iast (n := 40) hx hb hK hG hS (1, 5, 0) ⟨by decide, rfl⟩ 0 (fun _ => rfl) rfl (g_vp (by omega) (by omega)) dX7_question_133 (fun H locs hG hS => ?_)
                rw [show (τ (0, 0, 0) 4 : Int32).toNatClampNeg = ((τ (0, 0, 0) 4).toInt).toNat from congrArg Int.toNat (show (τ (0, 0, 0) 4 : Int32).toInt = (τ (0, 0, 0) 4).toInt from rfl)] at hG
                refine lv_aload_n hx hb dX7_question_134 rfl (lv_at hl 2 rfl) ?_
                refine g_get (C := RX7) (T := TX7) (N := 28) (v := .ref (L (1, 6, 0))) hx hb hts inX7g hown hK hG (0, 0, 0) ⟨rfl, rfl⟩ (m_at_0 cy L 0 0 ((g_up τ (1, 5, 0) (((τ (0, 0, 0) 4).toInt).toNat) (k)) (0, 0, 0))) rfl 6 (by decide) fl_X7_19 rfl dX7_question_135 ?_
                refine lv_aload_n hx hb dX7_question_138 rfl (lv_at hl 2 rfl) ?_
                refine g_get (C := RX7) (T := TX7) (N := 28) (v := .int (τ (0, 0, 0) 4)) hx hb hts inX7g hown hK hG (0, 0, 0) ⟨rfl, rfl⟩ (m_at_0 cy L 0 0 ((g_up τ (1, 5, 0) (((τ (0, 0, 0) 4).toInt).toNat) (k)) (0, 0, 0))) rfl 4 (by decide) fl_X7_98 rfl dX7_question_139 ?_
                refine lv_iload_n hx hb dX7_question_142 rfl (lv_at hl 4 rfl) ?_
                refine g_iast (n := 40) hx hb hK hG hS (1, 6, 0) ⟨by decide, rfl⟩ 0 (fun _ => rfl) rfl (g_vp (by omega) (by omega)) dX7_question_143 (fun H locs hG hS => ?_)
                rw [show (τ (0, 0, 0) 4 : Int32).toNatClampNeg = ((τ (0, 0, 0) 4).toInt).toNat from congrArg Int.toNat (show (τ (0, 0, 0) 4 : Int32).toInt = (τ (0, 0, 0) 4).toInt from rfl)] at hG
                refine lv_aload_n hx hb dX7_question_144 rfl (lv_at hl 2 rfl) ?_
                refine g_get (C := RX7) (T := TX7) (N := 28) (v := .ref (L (1, 7, 0))) hx hb hts inX7g hown hK hG (0, 0, 0) ⟨rfl, rfl⟩ (m_at_0 cy L 0 0 ((g_up (g_up τ (1, 5, 0) (((τ (0, 0, 0) 4).toInt).toNat) (k)) (1, 6, 0) (((τ (0, 0, 0) 4).toInt).toNat) (a)) (0, 0, 0))) rfl 7 (by decide) fl_X7_22 rfl dX7_question_145 ?_
                refine lv_aload_n hx hb dX7_question_148 rfl (lv_at hl 2 rfl) ?_
                refine g_get (C := RX7) (T := TX7) (N := 28) (v := .int (τ (0, 0, 0) 4)) hx hb hts inX7g hown hK hG (0, 0, 0) ⟨rfl, rfl⟩ (m_at_0 cy L 0 0 ((g_up (g_up τ (1, 5, 0) (((τ (0, 0, 0) 4).toInt).toNat) (k)) (1, 6, 0) (((τ (0, 0, 0) 4).toInt).toNat) (a)) (0, 0, 0))) rfl 4 (by decide) fl_X7_98 rfl dX7_question_149 ?_
                refine lv_iload_n hx hb dX7_question_152 rfl (lv_at hl 5 rfl) ?_
                refine g_iast (n := 40) hx hb hK hG hS (1, 7, 0) ⟨by decide, rfl⟩ 0 (fun _ => rfl) rfl (g_vp (by omega) (by omega)) dX7_question_153 (fun H locs hG hS => ?_)
                rw [show (τ (0, 0, 0) 4 : Int32).toNatClampNeg = ((τ (0, 0, 0) 4).toInt).toNat from congrArg Int.toNat (show (τ (0, 0, 0) 4 : Int32).toInt = (τ (0, 0, 0) 4).toInt from rfl)] at hG
                refine lv_aload_n hx hb dX7_question_154 rfl (lv_at hl 2 rfl) ?_
                refine g_get (C := RX7) (T := TX7) (N := 28) (v := .ref (L (1, 8, 0))) hx hb hts inX7g hown hK hG (0, 0, 0) ⟨rfl, rfl⟩ (m_at_0 cy L 0 0 ((g_up (g_up (g_up τ (1, 5, 0) (((τ (0, 0, 0) 4).toInt).toNat) (k)) (1, 6, 0) (((τ (0, 0, 0) 4).toInt).toNat) (a)) (1, 7, 0) (((τ (0, 0, 0) 4).toInt).toNat) (b)) (0, 0, 0))) rfl 8 (by decide) fl_X7_25 rfl dX7_question_155 ?_
                refine lv_aload_n hx hb dX7_question_158 rfl (lv_at hl 2 rfl) ?_
                refine g_get (C := RX7) (T := TX7) (N := 28) (v := .int (τ (0, 0, 0) 4)) hx hb hts inX7g hown hK hG (0, 0, 0) ⟨rfl, rfl⟩ (m_at_0 cy L 0 0 ((g_up (g_up (g_up τ (1, 5, 0) (((τ (0, 0, 0) 4).toInt).toNat) (k)) (1, 6, 0) (((τ (0, 0, 0) 4).toInt).toNat) (a)) (1, 7, 0) (((τ (0, 0, 0) 4).toInt).toNat) (b)) (0, 0, 0))) rfl 4 (by decide) fl_X7_98 rfl dX7_question_159 ?_
                refine lv_iload hx hb dX7_question_162 (lv_at hl 6 rfl) ?_
                refine g_iast (n := 40) hx hb hK hG hS (1, 8, 0) ⟨by decide, rfl⟩ 0 (fun _ => rfl) rfl (g_vp (by omega) (by omega)) dX7_question_164 (fun H locs hG hS => ?_)
                rw [show (τ (0, 0, 0) 4 : Int32).toNatClampNeg = ((τ (0, 0, 0) 4).toInt).toNat from congrArg Int.toNat (show (τ (0, 0, 0) 4 : Int32).toInt = (τ (0, 0, 0) 4).toInt from rfl)] at hG
                refine lv_aload_n hx hb dX7_question_165 rfl (lv_at hl 2 rfl) ?_
                refine lv_dup hx hb dX7_question_166 rfl ?_
                refine g_get (C := RX7) (T := TX7) (N := 28) (v := .int (τ (0, 0, 0) 4)) hx hb hts inX7g hown hK hG (0, 0, 0) ⟨rfl, rfl⟩ (m_at_0 cy L 0 0 ((g_up (g_up (g_up (g_up τ (1, 5, 0) (((τ (0, 0, 0) 4).toInt).toNat) (k)) (1, 6, 0) (((τ (0, 0, 0) 4).toInt).toNat) (a)) (1, 7, 0) (((τ (0, 0, 0) 4).toInt).toNat) (b)) (1, 8, 0) (((τ (0, 0, 0) 4).toInt).toNat) (d)) (0, 0, 0))) rfl 4 (by decide) fl_X7_98 rfl dX7_question_167 ?_
                refine lv_iconst (v := 1) hx hb dX7_question_170 (by decide) ?_
                refine lv_iadd hx hb dX7_question_171 ?_
                have z_134 : ((τ (0, 0, 0) 4) + (1)).toInt = ((τ (0, 0, 0) 4).toInt + 1) := g_addZ rfl (by decide) (by omega) (by omega)
                refine g_puti (C := RX7) (T := TX7) (N := 28) (v := (τ (0, 0, 0) 4) + (1)) (ty := .int) hx hb hts inX7g tyX7_ok nmX7 hown hK hG hS (0, 0, 0) ⟨rfl, rfl⟩ (m_at_0 cy L 0 0 ((g_up (g_up (g_up (g_up τ (1, 5, 0) (((τ (0, 0, 0) 4).toInt).toNat) (k)) (1, 6, 0) (((τ (0, 0, 0) 4).toInt).toNat) (a)) (1, 7, 0) (((τ (0, 0, 0) 4).toInt).toNat) (b)) (1, 8, 0) (((τ (0, 0, 0) 4).toInt).toNat) (d)) (0, 0, 0))) rfl 4 (by decide) (m_up_0_4 cy L 0 0 ((g_up (g_up (g_up (g_up τ (1, 5, 0) (((τ (0, 0, 0) 4).toInt).toNat) (k)) (1, 6, 0) (((τ (0, 0, 0) 4).toInt).toNat) (a)) (1, 7, 0) (((τ (0, 0, 0) 4).toInt).toNat) (b)) (1, 8, 0) (((τ (0, 0, 0) 4).toInt).toNat) (d)) (0, 0, 0)) ((τ (0, 0, 0) 4) + (1))) fl_X7_98 rfl (by decide +kernel) rfl rfl (Nat.le_of_ble_eq_true rfl) dX7_question_172 (fun H locs hG hS => ?_)
                refine lv_aload_n hx hb dX7_question_175 rfl (lv_at hl 2 rfl) ?_
                refine g_get (C := RX7) (T := TX7) (N := 28) (v := .int ((τ (0, 0, 0) 4) + (1))) hx hb hts inX7g hown hK hG (0, 0, 0) ⟨rfl, rfl⟩ (m_at_0 cy L 0 0 ((g_up (g_up (g_up (g_up (g_up τ (1, 5, 0) (((τ (0, 0, 0) 4).toInt).toNat) (k)) (1, 6, 0) (((τ (0, 0, 0) 4).toInt).toNat) (a)) (1, 7, 0) (((τ (0, 0, 0) 4).toInt).toNat) (b)) (1, 8, 0) (((τ (0, 0, 0) 4).toInt).toNat) (d)) (0, 0, 0) (4) ((τ (0, 0, 0) 4) + (1))) (0, 0, 0))) rfl 4 (by decide) fl_X7_98 rfl dX7_question_176 ?_
                refine lv_iconst (v := 1) hx hb dX7_question_179 (by decide) ?_
                refine lv_isub hx hb dX7_question_180 ?_
                have z_135 : (((τ (0, 0, 0) 4) + (1)) - (1)).toInt = (((τ (0, 0, 0) 4).toInt + 1) - 1) := g_subZ z_134 (by decide) (by omega) (by omega)
                exact s_iret hx hb hr hlk hG hS dX7_question_181 (by unfold m_qsR; (repeat' split) <;> first | rfl | (exfalso; omega)) (by unfold m_qsM; (repeat' split) <;> first | rfl | (exfalso; omega))
              · refine lv_iconst (v := (-1)) hx hb dX7_question_122 (by decide) ?_
                exact s_iret hx hb hr hlk hG hS dX7_question_123 (by unfold m_qsR; (repeat' split) <;> first | rfl | (exfalso; omega)) (by unfold m_qsM; (repeat' split) <;> first | rfl | (exfalso; omega))
            · exact absurd c_105_132 (by decide)
          · refine lv_aload_n hx hb dX7_question_88 rfl (lv_at hl 1 rfl) ?_
            refine lv_iload_n hx hb dX7_question_89 rfl (lv_at hl 4 rfl) ?_
            refine g_cont (va_runV (As := [.int (b)]) (rest := []) ⟨hx, hb, hml, hown, hts⟩ (c_X7_isQuestion l D cy L τ (b) q0 q1) (cwV 1 hts gV_X7_104 rfl rfl rfl (by decide +kernel) ⟨Nat.le_of_ble_eq_true rfl, Nat.le_of_ble_eq_true rfl⟩) (g_preV hK hN hG (x := (0, 0, 0)) ⟨rfl, rfl⟩ (q := (RX7, TX7, 28)) (m_at_0 cy L 0 0 (τ (0, 0, 0))) rfl) rfl rfl hl.1 rfl (lv_room (Nat.le_of_ble_eq_true rfl)) dX7_question_90 ⟨Nat.zero_le _, Nat.zero_le _⟩) hS (fun H locs hG hS => ?_)
            refine W.eq (g2 := F0 m 93 ls [.int (g_b (0 ≤ (b).toInt ∧ (b).toInt ≤ ((τ (0, 0, 0) 4).toInt - 1)))]) rfl ?_
            refine kz_b_eq (tgt := 100) hx hb dX7_question_93 (by decide) (fun c_93_136 => ?_) (fun c_93_136 => ?_)
            · refine lv_iconst (v := 0) hx hb dX7_question_100 (by decide) ?_
              refine lv_istore (lv' := [(6, .int 0), (5, .int 1), (0, .ref (L (0, 0, 0))), (1, .int (k)), (2, .int (a)), (3, .int (b)), (4, .int (d))]) hx hb dX7_question_101 hl (by decide) rfl (fun ls hl => ?_)
              refine lv_iload hx hb dX7_question_103 (lv_at hl 1 rfl) ?_
              refine kz_if_ne (X := 1) hx hb (by decide) dX7_question_105 (tgt := 113) (by decide) (fun c_105_137 => ?_) (fun c_105_137 => ?_)
              · refine lv_aload_n hx hb dX7_question_113 rfl (lv_at hl 2 rfl) ?_
                refine g_get (C := RX7) (T := TX7) (N := 28) (v := .int (τ (0, 0, 0) 4)) hx hb hts inX7g hown hK hG (0, 0, 0) ⟨rfl, rfl⟩ (m_at_0 cy L 0 0 (τ (0, 0, 0))) rfl 4 (by decide) fl_X7_98 rfl dX7_question_114 ?_
                refine lv_bipush (v := 40) hx hb dX7_question_117 (by decide) ?_
                refine kz_icmp_ne (X := (τ (0, 0, 0) 4).toInt) (Y := 40) hx hb rfl (by decide) dX7_question_119 (tgt := 124) (by decide) (fun c_119_138 => ?_) (fun c_119_138 => ?_)
                · refine lv_aload_n hx hb dX7_question_124 rfl (lv_at hl 2 rfl) ?_
                  refine g_get (C := RX7) (T := TX7) (N := 28) (v := .ref (L (1, 5, 0))) hx hb hts inX7g hown hK hG (0, 0, 0) ⟨rfl, rfl⟩ (m_at_0 cy L 0 0 (τ (0, 0, 0))) rfl 5 (by decide) fl_X7_16 rfl dX7_question_125 ?_
                  refine lv_aload_n hx hb dX7_question_128 rfl (lv_at hl 2 rfl) ?_
                  refine g_get (C := RX7) (T := TX7) (N := 28) (v := .int (τ (0, 0, 0) 4)) hx hb hts inX7g hown hK hG (0, 0, 0) ⟨rfl, rfl⟩ (m_at_0 cy L 0 0 (τ (0, 0, 0))) rfl 4 (by decide) fl_X7_98 rfl dX7_question_129 ?_
                  refine lv_iload_n hx hb dX7_question_132 rfl (lv_at hl 3 rfl) ?_
                  refine g_iast (n := 40) hx hb hK hG hS (1, 5, 0) ⟨by decide, rfl⟩ 0 (fun _ => rfl) rfl (g_vp (by omega) (by omega)) dX7_question_133 (fun H locs hG hS => ?_)
                  rw [show (τ (0, 0, 0) 4 : Int32).toNatClampNeg = ((τ (0, 0, 0) 4).toInt).toNat from congrArg Int.toNat (show (τ (0, 0, 0) 4 : Int32).toInt = (τ (0, 0, 0) 4).toInt from rfl)] at hG
                  refine lv_aload_n hx hb dX7_question_134 rfl (lv_at hl 2 rfl) ?_
                  refine g_get (C := RX7) (T := TX7) (N := 28) (v := .ref (L (1, 6, 0))) hx hb hts inX7g hown hK hG (0, 0, 0) ⟨rfl, rfl⟩ (m_at_0 cy L 0 0 ((g_up τ (1, 5, 0) (((τ (0, 0, 0) 4).toInt).toNat) (k)) (0, 0, 0))) rfl 6 (by decide) fl_X7_19 rfl dX7_question_135 ?_
                  refine lv_aload_n hx hb dX7_question_138 rfl (lv_at hl 2 rfl) ?_
                  refine g_get (C := RX7) (T := TX7) (N := 28) (v := .int (τ (0, 0, 0) 4)) hx hb hts inX7g hown hK hG (0, 0, 0) ⟨rfl, rfl⟩ (m_at_0 cy L 0 0 ((g_up τ (1, 5, 0) (((τ (0, 0, 0) 4).toInt).toNat) (k)) (0, 0, 0))) rfl 4 (by decide) fl_X7_98 rfl dX7_question_139 ?_
                  refine lv_iload_n hx hb dX7_question_142 rfl (lv_at hl 4 rfl) ?_
                  refine g_iast (n := 40) hx hb hK hG hS (1, 6, 0) ⟨by decide, rfl⟩ 0 (fun _ => rfl) rfl (g_vp (by omega) (by omega)) dX7_question_143 (fun H locs hG hS => ?_)
                  rw [show (τ (0, 0, 0) 4 : Int32).toNatClampNeg = ((τ (0, 0, 0) 4).toInt).toNat from congrArg Int.toNat (show (τ (0, 0, 0) 4 : Int32).toInt = (τ (0, 0, 0) 4).toInt from rfl)] at hG
                  refine lv_aload_n hx hb dX7_question_144 rfl (lv_at hl 2 rfl) ?_
                  refine g_get (C := RX7) (T := TX7) (N := 28) (v := .ref (L (1, 7, 0))) hx hb hts inX7g hown hK hG (0, 0, 0) ⟨rfl, rfl⟩ (m_at_0 cy L 0 0 ((g_up (g_up τ (1, 5, 0) (((τ (0, 0, 0) 4).toInt).toNat) (k)) (1, 6, 0) (((τ (0, 0, 0) 4).toInt).toNat) (a)) (0, 0, 0))) rfl 7 (by decide) fl_X7_22 rfl dX7_question_145 ?_
                  refine lv_aload_n hx hb dX7_question_148 rfl (lv_at hl 2 rfl) ?_
                  refine g_get (C := RX7) (T := TX7) (N := 28) (v := .int (τ (0, 0, 0) 4)) hx hb hts inX7g hown hK hG (0, 0, 0) ⟨rfl, rfl⟩ (m_at_0 cy L 0 0 ((g_up (g_up τ (1, 5, 0) (((τ (0, 0, 0) 4).toInt).toNat) (k)) (1, 6, 0) (((τ (0, 0, 0) 4).toInt).toNat) (a)) (0, 0, 0))) rfl 4 (by decide) fl_X7_98 rfl dX7_question_149 ?_
                  refine lv_iload_n hx hb dX7_question_152 rfl (lv_at hl 5 rfl) ?_
                  refine g_iast (n := 40) hx hb hK hG hS (1, 7, 0) ⟨by decide, rfl⟩ 0 (fun _ => rfl) rfl (g_vp (by omega) (by omega)) dX7_question_153 (fun H locs hG hS => ?_)
                  rw [show (τ (0, 0, 0) 4 : Int32).toNatClampNeg = ((τ (0, 0, 0) 4).toInt).toNat from congrArg Int.toNat (show (τ (0, 0, 0) 4 : Int32).toInt = (τ (0, 0, 0) 4).toInt from rfl)] at hG
                  refine lv_aload_n hx hb dX7_question_154 rfl (lv_at hl 2 rfl) ?_
                  refine g_get (C := RX7) (T := TX7) (N := 28) (v := .ref (L (1, 8, 0))) hx hb hts inX7g hown hK hG (0, 0, 0) ⟨rfl, rfl⟩ (m_at_0 cy L 0 0 ((g_up (g_up (g_up τ (1, 5, 0) (((τ (0, 0, 0) 4).toInt).toNat) (k)) (1, 6, 0) (((τ (0, 0, 0) 4).toInt).toNat) (a)) (1, 7, 0) (((τ (0, 0, 0) 4).toInt).toNat) (b)) (0, 0, 0))) rfl 8 (by decide) fl_X7_25 rfl dX7_question_155 ?_
                  refine lv_aload_n hx hb dX7_question_158 rfl (lv_at hl 2 rfl) ?_
                  refine g_get (C := RX7) (T := TX7) (N := 28) (v := .int (τ (0, 0, 0) 4)) hx hb hts inX7g hown hK hG (0, 0, 0) ⟨rfl, rfl⟩ (m_at_0 cy L 0 0 ((g_up (g_up (g_up τ (1, 5, 0) (((τ (0, 0, 0) 4).toInt).toNat) (k)) (1, 6, 0) (((τ (0, 0, 0) 4).toInt).toNat) (a)) (1, 7, 0) (((τ (0, 0, 0) 4).toInt).toNat) (b)) (0, 0, 0))) rfl 4 (by decide) fl_X7_98 rfl dX7_question_159 ?_
                  refine lv_iload hx hb dX7_question_162 (lv_at hl 6 rfl) ?_
                  refine g_iast (n := 40) hx hb hK hG hS (1, 8, 0) ⟨by decide, rfl⟩ 0 (fun _ => rfl) rfl (g_vp (by omega) (by omega)) dX7_question_164 (fun H locs hG hS => ?_)
                  rw [show (τ (0, 0, 0) 4 : Int32).toNatClampNeg = ((τ (0, 0, 0) 4).toInt).toNat from congrArg Int.toNat (show (τ (0, 0, 0) 4 : Int32).toInt = (τ (0, 0, 0) 4).toInt from rfl)] at hG
                  refine lv_aload_n hx hb dX7_question_165 rfl (lv_at hl 2 rfl) ?_
                  refine lv_dup hx hb dX7_question_166 rfl ?_
                  refine g_get (C := RX7) (T := TX7) (N := 28) (v := .int (τ (0, 0, 0) 4)) hx hb hts inX7g hown hK hG (0, 0, 0) ⟨rfl, rfl⟩ (m_at_0 cy L 0 0 ((g_up (g_up (g_up (g_up τ (1, 5, 0) (((τ (0, 0, 0) 4).toInt).toNat) (k)) (1, 6, 0) (((τ (0, 0, 0) 4).toInt).toNat) (a)) (1, 7, 0) (((τ (0, 0, 0) 4).toInt).toNat) (b)) (1, 8, 0) (((τ (0, 0, 0) 4).toInt).toNat) (d)) (0, 0, 0))) rfl 4 (by decide) fl_X7_98 rfl dX7_question_167 ?_
                  refine lv_iconst (v := 1) hx hb dX7_question_170 (by decide) ?_
                  refine lv_iadd hx hb dX7_question_171 ?_
                  have z_139 : ((τ (0, 0, 0) 4) + (1)).toInt = ((τ (0, 0, 0) 4).toInt + 1) := g_addZ rfl (by decide) (by omega) (by omega)
                  refine g_puti (C := RX7) (T := TX7) (N := 28) (v := (τ (0, 0, 0) 4) + (1)) (ty := .int) hx hb hts inX7g tyX7_ok nmX7 hown hK hG hS (0, 0, 0) ⟨rfl, rfl⟩ (m_at_0 cy L 0 0 ((g_up (g_up (g_up (g_up τ (1, 5, 0) (((τ (0, 0, 0) 4).toInt).toNat) (k)) (1, 6, 0) (((τ (0, 0, 0) 4).toInt).toNat) (a)) (1, 7, 0) (((τ (0, 0, 0) 4).toInt).toNat) (b)) (1, 8, 0) (((τ (0, 0, 0) 4).toInt).toNat) (d)) (0, 0, 0))) rfl 4 (by decide) (m_up_0_4 cy L 0 0 ((g_up (g_up (g_up (g_up τ (1, 5, 0) (((τ (0, 0, 0) 4).toInt).toNat) (k)) (1, 6, 0) (((τ (0, 0, 0) 4).toInt).toNat) (a)) (1, 7, 0) (((τ (0, 0, 0) 4).toInt).toNat) (b)) (1, 8, 0) (((τ (0, 0, 0) 4).toInt).toNat) (d)) (0, 0, 0)) ((τ (0, 0, 0) 4) + (1))) fl_X7_98 rfl (by decide +kernel) rfl rfl (Nat.le_of_ble_eq_true rfl) dX7_question_172 (fun H locs hG hS => ?_)
                  refine lv_aload_n hx hb dX7_question_175 rfl (lv_at hl 2 rfl) ?_
                  refine g_get (C := RX7) (T := TX7) (N := 28) (v := .int ((τ (0, 0, 0) 4) + (1))) hx hb hts inX7g hown hK hG (0, 0, 0) ⟨rfl, rfl⟩ (m_at_0 cy L 0 0 ((g_up (g_up (g_up (g_up (g_up τ (1, 5, 0) (((τ (0, 0, 0) 4).toInt).toNat) (k)) (1, 6, 0) (((τ (0, 0, 0) 4).toInt).toNat) (a)) (1, 7, 0) (((τ (0, 0, 0) 4).toInt).toNat) (b)) (1, 8, 0) (((τ (0, 0, 0) 4).toInt).toNat) (d)) (0, 0, 0) (4) ((τ (0, 0, 0) 4) + (1))) (0, 0, 0))) rfl 4 (by decide) fl_X7_98 rfl dX7_question_176 ?_
                  refine lv_iconst (v := 1) hx hb dX7_question_179 (by decide) ?_
                  refine lv_isub hx hb dX7_question_180 ?_
                  have z_140 : (((τ (0, 0, 0) 4) + (1)) - (1)).toInt = (((τ (0, 0, 0) 4).toInt + 1) - 1) := g_subZ z_139 (by decide) (by omega) (by omega)
                  exact s_iret hx hb hr hlk hG hS dX7_question_181 (by unfold m_qsR; (repeat' split) <;> first | rfl | (exfalso; omega)) (by unfold m_qsM; (repeat' split) <;> first | rfl | (exfalso; omega))
                · refine lv_iconst (v := (-1)) hx hb dX7_question_122 (by decide) ?_
                  exact s_iret hx hb hr hlk hG hS dX7_question_123 (by unfold m_qsR; (repeat' split) <;> first | rfl | (exfalso; omega)) (by unfold m_qsM; (repeat' split) <;> first | rfl | (exfalso; omega))
              · exact absurd c_105_137 (by decide)
            · refine lv_iconst (v := 1) hx hb dX7_question_96 (by decide) ?_
              refine lv_goto (tgt := 101) hx hb dX7_question_97 (by decide) ?_
              refine lv_istore (lv' := [(6, .int 1), (5, .int 1), (0, .ref (L (0, 0, 0))), (1, .int (k)), (2, .int (a)), (3, .int (b)), (4, .int (d))]) hx hb dX7_question_101 hl (by decide) rfl (fun ls hl => ?_)
              refine lv_iload hx hb dX7_question_103 (lv_at hl 1 rfl) ?_
              refine kz_if_ne (X := 1) hx hb (by decide) dX7_question_105 (tgt := 113) (by decide) (fun c_105_141 => ?_) (fun c_105_141 => ?_)
              · refine lv_aload_n hx hb dX7_question_113 rfl (lv_at hl 2 rfl) ?_
                refine g_get (C := RX7) (T := TX7) (N := 28) (v := .int (τ (0, 0, 0) 4)) hx hb hts inX7g hown hK hG (0, 0, 0) ⟨rfl, rfl⟩ (m_at_0 cy L 0 0 (τ (0, 0, 0))) rfl 4 (by decide) fl_X7_98 rfl dX7_question_114 ?_
                refine lv_bipush (v := 40) hx hb dX7_question_117 (by decide) ?_
                refine kz_icmp_ne (X := (τ (0, 0, 0) 4).toInt) (Y := 40) hx hb rfl (by decide) dX7_question_119 (tgt := 124) (by decide) (fun c_119_142 => ?_) (fun c_119_142 => ?_)
                · refine lv_aload_n hx hb dX7_question_124 rfl (lv_at hl 2 rfl) ?_
                  refine g_get (C := RX7) (T := TX7) (N := 28) (v := .ref (L (1, 5, 0))) hx hb hts inX7g hown hK hG (0, 0, 0) ⟨rfl, rfl⟩ (m_at_0 cy L 0 0 (τ (0, 0, 0))) rfl 5 (by decide) fl_X7_16 rfl dX7_question_125 ?_
                  refine lv_aload_n hx hb dX7_question_128 rfl (lv_at hl 2 rfl) ?_
                  refine g_get (C := RX7) (T := TX7) (N := 28) (v := .int (τ (0, 0, 0) 4)) hx hb hts inX7g hown hK hG (0, 0, 0) ⟨rfl, rfl⟩ (m_at_0 cy L 0 0 (τ (0, 0, 0))) rfl 4 (by decide) fl_X7_98 rfl dX7_question_129 ?_
                  refine lv_iload_n hx hb dX7_question_132 rfl (lv_at hl 3 rfl) ?_
                  refine g_iast (n := 40) hx hb hK hG hS (1, 5, 0) ⟨by decide, rfl⟩ 0 (fun _ => rfl) rfl (g_vp (by omega) (by omega)) dX7_question_133 (fun H locs hG hS => ?_)
                  rw [show (τ (0, 0, 0) 4 : Int32).toNatClampNeg = ((τ (0, 0, 0) 4).toInt).toNat from congrArg Int.toNat (show (τ (0, 0, 0) 4 : Int32).toInt = (τ (0, 0, 0) 4).toInt from rfl)] at hG
                  refine lv_aload_n hx hb dX7_question_134 rfl (lv_at hl 2 rfl) ?_
                  refine g_get (C := RX7) (T := TX7) (N := 28) (v := .ref (L (1, 6, 0))) hx hb hts inX7g hown hK hG (0, 0, 0) ⟨rfl, rfl⟩ (m_at_0 cy L 0 0 ((g_up τ (1, 5, 0) (((τ (0, 0, 0) 4).toInt).toNat) (k)) (0, 0, 0))) rfl 6 (by decide) fl_X7_19 rfl dX7_question_135 ?_
                  refine lv_aload_n hx hb dX7_question_138 rfl (lv_at hl 2 rfl) ?_
                  refine g_get (C := RX7) (T := TX7) (N := 28) (v := .int (τ (0, 0, 0) 4)) hx hb hts inX7g hown hK hG (0, 0, 0) ⟨rfl, rfl⟩ (m_at_0 cy L 0 0 ((g_up τ (1, 5, 0) (((τ (0, 0, 0) 4).toInt).toNat) (k)) (0, 0, 0))) rfl 4 (by decide) fl_X7_98 rfl dX7_question_139 ?_
                  refine lv_iload_n hx hb dX7_question_142 rfl (lv_at hl 4 rfl) ?_
                  refine g_iast (n := 40) hx hb hK hG hS (1, 6, 0) ⟨by decide, rfl⟩ 0 (fun _ => rfl) rfl (g_vp (by omega) (by omega)) dX7_question_143 (fun H locs hG hS => ?_)
                  rw [show (τ (0, 0, 0) 4 : Int32).toNatClampNeg = ((τ (0, 0, 0) 4).toInt).toNat from congrArg Int.toNat (show (τ (0, 0, 0) 4 : Int32).toInt = (τ (0, 0, 0) 4).toInt from rfl)] at hG
                  refine lv_aload_n hx hb dX7_question_144 rfl (lv_at hl 2 rfl) ?_
                  refine g_get (C := RX7) (T := TX7) (N := 28) (v := .ref (L (1, 7, 0))) hx hb hts inX7g hown hK hG (0, 0, 0) ⟨rfl, rfl⟩ (m_at_0 cy L 0 0 ((g_up (g_up τ (1, 5, 0) (((τ (0, 0, 0) 4).toInt).toNat) (k)) (1, 6, 0) (((τ (0, 0, 0) 4).toInt).toNat) (a)) (0, 0, 0))) rfl 7 (by decide) fl_X7_22 rfl dX7_question_145 ?_
                  refine lv_aload_n hx hb dX7_question_148 rfl (lv_at hl 2 rfl) ?_
                  refine g_get (C := RX7) (T := TX7) (N := 28) (v := .int (τ (0, 0, 0) 4)) hx hb hts inX7g hown hK hG (0, 0, 0) ⟨rfl, rfl⟩ (m_at_0 cy L 0 0 ((g_up (g_up τ (1, 5, 0) (((τ (0, 0, 0) 4).toInt).toNat) (k)) (1, 6, 0) (((τ (0, 0, 0) 4).toInt).toNat) (a)) (0, 0, 0))) rfl 4 (by decide) fl_X7_98 rfl dX7_question_149 ?_
                  refine lv_iload_n hx hb dX7_question_152 rfl (lv_at hl 5 rfl) ?_
                  refine g_iast (n := 40) hx hb hK hG hS (1, 7, 0) ⟨by decide, rfl⟩ 0 (fun _ => rfl) rfl (g_vp (by omega) (by omega)) dX7_question_153 (fun H locs hG hS => ?_)
                  rw [show (τ (0, 0, 0) 4 : Int32).toNatClampNeg = ((τ (0, 0, 0) 4).toInt).toNat from congrArg Int.toNat (show (τ (0, 0, 0) 4 : Int32).toInt = (τ (0, 0, 0) 4).toInt from rfl)] at hG
                  refine lv_aload_n hx hb dX7_question_154 rfl (lv_at hl 2 rfl) ?_
                  refine g_get (C := RX7) (T := TX7) (N := 28) (v := .ref (L (1, 8, 0))) hx hb hts inX7g hown hK hG (0, 0, 0) ⟨rfl, rfl⟩ (m_at_0 cy L 0 0 ((g_up (g_up (g_up τ (1, 5, 0) (((τ (0, 0, 0) 4).toInt).toNat) (k)) (1, 6, 0) (((τ (0, 0, 0) 4).toInt).toNat) (a)) (1, 7, 0) (((τ (0, 0, 0) 4).toInt).toNat) (b)) (0, 0, 0))) rfl 8 (by decide) fl_X7_25 rfl dX7_question_155 ?_
                  refine lv_aload_n hx hb dX7_question_158 rfl (lv_at hl 2 rfl) ?_
                  refine g_get (C := RX7) (T := TX7) (N := 28) (v := .int (τ (0, 0, 0) 4)) hx hb hts inX7g hown hK hG (0, 0, 0) ⟨rfl, rfl⟩ (m_at_0 cy L 0 0 ((g_up (g_up (g_up τ (1, 5, 0) (((τ (0, 0, 0) 4).toInt).toNat) (k)) (1, 6, 0) (((τ (0, 0, 0) 4).toInt).toNat) (a)) (1, 7, 0) (((τ (0, 0, 0) 4).toInt).toNat) (b)) (0, 0, 0))) rfl 4 (by decide) fl_X7_98 rfl dX7_question_159 ?_
                  refine lv_iload hx hb dX7_question_162 (lv_at hl 6 rfl) ?_
                  refine g_iast (n := 40) hx hb hK hG hS (1, 8, 0) ⟨by decide, rfl⟩ 0 (fun _ => rfl) rfl (g_vp (by omega) (by omega)) dX7_question_164 (fun H locs hG hS => ?_)
                  rw [show (τ (0, 0, 0) 4 : Int32).toNatClampNeg = ((τ (0, 0, 0) 4).toInt).toNat from congrArg Int.toNat (show (τ (0, 0, 0) 4 : Int32).toInt = (τ (0, 0, 0) 4).toInt from rfl)] at hG
                  refine lv_aload_n hx hb dX7_question_165 rfl (lv_at hl 2 rfl) ?_
                  refine lv_dup hx hb dX7_question_166 rfl ?_
                  refine g_get (C := RX7) (T := TX7) (N := 28) (v := .int (τ (0, 0, 0) 4)) hx hb hts inX7g hown hK hG (0, 0, 0) ⟨rfl, rfl⟩ (m_at_0 cy L 0 0 ((g_up (g_up (g_up (g_up τ (1, 5, 0) (((τ (0, 0, 0) 4).toInt).toNat) (k)) (1, 6, 0) (((τ (0, 0, 0) 4).toInt).toNat) (a)) (1, 7, 0) (((τ (0, 0, 0) 4).toInt).toNat) (b)) (1, 8, 0) (((τ (0, 0, 0) 4).toInt).toNat) (d)) (0, 0, 0))) rfl 4 (by decide) fl_X7_98 rfl dX7_question_167 ?_
                  refine lv_iconst (v := 1) hx hb dX7_question_170 (by decide) ?_
                  refine lv_iadd hx hb dX7_question_171 ?_
                  have z_143 : ((τ (0, 0, 0) 4) + (1)).toInt = ((τ (0, 0, 0) 4).toInt + 1) := g_addZ rfl (by decide) (by omega) (by omega)
                  refine g_puti (C := RX7) (T := TX7) (N := 28) (v := (τ (0, 0, 0) 4) + (1)) (ty := .int) hx hb hts inX7g tyX7_ok nmX7 hown hK hG hS (0, 0, 0) ⟨rfl, rfl⟩ (m_at_0 cy L 0 0 ((g_up (g_up (g_up (g_up τ (1, 5, 0) (((τ (0, 0, 0) 4).toInt).toNat) (k)) (1, 6, 0) (((τ (0, 0, 0) 4).toInt).toNat) (a)) (1, 7, 0) (((τ (0, 0, 0) 4).toInt).toNat) (b)) (1, 8, 0) (((τ (0, 0, 0) 4).toInt).toNat) (d)) (0, 0, 0))) rfl 4 (by decide) (m_up_0_4 cy L 0 0 ((g_up (g_up (g_up (g_up τ (1, 5, 0) (((τ (0, 0, 0) 4).toInt).toNat) (k)) (1, 6, 0) (((τ (0, 0, 0) 4).toInt).toNat) (a)) (1, 7, 0) (((τ (0, 0, 0) 4).toInt).toNat) (b)) (1, 8, 0) (((τ (0, 0, 0) 4).toInt).toNat) (d)) (0, 0, 0)) ((τ (0, 0, 0) 4) + (1))) fl_X7_98 rfl (by decide +kernel) rfl rfl (Nat.le_of_ble_eq_true rfl) dX7_question_172 (fun H locs hG hS => ?_)
                  refine lv_aload_n hx hb dX7_question_175 rfl (lv_at hl 2 rfl) ?_
                  refine g_get (C := RX7) (T := TX7) (N := 28) (v := .int ((τ (0, 0, 0) 4) + (1))) hx hb hts inX7g hown hK hG (0, 0, 0) ⟨rfl, rfl⟩ (m_at_0 cy L 0 0 ((g_up (g_up (g_up (g_up (g_up τ (1, 5, 0) (((τ (0, 0, 0) 4).toInt).toNat) (k)) (1, 6, 0) (((τ (0, 0, 0) 4).toInt).toNat) (a)) (1, 7, 0) (((τ (0, 0, 0) 4).toInt).toNat) (b)) (1, 8, 0) (((τ (0, 0, 0) 4).toInt).toNat) (d)) (0, 0, 0) (4) ((τ (0, 0, 0) 4) + (1))) (0, 0, 0))) rfl 4 (by decide) fl_X7_98 rfl dX7_question_176 ?_
                  refine lv_iconst (v := 1) hx hb dX7_question_179 (by decide) ?_
                  refine lv_isub hx hb dX7_question_180 ?_
                  have z_144 : (((τ (0, 0, 0) 4) + (1)) - (1)).toInt = (((τ (0, 0, 0) 4).toInt + 1) - 1) := g_subZ z_143 (by decide) (by omega) (by omega)
                  exact s_iret hx hb hr hlk hG hS dX7_question_181 (by unfold m_qsR; (repeat' split) <;> first | rfl | (exfalso; omega)) (by unfold m_qsM; (repeat' split) <;> first | rfl | (exfalso; omega))
                · refine lv_iconst (v := (-1)) hx hb dX7_question_122 (by decide) ?_
                  exact s_iret hx hb hr hlk hG hS dX7_question_123 (by unfold m_qsR; (repeat' split) <;> first | rfl | (exfalso; omega)) (by unfold m_qsM; (repeat' split) <;> first | rfl | (exfalso; omega))
              · exact absurd c_105_141 (by decide)
set_option maxHeartbeats 4000000 in
set_option maxRecDepth 100000 in
theorem c_X7_session (l : Launch) (D : va_G) (cy : Nat → ClassId) (L : g_S → Nat) (σ : g_S → Nat → Int32) (τ : g_S → Nat → Int32) (hτ : g_up σ (0, 0, 0) 0 0 = τ) (a b : Int32) (s0 : 0 ≤ (τ (0, 0, 0) 10).toInt) (s1 : (τ (0, 0, 0) 10).toInt ≤ 8) : m_Met l D cy L yX7_session (.code yX7_session cX7_session 3 (some .int)) 1 σ [.ref (L (0, 0, 0)), .int (a), .int (b)] (some (.int (m_sesR τ a b))) (m_sesM τ a b) := by
  refine g_Met.of (by decide) (Nat.le_of_ble_eq_true rfl) ?_
  intro pg e s m below meth c hx hb hr hlk hml hown hts hK hN H locs hG hS ls hl
  have hown : s.vm.findClass RX7 = some m.cls := hown
  have hl : lv_has ls 3 [(0, .ref (L (0, 0, 0))), (1, .int (a)), (2, .int (b))] := hl
  refine lv_aload_n hx hb dX7_session_0 rfl (lv_at hl 0 rfl) ?_
  refine lv_iconst (v := 0) hx hb dX7_session_1 (by decide) ?_
  refine g_puti (C := RX7) (T := TX7) (N := 28) (v := 0) (ty := .int) hx hb hts inX7g tyX7_ok nmX7 hown hK hG hS (0, 0, 0) ⟨rfl, rfl⟩ (m_at_0 cy L 0 0 (σ (0, 0, 0))) rfl 0 (by decide) (m_up_0_0 cy L 0 0 (σ (0, 0, 0)) (0)) fl_X7_83 rfl (by decide +kernel) rfl rfl (Nat.le_of_ble_eq_true rfl) dX7_session_2 (fun H locs hG hS => ?_)
  rw [hτ] at hG
  refine lv_iload_n hx hb dX7_session_5 rfl (lv_at hl 1 rfl) ?_
  refine lv_iconst (v := 0) hx hb dX7_session_6 (by decide) ?_
  refine lv_bipush (v := 7) hx hb dX7_session_7 (by decide) ?_
  refine g_cont (va_runS (As := [.int (a), .int 0, .int 7]) (rest := []) ⟨hx, hb, hml, hown, hts⟩ (c_X7_in l D cy L τ (a) (0) (7) (a).toInt 0 7 rfl (by decide) (by decide)) (cwS 3 hts gS_X7_87 rfl rfl rfl (by decide +kernel) ⟨Nat.le_of_ble_eq_true rfl, Nat.le_of_ble_eq_true rfl⟩) (g_preS hK hN hG) rfl rfl hl.1 rfl (lv_room (Nat.le_of_ble_eq_true rfl)) dX7_session_9 ⟨Nat.zero_le _, Nat.zero_le _⟩) hS (fun H locs hG hS => ?_)
  refine W.eq (g2 := F0 m 12 ls [.int (g_b (0 ≤ (a).toInt ∧ (a).toInt ≤ 7))]) rfl ?_
  refine kz_b_eq (tgt := 35) hx hb dX7_session_12 (by decide) (fun c_12_1 => ?_) (fun c_12_1 => ?_)
  · refine lv_iconst (v := (-1)) hx hb dX7_session_35 (by decide) ?_
    exact s_iret hx hb hr hlk hG hS dX7_session_36 (by unfold m_sesR; (repeat' split) <;> first | rfl | (exfalso; omega)) (by unfold m_sesM; (repeat' split) <;> first | rfl | (exfalso; omega))
  · refine lv_iload_n hx hb dX7_session_15 rfl (lv_at hl 2 rfl) ?_
    refine lv_iconst (v := 1) hx hb dX7_session_16 (by decide) ?_
    refine lv_sipush (v := 1000) hx hb dX7_session_17 (by decide) ?_
    refine g_cont (va_runS (As := [.int (b), .int 1, .int 1000]) (rest := []) ⟨hx, hb, hml, hown, hts⟩ (c_X7_in l D cy L τ (b) (1) (1000) (b).toInt 1 1000 rfl (by decide) (by decide)) (cwS 3 hts gS_X7_87 rfl rfl rfl (by decide +kernel) ⟨Nat.le_of_ble_eq_true rfl, Nat.le_of_ble_eq_true rfl⟩) (g_preS hK hN hG) rfl rfl hl.1 rfl (lv_room (Nat.le_of_ble_eq_true rfl)) dX7_session_20 ⟨Nat.zero_le _, Nat.zero_le _⟩) hS (fun H locs hG hS => ?_)
    refine W.eq (g2 := F0 m 23 ls [.int (g_b (1 ≤ (b).toInt ∧ (b).toInt ≤ 1000))]) rfl ?_
    refine kz_b_eq (tgt := 35) hx hb dX7_session_23 (by decide) (fun c_23_2 => ?_) (fun c_23_2 => ?_)
    · refine lv_iconst (v := (-1)) hx hb dX7_session_35 (by decide) ?_
      exact s_iret hx hb hr hlk hG hS dX7_session_36 (by unfold m_sesR; (repeat' split) <;> first | rfl | (exfalso; omega)) (by unfold m_sesM; (repeat' split) <;> first | rfl | (exfalso; omega))
    · refine lv_aload_n hx hb dX7_session_26 rfl (lv_at hl 0 rfl) ?_
      refine g_get (C := RX7) (T := TX7) (N := 28) (v := .int (τ (0, 0, 0) 10)) hx hb hts inX7g hown hK hG (0, 0, 0) ⟨rfl, rfl⟩ (m_at_0 cy L 0 0 (τ (0, 0, 0))) rfl 10 (by decide) fl_X7_107 rfl dX7_session_27 ?_
      refine lv_bipush (v := 8) hx hb dX7_session_30 (by decide) ?_
      refine kz_icmp_ne (X := (τ (0, 0, 0) 10).toInt) (Y := 8) hx hb rfl (by decide) dX7_session_32 (tgt := 37) (by decide) (fun c_32_3 => ?_) (fun c_32_3 => ?_)
      · refine lv_aload_n hx hb dX7_session_37 rfl (lv_at hl 0 rfl) ?_
        refine g_get (C := RX7) (T := TX7) (N := 28) (v := .ref (L (1, 11, 0))) hx hb hts inX7g hown hK hG (0, 0, 0) ⟨rfl, rfl⟩ (m_at_0 cy L 0 0 (τ (0, 0, 0))) rfl 11 (by decide) fl_X7_32 rfl dX7_session_38 ?_
        refine lv_aload_n hx hb dX7_session_41 rfl (lv_at hl 0 rfl) ?_
        refine g_get (C := RX7) (T := TX7) (N := 28) (v := .int (τ (0, 0, 0) 10)) hx hb hts inX7g hown hK hG (0, 0, 0) ⟨rfl, rfl⟩ (m_at_0 cy L 0 0 (τ (0, 0, 0))) rfl 10 (by decide) fl_X7_107 rfl dX7_session_42 ?_
        refine lv_iload_n hx hb dX7_session_45 rfl (lv_at hl 1 rfl) ?_
        refine g_iast (n := 8) hx hb hK hG hS (1, 11, 0) ⟨by decide, rfl⟩ 0 (fun _ => rfl) rfl (g_vp (by omega) (by omega)) dX7_session_46 (fun H locs hG hS => ?_)
        rw [show (τ (0, 0, 0) 10 : Int32).toNatClampNeg = ((τ (0, 0, 0) 10).toInt).toNat from congrArg Int.toNat (show (τ (0, 0, 0) 10 : Int32).toInt = (τ (0, 0, 0) 10).toInt from rfl)] at hG
        refine lv_aload_n hx hb dX7_session_47 rfl (lv_at hl 0 rfl) ?_
        refine g_get (C := RX7) (T := TX7) (N := 28) (v := .ref (L (1, 12, 0))) hx hb hts inX7g hown hK hG (0, 0, 0) ⟨rfl, rfl⟩ (m_at_0 cy L 0 0 ((g_up τ (1, 11, 0) (((τ (0, 0, 0) 10).toInt).toNat) (a)) (0, 0, 0))) rfl 12 (by decide) fl_X7_35 rfl dX7_session_48 ?_
        refine lv_aload_n hx hb dX7_session_51 rfl (lv_at hl 0 rfl) ?_
        refine g_get (C := RX7) (T := TX7) (N := 28) (v := .int (τ (0, 0, 0) 10)) hx hb hts inX7g hown hK hG (0, 0, 0) ⟨rfl, rfl⟩ (m_at_0 cy L 0 0 ((g_up τ (1, 11, 0) (((τ (0, 0, 0) 10).toInt).toNat) (a)) (0, 0, 0))) rfl 10 (by decide) fl_X7_107 rfl dX7_session_52 ?_
        refine lv_iload_n hx hb dX7_session_55 rfl (lv_at hl 2 rfl) ?_
        refine g_iast (n := 8) hx hb hK hG hS (1, 12, 0) ⟨by decide, rfl⟩ 0 (fun _ => rfl) rfl (g_vp (by omega) (by omega)) dX7_session_56 (fun H locs hG hS => ?_)
        rw [show (τ (0, 0, 0) 10 : Int32).toNatClampNeg = ((τ (0, 0, 0) 10).toInt).toNat from congrArg Int.toNat (show (τ (0, 0, 0) 10 : Int32).toInt = (τ (0, 0, 0) 10).toInt from rfl)] at hG
        refine lv_aload_n hx hb dX7_session_57 rfl (lv_at hl 0 rfl) ?_
        refine lv_dup hx hb dX7_session_58 rfl ?_
        refine g_get (C := RX7) (T := TX7) (N := 28) (v := .int (τ (0, 0, 0) 10)) hx hb hts inX7g hown hK hG (0, 0, 0) ⟨rfl, rfl⟩ (m_at_0 cy L 0 0 ((g_up (g_up τ (1, 11, 0) (((τ (0, 0, 0) 10).toInt).toNat) (a)) (1, 12, 0) (((τ (0, 0, 0) 10).toInt).toNat) (b)) (0, 0, 0))) rfl 10 (by decide) fl_X7_107 rfl dX7_session_59 ?_
        refine lv_iconst (v := 1) hx hb dX7_session_62 (by decide) ?_
        refine lv_iadd hx hb dX7_session_63 ?_
        have z_4 : ((τ (0, 0, 0) 10) + (1)).toInt = ((τ (0, 0, 0) 10).toInt + 1) := g_addZ rfl (by decide) (by omega) (by omega)
        refine g_puti (C := RX7) (T := TX7) (N := 28) (v := (τ (0, 0, 0) 10) + (1)) (ty := .int) hx hb hts inX7g tyX7_ok nmX7 hown hK hG hS (0, 0, 0) ⟨rfl, rfl⟩ (m_at_0 cy L 0 0 ((g_up (g_up τ (1, 11, 0) (((τ (0, 0, 0) 10).toInt).toNat) (a)) (1, 12, 0) (((τ (0, 0, 0) 10).toInt).toNat) (b)) (0, 0, 0))) rfl 10 (by decide) (m_up_0_10 cy L 0 0 ((g_up (g_up τ (1, 11, 0) (((τ (0, 0, 0) 10).toInt).toNat) (a)) (1, 12, 0) (((τ (0, 0, 0) 10).toInt).toNat) (b)) (0, 0, 0)) ((τ (0, 0, 0) 10) + (1))) fl_X7_107 rfl (by decide +kernel) rfl rfl (Nat.le_of_ble_eq_true rfl) dX7_session_64 (fun H locs hG hS => ?_)
        refine lv_aload_n hx hb dX7_session_67 rfl (lv_at hl 0 rfl) ?_
        refine g_get (C := RX7) (T := TX7) (N := 28) (v := .int ((τ (0, 0, 0) 10) + (1))) hx hb hts inX7g hown hK hG (0, 0, 0) ⟨rfl, rfl⟩ (m_at_0 cy L 0 0 ((g_up (g_up (g_up τ (1, 11, 0) (((τ (0, 0, 0) 10).toInt).toNat) (a)) (1, 12, 0) (((τ (0, 0, 0) 10).toInt).toNat) (b)) (0, 0, 0) (10) ((τ (0, 0, 0) 10) + (1))) (0, 0, 0))) rfl 10 (by decide) fl_X7_107 rfl dX7_session_68 ?_
        refine lv_iconst (v := 1) hx hb dX7_session_71 (by decide) ?_
        refine lv_isub hx hb dX7_session_72 ?_
        have z_5 : (((τ (0, 0, 0) 10) + (1)) - (1)).toInt = (((τ (0, 0, 0) 10).toInt + 1) - 1) := g_subZ z_4 (by decide) (by omega) (by omega)
        exact s_iret hx hb hr hlk hG hS dX7_session_73 (by unfold m_sesR; (repeat' split) <;> first | rfl | (exfalso; omega)) (by unfold m_sesM; (repeat' split) <;> first | rfl | (exfalso; omega))
      · refine lv_iconst (v := (-1)) hx hb dX7_session_35 (by decide) ?_
        exact s_iret hx hb hr hlk hG hS dX7_session_36 (by unfold m_sesR; (repeat' split) <;> first | rfl | (exfalso; omega)) (by unfold m_sesM; (repeat' split) <;> first | rfl | (exfalso; omega))
set_option maxHeartbeats 4000000 in
set_option maxRecDepth 100000 in
theorem c_X7_isOpen (l : Launch) (D : va_G) (cy : Nat → ClassId) (L : g_S → Nat) (σ : g_S → Nat → Int32) (u : Int32) (s0 : 0 ≤ (σ (0, 0, 0) 10).toInt) (s1 : (σ (0, 0, 0) 10).toInt ≤ 8) : m_Met l D cy L yX7_isOpen (.code yX7_isOpen cX7_isOpen 2 (some .boolean)) 1 σ [.ref (L (0, 0, 0)), .int (u)] (some (.int (g_b ((0 ≤ (u).toInt ∧ (u).toInt ≤ ((σ (0, 0, 0) 10).toInt - 1)) ∧ (σ (2, 13, 0) ((u).toInt).toNat).toInt = 0)))) σ := by
  refine g_Met.of (by decide) (Nat.le_of_ble_eq_true rfl) ?_
  intro pg e s m below meth c hx hb hr hlk hml hown hts hK hN H locs hG hS ls hl
  have hown : s.vm.findClass RX7 = some m.cls := hown
  have hl : lv_has ls 2 [(0, .ref (L (0, 0, 0))), (1, .int (u))] := hl
  refine lv_iload_n hx hb dX7_isOpen_0 rfl (lv_at hl 1 rfl) ?_
  refine lv_iconst (v := 0) hx hb dX7_isOpen_1 (by decide) ?_
  refine lv_aload_n hx hb dX7_isOpen_2 rfl (lv_at hl 0 rfl) ?_
  refine g_get (C := RX7) (T := TX7) (N := 28) (v := .int (σ (0, 0, 0) 10)) hx hb hts inX7g hown hK hG (0, 0, 0) ⟨rfl, rfl⟩ (m_at_0 cy L 0 0 (σ (0, 0, 0))) rfl 10 (by decide) fl_X7_107 rfl dX7_isOpen_3 ?_
  refine lv_iconst (v := 1) hx hb dX7_isOpen_6 (by decide) ?_
  refine lv_isub hx hb dX7_isOpen_7 ?_
  have z_1 : ((σ (0, 0, 0) 10) - (1)).toInt = ((σ (0, 0, 0) 10).toInt - 1) := g_subZ rfl (by decide) (by omega) (by omega)
  refine g_cont (va_runS (As := [.int (u), .int 0, .int ((σ (0, 0, 0) 10) - (1))]) (rest := []) ⟨hx, hb, hml, hown, hts⟩ (c_X7_in l D cy L σ (u) (0) ((σ (0, 0, 0) 10) - (1)) (u).toInt 0 ((σ (0, 0, 0) 10).toInt - 1) rfl (by decide) z_1) (cwS 3 hts gS_X7_87 rfl rfl rfl (by decide +kernel) ⟨Nat.le_of_ble_eq_true rfl, Nat.le_of_ble_eq_true rfl⟩) (g_preS hK hN hG) rfl rfl hl.1 rfl (lv_room (Nat.le_of_ble_eq_true rfl)) dX7_isOpen_8 ⟨Nat.zero_le _, Nat.zero_le _⟩) hS (fun H locs hG hS => ?_)
  refine W.eq (g2 := F0 m 11 ls [.int (g_b (0 ≤ (u).toInt ∧ (u).toInt ≤ ((σ (0, 0, 0) 10).toInt - 1)))]) rfl ?_
  refine kz_b_eq (tgt := 27) hx hb dX7_isOpen_11 (by decide) (fun c_11_2 => ?_) (fun c_11_2 => ?_)
  · refine lv_iconst (v := 0) hx hb dX7_isOpen_27 (by decide) ?_
    exact s_zret hx hb hr hlk hG hS dX7_isOpen_28 rfl (by unfold g_b; (repeat' split) <;> first | rfl | (exfalso; omega)) rfl
  · refine lv_aload_n hx hb dX7_isOpen_14 rfl (lv_at hl 0 rfl) ?_
    refine g_get (C := RX7) (T := TX7) (N := 28) (v := .ref (L (2, 13, 0))) hx hb hts inX7g hown hK hG (0, 0, 0) ⟨rfl, rfl⟩ (m_at_0 cy L 0 0 (σ (0, 0, 0))) rfl 13 (by decide) fl_X7_38 rfl dX7_isOpen_15 ?_
    refine lv_iload_n hx hb dX7_isOpen_18 rfl (lv_at hl 1 rfl) ?_
    refine g_zald (n := 8) hx hb hK hG (2, 13, 0) ⟨by decide, rfl⟩ 4 rfl rfl (g_vp (by omega) (by omega)) dX7_isOpen_19 ?_
    rw [show (u : Int32).toNatClampNeg = ((u).toInt).toNat from congrArg Int.toNat (show (u : Int32).toInt = (u).toInt from rfl)]
    refine kz_if_ne (X := (σ (2, 13, 0) (((u).toInt).toNat)).toInt) hx hb rfl dX7_isOpen_20 (tgt := 27) (by decide) (fun c_20_3 => ?_) (fun c_20_3 => ?_)
    · refine lv_iconst (v := 0) hx hb dX7_isOpen_27 (by decide) ?_
      exact s_zret hx hb hr hlk hG hS dX7_isOpen_28 rfl (by unfold g_b; (repeat' split) <;> first | rfl | (exfalso; omega)) rfl
    · refine lv_iconst (v := 1) hx hb dX7_isOpen_23 (by decide) ?_
      refine lv_goto (tgt := 28) hx hb dX7_isOpen_24 (by decide) ?_
      exact s_zret hx hb hr hlk hG hS dX7_isOpen_28 rfl (by unfold g_b; (repeat' split) <;> first | rfl | (exfalso; omega)) rfl
set_option maxHeartbeats 4000000 in
set_option maxRecDepth 100000 in
theorem c_X7_end (l : Launch) (D : va_G) (cy : Nat → ClassId) (L : g_S → Nat) (σ : g_S → Nat → Int32) (u : Int32) (hu : 0 ≤ u.toInt ∧ u.toInt < 8) : m_Met l D cy L yX7_end (.code yX7_end cX7_end 3 none) 0 σ [.ref (L (0, 0, 0)), .int (u)] none (m_endM σ u) := by
  refine g_Met.of (by decide) (Nat.le_of_ble_eq_true rfl) ?_
  intro pg e s m below meth c hx hb hr hlk hml hown hts hK hN H locs hG hS ls hl
  have hown : s.vm.findClass RX7 = some m.cls := hown
  have hl : lv_has ls 3 [(0, .ref (L (0, 0, 0))), (1, .int (u))] := hl
  refine lv_aload_n hx hb dX7_end_0 rfl (lv_at hl 0 rfl) ?_
  refine g_get (C := RX7) (T := TX7) (N := 28) (v := .ref (L (2, 13, 0))) hx hb hts inX7g hown hK hG (0, 0, 0) ⟨rfl, rfl⟩ (m_at_0 cy L 0 0 (σ (0, 0, 0))) rfl 13 (by decide) fl_X7_38 rfl dX7_end_1 ?_
  refine lv_iload_n hx hb dX7_end_4 rfl (lv_at hl 1 rfl) ?_
  refine lv_iconst (v := 1) hx hb dX7_end_5 (by decide) ?_
  refine g_zast (n := 8) hx hb hK hG hS (2, 13, 0) ⟨by decide, rfl⟩ 4 (fun _ => rfl) rfl (g_vp (by omega) (by omega)) rfl dX7_end_6 (fun H locs hG hS => ?_)
  rw [show (u : Int32).toNatClampNeg = ((u).toInt).toNat from congrArg Int.toNat (show (u : Int32).toInt = (u).toInt from rfl)] at hG
  refine lv_iconst (v := 5) hx hb dX7_end_7 (by decide) ?_
  refine lv_iload_n hx hb dX7_end_8 rfl (lv_at hl 1 rfl) ?_
  refine lv_imul hx hb dX7_end_9 ?_
  have z_1 : ((5) * (u)).toInt = (5 * (u).toInt) := g_mulZ (by decide) rfl (by omega) (by omega)
  refine lv_istore_n (lv' := [(2, .int ((5) * (u))), (0, .ref (L (0, 0, 0))), (1, .int (u))]) hx hb dX7_end_10 rfl hl (by decide) rfl (fun ls hl => ?_)
  refine lv_iload_n hx hb dX7_end_11 rfl (lv_at hl 0 rfl) ?_
  refine lv_iconst (v := 5) hx hb dX7_end_12 (by decide) ?_
  refine lv_iload_n hx hb dX7_end_13 rfl (lv_at hl 2 rfl) ?_
  refine lv_imul hx hb dX7_end_14 ?_
  have z_2 : ((5) * (u)).toInt = (5 * (u).toInt) := g_mulZ (by decide) rfl (by omega) (by omega)
  refine lv_iconst (v := 5) hx hb dX7_end_15 (by decide) ?_
  refine lv_iadd hx hb dX7_end_16 ?_
  have z_3 : (((5) * (u)) + (5)).toInt = ((5 * (u).toInt) + 5) := g_addZ z_2 (by decide) (by omega) (by omega)
  refine kz_icmp_ge (X := (5 * (u).toInt)) (Y := ((5 * (u).toInt) + 5)) hx hb z_1 z_3 dX7_end_17 (tgt := 33) (by decide) (fun c_17_4 => ?_) (fun c_17_4 => ?_)
  · exact absurd c_17_4 (by omega)
  · refine lv_aload_n hx hb dX7_end_20 rfl (lv_at hl 1 rfl) ?_
    refine g_get (C := RX7) (T := TX7) (N := 28) (v := .ref (L (1, 16, 0))) hx hb hts inX7g hown hK hG (0, 0, 0) ⟨rfl, rfl⟩ (m_at_0 cy L 0 0 ((g_up σ (2, 13, 0) (((u).toInt).toNat) (1)) (0, 0, 0))) rfl 16 (by decide) fl_X7_47 rfl dX7_end_21 ?_
    refine lv_iload_n hx hb dX7_end_24 rfl (lv_at hl 0 rfl) ?_
    refine lv_iconst (v := (-1)) hx hb dX7_end_25 (by decide) ?_
    refine g_iast (n := 40) hx hb hK hG hS (1, 16, 0) ⟨by decide, rfl⟩ 0 (fun _ => rfl) rfl (g_vp (by have := (show ((5) * (u) : Int32).toInt = (5 * (u).toInt) from z_1); omega) (by have := (show ((5) * (u) : Int32).toInt = (5 * (u).toInt) from z_1); omega)) dX7_end_26 (fun H locs hG hS => ?_)
    rw [show ((5) * (u) : Int32).toNatClampNeg = ((5 * (u).toInt)).toNat from congrArg Int.toNat (show ((5) * (u) : Int32).toInt = (5 * (u).toInt) from z_1)] at hG
    have z_5 : ((5) * (u) + 1).toInt = ((5 * (u).toInt) + 1) := g_addZ z_1 (by decide) (by omega) (by omega)
    refine lv_iinc (v := (5) * (u) + 1) (lv' := [(2, .int ((5) * (u) + 1)), (0, .ref (L (0, 0, 0))), (1, .int (u))]) hx hb dX7_end_27 hl (k := 0) rfl rfl (by decide) rfl (fun ls hl => ?_)
    refine lv_goto (tgt := 11) hx hb dX7_end_30 (by decide) ?_
    refine lv_iload_n hx hb dX7_end_11 rfl (lv_at hl 0 rfl) ?_
    refine lv_iconst (v := 5) hx hb dX7_end_12 (by decide) ?_
    refine lv_iload_n hx hb dX7_end_13 rfl (lv_at hl 2 rfl) ?_
    refine lv_imul hx hb dX7_end_14 ?_
    have z_6 : ((5) * (u)).toInt = (5 * (u).toInt) := g_mulZ (by decide) rfl (by omega) (by omega)
    refine lv_iconst (v := 5) hx hb dX7_end_15 (by decide) ?_
    refine lv_iadd hx hb dX7_end_16 ?_
    have z_7 : (((5) * (u)) + (5)).toInt = ((5 * (u).toInt) + 5) := g_addZ z_6 (by decide) (by omega) (by omega)
    refine kz_icmp_ge (X := ((5 * (u).toInt) + 1)) (Y := ((5 * (u).toInt) + 5)) hx hb z_5 z_7 dX7_end_17 (tgt := 33) (by decide) (fun c_17_8 => ?_) (fun c_17_8 => ?_)
    · exact absurd c_17_8 (by omega)
    · refine lv_aload_n hx hb dX7_end_20 rfl (lv_at hl 1 rfl) ?_
      refine g_get (C := RX7) (T := TX7) (N := 28) (v := .ref (L (1, 16, 0))) hx hb hts inX7g hown hK hG (0, 0, 0) ⟨rfl, rfl⟩ (m_at_0 cy L 0 0 ((g_up (g_up σ (2, 13, 0) (((u).toInt).toNat) (1)) (1, 16, 0) (((5 * (u).toInt)).toNat) ((-1))) (0, 0, 0))) rfl 16 (by decide) fl_X7_47 rfl dX7_end_21 ?_
      refine lv_iload_n hx hb dX7_end_24 rfl (lv_at hl 0 rfl) ?_
      refine lv_iconst (v := (-1)) hx hb dX7_end_25 (by decide) ?_
      refine g_iast (n := 40) hx hb hK hG hS (1, 16, 0) ⟨by decide, rfl⟩ 0 (fun _ => rfl) rfl (g_vp (by have := (show ((5) * (u) + 1 : Int32).toInt = ((5 * (u).toInt) + 1) from z_5); omega) (by have := (show ((5) * (u) + 1 : Int32).toInt = ((5 * (u).toInt) + 1) from z_5); omega)) dX7_end_26 (fun H locs hG hS => ?_)
      rw [show ((5) * (u) + 1 : Int32).toNatClampNeg = (((5 * (u).toInt) + 1)).toNat from congrArg Int.toNat (show ((5) * (u) + 1 : Int32).toInt = ((5 * (u).toInt) + 1) from z_5)] at hG
      have z_9 : ((5) * (u) + 1 + 1).toInt = (((5 * (u).toInt) + 1) + 1) := g_addZ z_5 (by decide) (by omega) (by omega)
      refine lv_iinc (v := (5) * (u) + 1 + 1) (lv' := [(2, .int ((5) * (u) + 1 + 1)), (0, .ref (L (0, 0, 0))), (1, .int (u))]) hx hb dX7_end_27 hl (k := 0) rfl rfl (by decide) rfl (fun ls hl => ?_)
      refine lv_goto (tgt := 11) hx hb dX7_end_30 (by decide) ?_
      refine lv_iload_n hx hb dX7_end_11 rfl (lv_at hl 0 rfl) ?_
      refine lv_iconst (v := 5) hx hb dX7_end_12 (by decide) ?_
      refine lv_iload_n hx hb dX7_end_13 rfl (lv_at hl 2 rfl) ?_
      refine lv_imul hx hb dX7_end_14 ?_
      have z_10 : ((5) * (u)).toInt = (5 * (u).toInt) := g_mulZ (by decide) rfl (by omega) (by omega)
      refine lv_iconst (v := 5) hx hb dX7_end_15 (by decide) ?_
      refine lv_iadd hx hb dX7_end_16 ?_
      have z_11 : (((5) * (u)) + (5)).toInt = ((5 * (u).toInt) + 5) := g_addZ z_10 (by decide) (by omega) (by omega)
      refine kz_icmp_ge (X := (((5 * (u).toInt) + 1) + 1)) (Y := ((5 * (u).toInt) + 5)) hx hb z_9 z_11 dX7_end_17 (tgt := 33) (by decide) (fun c_17_12 => ?_) (fun c_17_12 => ?_)
      · exact absurd c_17_12 (by omega)
      · refine lv_aload_n hx hb dX7_end_20 rfl (lv_at hl 1 rfl) ?_
        refine g_get (C := RX7) (T := TX7) (N := 28) (v := .ref (L (1, 16, 0))) hx hb hts inX7g hown hK hG (0, 0, 0) ⟨rfl, rfl⟩ (m_at_0 cy L 0 0 ((g_up (g_up (g_up σ (2, 13, 0) (((u).toInt).toNat) (1)) (1, 16, 0) (((5 * (u).toInt)).toNat) ((-1))) (1, 16, 0) ((((5 * (u).toInt) + 1)).toNat) ((-1))) (0, 0, 0))) rfl 16 (by decide) fl_X7_47 rfl dX7_end_21 ?_
        refine lv_iload_n hx hb dX7_end_24 rfl (lv_at hl 0 rfl) ?_
        refine lv_iconst (v := (-1)) hx hb dX7_end_25 (by decide) ?_
        refine g_iast (n := 40) hx hb hK hG hS (1, 16, 0) ⟨by decide, rfl⟩ 0 (fun _ => rfl) rfl (g_vp (by have := (show ((5) * (u) + 1 + 1 : Int32).toInt = (((5 * (u).toInt) + 1) + 1) from z_9); omega) (by have := (show ((5) * (u) + 1 + 1 : Int32).toInt = (((5 * (u).toInt) + 1) + 1) from z_9); omega)) dX7_end_26 (fun H locs hG hS => ?_)
        rw [show ((5) * (u) + 1 + 1 : Int32).toNatClampNeg = ((((5 * (u).toInt) + 1) + 1)).toNat from congrArg Int.toNat (show ((5) * (u) + 1 + 1 : Int32).toInt = (((5 * (u).toInt) + 1) + 1) from z_9)] at hG
        have z_13 : ((5) * (u) + 1 + 1 + 1).toInt = ((((5 * (u).toInt) + 1) + 1) + 1) := g_addZ z_9 (by decide) (by omega) (by omega)
        refine lv_iinc (v := (5) * (u) + 1 + 1 + 1) (lv' := [(2, .int ((5) * (u) + 1 + 1 + 1)), (0, .ref (L (0, 0, 0))), (1, .int (u))]) hx hb dX7_end_27 hl (k := 0) rfl rfl (by decide) rfl (fun ls hl => ?_)
        refine lv_goto (tgt := 11) hx hb dX7_end_30 (by decide) ?_
        refine lv_iload_n hx hb dX7_end_11 rfl (lv_at hl 0 rfl) ?_
        refine lv_iconst (v := 5) hx hb dX7_end_12 (by decide) ?_
        refine lv_iload_n hx hb dX7_end_13 rfl (lv_at hl 2 rfl) ?_
        refine lv_imul hx hb dX7_end_14 ?_
        have z_14 : ((5) * (u)).toInt = (5 * (u).toInt) := g_mulZ (by decide) rfl (by omega) (by omega)
        refine lv_iconst (v := 5) hx hb dX7_end_15 (by decide) ?_
        refine lv_iadd hx hb dX7_end_16 ?_
        have z_15 : (((5) * (u)) + (5)).toInt = ((5 * (u).toInt) + 5) := g_addZ z_14 (by decide) (by omega) (by omega)
        refine kz_icmp_ge (X := ((((5 * (u).toInt) + 1) + 1) + 1)) (Y := ((5 * (u).toInt) + 5)) hx hb z_13 z_15 dX7_end_17 (tgt := 33) (by decide) (fun c_17_16 => ?_) (fun c_17_16 => ?_)
        · exact absurd c_17_16 (by omega)
        · refine lv_aload_n hx hb dX7_end_20 rfl (lv_at hl 1 rfl) ?_
          refine g_get (C := RX7) (T := TX7) (N := 28) (v := .ref (L (1, 16, 0))) hx hb hts inX7g hown hK hG (0, 0, 0) ⟨rfl, rfl⟩ (m_at_0 cy L 0 0 ((g_up (g_up (g_up (g_up σ (2, 13, 0) (((u).toInt).toNat) (1)) (1, 16, 0) (((5 * (u).toInt)).toNat) ((-1))) (1, 16, 0) ((((5 * (u).toInt) + 1)).toNat) ((-1))) (1, 16, 0) (((((5 * (u).toInt) + 1) + 1)).toNat) ((-1))) (0, 0, 0))) rfl 16 (by decide) fl_X7_47 rfl dX7_end_21 ?_
          refine lv_iload_n hx hb dX7_end_24 rfl (lv_at hl 0 rfl) ?_
          refine lv_iconst (v := (-1)) hx hb dX7_end_25 (by decide) ?_
          refine g_iast (n := 40) hx hb hK hG hS (1, 16, 0) ⟨by decide, rfl⟩ 0 (fun _ => rfl) rfl (g_vp (by have := (show ((5) * (u) + 1 + 1 + 1 : Int32).toInt = ((((5 * (u).toInt) + 1) + 1) + 1) from z_13); omega) (by have := (show ((5) * (u) + 1 + 1 + 1 : Int32).toInt = ((((5 * (u).toInt) + 1) + 1) + 1) from z_13); omega)) dX7_end_26 (fun H locs hG hS => ?_)
          rw [show ((5) * (u) + 1 + 1 + 1 : Int32).toNatClampNeg = (((((5 * (u).toInt) + 1) + 1) + 1)).toNat from congrArg Int.toNat (show ((5) * (u) + 1 + 1 + 1 : Int32).toInt = ((((5 * (u).toInt) + 1) + 1) + 1) from z_13)] at hG
          have z_17 : ((5) * (u) + 1 + 1 + 1 + 1).toInt = (((((5 * (u).toInt) + 1) + 1) + 1) + 1) := g_addZ z_13 (by decide) (by omega) (by omega)
          refine lv_iinc (v := (5) * (u) + 1 + 1 + 1 + 1) (lv' := [(2, .int ((5) * (u) + 1 + 1 + 1 + 1)), (0, .ref (L (0, 0, 0))), (1, .int (u))]) hx hb dX7_end_27 hl (k := 0) rfl rfl (by decide) rfl (fun ls hl => ?_)
          refine lv_goto (tgt := 11) hx hb dX7_end_30 (by decide) ?_
          refine lv_iload_n hx hb dX7_end_11 rfl (lv_at hl 0 rfl) ?_
          refine lv_iconst (v := 5) hx hb dX7_end_12 (by decide) ?_
          refine lv_iload_n hx hb dX7_end_13 rfl (lv_at hl 2 rfl) ?_
          refine lv_imul hx hb dX7_end_14 ?_
          have z_18 : ((5) * (u)).toInt = (5 * (u).toInt) := g_mulZ (by decide) rfl (by omega) (by omega)
          refine lv_iconst (v := 5) hx hb dX7_end_15 (by decide) ?_
          refine lv_iadd hx hb dX7_end_16 ?_
          have z_19 : (((5) * (u)) + (5)).toInt = ((5 * (u).toInt) + 5) := g_addZ z_18 (by decide) (by omega) (by omega)
          refine kz_icmp_ge (X := (((((5 * (u).toInt) + 1) + 1) + 1) + 1)) (Y := ((5 * (u).toInt) + 5)) hx hb z_17 z_19 dX7_end_17 (tgt := 33) (by decide) (fun c_17_20 => ?_) (fun c_17_20 => ?_)
          · exact absurd c_17_20 (by omega)
          · refine lv_aload_n hx hb dX7_end_20 rfl (lv_at hl 1 rfl) ?_
            refine g_get (C := RX7) (T := TX7) (N := 28) (v := .ref (L (1, 16, 0))) hx hb hts inX7g hown hK hG (0, 0, 0) ⟨rfl, rfl⟩ (m_at_0 cy L 0 0 ((g_up (g_up (g_up (g_up (g_up σ (2, 13, 0) (((u).toInt).toNat) (1)) (1, 16, 0) (((5 * (u).toInt)).toNat) ((-1))) (1, 16, 0) ((((5 * (u).toInt) + 1)).toNat) ((-1))) (1, 16, 0) (((((5 * (u).toInt) + 1) + 1)).toNat) ((-1))) (1, 16, 0) ((((((5 * (u).toInt) + 1) + 1) + 1)).toNat) ((-1))) (0, 0, 0))) rfl 16 (by decide) fl_X7_47 rfl dX7_end_21 ?_
            refine lv_iload_n hx hb dX7_end_24 rfl (lv_at hl 0 rfl) ?_
            refine lv_iconst (v := (-1)) hx hb dX7_end_25 (by decide) ?_
            refine g_iast (n := 40) hx hb hK hG hS (1, 16, 0) ⟨by decide, rfl⟩ 0 (fun _ => rfl) rfl (g_vp (by have := (show ((5) * (u) + 1 + 1 + 1 + 1 : Int32).toInt = (((((5 * (u).toInt) + 1) + 1) + 1) + 1) from z_17); omega) (by have := (show ((5) * (u) + 1 + 1 + 1 + 1 : Int32).toInt = (((((5 * (u).toInt) + 1) + 1) + 1) + 1) from z_17); omega)) dX7_end_26 (fun H locs hG hS => ?_)
            rw [show ((5) * (u) + 1 + 1 + 1 + 1 : Int32).toNatClampNeg = ((((((5 * (u).toInt) + 1) + 1) + 1) + 1)).toNat from congrArg Int.toNat (show ((5) * (u) + 1 + 1 + 1 + 1 : Int32).toInt = (((((5 * (u).toInt) + 1) + 1) + 1) + 1) from z_17)] at hG
            have z_21 : ((5) * (u) + 1 + 1 + 1 + 1 + 1).toInt = ((((((5 * (u).toInt) + 1) + 1) + 1) + 1) + 1) := g_addZ z_17 (by decide) (by omega) (by omega)
            refine lv_iinc (v := (5) * (u) + 1 + 1 + 1 + 1 + 1) (lv' := [(2, .int ((5) * (u) + 1 + 1 + 1 + 1 + 1)), (0, .ref (L (0, 0, 0))), (1, .int (u))]) hx hb dX7_end_27 hl (k := 0) rfl rfl (by decide) rfl (fun ls hl => ?_)
            refine lv_goto (tgt := 11) hx hb dX7_end_30 (by decide) ?_
            refine lv_iload_n hx hb dX7_end_11 rfl (lv_at hl 0 rfl) ?_
            refine lv_iconst (v := 5) hx hb dX7_end_12 (by decide) ?_
            refine lv_iload_n hx hb dX7_end_13 rfl (lv_at hl 2 rfl) ?_
            refine lv_imul hx hb dX7_end_14 ?_
            have z_22 : ((5) * (u)).toInt = (5 * (u).toInt) := g_mulZ (by decide) rfl (by omega) (by omega)
            refine lv_iconst (v := 5) hx hb dX7_end_15 (by decide) ?_
            refine lv_iadd hx hb dX7_end_16 ?_
            have z_23 : (((5) * (u)) + (5)).toInt = ((5 * (u).toInt) + 5) := g_addZ z_22 (by decide) (by omega) (by omega)
            refine kz_icmp_ge (X := ((((((5 * (u).toInt) + 1) + 1) + 1) + 1) + 1)) (Y := ((5 * (u).toInt) + 5)) hx hb z_21 z_23 dX7_end_17 (tgt := 33) (by decide) (fun c_17_24 => ?_) (fun c_17_24 => ?_)
            · exact s_vret hx hb hr hlk hG hS dX7_end_33 rfl rfl
            · exact absurd c_17_24 (by omega)
set_option maxHeartbeats 4000000 in
set_option maxRecDepth 100000 in
theorem c_X7_tell (l : Launch) (D : va_G) (cy : Nat → ClassId) (L : g_S → Nat) (σ : g_S → Nat → Int32) (u code : Int32) (hu : 0 ≤ u.toInt ∧ u.toInt < 8) : m_Met l D cy L yX7_tell (.code yX7_tell cX7_tell 3 (some .int)) 1 σ [.ref (L (0, 0, 0)), .int (u), .int (code)] (some (.int (-code))) (m_tellM σ u code) := by
  refine g_Met.of (by decide) (Nat.le_of_ble_eq_true rfl) ?_
  intro pg e s m below meth c hx hb hr hlk hml hown hts hK hN H locs hG hS ls hl
  have hown : s.vm.findClass RX7 = some m.cls := hown
  have hl : lv_has ls 3 [(0, .ref (L (0, 0, 0))), (1, .int (u)), (2, .int (code))] := hl
  refine lv_aload_n hx hb dX7_tell_0 rfl (lv_at hl 0 rfl) ?_
  refine g_get (C := RX7) (T := TX7) (N := 28) (v := .ref (L (1, 14, 0))) hx hb hts inX7g hown hK hG (0, 0, 0) ⟨rfl, rfl⟩ (m_at_0 cy L 0 0 (σ (0, 0, 0))) rfl 14 (by decide) fl_X7_41 rfl dX7_tell_1 ?_
  refine lv_iload_n hx hb dX7_tell_4 rfl (lv_at hl 1 rfl) ?_
  refine lv_dup2_11 hx hb dX7_tell_5 rfl rfl ?_
  refine g_iald (n := 8) hx hb hK hG (1, 14, 0) ⟨by decide, rfl⟩ 0 rfl rfl (g_vp (by omega) (by omega)) dX7_tell_6 ?_
  rw [show (u : Int32).toNatClampNeg = ((u).toInt).toNat from congrArg Int.toNat (show (u : Int32).toInt = (u).toInt from rfl)]
  refine lv_iconst (v := 1) hx hb dX7_tell_7 (by decide) ?_
  refine lv_iadd hx hb dX7_tell_8 ?_
  refine g_iast (n := 8) hx hb hK hG hS (1, 14, 0) ⟨by decide, rfl⟩ 0 (fun _ => rfl) rfl (g_vp (by omega) (by omega)) dX7_tell_9 (fun H locs hG hS => ?_)
  rw [show (u : Int32).toNatClampNeg = ((u).toInt).toNat from congrArg Int.toNat (show (u : Int32).toInt = (u).toInt from rfl)] at hG
  refine lv_aload_n hx hb dX7_tell_10 rfl (lv_at hl 0 rfl) ?_
  refine g_get (C := RX7) (T := TX7) (N := 28) (v := .ref (L (1, 15, 0))) hx hb hts inX7g hown hK hG (0, 0, 0) ⟨rfl, rfl⟩ (m_at_0 cy L 0 0 ((g_up σ (1, 14, 0) (((u).toInt).toNat) ((σ (1, 14, 0) (((u).toInt).toNat)) + (1))) (0, 0, 0))) rfl 15 (by decide) fl_X7_44 rfl dX7_tell_11 ?_
  refine lv_iload_n hx hb dX7_tell_14 rfl (lv_at hl 1 rfl) ?_
  refine lv_iload_n hx hb dX7_tell_15 rfl (lv_at hl 2 rfl) ?_
  refine g_iast (n := 8) hx hb hK hG hS (1, 15, 0) ⟨by decide, rfl⟩ 0 (fun _ => rfl) rfl (g_vp (by omega) (by omega)) dX7_tell_16 (fun H locs hG hS => ?_)
  rw [show (u : Int32).toNatClampNeg = ((u).toInt).toNat from congrArg Int.toNat (show (u : Int32).toInt = (u).toInt from rfl)] at hG
  refine lv_aload_n hx hb dX7_tell_17 rfl (lv_at hl 0 rfl) ?_
  refine g_get (C := RX7) (T := TX7) (N := 28) (v := .ref (L (1, 14, 0))) hx hb hts inX7g hown hK hG (0, 0, 0) ⟨rfl, rfl⟩ (m_at_0 cy L 0 0 ((g_up (g_up σ (1, 14, 0) (((u).toInt).toNat) ((σ (1, 14, 0) (((u).toInt).toNat)) + (1))) (1, 15, 0) (((u).toInt).toNat) (code)) (0, 0, 0))) rfl 14 (by decide) fl_X7_41 rfl dX7_tell_18 ?_
  refine lv_iload_n hx hb dX7_tell_21 rfl (lv_at hl 1 rfl) ?_
  refine g_iald (n := 8) hx hb hK hG (1, 14, 0) ⟨by decide, rfl⟩ 0 rfl rfl (g_vp (by omega) (by omega)) dX7_tell_22 ?_
  rw [show (u : Int32).toNatClampNeg = ((u).toInt).toNat from congrArg Int.toNat (show (u : Int32).toInt = (u).toInt from rfl)]
  refine lv_iconst (v := 3) hx hb dX7_tell_23 (by decide) ?_
  refine kz_icmp_ne (X := ((g_up (g_up σ (1, 14, 0) (((u).toInt).toNat) ((σ (1, 14, 0) (((u).toInt).toNat)) + (1))) (1, 15, 0) (((u).toInt).toNat) (code)) (1, 14, 0) (((u).toInt).toNat)).toInt) (Y := 3) hx hb rfl (by decide) dX7_tell_24 (tgt := 32) (by decide) (fun c_24_1 => ?_) (fun c_24_1 => ?_)
  · refine lv_iload_n hx hb dX7_tell_32 rfl (lv_at hl 2 rfl) ?_
    refine lv_ineg hx hb dX7_tell_33 ?_
    exact s_iret hx hb hr hlk hG hS dX7_tell_34 rfl (by unfold m_tellM; rw [if_neg (by unfold m_tellM0; omega)]; rfl)
  · refine lv_aload_n hx hb dX7_tell_27 rfl (lv_at hl 0 rfl) ?_
    refine lv_iload_n hx hb dX7_tell_28 rfl (lv_at hl 1 rfl) ?_
    refine g_cont (va_runV (As := [.int (u)]) (rest := []) ⟨hx, hb, hml, hown, hts⟩ (c_X7_end l D cy L (g_up (g_up σ (1, 14, 0) (((u).toInt).toNat) ((σ (1, 14, 0) (((u).toInt).toNat)) + (1))) (1, 15, 0) (((u).toInt).toNat) (code)) (u) ⟨by omega, by omega⟩) (cwV 1 hts gV_X7_110 rfl rfl rfl (by decide +kernel) ⟨Nat.le_of_ble_eq_true rfl, Nat.le_of_ble_eq_true rfl⟩) (g_preV hK hN hG (x := (0, 0, 0)) ⟨rfl, rfl⟩ (q := (RX7, TX7, 28)) (m_at_0 cy L 0 0 ((g_up (g_up σ (1, 14, 0) (((u).toInt).toNat) ((σ (1, 14, 0) (((u).toInt).toNat)) + (1))) (1, 15, 0) (((u).toInt).toNat) (code)) (0, 0, 0))) rfl) rfl rfl hl.1 rfl (lv_room (Nat.le_of_ble_eq_true rfl)) dX7_tell_29 ⟨Nat.zero_le _, Nat.zero_le _⟩) hS (fun H locs hG hS => ?_)
    refine W.eq (g2 := F0 m 32 ls []) rfl ?_
    refine lv_iload_n hx hb dX7_tell_32 rfl (lv_at hl 2 rfl) ?_
    refine lv_ineg hx hb dX7_tell_33 ?_
    exact s_iret hx hb hr hlk hG hS dX7_tell_34 rfl (by unfold m_tellM; rw [if_pos (by unfold m_tellM0; omega)]; rfl)
set_option maxHeartbeats 4000000 in
set_option maxRecDepth 100000 in
theorem c_X7_isName (l : Launch) (D : va_G) (cy : Nat → ClassId) (L : g_S → Nat) (σ : g_S → Nat → Int32) (u v : Int32) (hu : 0 ≤ u.toInt ∧ u.toInt < 8) : m_Met l D cy L yX7_isName (.code yX7_isName cX7_isName 3 (some .boolean)) 1 σ [.ref (L (0, 0, 0)), .int (u), .int (v)] (some (.int (g_b (0 ≤ (v).toInt ∧ (v).toInt ≤ (if (σ (1, 11, 0) ((u).toInt).toNat &&& 4).toInt = 4 then (4 : Int) else 0))))) σ := by
  refine g_Met.of (by decide) (Nat.le_of_ble_eq_true rfl) ?_
  intro pg e s m below meth c hx hb hr hlk hml hown hts hK hN H locs hG hS ls hl
  have hown : s.vm.findClass RX7 = some m.cls := hown
  have hl : lv_has ls 3 [(0, .ref (L (0, 0, 0))), (1, .int (u)), (2, .int (v))] := hl
  refine lv_iload_n hx hb dX7_isName_0 rfl (lv_at hl 2 rfl) ?_
  refine lv_iconst (v := 0) hx hb dX7_isName_1 (by decide) ?_
  refine lv_aload_n hx hb dX7_isName_2 rfl (lv_at hl 0 rfl) ?_
  refine g_get (C := RX7) (T := TX7) (N := 28) (v := .ref (L (1, 11, 0))) hx hb hts inX7g hown hK hG (0, 0, 0) ⟨rfl, rfl⟩ (m_at_0 cy L 0 0 (σ (0, 0, 0))) rfl 11 (by decide) fl_X7_32 rfl dX7_isName_3 ?_
  refine lv_iload_n hx hb dX7_isName_6 rfl (lv_at hl 1 rfl) ?_
  refine g_iald (n := 8) hx hb hK hG (1, 11, 0) ⟨by decide, rfl⟩ 0 rfl rfl (g_vp (by omega) (by omega)) dX7_isName_7 ?_
  rw [show (u : Int32).toNatClampNeg = ((u).toInt).toNat from congrArg Int.toNat (show (u : Int32).toInt = (u).toInt from rfl)]
  refine lv_iconst (v := 4) hx hb dX7_isName_8 (by decide) ?_
  refine lv_iand hx hb dX7_isName_9 ?_
  refine lv_iconst (v := 4) hx hb dX7_isName_10 (by decide) ?_
  refine kz_icmp_ne (X := ((σ (1, 11, 0) (((u).toInt).toNat)) &&& (4)).toInt) (Y := 4) hx hb rfl (by decide) dX7_isName_11 (tgt := 18) (by decide) (fun c_11_1 => ?_) (fun c_11_1 => ?_)
  · refine lv_iconst (v := 0) hx hb dX7_isName_18 (by decide) ?_
    refine g_cont (va_runS (As := [.int (v), .int 0, .int 0]) (rest := []) ⟨hx, hb, hml, hown, hts⟩ (c_X7_in l D cy L σ (v) (0) (0) (v).toInt 0 0 rfl (by decide) (by decide)) (cwS 3 hts gS_X7_87 rfl rfl rfl (by decide +kernel) ⟨Nat.le_of_ble_eq_true rfl, Nat.le_of_ble_eq_true rfl⟩) (g_preS hK hN hG) rfl rfl hl.1 rfl (lv_room (Nat.le_of_ble_eq_true rfl)) dX7_isName_19 ⟨Nat.zero_le _, Nat.zero_le _⟩) hS (fun H locs hG hS => ?_)
    refine W.eq (g2 := F0 m 22 ls [.int (g_b (0 ≤ (v).toInt ∧ (v).toInt ≤ 0))]) rfl ?_
    exact s_zret hx hb hr hlk hG hS dX7_isName_22 g_b_nar (by unfold g_b; (repeat' split) <;> first | rfl | (exfalso; omega)) rfl
  · refine lv_iconst (v := 4) hx hb dX7_isName_14 (by decide) ?_
    refine lv_goto (tgt := 19) hx hb dX7_isName_15 (by decide) ?_
    refine g_cont (va_runS (As := [.int (v), .int 0, .int 4]) (rest := []) ⟨hx, hb, hml, hown, hts⟩ (c_X7_in l D cy L σ (v) (0) (4) (v).toInt 0 4 rfl (by decide) (by decide)) (cwS 3 hts gS_X7_87 rfl rfl rfl (by decide +kernel) ⟨Nat.le_of_ble_eq_true rfl, Nat.le_of_ble_eq_true rfl⟩) (g_preS hK hN hG) rfl rfl hl.1 rfl (lv_room (Nat.le_of_ble_eq_true rfl)) dX7_isName_19 ⟨Nat.zero_le _, Nat.zero_le _⟩) hS (fun H locs hG hS => ?_)
    refine W.eq (g2 := F0 m 22 ls [.int (g_b (0 ≤ (v).toInt ∧ (v).toInt ≤ 4))]) rfl ?_
    exact s_zret hx hb hr hlk hG hS dX7_isName_22 g_b_nar (by unfold g_b; (repeat' split) <;> first | rfl | (exfalso; omega)) rfl
set_option maxHeartbeats 4000000 in
set_option maxRecDepth 100000 in
theorem c_X7_isSet (l : Launch) (D : va_G) (cy : Nat → ClassId) (L : g_S → Nat) (σ : g_S → Nat → Int32) (u v : Int32) (hu : 0 ≤ u.toInt ∧ u.toInt < 8) : m_Met l D cy L yX7_isSet (.code yX7_isSet cX7_isSet 3 (some .boolean)) 2 σ [.ref (L (0, 0, 0)), .int (u), .int (v)] (some (.int (g_b ((0 ≤ (v).toInt ∧ (v).toInt ≤ (if (σ (1, 11, 0) ((u).toInt).toNat &&& 4).toInt = 4 then (4 : Int) else 0)) ∧ 0 ≤ (σ (1, 16, 0) ((5 * (u).toInt) + (v).toInt).toNat).toInt)))) σ := by
  refine g_Met.of (by decide) (Nat.le_of_ble_eq_true rfl) ?_
  intro pg e s m below meth c hx hb hr hlk hml hown hts hK hN H locs hG hS ls hl
  have hown : s.vm.findClass RX7 = some m.cls := hown
  have hl : lv_has ls 3 [(0, .ref (L (0, 0, 0))), (1, .int (u)), (2, .int (v))] := hl
  refine lv_aload_n hx hb dX7_isSet_0 rfl (lv_at hl 0 rfl) ?_
  refine lv_iload_n hx hb dX7_isSet_1 rfl (lv_at hl 1 rfl) ?_
  refine lv_iload_n hx hb dX7_isSet_2 rfl (lv_at hl 2 rfl) ?_
  refine g_cont (va_runV (As := [.int (u), .int (v)]) (rest := []) ⟨hx, hb, hml, hown, hts⟩ (c_X7_isName l D cy L σ (u) (v) ⟨by omega, by omega⟩) (cwV 2 hts gV_X7_114 rfl rfl rfl (by decide +kernel) ⟨Nat.le_of_ble_eq_true rfl, Nat.le_of_ble_eq_true rfl⟩) (g_preV hK hN hG (x := (0, 0, 0)) ⟨rfl, rfl⟩ (q := (RX7, TX7, 28)) (m_at_0 cy L 0 0 (σ (0, 0, 0))) rfl) rfl rfl hl.1 rfl (lv_room (Nat.le_of_ble_eq_true rfl)) dX7_isSet_3 ⟨Nat.zero_le _, Nat.zero_le _⟩) hS (fun H locs hG hS => ?_)
  refine W.eq (g2 := F0 m 6 ls [.int (g_b (0 ≤ (v).toInt ∧ (v).toInt ≤ (if (σ (1, 11, 0) ((u).toInt).toNat &&& 4).toInt = 4 then (4 : Int) else 0)))]) rfl ?_
  refine kz_b_eq (tgt := 26) hx hb dX7_isSet_6 (by decide) (fun c_6_1 => ?_) (fun c_6_1 => ?_)
  · refine lv_iconst (v := 0) hx hb dX7_isSet_26 (by decide) ?_
    exact s_zret hx hb hr hlk hG hS dX7_isSet_27 rfl (by unfold g_b; (repeat' split) <;> first | rfl | (exfalso; omega)) rfl
  · refine lv_aload_n hx hb dX7_isSet_9 rfl (lv_at hl 0 rfl) ?_
    refine g_get (C := RX7) (T := TX7) (N := 28) (v := .ref (L (1, 16, 0))) hx hb hts inX7g hown hK hG (0, 0, 0) ⟨rfl, rfl⟩ (m_at_0 cy L 0 0 (σ (0, 0, 0))) rfl 16 (by decide) fl_X7_47 rfl dX7_isSet_10 ?_
    refine lv_iconst (v := 5) hx hb dX7_isSet_13 (by decide) ?_
    refine lv_iload_n hx hb dX7_isSet_14 rfl (lv_at hl 1 rfl) ?_
    refine lv_imul hx hb dX7_isSet_15 ?_
    have z_2 : ((5) * (u)).toInt = (5 * (u).toInt) := g_mulZ (by decide) rfl (by omega) (by omega)
    refine lv_iload_n hx hb dX7_isSet_16 rfl (lv_at hl 2 rfl) ?_
    refine lv_iadd hx hb dX7_isSet_17 ?_
    have z_3 : (((5) * (u)) + (v)).toInt = ((5 * (u).toInt) + (v).toInt) := g_addZ z_2 rfl (by omega) (by omega)
    refine g_iald (n := 40) hx hb hK hG (1, 16, 0) ⟨by decide, rfl⟩ 0 rfl rfl (g_vp (by have := (show (((5) * (u)) + (v) : Int32).toInt = ((5 * (u).toInt) + (v).toInt) from z_3); omega) (by have := (show (((5) * (u)) + (v) : Int32).toInt = ((5 * (u).toInt) + (v).toInt) from z_3); omega)) dX7_isSet_18 ?_
    rw [show (((5) * (u)) + (v) : Int32).toNatClampNeg = (((5 * (u).toInt) + (v).toInt)).toNat from congrArg Int.toNat (show (((5) * (u)) + (v) : Int32).toInt = ((5 * (u).toInt) + (v).toInt) from z_3)]
    refine kz_if_lt (X := (σ (1, 16, 0) ((((5 * (u).toInt) + (v).toInt)).toNat)).toInt) hx hb rfl dX7_isSet_19 (tgt := 26) (by decide) (fun c_19_4 => ?_) (fun c_19_4 => ?_)
    · refine lv_iconst (v := 0) hx hb dX7_isSet_26 (by decide) ?_
      exact s_zret hx hb hr hlk hG hS dX7_isSet_27 rfl (by unfold g_b; (repeat' split) <;> first | rfl | (exfalso; omega)) rfl
    · refine lv_iconst (v := 1) hx hb dX7_isSet_22 (by decide) ?_
      refine lv_goto (tgt := 27) hx hb dX7_isSet_23 (by decide) ?_
      exact s_zret hx hb hr hlk hG hS dX7_isSet_27 rfl (by unfold g_b; (repeat' split) <;> first | rfl | (exfalso; omega)) rfl
set_option maxHeartbeats 4000000 in
set_option maxRecDepth 100000 in
theorem lp_msets (l : Launch) (D : va_G) (cy : Nat → ClassId) (L : g_S → Nat) (σ : g_S → Nat → Int32) {pg : Program} {e : Env} {s : State} {m : MethodId} {args : Array Value} {below : List Frame} {meth : Method} {c : Code} {Q : State → Prop} (C0 : g_C pg s m meth c args cX7_sets (some .int) 4 RX7 D (x_tys cy)) (u : Int32) (hu : 0 ≤ u.toInt ∧ u.toInt < 8) :
    ∀ (n : Nat) (kv : Int32) (acc : Int32) (H : Heap) (locs : List Loc) (ls : Array Slot), (kv.toInt + n = 5 * u.toInt + 5 ∧ 5 * u.toInt ≤ kv.toInt) → g_H D vwCl m_dom L (fun z => m_K cy L z (σ z)) H → va_S (g_A m_dom L) s.heap H locs → lv_has ls 4 [(3, .int (kv)), (2, .int (acc)), (0, .ref (L (0, 0, 0))), (1, .int (u))] →
    (∀ (H : Heap) (locs : List Loc) (ls : Array Slot), g_H D vwCl m_dom L (fun z => m_K cy L z (σ z)) H → va_S (g_A m_dom L) s.heap H locs → lv_has ls 4 [(2, .int (m_setsGo σ n kv.toInt acc))] → W pg l e (g_R 0) s m args below meth c H locs 0 0 Q (F0 m 38 ls [])) →
    W pg l e (g_R 0) s m args below meth c H locs 0 0 Q (F0 m 6 ls []) := by
  obtain ⟨hx, hb, hr, hlk, hml, hown, hts, hK, hN⟩ := C0
  intro n
  induction n with
  | zero =>
    intro kv acc H locs ls hv9 hG hS hl kk9
    refine lv_iload_n hx hb dX7_sets_6 rfl (lv_at hl 0 rfl) ?_
    refine lv_iconst (v := 5) hx hb dX7_sets_7 (by decide) ?_
    refine lv_iload_n hx hb dX7_sets_8 rfl (lv_at hl 3 rfl) ?_
    refine lv_imul hx hb dX7_sets_9 ?_
    have z_1 : ((5) * (u)).toInt = (5 * (u).toInt) := g_mulZ (by decide) rfl (by omega) (by omega)
    refine lv_iconst (v := 5) hx hb dX7_sets_10 (by decide) ?_
    refine lv_iadd hx hb dX7_sets_11 ?_
    have z_2 : (((5) * (u)) + (5)).toInt = ((5 * (u).toInt) + 5) := g_addZ z_1 (by decide) (by omega) (by omega)
    refine kz_icmp_ge (X := (kv).toInt) (Y := ((5 * (u).toInt) + 5)) hx hb rfl z_2 dX7_sets_12 (tgt := 38) (by decide) (fun c_12_3 => ?_) (fun c_12_3 => ?_)
    · exact kk9 H locs ls hG hS (lv_sub hl [1] rfl)
    · exact absurd c_12_3 (by omega)
  | succ n ih =>
    intro kv acc H locs ls hv9 hG hS hl kk9
    refine lv_iload_n hx hb dX7_sets_6 rfl (lv_at hl 0 rfl) ?_
    refine lv_iconst (v := 5) hx hb dX7_sets_7 (by decide) ?_
    refine lv_iload_n hx hb dX7_sets_8 rfl (lv_at hl 3 rfl) ?_
    refine lv_imul hx hb dX7_sets_9 ?_
    have z_1 : ((5) * (u)).toInt = (5 * (u).toInt) := g_mulZ (by decide) rfl (by omega) (by omega)
    refine lv_iconst (v := 5) hx hb dX7_sets_10 (by decide) ?_
    refine lv_iadd hx hb dX7_sets_11 ?_
    have z_2 : (((5) * (u)) + (5)).toInt = ((5 * (u).toInt) + 5) := g_addZ z_1 (by decide) (by omega) (by omega)
    refine kz_icmp_ge (X := (kv).toInt) (Y := ((5 * (u).toInt) + 5)) hx hb rfl z_2 dX7_sets_12 (tgt := 38) (by decide) (fun c_12_3 => ?_) (fun c_12_3 => ?_)
    · exact absurd c_12_3 (by omega)
    · refine lv_iload_n hx hb dX7_sets_15 rfl (lv_at hl 1 rfl) ?_
      refine lv_aload_n hx hb dX7_sets_16 rfl (lv_at hl 2 rfl) ?_
      refine g_get (C := RX7) (T := TX7) (N := 28) (v := .ref (L (1, 16, 0))) hx hb hts inX7g hown hK hG (0, 0, 0) ⟨rfl, rfl⟩ (m_at_0 cy L 0 0 (σ (0, 0, 0))) rfl 16 (by decide) fl_X7_47 rfl dX7_sets_17 ?_
      refine lv_iload_n hx hb dX7_sets_20 rfl (lv_at hl 0 rfl) ?_
      refine g_iald (n := 40) hx hb hK hG (1, 16, 0) ⟨by decide, rfl⟩ 0 rfl rfl (g_vp (by omega) (by omega)) dX7_sets_21 ?_
      rw [show (kv : Int32).toNatClampNeg = ((kv).toInt).toNat from congrArg Int.toNat (show (kv : Int32).toInt = (kv).toInt from rfl)]
      refine kz_if_lt (X := (σ (1, 16, 0) (((kv).toInt).toNat)).toInt) hx hb rfl dX7_sets_22 (tgt := 29) (by decide) (fun c_22_4 => ?_) (fun c_22_4 => ?_)
      · refine lv_iconst (v := 0) hx hb dX7_sets_29 (by decide) ?_
        refine lv_iadd hx hb dX7_sets_30 ?_
        refine lv_istore_n (lv' := [(2, .int ((acc) + (0))), (3, .int (kv)), (0, .ref (L (0, 0, 0))), (1, .int (u))]) hx hb dX7_sets_31 rfl hl (by decide) rfl (fun ls hl => ?_)
        have z_5 : (kv + 1).toInt = ((kv).toInt + 1) := g_addZ rfl (by decide) (by omega) (by omega)
        refine lv_iinc (v := kv + 1) (lv' := [(3, .int (kv + 1)), (2, .int ((acc) + (0))), (0, .ref (L (0, 0, 0))), (1, .int (u))]) hx hb dX7_sets_32 hl (k := 1) rfl rfl (by decide) rfl (fun ls hl => ?_)
        refine lv_goto (tgt := 6) hx hb dX7_sets_35 (by decide) ?_
        have e90 : m_setsGo σ (n + 1) kv.toInt acc = m_setsGo σ n (kv + 1).toInt ((acc) + (0)) := (by rw [m_setsGo_s, show (kv + 1).toInt = kv.toInt + 1 from by assumption]; (repeat' split) <;> first | rfl | (exfalso; omega))
        rw [e90] at kk9
        exact ih (kv + 1) ((acc) + (0)) H locs ls (by omega) hG hS (lv_sub hl [0, 1, 2, 3] rfl) kk9
      · refine lv_iconst (v := 1) hx hb dX7_sets_25 (by decide) ?_
        refine lv_goto (tgt := 30) hx hb dX7_sets_26 (by decide) ?_
        refine lv_iadd hx hb dX7_sets_30 ?_
        refine lv_istore_n (lv' := [(2, .int ((acc) + (1))), (3, .int (kv)), (0, .ref (L (0, 0, 0))), (1, .int (u))]) hx hb dX7_sets_31 rfl hl (by decide) rfl (fun ls hl => ?_)
        have z_6 : (kv + 1).toInt = ((kv).toInt + 1) := g_addZ rfl (by decide) (by omega) (by omega)
        refine lv_iinc (v := kv + 1) (lv' := [(3, .int (kv + 1)), (2, .int ((acc) + (1))), (0, .ref (L (0, 0, 0))), (1, .int (u))]) hx hb dX7_sets_32 hl (k := 1) rfl rfl (by decide) rfl (fun ls hl => ?_)
        refine lv_goto (tgt := 6) hx hb dX7_sets_35 (by decide) ?_
        have e90 : m_setsGo σ (n + 1) kv.toInt acc = m_setsGo σ n (kv + 1).toInt ((acc) + (1)) := (by rw [m_setsGo_s, show (kv + 1).toInt = kv.toInt + 1 from by assumption]; (repeat' split) <;> first | rfl | (exfalso; omega))
        rw [e90] at kk9
        exact ih (kv + 1) ((acc) + (1)) H locs ls (by omega) hG hS (lv_sub hl [0, 1, 2, 3] rfl) kk9
set_option maxHeartbeats 4000000 in
set_option maxRecDepth 100000 in
theorem c_X7_sets (l : Launch) (D : va_G) (cy : Nat → ClassId) (L : g_S → Nat) (σ : g_S → Nat → Int32) (u : Int32) (hu : 0 ≤ u.toInt ∧ u.toInt < 8) : m_Met l D cy L yX7_sets (.code yX7_sets cX7_sets 4 (some .int)) 0 σ [.ref (L (0, 0, 0)), .int (u)] (some (.int (m_setsR σ u))) σ := by
  refine g_Met.of (by decide) (Nat.le_of_ble_eq_true rfl) ?_
  intro pg e s m below meth c hx hb hr hlk hml hown hts hK hN H locs hG hS ls hl
  have hown : s.vm.findClass RX7 = some m.cls := hown
  have hl : lv_has ls 4 [(0, .ref (L (0, 0, 0))), (1, .int (u))] := hl
  refine lv_iconst (v := 0) hx hb dX7_sets_0 (by decide) ?_
  refine lv_istore_n (lv' := [(2, .int 0), (0, .ref (L (0, 0, 0))), (1, .int (u))]) hx hb dX7_sets_1 rfl hl (by decide) rfl (fun ls hl => ?_)
  refine lv_iconst (v := 5) hx hb dX7_sets_2 (by decide) ?_
  refine lv_iload_n hx hb dX7_sets_3 rfl (lv_at hl 2 rfl) ?_
  refine lv_imul hx hb dX7_sets_4 ?_
  have z_1 : ((5) * (u)).toInt = (5 * (u).toInt) := g_mulZ (by decide) rfl (by omega) (by omega)
  refine lv_istore_n (lv' := [(3, .int ((5) * (u))), (2, .int 0), (0, .ref (L (0, 0, 0))), (1, .int (u))]) hx hb dX7_sets_5 rfl hl (by decide) rfl (fun ls hl => ?_)
  refine lp_msets l D cy L σ ⟨hx, hb, hr, hlk, hml, hown, hts, hK, hN⟩ u hu 5 ((5) * (u)) 0 H locs ls (by omega) hG hS (lv_sub hl [0, 1, 2, 3] rfl) (fun H locs ls hG hS hl => ?_)
  refine lv_iload_n hx hb dX7_sets_38 rfl (lv_at hl 0 rfl) ?_
  exact s_iret hx hb hr hlk hG hS dX7_sets_39 (by unfold m_setsR; rw [show ((5 : Int32) * u).toInt = 5 * u.toInt from by assumption]) rfl
set_option maxHeartbeats 4000000 in
set_option maxRecDepth 100000 in
theorem c_X7_size (l : Launch) (D : va_G) (cy : Nat → ClassId) (L : g_S → Nat) (σ : g_S → Nat → Int32) (τ : g_S → Nat → Int32) (hτ : g_up σ (0, 0, 0) 0 0 = τ) (u v : Int32) (s0 : 0 ≤ (τ (0, 0, 0) 10).toInt) (s1 : (τ (0, 0, 0) 10).toInt ≤ 8) : m_Met l D cy L yX7_size (.code yX7_size cX7_size 3 (some .int)) 3 σ [.ref (L (0, 0, 0)), .int (u), .int (v)] (some (.int (m_sizeR τ u v))) τ := by
  refine g_Met.of (by decide) (Nat.le_of_ble_eq_true rfl) ?_
  intro pg e s m below meth c hx hb hr hlk hml hown hts hK hN H locs hG hS ls hl
  have hown : s.vm.findClass RX7 = some m.cls := hown
  have hl : lv_has ls 3 [(0, .ref (L (0, 0, 0))), (1, .int (u)), (2, .int (v))] := hl
  refine lv_aload_n hx hb dX7_size_0 rfl (lv_at hl 0 rfl) ?_
  refine lv_iconst (v := 0) hx hb dX7_size_1 (by decide) ?_
  refine g_puti (C := RX7) (T := TX7) (N := 28) (v := 0) (ty := .int) hx hb hts inX7g tyX7_ok nmX7 hown hK hG hS (0, 0, 0) ⟨rfl, rfl⟩ (m_at_0 cy L 0 0 (σ (0, 0, 0))) rfl 0 (by decide) (m_up_0_0 cy L 0 0 (σ (0, 0, 0)) (0)) fl_X7_83 rfl (by decide +kernel) rfl rfl (Nat.le_of_ble_eq_true rfl) dX7_size_2 (fun H locs hG hS => ?_)
  rw [hτ] at hG
  refine lv_aload_n hx hb dX7_size_5 rfl (lv_at hl 0 rfl) ?_
  refine lv_iload_n hx hb dX7_size_6 rfl (lv_at hl 1 rfl) ?_
  refine g_cont (va_runV (As := [.int (u)]) (rest := []) ⟨hx, hb, hml, hown, hts⟩ (c_X7_isOpen l D cy L τ (u) s0 s1) (cwV 1 hts gV_X7_118 rfl rfl rfl (by decide +kernel) ⟨Nat.le_of_ble_eq_true rfl, Nat.le_of_ble_eq_true rfl⟩) (g_preV hK hN hG (x := (0, 0, 0)) ⟨rfl, rfl⟩ (q := (RX7, TX7, 28)) (m_at_0 cy L 0 0 (τ (0, 0, 0))) rfl) rfl rfl hl.1 rfl (lv_room (Nat.le_of_ble_eq_true rfl)) dX7_size_7 ⟨Nat.zero_le _, Nat.zero_le _⟩) hS (fun H locs hG hS => ?_)
  refine W.eq (g2 := F0 m 10 ls [.int (g_b ((0 ≤ (u).toInt ∧ (u).toInt ≤ ((τ (0, 0, 0) 10).toInt - 1)) ∧ (τ (2, 13, 0) ((u).toInt).toNat).toInt = 0))]) rfl ?_
  refine kz_b_ne (tgt := 16) hx hb dX7_size_10 (by decide) (fun c_10_1 => ?_) (fun c_10_1 => ?_)
  · refine lv_aload_n hx hb dX7_size_16 rfl (lv_at hl 0 rfl) ?_
    refine lv_iload_n hx hb dX7_size_17 rfl (lv_at hl 1 rfl) ?_
    refine lv_iload_n hx hb dX7_size_18 rfl (lv_at hl 2 rfl) ?_
    refine g_cont (va_runV (As := [.int (u), .int (v)]) (rest := []) ⟨hx, hb, hml, hown, hts⟩ (c_X7_isSet l D cy L τ (u) (v) ⟨by omega, by omega⟩) (cwV 2 hts gV_X7_128 rfl rfl rfl (by decide +kernel) ⟨Nat.le_of_ble_eq_true rfl, Nat.le_of_ble_eq_true rfl⟩) (g_preV hK hN hG (x := (0, 0, 0)) ⟨rfl, rfl⟩ (q := (RX7, TX7, 28)) (m_at_0 cy L 0 0 (τ (0, 0, 0))) rfl) rfl rfl hl.1 rfl (lv_room (Nat.le_of_ble_eq_true rfl)) dX7_size_19 ⟨Nat.zero_le _, Nat.zero_le _⟩) hS (fun H locs hG hS => ?_)
    refine W.eq (g2 := F0 m 22 ls [.int (g_b ((0 ≤ (v).toInt ∧ (v).toInt ≤ (if (τ (1, 11, 0) ((u).toInt).toNat &&& 4).toInt = 4 then (4 : Int) else 0)) ∧ 0 ≤ (τ (1, 16, 0) ((5 * (u).toInt) + (v).toInt).toNat).toInt))]) rfl ?_
    refine kz_b_eq (tgt := 38) hx hb dX7_size_22 (by decide) (fun c_22_2 => ?_) (fun c_22_2 => ?_)
    · refine lv_bipush (v := (-104)) hx hb dX7_size_38 (by decide) ?_
      exact s_iret hx hb hr hlk hG hS dX7_size_40 (by unfold m_sizeR; (repeat' split) <;> first | rfl | (exfalso; omega)) rfl
    · refine lv_aload_n hx hb dX7_size_25 rfl (lv_at hl 0 rfl) ?_
      refine g_get (C := RX7) (T := TX7) (N := 28) (v := .ref (L (1, 16, 0))) hx hb hts inX7g hown hK hG (0, 0, 0) ⟨rfl, rfl⟩ (m_at_0 cy L 0 0 (τ (0, 0, 0))) rfl 16 (by decide) fl_X7_47 rfl dX7_size_26 ?_
      refine lv_iconst (v := 5) hx hb dX7_size_29 (by decide) ?_
      refine lv_iload_n hx hb dX7_size_30 rfl (lv_at hl 1 rfl) ?_
      refine lv_imul hx hb dX7_size_31 ?_
      have z_3 : ((5) * (u)).toInt = (5 * (u).toInt) := g_mulZ (by decide) rfl (by omega) (by omega)
      refine lv_iload_n hx hb dX7_size_32 rfl (lv_at hl 2 rfl) ?_
      refine lv_iadd hx hb dX7_size_33 ?_
      have z_4 : (((5) * (u)) + (v)).toInt = ((5 * (u).toInt) + (v).toInt) := g_addZ z_3 rfl (by omega) (by omega)
      refine g_iald (n := 40) hx hb hK hG (1, 16, 0) ⟨by decide, rfl⟩ 0 rfl rfl (g_vp (by have := (show (((5) * (u)) + (v) : Int32).toInt = ((5 * (u).toInt) + (v).toInt) from z_4); omega) (by have := (show (((5) * (u)) + (v) : Int32).toInt = ((5 * (u).toInt) + (v).toInt) from z_4); omega)) dX7_size_34 ?_
      rw [show (((5) * (u)) + (v) : Int32).toNatClampNeg = (((5 * (u).toInt) + (v).toInt)).toNat from congrArg Int.toNat (show (((5) * (u)) + (v) : Int32).toInt = ((5 * (u).toInt) + (v).toInt) from z_4)]
      refine lv_goto (tgt := 40) hx hb dX7_size_35 (by decide) ?_
      exact s_iret hx hb hr hlk hG hS dX7_size_40 (by unfold m_sizeR; (repeat' split) <;> first | rfl | (exfalso; omega)) rfl
  · refine lv_bipush (v := (-101)) hx hb dX7_size_13 (by decide) ?_
    exact s_iret hx hb hr hlk hG hS dX7_size_15 (by unfold m_sizeR; (repeat' split) <;> first | rfl | (exfalso; omega)) rfl
set_option maxHeartbeats 4000000 in
set_option maxRecDepth 100000 in
theorem c_X7_drop (l : Launch) (D : va_G) (cy : Nat → ClassId) (L : g_S → Nat) (σ : g_S → Nat → Int32) (τ : g_S → Nat → Int32) (hτ : g_up σ (0, 0, 0) 0 0 = τ) (u v : Int32) (s0 : 0 ≤ (τ (0, 0, 0) 10).toInt) (s1 : (τ (0, 0, 0) 10).toInt ≤ 8) : m_Met l D cy L yX7_drop (.code yX7_drop cX7_drop 3 (some .int)) 3 σ [.ref (L (0, 0, 0)), .int (u), .int (v)] (some (.int (m_dropR τ u v))) (m_dropM τ u v) := by
  refine g_Met.of (by decide) (Nat.le_of_ble_eq_true rfl) ?_
  intro pg e s m below meth c hx hb hr hlk hml hown hts hK hN H locs hG hS ls hl
  have hown : s.vm.findClass RX7 = some m.cls := hown
  have hl : lv_has ls 3 [(0, .ref (L (0, 0, 0))), (1, .int (u)), (2, .int (v))] := hl
  refine lv_aload_n hx hb dX7_drop_0 rfl (lv_at hl 0 rfl) ?_
  refine lv_iconst (v := 0) hx hb dX7_drop_1 (by decide) ?_
  refine g_puti (C := RX7) (T := TX7) (N := 28) (v := 0) (ty := .int) hx hb hts inX7g tyX7_ok nmX7 hown hK hG hS (0, 0, 0) ⟨rfl, rfl⟩ (m_at_0 cy L 0 0 (σ (0, 0, 0))) rfl 0 (by decide) (m_up_0_0 cy L 0 0 (σ (0, 0, 0)) (0)) fl_X7_83 rfl (by decide +kernel) rfl rfl (Nat.le_of_ble_eq_true rfl) dX7_drop_2 (fun H locs hG hS => ?_)
  rw [hτ] at hG
  refine lv_aload_n hx hb dX7_drop_5 rfl (lv_at hl 0 rfl) ?_
  refine lv_iload_n hx hb dX7_drop_6 rfl (lv_at hl 1 rfl) ?_
  refine g_cont (va_runV (As := [.int (u)]) (rest := []) ⟨hx, hb, hml, hown, hts⟩ (c_X7_isOpen l D cy L τ (u) s0 s1) (cwV 1 hts gV_X7_118 rfl rfl rfl (by decide +kernel) ⟨Nat.le_of_ble_eq_true rfl, Nat.le_of_ble_eq_true rfl⟩) (g_preV hK hN hG (x := (0, 0, 0)) ⟨rfl, rfl⟩ (q := (RX7, TX7, 28)) (m_at_0 cy L 0 0 (τ (0, 0, 0))) rfl) rfl rfl hl.1 rfl (lv_room (Nat.le_of_ble_eq_true rfl)) dX7_drop_7 ⟨Nat.zero_le _, Nat.zero_le _⟩) hS (fun H locs hG hS => ?_)
  refine W.eq (g2 := F0 m 10 ls [.int (g_b ((0 ≤ (u).toInt ∧ (u).toInt ≤ ((τ (0, 0, 0) 10).toInt - 1)) ∧ (τ (2, 13, 0) ((u).toInt).toNat).toInt = 0))]) rfl ?_
  refine kz_b_ne (tgt := 16) hx hb dX7_drop_10 (by decide) (fun c_10_1 => ?_) (fun c_10_1 => ?_)
  · refine lv_aload_n hx hb dX7_drop_16 rfl (lv_at hl 0 rfl) ?_
    refine lv_iload_n hx hb dX7_drop_17 rfl (lv_at hl 1 rfl) ?_
    refine lv_iload_n hx hb dX7_drop_18 rfl (lv_at hl 2 rfl) ?_
    refine g_cont (va_runV (As := [.int (u), .int (v)]) (rest := []) ⟨hx, hb, hml, hown, hts⟩ (c_X7_isSet l D cy L τ (u) (v) ⟨by omega, by omega⟩) (cwV 2 hts gV_X7_128 rfl rfl rfl (by decide +kernel) ⟨Nat.le_of_ble_eq_true rfl, Nat.le_of_ble_eq_true rfl⟩) (g_preV hK hN hG (x := (0, 0, 0)) ⟨rfl, rfl⟩ (q := (RX7, TX7, 28)) (m_at_0 cy L 0 0 (τ (0, 0, 0))) rfl) rfl rfl hl.1 rfl (lv_room (Nat.le_of_ble_eq_true rfl)) dX7_drop_19 ⟨Nat.zero_le _, Nat.zero_le _⟩) hS (fun H locs hG hS => ?_)
    refine W.eq (g2 := F0 m 22 ls [.int (g_b ((0 ≤ (v).toInt ∧ (v).toInt ≤ (if (τ (1, 11, 0) ((u).toInt).toNat &&& 4).toInt = 4 then (4 : Int) else 0)) ∧ 0 ≤ (τ (1, 16, 0) ((5 * (u).toInt) + (v).toInt).toNat).toInt))]) rfl ?_
    refine kz_b_ne (tgt := 33) hx hb dX7_drop_22 (by decide) (fun c_22_2 => ?_) (fun c_22_2 => ?_)
    · refine lv_aload_n hx hb dX7_drop_33 rfl (lv_at hl 0 rfl) ?_
      refine g_get (C := RX7) (T := TX7) (N := 28) (v := .ref (L (1, 16, 0))) hx hb hts inX7g hown hK hG (0, 0, 0) ⟨rfl, rfl⟩ (m_at_0 cy L 0 0 (τ (0, 0, 0))) rfl 16 (by decide) fl_X7_47 rfl dX7_drop_34 ?_
      refine lv_iconst (v := 5) hx hb dX7_drop_37 (by decide) ?_
      refine lv_iload_n hx hb dX7_drop_38 rfl (lv_at hl 1 rfl) ?_
      refine lv_imul hx hb dX7_drop_39 ?_
      have z_3 : ((5) * (u)).toInt = (5 * (u).toInt) := g_mulZ (by decide) rfl (by omega) (by omega)
      refine lv_iload_n hx hb dX7_drop_40 rfl (lv_at hl 2 rfl) ?_
      refine lv_iadd hx hb dX7_drop_41 ?_
      have z_4 : (((5) * (u)) + (v)).toInt = ((5 * (u).toInt) + (v).toInt) := g_addZ z_3 rfl (by omega) (by omega)
      refine lv_iconst (v := (-1)) hx hb dX7_drop_42 (by decide) ?_
      refine g_iast (n := 40) hx hb hK hG hS (1, 16, 0) ⟨by decide, rfl⟩ 0 (fun _ => rfl) rfl (g_vp (by have := (show (((5) * (u)) + (v) : Int32).toInt = ((5 * (u).toInt) + (v).toInt) from z_4); omega) (by have := (show (((5) * (u)) + (v) : Int32).toInt = ((5 * (u).toInt) + (v).toInt) from z_4); omega)) dX7_drop_43 (fun H locs hG hS => ?_)
      rw [show (((5) * (u)) + (v) : Int32).toNatClampNeg = (((5 * (u).toInt) + (v).toInt)).toNat from congrArg Int.toNat (show (((5) * (u)) + (v) : Int32).toInt = ((5 * (u).toInt) + (v).toInt) from z_4)] at hG
      refine lv_iconst (v := 1) hx hb dX7_drop_44 (by decide) ?_
      exact s_iret hx hb hr hlk hG hS dX7_drop_45 (by unfold m_dropR; (repeat' split) <;> first | rfl | (exfalso; omega)) (by unfold m_dropM; (repeat' split) <;> first | rfl | (exfalso; omega))
    · refine lv_aload_n hx hb dX7_drop_25 rfl (lv_at hl 0 rfl) ?_
      refine lv_iload_n hx hb dX7_drop_26 rfl (lv_at hl 1 rfl) ?_
      refine lv_bipush (v := 104) hx hb dX7_drop_27 (by decide) ?_
      refine g_cont (va_runV (As := [.int (u), .int 104]) (rest := []) ⟨hx, hb, hml, hown, hts⟩ (c_X7_tell l D cy L τ (u) (104) ⟨by omega, by omega⟩) (cwV 2 hts gV_X7_121 rfl rfl rfl (by decide +kernel) ⟨Nat.le_of_ble_eq_true rfl, Nat.le_of_ble_eq_true rfl⟩) (g_preV hK hN hG (x := (0, 0, 0)) ⟨rfl, rfl⟩ (q := (RX7, TX7, 28)) (m_at_0 cy L 0 0 (τ (0, 0, 0))) rfl) rfl rfl hl.1 rfl (lv_room (Nat.le_of_ble_eq_true rfl)) dX7_drop_29 ⟨Nat.zero_le _, Nat.zero_le _⟩) hS (fun H locs hG hS => ?_)
      refine W.eq (g2 := F0 m 32 ls [.int (-(104))]) rfl ?_
      exact s_iret hx hb hr hlk hG hS dX7_drop_32 (by unfold m_dropR; (repeat' split) <;> first | rfl | (exfalso; omega)) (by unfold m_dropM; (repeat' split) <;> first | rfl | (exfalso; omega))
  · refine lv_bipush (v := (-101)) hx hb dX7_drop_13 (by decide) ?_
    exact s_iret hx hb hr hlk hG hS dX7_drop_15 (by unfold m_dropR; (repeat' split) <;> first | rfl | (exfalso; omega)) (by unfold m_dropM; (repeat' split) <;> first | rfl | (exfalso; omega))
set_option maxHeartbeats 4000000 in
set_option maxRecDepth 100000 in
theorem c_X7_close (l : Launch) (D : va_G) (cy : Nat → ClassId) (L : g_S → Nat) (σ : g_S → Nat → Int32) (τ : g_S → Nat → Int32) (hτ : g_up σ (0, 0, 0) 0 0 = τ) (u : Int32) (s0 : 0 ≤ (τ (0, 0, 0) 10).toInt) (s1 : (τ (0, 0, 0) 10).toInt ≤ 8) : m_Met l D cy L yX7_close (.code yX7_close cX7_close 3 (some .int)) 2 σ [.ref (L (0, 0, 0)), .int (u)] (some (.int (m_closeR τ u))) (m_closeM τ u) := by
  refine g_Met.of (by decide) (Nat.le_of_ble_eq_true rfl) ?_
  intro pg e s m below meth c hx hb hr hlk hml hown hts hK hN H locs hG hS ls hl
  have hown : s.vm.findClass RX7 = some m.cls := hown
  have hl : lv_has ls 3 [(0, .ref (L (0, 0, 0))), (1, .int (u))] := hl
  refine lv_aload_n hx hb dX7_close_0 rfl (lv_at hl 0 rfl) ?_
  refine lv_iconst (v := 0) hx hb dX7_close_1 (by decide) ?_
  refine g_puti (C := RX7) (T := TX7) (N := 28) (v := 0) (ty := .int) hx hb hts inX7g tyX7_ok nmX7 hown hK hG hS (0, 0, 0) ⟨rfl, rfl⟩ (m_at_0 cy L 0 0 (σ (0, 0, 0))) rfl 0 (by decide) (m_up_0_0 cy L 0 0 (σ (0, 0, 0)) (0)) fl_X7_83 rfl (by decide +kernel) rfl rfl (Nat.le_of_ble_eq_true rfl) dX7_close_2 (fun H locs hG hS => ?_)
  rw [hτ] at hG
  refine lv_aload_n hx hb dX7_close_5 rfl (lv_at hl 0 rfl) ?_
  refine lv_iload_n hx hb dX7_close_6 rfl (lv_at hl 1 rfl) ?_
  refine g_cont (va_runV (As := [.int (u)]) (rest := []) ⟨hx, hb, hml, hown, hts⟩ (c_X7_isOpen l D cy L τ (u) s0 s1) (cwV 1 hts gV_X7_118 rfl rfl rfl (by decide +kernel) ⟨Nat.le_of_ble_eq_true rfl, Nat.le_of_ble_eq_true rfl⟩) (g_preV hK hN hG (x := (0, 0, 0)) ⟨rfl, rfl⟩ (q := (RX7, TX7, 28)) (m_at_0 cy L 0 0 (τ (0, 0, 0))) rfl) rfl rfl hl.1 rfl (lv_room (Nat.le_of_ble_eq_true rfl)) dX7_close_7 ⟨Nat.zero_le _, Nat.zero_le _⟩) hS (fun H locs hG hS => ?_)
  refine W.eq (g2 := F0 m 10 ls [.int (g_b ((0 ≤ (u).toInt ∧ (u).toInt ≤ ((τ (0, 0, 0) 10).toInt - 1)) ∧ (τ (2, 13, 0) ((u).toInt).toNat).toInt = 0))]) rfl ?_
  refine kz_b_ne (tgt := 16) hx hb dX7_close_10 (by decide) (fun c_10_1 => ?_) (fun c_10_1 => ?_)
  · refine lv_aload_n hx hb dX7_close_16 rfl (lv_at hl 0 rfl) ?_
    refine lv_iload_n hx hb dX7_close_17 rfl (lv_at hl 1 rfl) ?_
    refine g_cont (va_runV (As := [.int (u)]) (rest := []) ⟨hx, hb, hml, hown, hts⟩ (c_X7_sets l D cy L τ (u) ⟨by omega, by omega⟩) (cwV 1 hts gV_X7_138 rfl rfl rfl (by decide +kernel) ⟨Nat.le_of_ble_eq_true rfl, Nat.le_of_ble_eq_true rfl⟩) (g_preV hK hN hG (x := (0, 0, 0)) ⟨rfl, rfl⟩ (q := (RX7, TX7, 28)) (m_at_0 cy L 0 0 (τ (0, 0, 0))) rfl) rfl rfl hl.1 rfl (lv_room (Nat.le_of_ble_eq_true rfl)) dX7_close_18 ⟨Nat.zero_le _, Nat.zero_le _⟩) hS (fun H locs hG hS => ?_)
    refine W.eq (g2 := F0 m 21 ls [.int (m_setsR τ (u))]) rfl ?_
    refine lv_istore_n (lv' := [(2, .int (m_setsR τ (u))), (0, .ref (L (0, 0, 0))), (1, .int (u))]) hx hb dX7_close_21 rfl hl (by decide) rfl (fun ls hl => ?_)
    refine lv_aload_n hx hb dX7_close_22 rfl (lv_at hl 1 rfl) ?_
    refine lv_iload_n hx hb dX7_close_23 rfl (lv_at hl 2 rfl) ?_
    refine g_cont (va_runV (As := [.int (u)]) (rest := []) ⟨hx, hb, hml, hown, hts⟩ (c_X7_end l D cy L τ (u) ⟨by omega, by omega⟩) (cwV 1 hts gV_X7_110 rfl rfl rfl (by decide +kernel) ⟨Nat.le_of_ble_eq_true rfl, Nat.le_of_ble_eq_true rfl⟩) (g_preV hK hN hG (x := (0, 0, 0)) ⟨rfl, rfl⟩ (q := (RX7, TX7, 28)) (m_at_0 cy L 0 0 (τ (0, 0, 0))) rfl) rfl rfl hl.1 rfl (lv_room (Nat.le_of_ble_eq_true rfl)) dX7_close_24 ⟨Nat.zero_le _, Nat.zero_le _⟩) hS (fun H locs hG hS => ?_)
    refine W.eq (g2 := F0 m 27 ls []) rfl ?_
    refine lv_iload_n hx hb dX7_close_27 rfl (lv_at hl 0 rfl) ?_
    exact s_iret hx hb hr hlk hG hS dX7_close_28 (by unfold m_closeR; (repeat' split) <;> first | rfl | (exfalso; omega)) (by unfold m_closeM; (repeat' split) <;> first | rfl | (exfalso; omega))
  · refine lv_bipush (v := (-101)) hx hb dX7_close_13 (by decide) ?_
    exact s_iret hx hb hr hlk hG hS dX7_close_15 (by unfold m_closeR; (repeat' split) <;> first | rfl | (exfalso; omega)) (by unfold m_closeM; (repeat' split) <;> first | rfl | (exfalso; omega))
set_option maxHeartbeats 4000000 in
set_option maxRecDepth 100000 in
theorem c_X7_state (l : Launch) (D : va_G) (cy : Nat → ClassId) (L : g_S → Nat) (σ : g_S → Nat → Int32) (τ : g_S → Nat → Int32) (hτ : g_up σ (0, 0, 0) 0 0 = τ) (u w : Int32) (s0 : 0 ≤ (τ (0, 0, 0) 10).toInt) (s1 : (τ (0, 0, 0) 10).toInt ≤ 8) : m_Met l D cy L yX7_state (.code yX7_state cX7_state 3 (some .int)) 2 σ [.ref (L (0, 0, 0)), .int (u), .int (w)] (some (.int (m_stateR τ u w))) τ := by
  refine g_Met.of (by decide) (Nat.le_of_ble_eq_true rfl) ?_
  intro pg e s m below meth c hx hb hr hlk hml hown hts hK hN H locs hG hS ls hl
  have hown : s.vm.findClass RX7 = some m.cls := hown
  have hl : lv_has ls 3 [(0, .ref (L (0, 0, 0))), (1, .int (u)), (2, .int (w))] := hl
  refine lv_aload_n hx hb dX7_state_0 rfl (lv_at hl 0 rfl) ?_
  refine lv_iconst (v := 0) hx hb dX7_state_1 (by decide) ?_
  refine g_puti (C := RX7) (T := TX7) (N := 28) (v := 0) (ty := .int) hx hb hts inX7g tyX7_ok nmX7 hown hK hG hS (0, 0, 0) ⟨rfl, rfl⟩ (m_at_0 cy L 0 0 (σ (0, 0, 0))) rfl 0 (by decide) (m_up_0_0 cy L 0 0 (σ (0, 0, 0)) (0)) fl_X7_83 rfl (by decide +kernel) rfl rfl (Nat.le_of_ble_eq_true rfl) dX7_state_2 (fun H locs hG hS => ?_)
  rw [hτ] at hG
  refine lv_iload_n hx hb dX7_state_5 rfl (lv_at hl 1 rfl) ?_
  refine lv_iconst (v := 0) hx hb dX7_state_6 (by decide) ?_
  refine lv_bipush (v := 7) hx hb dX7_state_7 (by decide) ?_
  refine g_cont (va_runS (As := [.int (u), .int 0, .int 7]) (rest := []) ⟨hx, hb, hml, hown, hts⟩ (c_X7_in l D cy L τ (u) (0) (7) (u).toInt 0 7 rfl (by decide) (by decide)) (cwS 3 hts gS_X7_87 rfl rfl rfl (by decide +kernel) ⟨Nat.le_of_ble_eq_true rfl, Nat.le_of_ble_eq_true rfl⟩) (g_preS hK hN hG) rfl rfl hl.1 rfl (lv_room (Nat.le_of_ble_eq_true rfl)) dX7_state_9 ⟨Nat.zero_le _, Nat.zero_le _⟩) hS (fun H locs hG hS => ?_)
  refine W.eq (g2 := F0 m 12 ls [.int (g_b (0 ≤ (u).toInt ∧ (u).toInt ≤ 7))]) rfl ?_
  refine kz_b_eq (tgt := 24) hx hb dX7_state_12 (by decide) (fun c_12_1 => ?_) (fun c_12_1 => ?_)
  · refine lv_iconst (v := (-1)) hx hb dX7_state_24 (by decide) ?_
    exact s_iret hx hb hr hlk hG hS dX7_state_25 (by unfold m_stateR; (repeat' split) <;> first | rfl | (exfalso; omega)) rfl
  · refine lv_iload_n hx hb dX7_state_15 rfl (lv_at hl 2 rfl) ?_
    refine lv_iconst (v := 0) hx hb dX7_state_16 (by decide) ?_
    refine lv_iconst (v := 3) hx hb dX7_state_17 (by decide) ?_
    refine g_cont (va_runS (As := [.int (w), .int 0, .int 3]) (rest := []) ⟨hx, hb, hml, hown, hts⟩ (c_X7_in l D cy L τ (w) (0) (3) (w).toInt 0 3 rfl (by decide) (by decide)) (cwS 3 hts gS_X7_87 rfl rfl rfl (by decide +kernel) ⟨Nat.le_of_ble_eq_true rfl, Nat.le_of_ble_eq_true rfl⟩) (g_preS hK hN hG) rfl rfl hl.1 rfl (lv_room (Nat.le_of_ble_eq_true rfl)) dX7_state_18 ⟨Nat.zero_le _, Nat.zero_le _⟩) hS (fun H locs hG hS => ?_)
    refine W.eq (g2 := F0 m 21 ls [.int (g_b (0 ≤ (w).toInt ∧ (w).toInt ≤ 3))]) rfl ?_
    refine kz_b_ne (tgt := 26) hx hb dX7_state_21 (by decide) (fun c_21_2 => ?_) (fun c_21_2 => ?_)
    · refine lv_iload_n hx hb dX7_state_26 rfl (lv_at hl 1 rfl) ?_
      refine lv_aload_n hx hb dX7_state_27 rfl (lv_at hl 0 rfl) ?_
      refine g_get (C := RX7) (T := TX7) (N := 28) (v := .int (τ (0, 0, 0) 10)) hx hb hts inX7g hown hK hG (0, 0, 0) ⟨rfl, rfl⟩ (m_at_0 cy L 0 0 (τ (0, 0, 0))) rfl 10 (by decide) fl_X7_107 rfl dX7_state_28 ?_
      refine kz_icmp_lt (X := (u).toInt) (Y := (τ (0, 0, 0) 10).toInt) hx hb rfl rfl dX7_state_31 (tgt := 36) (by decide) (fun c_31_3 => ?_) (fun c_31_3 => ?_)
      · refine lv_iload_n hx hb dX7_state_36 rfl (lv_at hl 2 rfl) ?_
        refine kz_if_ne (X := (w).toInt) hx hb rfl dX7_state_37 (tgt := 57) (by decide) (fun c_37_4 => ?_) (fun c_37_4 => ?_)
        · refine lv_iload_n hx hb dX7_state_57 rfl (lv_at hl 2 rfl) ?_
          refine lv_iconst (v := 1) hx hb dX7_state_58 (by decide) ?_
          refine kz_icmp_ne (X := (w).toInt) (Y := 1) hx hb rfl (by decide) dX7_state_59 (tgt := 71) (by decide) (fun c_59_5 => ?_) (fun c_59_5 => ?_)
          · refine lv_iload_n hx hb dX7_state_71 rfl (lv_at hl 2 rfl) ?_
            refine lv_iconst (v := 2) hx hb dX7_state_72 (by decide) ?_
            refine kz_icmp_ne (X := (w).toInt) (Y := 2) hx hb rfl (by decide) dX7_state_73 (tgt := 85) (by decide) (fun c_73_6 => ?_) (fun c_73_6 => ?_)
            · refine lv_aload_n hx hb dX7_state_85 rfl (lv_at hl 0 rfl) ?_
              refine lv_iload_n hx hb dX7_state_86 rfl (lv_at hl 1 rfl) ?_
              refine g_cont (va_runV (As := [.int (u)]) (rest := []) ⟨hx, hb, hml, hown, hts⟩ (c_X7_sets l D cy L τ (u) ⟨by omega, by omega⟩) (cwV 1 hts gV_X7_138 rfl rfl rfl (by decide +kernel) ⟨Nat.le_of_ble_eq_true rfl, Nat.le_of_ble_eq_true rfl⟩) (g_preV hK hN hG (x := (0, 0, 0)) ⟨rfl, rfl⟩ (q := (RX7, TX7, 28)) (m_at_0 cy L 0 0 (τ (0, 0, 0))) rfl) rfl rfl hl.1 rfl (lv_room (Nat.le_of_ble_eq_true rfl)) dX7_state_87 ⟨Nat.zero_le _, Nat.zero_le _⟩) hS (fun H locs hG hS => ?_)
              refine W.eq (g2 := F0 m 90 ls [.int (m_setsR τ (u))]) rfl ?_
              exact s_iret hx hb hr hlk hG hS dX7_state_90 (by unfold m_stateR; (repeat' split) <;> first | rfl | (exfalso; omega)) rfl
            · refine lv_aload_n hx hb dX7_state_76 rfl (lv_at hl 0 rfl) ?_
              refine g_get (C := RX7) (T := TX7) (N := 28) (v := .ref (L (1, 15, 0))) hx hb hts inX7g hown hK hG (0, 0, 0) ⟨rfl, rfl⟩ (m_at_0 cy L 0 0 (τ (0, 0, 0))) rfl 15 (by decide) fl_X7_44 rfl dX7_state_77 ?_
              refine lv_iload_n hx hb dX7_state_80 rfl (lv_at hl 1 rfl) ?_
              refine g_iald (n := 8) hx hb hK hG (1, 15, 0) ⟨by decide, rfl⟩ 0 rfl rfl (g_vp (by omega) (by omega)) dX7_state_81 ?_
              rw [show (u : Int32).toNatClampNeg = ((u).toInt).toNat from congrArg Int.toNat (show (u : Int32).toInt = (u).toInt from rfl)]
              refine lv_goto (tgt := 90) hx hb dX7_state_82 (by decide) ?_
              exact s_iret hx hb hr hlk hG hS dX7_state_90 (by unfold m_stateR; (repeat' split) <;> first | rfl | (exfalso; omega)) rfl
          · refine lv_aload_n hx hb dX7_state_62 rfl (lv_at hl 0 rfl) ?_
            refine g_get (C := RX7) (T := TX7) (N := 28) (v := .ref (L (1, 14, 0))) hx hb hts inX7g hown hK hG (0, 0, 0) ⟨rfl, rfl⟩ (m_at_0 cy L 0 0 (τ (0, 0, 0))) rfl 14 (by decide) fl_X7_41 rfl dX7_state_63 ?_
            refine lv_iload_n hx hb dX7_state_66 rfl (lv_at hl 1 rfl) ?_
            refine g_iald (n := 8) hx hb hK hG (1, 14, 0) ⟨by decide, rfl⟩ 0 rfl rfl (g_vp (by omega) (by omega)) dX7_state_67 ?_
            rw [show (u : Int32).toNatClampNeg = ((u).toInt).toNat from congrArg Int.toNat (show (u : Int32).toInt = (u).toInt from rfl)]
            refine lv_goto (tgt := 90) hx hb dX7_state_68 (by decide) ?_
            exact s_iret hx hb hr hlk hG hS dX7_state_90 (by unfold m_stateR; (repeat' split) <;> first | rfl | (exfalso; omega)) rfl
        · refine lv_aload_n hx hb dX7_state_40 rfl (lv_at hl 0 rfl) ?_
          refine g_get (C := RX7) (T := TX7) (N := 28) (v := .ref (L (2, 13, 0))) hx hb hts inX7g hown hK hG (0, 0, 0) ⟨rfl, rfl⟩ (m_at_0 cy L 0 0 (τ (0, 0, 0))) rfl 13 (by decide) fl_X7_38 rfl dX7_state_41 ?_
          refine lv_iload_n hx hb dX7_state_44 rfl (lv_at hl 1 rfl) ?_
          refine g_zald (n := 8) hx hb hK hG (2, 13, 0) ⟨by decide, rfl⟩ 4 rfl rfl (g_vp (by omega) (by omega)) dX7_state_45 ?_
          rw [show (u : Int32).toNatClampNeg = ((u).toInt).toNat from congrArg Int.toNat (show (u : Int32).toInt = (u).toInt from rfl)]
          refine kz_if_eq (X := (τ (2, 13, 0) (((u).toInt).toNat)).toInt) hx hb rfl dX7_state_46 (tgt := 53) (by decide) (fun c_46_7 => ?_) (fun c_46_7 => ?_)
          · refine lv_iconst (v := 1) hx hb dX7_state_53 (by decide) ?_
            refine lv_goto (tgt := 90) hx hb dX7_state_54 (by decide) ?_
            exact s_iret hx hb hr hlk hG hS dX7_state_90 (by unfold m_stateR; (repeat' split) <;> first | rfl | (exfalso; omega)) rfl
          · refine lv_iconst (v := 2) hx hb dX7_state_49 (by decide) ?_
            refine lv_goto (tgt := 90) hx hb dX7_state_50 (by decide) ?_
            exact s_iret hx hb hr hlk hG hS dX7_state_90 (by unfold m_stateR; (repeat' split) <;> first | rfl | (exfalso; omega)) rfl
      · refine lv_iconst (v := 0) hx hb dX7_state_34 (by decide) ?_
        exact s_iret hx hb hr hlk hG hS dX7_state_35 (by unfold m_stateR; (repeat' split) <;> first | rfl | (exfalso; omega)) rfl
    · refine lv_iconst (v := (-1)) hx hb dX7_state_24 (by decide) ?_
      exact s_iret hx hb hr hlk hG hS dX7_state_25 (by unfold m_stateR; (repeat' split) <;> first | rfl | (exfalso; omega)) rfl
