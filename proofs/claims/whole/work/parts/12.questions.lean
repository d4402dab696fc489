/-! the class: its questions -/
theorem lg_cmp_0 {x y : Int64} : (lg_cmp x y).toInt = 0 ↔ x = y := by
  unfold lg_cmp
  by_cases h1 : x > y
  · rw [if_pos h1]
    constructor
    · intro h; exact absurd h (by decide)
    · intro h; subst h; exact absurd h1 (by simp)
  · rw [if_neg h1]
    by_cases h2 : x = y
    · rw [if_pos h2]; exact ⟨fun _ => h2, fun _ => by decide⟩
    · rw [if_neg h2]
      exact ⟨fun h => absurd h (by decide), fun h => absurd h h2⟩
abbrev x_bit (yes : Int64) (q : Int32) : Prop := ¬ (yes >>> (q.toInt64 &&& 63)) &&& 1 = 0
def x_qR (σ : g_S → Nat → Int32) : Int32 := if 40 ≤ (σ (2, 0, 0) 4).toInt then -1 else (σ (2, 0, 0) 4) + 1 - 1
def x_qM (σ : g_S → Nat → Int32) (k a b d : Int32) : g_S → Nat → Int32 := if 40 ≤ (σ (2, 0, 0) 4).toInt then σ else g_up (g_up (g_up (g_up (g_up σ (5, 0, 0) (σ (2, 0, 0) 4).toNatClampNeg k) (6, 0, 0) (σ (2, 0, 0) 4).toNatClampNeg a) (7, 0, 0) (σ (2, 0, 0) 4).toNatClampNeg b) (8, 0, 0) (σ (2, 0, 0) 4).toNatClampNeg d) (2, 0, 0) 4 ((σ (2, 0, 0) 4) + 1)
abbrev x_rngP (a b d : Int32) : Prop := ((0 ≤ a.toInt ∧ a.toInt < 5) ∧ (0 ≤ b.toInt ∧ b.toInt ≤ 999)) ∧ ((0 ≤ d.toInt ∧ d.toInt ≤ 999) ∧ b.toInt ≤ d.toInt)
def x_rngR (σ : g_S → Nat → Int32) (a b d : Int32) : Int32 := if ((0 ≤ a.toInt ∧ a.toInt < 5) ∧ (0 ≤ b.toInt ∧ b.toInt ≤ 999)) ∧ ((0 ≤ d.toInt ∧ d.toInt ≤ 999) ∧ b.toInt ≤ d.toInt) then x_qR σ else -1
def x_rngM (σ : g_S → Nat → Int32) (a b d : Int32) : g_S → Nat → Int32 := if ((0 ≤ a.toInt ∧ a.toInt < 5) ∧ (0 ≤ b.toInt ∧ b.toInt ≤ 999)) ∧ ((0 ≤ d.toInt ∧ d.toInt ≤ 999) ∧ b.toInt ≤ d.toInt) then x_qM σ 1 a b d else σ
def x_pairR (σ : g_S → Nat → Int32) (k a b : Int32) : Int32 := if (2 ≤ k.toInt ∧ k.toInt ≤ 4) ∧ (0 ≤ a.toInt ∧ a.toInt < (σ (2, 0, 0) 4).toInt) ∧ (0 ≤ b.toInt ∧ b.toInt < (σ (2, 0, 0) 4).toInt) then x_qR σ else -1
def x_pairM (σ : g_S → Nat → Int32) (k a b : Int32) : g_S → Nat → Int32 := if (2 ≤ k.toInt ∧ k.toInt ≤ 4) ∧ (0 ≤ a.toInt ∧ a.toInt < (σ (2, 0, 0) 4).toInt) ∧ (0 ≤ b.toInt ∧ b.toInt < (σ (2, 0, 0) 4).toInt) then x_qM σ k a b 0 else σ
def x_holdsI (σ : g_S → Nat → Int32) (q r : Int32) (yes : Int64) : Int32 :=
  if (σ (5, 0, 0) q.toNatClampNeg).toInt = 2 then (if x_bit yes (σ (6, 0, 0) q.toNatClampNeg) ∧ x_bit yes (σ (7, 0, 0) q.toNatClampNeg) then 1 else 0)
  else if (σ (5, 0, 0) q.toNatClampNeg).toInt = 3 then (if x_bit yes (σ (6, 0, 0) q.toNatClampNeg) ∨ x_bit yes (σ (7, 0, 0) q.toNatClampNeg) then 1 else 0)
  else if (σ (5, 0, 0) q.toNatClampNeg).toInt = 4 then (if x_bit yes (σ (6, 0, 0) q.toNatClampNeg) ∧ ¬ x_bit yes (σ (7, 0, 0) q.toNatClampNeg) then 1 else 0)
  else (if (σ (7, 0, 0) q.toNatClampNeg).toInt ≤ (x_termOf σ r (σ (6, 0, 0) q.toNatClampNeg)).toInt ∧ (x_termOf σ r (σ (6, 0, 0) q.toNatClampNeg)).toInt ≤ (σ (8, 0, 0) q.toNatClampNeg).toInt then 1 else 0)
def x_yesGo (σ : g_S → Nat → Int32) (rc : Int32) : Nat → Nat → Int64 → Int64
  | 0, _, yes => yes
  | n + 1, k, yes => x_yesGo σ rc n (k + 1) (if (x_holdsI σ (nI k) rc yes).toInt = 0 then yes else yes ||| (1 <<< ((nI k).toInt64 &&& 63)))
theorem x_yesGo_s (σ : g_S → Nat → Int32) (rc : Int32) (n k : Nat) (yes : Int64) : x_yesGo σ rc (n + 1) k yes = x_yesGo σ rc n (k + 1) (if (x_holdsI σ (nI k) rc yes).toInt = 0 then yes else yes ||| (1 <<< ((nI k).toInt64 &&& 63))) := rfl
abbrev x_findsP (σ : g_S → Nat → Int32) (q rc : Int32) : Prop := (0 ≤ q.toInt ∧ q.toInt < (σ (2, 0, 0) 4).toInt) ∧ x_bit (x_yesGo σ rc (q.toInt.toNat + 1) 0 0) q
set_option maxHeartbeats 4000000 in
set_option maxRecDepth 100000 in
theorem c_X1_has (l : Launch) (D : va_G) (cy : Nat → ClassId) (L : g_S → Nat) (ns : Nat) (kk : Nat → Nat) (σ : g_S → Nat → Int32) (p : Int32) : x_Met l D cy L ns kk yX1_has (.code yX1_has cX1_has 2 (some .boolean)) 0 σ [.ref (L (2, 0, 0)), .int (p)] (some (.int (g_b (0 ≤ (p).toInt ∧ (p).toInt < (σ (2, 0, 0) 4).toInt)))) σ := by
  refine g_Met.of (by decide) (Nat.le_of_ble_eq_true rfl) ?_
  intro pg e s m below meth c hx hb hr hlk hml hown hts hK hN H locs hG hS ls hl
  have hown : s.vm.findClass RX1 = some m.cls := hown
  have hl : lv_has ls 2 [(0, .ref (L (2, 0, 0))), (1, .int (p))] := hl
  refine lv_iload_n hx hb dX1_has_0 rfl (lv_at hl 1 rfl) ?_
  refine kz_if_lt (X := (p).toInt) hx hb rfl dX1_has_1 (tgt := 16) (by decide) (fun c_1_1 => ?_) (fun c_1_1 => ?_)
  · refine lv_iconst (v := 0) hx hb dX1_has_16 (by decide) ?_
    exact s_zret hx hb hr hlk hG hS dX1_has_17 rfl (by unfold g_b; (repeat' split) <;> first | rfl | (exfalso; omega)) rfl
  · refine lv_iload_n hx hb dX1_has_4 rfl (lv_at hl 1 rfl) ?_
    refine lv_aload_n hx hb dX1_has_5 rfl (lv_at hl 0 rfl) ?_
    refine g_get (C := RX1) (T := TX1) (N := 5) (v := .int (σ (2, 0, 0) 4)) hx hb hts inX1g hown hK hG (2, 0, 0) ⟨rfl, rfl⟩ (x_at_2 cy L ns kk (0) (0) (σ (2, 0, 0))) rfl 4 (by decide) fl_X1_24 rfl dX1_has_6 ?_
    refine kz_icmp_ge (X := (p).toInt) (Y := (σ (2, 0, 0) 4).toInt) hx hb rfl rfl dX1_has_9 (tgt := 16) (by decide) (fun c_9_2 => ?_) (fun c_9_2 => ?_)
    · refine lv_iconst (v := 0) hx hb dX1_has_16 (by decide) ?_
      exact s_zret hx hb hr hlk hG hS dX1_has_17 rfl (by unfold g_b; (repeat' split) <;> first | rfl | (exfalso; omega)) rfl
    · refine lv_iconst (v := 1) hx hb dX1_has_12 (by decide) ?_
      refine lv_goto (tgt := 17) hx hb dX1_has_13 (by decide) ?_
      exact s_zret hx hb hr hlk hG hS dX1_has_17 rfl (by unfold g_b; (repeat' split) <;> first | rfl | (exfalso; omega)) rfl
set_option maxHeartbeats 4000000 in
set_option maxRecDepth 100000 in
theorem c_X1_add (l : Launch) (D : va_G) (cy : Nat → ClassId) (L : g_S → Nat) (ns : Nat) (kk : Nat → Nat) (σ : g_S → Nat → Int32) (k a b d : Int32) (q0 : 0 ≤ (σ (2, 0, 0) 4).toInt) : x_Met l D cy L ns kk yX1_add (.code yX1_add cX1_add 5 (some .int)) 0 σ [.ref (L (2, 0, 0)), .int (k), .int (a), .int (b), .int (d)] (some (.int (x_qR σ))) (x_qM σ k a b d) := by
  refine g_Met.of (by decide) (Nat.le_of_ble_eq_true rfl) ?_
  intro pg e s m below meth c hx hb hr hlk hml hown hts hK hN H locs hG hS ls hl
  have hown : s.vm.findClass RX1 = some m.cls := hown
  have hl : lv_has ls 5 [(0, .ref (L (2, 0, 0))), (1, .int (k)), (2, .int (a)), (3, .int (b)), (4, .int (d))] := hl
  refine lv_aload_n hx hb dX1_add_0 rfl (lv_at hl 0 rfl) ?_
  refine g_get (C := RX1) (T := TX1) (N := 5) (v := .int (σ (2, 0, 0) 4)) hx hb hts inX1g hown hK hG (2, 0, 0) ⟨rfl, rfl⟩ (x_at_2 cy L ns kk (0) (0) (σ (2, 0, 0))) rfl 4 (by decide) fl_X1_24 rfl dX1_add_1 ?_
  refine lv_bipush (v := 40) hx hb dX1_add_4 (by decide) ?_
  refine kz_icmp_lt (X := (σ (2, 0, 0) 4).toInt) (Y := 40) hx hb rfl (by decide) dX1_add_6 (tgt := 11) (by decide) (fun c_6_1 => ?_) (fun c_6_1 => ?_)
  · refine lv_aload_n hx hb dX1_add_11 rfl (lv_at hl 0 rfl) ?_
    refine g_get (C := RX1) (T := TX1) (N := 5) (v := .ref (L (5, 0, 0))) hx hb hts inX1g hown hK hG (2, 0, 0) ⟨rfl, rfl⟩ (x_at_2 cy L ns kk (0) (0) (σ (2, 0, 0))) rfl 0 (by decide) fl_X1_9 rfl dX1_add_12 ?_
    refine lv_aload_n hx hb dX1_add_15 rfl (lv_at hl 0 rfl) ?_
    refine g_get (C := RX1) (T := TX1) (N := 5) (v := .int (σ (2, 0, 0) 4)) hx hb hts inX1g hown hK hG (2, 0, 0) ⟨rfl, rfl⟩ (x_at_2 cy L ns kk (0) (0) (σ (2, 0, 0))) rfl 4 (by decide) fl_X1_24 rfl dX1_add_16 ?_
    refine lv_iload_n hx hb dX1_add_19 rfl (lv_at hl 1 rfl) ?_
    refine g_iast (n := 40) hx hb hK hG hS (5, 0, 0) ⟨rfl, rfl⟩ 0 (fun _ => rfl) rfl (g_vp (by omega) (by omega)) dX1_add_20 (fun H locs hG hS => ?_)
    refine lv_aload_n hx hb dX1_add_21 rfl (lv_at hl 0 rfl) ?_
    refine g_get (C := RX1) (T := TX1) (N := 5) (v := .ref (L (6, 0, 0))) hx hb hts inX1g hown hK hG (2, 0, 0) ⟨rfl, rfl⟩ (x_at_2 cy L ns kk (0) (0) ((g_up σ (5, 0, 0) ((σ (2, 0, 0) 4).toNatClampNeg) (k)) (2, 0, 0))) rfl 1 (by decide) fl_X1_15 rfl dX1_add_22 ?_
    refine lv_aload_n hx hb dX1_add_25 rfl (lv_at hl 0 rfl) ?_
    refine g_get (C := RX1) (T := TX1) (N := 5) (v := .int (σ (2, 0, 0) 4)) hx hb hts inX1g hown hK hG (2, 0, 0) ⟨rfl, rfl⟩ (x_at_2 cy L ns kk (0) (0) ((g_up σ (5, 0, 0) ((σ (2, 0, 0) 4).toNatClampNeg) (k)) (2, 0, 0))) rfl 4 (by decide) fl_X1_24 rfl dX1_add_26 ?_
    refine lv_iload_n hx hb dX1_add_29 rfl (lv_at hl 2 rfl) ?_
    refine g_iast (n := 40) hx hb hK hG hS (6, 0, 0) ⟨rfl, rfl⟩ 0 (fun _ => rfl) rfl (g_vp (by omega) (by omega)) dX1_add_30 (fun H locs hG hS => ?_)
    refine lv_aload_n hx hb dX1_add_31 rfl (lv_at hl 0 rfl) ?_
    refine g_get (C := RX1) (T := TX1) (N := 5) (v := .ref (L (7, 0, 0))) hx hb hts inX1g hown hK hG (2, 0, 0) ⟨rfl, rfl⟩ (x_at_2 cy L ns kk (0) (0) ((g_up (g_up σ (5, 0, 0) ((σ (2, 0, 0) 4).toNatClampNeg) (k)) (6, 0, 0) ((σ (2, 0, 0) 4).toNatClampNeg) (a)) (2, 0, 0))) rfl 2 (by decide) fl_X1_18 rfl dX1_add_32 ?_
    refine lv_aload_n hx hb dX1_add_35 rfl (lv_at hl 0 rfl) ?_
    refine g_get (C := RX1) (T := TX1) (N := 5) (v := .int (σ (2, 0, 0) 4)) hx hb hts inX1g hown hK hG (2, 0, 0) ⟨rfl, rfl⟩ (x_at_2 cy L ns kk (0) (0) ((g_up (g_up σ (5, 0, 0) ((σ (2, 0, 0) 4).toNatClampNeg) (k)) (6, 0, 0) ((σ (2, 0, 0) 4).toNatClampNeg) (a)) (2, 0, 0))) rfl 4 (by decide) fl_X1_24 rfl dX1_add_36 ?_
    refine lv_iload_n hx hb dX1_add_39 rfl (lv_at hl 3 rfl) ?_
    refine g_iast (n := 40) hx hb hK hG hS (7, 0, 0) ⟨rfl, rfl⟩ 0 (fun _ => rfl) rfl (g_vp (by omega) (by omega)) dX1_add_40 (fun H locs hG hS => ?_)
    refine lv_aload_n hx hb dX1_add_41 rfl (lv_at hl 0 rfl) ?_
    refine g_get (C := RX1) (T := TX1) (N := 5) (v := .ref (L (8, 0, 0))) hx hb hts inX1g hown hK hG (2, 0, 0) ⟨rfl, rfl⟩ (x_at_2 cy L ns kk (0) (0) ((g_up (g_up (g_up σ (5, 0, 0) ((σ (2, 0, 0) 4).toNatClampNeg) (k)) (6, 0, 0) ((σ (2, 0, 0) 4).toNatClampNeg) (a)) (7, 0, 0) ((σ (2, 0, 0) 4).toNatClampNeg) (b)) (2, 0, 0))) rfl 3 (by decide) fl_X1_21 rfl dX1_add_42 ?_
    refine lv_aload_n hx hb dX1_add_45 rfl (lv_at hl 0 rfl) ?_
    refine g_get (C := RX1) (T := TX1) (N := 5) (v := .int (σ (2, 0, 0) 4)) hx hb hts inX1g hown hK hG (2, 0, 0) ⟨rfl, rfl⟩ (x_at_2 cy L ns kk (0) (0) ((g_up (g_up (g_up σ (5, 0, 0) ((σ (2, 0, 0) 4).toNatClampNeg) (k)) (6, 0, 0) ((σ (2, 0, 0) 4).toNatClampNeg) (a)) (7, 0, 0) ((σ (2, 0, 0) 4).toNatClampNeg) (b)) (2, 0, 0))) rfl 4 (by decide) fl_X1_24 rfl dX1_add_46 ?_
    refine lv_iload hx hb dX1_add_49 (lv_at hl 4 rfl) ?_
    refine g_iast (n := 40) hx hb hK hG hS (8, 0, 0) ⟨rfl, rfl⟩ 0 (fun _ => rfl) rfl (g_vp (by omega) (by omega)) dX1_add_51 (fun H locs hG hS => ?_)
    refine lv_aload_n hx hb dX1_add_52 rfl (lv_at hl 0 rfl) ?_
    refine lv_dup hx hb dX1_add_53 rfl ?_
    refine g_get (C := RX1) (T := TX1) (N := 5) (v := .int (σ (2, 0, 0) 4)) hx hb hts inX1g hown hK hG (2, 0, 0) ⟨rfl, rfl⟩ (x_at_2 cy L ns kk (0) (0) ((g_up (g_up (g_up (g_up σ (5, 0, 0) ((σ (2, 0, 0) 4).toNatClampNeg) (k)) (6, 0, 0) ((σ (2, 0, 0) 4).toNatClampNeg) (a)) (7, 0, 0) ((σ (2, 0, 0) 4).toNatClampNeg) (b)) (8, 0, 0) ((σ (2, 0, 0) 4).toNatClampNeg) (d)) (2, 0, 0))) rfl 4 (by decide) fl_X1_24 rfl dX1_add_54 ?_
    refine lv_iconst (v := 1) hx hb dX1_add_57 (by decide) ?_
    refine lv_iadd hx hb dX1_add_58 ?_
    refine g_puti (C := RX1) (T := TX1) (N := 5) (v := (σ (2, 0, 0) 4) + (1)) (ty := .int) hx hb hts inX1g tyX1_ok nmX1 hown hK hG hS (2, 0, 0) ⟨rfl, rfl⟩ (x_at_2 cy L ns kk (0) (0) ((g_up (g_up (g_up (g_up σ (5, 0, 0) ((σ (2, 0, 0) 4).toNatClampNeg) (k)) (6, 0, 0) ((σ (2, 0, 0) 4).toNatClampNeg) (a)) (7, 0, 0) ((σ (2, 0, 0) 4).toNatClampNeg) (b)) (8, 0, 0) ((σ (2, 0, 0) 4).toNatClampNeg) (d)) (2, 0, 0))) rfl 4 (by decide) (x_up_2_4 cy L ns kk (0) (0) ((g_up (g_up (g_up (g_up σ (5, 0, 0) ((σ (2, 0, 0) 4).toNatClampNeg) (k)) (6, 0, 0) ((σ (2, 0, 0) 4).toNatClampNeg) (a)) (7, 0, 0) ((σ (2, 0, 0) 4).toNatClampNeg) (b)) (8, 0, 0) ((σ (2, 0, 0) 4).toNatClampNeg) (d)) (2, 0, 0)) ((σ (2, 0, 0) 4) + (1))) fl_X1_24 rfl (by decide +kernel) rfl rfl (Nat.le_of_ble_eq_true rfl) dX1_add_59 (fun H locs hG hS => ?_)
    refine lv_aload_n hx hb dX1_add_62 rfl (lv_at hl 0 rfl) ?_
    refine g_get (C := RX1) (T := TX1) (N := 5) (v := .int ((σ (2, 0, 0) 4) + (1))) hx hb hts inX1g hown hK hG (2, 0, 0) ⟨rfl, rfl⟩ (x_at_2 cy L ns kk (0) (0) ((g_up (g_up (g_up (g_up (g_up σ (5, 0, 0) ((σ (2, 0, 0) 4).toNatClampNeg) (k)) (6, 0, 0) ((σ (2, 0, 0) 4).toNatClampNeg) (a)) (7, 0, 0) ((σ (2, 0, 0) 4).toNatClampNeg) (b)) (8, 0, 0) ((σ (2, 0, 0) 4).toNatClampNeg) (d)) (2, 0, 0) (4) ((σ (2, 0, 0) 4) + (1))) (2, 0, 0))) rfl 4 (by decide) fl_X1_24 rfl dX1_add_63 ?_
    refine lv_iconst (v := 1) hx hb dX1_add_66 (by decide) ?_
    refine lv_isub hx hb dX1_add_67 ?_
    exact s_iret hx hb hr hlk hG hS dX1_add_68 (by unfold x_qR; (repeat' split) <;> first | rfl | (exfalso; omega)) (by unfold x_qM; (repeat' split) <;> first | rfl | (exfalso; omega))
  · refine lv_iconst (v := (-1)) hx hb dX1_add_9 (by decide) ?_
    exact s_iret hx hb hr hlk hG hS dX1_add_10 (by unfold x_qR; (repeat' split) <;> first | rfl | (exfalso; omega)) (by unfold x_qM; (repeat' split) <;> first | rfl | (exfalso; omega))
set_option maxHeartbeats 4000000 in
set_option maxRecDepth 100000 in
theorem c_X1_addRange (l : Launch) (D : va_G) (cy : Nat → ClassId) (L : g_S → Nat) (ns : Nat) (kk : Nat → Nat) (σ : g_S → Nat → Int32) (a b d : Int32) (q0 : 0 ≤ (σ (2, 0, 0) 4).toInt) : x_Met l D cy L ns kk yX1_addRange (.code yX1_addRange cX1_addRange 4 (some .int)) 1 σ [.ref (L (2, 0, 0)), .int (a), .int (b), .int (d)] (some (.int (x_rngR σ a b d))) (x_rngM σ a b d) := by
  refine g_Met.of (by decide) (Nat.le_of_ble_eq_true rfl) ?_
  intro pg e s m below meth c hx hb hr hlk hml hown hts hK hN H locs hG hS ls hl
  have hown : s.vm.findClass RX1 = some m.cls := hown
  have hl : lv_has ls 4 [(0, .ref (L (2, 0, 0))), (1, .int (a)), (2, .int (b)), (3, .int (d))] := hl
  refine lv_iload_n hx hb dX1_addRange_0 rfl (lv_at hl 1 rfl) ?_
  refine g_cont (va_runSN (As := [.int (a)]) (rest := []) ⟨hx, hb, hml, hown, hts⟩ (c_X6_isIndex l D cy L ns kk σ (a)) ⟨va_cnB 1 hts (g_good cwd_X6_isIndex) rfl rfl rfl hN.2.1 (hts _ ini_X6) (by decide +kernel) ⟨Nat.le_of_ble_eq_true rfl, Nat.le_of_ble_eq_true rfl⟩, hts _ st_isIndex, trivial⟩ (g_preS hK hN hG) rfl rfl hl.1 rfl (lv_room (Nat.le_of_ble_eq_true rfl)) dX1_addRange_1 ⟨Nat.zero_le _, Nat.zero_le _⟩) hS (fun H locs hG hS => ?_)
  refine W.eq (g2 := F0 m 4 ls [.int (g_b (0 ≤ (a).toInt ∧ (a).toInt < 5))]) rfl ?_
  refine kz_b_eq (tgt := 26) hx hb dX1_addRange_4 (by decide) (fun c_4_1 => ?_) (fun c_4_1 => ?_)
  · refine lv_iconst (v := (-1)) hx hb dX1_addRange_26 (by decide) ?_
    exact s_iret hx hb hr hlk hG hS dX1_addRange_27 (by unfold x_rngR; (repeat' split) <;> first | rfl | (exfalso; omega)) (by unfold x_rngM; (repeat' split) <;> first | rfl | (exfalso; omega))
  · refine lv_iload_n hx hb dX1_addRange_7 rfl (lv_at hl 2 rfl) ?_
    refine g_cont (va_runSN (As := [.int (b)]) (rest := []) ⟨hx, hb, hml, hown, hts⟩ (c_X6_isTerm l D cy L ns kk σ (b)) ⟨va_cnB 1 hts (g_good cwd_X6_isTerm) rfl rfl rfl hN.2.2 (hts _ ini_X6) (by decide +kernel) ⟨Nat.le_of_ble_eq_true rfl, Nat.le_of_ble_eq_true rfl⟩, hts _ st_isTerm, trivial⟩ (g_preS hK hN hG) rfl rfl hl.1 rfl (lv_room (Nat.le_of_ble_eq_true rfl)) dX1_addRange_8 ⟨Nat.zero_le _, Nat.zero_le _⟩) hS (fun H locs hG hS => ?_)
    refine W.eq (g2 := F0 m 11 ls [.int (g_b (0 ≤ (b).toInt ∧ (b).toInt ≤ 999))]) rfl ?_
    refine kz_b_eq (tgt := 26) hx hb dX1_addRange_11 (by decide) (fun c_11_2 => ?_) (fun c_11_2 => ?_)
    · refine lv_iconst (v := (-1)) hx hb dX1_addRange_26 (by decide) ?_
      exact s_iret hx hb hr hlk hG hS dX1_addRange_27 (by unfold x_rngR; (repeat' split) <;> first | rfl | (exfalso; omega)) (by unfold x_rngM; (repeat' split) <;> first | rfl | (exfalso; omega))
    · refine lv_iload_n hx hb dX1_addRange_14 rfl (lv_at hl 3 rfl) ?_
      refine g_cont (va_runSN (As := [.int (d)]) (rest := []) ⟨hx, hb, hml, hown, hts⟩ (c_X6_isTerm l D cy L ns kk σ (d)) ⟨va_cnB 1 hts (g_good cwd_X6_isTerm) rfl rfl rfl hN.2.2 (hts _ ini_X6) (by decide +kernel) ⟨Nat.le_of_ble_eq_true rfl, Nat.le_of_ble_eq_true rfl⟩, hts _ st_isTerm, trivial⟩ (g_preS hK hN hG) rfl rfl hl.1 rfl (lv_room (Nat.le_of_ble_eq_true rfl)) dX1_addRange_15 ⟨Nat.zero_le _, Nat.zero_le _⟩) hS (fun H locs hG hS => ?_)
      refine W.eq (g2 := F0 m 18 ls [.int (g_b (0 ≤ (d).toInt ∧ (d).toInt ≤ 999))]) rfl ?_
      refine kz_b_eq (tgt := 26) hx hb dX1_addRange_18 (by decide) (fun c_18_3 => ?_) (fun c_18_3 => ?_)
      · refine lv_iconst (v := (-1)) hx hb dX1_addRange_26 (by decide) ?_
        exact s_iret hx hb hr hlk hG hS dX1_addRange_27 (by unfold x_rngR; (repeat' split) <;> first | rfl | (exfalso; omega)) (by unfold x_rngM; (repeat' split) <;> first | rfl | (exfalso; omega))
      · refine lv_iload_n hx hb dX1_addRange_21 rfl (lv_at hl 2 rfl) ?_
        refine lv_iload_n hx hb dX1_addRange_22 rfl (lv_at hl 3 rfl) ?_
        refine kz_icmp_le (X := (b).toInt) (Y := (d).toInt) hx hb rfl rfl dX1_addRange_23 (tgt := 28) (by decide) (fun c_23_4 => ?_) (fun c_23_4 => ?_)
        · refine lv_aload_n hx hb dX1_addRange_28 rfl (lv_at hl 0 rfl) ?_
          refine lv_iconst (v := 1) hx hb dX1_addRange_29 (by decide) ?_
          refine lv_iload_n hx hb dX1_addRange_30 rfl (lv_at hl 1 rfl) ?_
          refine lv_iload_n hx hb dX1_addRange_31 rfl (lv_at hl 2 rfl) ?_
          refine lv_iload_n hx hb dX1_addRange_32 rfl (lv_at hl 3 rfl) ?_
          refine g_cont (va_runV (As := [.int 1, .int (a), .int (b), .int (d)]) (rest := []) ⟨hx, hb, hml, hown, hts⟩ (c_X1_add l D cy L ns kk σ (1) (a) (b) (d) q0) (cwV 4 hts gV_X1_35 rfl rfl rfl (by decide +kernel) ⟨Nat.le_of_ble_eq_true rfl, Nat.le_of_ble_eq_true rfl⟩) (g_preV hK hN hG (x := (2, 0, 0)) ⟨rfl, rfl⟩ (q := (RX1, TX1, 5)) (x_at_2 cy L ns kk (0) (0) (σ (2, 0, 0))) rfl) rfl rfl hl.1 rfl (lv_room (Nat.le_of_ble_eq_true rfl)) dX1_addRange_33 ⟨Nat.zero_le _, Nat.zero_le _⟩) hS (fun H locs hG hS => ?_)
          refine W.eq (g2 := F0 m 36 ls [.int (x_qR σ)]) rfl ?_
          exact s_iret hx hb hr hlk hG hS dX1_addRange_36 (by unfold x_rngR; (repeat' split) <;> first | rfl | (exfalso; omega)) (by unfold x_rngM; (repeat' split) <;> first | rfl | (exfalso; omega))
        · refine lv_iconst (v := (-1)) hx hb dX1_addRange_26 (by decide) ?_
          exact s_iret hx hb hr hlk hG hS dX1_addRange_27 (by unfold x_rngR; (repeat' split) <;> first | rfl | (exfalso; omega)) (by unfold x_rngM; (repeat' split) <;> first | rfl | (exfalso; omega))
set_option maxHeartbeats 4000000 in
set_option maxRecDepth 100000 in
theorem c_X1_addPair (l : Launch) (D : va_G) (cy : Nat → ClassId) (L : g_S → Nat) (ns : Nat) (kk : Nat → Nat) (σ : g_S → Nat → Int32) (k a b : Int32) (q0 : 0 ≤ (σ (2, 0, 0) 4).toInt) : x_Met l D cy L ns kk yX1_addPair (.code yX1_addPair cX1_addPair 4 (some .int)) 1 σ [.ref (L (2, 0, 0)), .int (k), .int (a), .int (b)] (some (.int (x_pairR σ k a b))) (x_pairM σ k a b) := by
  refine g_Met.of (by decide) (Nat.le_of_ble_eq_true rfl) ?_
  intro pg e s m below meth c hx hb hr hlk hml hown hts hK hN H locs hG hS ls hl
  have hown : s.vm.findClass RX1 = some m.cls := hown
  have hl : lv_has ls 4 [(0, .ref (L (2, 0, 0))), (1, .int (k)), (2, .int (a)), (3, .int (b))] := hl
  refine lv_iload_n hx hb dX1_addPair_0 rfl (lv_at hl 1 rfl) ?_
  refine lv_iconst (v := 2) hx hb dX1_addPair_1 (by decide) ?_
  refine kz_icmp_lt (X := (k).toInt) (Y := 2) hx hb rfl (by decide) dX1_addPair_2 (tgt := 26) (by decide) (fun c_2_1 => ?_) (fun c_2_1 => ?_)
  · refine lv_iconst (v := (-1)) hx hb dX1_addPair_26 (by decide) ?_
    exact s_iret hx hb hr hlk hG hS dX1_addPair_27 (by unfold x_pairR; (repeat' split) <;> first | rfl | (exfalso; omega)) (by unfold x_pairM; (repeat' split) <;> first | rfl | (exfalso; omega))
  · refine lv_iload_n hx hb dX1_addPair_5 rfl (lv_at hl 1 rfl) ?_
    refine lv_iconst (v := 4) hx hb dX1_addPair_6 (by decide) ?_
    refine kz_icmp_gt (X := (k).toInt) (Y := 4) hx hb rfl (by decide) dX1_addPair_7 (tgt := 26) (by decide) (fun c_7_2 => ?_) (fun c_7_2 => ?_)
    · refine lv_iconst (v := (-1)) hx hb dX1_addPair_26 (by decide) ?_
      exact s_iret hx hb hr hlk hG hS dX1_addPair_27 (by unfold x_pairR; (repeat' split) <;> first | rfl | (exfalso; omega)) (by unfold x_pairM; (repeat' split) <;> first | rfl | (exfalso; omega))
    · refine lv_aload_n hx hb dX1_addPair_10 rfl (lv_at hl 0 rfl) ?_
      refine lv_iload_n hx hb dX1_addPair_11 rfl (lv_at hl 2 rfl) ?_
      refine g_cont (va_runV (As := [.int (a)]) (rest := []) ⟨hx, hb, hml, hown, hts⟩ (c_X1_has l D cy L ns kk σ (a)) (cwV 1 hts gV_X1_39 rfl rfl rfl (by decide +kernel) ⟨Nat.le_of_ble_eq_true rfl, Nat.le_of_ble_eq_true rfl⟩) (g_preV hK hN hG (x := (2, 0, 0)) ⟨rfl, rfl⟩ (q := (RX1, TX1, 5)) (x_at_2 cy L ns kk (0) (0) (σ (2, 0, 0))) rfl) rfl rfl hl.1 rfl (lv_room (Nat.le_of_ble_eq_true rfl)) dX1_addPair_12 ⟨Nat.zero_le _, Nat.zero_le _⟩) hS (fun H locs hG hS => ?_)
      refine W.eq (g2 := F0 m 15 ls [.int (g_b (0 ≤ (a).toInt ∧ (a).toInt < (σ (2, 0, 0) 4).toInt))]) rfl ?_
      refine kz_b_eq (tgt := 26) hx hb dX1_addPair_15 (by decide) (fun c_15_3 => ?_) (fun c_15_3 => ?_)
      · refine lv_iconst (v := (-1)) hx hb dX1_addPair_26 (by decide) ?_
        exact s_iret hx hb hr hlk hG hS dX1_addPair_27 (by unfold x_pairR; (repeat' split) <;> first | rfl | (exfalso; omega)) (by unfold x_pairM; (repeat' split) <;> first | rfl | (exfalso; omega))
      · refine lv_aload_n hx hb dX1_addPair_18 rfl (lv_at hl 0 rfl) ?_
        refine lv_iload_n hx hb dX1_addPair_19 rfl (lv_at hl 3 rfl) ?_
        refine g_cont (va_runV (As := [.int (b)]) (rest := []) ⟨hx, hb, hml, hown, hts⟩ (c_X1_has l D cy L ns kk σ (b)) (cwV 1 hts gV_X1_39 rfl rfl rfl (by decide +kernel) ⟨Nat.le_of_ble_eq_true rfl, Nat.le_of_ble_eq_true rfl⟩) (g_preV hK hN hG (x := (2, 0, 0)) ⟨rfl, rfl⟩ (q := (RX1, TX1, 5)) (x_at_2 cy L ns kk (0) (0) (σ (2, 0, 0))) rfl) rfl rfl hl.1 rfl (lv_room (Nat.le_of_ble_eq_true rfl)) dX1_addPair_20 ⟨Nat.zero_le _, Nat.zero_le _⟩) hS (fun H locs hG hS => ?_)
        refine W.eq (g2 := F0 m 23 ls [.int (g_b (0 ≤ (b).toInt ∧ (b).toInt < (σ (2, 0, 0) 4).toInt))]) rfl ?_
        refine kz_b_ne (tgt := 28) hx hb dX1_addPair_23 (by decide) (fun c_23_4 => ?_) (fun c_23_4 => ?_)
        · refine lv_aload_n hx hb dX1_addPair_28 rfl (lv_at hl 0 rfl) ?_
          refine lv_iload_n hx hb dX1_addPair_29 rfl (lv_at hl 1 rfl) ?_
          refine lv_iload_n hx hb dX1_addPair_30 rfl (lv_at hl 2 rfl) ?_
          refine lv_iload_n hx hb dX1_addPair_31 rfl (lv_at hl 3 rfl) ?_
          refine lv_iconst (v := 0) hx hb dX1_addPair_32 (by decide) ?_
          refine g_cont (va_runV (As := [.int (k), .int (a), .int (b), .int 0]) (rest := []) ⟨hx, hb, hml, hown, hts⟩ (c_X1_add l D cy L ns kk σ (k) (a) (b) (0) q0) (cwV 4 hts gV_X1_35 rfl rfl rfl (by decide +kernel) ⟨Nat.le_of_ble_eq_true rfl, Nat.le_of_ble_eq_true rfl⟩) (g_preV hK hN hG (x := (2, 0, 0)) ⟨rfl, rfl⟩ (q := (RX1, TX1, 5)) (x_at_2 cy L ns kk (0) (0) (σ (2, 0, 0))) rfl) rfl rfl hl.1 rfl (lv_room (Nat.le_of_ble_eq_true rfl)) dX1_addPair_33 ⟨Nat.zero_le _, Nat.zero_le _⟩) hS (fun H locs hG hS => ?_)
          refine W.eq (g2 := F0 m 36 ls [.int (x_qR σ)]) rfl ?_
          exact s_iret hx hb hr hlk hG hS dX1_addPair_36 (by unfold x_pairR; (repeat' split) <;> first | rfl | (exfalso; omega)) (by unfold x_pairM; (repeat' split) <;> first | rfl | (exfalso; omega))
        · refine lv_iconst (v := (-1)) hx hb dX1_addPair_26 (by decide) ?_
          exact s_iret hx hb hr hlk hG hS dX1_addPair_27 (by unfold x_pairR; (repeat' split) <;> first | rfl | (exfalso; omega)) (by unfold x_pairM; (repeat' split) <;> first | rfl | (exfalso; omega))
set_option maxHeartbeats 4000000 in
set_option maxRecDepth 100000 in
theorem c_X1_isYes (l : Launch) (D : va_G) (cy : Nat → ClassId) (L : g_S → Nat) (ns : Nat) (kk : Nat → Nat) (σ : g_S → Nat → Int32) (yes : Int64) (q : Int32) : x_Met l D cy L ns kk yX1_isYes (.code yX1_isYes cX1_isYes 3 (some .boolean)) 0 σ [.long (yes), .int (q)] (some (.int (g_b (x_bit yes q)))) σ := by
  refine g_Met.of (by decide) (Nat.le_of_ble_eq_true rfl) ?_
  intro pg e s m below meth c hx hb hr hlk hml hown hts hK hN H locs hG hS ls hl
  have hown : s.vm.findClass RX1 = some m.cls := hown
  have hl : lv_has ls 3 [(0, .long (yes)), (2, .int (q))] := hl
  refine lv_lload_n hx hb dX1_isYes_0 rfl (lv_at hl 0 rfl) ?_
  refine lv_iload_n hx hb dX1_isYes_1 rfl (lv_at hl 1 rfl) ?_
  refine lv_lshr hx hb dX1_isYes_2 rfl ?_
  refine lv_lconst (v := 1) hx hb dX1_isYes_3 rfl ?_
  refine lv_land hx hb dX1_isYes_4 ?_
  refine lv_lconst (v := 0) hx hb dX1_isYes_5 rfl ?_
  refine W.lcmp hx hb dX1_isYes_6 ?_
  refine kz_if_eq (X := (lg_cmp (((yes) >>> ((q).toInt64 &&& 63)) &&& (1)) (0)).toInt) hx hb rfl dX1_isYes_7 (tgt := 14) (by decide) (fun c_7_1 => ?_) (fun c_7_1 => ?_)
  · refine lv_iconst (v := 0) hx hb dX1_isYes_14 (by decide) ?_
    exact s_zret hx hb hr hlk hG hS dX1_isYes_15 rfl (by unfold g_b; simp only [lg_cmp_0] at *; (repeat' split) <;> first | rfl | contradiction) rfl
  · refine lv_iconst (v := 1) hx hb dX1_isYes_10 (by decide) ?_
    refine lv_goto (tgt := 15) hx hb dX1_isYes_11 (by decide) ?_
    exact s_zret hx hb hr hlk hG hS dX1_isYes_15 rfl (by unfold g_b; simp only [lg_cmp_0] at *; (repeat' split) <;> first | rfl | contradiction) rfl
set_option maxHeartbeats 4000000 in
set_option maxRecDepth 100000 in
theorem c_X1_holds (l : Launch) (D : va_G) (cy : Nat → ClassId) (L : g_S → Nat) (ns : Nat) (kk : Nat → Nat) (σ : g_S → Nat → Int32) (q rc : Int32) (yes : Int64) (hq : 0 ≤ q.toInt ∧ q.toInt < 40) (hn : (σ (1, 0, 0) 2).toInt ≤ 100) : x_Met l D cy L ns kk yX1_holds (.code yX1_holds cX1_holds 9 (some .boolean)) 2 σ [.ref (L (2, 0, 0)), .int (q), .ref (L (1, 0, 0)), .int (rc), .long (yes)] (some (.int (x_holdsI σ q rc yes))) σ := by
  refine g_Met.of (by decide) (Nat.le_of_ble_eq_true rfl) ?_
  intro pg e s m below meth c hx hb hr hlk hml hown hts hK hN H locs hG hS ls hl
  have hown : s.vm.findClass RX1 = some m.cls := hown
  have hl : lv_has ls 9 [(0, .ref (L (2, 0, 0))), (1, .int (q)), (2, .ref (L (1, 0, 0))), (3, .int (rc)), (4, .long (yes))] := hl
  refine lv_aload_n hx hb dX1_holds_0 rfl (lv_at hl 0 rfl) ?_
  refine g_get (C := RX1) (T := TX1) (N := 5) (v := .ref (L (6, 0, 0))) hx hb hts inX1g hown hK hG (2, 0, 0) ⟨rfl, rfl⟩ (x_at_2 cy L ns kk (0) (0) (σ (2, 0, 0))) rfl 1 (by decide) fl_X1_15 rfl dX1_holds_1 ?_
  refine lv_iload_n hx hb dX1_holds_4 rfl (lv_at hl 1 rfl) ?_
  refine g_iald (n := 40) hx hb hK hG (6, 0, 0) ⟨rfl, rfl⟩ 0 rfl rfl (g_vp (by omega) (by omega)) dX1_holds_5 ?_
  refine lv_istore (lv' := [(6, .int (σ (6, 0, 0) ((q).toNatClampNeg))), (0, .ref (L (2, 0, 0))), (1, .int (q)), (2, .ref (L (1, 0, 0))), (3, .int (rc)), (4, .long (yes))]) hx hb dX1_holds_6 hl (by decide) rfl (fun ls hl => ?_)
  refine lv_aload_n hx hb dX1_holds_8 rfl (lv_at hl 1 rfl) ?_
  refine g_get (C := RX1) (T := TX1) (N := 5) (v := .ref (L (7, 0, 0))) hx hb hts inX1g hown hK hG (2, 0, 0) ⟨rfl, rfl⟩ (x_at_2 cy L ns kk (0) (0) (σ (2, 0, 0))) rfl 2 (by decide) fl_X1_18 rfl dX1_holds_9 ?_
  refine lv_iload_n hx hb dX1_holds_12 rfl (lv_at hl 2 rfl) ?_
  refine g_iald (n := 40) hx hb hK hG (7, 0, 0) ⟨rfl, rfl⟩ 0 rfl rfl (g_vp (by omega) (by omega)) dX1_holds_13 ?_
  refine lv_istore (lv' := [(7, .int (σ (7, 0, 0) ((q).toNatClampNeg))), (6, .int (σ (6, 0, 0) ((q).toNatClampNeg))), (0, .ref (L (2, 0, 0))), (1, .int (q)), (2, .ref (L (1, 0, 0))), (3, .int (rc)), (4, .long (yes))]) hx hb dX1_holds_14 hl (by decide) rfl (fun ls hl => ?_)
  refine lv_aload_n hx hb dX1_holds_16 rfl (lv_at hl 2 rfl) ?_
  refine g_get (C := RX1) (T := TX1) (N := 5) (v := .ref (L (5, 0, 0))) hx hb hts inX1g hown hK hG (2, 0, 0) ⟨rfl, rfl⟩ (x_at_2 cy L ns kk (0) (0) (σ (2, 0, 0))) rfl 0 (by decide) fl_X1_9 rfl dX1_holds_17 ?_
  refine lv_iload_n hx hb dX1_holds_20 rfl (lv_at hl 3 rfl) ?_
  refine g_iald (n := 40) hx hb hK hG (5, 0, 0) ⟨rfl, rfl⟩ 0 rfl rfl (g_vp (by omega) (by omega)) dX1_holds_21 ?_
  rcases (show (σ (5, 0, 0) ((q).toNatClampNeg)).toInt = 2 ∨ (σ (5, 0, 0) ((q).toNatClampNeg)).toInt = 3 ∨ (σ (5, 0, 0) ((q).toNatClampNeg)).toInt = 4 ∨ ((σ (5, 0, 0) ((q).toNatClampNeg)).toInt < 2 ∨ 4 < (σ (5, 0, 0) ((q).toNatClampNeg)).toInt) by omega) with c_22_1 | c_22_1 | c_22_1 | c_22_1
  · refine lv_tableIn (off := 26) (tgt := 48) hx hb dX1_holds_22 (by have := (show (σ (5, 0, 0) ((q).toNatClampNeg) : Int32).toInt = (σ (5, 0, 0) ((q).toNatClampNeg)).toInt from rfl); omega) (by have := (show (σ (5, 0, 0) ((q).toNatClampNeg) : Int32).toInt = (σ (5, 0, 0) ((q).toNatClampNeg)).toInt from rfl); omega) (by rw [((show (σ (5, 0, 0) ((q).toNatClampNeg) : Int32).toInt = (σ (5, 0, 0) ((q).toNatClampNeg)).toInt from rfl)).trans c_22_1]; rfl) (by decide) ?_
    refine lv_lload hx hb dX1_holds_48 (lv_at hl 6 rfl) ?_
    refine lv_iload hx hb dX1_holds_50 (lv_at hl 1 rfl) ?_
    refine g_cont (va_runS (As := [.long (yes), .int (σ (6, 0, 0) ((q).toNatClampNeg))]) (rest := []) ⟨hx, hb, hml, hown, hts⟩ (c_X1_isYes l D cy L ns kk σ (yes) (σ (6, 0, 0) ((q).toNatClampNeg))) (cwS 2 hts gS_X1_46 rfl rfl rfl (by decide +kernel) ⟨Nat.le_of_ble_eq_true rfl, Nat.le_of_ble_eq_true rfl⟩) (g_preS hK hN hG) rfl rfl hl.1 rfl (lv_room (Nat.le_of_ble_eq_true rfl)) dX1_holds_52 ⟨Nat.zero_le _, Nat.zero_le _⟩) hS (fun H locs hG hS => ?_)
    refine W.eq (g2 := F0 m 55 ls [.int (g_b (x_bit (yes) (σ (6, 0, 0) ((q).toNatClampNeg))))]) rfl ?_
    refine kz_b_eq (tgt := 72) hx hb dX1_holds_55 (by decide) (fun c_55_2 => ?_) (fun c_55_2 => ?_)
    · refine lv_iconst (v := 0) hx hb dX1_holds_72 (by decide) ?_
      exact s_zret hx hb hr hlk hG hS dX1_holds_73 rfl (by unfold x_holdsI; (repeat' split) <;> first | rfl | (exfalso; omega) | (exfalso; simp_all; done)) rfl
    · refine lv_lload hx hb dX1_holds_58 (lv_at hl 6 rfl) ?_
      refine lv_iload hx hb dX1_holds_60 (lv_at hl 0 rfl) ?_
      refine g_cont (va_runS (As := [.long (yes), .int (σ (7, 0, 0) ((q).toNatClampNeg))]) (rest := []) ⟨hx, hb, hml, hown, hts⟩ (c_X1_isYes l D cy L ns kk σ (yes) (σ (7, 0, 0) ((q).toNatClampNeg))) (cwS 2 hts gS_X1_46 rfl rfl rfl (by decide +kernel) ⟨Nat.le_of_ble_eq_true rfl, Nat.le_of_ble_eq_true rfl⟩) (g_preS hK hN hG) rfl rfl hl.1 rfl (lv_room (Nat.le_of_ble_eq_true rfl)) dX1_holds_62 ⟨Nat.zero_le _, Nat.zero_le _⟩) hS (fun H locs hG hS => ?_)
      refine W.eq (g2 := F0 m 65 ls [.int (g_b (x_bit (yes) (σ (7, 0, 0) ((q).toNatClampNeg))))]) rfl ?_
      refine kz_b_eq (tgt := 72) hx hb dX1_holds_65 (by decide) (fun c_65_3 => ?_) (fun c_65_3 => ?_)
      · refine lv_iconst (v := 0) hx hb dX1_holds_72 (by decide) ?_
        exact s_zret hx hb hr hlk hG hS dX1_holds_73 rfl (by unfold x_holdsI; (repeat' split) <;> first | rfl | (exfalso; omega) | (exfalso; simp_all; done)) rfl
      · refine lv_iconst (v := 1) hx hb dX1_holds_68 (by decide) ?_
        refine lv_goto (tgt := 73) hx hb dX1_holds_69 (by decide) ?_
        exact s_zret hx hb hr hlk hG hS dX1_holds_73 rfl (by unfold x_holdsI; (repeat' split) <;> first | rfl | (exfalso; omega) | (exfalso; simp_all; done)) rfl
  · refine lv_tableIn (off := 52) (tgt := 74) hx hb dX1_holds_22 (by have := (show (σ (5, 0, 0) ((q).toNatClampNeg) : Int32).toInt = (σ (5, 0, 0) ((q).toNatClampNeg)).toInt from rfl); omega) (by have := (show (σ (5, 0, 0) ((q).toNatClampNeg) : Int32).toInt = (σ (5, 0, 0) ((q).toNatClampNeg)).toInt from rfl); omega) (by rw [((show (σ (5, 0, 0) ((q).toNatClampNeg) : Int32).toInt = (σ (5, 0, 0) ((q).toNatClampNeg)).toInt from rfl)).trans c_22_1]; rfl) (by decide) ?_
    refine lv_lload hx hb dX1_holds_74 (lv_at hl 6 rfl) ?_
    refine lv_iload hx hb dX1_holds_76 (lv_at hl 1 rfl) ?_
    refine g_cont (va_runS (As := [.long (yes), .int (σ (6, 0, 0) ((q).toNatClampNeg))]) (rest := []) ⟨hx, hb, hml, hown, hts⟩ (c_X1_isYes l D cy L ns kk σ (yes) (σ (6, 0, 0) ((q).toNatClampNeg))) (cwS 2 hts gS_X1_46 rfl rfl rfl (by decide +kernel) ⟨Nat.le_of_ble_eq_true rfl, Nat.le_of_ble_eq_true rfl⟩) (g_preS hK hN hG) rfl rfl hl.1 rfl (lv_room (Nat.le_of_ble_eq_true rfl)) dX1_holds_78 ⟨Nat.zero_le _, Nat.zero_le _⟩) hS (fun H locs hG hS => ?_)
    refine W.eq (g2 := F0 m 81 ls [.int (g_b (x_bit (yes) (σ (6, 0, 0) ((q).toNatClampNeg))))]) rfl ?_
    refine kz_b_ne (tgt := 94) hx hb dX1_holds_81 (by decide) (fun c_81_4 => ?_) (fun c_81_4 => ?_)
    · refine lv_iconst (v := 1) hx hb dX1_holds_94 (by decide) ?_
      refine lv_goto (tgt := 99) hx hb dX1_holds_95 (by decide) ?_
      exact s_zret hx hb hr hlk hG hS dX1_holds_99 rfl (by unfold x_holdsI; (repeat' split) <;> first | rfl | (exfalso; omega) | (exfalso; simp_all; done)) rfl
    · refine lv_lload hx hb dX1_holds_84 (lv_at hl 6 rfl) ?_
      refine lv_iload hx hb dX1_holds_86 (lv_at hl 0 rfl) ?_
      refine g_cont (va_runS (As := [.long (yes), .int (σ (7, 0, 0) ((q).toNatClampNeg))]) (rest := []) ⟨hx, hb, hml, hown, hts⟩ (c_X1_isYes l D cy L ns kk σ (yes) (σ (7, 0, 0) ((q).toNatClampNeg))) (cwS 2 hts gS_X1_46 rfl rfl rfl (by decide +kernel) ⟨Nat.le_of_ble_eq_true rfl, Nat.le_of_ble_eq_true rfl⟩) (g_preS hK hN hG) rfl rfl hl.1 rfl (lv_room (Nat.le_of_ble_eq_true rfl)) dX1_holds_88 ⟨Nat.zero_le _, Nat.zero_le _⟩) hS (fun H locs hG hS => ?_)
      refine W.eq (g2 := F0 m 91 ls [.int (g_b (x_bit (yes) (σ (7, 0, 0) ((q).toNatClampNeg))))]) rfl ?_
      refine kz_b_eq (tgt := 98) hx hb dX1_holds_91 (by decide) (fun c_91_5 => ?_) (fun c_91_5 => ?_)
      · refine lv_iconst (v := 0) hx hb dX1_holds_98 (by decide) ?_
        exact s_zret hx hb hr hlk hG hS dX1_holds_99 rfl (by unfold x_holdsI; (repeat' split) <;> first | rfl | (exfalso; omega) | (exfalso; simp_all; done)) rfl
      · refine lv_iconst (v := 1) hx hb dX1_holds_94 (by decide) ?_
        refine lv_goto (tgt := 99) hx hb dX1_holds_95 (by decide) ?_
        exact s_zret hx hb hr hlk hG hS dX1_holds_99 rfl (by unfold x_holdsI; (repeat' split) <;> first | rfl | (exfalso; omega) | (exfalso; simp_all; done)) rfl
  · refine lv_tableIn (off := 78) (tgt := 100) hx hb dX1_holds_22 (by have := (show (σ (5, 0, 0) ((q).toNatClampNeg) : Int32).toInt = (σ (5, 0, 0) ((q).toNatClampNeg)).toInt from rfl); omega) (by have := (show (σ (5, 0, 0) ((q).toNatClampNeg) : Int32).toInt = (σ (5, 0, 0) ((q).toNatClampNeg)).toInt from rfl); omega) (by rw [((show (σ (5, 0, 0) ((q).toNatClampNeg) : Int32).toInt = (σ (5, 0, 0) ((q).toNatClampNeg)).toInt from rfl)).trans c_22_1]; rfl) (by decide) ?_
    refine lv_lload hx hb dX1_holds_100 (lv_at hl 6 rfl) ?_
    refine lv_iload hx hb dX1_holds_102 (lv_at hl 1 rfl) ?_
    refine g_cont (va_runS (As := [.long (yes), .int (σ (6, 0, 0) ((q).toNatClampNeg))]) (rest := []) ⟨hx, hb, hml, hown, hts⟩ (c_X1_isYes l D cy L ns kk σ (yes) (σ (6, 0, 0) ((q).toNatClampNeg))) (cwS 2 hts gS_X1_46 rfl rfl rfl (by decide +kernel) ⟨Nat.le_of_ble_eq_true rfl, Nat.le_of_ble_eq_true rfl⟩) (g_preS hK hN hG) rfl rfl hl.1 rfl (lv_room (Nat.le_of_ble_eq_true rfl)) dX1_holds_104 ⟨Nat.zero_le _, Nat.zero_le _⟩) hS (fun H locs hG hS => ?_)
    refine W.eq (g2 := F0 m 107 ls [.int (g_b (x_bit (yes) (σ (6, 0, 0) ((q).toNatClampNeg))))]) rfl ?_
    refine kz_b_eq (tgt := 124) hx hb dX1_holds_107 (by decide) (fun c_107_6 => ?_) (fun c_107_6 => ?_)
    · refine lv_iconst (v := 0) hx hb dX1_holds_124 (by decide) ?_
      exact s_zret hx hb hr hlk hG hS dX1_holds_125 rfl (by unfold x_holdsI; (repeat' split) <;> first | rfl | (exfalso; omega) | (exfalso; simp_all; done)) rfl
    · refine lv_lload hx hb dX1_holds_110 (lv_at hl 6 rfl) ?_
      refine lv_iload hx hb dX1_holds_112 (lv_at hl 0 rfl) ?_
      refine g_cont (va_runS (As := [.long (yes), .int (σ (7, 0, 0) ((q).toNatClampNeg))]) (rest := []) ⟨hx, hb, hml, hown, hts⟩ (c_X1_isYes l D cy L ns kk σ (yes) (σ (7, 0, 0) ((q).toNatClampNeg))) (cwS 2 hts gS_X1_46 rfl rfl rfl (by decide +kernel) ⟨Nat.le_of_ble_eq_true rfl, Nat.le_of_ble_eq_true rfl⟩) (g_preS hK hN hG) rfl rfl hl.1 rfl (lv_room (Nat.le_of_ble_eq_true rfl)) dX1_holds_114 ⟨Nat.zero_le _, Nat.zero_le _⟩) hS (fun H locs hG hS => ?_)
      refine W.eq (g2 := F0 m 117 ls [.int (g_b (x_bit (yes) (σ (7, 0, 0) ((q).toNatClampNeg))))]) rfl ?_
      refine kz_b_ne (tgt := 124) hx hb dX1_holds_117 (by decide) (fun c_117_7 => ?_) (fun c_117_7 => ?_)
      · refine lv_iconst (v := 0) hx hb dX1_holds_124 (by decide) ?_
        exact s_zret hx hb hr hlk hG hS dX1_holds_125 rfl (by unfold x_holdsI; (repeat' split) <;> first | rfl | (exfalso; omega) | (exfalso; simp_all; done)) rfl
      · refine lv_iconst (v := 1) hx hb dX1_holds_120 (by decide) ?_
        refine lv_goto (tgt := 125) hx hb dX1_holds_121 (by decide) ?_
        exact s_zret hx hb hr hlk hG hS dX1_holds_125 rfl (by unfold x_holdsI; (repeat' split) <;> first | rfl | (exfalso; omega) | (exfalso; simp_all; done)) rfl
  · refine lv_tableOut (tgt := 126) hx hb dX1_holds_22 (by have := (show (σ (5, 0, 0) ((q).toNatClampNeg) : Int32).toInt = (σ (5, 0, 0) ((q).toNatClampNeg)).toInt from rfl); omega) (by decide) ?_
    refine lv_aload_n hx hb dX1_holds_126 rfl (lv_at hl 4 rfl) ?_
    refine lv_iload_n hx hb dX1_holds_127 rfl (lv_at hl 5 rfl) ?_
    refine lv_iload hx hb dX1_holds_128 (lv_at hl 1 rfl) ?_
    refine g_cont (va_runV (As := [.int (rc), .int (σ (6, 0, 0) ((q).toNatClampNeg))]) (rest := []) ⟨hx, hb, hml, hown, hts⟩ (c_X2_termOf l D cy L ns kk σ (rc) (σ (6, 0, 0) ((q).toNatClampNeg)) hn) (cwV 2 hts gV_X1_50 rfl rfl rfl (by decide +kernel) ⟨Nat.le_of_ble_eq_true rfl, Nat.le_of_ble_eq_true rfl⟩) (g_preV hK hN hG (x := (1, 0, 0)) ⟨rfl, rfl⟩ (q := (RX2, TX2, 3)) (x_at_1 cy L ns kk (0) (0) (σ (1, 0, 0))) rfl) rfl rfl hl.1 rfl (lv_room (Nat.le_of_ble_eq_true rfl)) dX1_holds_130 ⟨Nat.zero_le _, Nat.zero_le _⟩) hS (fun H locs hG hS => ?_)
    refine W.eq (g2 := F0 m 133 ls [.int (x_termOf σ (rc) (σ (6, 0, 0) ((q).toNatClampNeg)))]) rfl ?_
    refine lv_istore (lv' := [(8, .int (x_termOf σ (rc) (σ (6, 0, 0) ((q).toNatClampNeg)))), (7, .int (σ (7, 0, 0) ((q).toNatClampNeg))), (6, .int (σ (6, 0, 0) ((q).toNatClampNeg))), (0, .ref (L (2, 0, 0))), (1, .int (q)), (2, .ref (L (1, 0, 0))), (3, .int (rc)), (4, .long (yes))]) hx hb dX1_holds_133 hl (by decide) rfl (fun ls hl => ?_)
    refine lv_iload hx hb dX1_holds_135 (lv_at hl 0 rfl) ?_
    refine lv_iload hx hb dX1_holds_137 (lv_at hl 1 rfl) ?_
    refine kz_icmp_lt (X := (x_termOf σ (rc) (σ (6, 0, 0) ((q).toNatClampNeg))).toInt) (Y := (σ (7, 0, 0) ((q).toNatClampNeg)).toInt) hx hb rfl rfl dX1_holds_139 (tgt := 157) (by decide) (fun c_139_8 => ?_) (fun c_139_8 => ?_)
    · refine lv_iconst (v := 0) hx hb dX1_holds_157 (by decide) ?_
      exact s_zret hx hb hr hlk hG hS dX1_holds_158 rfl (by unfold x_holdsI; (repeat' split) <;> first | rfl | (exfalso; omega) | (exfalso; simp_all; done)) rfl
    · refine lv_iload hx hb dX1_holds_142 (lv_at hl 0 rfl) ?_
      refine lv_aload_n hx hb dX1_holds_144 rfl (lv_at hl 3 rfl) ?_
      refine g_get (C := RX1) (T := TX1) (N := 5) (v := .ref (L (8, 0, 0))) hx hb hts inX1g hown hK hG (2, 0, 0) ⟨rfl, rfl⟩ (x_at_2 cy L ns kk (0) (0) (σ (2, 0, 0))) rfl 3 (by decide) fl_X1_21 rfl dX1_holds_145 ?_
      refine lv_iload_n hx hb dX1_holds_148 rfl (lv_at hl 4 rfl) ?_
      refine g_iald (n := 40) hx hb hK hG (8, 0, 0) ⟨rfl, rfl⟩ 0 rfl rfl (g_vp (by omega) (by omega)) dX1_holds_149 ?_
      refine kz_icmp_gt (X := (x_termOf σ (rc) (σ (6, 0, 0) ((q).toNatClampNeg))).toInt) (Y := (σ (8, 0, 0) ((q).toNatClampNeg)).toInt) hx hb rfl rfl dX1_holds_150 (tgt := 157) (by decide) (fun c_150_9 => ?_) (fun c_150_9 => ?_)
      · refine lv_iconst (v := 0) hx hb dX1_holds_157 (by decide) ?_
        exact s_zret hx hb hr hlk hG hS dX1_holds_158 rfl (by unfold x_holdsI; (repeat' split) <;> first | rfl | (exfalso; omega) | (exfalso; simp_all; done)) rfl
      · refine lv_iconst (v := 1) hx hb dX1_holds_153 (by decide) ?_
        refine lv_goto (tgt := 158) hx hb dX1_holds_154 (by decide) ?_
        exact s_zret hx hb hr hlk hG hS dX1_holds_158 rfl (by unfold x_holdsI; (repeat' split) <;> first | rfl | (exfalso; omega) | (exfalso; simp_all; done)) rfl
set_option maxHeartbeats 4000000 in
set_option maxRecDepth 100000 in
theorem lp_finds (l : Launch) (D : va_G) (cy : Nat → ClassId) (L : g_S → Nat) (ns : Nat) (kk : Nat → Nat) (σ : g_S → Nat → Int32) {pg : Program} {e : Env} {s : State} {m : MethodId} {args : Array Value} {below : List Frame} {meth : Method} {c : Code} {Q : State → Prop} (C0 : g_C pg s m meth c args cX1_finds (some .boolean) 7 RX1 D (x_tys cy)) (hn : (σ (1, 0, 0) 2).toInt ≤ 100) (q40 : (σ (2, 0, 0) 4).toInt ≤ 40) (q rc : Int32) (hq : 0 ≤ q.toInt ∧ q.toInt < (σ (2, 0, 0) 4).toInt) :
    ∀ (n : Nat) (k : Nat) (yes : Int64) (H : Heap) (locs : List Loc) (ls : Array Slot), k + n = q.toInt.toNat + 1 → g_H D vwCl (x_dom ns kk) L (fun z => x_K cy L ns kk z (σ z)) H → va_S (g_A (x_dom ns kk) L) s.heap H locs → lv_has ls 7 [(6, .int (nI k)), (4, .long (yes)), (0, .ref (L (2, 0, 0))), (1, .int (q)), (2, .ref (L (1, 0, 0))), (3, .int (rc))] →
    (∀ (H : Heap) (locs : List Loc) (ls : Array Slot), g_H D vwCl (x_dom ns kk) L (fun z => x_K cy L ns kk z (σ z)) H → va_S (g_A (x_dom ns kk) L) s.heap H locs → lv_has ls 7 [(4, .long (x_yesGo σ rc n k yes)), (0, .ref (L (2, 0, 0))), (1, .int (q))] → W pg l e (g_R 3) s m args below meth c H locs 0 0 Q (F0 m 50 ls [])) →
    W pg l e (g_R 3) s m args below meth c H locs 0 0 Q (F0 m 16 ls []) := by
  obtain ⟨hx, hb, hr, hlk, hml, hown, hts, hK, hN⟩ := C0
  intro n
  induction n with
  | zero =>
    intro k yes H locs ls hv9 hG hS hl kk9
    have hz := g_nIT (show k < 2147483648 by omega)
    refine lv_iload hx hb dX1_finds_16 (lv_at hl 0 rfl) ?_
    refine lv_iload_n hx hb dX1_finds_18 rfl (lv_at hl 3 rfl) ?_
    refine kz_icmp_gt (X := ((k : Nat) : Int)) (Y := (q).toInt) hx hb (g_nIT (by omega)) rfl dX1_finds_19 (tgt := 50) (by decide) (fun c_19_1 => ?_) (fun c_19_1 => ?_)
    · exact kk9 H locs ls hG hS (lv_sub hl [1, 2, 3] rfl)
    · exact absurd c_19_1 (by omega)
  | succ n ih =>
    intro k yes H locs ls hv9 hG hS hl kk9
    have hz := g_nIT (show k < 2147483648 by omega)
    refine lv_iload hx hb dX1_finds_16 (lv_at hl 0 rfl) ?_
    refine lv_iload_n hx hb dX1_finds_18 rfl (lv_at hl 3 rfl) ?_
    refine kz_icmp_gt (X := ((k : Nat) : Int)) (Y := (q).toInt) hx hb (g_nIT (by omega)) rfl dX1_finds_19 (tgt := 50) (by decide) (fun c_19_1 => ?_) (fun c_19_1 => ?_)
    · exact absurd c_19_1 (by omega)
    · refine lv_aload_n hx hb dX1_finds_22 rfl (lv_at hl 2 rfl) ?_
      refine lv_iload hx hb dX1_finds_23 (lv_at hl 0 rfl) ?_
      refine lv_aload_n hx hb dX1_finds_25 rfl (lv_at hl 4 rfl) ?_
      refine lv_iload_n hx hb dX1_finds_26 rfl (lv_at hl 5 rfl) ?_
      refine lv_lload hx hb dX1_finds_27 (lv_at hl 1 rfl) ?_
      refine g_cont (va_runV (As := [.int (nI k), .ref (L (1, 0, 0)), .int (rc), .long (yes)]) (rest := []) ⟨hx, hb, hml, hown, hts⟩ (c_X1_holds l D cy L ns kk σ (nI k) (rc) (yes) ⟨by omega, by omega⟩ hn) (cwV 4 hts gV_X1_42 rfl rfl rfl (by decide +kernel) ⟨Nat.le_of_ble_eq_true rfl, Nat.le_of_ble_eq_true rfl⟩) (g_preV hK hN hG (x := (2, 0, 0)) ⟨rfl, rfl⟩ (q := (RX1, TX1, 5)) (x_at_2 cy L ns kk (0) (0) (σ (2, 0, 0))) rfl) rfl rfl hl.1 rfl (lv_room (Nat.le_of_ble_eq_true rfl)) dX1_finds_29 ⟨Nat.zero_le _, Nat.zero_le _⟩) hS (fun H locs hG hS => ?_)
      refine W.eq (g2 := F0 m 32 ls [.int (x_holdsI σ (nI k) (rc) (yes))]) rfl ?_
      refine kz_if_eq (X := (x_holdsI σ (nI k) (rc) (yes)).toInt) hx hb rfl dX1_finds_32 (tgt := 44) (by decide) (fun c_32_2 => ?_) (fun c_32_2 => ?_)
      · refine lv_iinc (v := nI (k + 1)) (lv' := [(6, .int (nI (k + 1))), (4, .long (yes)), (0, .ref (L (2, 0, 0))), (1, .int (q)), (2, .ref (L (1, 0, 0))), (3, .int (rc))]) hx hb dX1_finds_44 hl (k := 0) rfl (nI_1 (k)) (by decide) rfl (fun ls hl => ?_)
        refine lv_goto (tgt := 16) hx hb dX1_finds_47 (by decide) ?_
        have e90 : x_yesGo σ rc (n + 1) k yes = x_yesGo σ rc n (k + 1) (yes) := (by rw [x_yesGo_s]; (repeat' split) <;> first | rfl | (exfalso; omega))
        rw [e90] at kk9
        exact ih (k + 1) (yes) H locs ls (by omega) hG hS (lv_sub hl [0, 1, 2, 3, 4, 5] rfl) kk9
      · refine lv_lload hx hb dX1_finds_35 (lv_at hl 1 rfl) ?_
        refine lv_lconst (v := 1) hx hb dX1_finds_37 rfl ?_
        refine lv_iload hx hb dX1_finds_38 (lv_at hl 0 rfl) ?_
        refine lv_lshl hx hb dX1_finds_40 rfl ?_
        refine lv_lor hx hb dX1_finds_41 ?_
        refine lv_lstore (lv' := [(4, .long ((yes) ||| ((1) <<< ((nI k).toInt64 &&& 63)))), (6, .int (nI k)), (0, .ref (L (2, 0, 0))), (1, .int (q)), (2, .ref (L (1, 0, 0))), (3, .int (rc))]) hx hb dX1_finds_42 hl (by decide) rfl (fun ls hl => ?_)
        refine lv_iinc (v := nI (k + 1)) (lv' := [(6, .int (nI (k + 1))), (4, .long ((yes) ||| ((1) <<< ((nI k).toInt64 &&& 63)))), (0, .ref (L (2, 0, 0))), (1, .int (q)), (2, .ref (L (1, 0, 0))), (3, .int (rc))]) hx hb dX1_finds_44 hl (k := 1) rfl (nI_1 (k)) (by decide) rfl (fun ls hl => ?_)
        refine lv_goto (tgt := 16) hx hb dX1_finds_47 (by decide) ?_
        have e90 : x_yesGo σ rc (n + 1) k yes = x_yesGo σ rc n (k + 1) ((yes) ||| ((1) <<< ((nI k).toInt64 &&& 63))) := (by rw [x_yesGo_s]; (repeat' split) <;> first | rfl | (exfalso; omega))
        rw [e90] at kk9
        exact ih (k + 1) ((yes) ||| ((1) <<< ((nI k).toInt64 &&& 63))) H locs ls (by omega) hG hS (lv_sub hl [0, 1, 2, 3, 4, 5] rfl) kk9
set_option maxHeartbeats 4000000 in
set_option maxRecDepth 100000 in
theorem c_X1_finds (l : Launch) (D : va_G) (cy : Nat → ClassId) (L : g_S → Nat) (ns : Nat) (kk : Nat → Nat) (σ : g_S → Nat → Int32) (q rc : Int32) (hn : (σ (1, 0, 0) 2).toInt ≤ 100) (q40 : (σ (2, 0, 0) 4).toInt ≤ 40) : x_Met l D cy L ns kk yX1_finds (.code yX1_finds cX1_finds 7 (some .boolean)) 3 σ [.ref (L (2, 0, 0)), .int (q), .ref (L (1, 0, 0)), .int (rc)] (some (.int (g_b (x_findsP σ q rc)))) σ := by
  refine g_Met.of (by decide) (Nat.le_of_ble_eq_true rfl) ?_
  intro pg e s m below meth c hx hb hr hlk hml hown hts hK hN H locs hG hS ls hl
  have hown : s.vm.findClass RX1 = some m.cls := hown
  have hl : lv_has ls 7 [(0, .ref (L (2, 0, 0))), (1, .int (q)), (2, .ref (L (1, 0, 0))), (3, .int (rc))] := hl
  refine lv_aload_n hx hb dX1_finds_0 rfl (lv_at hl 0 rfl) ?_
  refine lv_iload_n hx hb dX1_finds_1 rfl (lv_at hl 1 rfl) ?_
  refine g_cont (va_runV (As := [.int (q)]) (rest := []) ⟨hx, hb, hml, hown, hts⟩ (c_X1_has l D cy L ns kk σ (q)) (cwV 1 hts gV_X1_39 rfl rfl rfl (by decide +kernel) ⟨Nat.le_of_ble_eq_true rfl, Nat.le_of_ble_eq_true rfl⟩) (g_preV hK hN hG (x := (2, 0, 0)) ⟨rfl, rfl⟩ (q := (RX1, TX1, 5)) (x_at_2 cy L ns kk (0) (0) (σ (2, 0, 0))) rfl) rfl rfl hl.1 rfl (lv_room (Nat.le_of_ble_eq_true rfl)) dX1_finds_2 ⟨Nat.zero_le _, Nat.zero_le _⟩) hS (fun H locs hG hS => ?_)
  refine W.eq (g2 := F0 m 5 ls [.int (g_b (0 ≤ (q).toInt ∧ (q).toInt < (σ (2, 0, 0) 4).toInt))]) rfl ?_
  refine kz_b_ne (tgt := 10) hx hb dX1_finds_5 (by decide) (fun c_5_1 => ?_) (fun c_5_1 => ?_)
  · refine lv_lconst (v := 0) hx hb dX1_finds_10 rfl ?_
    refine lv_lstore (lv' := [(4, .long (0)), (0, .ref (L (2, 0, 0))), (1, .int (q)), (2, .ref (L (1, 0, 0))), (3, .int (rc))]) hx hb dX1_finds_11 hl (by decide) rfl (fun ls hl => ?_)
    refine lv_iconst (v := 0) hx hb dX1_finds_13 (by decide) ?_
    refine lv_istore (lv' := [(6, .int 0), (4, .long (0)), (0, .ref (L (2, 0, 0))), (1, .int (q)), (2, .ref (L (1, 0, 0))), (3, .int (rc))]) hx hb dX1_finds_14 hl (by decide) rfl (fun ls hl => ?_)
    refine lp_finds l D cy L ns kk σ ⟨hx, hb, hr, hlk, hml, hown, hts, hK, hN⟩ hn q40 q rc (by omega) (q.toInt.toNat + 1) 0 0 H locs ls (by omega) hG hS (lv_sub hl [0, 1, 2, 3, 4, 5] rfl) (fun H locs ls hG hS hl => ?_)
    refine lv_lload hx hb dX1_finds_50 (lv_at hl 0 rfl) ?_
    refine lv_iload_n hx hb dX1_finds_52 rfl (lv_at hl 2 rfl) ?_
    refine g_cont (va_runS (As := [.long (x_yesGo σ rc (q.toInt.toNat + 1) 0 0), .int (q)]) (rest := []) ⟨hx, hb, hml, hown, hts⟩ (c_X1_isYes l D cy L ns kk σ (x_yesGo σ rc (q.toInt.toNat + 1) 0 0) (q)) (cwS 2 hts gS_X1_46 rfl rfl rfl (by decide +kernel) ⟨Nat.le_of_ble_eq_true rfl, Nat.le_of_ble_eq_true rfl⟩) (g_preS hK hN hG) rfl rfl hl.1 rfl (lv_room (Nat.le_of_ble_eq_true rfl)) dX1_finds_53 ⟨Nat.zero_le _, Nat.zero_le _⟩) hS (fun H locs hG hS => ?_)
    refine W.eq (g2 := F0 m 56 ls [.int (g_b (x_bit (x_yesGo σ rc (q.toInt.toNat + 1) 0 0) (q)))]) rfl ?_
    exact s_zret hx hb hr hlk hG hS dX1_finds_56 g_b_nar (by unfold g_b x_findsP; (repeat' split) <;> first | rfl | (exfalso; simp_all; done) | (exfalso; omega)) rfl
  · refine lv_iconst (v := 0) hx hb dX1_finds_8 (by decide) ?_
    exact s_zret hx hb hr hlk hG hS dX1_finds_9 rfl (by unfold g_b x_findsP; rw [if_neg (by omega)]) rfl
