/-! the class: records added, terms put, terms sought -/
def x_addR (σ : g_S → Nat → Int32) (size : Int32) : Int32 := if size.toInt < 1 ∨ 200 < size.toInt ∨ 100 ≤ (σ (1, 0, 0) 2).toInt then -1 else (σ (1, 0, 0) 2) + 1 - 1
def x_addM (σ : g_S → Nat → Int32) (size : Int32) : g_S → Nat → Int32 := if size.toInt < 1 ∨ 200 < size.toInt ∨ 100 ≤ (σ (1, 0, 0) 2).toInt then σ else
  g_up (g_up (g_up (g_up (g_up (g_up (g_up σ (3, 0, 0) (σ (1, 0, 0) 2).toNatClampNeg size) (10, 0, 0) (σ (1, 0, 0) 2).toNatClampNeg (-1)) (10, 1, 0) (σ (1, 0, 0) 2).toNatClampNeg (-1)) (10, 2, 0) (σ (1, 0, 0) 2).toNatClampNeg (-1)) (10, 3, 0) (σ (1, 0, 0) 2).toNatClampNeg (-1)) (10, 4, 0) (σ (1, 0, 0) 2).toNatClampNeg (-1)) (1, 0, 0) 2 (σ (1, 0, 0) 2 + 1)
def x_putP (σ : g_S → Nat → Int32) (p x v : Int32) : Prop := (0 ≤ p.toInt ∧ p.toInt < (σ (1, 0, 0) 2).toInt) ∧ (0 ≤ x.toInt ∧ x.toInt < 5) ∧ (v.toInt = -1 ∨ (0 ≤ v.toInt ∧ v.toInt ≤ 999))
def x_putM (σ : g_S → Nat → Int32) (p x v : Int32) : g_S → Nat → Int32 := if (0 ≤ p.toInt ∧ p.toInt < (σ (1, 0, 0) 2).toInt) ∧ (0 ≤ x.toInt ∧ x.toInt < 5) ∧ (v.toInt = -1 ∨ (0 ≤ v.toInt ∧ v.toInt ≤ 999)) then g_up σ (10, x.toNatClampNeg, 0) p.toNatClampNeg v else σ
def x_leastGo (σ : g_S → Nat → Int32) (x low : Int32) : Nat → Nat → Int32 → Int32
  | 0, _, acc => acc
  | n + 1, r, acc => x_leastGo σ x low n (r + 1) (if low.toInt ≤ (x_termOf σ (nI r) x).toInt ∧ (acc.toInt = -1 ∨ (x_termOf σ (nI r) x).toInt < acc.toInt) then x_termOf σ (nI r) x else acc)
theorem x_leastGo_s (σ : g_S → Nat → Int32) (x low : Int32) (n r : Nat) (acc : Int32) : x_leastGo σ x low (n + 1) r acc = x_leastGo σ x low n (r + 1) (if low.toInt ≤ (x_termOf σ (nI r) x).toInt ∧ (acc.toInt = -1 ∨ (x_termOf σ (nI r) x).toInt < acc.toInt) then x_termOf σ (nI r) x else acc) := rfl
def x_least (σ : g_S → Nat → Int32) (x low : Int32) : Int32 := x_leastGo σ x low (σ (1, 0, 0) 2).toInt.toNat 0 (-1)
def x_greatGo (σ : g_S → Nat → Int32) (x high : Int32) : Nat → Nat → Int32 → Int32
  | 0, _, acc => acc
  | n + 1, r, acc => x_greatGo σ x high n (r + 1) (if (x_termOf σ (nI r) x).toInt < high.toInt ∧ acc.toInt < (x_termOf σ (nI r) x).toInt then x_termOf σ (nI r) x else acc)
theorem x_greatGo_s (σ : g_S → Nat → Int32) (x high : Int32) (n r : Nat) (acc : Int32) : x_greatGo σ x high (n + 1) r acc = x_greatGo σ x high n (r + 1) (if (x_termOf σ (nI r) x).toInt < high.toInt ∧ acc.toInt < (x_termOf σ (nI r) x).toInt then x_termOf σ (nI r) x else acc) := rfl
def x_great (σ : g_S → Nat → Int32) (x high : Int32) : Int32 := x_greatGo σ x high (σ (1, 0, 0) 2).toInt.toNat 0 (-1)
def x_cntGo (σ : g_S → Nat → Int32) (x t : Int32) : Nat → Nat → Int32 → Int32
  | 0, _, acc => acc
  | n + 1, r, acc => x_cntGo σ x t n (r + 1) (if (x_termOf σ (nI r) x).toInt = t.toInt then acc + 1 else acc)
theorem x_cntGo_s (σ : g_S → Nat → Int32) (x t : Int32) (n r : Nat) (acc : Int32) : x_cntGo σ x t (n + 1) r acc = x_cntGo σ x t n (r + 1) (if (x_termOf σ (nI r) x).toInt = t.toInt then acc + 1 else acc) := rfl
def x_cnt (σ : g_S → Nat → Int32) (x t : Int32) : Int32 := x_cntGo σ x t (σ (1, 0, 0) 2).toInt.toNat 0 0
set_option maxHeartbeats 4000000 in
set_option maxRecDepth 100000 in
theorem c_X2_add (l : Launch) (D : va_G) (cy : Nat → ClassId) (L : g_S → Nat) (ns : Nat) (kk : Nat → Nat) (σ : g_S → Nat → Int32) (size : Int32) (h0 : 0 ≤ (σ (1, 0, 0) 2).toInt) (hn : (σ (1, 0, 0) 2).toInt ≤ 100) : x_Met l D cy L ns kk yX2_add (.code yX2_add cX2_add 3 (some .int)) 0 σ [.ref (L (1, 0, 0)), .int (size)] (some (.int (x_addR σ size))) (x_addM σ size) := by
  refine g_Met.of (by decide) (Nat.le_of_ble_eq_true rfl) ?_
  intro pg e s m below meth c hx hb hr hlk hml hown hts hK hN H locs hG hS ls hl
  have hown : s.vm.findClass RX2 = some m.cls := hown
  have hl : lv_has ls 3 [(0, .ref (L (1, 0, 0))), (1, .int (size))] := hl
  refine lv_iload_n hx hb dX2_add_0 rfl (lv_at hl 1 rfl) ?_
  refine lv_iconst (v := 1) hx hb dX2_add_1 (by decide) ?_
  refine kz_icmp_lt (X := (size).toInt) (Y := 1) hx hb rfl (by decide) dX2_add_2 (tgt := 21) (by decide) (fun c_2_1 => ?_) (fun c_2_1 => ?_)
  · refine lv_iconst (v := (-1)) hx hb dX2_add_21 (by decide) ?_
    exact s_iret hx hb hr hlk hG hS dX2_add_22 (by unfold x_addR; (repeat' split) <;> first | rfl | (exfalso; omega)) (by unfold x_addM; (repeat' split) <;> first | rfl | (exfalso; omega))
  · refine lv_iload_n hx hb dX2_add_5 rfl (lv_at hl 1 rfl) ?_
    refine lv_sipush (v := 200) hx hb dX2_add_6 (by decide) ?_
    refine kz_icmp_gt (X := (size).toInt) (Y := 200) hx hb rfl (by decide) dX2_add_9 (tgt := 21) (by decide) (fun c_9_2 => ?_) (fun c_9_2 => ?_)
    · refine lv_iconst (v := (-1)) hx hb dX2_add_21 (by decide) ?_
      exact s_iret hx hb hr hlk hG hS dX2_add_22 (by unfold x_addR; (repeat' split) <;> first | rfl | (exfalso; omega)) (by unfold x_addM; (repeat' split) <;> first | rfl | (exfalso; omega))
    · refine lv_aload_n hx hb dX2_add_12 rfl (lv_at hl 0 rfl) ?_
      refine g_get (C := RX2) (T := TX2) (N := 3) (v := .int (σ (1, 0, 0) 2)) hx hb hts inX2g hown hK hG (1, 0, 0) ⟨rfl, rfl⟩ (x_at_1 cy L ns kk (0) (0) (σ (1, 0, 0))) rfl 2 (by decide) fl_X2_20 rfl dX2_add_13 ?_
      refine lv_bipush (v := 100) hx hb dX2_add_16 (by decide) ?_
      refine kz_icmp_lt (X := (σ (1, 0, 0) 2).toInt) (Y := 100) hx hb rfl (by decide) dX2_add_18 (tgt := 23) (by decide) (fun c_18_3 => ?_) (fun c_18_3 => ?_)
      · refine lv_aload_n hx hb dX2_add_23 rfl (lv_at hl 0 rfl) ?_
        refine g_get (C := RX2) (T := TX2) (N := 3) (v := .ref (L (3, 0, 0))) hx hb hts inX2g hown hK hG (1, 0, 0) ⟨rfl, rfl⟩ (x_at_1 cy L ns kk (0) (0) (σ (1, 0, 0))) rfl 0 (by decide) fl_X2_9 rfl dX2_add_24 ?_
        refine lv_aload_n hx hb dX2_add_27 rfl (lv_at hl 0 rfl) ?_
        refine g_get (C := RX2) (T := TX2) (N := 3) (v := .int (σ (1, 0, 0) 2)) hx hb hts inX2g hown hK hG (1, 0, 0) ⟨rfl, rfl⟩ (x_at_1 cy L ns kk (0) (0) (σ (1, 0, 0))) rfl 2 (by decide) fl_X2_20 rfl dX2_add_28 ?_
        refine lv_iload_n hx hb dX2_add_31 rfl (lv_at hl 1 rfl) ?_
        refine g_iast (n := 100) hx hb hK hG hS (3, 0, 0) ⟨rfl, rfl⟩ 0 (fun _ => rfl) rfl (g_vp (by omega) (by omega)) dX2_add_32 (fun H locs hG hS => ?_)
        refine lv_iconst (v := 0) hx hb dX2_add_33 (by decide) ?_
        refine lv_istore_n (lv' := [(2, .int 0), (0, .ref (L (1, 0, 0))), (1, .int (size))]) hx hb dX2_add_34 rfl hl (by decide) rfl (fun ls hl => ?_)
        refine lv_iload_n hx hb dX2_add_35 rfl (lv_at hl 0 rfl) ?_
        refine lv_iconst (v := 5) hx hb dX2_add_36 (by decide) ?_
        refine kz_icmp_ge (X := 0) (Y := 5) hx hb (by decide) (by decide) dX2_add_37 (tgt := 58) (by decide) (fun c_37_4 => ?_) (fun c_37_4 => ?_)
        · exact absurd c_37_4 (by decide)
        · refine lv_aload_n hx hb dX2_add_40 rfl (lv_at hl 1 rfl) ?_
          refine g_get (C := RX2) (T := TX2) (N := 3) (v := .ref (L (4, 0, 0))) hx hb hts inX2g hown hK hG (1, 0, 0) ⟨rfl, rfl⟩ (x_at_1 cy L ns kk (0) (0) ((g_up σ (3, 0, 0) ((σ (1, 0, 0) 2).toNatClampNeg) (size)) (1, 0, 0))) rfl 1 (by decide) fl_X2_17 rfl dX2_add_41 ?_
          refine lv_iload_n hx hb dX2_add_44 rfl (lv_at hl 0 rfl) ?_
          refine g_aald (n := 5) (v := .ref (L (10, 0, 0))) hx hb hK hG (4, 0, 0) ⟨rfl, rfl⟩ 1 rfl rfl rfl (g_vp (by decide) (by decide)) rfl dX2_add_45 ?_
          refine lv_aload_n hx hb dX2_add_46 rfl (lv_at hl 1 rfl) ?_
          refine g_get (C := RX2) (T := TX2) (N := 3) (v := .int (σ (1, 0, 0) 2)) hx hb hts inX2g hown hK hG (1, 0, 0) ⟨rfl, rfl⟩ (x_at_1 cy L ns kk (0) (0) ((g_up σ (3, 0, 0) ((σ (1, 0, 0) 2).toNatClampNeg) (size)) (1, 0, 0))) rfl 2 (by decide) fl_X2_20 rfl dX2_add_47 ?_
          refine lv_iconst (v := (-1)) hx hb dX2_add_50 (by decide) ?_
          refine g_iast (n := 100) hx hb hK hG hS (10, 0, 0) ⟨(by decide), rfl⟩ 0 (fun _ => rfl) rfl (g_vp (by omega) (by omega)) dX2_add_51 (fun H locs hG hS => ?_)
          refine lv_iinc (v := 1) (lv' := [(2, .int 1), (0, .ref (L (1, 0, 0))), (1, .int (size))]) hx hb dX2_add_52 hl (k := 0) rfl (by decide) (by decide) rfl (fun ls hl => ?_)
          refine lv_goto (tgt := 35) hx hb dX2_add_55 (by decide) ?_
          refine lv_iload_n hx hb dX2_add_35 rfl (lv_at hl 0 rfl) ?_
          refine lv_iconst (v := 5) hx hb dX2_add_36 (by decide) ?_
          refine kz_icmp_ge (X := 1) (Y := 5) hx hb (by decide) (by decide) dX2_add_37 (tgt := 58) (by decide) (fun c_37_5 => ?_) (fun c_37_5 => ?_)
          · exact absurd c_37_5 (by decide)
          · refine lv_aload_n hx hb dX2_add_40 rfl (lv_at hl 1 rfl) ?_
            refine g_get (C := RX2) (T := TX2) (N := 3) (v := .ref (L (4, 0, 0))) hx hb hts inX2g hown hK hG (1, 0, 0) ⟨rfl, rfl⟩ (x_at_1 cy L ns kk (0) (0) ((g_up (g_up σ (3, 0, 0) ((σ (1, 0, 0) 2).toNatClampNeg) (size)) (10, 0, 0) ((σ (1, 0, 0) 2).toNatClampNeg) ((-1))) (1, 0, 0))) rfl 1 (by decide) fl_X2_17 rfl dX2_add_41 ?_
            refine lv_iload_n hx hb dX2_add_44 rfl (lv_at hl 0 rfl) ?_
            refine g_aald (n := 5) (v := .ref (L (10, 1, 0))) hx hb hK hG (4, 0, 0) ⟨rfl, rfl⟩ 1 rfl rfl rfl (g_vp (by decide) (by decide)) rfl dX2_add_45 ?_
            refine lv_aload_n hx hb dX2_add_46 rfl (lv_at hl 1 rfl) ?_
            refine g_get (C := RX2) (T := TX2) (N := 3) (v := .int (σ (1, 0, 0) 2)) hx hb hts inX2g hown hK hG (1, 0, 0) ⟨rfl, rfl⟩ (x_at_1 cy L ns kk (0) (0) ((g_up (g_up σ (3, 0, 0) ((σ (1, 0, 0) 2).toNatClampNeg) (size)) (10, 0, 0) ((σ (1, 0, 0) 2).toNatClampNeg) ((-1))) (1, 0, 0))) rfl 2 (by decide) fl_X2_20 rfl dX2_add_47 ?_
            refine lv_iconst (v := (-1)) hx hb dX2_add_50 (by decide) ?_
            refine g_iast (n := 100) hx hb hK hG hS (10, 1, 0) ⟨(by decide), rfl⟩ 0 (fun _ => rfl) rfl (g_vp (by omega) (by omega)) dX2_add_51 (fun H locs hG hS => ?_)
            refine lv_iinc (v := 2) (lv' := [(2, .int 2), (0, .ref (L (1, 0, 0))), (1, .int (size))]) hx hb dX2_add_52 hl (k := 0) rfl (by decide) (by decide) rfl (fun ls hl => ?_)
            refine lv_goto (tgt := 35) hx hb dX2_add_55 (by decide) ?_
            refine lv_iload_n hx hb dX2_add_35 rfl (lv_at hl 0 rfl) ?_
            refine lv_iconst (v := 5) hx hb dX2_add_36 (by decide) ?_
            refine kz_icmp_ge (X := 2) (Y := 5) hx hb (by decide) (by decide) dX2_add_37 (tgt := 58) (by decide) (fun c_37_6 => ?_) (fun c_37_6 => ?_)
            · exact absurd c_37_6 (by decide)
            · refine lv_aload_n hx hb dX2_add_40 rfl (lv_at hl 1 rfl) ?_
              refine g_get (C := RX2) (T := TX2) (N := 3) (v := .ref (L (4, 0, 0))) hx hb hts inX2g hown hK hG (1, 0, 0) ⟨rfl, rfl⟩ (x_at_1 cy L ns kk (0) (0) ((g_up (g_up (g_up σ (3, 0, 0) ((σ (1, 0, 0) 2).toNatClampNeg) (size)) (10, 0, 0) ((σ (1, 0, 0) 2).toNatClampNeg) ((-1))) (10, 1, 0) ((σ (1, 0, 0) 2).toNatClampNeg) ((-1))) (1, 0, 0))) rfl 1 (by decide) fl_X2_17 rfl dX2_add_41 ?_
              refine lv_iload_n hx hb dX2_add_44 rfl (lv_at hl 0 rfl) ?_
              refine g_aald (n := 5) (v := .ref (L (10, 2, 0))) hx hb hK hG (4, 0, 0) ⟨rfl, rfl⟩ 1 rfl rfl rfl (g_vp (by decide) (by decide)) rfl dX2_add_45 ?_
              refine lv_aload_n hx hb dX2_add_46 rfl (lv_at hl 1 rfl) ?_
              refine g_get (C := RX2) (T := TX2) (N := 3) (v := .int (σ (1, 0, 0) 2)) hx hb hts inX2g hown hK hG (1, 0, 0) ⟨rfl, rfl⟩ (x_at_1 cy L ns kk (0) (0) ((g_up (g_up (g_up σ (3, 0, 0) ((σ (1, 0, 0) 2).toNatClampNeg) (size)) (10, 0, 0) ((σ (1, 0, 0) 2).toNatClampNeg) ((-1))) (10, 1, 0) ((σ (1, 0, 0) 2).toNatClampNeg) ((-1))) (1, 0, 0))) rfl 2 (by decide) fl_X2_20 rfl dX2_add_47 ?_
              refine lv_iconst (v := (-1)) hx hb dX2_add_50 (by decide) ?_
              refine g_iast (n := 100) hx hb hK hG hS (10, 2, 0) ⟨(by decide), rfl⟩ 0 (fun _ => rfl) rfl (g_vp (by omega) (by omega)) dX2_add_51 (fun H locs hG hS => ?_)
              refine lv_iinc (v := 3) (lv' := [(2, .int 3), (0, .ref (L (1, 0, 0))), (1, .int (size))]) hx hb dX2_add_52 hl (k := 0) rfl (by decide) (by decide) rfl (fun ls hl => ?_)
              refine lv_goto (tgt := 35) hx hb dX2_add_55 (by decide) ?_
              refine lv_iload_n hx hb dX2_add_35 rfl (lv_at hl 0 rfl) ?_
              refine lv_iconst (v := 5) hx hb dX2_add_36 (by decide) ?_
              refine kz_icmp_ge (X := 3) (Y := 5) hx hb (by decide) (by decide) dX2_add_37 (tgt := 58) (by decide) (fun c_37_7 => ?_) (fun c_37_7 => ?_)
              · exact absurd c_37_7 (by decide)
              · refine lv_aload_n hx hb dX2_add_40 rfl (lv_at hl 1 rfl) ?_
                refine g_get (C := RX2) (T := TX2) (N := 3) (v := .ref (L (4, 0, 0))) hx hb hts inX2g hown hK hG (1, 0, 0) ⟨rfl, rfl⟩ (x_at_1 cy L ns kk (0) (0) ((g_up (g_up (g_up (g_up σ (3, 0, 0) ((σ (1, 0, 0) 2).toNatClampNeg) (size)) (10, 0, 0) ((σ (1, 0, 0) 2).toNatClampNeg) ((-1))) (10, 1, 0) ((σ (1, 0, 0) 2).toNatClampNeg) ((-1))) (10, 2, 0) ((σ (1, 0, 0) 2).toNatClampNeg) ((-1))) (1, 0, 0))) rfl 1 (by decide) fl_X2_17 rfl dX2_add_41 ?_
                refine lv_iload_n hx hb dX2_add_44 rfl (lv_at hl 0 rfl) ?_
                refine g_aald (n := 5) (v := .ref (L (10, 3, 0))) hx hb hK hG (4, 0, 0) ⟨rfl, rfl⟩ 1 rfl rfl rfl (g_vp (by decide) (by decide)) rfl dX2_add_45 ?_
                refine lv_aload_n hx hb dX2_add_46 rfl (lv_at hl 1 rfl) ?_
                refine g_get (C := RX2) (T := TX2) (N := 3) (v := .int (σ (1, 0, 0) 2)) hx hb hts inX2g hown hK hG (1, 0, 0) ⟨rfl, rfl⟩ (x_at_1 cy L ns kk (0) (0) ((g_up (g_up (g_up (g_up σ (3, 0, 0) ((σ (1, 0, 0) 2).toNatClampNeg) (size)) (10, 0, 0) ((σ (1, 0, 0) 2).toNatClampNeg) ((-1))) (10, 1, 0) ((σ (1, 0, 0) 2).toNatClampNeg) ((-1))) (10, 2, 0) ((σ (1, 0, 0) 2).toNatClampNeg) ((-1))) (1, 0, 0))) rfl 2 (by decide) fl_X2_20 rfl dX2_add_47 ?_
                refine lv_iconst (v := (-1)) hx hb dX2_add_50 (by decide) ?_
                refine g_iast (n := 100) hx hb hK hG hS (10, 3, 0) ⟨(by decide), rfl⟩ 0 (fun _ => rfl) rfl (g_vp (by omega) (by omega)) dX2_add_51 (fun H locs hG hS => ?_)
                refine lv_iinc (v := 4) (lv' := [(2, .int 4), (0, .ref (L (1, 0, 0))), (1, .int (size))]) hx hb dX2_add_52 hl (k := 0) rfl (by decide) (by decide) rfl (fun ls hl => ?_)
                refine lv_goto (tgt := 35) hx hb dX2_add_55 (by decide) ?_
                refine lv_iload_n hx hb dX2_add_35 rfl (lv_at hl 0 rfl) ?_
                refine lv_iconst (v := 5) hx hb dX2_add_36 (by decide) ?_
                refine kz_icmp_ge (X := 4) (Y := 5) hx hb (by decide) (by decide) dX2_add_37 (tgt := 58) (by decide) (fun c_37_8 => ?_) (fun c_37_8 => ?_)
                · exact absurd c_37_8 (by decide)
                · refine lv_aload_n hx hb dX2_add_40 rfl (lv_at hl 1 rfl) ?_
                  refine g_get (C := RX2) (T := TX2) (N := 3) (v := .ref (L (4, 0, 0))) hx hb hts inX2g hown hK hG (1, 0, 0) ⟨rfl, rfl⟩ (x_at_1 cy L ns kk (0) (0) ((g_up (g_up (g_up (g_up (g_up σ (3, 0, 0) ((σ (1, 0, 0) 2).toNatClampNeg) (size)) (10, 0, 0) ((σ (1, 0, 0) 2).toNatClampNeg) ((-1))) (10, 1, 0) ((σ (1, 0, 0) 2).toNatClampNeg) ((-1))) (10, 2, 0) ((σ (1, 0, 0) 2).toNatClampNeg) ((-1))) (10, 3, 0) ((σ (1, 0, 0) 2).toNatClampNeg) ((-1))) (1, 0, 0))) rfl 1 (by decide) fl_X2_17 rfl dX2_add_41 ?_
                  refine lv_iload_n hx hb dX2_add_44 rfl (lv_at hl 0 rfl) ?_
                  refine g_aald (n := 5) (v := .ref (L (10, 4, 0))) hx hb hK hG (4, 0, 0) ⟨rfl, rfl⟩ 1 rfl rfl rfl (g_vp (by decide) (by decide)) rfl dX2_add_45 ?_
                  refine lv_aload_n hx hb dX2_add_46 rfl (lv_at hl 1 rfl) ?_
                  refine g_get (C := RX2) (T := TX2) (N := 3) (v := .int (σ (1, 0, 0) 2)) hx hb hts inX2g hown hK hG (1, 0, 0) ⟨rfl, rfl⟩ (x_at_1 cy L ns kk (0) (0) ((g_up (g_up (g_up (g_up (g_up σ (3, 0, 0) ((σ (1, 0, 0) 2).toNatClampNeg) (size)) (10, 0, 0) ((σ (1, 0, 0) 2).toNatClampNeg) ((-1))) (10, 1, 0) ((σ (1, 0, 0) 2).toNatClampNeg) ((-1))) (10, 2, 0) ((σ (1, 0, 0) 2).toNatClampNeg) ((-1))) (10, 3, 0) ((σ (1, 0, 0) 2).toNatClampNeg) ((-1))) (1, 0, 0))) rfl 2 (by decide) fl_X2_20 rfl dX2_add_47 ?_
                  refine lv_iconst (v := (-1)) hx hb dX2_add_50 (by decide) ?_
                  refine g_iast (n := 100) hx hb hK hG hS (10, 4, 0) ⟨(by decide), rfl⟩ 0 (fun _ => rfl) rfl (g_vp (by omega) (by omega)) dX2_add_51 (fun H locs hG hS => ?_)
                  refine lv_iinc (v := 5) (lv' := [(2, .int 5), (0, .ref (L (1, 0, 0))), (1, .int (size))]) hx hb dX2_add_52 hl (k := 0) rfl (by decide) (by decide) rfl (fun ls hl => ?_)
                  refine lv_goto (tgt := 35) hx hb dX2_add_55 (by decide) ?_
                  refine lv_iload_n hx hb dX2_add_35 rfl (lv_at hl 0 rfl) ?_
                  refine lv_iconst (v := 5) hx hb dX2_add_36 (by decide) ?_
                  refine kz_icmp_ge (X := 5) (Y := 5) hx hb (by decide) (by decide) dX2_add_37 (tgt := 58) (by decide) (fun c_37_9 => ?_) (fun c_37_9 => ?_)
                  · refine lv_aload_n hx hb dX2_add_58 rfl (lv_at hl 1 rfl) ?_
                    refine lv_dup hx hb dX2_add_59 rfl ?_
                    refine g_get (C := RX2) (T := TX2) (N := 3) (v := .int (σ (1, 0, 0) 2)) hx hb hts inX2g hown hK hG (1, 0, 0) ⟨rfl, rfl⟩ (x_at_1 cy L ns kk (0) (0) ((g_up (g_up (g_up (g_up (g_up (g_up σ (3, 0, 0) ((σ (1, 0, 0) 2).toNatClampNeg) (size)) (10, 0, 0) ((σ (1, 0, 0) 2).toNatClampNeg) ((-1))) (10, 1, 0) ((σ (1, 0, 0) 2).toNatClampNeg) ((-1))) (10, 2, 0) ((σ (1, 0, 0) 2).toNatClampNeg) ((-1))) (10, 3, 0) ((σ (1, 0, 0) 2).toNatClampNeg) ((-1))) (10, 4, 0) ((σ (1, 0, 0) 2).toNatClampNeg) ((-1))) (1, 0, 0))) rfl 2 (by decide) fl_X2_20 rfl dX2_add_60 ?_
                    refine lv_iconst (v := 1) hx hb dX2_add_63 (by decide) ?_
                    refine lv_iadd hx hb dX2_add_64 ?_
                    refine g_puti (C := RX2) (T := TX2) (N := 3) (v := (σ (1, 0, 0) 2) + (1)) (ty := .int) hx hb hts inX2g tyX2_ok nmX2 hown hK hG hS (1, 0, 0) ⟨rfl, rfl⟩ (x_at_1 cy L ns kk (0) (0) ((g_up (g_up (g_up (g_up (g_up (g_up σ (3, 0, 0) ((σ (1, 0, 0) 2).toNatClampNeg) (size)) (10, 0, 0) ((σ (1, 0, 0) 2).toNatClampNeg) ((-1))) (10, 1, 0) ((σ (1, 0, 0) 2).toNatClampNeg) ((-1))) (10, 2, 0) ((σ (1, 0, 0) 2).toNatClampNeg) ((-1))) (10, 3, 0) ((σ (1, 0, 0) 2).toNatClampNeg) ((-1))) (10, 4, 0) ((σ (1, 0, 0) 2).toNatClampNeg) ((-1))) (1, 0, 0))) rfl 2 (by decide) (x_up_1_2 cy L ns kk (0) (0) ((g_up (g_up (g_up (g_up (g_up (g_up σ (3, 0, 0) ((σ (1, 0, 0) 2).toNatClampNeg) (size)) (10, 0, 0) ((σ (1, 0, 0) 2).toNatClampNeg) ((-1))) (10, 1, 0) ((σ (1, 0, 0) 2).toNatClampNeg) ((-1))) (10, 2, 0) ((σ (1, 0, 0) 2).toNatClampNeg) ((-1))) (10, 3, 0) ((σ (1, 0, 0) 2).toNatClampNeg) ((-1))) (10, 4, 0) ((σ (1, 0, 0) 2).toNatClampNeg) ((-1))) (1, 0, 0)) ((σ (1, 0, 0) 2) + (1))) fl_X2_20 rfl (by decide +kernel) rfl rfl (Nat.le_of_ble_eq_true rfl) dX2_add_65 (fun H locs hG hS => ?_)
                    refine lv_aload_n hx hb dX2_add_68 rfl (lv_at hl 1 rfl) ?_
                    refine g_get (C := RX2) (T := TX2) (N := 3) (v := .int ((σ (1, 0, 0) 2) + (1))) hx hb hts inX2g hown hK hG (1, 0, 0) ⟨rfl, rfl⟩ (x_at_1 cy L ns kk (0) (0) ((g_up (g_up (g_up (g_up (g_up (g_up (g_up σ (3, 0, 0) ((σ (1, 0, 0) 2).toNatClampNeg) (size)) (10, 0, 0) ((σ (1, 0, 0) 2).toNatClampNeg) ((-1))) (10, 1, 0) ((σ (1, 0, 0) 2).toNatClampNeg) ((-1))) (10, 2, 0) ((σ (1, 0, 0) 2).toNatClampNeg) ((-1))) (10, 3, 0) ((σ (1, 0, 0) 2).toNatClampNeg) ((-1))) (10, 4, 0) ((σ (1, 0, 0) 2).toNatClampNeg) ((-1))) (1, 0, 0) (2) ((σ (1, 0, 0) 2) + (1))) (1, 0, 0))) rfl 2 (by decide) fl_X2_20 rfl dX2_add_69 ?_
                    refine lv_iconst (v := 1) hx hb dX2_add_72 (by decide) ?_
                    refine lv_isub hx hb dX2_add_73 ?_
                    exact s_iret hx hb hr hlk hG hS dX2_add_74 (by unfold x_addR; (repeat' split) <;> first | rfl | (exfalso; omega)) (by unfold x_addM; (repeat' split) <;> first | rfl | (exfalso; omega))
                  · exact absurd c_37_9 (by decide)
      · refine lv_iconst (v := (-1)) hx hb dX2_add_21 (by decide) ?_
        exact s_iret hx hb hr hlk hG hS dX2_add_22 (by unfold x_addR; (repeat' split) <;> first | rfl | (exfalso; omega)) (by unfold x_addM; (repeat' split) <;> first | rfl | (exfalso; omega))
set_option maxHeartbeats 4000000 in
set_option maxRecDepth 100000 in
theorem c_X2_putTerm (l : Launch) (D : va_G) (cy : Nat → ClassId) (L : g_S → Nat) (ns : Nat) (kk : Nat → Nat) (σ : g_S → Nat → Int32) (p x v : Int32) (h0 : 0 ≤ (σ (1, 0, 0) 2).toInt) (hn : (σ (1, 0, 0) 2).toInt ≤ 100) : x_Met l D cy L ns kk yX2_putTerm (.code yX2_putTerm cX2_putTerm 4 (some .boolean)) 1 σ [.ref (L (1, 0, 0)), .int (p), .int (x), .int (v)] (some (.int (g_b ((0 ≤ p.toInt ∧ p.toInt < (σ (1, 0, 0) 2).toInt) ∧ (0 ≤ x.toInt ∧ x.toInt < 5) ∧ (v.toInt = -1 ∨ (0 ≤ v.toInt ∧ v.toInt ≤ 999)))))) (x_putM σ p x v) := by
  refine g_Met.of (by decide) (Nat.le_of_ble_eq_true rfl) ?_
  intro pg e s m below meth c hx hb hr hlk hml hown hts hK hN H locs hG hS ls hl
  have hown : s.vm.findClass RX2 = some m.cls := hown
  have hl : lv_has ls 4 [(0, .ref (L (1, 0, 0))), (1, .int (p)), (2, .int (x)), (3, .int (v))] := hl
  refine lv_aload_n hx hb dX2_putTerm_0 rfl (lv_at hl 0 rfl) ?_
  refine lv_iload_n hx hb dX2_putTerm_1 rfl (lv_at hl 1 rfl) ?_
  refine g_cont (va_runV (As := [.int (p)]) (rest := []) ⟨hx, hb, hml, hown, hts⟩ (c_X2_has l D cy L ns kk σ (p)) (cwV 1 hts gV_X2_24 rfl rfl rfl (by decide +kernel) ⟨Nat.le_of_ble_eq_true rfl, Nat.le_of_ble_eq_true rfl⟩) (g_preV hK hN hG (x := (1, 0, 0)) ⟨rfl, rfl⟩ (q := (RX2, TX2, 3)) (x_at_1 cy L ns kk (0) (0) (σ (1, 0, 0))) rfl) rfl rfl hl.1 rfl (lv_room (Nat.le_of_ble_eq_true rfl)) dX2_putTerm_2 ⟨Nat.zero_le _, Nat.zero_le _⟩) hS (fun H locs hG hS => ?_)
  refine W.eq (g2 := F0 m 5 ls [.int (g_b (0 ≤ (p).toInt ∧ (p).toInt < (σ (1, 0, 0) 2).toInt))]) rfl ?_
  refine kz_b_eq (tgt := 27) hx hb dX2_putTerm_5 (by decide) (fun c_5_1 => ?_) (fun c_5_1 => ?_)
  · refine lv_iconst (v := 0) hx hb dX2_putTerm_27 (by decide) ?_
    exact s_zret hx hb hr hlk hG hS dX2_putTerm_28 rfl (by unfold g_b; (repeat' split) <;> first | rfl | (exfalso; omega)) (by unfold x_putM; (repeat' split) <;> first | rfl | (exfalso; omega))
  · refine lv_iload_n hx hb dX2_putTerm_8 rfl (lv_at hl 2 rfl) ?_
    refine g_cont (va_runSN (As := [.int (x)]) (rest := []) ⟨hx, hb, hml, hown, hts⟩ (c_X6_isIndex l D cy L ns kk σ (x)) ⟨va_cnB 1 hts (g_good cwd_X6_isIndex) rfl rfl rfl hN.1.1 (hts _ ini_X6) (by decide +kernel) ⟨Nat.le_of_ble_eq_true rfl, Nat.le_of_ble_eq_true rfl⟩, hts _ st_isIndex, trivial⟩ (g_preS hK hN hG) rfl rfl hl.1 rfl (lv_room (Nat.le_of_ble_eq_true rfl)) dX2_putTerm_9 ⟨Nat.zero_le _, Nat.zero_le _⟩) hS (fun H locs hG hS => ?_)
    refine W.eq (g2 := F0 m 12 ls [.int (g_b (0 ≤ (x).toInt ∧ (x).toInt < 5))]) rfl ?_
    refine kz_b_eq (tgt := 27) hx hb dX2_putTerm_12 (by decide) (fun c_12_2 => ?_) (fun c_12_2 => ?_)
    · refine lv_iconst (v := 0) hx hb dX2_putTerm_27 (by decide) ?_
      exact s_zret hx hb hr hlk hG hS dX2_putTerm_28 rfl (by unfold g_b; (repeat' split) <;> first | rfl | (exfalso; omega)) (by unfold x_putM; (repeat' split) <;> first | rfl | (exfalso; omega))
    · refine lv_iload_n hx hb dX2_putTerm_15 rfl (lv_at hl 3 rfl) ?_
      refine lv_iconst (v := (-1)) hx hb dX2_putTerm_16 (by decide) ?_
      refine kz_icmp_eq (X := (v).toInt) (Y := (-1)) hx hb rfl (by decide) dX2_putTerm_17 (tgt := 29) (by decide) (fun c_17_3 => ?_) (fun c_17_3 => ?_)
      · refine lv_aload_n hx hb dX2_putTerm_29 rfl (lv_at hl 0 rfl) ?_
        refine g_get (C := RX2) (T := TX2) (N := 3) (v := .ref (L (4, 0, 0))) hx hb hts inX2g hown hK hG (1, 0, 0) ⟨rfl, rfl⟩ (x_at_1 cy L ns kk (0) (0) (σ (1, 0, 0))) rfl 1 (by decide) fl_X2_17 rfl dX2_putTerm_30 ?_
        refine lv_iload_n hx hb dX2_putTerm_33 rfl (lv_at hl 2 rfl) ?_
        refine g_aald (n := 5) (v := .ref (L (10, (x).toNatClampNeg, 0))) hx hb hK hG (4, 0, 0) ⟨rfl, rfl⟩ 1 rfl rfl rfl (g_vp (by omega) (by omega)) rfl dX2_putTerm_34 ?_
        refine lv_iload_n hx hb dX2_putTerm_35 rfl (lv_at hl 1 rfl) ?_
        refine lv_iload_n hx hb dX2_putTerm_36 rfl (lv_at hl 3 rfl) ?_
        refine g_iast (n := 100) hx hb hK hG hS (10, (x).toNatClampNeg, 0) ⟨(by rw [g_cl]; omega), rfl⟩ 0 (fun _ => rfl) rfl (g_vp (by omega) (by omega)) dX2_putTerm_37 (fun H locs hG hS => ?_)
        refine lv_iconst (v := 1) hx hb dX2_putTerm_38 (by decide) ?_
        exact s_zret hx hb hr hlk hG hS dX2_putTerm_39 rfl (by unfold g_b; (repeat' split) <;> first | rfl | (exfalso; omega)) (by unfold x_putM; (repeat' split) <;> first | rfl | (exfalso; omega))
      · refine lv_iload_n hx hb dX2_putTerm_20 rfl (lv_at hl 3 rfl) ?_
        refine g_cont (va_runSN (As := [.int (v)]) (rest := []) ⟨hx, hb, hml, hown, hts⟩ (c_X6_isTerm l D cy L ns kk σ (v)) ⟨va_cnB 1 hts (g_good cwd_X6_isTerm) rfl rfl rfl hN.1.2 (hts _ ini_X6) (by decide +kernel) ⟨Nat.le_of_ble_eq_true rfl, Nat.le_of_ble_eq_true rfl⟩, hts _ st_isTerm, trivial⟩ (g_preS hK hN hG) rfl rfl hl.1 rfl (lv_room (Nat.le_of_ble_eq_true rfl)) dX2_putTerm_21 ⟨Nat.zero_le _, Nat.zero_le _⟩) hS (fun H locs hG hS => ?_)
        refine W.eq (g2 := F0 m 24 ls [.int (g_b (0 ≤ (v).toInt ∧ (v).toInt ≤ 999))]) rfl ?_
        refine kz_b_ne (tgt := 29) hx hb dX2_putTerm_24 (by decide) (fun c_24_4 => ?_) (fun c_24_4 => ?_)
        · refine lv_aload_n hx hb dX2_putTerm_29 rfl (lv_at hl 0 rfl) ?_
          refine g_get (C := RX2) (T := TX2) (N := 3) (v := .ref (L (4, 0, 0))) hx hb hts inX2g hown hK hG (1, 0, 0) ⟨rfl, rfl⟩ (x_at_1 cy L ns kk (0) (0) (σ (1, 0, 0))) rfl 1 (by decide) fl_X2_17 rfl dX2_putTerm_30 ?_
          refine lv_iload_n hx hb dX2_putTerm_33 rfl (lv_at hl 2 rfl) ?_
          refine g_aald (n := 5) (v := .ref (L (10, (x).toNatClampNeg, 0))) hx hb hK hG (4, 0, 0) ⟨rfl, rfl⟩ 1 rfl rfl rfl (g_vp (by omega) (by omega)) rfl dX2_putTerm_34 ?_
          refine lv_iload_n hx hb dX2_putTerm_35 rfl (lv_at hl 1 rfl) ?_
          refine lv_iload_n hx hb dX2_putTerm_36 rfl (lv_at hl 3 rfl) ?_
          refine g_iast (n := 100) hx hb hK hG hS (10, (x).toNatClampNeg, 0) ⟨(by rw [g_cl]; omega), rfl⟩ 0 (fun _ => rfl) rfl (g_vp (by omega) (by omega)) dX2_putTerm_37 (fun H locs hG hS => ?_)
          refine lv_iconst (v := 1) hx hb dX2_putTerm_38 (by decide) ?_
          exact s_zret hx hb hr hlk hG hS dX2_putTerm_39 rfl (by unfold g_b; (repeat' split) <;> first | rfl | (exfalso; omega)) (by unfold x_putM; (repeat' split) <;> first | rfl | (exfalso; omega))
        · refine lv_iconst (v := 0) hx hb dX2_putTerm_27 (by decide) ?_
          exact s_zret hx hb hr hlk hG hS dX2_putTerm_28 rfl (by unfold g_b; (repeat' split) <;> first | rfl | (exfalso; omega)) (by unfold x_putM; (repeat' split) <;> first | rfl | (exfalso; omega))
set_option maxHeartbeats 4000000 in
set_option maxRecDepth 100000 in
theorem lp_least (l : Launch) (D : va_G) (cy : Nat → ClassId) (L : g_S → Nat) (ns : Nat) (kk : Nat → Nat) (σ : g_S → Nat → Int32) {pg : Program} {e : Env} {s : State} {m : MethodId} {args : Array Value} {below : List Frame} {meth : Method} {c : Code} {Q : State → Prop} (C0 : g_C pg s m meth c args cX2_leastTermFrom (some .int) 6 RX2 D (x_tys cy)) (h0 : 0 ≤ (σ (1, 0, 0) 2).toInt) (hn : (σ (1, 0, 0) 2).toInt ≤ 100) (x low : Int32) :
    ∀ (n : Nat) (r : Nat) (acc : Int32) (H : Heap) (locs : List Loc) (ls : Array Slot), r + n = (σ (1, 0, 0) 2).toInt.toNat → g_H D vwCl (x_dom ns kk) L (fun z => x_K cy L ns kk z (σ z)) H → va_S (g_A (x_dom ns kk) L) s.heap H locs → lv_has ls 6 [(4, .int (nI r)), (3, .int (acc)), (0, .ref (L (1, 0, 0))), (1, .int (x)), (2, .int (low))] →
    (∀ (H : Heap) (locs : List Loc) (ls : Array Slot), g_H D vwCl (x_dom ns kk) L (fun z => x_K cy L ns kk z (σ z)) H → va_S (g_A (x_dom ns kk) L) s.heap H locs → lv_has ls 6 [(3, .int (x_leastGo σ x low n r acc)), (0, .ref (L (1, 0, 0)))] → W pg l e (g_R 2) s m args below meth c H locs 0 0 Q (F0 m 49 ls [])) →
    W pg l e (g_R 2) s m args below meth c H locs 0 0 Q (F0 m 5 ls []) := by
  obtain ⟨hx, hb, hr, hlk, hml, hown, hts, hK, hN⟩ := C0
  intro n
  induction n with
  | zero =>
    intro r acc H locs ls hv9 hG hS hl kk9
    have hz := g_nIT (show r < 2147483648 by omega)
    refine lv_iload hx hb dX2_leastTermFrom_5 (lv_at hl 0 rfl) ?_
    refine lv_aload_n hx hb dX2_leastTermFrom_7 rfl (lv_at hl 2 rfl) ?_
    refine g_get (C := RX2) (T := TX2) (N := 3) (v := .int (σ (1, 0, 0) 2)) hx hb hts inX2g hown hK hG (1, 0, 0) ⟨rfl, rfl⟩ (x_at_1 cy L ns kk (0) (0) (σ (1, 0, 0))) rfl 2 (by decide) fl_X2_20 rfl dX2_leastTermFrom_8 ?_
    refine kz_icmp_ge (X := ((r : Nat) : Int)) (Y := (σ (1, 0, 0) 2).toInt) hx hb (g_nIT (by omega)) rfl dX2_leastTermFrom_11 (tgt := 49) (by decide) (fun c_11_1 => ?_) (fun c_11_1 => ?_)
    · exact kk9 H locs ls hG hS (lv_sub hl [1, 2] rfl)
    · exact absurd c_11_1 (by omega)
  | succ n ih =>
    intro r acc H locs ls hv9 hG hS hl kk9
    have hz := g_nIT (show r < 2147483648 by omega)
    refine lv_iload hx hb dX2_leastTermFrom_5 (lv_at hl 0 rfl) ?_
    refine lv_aload_n hx hb dX2_leastTermFrom_7 rfl (lv_at hl 2 rfl) ?_
    refine g_get (C := RX2) (T := TX2) (N := 3) (v := .int (σ (1, 0, 0) 2)) hx hb hts inX2g hown hK hG (1, 0, 0) ⟨rfl, rfl⟩ (x_at_1 cy L ns kk (0) (0) (σ (1, 0, 0))) rfl 2 (by decide) fl_X2_20 rfl dX2_leastTermFrom_8 ?_
    refine kz_icmp_ge (X := ((r : Nat) : Int)) (Y := (σ (1, 0, 0) 2).toInt) hx hb (g_nIT (by omega)) rfl dX2_leastTermFrom_11 (tgt := 49) (by decide) (fun c_11_1 => ?_) (fun c_11_1 => ?_)
    · exact absurd c_11_1 (by omega)
    · refine lv_aload_n hx hb dX2_leastTermFrom_14 rfl (lv_at hl 2 rfl) ?_
      refine lv_iload hx hb dX2_leastTermFrom_15 (lv_at hl 0 rfl) ?_
      refine lv_iload_n hx hb dX2_leastTermFrom_17 rfl (lv_at hl 3 rfl) ?_
      refine g_cont (va_runV (As := [.int (nI r), .int (x)]) (rest := []) ⟨hx, hb, hml, hown, hts⟩ (c_X2_termOf l D cy L ns kk σ (nI r) (x) hn) (cwV 2 hts gV_X2_34 rfl rfl rfl (by decide +kernel) ⟨Nat.le_of_ble_eq_true rfl, Nat.le_of_ble_eq_true rfl⟩) (g_preV hK hN hG (x := (1, 0, 0)) ⟨rfl, rfl⟩ (q := (RX2, TX2, 3)) (x_at_1 cy L ns kk (0) (0) (σ (1, 0, 0))) rfl) rfl rfl hl.1 rfl (lv_room (Nat.le_of_ble_eq_true rfl)) dX2_leastTermFrom_18 ⟨Nat.zero_le _, Nat.zero_le _⟩) hS (fun H locs hG hS => ?_)
      refine W.eq (g2 := F0 m 21 ls [.int (x_termOf σ (nI r) (x))]) rfl ?_
      refine lv_istore (lv' := [(5, .int (x_termOf σ (nI r) (x))), (4, .int (nI r)), (3, .int (acc)), (0, .ref (L (1, 0, 0))), (1, .int (x)), (2, .int (low))]) hx hb dX2_leastTermFrom_21 hl (by decide) rfl (fun ls hl => ?_)
      refine lv_iload hx hb dX2_leastTermFrom_23 (lv_at hl 0 rfl) ?_
      refine lv_iload_n hx hb dX2_leastTermFrom_25 rfl (lv_at hl 5 rfl) ?_
      refine kz_icmp_lt (X := (x_termOf σ (nI r) (x)).toInt) (Y := (low).toInt) hx hb rfl rfl dX2_leastTermFrom_26 (tgt := 43) (by decide) (fun c_26_2 => ?_) (fun c_26_2 => ?_)
      · refine lv_iinc (v := nI (r + 1)) (lv' := [(4, .int (nI (r + 1))), (5, .int (x_termOf σ (nI r) (x))), (3, .int (acc)), (0, .ref (L (1, 0, 0))), (1, .int (x)), (2, .int (low))]) hx hb dX2_leastTermFrom_43 hl (k := 1) rfl (nI_1 (r)) (by decide) rfl (fun ls hl => ?_)
        refine lv_goto (tgt := 5) hx hb dX2_leastTermFrom_46 (by decide) ?_
        have e90 : x_leastGo σ x low (n + 1) r acc = x_leastGo σ x low n (r + 1) (acc) := (by rw [x_leastGo_s]; (repeat' split) <;> first | rfl | (exfalso; omega))
        rw [e90] at kk9
        exact ih (r + 1) (acc) H locs ls (by omega) hG hS (lv_sub hl [0, 2, 3, 4, 5] rfl) kk9
      · refine lv_iload_n hx hb dX2_leastTermFrom_29 rfl (lv_at hl 2 rfl) ?_
        refine lv_iconst (v := (-1)) hx hb dX2_leastTermFrom_30 (by decide) ?_
        refine kz_icmp_eq (X := (acc).toInt) (Y := (-1)) hx hb rfl (by decide) dX2_leastTermFrom_31 (tgt := 40) (by decide) (fun c_31_3 => ?_) (fun c_31_3 => ?_)
        · refine lv_iload hx hb dX2_leastTermFrom_40 (lv_at hl 0 rfl) ?_
          refine lv_istore_n (lv' := [(3, .int (x_termOf σ (nI r) (x))), (5, .int (x_termOf σ (nI r) (x))), (4, .int (nI r)), (0, .ref (L (1, 0, 0))), (1, .int (x)), (2, .int (low))]) hx hb dX2_leastTermFrom_42 rfl hl (by decide) rfl (fun ls hl => ?_)
          refine lv_iinc (v := nI (r + 1)) (lv' := [(4, .int (nI (r + 1))), (3, .int (x_termOf σ (nI r) (x))), (5, .int (x_termOf σ (nI r) (x))), (0, .ref (L (1, 0, 0))), (1, .int (x)), (2, .int (low))]) hx hb dX2_leastTermFrom_43 hl (k := 2) rfl (nI_1 (r)) (by decide) rfl (fun ls hl => ?_)
          refine lv_goto (tgt := 5) hx hb dX2_leastTermFrom_46 (by decide) ?_
          have e90 : x_leastGo σ x low (n + 1) r acc = x_leastGo σ x low n (r + 1) (x_termOf σ (nI r) (x)) := (by rw [x_leastGo_s]; (repeat' split) <;> first | rfl | (exfalso; omega))
          rw [e90] at kk9
          exact ih (r + 1) (x_termOf σ (nI r) (x)) H locs ls (by omega) hG hS (lv_sub hl [0, 1, 3, 4, 5] rfl) kk9
        · refine lv_iload hx hb dX2_leastTermFrom_34 (lv_at hl 0 rfl) ?_
          refine lv_iload_n hx hb dX2_leastTermFrom_36 rfl (lv_at hl 2 rfl) ?_
          refine kz_icmp_ge (X := (x_termOf σ (nI r) (x)).toInt) (Y := (acc).toInt) hx hb rfl rfl dX2_leastTermFrom_37 (tgt := 43) (by decide) (fun c_37_4 => ?_) (fun c_37_4 => ?_)
          · refine lv_iinc (v := nI (r + 1)) (lv' := [(4, .int (nI (r + 1))), (5, .int (x_termOf σ (nI r) (x))), (3, .int (acc)), (0, .ref (L (1, 0, 0))), (1, .int (x)), (2, .int (low))]) hx hb dX2_leastTermFrom_43 hl (k := 1) rfl (nI_1 (r)) (by decide) rfl (fun ls hl => ?_)
            refine lv_goto (tgt := 5) hx hb dX2_leastTermFrom_46 (by decide) ?_
            have e90 : x_leastGo σ x low (n + 1) r acc = x_leastGo σ x low n (r + 1) (acc) := (by rw [x_leastGo_s]; (repeat' split) <;> first | rfl | (exfalso; omega))
            rw [e90] at kk9
            exact ih (r + 1) (acc) H locs ls (by omega) hG hS (lv_sub hl [0, 2, 3, 4, 5] rfl) kk9
          · refine lv_iload hx hb dX2_leastTermFrom_40 (lv_at hl 0 rfl) ?_
            refine lv_istore_n (lv' := [(3, .int (x_termOf σ (nI r) (x))), (5, .int (x_termOf σ (nI r) (x))), (4, .int (nI r)), (0, .ref (L (1, 0, 0))), (1, .int (x)), (2, .int (low))]) hx hb dX2_leastTermFrom_42 rfl hl (by decide) rfl (fun ls hl => ?_)
            refine lv_iinc (v := nI (r + 1)) (lv' := [(4, .int (nI (r + 1))), (3, .int (x_termOf σ (nI r) (x))), (5, .int (x_termOf σ (nI r) (x))), (0, .ref (L (1, 0, 0))), (1, .int (x)), (2, .int (low))]) hx hb dX2_leastTermFrom_43 hl (k := 2) rfl (nI_1 (r)) (by decide) rfl (fun ls hl => ?_)
            refine lv_goto (tgt := 5) hx hb dX2_leastTermFrom_46 (by decide) ?_
            have e90 : x_leastGo σ x low (n + 1) r acc = x_leastGo σ x low n (r + 1) (x_termOf σ (nI r) (x)) := (by rw [x_leastGo_s]; (repeat' split) <;> first | rfl | (exfalso; omega))
            rw [e90] at kk9
            exact ih (r + 1) (x_termOf σ (nI r) (x)) H locs ls (by omega) hG hS (lv_sub hl [0, 1, 3, 4, 5] rfl) kk9
set_option maxHeartbeats 4000000 in
set_option maxRecDepth 100000 in
theorem c_X2_leastTermFrom (l : Launch) (D : va_G) (cy : Nat → ClassId) (L : g_S → Nat) (ns : Nat) (kk : Nat → Nat) (σ : g_S → Nat → Int32) (x low : Int32) (h0 : 0 ≤ (σ (1, 0, 0) 2).toInt) (hn : (σ (1, 0, 0) 2).toInt ≤ 100) : x_Met l D cy L ns kk yX2_leastTermFrom (.code yX2_leastTermFrom cX2_leastTermFrom 6 (some .int)) 2 σ [.ref (L (1, 0, 0)), .int (x), .int (low)] (some (.int (x_least σ x low))) σ := by
  refine g_Met.of (by decide) (Nat.le_of_ble_eq_true rfl) ?_
  intro pg e s m below meth c hx hb hr hlk hml hown hts hK hN H locs hG hS ls hl
  have hown : s.vm.findClass RX2 = some m.cls := hown
  have hl : lv_has ls 6 [(0, .ref (L (1, 0, 0))), (1, .int (x)), (2, .int (low))] := hl
  refine lv_iconst (v := (-1)) hx hb dX2_leastTermFrom_0 (by decide) ?_
  refine lv_istore_n (lv' := [(3, .int (-1)), (0, .ref (L (1, 0, 0))), (1, .int (x)), (2, .int (low))]) hx hb dX2_leastTermFrom_1 rfl hl (by decide) rfl (fun ls hl => ?_)
  refine lv_iconst (v := 0) hx hb dX2_leastTermFrom_2 (by decide) ?_
  refine lv_istore (lv' := [(4, .int 0), (3, .int (-1)), (0, .ref (L (1, 0, 0))), (1, .int (x)), (2, .int (low))]) hx hb dX2_leastTermFrom_3 hl (by decide) rfl (fun ls hl => ?_)
  refine lp_least l D cy L ns kk σ ⟨hx, hb, hr, hlk, hml, hown, hts, hK, hN⟩ h0 hn x low (σ (1, 0, 0) 2).toInt.toNat 0 (-1) H locs ls (by omega) hG hS (lv_sub hl [0, 1, 2, 3, 4] rfl) (fun H locs ls hG hS hl => ?_)
  refine lv_iload_n hx hb dX2_leastTermFrom_49 rfl (lv_at hl 0 rfl) ?_
  exact s_iret hx hb hr hlk hG hS dX2_leastTermFrom_50 rfl rfl
set_option maxHeartbeats 4000000 in
set_option maxRecDepth 100000 in
theorem lp_great (l : Launch) (D : va_G) (cy : Nat → ClassId) (L : g_S → Nat) (ns : Nat) (kk : Nat → Nat) (σ : g_S → Nat → Int32) {pg : Program} {e : Env} {s : State} {m : MethodId} {args : Array Value} {below : List Frame} {meth : Method} {c : Code} {Q : State → Prop} (C0 : g_C pg s m meth c args cX2_greatestTermBelow (some .int) 6 RX2 D (x_tys cy)) (h0 : 0 ≤ (σ (1, 0, 0) 2).toInt) (hn : (σ (1, 0, 0) 2).toInt ≤ 100) (x high : Int32) :
    ∀ (n : Nat) (r : Nat) (acc : Int32) (H : Heap) (locs : List Loc) (ls : Array Slot), r + n = (σ (1, 0, 0) 2).toInt.toNat → g_H D vwCl (x_dom ns kk) L (fun z => x_K cy L ns kk z (σ z)) H → va_S (g_A (x_dom ns kk) L) s.heap H locs → lv_has ls 6 [(4, .int (nI r)), (3, .int (acc)), (0, .ref (L (1, 0, 0))), (1, .int (x)), (2, .int (high))] →
    (∀ (H : Heap) (locs : List Loc) (ls : Array Slot), g_H D vwCl (x_dom ns kk) L (fun z => x_K cy L ns kk z (σ z)) H → va_S (g_A (x_dom ns kk) L) s.heap H locs → lv_has ls 6 [(3, .int (x_greatGo σ x high n r acc)), (0, .ref (L (1, 0, 0)))] → W pg l e (g_R 2) s m args below meth c H locs 0 0 Q (F0 m 44 ls [])) →
    W pg l e (g_R 2) s m args below meth c H locs 0 0 Q (F0 m 5 ls []) := by
  obtain ⟨hx, hb, hr, hlk, hml, hown, hts, hK, hN⟩ := C0
  intro n
  induction n with
  | zero =>
    intro r acc H locs ls hv9 hG hS hl kk9
    have hz := g_nIT (show r < 2147483648 by omega)
    refine lv_iload hx hb dX2_greatestTermBelow_5 (lv_at hl 0 rfl) ?_
    refine lv_aload_n hx hb dX2_greatestTermBelow_7 rfl (lv_at hl 2 rfl) ?_
    refine g_get (C := RX2) (T := TX2) (N := 3) (v := .int (σ (1, 0, 0) 2)) hx hb hts inX2g hown hK hG (1, 0, 0) ⟨rfl, rfl⟩ (x_at_1 cy L ns kk (0) (0) (σ (1, 0, 0))) rfl 2 (by decide) fl_X2_20 rfl dX2_greatestTermBelow_8 ?_
    refine kz_icmp_ge (X := ((r : Nat) : Int)) (Y := (σ (1, 0, 0) 2).toInt) hx hb (g_nIT (by omega)) rfl dX2_greatestTermBelow_11 (tgt := 44) (by decide) (fun c_11_1 => ?_) (fun c_11_1 => ?_)
    · exact kk9 H locs ls hG hS (lv_sub hl [1, 2] rfl)
    · exact absurd c_11_1 (by omega)
  | succ n ih =>
    intro r acc H locs ls hv9 hG hS hl kk9
    have hz := g_nIT (show r < 2147483648 by omega)
    refine lv_iload hx hb dX2_greatestTermBelow_5 (lv_at hl 0 rfl) ?_
    refine lv_aload_n hx hb dX2_greatestTermBelow_7 rfl (lv_at hl 2 rfl) ?_
    refine g_get (C := RX2) (T := TX2) (N := 3) (v := .int (σ (1, 0, 0) 2)) hx hb hts inX2g hown hK hG (1, 0, 0) ⟨rfl, rfl⟩ (x_at_1 cy L ns kk (0) (0) (σ (1, 0, 0))) rfl 2 (by decide) fl_X2_20 rfl dX2_greatestTermBelow_8 ?_
    refine kz_icmp_ge (X := ((r : Nat) : Int)) (Y := (σ (1, 0, 0) 2).toInt) hx hb (g_nIT (by omega)) rfl dX2_greatestTermBelow_11 (tgt := 44) (by decide) (fun c_11_1 => ?_) (fun c_11_1 => ?_)
    · exact absurd c_11_1 (by omega)
    · refine lv_aload_n hx hb dX2_greatestTermBelow_14 rfl (lv_at hl 2 rfl) ?_
      refine lv_iload hx hb dX2_greatestTermBelow_15 (lv_at hl 0 rfl) ?_
      refine lv_iload_n hx hb dX2_greatestTermBelow_17 rfl (lv_at hl 3 rfl) ?_
      refine g_cont (va_runV (As := [.int (nI r), .int (x)]) (rest := []) ⟨hx, hb, hml, hown, hts⟩ (c_X2_termOf l D cy L ns kk σ (nI r) (x) hn) (cwV 2 hts gV_X2_34 rfl rfl rfl (by decide +kernel) ⟨Nat.le_of_ble_eq_true rfl, Nat.le_of_ble_eq_true rfl⟩) (g_preV hK hN hG (x := (1, 0, 0)) ⟨rfl, rfl⟩ (q := (RX2, TX2, 3)) (x_at_1 cy L ns kk (0) (0) (σ (1, 0, 0))) rfl) rfl rfl hl.1 rfl (lv_room (Nat.le_of_ble_eq_true rfl)) dX2_greatestTermBelow_18 ⟨Nat.zero_le _, Nat.zero_le _⟩) hS (fun H locs hG hS => ?_)
      refine W.eq (g2 := F0 m 21 ls [.int (x_termOf σ (nI r) (x))]) rfl ?_
      refine lv_istore (lv' := [(5, .int (x_termOf σ (nI r) (x))), (4, .int (nI r)), (3, .int (acc)), (0, .ref (L (1, 0, 0))), (1, .int (x)), (2, .int (high))]) hx hb dX2_greatestTermBelow_21 hl (by decide) rfl (fun ls hl => ?_)
      refine lv_iload hx hb dX2_greatestTermBelow_23 (lv_at hl 0 rfl) ?_
      refine lv_iload_n hx hb dX2_greatestTermBelow_25 rfl (lv_at hl 5 rfl) ?_
      refine kz_icmp_ge (X := (x_termOf σ (nI r) (x)).toInt) (Y := (high).toInt) hx hb rfl rfl dX2_greatestTermBelow_26 (tgt := 38) (by decide) (fun c_26_2 => ?_) (fun c_26_2 => ?_)
      · refine lv_iinc (v := nI (r + 1)) (lv' := [(4, .int (nI (r + 1))), (5, .int (x_termOf σ (nI r) (x))), (3, .int (acc)), (0, .ref (L (1, 0, 0))), (1, .int (x)), (2, .int (high))]) hx hb dX2_greatestTermBelow_38 hl (k := 1) rfl (nI_1 (r)) (by decide) rfl (fun ls hl => ?_)
        refine lv_goto (tgt := 5) hx hb dX2_greatestTermBelow_41 (by decide) ?_
        have e90 : x_greatGo σ x high (n + 1) r acc = x_greatGo σ x high n (r + 1) (acc) := (by rw [x_greatGo_s]; (repeat' split) <;> first | rfl | (exfalso; omega))
        rw [e90] at kk9
        exact ih (r + 1) (acc) H locs ls (by omega) hG hS (lv_sub hl [0, 2, 3, 4, 5] rfl) kk9
      · refine lv_iload hx hb dX2_greatestTermBelow_29 (lv_at hl 0 rfl) ?_
        refine lv_iload_n hx hb dX2_greatestTermBelow_31 rfl (lv_at hl 2 rfl) ?_
        refine kz_icmp_le (X := (x_termOf σ (nI r) (x)).toInt) (Y := (acc).toInt) hx hb rfl rfl dX2_greatestTermBelow_32 (tgt := 38) (by decide) (fun c_32_3 => ?_) (fun c_32_3 => ?_)
        · refine lv_iinc (v := nI (r + 1)) (lv' := [(4, .int (nI (r + 1))), (5, .int (x_termOf σ (nI r) (x))), (3, .int (acc)), (0, .ref (L (1, 0, 0))), (1, .int (x)), (2, .int (high))]) hx hb dX2_greatestTermBelow_38 hl (k := 1) rfl (nI_1 (r)) (by decide) rfl (fun ls hl => ?_)
          refine lv_goto (tgt := 5) hx hb dX2_greatestTermBelow_41 (by decide) ?_
          have e90 : x_greatGo σ x high (n + 1) r acc = x_greatGo σ x high n (r + 1) (acc) := (by rw [x_greatGo_s]; (repeat' split) <;> first | rfl | (exfalso; omega))
          rw [e90] at kk9
          exact ih (r + 1) (acc) H locs ls (by omega) hG hS (lv_sub hl [0, 2, 3, 4, 5] rfl) kk9
        · refine lv_iload hx hb dX2_greatestTermBelow_35 (lv_at hl 0 rfl) ?_
          refine lv_istore_n (lv' := [(3, .int (x_termOf σ (nI r) (x))), (5, .int (x_termOf σ (nI r) (x))), (4, .int (nI r)), (0, .ref (L (1, 0, 0))), (1, .int (x)), (2, .int (high))]) hx hb dX2_greatestTermBelow_37 rfl hl (by decide) rfl (fun ls hl => ?_)
          refine lv_iinc (v := nI (r + 1)) (lv' := [(4, .int (nI (r + 1))), (3, .int (x_termOf σ (nI r) (x))), (5, .int (x_termOf σ (nI r) (x))), (0, .ref (L (1, 0, 0))), (1, .int (x)), (2, .int (high))]) hx hb dX2_greatestTermBelow_38 hl (k := 2) rfl (nI_1 (r)) (by decide) rfl (fun ls hl => ?_)
          refine lv_goto (tgt := 5) hx hb dX2_greatestTermBelow_41 (by decide) ?_
          have e90 : x_greatGo σ x high (n + 1) r acc = x_greatGo σ x high n (r + 1) (x_termOf σ (nI r) (x)) := (by rw [x_greatGo_s]; (repeat' split) <;> first | rfl | (exfalso; omega))
          rw [e90] at kk9
          exact ih (r + 1) (x_termOf σ (nI r) (x)) H locs ls (by omega) hG hS (lv_sub hl [0, 1, 3, 4, 5] rfl) kk9
set_option maxHeartbeats 4000000 in
set_option maxRecDepth 100000 in
theorem c_X2_greatestTermBelow (l : Launch) (D : va_G) (cy : Nat → ClassId) (L : g_S → Nat) (ns : Nat) (kk : Nat → Nat) (σ : g_S → Nat → Int32) (x high : Int32) (h0 : 0 ≤ (σ (1, 0, 0) 2).toInt) (hn : (σ (1, 0, 0) 2).toInt ≤ 100) : x_Met l D cy L ns kk yX2_greatestTermBelow (.code yX2_greatestTermBelow cX2_greatestTermBelow 6 (some .int)) 2 σ [.ref (L (1, 0, 0)), .int (x), .int (high)] (some (.int (x_great σ x high))) σ := by
  refine g_Met.of (by decide) (Nat.le_of_ble_eq_true rfl) ?_
  intro pg e s m below meth c hx hb hr hlk hml hown hts hK hN H locs hG hS ls hl
  have hown : s.vm.findClass RX2 = some m.cls := hown
  have hl : lv_has ls 6 [(0, .ref (L (1, 0, 0))), (1, .int (x)), (2, .int (high))] := hl
  refine lv_iconst (v := (-1)) hx hb dX2_greatestTermBelow_0 (by decide) ?_
  refine lv_istore_n (lv' := [(3, .int (-1)), (0, .ref (L (1, 0, 0))), (1, .int (x)), (2, .int (high))]) hx hb dX2_greatestTermBelow_1 rfl hl (by decide) rfl (fun ls hl => ?_)
  refine lv_iconst (v := 0) hx hb dX2_greatestTermBelow_2 (by decide) ?_
  refine lv_istore (lv' := [(4, .int 0), (3, .int (-1)), (0, .ref (L (1, 0, 0))), (1, .int (x)), (2, .int (high))]) hx hb dX2_greatestTermBelow_3 hl (by decide) rfl (fun ls hl => ?_)
  refine lp_great l D cy L ns kk σ ⟨hx, hb, hr, hlk, hml, hown, hts, hK, hN⟩ h0 hn x high (σ (1, 0, 0) 2).toInt.toNat 0 (-1) H locs ls (by omega) hG hS (lv_sub hl [0, 1, 2, 3, 4] rfl) (fun H locs ls hG hS hl => ?_)
  refine lv_iload_n hx hb dX2_greatestTermBelow_44 rfl (lv_at hl 0 rfl) ?_
  exact s_iret hx hb hr hlk hG hS dX2_greatestTermBelow_45 rfl rfl
set_option maxHeartbeats 4000000 in
set_option maxRecDepth 100000 in
theorem lp_cnt (l : Launch) (D : va_G) (cy : Nat → ClassId) (L : g_S → Nat) (ns : Nat) (kk : Nat → Nat) (σ : g_S → Nat → Int32) {pg : Program} {e : Env} {s : State} {m : MethodId} {args : Array Value} {below : List Frame} {meth : Method} {c : Code} {Q : State → Prop} (C0 : g_C pg s m meth c args cX2_countOfTerm (some .int) 5 RX2 D (x_tys cy)) (h0 : 0 ≤ (σ (1, 0, 0) 2).toInt) (hn : (σ (1, 0, 0) 2).toInt ≤ 100) (x t : Int32) :
    ∀ (n : Nat) (r : Nat) (acc : Int32) (H : Heap) (locs : List Loc) (ls : Array Slot), r + n = (σ (1, 0, 0) 2).toInt.toNat → g_H D vwCl (x_dom ns kk) L (fun z => x_K cy L ns kk z (σ z)) H → va_S (g_A (x_dom ns kk) L) s.heap H locs → lv_has ls 5 [(4, .int (nI r)), (3, .int (acc)), (0, .ref (L (1, 0, 0))), (1, .int (x)), (2, .int (t))] →
    (∀ (H : Heap) (locs : List Loc) (ls : Array Slot), g_H D vwCl (x_dom ns kk) L (fun z => x_K cy L ns kk z (σ z)) H → va_S (g_A (x_dom ns kk) L) s.heap H locs → lv_has ls 5 [(3, .int (x_cntGo σ x t n r acc)), (0, .ref (L (1, 0, 0)))] → W pg l e (g_R 2) s m args below meth c H locs 0 0 Q (F0 m 34 ls [])) →
    W pg l e (g_R 2) s m args below meth c H locs 0 0 Q (F0 m 5 ls []) := by
  obtain ⟨hx, hb, hr, hlk, hml, hown, hts, hK, hN⟩ := C0
  intro n
  induction n with
  | zero =>
    intro r acc H locs ls hv9 hG hS hl kk9
    have hz := g_nIT (show r < 2147483648 by omega)
    refine lv_iload hx hb dX2_countOfTerm_5 (lv_at hl 0 rfl) ?_
    refine lv_aload_n hx hb dX2_countOfTerm_7 rfl (lv_at hl 2 rfl) ?_
    refine g_get (C := RX2) (T := TX2) (N := 3) (v := .int (σ (1, 0, 0) 2)) hx hb hts inX2g hown hK hG (1, 0, 0) ⟨rfl, rfl⟩ (x_at_1 cy L ns kk (0) (0) (σ (1, 0, 0))) rfl 2 (by decide) fl_X2_20 rfl dX2_countOfTerm_8 ?_
    refine kz_icmp_ge (X := ((r : Nat) : Int)) (Y := (σ (1, 0, 0) 2).toInt) hx hb (g_nIT (by omega)) rfl dX2_countOfTerm_11 (tgt := 34) (by decide) (fun c_11_1 => ?_) (fun c_11_1 => ?_)
    · exact kk9 H locs ls hG hS (lv_sub hl [1, 2] rfl)
    · exact absurd c_11_1 (by omega)
  | succ n ih =>
    intro r acc H locs ls hv9 hG hS hl kk9
    have hz := g_nIT (show r < 2147483648 by omega)
    refine lv_iload hx hb dX2_countOfTerm_5 (lv_at hl 0 rfl) ?_
    refine lv_aload_n hx hb dX2_countOfTerm_7 rfl (lv_at hl 2 rfl) ?_
    refine g_get (C := RX2) (T := TX2) (N := 3) (v := .int (σ (1, 0, 0) 2)) hx hb hts inX2g hown hK hG (1, 0, 0) ⟨rfl, rfl⟩ (x_at_1 cy L ns kk (0) (0) (σ (1, 0, 0))) rfl 2 (by decide) fl_X2_20 rfl dX2_countOfTerm_8 ?_
    refine kz_icmp_ge (X := ((r : Nat) : Int)) (Y := (σ (1, 0, 0) 2).toInt) hx hb (g_nIT (by omega)) rfl dX2_countOfTerm_11 (tgt := 34) (by decide) (fun c_11_1 => ?_) (fun c_11_1 => ?_)
    · exact absurd c_11_1 (by omega)
    · refine lv_aload_n hx hb dX2_countOfTerm_14 rfl (lv_at hl 2 rfl) ?_
      refine lv_iload hx hb dX2_countOfTerm_15 (lv_at hl 0 rfl) ?_
      refine lv_iload_n hx hb dX2_countOfTerm_17 rfl (lv_at hl 3 rfl) ?_
      refine g_cont (va_runV (As := [.int (nI r), .int (x)]) (rest := []) ⟨hx, hb, hml, hown, hts⟩ (c_X2_termOf l D cy L ns kk σ (nI r) (x) hn) (cwV 2 hts gV_X2_34 rfl rfl rfl (by decide +kernel) ⟨Nat.le_of_ble_eq_true rfl, Nat.le_of_ble_eq_true rfl⟩) (g_preV hK hN hG (x := (1, 0, 0)) ⟨rfl, rfl⟩ (q := (RX2, TX2, 3)) (x_at_1 cy L ns kk (0) (0) (σ (1, 0, 0))) rfl) rfl rfl hl.1 rfl (lv_room (Nat.le_of_ble_eq_true rfl)) dX2_countOfTerm_18 ⟨Nat.zero_le _, Nat.zero_le _⟩) hS (fun H locs hG hS => ?_)
      refine W.eq (g2 := F0 m 21 ls [.int (x_termOf σ (nI r) (x))]) rfl ?_
      refine lv_iload_n hx hb dX2_countOfTerm_21 rfl (lv_at hl 4 rfl) ?_
      refine kz_icmp_ne (X := (x_termOf σ (nI r) (x)).toInt) (Y := (t).toInt) hx hb rfl rfl dX2_countOfTerm_22 (tgt := 28) (by decide) (fun c_22_2 => ?_) (fun c_22_2 => ?_)
      · refine lv_iinc (v := nI (r + 1)) (lv' := [(4, .int (nI (r + 1))), (3, .int (acc)), (0, .ref (L (1, 0, 0))), (1, .int (x)), (2, .int (t))]) hx hb dX2_countOfTerm_28 hl (k := 0) rfl (nI_1 (r)) (by decide) rfl (fun ls hl => ?_)
        refine lv_goto (tgt := 5) hx hb dX2_countOfTerm_31 (by decide) ?_
        have e90 : x_cntGo σ x t (n + 1) r acc = x_cntGo σ x t n (r + 1) (acc) := (by rw [x_cntGo_s]; (repeat' split) <;> first | rfl | (exfalso; omega))
        rw [e90] at kk9
        exact ih (r + 1) (acc) H locs ls (by omega) hG hS (lv_sub hl [0, 1, 2, 3, 4] rfl) kk9
      · refine lv_iinc (v := acc + 1) (lv' := [(3, .int (acc + 1)), (4, .int (nI r)), (0, .ref (L (1, 0, 0))), (1, .int (x)), (2, .int (t))]) hx hb dX2_countOfTerm_25 hl (k := 1) rfl rfl (by decide) rfl (fun ls hl => ?_)
        refine lv_iinc (v := nI (r + 1)) (lv' := [(4, .int (nI (r + 1))), (3, .int (acc + 1)), (0, .ref (L (1, 0, 0))), (1, .int (x)), (2, .int (t))]) hx hb dX2_countOfTerm_28 hl (k := 1) rfl (nI_1 (r)) (by decide) rfl (fun ls hl => ?_)
        refine lv_goto (tgt := 5) hx hb dX2_countOfTerm_31 (by decide) ?_
        have e90 : x_cntGo σ x t (n + 1) r acc = x_cntGo σ x t n (r + 1) (acc + 1) := (by rw [x_cntGo_s]; (repeat' split) <;> first | rfl | (exfalso; omega))
        rw [e90] at kk9
        exact ih (r + 1) (acc + 1) H locs ls (by omega) hG hS (lv_sub hl [0, 1, 2, 3, 4] rfl) kk9
set_option maxHeartbeats 4000000 in
set_option maxRecDepth 100000 in
theorem c_X2_countOfTerm (l : Launch) (D : va_G) (cy : Nat → ClassId) (L : g_S → Nat) (ns : Nat) (kk : Nat → Nat) (σ : g_S → Nat → Int32) (x t : Int32) (h0 : 0 ≤ (σ (1, 0, 0) 2).toInt) (hn : (σ (1, 0, 0) 2).toInt ≤ 100) : x_Met l D cy L ns kk yX2_countOfTerm (.code yX2_countOfTerm cX2_countOfTerm 5 (some .int)) 2 σ [.ref (L (1, 0, 0)), .int (x), .int (t)] (some (.int (x_cnt σ x t))) σ := by
  refine g_Met.of (by decide) (Nat.le_of_ble_eq_true rfl) ?_
  intro pg e s m below meth c hx hb hr hlk hml hown hts hK hN H locs hG hS ls hl
  have hown : s.vm.findClass RX2 = some m.cls := hown
  have hl : lv_has ls 5 [(0, .ref (L (1, 0, 0))), (1, .int (x)), (2, .int (t))] := hl
  refine lv_iconst (v := 0) hx hb dX2_countOfTerm_0 (by decide) ?_
  refine lv_istore_n (lv' := [(3, .int 0), (0, .ref (L (1, 0, 0))), (1, .int (x)), (2, .int (t))]) hx hb dX2_countOfTerm_1 rfl hl (by decide) rfl (fun ls hl => ?_)
  refine lv_iconst (v := 0) hx hb dX2_countOfTerm_2 (by decide) ?_
  refine lv_istore (lv' := [(4, .int 0), (3, .int 0), (0, .ref (L (1, 0, 0))), (1, .int (x)), (2, .int (t))]) hx hb dX2_countOfTerm_3 hl (by decide) rfl (fun ls hl => ?_)
  refine lp_cnt l D cy L ns kk σ ⟨hx, hb, hr, hlk, hml, hown, hts, hK, hN⟩ h0 hn x t (σ (1, 0, 0) 2).toInt.toNat 0 0 H locs ls (by omega) hG hS (lv_sub hl [0, 1, 2, 3, 4] rfl) (fun H locs ls hG hS hl => ?_)
  refine lv_iload_n hx hb dX2_countOfTerm_34 rfl (lv_at hl 0 rfl) ?_
  exact s_iret hx hb hr hlk hG hS dX2_countOfTerm_35 rfl rfl
