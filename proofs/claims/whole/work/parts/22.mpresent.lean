/-! the reference: presenting and sorting -/
def m_step1 (σ : g_S → Nat → Int32) (u v fr : Int32) (k : Nat) : g_S → Nat → Int32 := g_up σ (1, 19, 0) ((100 * (u).toInt) + ((k : Nat) : Int)).toNat (σ (1, 17, 0) (((100 * ((5 * (u).toInt) + (v).toInt)) + (fr).toInt) + ((k : Nat) : Int)).toNat)
def m_rec (σ : g_S → Nat → Int32) (u v fr : Int32) (k : Nat) : Int32 := σ (1, 17, 0) (((100 * ((5 * (u).toInt) + (v).toInt)) + (fr).toInt) + ((k : Nat) : Int)).toNat
def m_grow (σ : g_S → Nat → Int32) (z : Int) (b : Int32) : g_S → Nat → Int32 := g_up (g_up σ (1, 22, 0) z.toNat (σ (1, 22, 0) z.toNat + 1)) (1, 23, 0) z.toNat (σ (1, 23, 0) z.toNat + b)
def m_fresh (σ : g_S → Nat → Int32) (z : Int) (i b : Int32) : g_S → Nat → Int32 := g_up (g_up (g_up σ (1, 21, 0) z.toNat i) (1, 22, 0) z.toNat 1) (1, 23, 0) z.toNat b
def m_presGo (u v fr : Int32) : Nat → Nat → Nat → (g_S → Nat → Int32) → (g_S → Nat → Int32) × Nat
  | 0, _, pt, σ => (σ, pt)
  | n + 1, k, pt, σ => if 0 < ((pt : Nat) : Int) ∧ (σ (1, 23, 0) ((((100 * (u).toInt) + ((pt : Nat) : Int)) - 1)).toNat + σ (1, 2, 0) ((m_rec σ u v fr k).toInt).toNat).toInt ≤ (σ (1, 12, 0) ((u).toInt).toNat).toInt then m_presGo u v fr n (k + 1) pt (m_grow (m_step1 σ u v fr k) (((100 * (u).toInt) + ((pt : Nat) : Int)) - 1) (σ (1, 2, 0) ((m_rec σ u v fr k).toInt).toNat)) else m_presGo u v fr n (k + 1) (pt + 1) (m_fresh (m_step1 σ u v fr k) ((((100 * (u).toInt) + ((pt : Nat) : Int)) - 1) + 1) (nI k) (σ (1, 2, 0) ((m_rec σ u v fr k).toInt).toNat))
theorem m_presGo_s (u v fr : Int32) (n k pt : Nat) (σ : g_S → Nat → Int32) : m_presGo u v fr (n + 1) k pt σ = if 0 < ((pt : Nat) : Int) ∧ (σ (1, 23, 0) ((((100 * (u).toInt) + ((pt : Nat) : Int)) - 1)).toNat + σ (1, 2, 0) ((m_rec σ u v fr k).toInt).toNat).toInt ≤ (σ (1, 12, 0) ((u).toInt).toNat).toInt then m_presGo u v fr n (k + 1) pt (m_grow (m_step1 σ u v fr k) (((100 * (u).toInt) + ((pt : Nat) : Int)) - 1) (σ (1, 2, 0) ((m_rec σ u v fr k).toInt).toNat)) else m_presGo u v fr n (k + 1) (pt + 1) (m_fresh (m_step1 σ u v fr k) ((((100 * (u).toInt) + ((pt : Nat) : Int)) - 1) + 1) (nI k) (σ (1, 2, 0) ((m_rec σ u v fr k).toInt).toNat)) := rfl
theorem m_presGo_le (u v fr : Int32) : ∀ (n k pt : Nat) (σ : g_S → Nat → Int32), (m_presGo u v fr n k pt σ).2 ≤ pt + n := by
  intro n
  induction n with
  | zero => intro k pt σ; exact Nat.le_refl _
  | succ n ih =>
    intro k pt σ
    rw [m_presGo_s]
    split
    · exact Nat.le_trans (ih _ _ _) (by omega)
    · exact Nat.le_trans (ih _ _ _) (by omega)
def m_pres (σ : g_S → Nat → Int32) (u v fr nn : Int32) : (g_S → Nat → Int32) × Nat := m_presGo u v fr nn.toInt.toNat 0 0 (g_up σ (1, 18, 0) ((u).toInt).toNat nn)
def m_presM (σ : g_S → Nat → Int32) (u v fr nn : Int32) : g_S → Nat → Int32 := g_up (m_pres σ u v fr nn).1 (1, 20, 0) ((u).toInt).toNat (nI (m_pres σ u v fr nn).2)
def m_presentR (σ : g_S → Nat → Int32) (u v fr nn : Int32) : Int32 := if (0 ≤ (u).toInt ∧ (u).toInt ≤ ((σ (0, 0, 0) 10).toInt - 1)) ∧ (σ (2, 13, 0) ((u).toInt).toNat).toInt = 0 then (if (0 ≤ (v).toInt ∧ (v).toInt ≤ (if (σ (1, 11, 0) ((u).toInt).toNat &&& 4).toInt = 4 then (4 : Int) else 0)) ∧ 0 ≤ (σ (1, 16, 0) ((5 * (u).toInt) + (v).toInt).toNat).toInt then (if 1 ≤ (nn).toInt then (if (fr).toInt < 0 ∨ (σ (1, 16, 0) ((5 * (u).toInt) + (v).toInt).toNat).toInt < (fr).toInt ∨ (σ (1, 16, 0) ((5 * (u).toInt) + (v).toInt).toNat).toInt - (fr).toInt < (nn).toInt then -105 else nI (m_pres σ u v fr nn).2) else -107) else -104) else -101
def m_presentM (σ : g_S → Nat → Int32) (u v fr nn : Int32) : g_S → Nat → Int32 := if (0 ≤ (u).toInt ∧ (u).toInt ≤ ((σ (0, 0, 0) 10).toInt - 1)) ∧ (σ (2, 13, 0) ((u).toInt).toNat).toInt = 0 then (if (0 ≤ (v).toInt ∧ (v).toInt ≤ (if (σ (1, 11, 0) ((u).toInt).toNat &&& 4).toInt = 4 then (4 : Int) else 0)) ∧ 0 ≤ (σ (1, 16, 0) ((5 * (u).toInt) + (v).toInt).toNat).toInt then (if 1 ≤ (nn).toInt then (if (fr).toInt < 0 ∨ (σ (1, 16, 0) ((5 * (u).toInt) + (v).toInt).toNat).toInt < (fr).toInt ∨ (σ (1, 16, 0) ((5 * (u).toInt) + (v).toInt).toNat).toInt - (fr).toInt < (nn).toInt then m_tellM σ u 105 else m_presM σ u v fr nn) else m_tellM σ u 107) else m_tellM σ u 104) else σ
def m_prI (u v fr : Int32) (N : Nat) (σ : g_S → Nat → Int32) : Prop := ∀ t : Nat, t < N → 0 ≤ (σ (1, 17, 0) (((100 * ((5 * (u).toInt) + (v).toInt)) + (fr).toInt) + (t : Int)).toNat).toInt ∧ (σ (1, 17, 0) (((100 * ((5 * (u).toInt) + (v).toInt)) + (fr).toInt) + (t : Int)).toNat).toInt < 100
def m_segR (σ : g_S → Nat → Int32) (u p w : Int32) : Int32 := if (0 ≤ (u).toInt ∧ (u).toInt ≤ ((σ (0, 0, 0) 10).toInt - 1)) ∧ (0 ≤ (p).toInt ∧ (p).toInt ≤ ((σ (1, 20, 0) ((u).toInt).toNat).toInt - 1)) then (if (w).toInt = 0 then σ (1, 21, 0) ((100 * (u).toInt) + (p).toInt).toNat else if (w).toInt = 1 then σ (1, 22, 0) ((100 * (u).toInt) + (p).toInt).toNat else if (w).toInt = 2 then σ (1, 23, 0) ((100 * (u).toInt) + (p).toInt).toNat else if (w).toInt = 3 then (if (σ (1, 23, 0) ((100 * (u).toInt) + (p).toInt).toNat).toInt ≤ (σ (1, 12, 0) ((u).toInt).toNat).toInt then 0 else 1) else -1) else -1
def m_atR (σ : g_S → Nat → Int32) (u p : Int32) : Int32 := if (0 ≤ (u).toInt ∧ (u).toInt ≤ ((σ (0, 0, 0) 10).toInt - 1)) ∧ (0 ≤ (p).toInt ∧ (p).toInt ≤ ((σ (1, 18, 0) ((u).toInt).toNat).toInt - 1)) then σ (1, 19, 0) ((100 * (u).toInt) + (p).toInt).toNat else -1
set_option maxHeartbeats 4000000 in
set_option maxRecDepth 100000 in
theorem lp_mpres (l : Launch) (D : va_G) (cy : Nat → ClassId) (L : g_S → Nat) {pg : Program} {e : Env} {s : State} {m : MethodId} {args : Array Value} {below : List Frame} {meth : Method} {c : Code} {Q : State → Prop} (C0 : g_C pg s m meth c args cX7_present (some .int) 10 RX7 D (x_tys cy)) (u v fr nn : Int32) (hu : 0 ≤ u.toInt ∧ u.toInt < 8) (hv5 : 0 ≤ v.toInt ∧ v.toInt ≤ 4) (hf : 0 ≤ fr.toInt ∧ fr.toInt + nn.toInt ≤ 100) :
    ∀ (n : Nat) (σ : g_S → Nat → Int32) (k : Nat) (pt : Nat) (H : Heap) (locs : List Loc) (ls : Array Slot), (k + n = nn.toInt.toNat ∧ pt ≤ k) → (m_prI u v fr nn.toInt.toNat σ) → g_H D vwCl m_dom L (fun z => m_K cy L z (σ z)) H → va_S (g_A m_dom L) s.heap H locs → lv_has ls 10 [(7, .int (nI k)), (6, .int (nI pt)), (0, .ref (L (0, 0, 0))), (1, .int (u)), (2, .int (v)), (3, .int (fr)), (4, .int (nn))] →
    (∀ (H : Heap) (locs : List Loc) (ls : Array Slot), g_H D vwCl m_dom L (fun z => m_K cy L z ((m_presGo u v fr n k pt σ).1 z)) H → va_S (g_A m_dom L) s.heap H locs → lv_has ls 10 [(6, .int (nI ((m_presGo u v fr n k pt σ).2))), (0, .ref (L (0, 0, 0))), (1, .int (u))] → W pg l e (g_R 3) s m args below meth c H locs 0 0 Q (F0 m 258 ls [])) →
    W pg l e (g_R 3) s m args below meth c H locs 0 0 Q (F0 m 100 ls []) := by
  obtain ⟨hx, hb, hr, hlk, hml, hown, hts, hK, hN⟩ := C0
  intro n
  induction n with
  | zero =>
    intro σ k pt H locs ls hv9 hy hG hS hl kk9
    have hr9 := g_rng nn
    have hz9 := g_nIT (show k < 2147483648 by omega)
    refine lv_iload hx hb dX7_present_100 (lv_at hl 0 rfl) ?_
    refine lv_iload hx hb dX7_present_102 (lv_at hl 6 rfl) ?_
    refine kz_icmp_ge (X := ((k : Nat) : Int)) (Y := (nn).toInt) hx hb (g_nIT (by omega)) rfl dX7_present_104 (tgt := 258) (by decide) (fun c_104_1 => ?_) (fun c_104_1 => ?_)
    · exact kk9 H locs ls hG hS (lv_sub hl [1, 2, 3] rfl)
    · exact absurd c_104_1 (by omega)
  | succ n ih =>
    intro σ k pt H locs ls hv9 hy hG hS hl kk9
    have hr9 := g_rng nn
    have hz9 := g_nIT (show k < 2147483648 by omega)
    have hm9 := hy k (by omega)
    refine lv_iload hx hb dX7_present_100 (lv_at hl 0 rfl) ?_
    refine lv_iload hx hb dX7_present_102 (lv_at hl 6 rfl) ?_
    refine kz_icmp_ge (X := ((k : Nat) : Int)) (Y := (nn).toInt) hx hb (g_nIT (by omega)) rfl dX7_present_104 (tgt := 258) (by decide) (fun c_104_1 => ?_) (fun c_104_1 => ?_)
    · exact absurd c_104_1 (by omega)
    · refine lv_aload_n hx hb dX7_present_107 rfl (lv_at hl 2 rfl) ?_
      refine g_get (C := RX7) (T := TX7) (N := 28) (v := .ref (L (1, 17, 0))) hx hb hts inX7g hown hK hG (0, 0, 0) ⟨rfl, rfl⟩ (m_at_0 cy L 0 0 (σ (0, 0, 0))) rfl 17 (by decide) fl_X7_50 rfl dX7_present_108 ?_
      refine lv_bipush (v := 100) hx hb dX7_present_111 (by decide) ?_
      refine lv_iconst (v := 5) hx hb dX7_present_113 (by decide) ?_
      refine lv_iload_n hx hb dX7_present_114 rfl (lv_at hl 3 rfl) ?_
      refine lv_imul hx hb dX7_present_115 ?_
      have z_2 : ((5) * (u)).toInt = (5 * (u).toInt) := g_mulZ (by decide) rfl (by omega) (by omega)
      refine lv_iload_n hx hb dX7_present_116 rfl (lv_at hl 4 rfl) ?_
      refine lv_iadd hx hb dX7_present_117 ?_
      have z_3 : (((5) * (u)) + (v)).toInt = ((5 * (u).toInt) + (v).toInt) := g_addZ z_2 rfl (by omega) (by omega)
      refine lv_imul hx hb dX7_present_118 ?_
      have z_4 : ((100) * (((5) * (u)) + (v))).toInt = (100 * ((5 * (u).toInt) + (v).toInt)) := g_mulZ (by decide) z_3 (by omega) (by omega)
      refine lv_iload_n hx hb dX7_present_119 rfl (lv_at hl 5 rfl) ?_
      refine lv_iadd hx hb dX7_present_120 ?_
      have z_5 : (((100) * (((5) * (u)) + (v))) + (fr)).toInt = ((100 * ((5 * (u).toInt) + (v).toInt)) + (fr).toInt) := g_addZ z_4 rfl (by omega) (by omega)
      refine lv_iload hx hb dX7_present_121 (lv_at hl 0 rfl) ?_
      refine lv_iadd hx hb dX7_present_123 ?_
      have z_6 : ((((100) * (((5) * (u)) + (v))) + (fr)) + (nI k)).toInt = (((100 * ((5 * (u).toInt) + (v).toInt)) + (fr).toInt) + ((k : Nat) : Int)) := g_addZ z_5 (g_nIT (by omega)) (by omega) (by omega)
      refine g_iald (n := 4000) hx hb hK hG (1, 17, 0) ⟨by decide, rfl⟩ 0 rfl rfl (g_vp (by have := (show ((((100) * (((5) * (u)) + (v))) + (fr)) + (nI k) : Int32).toInt = (((100 * ((5 * (u).toInt) + (v).toInt)) + (fr).toInt) + ((k : Nat) : Int)) from z_6); omega) (by have := (show ((((100) * (((5) * (u)) + (v))) + (fr)) + (nI k) : Int32).toInt = (((100 * ((5 * (u).toInt) + (v).toInt)) + (fr).toInt) + ((k : Nat) : Int)) from z_6); omega)) dX7_present_124 ?_
      rw [show ((((100) * (((5) * (u)) + (v))) + (fr)) + (nI k) : Int32).toNatClampNeg = ((((100 * ((5 * (u).toInt) + (v).toInt)) + (fr).toInt) + ((k : Nat) : Int))).toNat from congrArg Int.toNat (show ((((100) * (((5) * (u)) + (v))) + (fr)) + (nI k) : Int32).toInt = (((100 * ((5 * (u).toInt) + (v).toInt)) + (fr).toInt) + ((k : Nat) : Int)) from z_6)]
      refine lv_istore (lv' := [(8, .int (σ (1, 17, 0) (((((100 * ((5 * (u).toInt) + (v).toInt)) + (fr).toInt) + ((k : Nat) : Int))).toNat))), (7, .int (nI k)), (6, .int (nI pt)), (0, .ref (L (0, 0, 0))), (1, .int (u)), (2, .int (v)), (3, .int (fr)), (4, .int (nn))]) hx hb dX7_present_125 hl (by decide) rfl (fun ls hl => ?_)
      refine lv_aload_n hx hb dX7_present_127 rfl (lv_at hl 3 rfl) ?_
      refine g_get (C := RX7) (T := TX7) (N := 28) (v := .ref (L (1, 19, 0))) hx hb hts inX7g hown hK hG (0, 0, 0) ⟨rfl, rfl⟩ (m_at_0 cy L 0 0 (σ (0, 0, 0))) rfl 19 (by decide) fl_X7_56 rfl dX7_present_128 ?_
      refine lv_bipush (v := 100) hx hb dX7_present_131 (by decide) ?_
      refine lv_iload_n hx hb dX7_present_133 rfl (lv_at hl 4 rfl) ?_
      refine lv_imul hx hb dX7_present_134 ?_
      have z_7 : ((100) * (u)).toInt = (100 * (u).toInt) := g_mulZ (by decide) rfl (by omega) (by omega)
      refine lv_iload hx hb dX7_present_135 (lv_at hl 1 rfl) ?_
      refine lv_iadd hx hb dX7_present_137 ?_
      have z_8 : (((100) * (u)) + (nI k)).toInt = ((100 * (u).toInt) + ((k : Nat) : Int)) := g_addZ z_7 (g_nIT (by omega)) (by omega) (by omega)
      refine lv_iload hx hb dX7_present_138 (lv_at hl 0 rfl) ?_
      refine g_iast (n := 800) hx hb hK hG hS (1, 19, 0) ⟨by decide, rfl⟩ 0 (fun _ => rfl) rfl (g_vp (by have := (show (((100) * (u)) + (nI k) : Int32).toInt = ((100 * (u).toInt) + ((k : Nat) : Int)) from z_8); omega) (by have := (show (((100) * (u)) + (nI k) : Int32).toInt = ((100 * (u).toInt) + ((k : Nat) : Int)) from z_8); omega)) dX7_present_140 (fun H locs hG hS => ?_)
      rw [show (((100) * (u)) + (nI k) : Int32).toNatClampNeg = (((100 * (u).toInt) + ((k : Nat) : Int))).toNat from congrArg Int.toNat (show (((100) * (u)) + (nI k) : Int32).toInt = ((100 * (u).toInt) + ((k : Nat) : Int)) from z_8)] at hG
      refine lv_bipush (v := 100) hx hb dX7_present_141 (by decide) ?_
      refine lv_iload_n hx hb dX7_present_143 rfl (lv_at hl 4 rfl) ?_
      refine lv_imul hx hb dX7_present_144 ?_
      have z_9 : ((100) * (u)).toInt = (100 * (u).toInt) := g_mulZ (by decide) rfl (by omega) (by omega)
      refine lv_iload hx hb dX7_present_145 (lv_at hl 2 rfl) ?_
      refine lv_iadd hx hb dX7_present_147 ?_
      have z_10 : (((100) * (u)) + (nI pt)).toInt = ((100 * (u).toInt) + ((pt : Nat) : Int)) := g_addZ z_9 (g_nIT (by omega)) (by omega) (by omega)
      refine lv_iconst (v := 1) hx hb dX7_present_148 (by decide) ?_
      refine lv_isub hx hb dX7_present_149 ?_
      have z_11 : ((((100) * (u)) + (nI pt)) - (1)).toInt = (((100 * (u).toInt) + ((pt : Nat) : Int)) - 1) := g_subZ z_10 (by decide) (by omega) (by omega)
      refine lv_istore (lv' := [(9, .int ((((100) * (u)) + (nI pt)) - (1))), (8, .int (σ (1, 17, 0) (((((100 * ((5 * (u).toInt) + (v).toInt)) + (fr).toInt) + ((k : Nat) : Int))).toNat))), (7, .int (nI k)), (6, .int (nI pt)), (0, .ref (L (0, 0, 0))), (1, .int (u)), (2, .int (v)), (3, .int (fr)), (4, .int (nn))]) hx hb dX7_present_150 hl (by decide) rfl (fun ls hl => ?_)
      refine lv_iload hx hb dX7_present_152 (lv_at hl 3 rfl) ?_
      refine kz_if_le (X := ((pt : Nat) : Int)) hx hb (g_nIT (by omega)) dX7_present_154 (tgt := 212) (by decide) (fun c_154_12 => ?_) (fun c_154_12 => ?_)
      · refine lv_aload_n hx hb dX7_present_212 rfl (lv_at hl 4 rfl) ?_
        refine g_get (C := RX7) (T := TX7) (N := 28) (v := .ref (L (1, 21, 0))) hx hb hts inX7g hown hK hG (0, 0, 0) ⟨rfl, rfl⟩ (m_at_0 cy L 0 0 ((g_up σ (1, 19, 0) ((((100 * (u).toInt) + ((k : Nat) : Int))).toNat) (σ (1, 17, 0) (((((100 * ((5 * (u).toInt) + (v).toInt)) + (fr).toInt) + ((k : Nat) : Int))).toNat))) (0, 0, 0))) rfl 21 (by decide) fl_X7_62 rfl dX7_present_213 ?_
        refine lv_iload hx hb dX7_present_216 (lv_at hl 0 rfl) ?_
        refine lv_iconst (v := 1) hx hb dX7_present_218 (by decide) ?_
        refine lv_iadd hx hb dX7_present_219 ?_
        have z_13 : (((((100) * (u)) + (nI pt)) - (1)) + (1)).toInt = ((((100 * (u).toInt) + ((pt : Nat) : Int)) - 1) + 1) := g_addZ z_11 (by decide) (by omega) (by omega)
        refine lv_iload hx hb dX7_present_220 (lv_at hl 2 rfl) ?_
        refine g_iast (n := 800) hx hb hK hG hS (1, 21, 0) ⟨by decide, rfl⟩ 0 (fun _ => rfl) rfl (g_vp (by have := (show (((((100) * (u)) + (nI pt)) - (1)) + (1) : Int32).toInt = ((((100 * (u).toInt) + ((pt : Nat) : Int)) - 1) + 1) from z_13); omega) (by have := (show (((((100) * (u)) + (nI pt)) - (1)) + (1) : Int32).toInt = ((((100 * (u).toInt) + ((pt : Nat) : Int)) - 1) + 1) from z_13); omega)) dX7_present_222 (fun H locs hG hS => ?_)
        rw [show (((((100) * (u)) + (nI pt)) - (1)) + (1) : Int32).toNatClampNeg = (((((100 * (u).toInt) + ((pt : Nat) : Int)) - 1) + 1)).toNat from congrArg Int.toNat (show (((((100) * (u)) + (nI pt)) - (1)) + (1) : Int32).toInt = ((((100 * (u).toInt) + ((pt : Nat) : Int)) - 1) + 1) from z_13)] at hG
        refine lv_aload_n hx hb dX7_present_223 rfl (lv_at hl 4 rfl) ?_
        refine g_get (C := RX7) (T := TX7) (N := 28) (v := .ref (L (1, 22, 0))) hx hb hts inX7g hown hK hG (0, 0, 0) ⟨rfl, rfl⟩ (m_at_0 cy L 0 0 ((g_up (g_up σ (1, 19, 0) ((((100 * (u).toInt) + ((k : Nat) : Int))).toNat) (σ (1, 17, 0) (((((100 * ((5 * (u).toInt) + (v).toInt)) + (fr).toInt) + ((k : Nat) : Int))).toNat))) (1, 21, 0) ((((((100 * (u).toInt) + ((pt : Nat) : Int)) - 1) + 1)).toNat) (nI k)) (0, 0, 0))) rfl 22 (by decide) fl_X7_65 rfl dX7_present_224 ?_
        refine lv_iload hx hb dX7_present_227 (lv_at hl 0 rfl) ?_
        refine lv_iconst (v := 1) hx hb dX7_present_229 (by decide) ?_
        refine lv_iadd hx hb dX7_present_230 ?_
        have z_14 : (((((100) * (u)) + (nI pt)) - (1)) + (1)).toInt = ((((100 * (u).toInt) + ((pt : Nat) : Int)) - 1) + 1) := g_addZ z_11 (by decide) (by omega) (by omega)
        refine lv_iconst (v := 1) hx hb dX7_present_231 (by decide) ?_
        refine g_iast (n := 800) hx hb hK hG hS (1, 22, 0) ⟨by decide, rfl⟩ 0 (fun _ => rfl) rfl (g_vp (by have := (show (((((100) * (u)) + (nI pt)) - (1)) + (1) : Int32).toInt = ((((100 * (u).toInt) + ((pt : Nat) : Int)) - 1) + 1) from z_14); omega) (by have := (show (((((100) * (u)) + (nI pt)) - (1)) + (1) : Int32).toInt = ((((100 * (u).toInt) + ((pt : Nat) : Int)) - 1) + 1) from z_14); omega)) dX7_present_232 (fun H locs hG hS => ?_)
        rw [show (((((100) * (u)) + (nI pt)) - (1)) + (1) : Int32).toNatClampNeg = (((((100 * (u).toInt) + ((pt : Nat) : Int)) - 1) + 1)).toNat from congrArg Int.toNat (show (((((100) * (u)) + (nI pt)) - (1)) + (1) : Int32).toInt = ((((100 * (u).toInt) + ((pt : Nat) : Int)) - 1) + 1) from z_14)] at hG
        refine lv_aload_n hx hb dX7_present_233 rfl (lv_at hl 4 rfl) ?_
        refine g_get (C := RX7) (T := TX7) (N := 28) (v := .ref (L (1, 23, 0))) hx hb hts inX7g hown hK hG (0, 0, 0) ⟨rfl, rfl⟩ (m_at_0 cy L 0 0 ((g_up (g_up (g_up σ (1, 19, 0) ((((100 * (u).toInt) + ((k : Nat) : Int))).toNat) (σ (1, 17, 0) (((((100 * ((5 * (u).toInt) + (v).toInt)) + (fr).toInt) + ((k : Nat) : Int))).toNat))) (1, 21, 0) ((((((100 * (u).toInt) + ((pt : Nat) : Int)) - 1) + 1)).toNat) (nI k)) (1, 22, 0) ((((((100 * (u).toInt) + ((pt : Nat) : Int)) - 1) + 1)).toNat) (1)) (0, 0, 0))) rfl 23 (by decide) fl_X7_68 rfl dX7_present_234 ?_
        refine lv_iload hx hb dX7_present_237 (lv_at hl 0 rfl) ?_
        refine lv_iconst (v := 1) hx hb dX7_present_239 (by decide) ?_
        refine lv_iadd hx hb dX7_present_240 ?_
        have z_15 : (((((100) * (u)) + (nI pt)) - (1)) + (1)).toInt = ((((100 * (u).toInt) + ((pt : Nat) : Int)) - 1) + 1) := g_addZ z_11 (by decide) (by omega) (by omega)
        refine lv_aload_n hx hb dX7_present_241 rfl (lv_at hl 4 rfl) ?_
        refine g_get (C := RX7) (T := TX7) (N := 28) (v := .ref (L (1, 2, 0))) hx hb hts inX7g hown hK hG (0, 0, 0) ⟨rfl, rfl⟩ (m_at_0 cy L 0 0 ((g_up (g_up (g_up σ (1, 19, 0) ((((100 * (u).toInt) + ((k : Nat) : Int))).toNat) (σ (1, 17, 0) (((((100 * ((5 * (u).toInt) + (v).toInt)) + (fr).toInt) + ((k : Nat) : Int))).toNat))) (1, 21, 0) ((((((100 * (u).toInt) + ((pt : Nat) : Int)) - 1) + 1)).toNat) (nI k)) (1, 22, 0) ((((((100 * (u).toInt) + ((pt : Nat) : Int)) - 1) + 1)).toNat) (1)) (0, 0, 0))) rfl 2 (by decide) fl_X7_7 rfl dX7_present_242 ?_
        refine lv_iload hx hb dX7_present_245 (lv_at hl 1 rfl) ?_
        refine g_iald (n := 100) hx hb hK hG (1, 2, 0) ⟨by decide, rfl⟩ 0 rfl rfl (g_vp (by omega) (by omega)) dX7_present_247 ?_
        rw [show (σ (1, 17, 0) (((((100 * ((5 * (u).toInt) + (v).toInt)) + (fr).toInt) + ((k : Nat) : Int))).toNat) : Int32).toNatClampNeg = ((σ (1, 17, 0) (((((100 * ((5 * (u).toInt) + (v).toInt)) + (fr).toInt) + ((k : Nat) : Int))).toNat)).toInt).toNat from congrArg Int.toNat (show (σ (1, 17, 0) (((((100 * ((5 * (u).toInt) + (v).toInt)) + (fr).toInt) + ((k : Nat) : Int))).toNat) : Int32).toInt = (σ (1, 17, 0) (((((100 * ((5 * (u).toInt) + (v).toInt)) + (fr).toInt) + ((k : Nat) : Int))).toNat)).toInt from rfl)]
        refine W.eq (g2 := F0 m 248 ls [.int (σ (1, 2, 0) (((σ (1, 17, 0) (((((100 * ((5 * (u).toInt) + (v).toInt)) + (fr).toInt) + ((k : Nat) : Int))).toNat)).toInt).toNat)), .int (((((100) * (u)) + (nI pt)) - (1)) + (1)), .ref (L (1, 23, 0))]) rfl ?_
        refine g_iast (n := 800) hx hb hK hG hS (1, 23, 0) ⟨by decide, rfl⟩ 0 (fun _ => rfl) rfl (g_vp (by have := (show (((((100) * (u)) + (nI pt)) - (1)) + (1) : Int32).toInt = ((((100 * (u).toInt) + ((pt : Nat) : Int)) - 1) + 1) from z_15); omega) (by have := (show (((((100) * (u)) + (nI pt)) - (1)) + (1) : Int32).toInt = ((((100 * (u).toInt) + ((pt : Nat) : Int)) - 1) + 1) from z_15); omega)) dX7_present_248 (fun H locs hG hS => ?_)
        rw [show (((((100) * (u)) + (nI pt)) - (1)) + (1) : Int32).toNatClampNeg = (((((100 * (u).toInt) + ((pt : Nat) : Int)) - 1) + 1)).toNat from congrArg Int.toNat (show (((((100) * (u)) + (nI pt)) - (1)) + (1) : Int32).toInt = ((((100 * (u).toInt) + ((pt : Nat) : Int)) - 1) + 1) from z_15)] at hG
        refine lv_iinc (v := nI (pt + 1)) (lv' := [(6, .int (nI (pt + 1))), (9, .int ((((100) * (u)) + (nI pt)) - (1))), (8, .int (σ (1, 17, 0) (((((100 * ((5 * (u).toInt) + (v).toInt)) + (fr).toInt) + ((k : Nat) : Int))).toNat))), (7, .int (nI k)), (0, .ref (L (0, 0, 0))), (1, .int (u)), (2, .int (v)), (3, .int (fr)), (4, .int (nn))]) hx hb dX7_present_249 hl (k := 3) rfl (nI_1 (pt)) (by decide) rfl (fun ls hl => ?_)
        refine lv_iinc (v := nI (k + 1)) (lv' := [(7, .int (nI (k + 1))), (6, .int (nI (pt + 1))), (9, .int ((((100) * (u)) + (nI pt)) - (1))), (8, .int (σ (1, 17, 0) (((((100 * ((5 * (u).toInt) + (v).toInt)) + (fr).toInt) + ((k : Nat) : Int))).toNat))), (0, .ref (L (0, 0, 0))), (1, .int (u)), (2, .int (v)), (3, .int (fr)), (4, .int (nn))]) hx hb dX7_present_252 hl (k := 3) rfl (nI_1 (k)) (by decide) rfl (fun ls hl => ?_)
        refine lv_goto (tgt := 100) hx hb dX7_present_255 (by decide) ?_
        have e90 : m_presGo u v fr (n + 1) k pt σ = m_presGo u v fr n (k + 1) (pt + 1) (g_up (g_up (g_up (g_up σ (1, 19, 0) ((((100 * (u).toInt) + ((k : Nat) : Int))).toNat) (σ (1, 17, 0) (((((100 * ((5 * (u).toInt) + (v).toInt)) + (fr).toInt) + ((k : Nat) : Int))).toNat))) (1, 21, 0) ((((((100 * (u).toInt) + ((pt : Nat) : Int)) - 1) + 1)).toNat) (nI k)) (1, 22, 0) ((((((100 * (u).toInt) + ((pt : Nat) : Int)) - 1) + 1)).toNat) (1)) (1, 23, 0) ((((((100 * (u).toInt) + ((pt : Nat) : Int)) - 1) + 1)).toNat) (σ (1, 2, 0) (((σ (1, 17, 0) (((((100 * ((5 * (u).toInt) + (v).toInt)) + (fr).toInt) + ((k : Nat) : Int))).toNat)).toInt).toNat))) := (by rw [m_presGo_s]; unfold m_rec; first | (rw [if_pos (by omega)]; rfl) | (rw [if_neg (by omega)]; rfl))
        rw [e90] at kk9
        exact ih (g_up (g_up (g_up (g_up σ (1, 19, 0) ((((100 * (u).toInt) + ((k : Nat) : Int))).toNat) (σ (1, 17, 0) (((((100 * ((5 * (u).toInt) + (v).toInt)) + (fr).toInt) + ((k : Nat) : Int))).toNat))) (1, 21, 0) ((((((100 * (u).toInt) + ((pt : Nat) : Int)) - 1) + 1)).toNat) (nI k)) (1, 22, 0) ((((((100 * (u).toInt) + ((pt : Nat) : Int)) - 1) + 1)).toNat) (1)) (1, 23, 0) ((((((100 * (u).toInt) + ((pt : Nat) : Int)) - 1) + 1)).toNat) (σ (1, 2, 0) (((σ (1, 17, 0) (((((100 * ((5 * (u).toInt) + (v).toInt)) + (fr).toInt) + ((k : Nat) : Int))).toNat)).toInt).toNat))) (k + 1) (pt + 1) H locs ls (by omega) (by exact hy) hG hS (lv_sub hl [0, 1, 4, 5, 6, 7, 8] rfl) kk9
      · refine lv_aload_n hx hb dX7_present_157 rfl (lv_at hl 4 rfl) ?_
        refine g_get (C := RX7) (T := TX7) (N := 28) (v := .ref (L (1, 23, 0))) hx hb hts inX7g hown hK hG (0, 0, 0) ⟨rfl, rfl⟩ (m_at_0 cy L 0 0 ((g_up σ (1, 19, 0) ((((100 * (u).toInt) + ((k : Nat) : Int))).toNat) (σ (1, 17, 0) (((((100 * ((5 * (u).toInt) + (v).toInt)) + (fr).toInt) + ((k : Nat) : Int))).toNat))) (0, 0, 0))) rfl 23 (by decide) fl_X7_68 rfl dX7_present_158 ?_
        refine lv_iload hx hb dX7_present_161 (lv_at hl 0 rfl) ?_
        refine g_iald (n := 800) hx hb hK hG (1, 23, 0) ⟨by decide, rfl⟩ 0 rfl rfl (g_vp (by have := (show ((((100) * (u)) + (nI pt)) - (1) : Int32).toInt = (((100 * (u).toInt) + ((pt : Nat) : Int)) - 1) from z_11); omega) (by have := (show ((((100) * (u)) + (nI pt)) - (1) : Int32).toInt = (((100 * (u).toInt) + ((pt : Nat) : Int)) - 1) from z_11); omega)) dX7_present_163 ?_
        rw [show ((((100) * (u)) + (nI pt)) - (1) : Int32).toNatClampNeg = ((((100 * (u).toInt) + ((pt : Nat) : Int)) - 1)).toNat from congrArg Int.toNat (show ((((100) * (u)) + (nI pt)) - (1) : Int32).toInt = (((100 * (u).toInt) + ((pt : Nat) : Int)) - 1) from z_11)]
        refine W.eq (g2 := F0 m 164 ls [.int (σ (1, 23, 0) (((((100 * (u).toInt) + ((pt : Nat) : Int)) - 1)).toNat))]) rfl ?_
        refine lv_aload_n hx hb dX7_present_164 rfl (lv_at hl 4 rfl) ?_
        refine g_get (C := RX7) (T := TX7) (N := 28) (v := .ref (L (1, 2, 0))) hx hb hts inX7g hown hK hG (0, 0, 0) ⟨rfl, rfl⟩ (m_at_0 cy L 0 0 ((g_up σ (1, 19, 0) ((((100 * (u).toInt) + ((k : Nat) : Int))).toNat) (σ (1, 17, 0) (((((100 * ((5 * (u).toInt) + (v).toInt)) + (fr).toInt) + ((k : Nat) : Int))).toNat))) (0, 0, 0))) rfl 2 (by decide) fl_X7_7 rfl dX7_present_165 ?_
        refine lv_iload hx hb dX7_present_168 (lv_at hl 1 rfl) ?_
        refine g_iald (n := 100) hx hb hK hG (1, 2, 0) ⟨by decide, rfl⟩ 0 rfl rfl (g_vp (by omega) (by omega)) dX7_present_170 ?_
        rw [show (σ (1, 17, 0) (((((100 * ((5 * (u).toInt) + (v).toInt)) + (fr).toInt) + ((k : Nat) : Int))).toNat) : Int32).toNatClampNeg = ((σ (1, 17, 0) (((((100 * ((5 * (u).toInt) + (v).toInt)) + (fr).toInt) + ((k : Nat) : Int))).toNat)).toInt).toNat from congrArg Int.toNat (show (σ (1, 17, 0) (((((100 * ((5 * (u).toInt) + (v).toInt)) + (fr).toInt) + ((k : Nat) : Int))).toNat) : Int32).toInt = (σ (1, 17, 0) (((((100 * ((5 * (u).toInt) + (v).toInt)) + (fr).toInt) + ((k : Nat) : Int))).toNat)).toInt from rfl)]
        refine W.eq (g2 := F0 m 171 ls [.int (σ (1, 2, 0) (((σ (1, 17, 0) (((((100 * ((5 * (u).toInt) + (v).toInt)) + (fr).toInt) + ((k : Nat) : Int))).toNat)).toInt).toNat)), .int (σ (1, 23, 0) (((((100 * (u).toInt) + ((pt : Nat) : Int)) - 1)).toNat))]) rfl ?_
        refine lv_iadd hx hb dX7_present_171 ?_
        refine lv_aload_n hx hb dX7_present_172 rfl (lv_at hl 4 rfl) ?_
        refine g_get (C := RX7) (T := TX7) (N := 28) (v := .ref (L (1, 12, 0))) hx hb hts inX7g hown hK hG (0, 0, 0) ⟨rfl, rfl⟩ (m_at_0 cy L 0 0 ((g_up σ (1, 19, 0) ((((100 * (u).toInt) + ((k : Nat) : Int))).toNat) (σ (1, 17, 0) (((((100 * ((5 * (u).toInt) + (v).toInt)) + (fr).toInt) + ((k : Nat) : Int))).toNat))) (0, 0, 0))) rfl 12 (by decide) fl_X7_35 rfl dX7_present_173 ?_
        refine lv_iload_n hx hb dX7_present_176 rfl (lv_at hl 5 rfl) ?_
        refine g_iald (n := 8) hx hb hK hG (1, 12, 0) ⟨by decide, rfl⟩ 0 rfl rfl (g_vp (by omega) (by omega)) dX7_present_177 ?_
        rw [show (u : Int32).toNatClampNeg = ((u).toInt).toNat from congrArg Int.toNat (show (u : Int32).toInt = (u).toInt from rfl)]
        refine W.eq (g2 := F0 m 178 ls [.int (σ (1, 12, 0) (((u).toInt).toNat)), .int ((σ (1, 23, 0) (((((100 * (u).toInt) + ((pt : Nat) : Int)) - 1)).toNat)) + (σ (1, 2, 0) (((σ (1, 17, 0) (((((100 * ((5 * (u).toInt) + (v).toInt)) + (fr).toInt) + ((k : Nat) : Int))).toNat)).toInt).toNat)))]) rfl ?_
        refine kz_icmp_gt (X := ((σ (1, 23, 0) (((((100 * (u).toInt) + ((pt : Nat) : Int)) - 1)).toNat)) + (σ (1, 2, 0) (((σ (1, 17, 0) (((((100 * ((5 * (u).toInt) + (v).toInt)) + (fr).toInt) + ((k : Nat) : Int))).toNat)).toInt).toNat))).toInt) (Y := (σ (1, 12, 0) (((u).toInt).toNat)).toInt) hx hb rfl rfl dX7_present_178 (tgt := 212) (by decide) (fun c_178_16 => ?_) (fun c_178_16 => ?_)
        · refine lv_aload_n hx hb dX7_present_212 rfl (lv_at hl 4 rfl) ?_
          refine g_get (C := RX7) (T := TX7) (N := 28) (v := .ref (L (1, 21, 0))) hx hb hts inX7g hown hK hG (0, 0, 0) ⟨rfl, rfl⟩ (m_at_0 cy L 0 0 ((g_up σ (1, 19, 0) ((((100 * (u).toInt) + ((k : Nat) : Int))).toNat) (σ (1, 17, 0) (((((100 * ((5 * (u).toInt) + (v).toInt)) + (fr).toInt) + ((k : Nat) : Int))).toNat))) (0, 0, 0))) rfl 21 (by decide) fl_X7_62 rfl dX7_present_213 ?_
          refine lv_iload hx hb dX7_present_216 (lv_at hl 0 rfl) ?_
          refine lv_iconst (v := 1) hx hb dX7_present_218 (by decide) ?_
          refine lv_iadd hx hb dX7_present_219 ?_
          have z_17 : (((((100) * (u)) + (nI pt)) - (1)) + (1)).toInt = ((((100 * (u).toInt) + ((pt : Nat) : Int)) - 1) + 1) := g_addZ z_11 (by decide) (by omega) (by omega)
          refine lv_iload hx hb dX7_present_220 (lv_at hl 2 rfl) ?_
          refine g_iast (n := 800) hx hb hK hG hS (1, 21, 0) ⟨by decide, rfl⟩ 0 (fun _ => rfl) rfl (g_vp (by have := (show (((((100) * (u)) + (nI pt)) - (1)) + (1) : Int32).toInt = ((((100 * (u).toInt) + ((pt : Nat) : Int)) - 1) + 1) from z_17); omega) (by have := (show (((((100) * (u)) + (nI pt)) - (1)) + (1) : Int32).toInt = ((((100 * (u).toInt) + ((pt : Nat) : Int)) - 1) + 1) from z_17); omega)) dX7_present_222 (fun H locs hG hS => ?_)
          rw [show (((((100) * (u)) + (nI pt)) - (1)) + (1) : Int32).toNatClampNeg = (((((100 * (u).toInt) + ((pt : Nat) : Int)) - 1) + 1)).toNat from congrArg Int.toNat (show (((((100) * (u)) + (nI pt)) - (1)) + (1) : Int32).toInt = ((((100 * (u).toInt) + ((pt : Nat) : Int)) - 1) + 1) from z_17)] at hG
          refine lv_aload_n hx hb dX7_present_223 rfl (lv_at hl 4 rfl) ?_
          refine g_get (C := RX7) (T := TX7) (N := 28) (v := .ref (L (1, 22, 0))) hx hb hts inX7g hown hK hG (0, 0, 0) ⟨rfl, rfl⟩ (m_at_0 cy L 0 0 ((g_up (g_up σ (1, 19, 0) ((((100 * (u).toInt) + ((k : Nat) : Int))).toNat) (σ (1, 17, 0) (((((100 * ((5 * (u).toInt) + (v).toInt)) + (fr).toInt) + ((k : Nat) : Int))).toNat))) (1, 21, 0) ((((((100 * (u).toInt) + ((pt : Nat) : Int)) - 1) + 1)).toNat) (nI k)) (0, 0, 0))) rfl 22 (by decide) fl_X7_65 rfl dX7_present_224 ?_
          refine lv_iload hx hb dX7_present_227 (lv_at hl 0 rfl) ?_
          refine lv_iconst (v := 1) hx hb dX7_present_229 (by decide) ?_
          refine lv_iadd hx hb dX7_present_230 ?_
          have z_18 : (((((100) * (u)) + (nI pt)) - (1)) + (1)).toInt = ((((100 * (u).toInt) + ((pt : Nat) : Int)) - 1) + 1) := g_addZ z_11 (by decide) (by omega) (by omega)
          refine lv_iconst (v := 1) hx hb dX7_present_231 (by decide) ?_
          refine g_iast (n := 800) hx hb hK hG hS (1, 22, 0) ⟨by decide, rfl⟩ 0 (fun _ => rfl) rfl (g_vp (by have := (show (((((100) * (u)) + (nI pt)) - (1)) + (1) : Int32).toInt = ((((100 * (u).toInt) + ((pt : Nat) : Int)) - 1) + 1) from z_18); omega) (by have := (show (((((100) * (u)) + (nI pt)) - (1)) + (1) : Int32).toInt = ((((100 * (u).toInt) + ((pt : Nat) : Int)) - 1) + 1) from z_18); omega)) dX7_present_232 (fun H locs hG hS => ?_)
          rw [show (((((100) * (u)) + (nI pt)) - (1)) + (1) : Int32).toNatClampNeg = (((((100 * (u).toInt) + ((pt : Nat) : Int)) - 1) + 1)).toNat from congrArg Int.toNat (show (((((100) * (u)) + (nI pt)) - (1)) + (1) : Int32).toInt = ((((100 * (u).toInt) + ((pt : Nat) : Int)) - 1) + 1) from z_18)] at hG
          refine lv_aload_n hx hb dX7_present_233 rfl (lv_at hl 4 rfl) ?_
          refine g_get (C := RX7) (T := TX7) (N := 28) (v := .ref (L (1, 23, 0))) hx hb hts inX7g hown hK hG (0, 0, 0) ⟨rfl, rfl⟩ (m_at_0 cy L 0 0 ((g_up (g_up (g_up σ (1, 19, 0) ((((100 * (u).toInt) + ((k : Nat) : Int))).toNat) (σ (1, 17, 0) (((((100 * ((5 * (u).toInt) + (v).toInt)) + (fr).toInt) + ((k : Nat) : Int))).toNat))) (1, 21, 0) ((((((100 * (u).toInt) + ((pt : Nat) : Int)) - 1) + 1)).toNat) (nI k)) (1, 22, 0) ((((((100 * (u).toInt) + ((pt : Nat) : Int)) - 1) + 1)).toNat) (1)) (0, 0, 0))) rfl 23 (by decide) fl_X7_68 rfl dX7_present_234 ?_
          refine lv_iload hx hb dX7_present_237 (lv_at hl 0 rfl) ?_
          refine lv_iconst (v := 1) hx hb dX7_present_239 (by decide) ?_
          refine lv_iadd hx hb dX7_present_240 ?_
          have z_19 : (((((100) * (u)) + (nI pt)) - (1)) + (1)).toInt = ((((100 * (u).toInt) + ((pt : Nat) : Int)) - 1) + 1) := g_addZ z_11 (by decide) (by omega) (by omega)
          refine lv_aload_n hx hb dX7_present_241 rfl (lv_at hl 4 rfl) ?_
          refine g_get (C := RX7) (T := TX7) (N := 28) (v := .ref (L (1, 2, 0))) hx hb hts inX7g hown hK hG (0, 0, 0) ⟨rfl, rfl⟩ (m_at_0 cy L 0 0 ((g_up (g_up (g_up σ (1, 19, 0) ((((100 * (u).toInt) + ((k : Nat) : Int))).toNat) (σ (1, 17, 0) (((((100 * ((5 * (u).toInt) + (v).toInt)) + (fr).toInt) + ((k : Nat) : Int))).toNat))) (1, 21, 0) ((((((100 * (u).toInt) + ((pt : Nat) : Int)) - 1) + 1)).toNat) (nI k)) (1, 22, 0) ((((((100 * (u).toInt) + ((pt : Nat) : Int)) - 1) + 1)).toNat) (1)) (0, 0, 0))) rfl 2 (by decide) fl_X7_7 rfl dX7_present_242 ?_
          refine lv_iload hx hb dX7_present_245 (lv_at hl 1 rfl) ?_
          refine g_iald (n := 100) hx hb hK hG (1, 2, 0) ⟨by decide, rfl⟩ 0 rfl rfl (g_vp (by omega) (by omega)) dX7_present_247 ?_
          rw [show (σ (1, 17, 0) (((((100 * ((5 * (u).toInt) + (v).toInt)) + (fr).toInt) + ((k : Nat) : Int))).toNat) : Int32).toNatClampNeg = ((σ (1, 17, 0) (((((100 * ((5 * (u).toInt) + (v).toInt)) + (fr).toInt) + ((k : Nat) : Int))).toNat)).toInt).toNat from congrArg Int.toNat (show (σ (1, 17, 0) (((((100 * ((5 * (u).toInt) + (v).toInt)) + (fr).toInt) + ((k : Nat) : Int))).toNat) : Int32).toInt = (σ (1, 17, 0) (((((100 * ((5 * (u).toInt) + (v).toInt)) + (fr).toInt) + ((k : Nat) : Int))).toNat)).toInt from rfl)]
          refine W.eq (g2 := F0 m 248 ls [.int (σ (1, 2, 0) (((σ (1, 17, 0) (((((100 * ((5 * (u).toInt) + (v).toInt)) + (fr).toInt) + ((k : Nat) : Int))).toNat)).toInt).toNat)), .int (((((100) * (u)) + (nI pt)) - (1)) + (1)), .ref (L (1, 23, 0))]) rfl ?_
          refine g_iast (n := 800) hx hb hK hG hS (1, 23, 0) ⟨by decide, rfl⟩ 0 (fun _ => rfl) rfl (g_vp (by have := (show (((((100) * (u)) + (nI pt)) - (1)) + (1) : Int32).toInt = ((((100 * (u).toInt) + ((pt : Nat) : Int)) - 1) + 1) from z_19); omega) (by have := (show (((((100) * (u)) + (nI pt)) - (1)) + (1) : Int32).toInt = ((((100 * (u).toInt) + ((pt : Nat) : Int)) - 1) + 1) from z_19); omega)) dX7_present_248 (fun H locs hG hS => ?_)
          rw [show (((((100) * (u)) + (nI pt)) - (1)) + (1) : Int32).toNatClampNeg = (((((100 * (u).toInt) + ((pt : Nat) : Int)) - 1) + 1)).toNat from congrArg Int.toNat (show (((((100) * (u)) + (nI pt)) - (1)) + (1) : Int32).toInt = ((((100 * (u).toInt) + ((pt : Nat) : Int)) - 1) + 1) from z_19)] at hG
          refine lv_iinc (v := nI (pt + 1)) (lv' := [(6, .int (nI (pt + 1))), (9, .int ((((100) * (u)) + (nI pt)) - (1))), (8, .int (σ (1, 17, 0) (((((100 * ((5 * (u).toInt) + (v).toInt)) + (fr).toInt) + ((k : Nat) : Int))).toNat))), (7, .int (nI k)), (0, .ref (L (0, 0, 0))), (1, .int (u)), (2, .int (v)), (3, .int (fr)), (4, .int (nn))]) hx hb dX7_present_249 hl (k := 3) rfl (nI_1 (pt)) (by decide) rfl (fun ls hl => ?_)
          refine lv_iinc (v := nI (k + 1)) (lv' := [(7, .int (nI (k + 1))), (6, .int (nI (pt + 1))), (9, .int ((((100) * (u)) + (nI pt)) - (1))), (8, .int (σ (1, 17, 0) (((((100 * ((5 * (u).toInt) + (v).toInt)) + (fr).toInt) + ((k : Nat) : Int))).toNat))), (0, .ref (L (0, 0, 0))), (1, .int (u)), (2, .int (v)), (3, .int (fr)), (4, .int (nn))]) hx hb dX7_present_252 hl (k := 3) rfl (nI_1 (k)) (by decide) rfl (fun ls hl => ?_)
          refine lv_goto (tgt := 100) hx hb dX7_present_255 (by decide) ?_
          have e90 : m_presGo u v fr (n + 1) k pt σ = m_presGo u v fr n (k + 1) (pt + 1) (g_up (g_up (g_up (g_up σ (1, 19, 0) ((((100 * (u).toInt) + ((k : Nat) : Int))).toNat) (σ (1, 17, 0) (((((100 * ((5 * (u).toInt) + (v).toInt)) + (fr).toInt) + ((k : Nat) : Int))).toNat))) (1, 21, 0) ((((((100 * (u).toInt) + ((pt : Nat) : Int)) - 1) + 1)).toNat) (nI k)) (1, 22, 0) ((((((100 * (u).toInt) + ((pt : Nat) : Int)) - 1) + 1)).toNat) (1)) (1, 23, 0) ((((((100 * (u).toInt) + ((pt : Nat) : Int)) - 1) + 1)).toNat) (σ (1, 2, 0) (((σ (1, 17, 0) (((((100 * ((5 * (u).toInt) + (v).toInt)) + (fr).toInt) + ((k : Nat) : Int))).toNat)).toInt).toNat))) := (by rw [m_presGo_s]; unfold m_rec; first | (rw [if_pos (by omega)]; rfl) | (rw [if_neg (by omega)]; rfl))
          rw [e90] at kk9
          exact ih (g_up (g_up (g_up (g_up σ (1, 19, 0) ((((100 * (u).toInt) + ((k : Nat) : Int))).toNat) (σ (1, 17, 0) (((((100 * ((5 * (u).toInt) + (v).toInt)) + (fr).toInt) + ((k : Nat) : Int))).toNat))) (1, 21, 0) ((((((100 * (u).toInt) + ((pt : Nat) : Int)) - 1) + 1)).toNat) (nI k)) (1, 22, 0) ((((((100 * (u).toInt) + ((pt : Nat) : Int)) - 1) + 1)).toNat) (1)) (1, 23, 0) ((((((100 * (u).toInt) + ((pt : Nat) : Int)) - 1) + 1)).toNat) (σ (1, 2, 0) (((σ (1, 17, 0) (((((100 * ((5 * (u).toInt) + (v).toInt)) + (fr).toInt) + ((k : Nat) : Int))).toNat)).toInt).toNat))) (k + 1) (pt + 1) H locs ls (by omega) (by exact hy) hG hS (lv_sub hl [0, 1, 4, 5, 6, 7, 8] rfl) kk9
        · refine lv_aload_n hx hb dX7_present_181 rfl (lv_at hl 4 rfl) ?_
          refine g_get (C := RX7) (T := TX7) (N := 28) (v := .ref (L (1, 22, 0))) hx hb hts inX7g hown hK hG (0, 0, 0) ⟨rfl, rfl⟩ (m_at_0 cy L 0 0 ((g_up σ (1, 19, 0) ((((100 * (u).toInt) + ((k : Nat) : Int))).toNat) (σ (1, 17, 0) (((((100 * ((5 * (u).toInt) + (v).toInt)) + (fr).toInt) + ((k : Nat) : Int))).toNat))) (0, 0, 0))) rfl 22 (by decide) fl_X7_65 rfl dX7_present_182 ?_
          refine lv_iload hx hb dX7_present_185 (lv_at hl 0 rfl) ?_
          refine lv_dup2_11 hx hb dX7_present_187 rfl rfl ?_
          refine g_iald (n := 800) hx hb hK hG (1, 22, 0) ⟨by decide, rfl⟩ 0 rfl rfl (g_vp (by have := (show ((((100) * (u)) + (nI pt)) - (1) : Int32).toInt = (((100 * (u).toInt) + ((pt : Nat) : Int)) - 1) from z_11); omega) (by have := (show ((((100) * (u)) + (nI pt)) - (1) : Int32).toInt = (((100 * (u).toInt) + ((pt : Nat) : Int)) - 1) from z_11); omega)) dX7_present_188 ?_
          rw [show ((((100) * (u)) + (nI pt)) - (1) : Int32).toNatClampNeg = ((((100 * (u).toInt) + ((pt : Nat) : Int)) - 1)).toNat from congrArg Int.toNat (show ((((100) * (u)) + (nI pt)) - (1) : Int32).toInt = (((100 * (u).toInt) + ((pt : Nat) : Int)) - 1) from z_11)]
          refine W.eq (g2 := F0 m 189 ls [.int (σ (1, 22, 0) (((((100 * (u).toInt) + ((pt : Nat) : Int)) - 1)).toNat)), .int ((((100) * (u)) + (nI pt)) - (1)), .ref (L (1, 22, 0))]) rfl ?_
          refine lv_iconst (v := 1) hx hb dX7_present_189 (by decide) ?_
          refine lv_iadd hx hb dX7_present_190 ?_
          refine g_iast (n := 800) hx hb hK hG hS (1, 22, 0) ⟨by decide, rfl⟩ 0 (fun _ => rfl) rfl (g_vp (by have := (show ((((100) * (u)) + (nI pt)) - (1) : Int32).toInt = (((100 * (u).toInt) + ((pt : Nat) : Int)) - 1) from z_11); omega) (by have := (show ((((100) * (u)) + (nI pt)) - (1) : Int32).toInt = (((100 * (u).toInt) + ((pt : Nat) : Int)) - 1) from z_11); omega)) dX7_present_191 (fun H locs hG hS => ?_)
          rw [show ((((100) * (u)) + (nI pt)) - (1) : Int32).toNatClampNeg = ((((100 * (u).toInt) + ((pt : Nat) : Int)) - 1)).toNat from congrArg Int.toNat (show ((((100) * (u)) + (nI pt)) - (1) : Int32).toInt = (((100 * (u).toInt) + ((pt : Nat) : Int)) - 1) from z_11)] at hG
          refine lv_aload_n hx hb dX7_present_192 rfl (lv_at hl 4 rfl) ?_
          refine g_get (C := RX7) (T := TX7) (N := 28) (v := .ref (L (1, 23, 0))) hx hb hts inX7g hown hK hG (0, 0, 0) ⟨rfl, rfl⟩ (m_at_0 cy L 0 0 ((g_up (g_up σ (1, 19, 0) ((((100 * (u).toInt) + ((k : Nat) : Int))).toNat) (σ (1, 17, 0) (((((100 * ((5 * (u).toInt) + (v).toInt)) + (fr).toInt) + ((k : Nat) : Int))).toNat))) (1, 22, 0) (((((100 * (u).toInt) + ((pt : Nat) : Int)) - 1)).toNat) ((σ (1, 22, 0) (((((100 * (u).toInt) + ((pt : Nat) : Int)) - 1)).toNat)) + (1))) (0, 0, 0))) rfl 23 (by decide) fl_X7_68 rfl dX7_present_193 ?_
          refine lv_iload hx hb dX7_present_196 (lv_at hl 0 rfl) ?_
          refine lv_dup2_11 hx hb dX7_present_198 rfl rfl ?_
          refine g_iald (n := 800) hx hb hK hG (1, 23, 0) ⟨by decide, rfl⟩ 0 rfl rfl (g_vp (by have := (show ((((100) * (u)) + (nI pt)) - (1) : Int32).toInt = (((100 * (u).toInt) + ((pt : Nat) : Int)) - 1) from z_11); omega) (by have := (show ((((100) * (u)) + (nI pt)) - (1) : Int32).toInt = (((100 * (u).toInt) + ((pt : Nat) : Int)) - 1) from z_11); omega)) dX7_present_199 ?_
          rw [show ((((100) * (u)) + (nI pt)) - (1) : Int32).toNatClampNeg = ((((100 * (u).toInt) + ((pt : Nat) : Int)) - 1)).toNat from congrArg Int.toNat (show ((((100) * (u)) + (nI pt)) - (1) : Int32).toInt = (((100 * (u).toInt) + ((pt : Nat) : Int)) - 1) from z_11)]
          refine W.eq (g2 := F0 m 200 ls [.int (σ (1, 23, 0) (((((100 * (u).toInt) + ((pt : Nat) : Int)) - 1)).toNat)), .int ((((100) * (u)) + (nI pt)) - (1)), .ref (L (1, 23, 0))]) rfl ?_
          refine lv_aload_n hx hb dX7_present_200 rfl (lv_at hl 4 rfl) ?_
          refine g_get (C := RX7) (T := TX7) (N := 28) (v := .ref (L (1, 2, 0))) hx hb hts inX7g hown hK hG (0, 0, 0) ⟨rfl, rfl⟩ (m_at_0 cy L 0 0 ((g_up (g_up σ (1, 19, 0) ((((100 * (u).toInt) + ((k : Nat) : Int))).toNat) (σ (1, 17, 0) (((((100 * ((5 * (u).toInt) + (v).toInt)) + (fr).toInt) + ((k : Nat) : Int))).toNat))) (1, 22, 0) (((((100 * (u).toInt) + ((pt : Nat) : Int)) - 1)).toNat) ((σ (1, 22, 0) (((((100 * (u).toInt) + ((pt : Nat) : Int)) - 1)).toNat)) + (1))) (0, 0, 0))) rfl 2 (by decide) fl_X7_7 rfl dX7_present_201 ?_
          refine lv_iload hx hb dX7_present_204 (lv_at hl 1 rfl) ?_
          refine g_iald (n := 100) hx hb hK hG (1, 2, 0) ⟨by decide, rfl⟩ 0 rfl rfl (g_vp (by omega) (by omega)) dX7_present_206 ?_
          rw [show (σ (1, 17, 0) (((((100 * ((5 * (u).toInt) + (v).toInt)) + (fr).toInt) + ((k : Nat) : Int))).toNat) : Int32).toNatClampNeg = ((σ (1, 17, 0) (((((100 * ((5 * (u).toInt) + (v).toInt)) + (fr).toInt) + ((k : Nat) : Int))).toNat)).toInt).toNat from congrArg Int.toNat (show (σ (1, 17, 0) (((((100 * ((5 * (u).toInt) + (v).toInt)) + (fr).toInt) + ((k : Nat) : Int))).toNat) : Int32).toInt = (σ (1, 17, 0) (((((100 * ((5 * (u).toInt) + (v).toInt)) + (fr).toInt) + ((k : Nat) : Int))).toNat)).toInt from rfl)]
          refine W.eq (g2 := F0 m 207 ls [.int (σ (1, 2, 0) (((σ (1, 17, 0) (((((100 * ((5 * (u).toInt) + (v).toInt)) + (fr).toInt) + ((k : Nat) : Int))).toNat)).toInt).toNat)), .int (σ (1, 23, 0) (((((100 * (u).toInt) + ((pt : Nat) : Int)) - 1)).toNat)), .int ((((100) * (u)) + (nI pt)) - (1)), .ref (L (1, 23, 0))]) rfl ?_
          refine lv_iadd hx hb dX7_present_207 ?_
          refine g_iast (n := 800) hx hb hK hG hS (1, 23, 0) ⟨by decide, rfl⟩ 0 (fun _ => rfl) rfl (g_vp (by have := (show ((((100) * (u)) + (nI pt)) - (1) : Int32).toInt = (((100 * (u).toInt) + ((pt : Nat) : Int)) - 1) from z_11); omega) (by have := (show ((((100) * (u)) + (nI pt)) - (1) : Int32).toInt = (((100 * (u).toInt) + ((pt : Nat) : Int)) - 1) from z_11); omega)) dX7_present_208 (fun H locs hG hS => ?_)
          rw [show ((((100) * (u)) + (nI pt)) - (1) : Int32).toNatClampNeg = ((((100 * (u).toInt) + ((pt : Nat) : Int)) - 1)).toNat from congrArg Int.toNat (show ((((100) * (u)) + (nI pt)) - (1) : Int32).toInt = (((100 * (u).toInt) + ((pt : Nat) : Int)) - 1) from z_11)] at hG
          refine lv_goto (tgt := 252) hx hb dX7_present_209 (by decide) ?_
          refine lv_iinc (v := nI (k + 1)) (lv' := [(7, .int (nI (k + 1))), (9, .int ((((100) * (u)) + (nI pt)) - (1))), (8, .int (σ (1, 17, 0) (((((100 * ((5 * (u).toInt) + (v).toInt)) + (fr).toInt) + ((k : Nat) : Int))).toNat))), (6, .int (nI pt)), (0, .ref (L (0, 0, 0))), (1, .int (u)), (2, .int (v)), (3, .int (fr)), (4, .int (nn))]) hx hb dX7_present_252 hl (k := 2) rfl (nI_1 (k)) (by decide) rfl (fun ls hl => ?_)
          refine lv_goto (tgt := 100) hx hb dX7_present_255 (by decide) ?_
          have e90 : m_presGo u v fr (n + 1) k pt σ = m_presGo u v fr n (k + 1) (pt) (g_up (g_up (g_up σ (1, 19, 0) ((((100 * (u).toInt) + ((k : Nat) : Int))).toNat) (σ (1, 17, 0) (((((100 * ((5 * (u).toInt) + (v).toInt)) + (fr).toInt) + ((k : Nat) : Int))).toNat))) (1, 22, 0) (((((100 * (u).toInt) + ((pt : Nat) : Int)) - 1)).toNat) ((σ (1, 22, 0) (((((100 * (u).toInt) + ((pt : Nat) : Int)) - 1)).toNat)) + (1))) (1, 23, 0) (((((100 * (u).toInt) + ((pt : Nat) : Int)) - 1)).toNat) ((σ (1, 23, 0) (((((100 * (u).toInt) + ((pt : Nat) : Int)) - 1)).toNat)) + (σ (1, 2, 0) (((σ (1, 17, 0) (((((100 * ((5 * (u).toInt) + (v).toInt)) + (fr).toInt) + ((k : Nat) : Int))).toNat)).toInt).toNat)))) := (by rw [m_presGo_s]; unfold m_rec; first | (rw [if_pos (by omega)]; rfl) | (rw [if_neg (by omega)]; rfl))
          rw [e90] at kk9
          exact ih (g_up (g_up (g_up σ (1, 19, 0) ((((100 * (u).toInt) + ((k : Nat) : Int))).toNat) (σ (1, 17, 0) (((((100 * ((5 * (u).toInt) + (v).toInt)) + (fr).toInt) + ((k : Nat) : Int))).toNat))) (1, 22, 0) (((((100 * (u).toInt) + ((pt : Nat) : Int)) - 1)).toNat) ((σ (1, 22, 0) (((((100 * (u).toInt) + ((pt : Nat) : Int)) - 1)).toNat)) + (1))) (1, 23, 0) (((((100 * (u).toInt) + ((pt : Nat) : Int)) - 1)).toNat) ((σ (1, 23, 0) (((((100 * (u).toInt) + ((pt : Nat) : Int)) - 1)).toNat)) + (σ (1, 2, 0) (((σ (1, 17, 0) (((((100 * ((5 * (u).toInt) + (v).toInt)) + (fr).toInt) + ((k : Nat) : Int))).toNat)).toInt).toNat)))) (k + 1) (pt) H locs ls (by omega) (by exact hy) hG hS (lv_sub hl [0, 3, 4, 5, 6, 7, 8] rfl) kk9
set_option maxHeartbeats 4000000 in
set_option maxRecDepth 100000 in
theorem c_X7_present (l : Launch) (D : va_G) (cy : Nat → ClassId) (L : g_S → Nat) (σ : g_S → Nat → Int32) (τ : g_S → Nat → Int32) (hτ : g_up σ (0, 0, 0) 0 0 = τ) (u v fr nn : Int32) (s0 : 0 ≤ (τ (0, 0, 0) 10).toInt) (s1 : (τ (0, 0, 0) 10).toInt ≤ 8) (hmY : (τ (1, 16, 0) ((5 * (u).toInt) + (v).toInt).toNat).toInt ≤ 100) (hmA0 : ∀ t : Nat, (t : Int) < (τ (1, 16, 0) ((5 * (u).toInt) + (v).toInt).toNat).toInt → 0 ≤ (τ (1, 17, 0) ((100 * ((5 * (u).toInt) + (v).toInt)) + (t : Int)).toNat).toInt ∧ (τ (1, 17, 0) ((100 * ((5 * (u).toInt) + (v).toInt)) + (t : Int)).toNat).toInt < 100) : m_Met l D cy L yX7_present (.code yX7_present cX7_present 10 (some .int)) 3 σ [.ref (L (0, 0, 0)), .int (u), .int (v), .int (fr), .int (nn)] (some (.int (m_presentR τ u v fr nn))) (m_presentM τ u v fr nn) := by
  refine g_Met.of (by decide) (Nat.le_of_ble_eq_true rfl) ?_
  intro pg e s m below meth c hx hb hr hlk hml hown hts hK hN H locs hG hS ls hl
  have hown : s.vm.findClass RX7 = some m.cls := hown
  have hl : lv_has ls 10 [(0, .ref (L (0, 0, 0))), (1, .int (u)), (2, .int (v)), (3, .int (fr)), (4, .int (nn))] := hl
  refine lv_aload_n hx hb dX7_present_0 rfl (lv_at hl 0 rfl) ?_
  refine lv_iconst (v := 0) hx hb dX7_present_1 (by decide) ?_
  refine g_puti (C := RX7) (T := TX7) (N := 28) (v := 0) (ty := .int) hx hb hts inX7g tyX7_ok nmX7 hown hK hG hS (0, 0, 0) ⟨rfl, rfl⟩ (m_at_0 cy L 0 0 (σ (0, 0, 0))) rfl 0 (by decide) (m_up_0_0 cy L 0 0 (σ (0, 0, 0)) (0)) fl_X7_83 rfl (by decide +kernel) rfl rfl (Nat.le_of_ble_eq_true rfl) dX7_present_2 (fun H locs hG hS => ?_)
  rw [hτ] at hG
  refine lv_aload_n hx hb dX7_present_5 rfl (lv_at hl 0 rfl) ?_
  refine lv_iload_n hx hb dX7_present_6 rfl (lv_at hl 1 rfl) ?_
  refine g_cont (va_runV (As := [.int (u)]) (rest := []) ⟨hx, hb, hml, hown, hts⟩ (c_X7_isOpen l D cy L τ (u) s0 s1) (cwV 1 hts gV_X7_118 rfl rfl rfl (by decide +kernel) ⟨Nat.le_of_ble_eq_true rfl, Nat.le_of_ble_eq_true rfl⟩) (g_preV hK hN hG (x := (0, 0, 0)) ⟨rfl, rfl⟩ (q := (RX7, TX7, 28)) (m_at_0 cy L 0 0 (τ (0, 0, 0))) rfl) rfl rfl hl.1 rfl (lv_room (Nat.le_of_ble_eq_true rfl)) dX7_present_7 ⟨Nat.zero_le _, Nat.zero_le _⟩) hS (fun H locs hG hS => ?_)
  refine W.eq (g2 := F0 m 10 ls [.int (g_b ((0 ≤ (u).toInt ∧ (u).toInt ≤ ((τ (0, 0, 0) 10).toInt - 1)) ∧ (τ (2, 13, 0) ((u).toInt).toNat).toInt = 0))]) rfl ?_
  refine kz_b_ne (tgt := 16) hx hb dX7_present_10 (by decide) (fun c_10_1 => ?_) (fun c_10_1 => ?_)
  · refine lv_aload_n hx hb dX7_present_16 rfl (lv_at hl 0 rfl) ?_
    refine lv_iload_n hx hb dX7_present_17 rfl (lv_at hl 1 rfl) ?_
    refine lv_iload_n hx hb dX7_present_18 rfl (lv_at hl 2 rfl) ?_
    refine g_cont (va_runV (As := [.int (u), .int (v)]) (rest := []) ⟨hx, hb, hml, hown, hts⟩ (c_X7_isSet l D cy L τ (u) (v) ⟨by omega, by omega⟩) (cwV 2 hts gV_X7_128 rfl rfl rfl (by decide +kernel) ⟨Nat.le_of_ble_eq_true rfl, Nat.le_of_ble_eq_true rfl⟩) (g_preV hK hN hG (x := (0, 0, 0)) ⟨rfl, rfl⟩ (q := (RX7, TX7, 28)) (m_at_0 cy L 0 0 (τ (0, 0, 0))) rfl) rfl rfl hl.1 rfl (lv_room (Nat.le_of_ble_eq_true rfl)) dX7_present_19 ⟨Nat.zero_le _, Nat.zero_le _⟩) hS (fun H locs hG hS => ?_)
    refine W.eq (g2 := F0 m 22 ls [.int (g_b ((0 ≤ (v).toInt ∧ (v).toInt ≤ (if (τ (1, 11, 0) ((u).toInt).toNat &&& 4).toInt = 4 then (4 : Int) else 0)) ∧ 0 ≤ (τ (1, 16, 0) ((5 * (u).toInt) + (v).toInt).toNat).toInt))]) rfl ?_
    refine kz_b_ne (tgt := 33) hx hb dX7_present_22 (by decide) (fun c_22_2 => ?_) (fun c_22_2 => ?_)
    · refine lv_iload hx hb dX7_present_33 (lv_at hl 4 rfl) ?_
      refine lv_iconst (v := 1) hx hb dX7_present_35 (by decide) ?_
      refine kz_icmp_ge (X := (nn).toInt) (Y := 1) hx hb rfl (by decide) dX7_present_36 (tgt := 47) (by decide) (fun c_36_3 => ?_) (fun c_36_3 => ?_)
      · refine lv_aload_n hx hb dX7_present_47 rfl (lv_at hl 0 rfl) ?_
        refine g_get (C := RX7) (T := TX7) (N := 28) (v := .ref (L (1, 16, 0))) hx hb hts inX7g hown hK hG (0, 0, 0) ⟨rfl, rfl⟩ (m_at_0 cy L 0 0 (τ (0, 0, 0))) rfl 16 (by decide) fl_X7_47 rfl dX7_present_48 ?_
        refine lv_iconst (v := 5) hx hb dX7_present_51 (by decide) ?_
        refine lv_iload_n hx hb dX7_present_52 rfl (lv_at hl 1 rfl) ?_
        refine lv_imul hx hb dX7_present_53 ?_
        have z_4 : ((5) * (u)).toInt = (5 * (u).toInt) := g_mulZ (by decide) rfl (by omega) (by omega)
        refine lv_iload_n hx hb dX7_present_54 rfl (lv_at hl 2 rfl) ?_
        refine lv_iadd hx hb dX7_present_55 ?_
        have z_5 : (((5) * (u)) + (v)).toInt = ((5 * (u).toInt) + (v).toInt) := g_addZ z_4 rfl (by omega) (by omega)
        refine g_iald (n := 40) hx hb hK hG (1, 16, 0) ⟨by decide, rfl⟩ 0 rfl rfl (g_vp (by have := (show (((5) * (u)) + (v) : Int32).toInt = ((5 * (u).toInt) + (v).toInt) from z_5); omega) (by have := (show (((5) * (u)) + (v) : Int32).toInt = ((5 * (u).toInt) + (v).toInt) from z_5); omega)) dX7_present_56 ?_
        rw [show (((5) * (u)) + (v) : Int32).toNatClampNeg = (((5 * (u).toInt) + (v).toInt)).toNat from congrArg Int.toNat (show (((5) * (u)) + (v) : Int32).toInt = ((5 * (u).toInt) + (v).toInt) from z_5)]
        refine lv_istore (lv' := [(5, .int (τ (1, 16, 0) ((((5 * (u).toInt) + (v).toInt)).toNat))), (0, .ref (L (0, 0, 0))), (1, .int (u)), (2, .int (v)), (3, .int (fr)), (4, .int (nn))]) hx hb dX7_present_57 hl (by decide) rfl (fun ls hl => ?_)
        refine lv_iload_n hx hb dX7_present_59 rfl (lv_at hl 4 rfl) ?_
        refine kz_if_lt (X := (fr).toInt) hx hb rfl dX7_present_60 (tgt := 78) (by decide) (fun c_60_6 => ?_) (fun c_60_6 => ?_)
        · refine lv_aload_n hx hb dX7_present_78 rfl (lv_at hl 1 rfl) ?_
          refine lv_iload_n hx hb dX7_present_79 rfl (lv_at hl 2 rfl) ?_
          refine lv_bipush (v := 105) hx hb dX7_present_80 (by decide) ?_
          refine g_cont (va_runV (As := [.int (u), .int 105]) (rest := []) ⟨hx, hb, hml, hown, hts⟩ (c_X7_tell l D cy L τ (u) (105) ⟨by omega, by omega⟩) (cwV 2 hts gV_X7_121 rfl rfl rfl (by decide +kernel) ⟨Nat.le_of_ble_eq_true rfl, Nat.le_of_ble_eq_true rfl⟩) (g_preV hK hN hG (x := (0, 0, 0)) ⟨rfl, rfl⟩ (q := (RX7, TX7, 28)) (m_at_0 cy L 0 0 (τ (0, 0, 0))) rfl) rfl rfl hl.1 rfl (lv_room (Nat.le_of_ble_eq_true rfl)) dX7_present_82 ⟨Nat.zero_le _, Nat.zero_le _⟩) hS (fun H locs hG hS => ?_)
          refine W.eq (g2 := F0 m 85 ls [.int (-(105))]) rfl ?_
          exact s_iret hx hb hr hlk hG hS dX7_present_85 (by unfold m_presentR; (repeat' split) <;> first | rfl | (exfalso; omega)) (by unfold m_presentM m_presM; (repeat' split) <;> first | rfl | (exfalso; omega))
        · refine lv_iload_n hx hb dX7_present_63 rfl (lv_at hl 4 rfl) ?_
          refine lv_iload hx hb dX7_present_64 (lv_at hl 0 rfl) ?_
          refine kz_icmp_gt (X := (fr).toInt) (Y := (τ (1, 16, 0) ((((5 * (u).toInt) + (v).toInt)).toNat)).toInt) hx hb rfl rfl dX7_present_66 (tgt := 78) (by decide) (fun c_66_7 => ?_) (fun c_66_7 => ?_)
          · refine lv_aload_n hx hb dX7_present_78 rfl (lv_at hl 1 rfl) ?_
            refine lv_iload_n hx hb dX7_present_79 rfl (lv_at hl 2 rfl) ?_
            refine lv_bipush (v := 105) hx hb dX7_present_80 (by decide) ?_
            refine g_cont (va_runV (As := [.int (u), .int 105]) (rest := []) ⟨hx, hb, hml, hown, hts⟩ (c_X7_tell l D cy L τ (u) (105) ⟨by omega, by omega⟩) (cwV 2 hts gV_X7_121 rfl rfl rfl (by decide +kernel) ⟨Nat.le_of_ble_eq_true rfl, Nat.le_of_ble_eq_true rfl⟩) (g_preV hK hN hG (x := (0, 0, 0)) ⟨rfl, rfl⟩ (q := (RX7, TX7, 28)) (m_at_0 cy L 0 0 (τ (0, 0, 0))) rfl) rfl rfl hl.1 rfl (lv_room (Nat.le_of_ble_eq_true rfl)) dX7_present_82 ⟨Nat.zero_le _, Nat.zero_le _⟩) hS (fun H locs hG hS => ?_)
            refine W.eq (g2 := F0 m 85 ls [.int (-(105))]) rfl ?_
            exact s_iret hx hb hr hlk hG hS dX7_present_85 (by unfold m_presentR; (repeat' split) <;> first | rfl | (exfalso; omega)) (by unfold m_presentM m_presM; (repeat' split) <;> first | rfl | (exfalso; omega))
          · refine lv_iload hx hb dX7_present_69 (lv_at hl 5 rfl) ?_
            refine lv_iload hx hb dX7_present_71 (lv_at hl 0 rfl) ?_
            refine lv_iload_n hx hb dX7_present_73 rfl (lv_at hl 4 rfl) ?_
            refine lv_isub hx hb dX7_present_74 ?_
            have z_8 : ((τ (1, 16, 0) ((((5 * (u).toInt) + (v).toInt)).toNat)) - (fr)).toInt = ((τ (1, 16, 0) ((((5 * (u).toInt) + (v).toInt)).toNat)).toInt - (fr).toInt) := g_subZ rfl rfl (by omega) (by omega)
            refine kz_icmp_le (X := (nn).toInt) (Y := ((τ (1, 16, 0) ((((5 * (u).toInt) + (v).toInt)).toNat)).toInt - (fr).toInt)) hx hb rfl z_8 dX7_present_75 (tgt := 86) (by decide) (fun c_75_9 => ?_) (fun c_75_9 => ?_)
            · refine lv_aload_n hx hb dX7_present_86 rfl (lv_at hl 1 rfl) ?_
              refine g_get (C := RX7) (T := TX7) (N := 28) (v := .ref (L (1, 18, 0))) hx hb hts inX7g hown hK hG (0, 0, 0) ⟨rfl, rfl⟩ (m_at_0 cy L 0 0 (τ (0, 0, 0))) rfl 18 (by decide) fl_X7_53 rfl dX7_present_87 ?_
              refine lv_iload_n hx hb dX7_present_90 rfl (lv_at hl 2 rfl) ?_
              refine lv_iload hx hb dX7_present_91 (lv_at hl 5 rfl) ?_
              refine g_iast (n := 8) hx hb hK hG hS (1, 18, 0) ⟨by decide, rfl⟩ 0 (fun _ => rfl) rfl (g_vp (by omega) (by omega)) dX7_present_93 (fun H locs hG hS => ?_)
              rw [show (u : Int32).toNatClampNeg = ((u).toInt).toNat from congrArg Int.toNat (show (u : Int32).toInt = (u).toInt from rfl)] at hG
              refine lv_iconst (v := 0) hx hb dX7_present_94 (by decide) ?_
              refine lv_istore (lv' := [(6, .int 0), (5, .int (τ (1, 16, 0) ((((5 * (u).toInt) + (v).toInt)).toNat))), (0, .ref (L (0, 0, 0))), (1, .int (u)), (2, .int (v)), (3, .int (fr)), (4, .int (nn))]) hx hb dX7_present_95 hl (by decide) rfl (fun ls hl => ?_)
              refine lv_iconst (v := 0) hx hb dX7_present_97 (by decide) ?_
              refine lv_istore (lv' := [(7, .int 0), (6, .int 0), (5, .int (τ (1, 16, 0) ((((5 * (u).toInt) + (v).toInt)).toNat))), (0, .ref (L (0, 0, 0))), (1, .int (u)), (2, .int (v)), (3, .int (fr)), (4, .int (nn))]) hx hb dX7_present_98 hl (by decide) rfl (fun ls hl => ?_)
              have hr8 := g_rng nn
              have hmA : ∀ t : Nat, (t : Int) < (nn).toInt → 0 ≤ (τ (1, 17, 0) (((100 * ((5 * (u).toInt) + (v).toInt)) + (fr).toInt) + (t : Int)).toNat).toInt ∧ (τ (1, 17, 0) (((100 * ((5 * (u).toInt) + (v).toInt)) + (fr).toInt) + (t : Int)).toNat).toInt < 100 := fun t ht => by
                have := hmA0 ((fr).toInt.toNat + t) (by omega)
                rw [show ((100 * ((5 * (u).toInt) + (v).toInt)) + (((fr).toInt.toNat + t : Nat) : Int)) = (((100 * ((5 * (u).toInt) + (v).toInt)) + (fr).toInt) + (t : Int)) by omega] at this
                exact this
              have hnm9 : (v).toInt ≤ 4 := by
                have h7 : (v).toInt ≤ (if (τ (1, 11, 0) ((u).toInt).toNat &&& 4).toInt = 4 then (4 : Int) else 0) := by omega
                split at h7 <;> omega
              refine lp_mpres l D cy L ⟨hx, hb, hr, hlk, hml, hown, hts, hK, hN⟩ u v fr nn ⟨by omega, by omega⟩ ⟨by omega, by omega⟩ ⟨by omega, by omega⟩ nn.toInt.toNat (g_up τ (1, 18, 0) (((u).toInt).toNat) (nn)) 0 0 H locs ls ⟨by omega, by omega⟩ (fun t ht => hmA t (by omega)) hG hS (lv_sub hl [0, 1, 3, 4, 5, 6, 7] rfl) (fun H locs ls hG hS hl => ?_)
              have hle := m_presGo_le u v fr nn.toInt.toNat 0 0 (g_up τ (1, 18, 0) ((u).toInt).toNat nn)
              have hle : (m_pres τ u v fr nn).2 ≤ 0 + nn.toInt.toNat := hle
              refine lv_aload_n hx hb dX7_present_258 rfl (lv_at hl 1 rfl) ?_
              refine g_get (C := RX7) (T := TX7) (N := 28) (v := .ref (L (1, 20, 0))) hx hb hts inX7g hown hK hG (0, 0, 0) ⟨rfl, rfl⟩ (m_at_0 cy L 0 0 ((m_pres τ u v fr nn).1 (0, 0, 0))) rfl 20 (by decide) fl_X7_59 rfl dX7_present_259 ?_
              refine lv_iload_n hx hb dX7_present_262 rfl (lv_at hl 2 rfl) ?_
              refine lv_iload hx hb dX7_present_263 (lv_at hl 0 rfl) ?_
              refine g_iast (n := 8) hx hb hK hG hS (1, 20, 0) ⟨by decide, rfl⟩ 0 (fun _ => rfl) rfl (g_vp (by omega) (by omega)) dX7_present_265 (fun H locs hG hS => ?_)
              rw [show (u : Int32).toNatClampNeg = ((u).toInt).toNat from congrArg Int.toNat (show (u : Int32).toInt = (u).toInt from rfl)] at hG
              refine lv_iload hx hb dX7_present_266 (lv_at hl 0 rfl) ?_
              exact s_iret hx hb hr hlk hG hS dX7_present_268 (by unfold m_presentR; (repeat' split) <;> first | rfl | (exfalso; omega)) (by unfold m_presentM m_presM; (repeat' split) <;> first | rfl | (exfalso; omega))
            · refine lv_aload_n hx hb dX7_present_78 rfl (lv_at hl 1 rfl) ?_
              refine lv_iload_n hx hb dX7_present_79 rfl (lv_at hl 2 rfl) ?_
              refine lv_bipush (v := 105) hx hb dX7_present_80 (by decide) ?_
              refine g_cont (va_runV (As := [.int (u), .int 105]) (rest := []) ⟨hx, hb, hml, hown, hts⟩ (c_X7_tell l D cy L τ (u) (105) ⟨by omega, by omega⟩) (cwV 2 hts gV_X7_121 rfl rfl rfl (by decide +kernel) ⟨Nat.le_of_ble_eq_true rfl, Nat.le_of_ble_eq_true rfl⟩) (g_preV hK hN hG (x := (0, 0, 0)) ⟨rfl, rfl⟩ (q := (RX7, TX7, 28)) (m_at_0 cy L 0 0 (τ (0, 0, 0))) rfl) rfl rfl hl.1 rfl (lv_room (Nat.le_of_ble_eq_true rfl)) dX7_present_82 ⟨Nat.zero_le _, Nat.zero_le _⟩) hS (fun H locs hG hS => ?_)
              refine W.eq (g2 := F0 m 85 ls [.int (-(105))]) rfl ?_
              exact s_iret hx hb hr hlk hG hS dX7_present_85 (by unfold m_presentR; (repeat' split) <;> first | rfl | (exfalso; omega)) (by unfold m_presentM m_presM; (repeat' split) <;> first | rfl | (exfalso; omega))
      · refine lv_aload_n hx hb dX7_present_39 rfl (lv_at hl 0 rfl) ?_
        refine lv_iload_n hx hb dX7_present_40 rfl (lv_at hl 1 rfl) ?_
        refine lv_bipush (v := 107) hx hb dX7_present_41 (by decide) ?_
        refine g_cont (va_runV (As := [.int (u), .int 107]) (rest := []) ⟨hx, hb, hml, hown, hts⟩ (c_X7_tell l D cy L τ (u) (107) ⟨by omega, by omega⟩) (cwV 2 hts gV_X7_121 rfl rfl rfl (by decide +kernel) ⟨Nat.le_of_ble_eq_true rfl, Nat.le_of_ble_eq_true rfl⟩) (g_preV hK hN hG (x := (0, 0, 0)) ⟨rfl, rfl⟩ (q := (RX7, TX7, 28)) (m_at_0 cy L 0 0 (τ (0, 0, 0))) rfl) rfl rfl hl.1 rfl (lv_room (Nat.le_of_ble_eq_true rfl)) dX7_present_43 ⟨Nat.zero_le _, Nat.zero_le _⟩) hS (fun H locs hG hS => ?_)
        refine W.eq (g2 := F0 m 46 ls [.int (-(107))]) rfl ?_
        exact s_iret hx hb hr hlk hG hS dX7_present_46 (by unfold m_presentR; (repeat' split) <;> first | rfl | (exfalso; omega)) (by unfold m_presentM m_presM; (repeat' split) <;> first | rfl | (exfalso; omega))
    · refine lv_aload_n hx hb dX7_present_25 rfl (lv_at hl 0 rfl) ?_
      refine lv_iload_n hx hb dX7_present_26 rfl (lv_at hl 1 rfl) ?_
      refine lv_bipush (v := 104) hx hb dX7_present_27 (by decide) ?_
      refine g_cont (va_runV (As := [.int (u), .int 104]) (rest := []) ⟨hx, hb, hml, hown, hts⟩ (c_X7_tell l D cy L τ (u) (104) ⟨by omega, by omega⟩) (cwV 2 hts gV_X7_121 rfl rfl rfl (by decide +kernel) ⟨Nat.le_of_ble_eq_true rfl, Nat.le_of_ble_eq_true rfl⟩) (g_preV hK hN hG (x := (0, 0, 0)) ⟨rfl, rfl⟩ (q := (RX7, TX7, 28)) (m_at_0 cy L 0 0 (τ (0, 0, 0))) rfl) rfl rfl hl.1 rfl (lv_room (Nat.le_of_ble_eq_true rfl)) dX7_present_29 ⟨Nat.zero_le _, Nat.zero_le _⟩) hS (fun H locs hG hS => ?_)
      refine W.eq (g2 := F0 m 32 ls [.int (-(104))]) rfl ?_
      exact s_iret hx hb hr hlk hG hS dX7_present_32 (by unfold m_presentR; (repeat' split) <;> first | rfl | (exfalso; omega)) (by unfold m_presentM m_presM; (repeat' split) <;> first | rfl | (exfalso; omega))
  · refine lv_bipush (v := (-101)) hx hb dX7_present_13 (by decide) ?_
    exact s_iret hx hb hr hlk hG hS dX7_present_15 (by unfold m_presentR; (repeat' split) <;> first | rfl | (exfalso; omega)) (by unfold m_presentM m_presM; (repeat' split) <;> first | rfl | (exfalso; omega))
set_option maxHeartbeats 4000000 in
set_option maxRecDepth 100000 in
theorem c_X7_segment (l : Launch) (D : va_G) (cy : Nat → ClassId) (L : g_S → Nat) (σ : g_S → Nat → Int32) (τ : g_S → Nat → Int32) (hτ : g_up σ (0, 0, 0) 0 0 = τ) (u p w : Int32) (s0 : 0 ≤ (τ (0, 0, 0) 10).toInt) (s1 : (τ (0, 0, 0) 10).toInt ≤ 8) (hsg : ∀ a : Nat, a < 8 → 0 ≤ (τ (1, 20, 0) a).toInt ∧ (τ (1, 20, 0) a).toInt ≤ 100) : m_Met l D cy L yX7_segment (.code yX7_segment cX7_segment 5 (some .int)) 2 σ [.ref (L (0, 0, 0)), .int (u), .int (p), .int (w)] (some (.int (m_segR τ u p w))) τ := by
  refine g_Met.of (by decide) (Nat.le_of_ble_eq_true rfl) ?_
  intro pg e s m below meth c hx hb hr hlk hml hown hts hK hN H locs hG hS ls hl
  have hown : s.vm.findClass RX7 = some m.cls := hown
  have hl : lv_has ls 5 [(0, .ref (L (0, 0, 0))), (1, .int (u)), (2, .int (p)), (3, .int (w))] := hl
  refine lv_aload_n hx hb dX7_segment_0 rfl (lv_at hl 0 rfl) ?_
  refine lv_iconst (v := 0) hx hb dX7_segment_1 (by decide) ?_
  refine g_puti (C := RX7) (T := TX7) (N := 28) (v := 0) (ty := .int) hx hb hts inX7g tyX7_ok nmX7 hown hK hG hS (0, 0, 0) ⟨rfl, rfl⟩ (m_at_0 cy L 0 0 (σ (0, 0, 0))) rfl 0 (by decide) (m_up_0_0 cy L 0 0 (σ (0, 0, 0)) (0)) fl_X7_83 rfl (by decide +kernel) rfl rfl (Nat.le_of_ble_eq_true rfl) dX7_segment_2 (fun H locs hG hS => ?_)
  rw [hτ] at hG
  refine lv_iload_n hx hb dX7_segment_5 rfl (lv_at hl 1 rfl) ?_
  refine lv_iconst (v := 0) hx hb dX7_segment_6 (by decide) ?_
  refine lv_aload_n hx hb dX7_segment_7 rfl (lv_at hl 0 rfl) ?_
  refine g_get (C := RX7) (T := TX7) (N := 28) (v := .int (τ (0, 0, 0) 10)) hx hb hts inX7g hown hK hG (0, 0, 0) ⟨rfl, rfl⟩ (m_at_0 cy L 0 0 (τ (0, 0, 0))) rfl 10 (by decide) fl_X7_107 rfl dX7_segment_8 ?_
  refine lv_iconst (v := 1) hx hb dX7_segment_11 (by decide) ?_
  refine lv_isub hx hb dX7_segment_12 ?_
  have z_1 : ((τ (0, 0, 0) 10) - (1)).toInt = ((τ (0, 0, 0) 10).toInt - 1) := g_subZ rfl (by decide) (by omega) (by omega)
  refine g_cont (va_runS (As := [.int (u), .int 0, .int ((τ (0, 0, 0) 10) - (1))]) (rest := []) ⟨hx, hb, hml, hown, hts⟩ (c_X7_in l D cy L τ (u) (0) ((τ (0, 0, 0) 10) - (1)) (u).toInt 0 ((τ (0, 0, 0) 10).toInt - 1) rfl (by decide) z_1) (cwS 3 hts gS_X7_87 rfl rfl rfl (by decide +kernel) ⟨Nat.le_of_ble_eq_true rfl, Nat.le_of_ble_eq_true rfl⟩) (g_preS hK hN hG) rfl rfl hl.1 rfl (lv_room (Nat.le_of_ble_eq_true rfl)) dX7_segment_13 ⟨Nat.zero_le _, Nat.zero_le _⟩) hS (fun H locs hG hS => ?_)
  refine W.eq (g2 := F0 m 16 ls [.int (g_b (0 ≤ (u).toInt ∧ (u).toInt ≤ ((τ (0, 0, 0) 10).toInt - 1)))]) rfl ?_
  refine kz_b_eq (tgt := 35) hx hb dX7_segment_16 (by decide) (fun c_16_2 => ?_) (fun c_16_2 => ?_)
  · refine lv_iconst (v := (-1)) hx hb dX7_segment_35 (by decide) ?_
    exact s_iret hx hb hr hlk hG hS dX7_segment_36 (by unfold m_segR; (repeat' split) <;> first | rfl | (exfalso; omega)) rfl
  · have hs9 := hsg ((u).toInt).toNat (by omega)
    refine lv_iload_n hx hb dX7_segment_19 rfl (lv_at hl 2 rfl) ?_
    refine lv_iconst (v := 0) hx hb dX7_segment_20 (by decide) ?_
    refine lv_aload_n hx hb dX7_segment_21 rfl (lv_at hl 0 rfl) ?_
    refine g_get (C := RX7) (T := TX7) (N := 28) (v := .ref (L (1, 20, 0))) hx hb hts inX7g hown hK hG (0, 0, 0) ⟨rfl, rfl⟩ (m_at_0 cy L 0 0 (τ (0, 0, 0))) rfl 20 (by decide) fl_X7_59 rfl dX7_segment_22 ?_
    refine lv_iload_n hx hb dX7_segment_25 rfl (lv_at hl 1 rfl) ?_
    refine g_iald (n := 8) hx hb hK hG (1, 20, 0) ⟨by decide, rfl⟩ 0 rfl rfl (g_vp (by omega) (by omega)) dX7_segment_26 ?_
    rw [show (u : Int32).toNatClampNeg = ((u).toInt).toNat from congrArg Int.toNat (show (u : Int32).toInt = (u).toInt from rfl)]
    refine lv_iconst (v := 1) hx hb dX7_segment_27 (by decide) ?_
    refine lv_isub hx hb dX7_segment_28 ?_
    have z_3 : ((τ (1, 20, 0) (((u).toInt).toNat)) - (1)).toInt = ((τ (1, 20, 0) (((u).toInt).toNat)).toInt - 1) := g_subZ rfl (by decide) (by omega) (by omega)
    refine g_cont (va_runS (As := [.int (p), .int 0, .int ((τ (1, 20, 0) (((u).toInt).toNat)) - (1))]) (rest := []) ⟨hx, hb, hml, hown, hts⟩ (c_X7_in l D cy L τ (p) (0) ((τ (1, 20, 0) (((u).toInt).toNat)) - (1)) (p).toInt 0 ((τ (1, 20, 0) (((u).toInt).toNat)).toInt - 1) rfl (by decide) z_3) (cwS 3 hts gS_X7_87 rfl rfl rfl (by decide +kernel) ⟨Nat.le_of_ble_eq_true rfl, Nat.le_of_ble_eq_true rfl⟩) (g_preS hK hN hG) rfl rfl hl.1 rfl (lv_room (Nat.le_of_ble_eq_true rfl)) dX7_segment_29 ⟨Nat.zero_le _, Nat.zero_le _⟩) hS (fun H locs hG hS => ?_)
    refine W.eq (g2 := F0 m 32 ls [.int (g_b (0 ≤ (p).toInt ∧ (p).toInt ≤ ((τ (1, 20, 0) (((u).toInt).toNat)).toInt - 1)))]) rfl ?_
    refine kz_b_ne (tgt := 37) hx hb dX7_segment_32 (by decide) (fun c_32_4 => ?_) (fun c_32_4 => ?_)
    · refine lv_bipush (v := 100) hx hb dX7_segment_37 (by decide) ?_
      refine lv_iload_n hx hb dX7_segment_39 rfl (lv_at hl 1 rfl) ?_
      refine lv_imul hx hb dX7_segment_40 ?_
      have z_5 : ((100) * (u)).toInt = (100 * (u).toInt) := g_mulZ (by decide) rfl (by omega) (by omega)
      refine lv_iload_n hx hb dX7_segment_41 rfl (lv_at hl 2 rfl) ?_
      refine lv_iadd hx hb dX7_segment_42 ?_
      have z_6 : (((100) * (u)) + (p)).toInt = ((100 * (u).toInt) + (p).toInt) := g_addZ z_5 rfl (by omega) (by omega)
      refine lv_istore (lv' := [(4, .int (((100) * (u)) + (p))), (0, .ref (L (0, 0, 0))), (1, .int (u)), (2, .int (p)), (3, .int (w))]) hx hb dX7_segment_43 hl (by decide) rfl (fun ls hl => ?_)
      refine lv_iload_n hx hb dX7_segment_45 rfl (lv_at hl 4 rfl) ?_
      rcases (show (w).toInt = 0 ∨ (w).toInt = 1 ∨ (w).toInt = 2 ∨ (w).toInt = 3 ∨ ((w).toInt < 0 ∨ 3 < (w).toInt) by omega) with c_46_7 | c_46_7 | c_46_7 | c_46_7 | c_46_7
      · refine lv_tableIn (off := 30) (tgt := 76) hx hb dX7_segment_46 (by have := (show (w : Int32).toInt = (w).toInt from rfl); omega) (by have := (show (w : Int32).toInt = (w).toInt from rfl); omega) (by rw [((show (w : Int32).toInt = (w).toInt from rfl)).trans c_46_7]; rfl) (by decide) ?_
        refine lv_aload_n hx hb dX7_segment_76 rfl (lv_at hl 1 rfl) ?_
        refine g_get (C := RX7) (T := TX7) (N := 28) (v := .ref (L (1, 21, 0))) hx hb hts inX7g hown hK hG (0, 0, 0) ⟨rfl, rfl⟩ (m_at_0 cy L 0 0 (τ (0, 0, 0))) rfl 21 (by decide) fl_X7_62 rfl dX7_segment_77 ?_
        refine lv_iload hx hb dX7_segment_80 (lv_at hl 0 rfl) ?_
        refine g_iald (n := 800) hx hb hK hG (1, 21, 0) ⟨by decide, rfl⟩ 0 rfl rfl (g_vp (by have := (show (((100) * (u)) + (p) : Int32).toInt = ((100 * (u).toInt) + (p).toInt) from z_6); omega) (by have := (show (((100) * (u)) + (p) : Int32).toInt = ((100 * (u).toInt) + (p).toInt) from z_6); omega)) dX7_segment_82 ?_
        rw [show (((100) * (u)) + (p) : Int32).toNatClampNeg = (((100 * (u).toInt) + (p).toInt)).toNat from congrArg Int.toNat (show (((100) * (u)) + (p) : Int32).toInt = ((100 * (u).toInt) + (p).toInt) from z_6)]
        exact s_iret hx hb hr hlk hG hS dX7_segment_83 (by unfold m_segR; (repeat' split) <;> first | rfl | (exfalso; omega)) rfl
      · refine lv_tableIn (off := 38) (tgt := 84) hx hb dX7_segment_46 (by have := (show (w : Int32).toInt = (w).toInt from rfl); omega) (by have := (show (w : Int32).toInt = (w).toInt from rfl); omega) (by rw [((show (w : Int32).toInt = (w).toInt from rfl)).trans c_46_7]; rfl) (by decide) ?_
        refine lv_aload_n hx hb dX7_segment_84 rfl (lv_at hl 1 rfl) ?_
        refine g_get (C := RX7) (T := TX7) (N := 28) (v := .ref (L (1, 22, 0))) hx hb hts inX7g hown hK hG (0, 0, 0) ⟨rfl, rfl⟩ (m_at_0 cy L 0 0 (τ (0, 0, 0))) rfl 22 (by decide) fl_X7_65 rfl dX7_segment_85 ?_
        refine lv_iload hx hb dX7_segment_88 (lv_at hl 0 rfl) ?_
        refine g_iald (n := 800) hx hb hK hG (1, 22, 0) ⟨by decide, rfl⟩ 0 rfl rfl (g_vp (by have := (show (((100) * (u)) + (p) : Int32).toInt = ((100 * (u).toInt) + (p).toInt) from z_6); omega) (by have := (show (((100) * (u)) + (p) : Int32).toInt = ((100 * (u).toInt) + (p).toInt) from z_6); omega)) dX7_segment_90 ?_
        rw [show (((100) * (u)) + (p) : Int32).toNatClampNeg = (((100 * (u).toInt) + (p).toInt)).toNat from congrArg Int.toNat (show (((100) * (u)) + (p) : Int32).toInt = ((100 * (u).toInt) + (p).toInt) from z_6)]
        exact s_iret hx hb hr hlk hG hS dX7_segment_91 (by unfold m_segR; (repeat' split) <;> first | rfl | (exfalso; omega)) rfl
      · refine lv_tableIn (off := 46) (tgt := 92) hx hb dX7_segment_46 (by have := (show (w : Int32).toInt = (w).toInt from rfl); omega) (by have := (show (w : Int32).toInt = (w).toInt from rfl); omega) (by rw [((show (w : Int32).toInt = (w).toInt from rfl)).trans c_46_7]; rfl) (by decide) ?_
        refine lv_aload_n hx hb dX7_segment_92 rfl (lv_at hl 1 rfl) ?_
        refine g_get (C := RX7) (T := TX7) (N := 28) (v := .ref (L (1, 23, 0))) hx hb hts inX7g hown hK hG (0, 0, 0) ⟨rfl, rfl⟩ (m_at_0 cy L 0 0 (τ (0, 0, 0))) rfl 23 (by decide) fl_X7_68 rfl dX7_segment_93 ?_
        refine lv_iload hx hb dX7_segment_96 (lv_at hl 0 rfl) ?_
        refine g_iald (n := 800) hx hb hK hG (1, 23, 0) ⟨by decide, rfl⟩ 0 rfl rfl (g_vp (by have := (show (((100) * (u)) + (p) : Int32).toInt = ((100 * (u).toInt) + (p).toInt) from z_6); omega) (by have := (show (((100) * (u)) + (p) : Int32).toInt = ((100 * (u).toInt) + (p).toInt) from z_6); omega)) dX7_segment_98 ?_
        rw [show (((100) * (u)) + (p) : Int32).toNatClampNeg = (((100 * (u).toInt) + (p).toInt)).toNat from congrArg Int.toNat (show (((100) * (u)) + (p) : Int32).toInt = ((100 * (u).toInt) + (p).toInt) from z_6)]
        exact s_iret hx hb hr hlk hG hS dX7_segment_99 (by unfold m_segR; (repeat' split) <;> first | rfl | (exfalso; omega)) rfl
      · refine lv_tableIn (off := 54) (tgt := 100) hx hb dX7_segment_46 (by have := (show (w : Int32).toInt = (w).toInt from rfl); omega) (by have := (show (w : Int32).toInt = (w).toInt from rfl); omega) (by rw [((show (w : Int32).toInt = (w).toInt from rfl)).trans c_46_7]; rfl) (by decide) ?_
        refine lv_aload_n hx hb dX7_segment_100 rfl (lv_at hl 1 rfl) ?_
        refine g_get (C := RX7) (T := TX7) (N := 28) (v := .ref (L (1, 23, 0))) hx hb hts inX7g hown hK hG (0, 0, 0) ⟨rfl, rfl⟩ (m_at_0 cy L 0 0 (τ (0, 0, 0))) rfl 23 (by decide) fl_X7_68 rfl dX7_segment_101 ?_
        refine lv_iload hx hb dX7_segment_104 (lv_at hl 0 rfl) ?_
        refine g_iald (n := 800) hx hb hK hG (1, 23, 0) ⟨by decide, rfl⟩ 0 rfl rfl (g_vp (by have := (show (((100) * (u)) + (p) : Int32).toInt = ((100 * (u).toInt) + (p).toInt) from z_6); omega) (by have := (show (((100) * (u)) + (p) : Int32).toInt = ((100 * (u).toInt) + (p).toInt) from z_6); omega)) dX7_segment_106 ?_
        rw [show (((100) * (u)) + (p) : Int32).toNatClampNeg = (((100 * (u).toInt) + (p).toInt)).toNat from congrArg Int.toNat (show (((100) * (u)) + (p) : Int32).toInt = ((100 * (u).toInt) + (p).toInt) from z_6)]
        refine lv_aload_n hx hb dX7_segment_107 rfl (lv_at hl 1 rfl) ?_
        refine g_get (C := RX7) (T := TX7) (N := 28) (v := .ref (L (1, 12, 0))) hx hb hts inX7g hown hK hG (0, 0, 0) ⟨rfl, rfl⟩ (m_at_0 cy L 0 0 (τ (0, 0, 0))) rfl 12 (by decide) fl_X7_35 rfl dX7_segment_108 ?_
        refine lv_iload_n hx hb dX7_segment_111 rfl (lv_at hl 2 rfl) ?_
        refine g_iald (n := 8) hx hb hK hG (1, 12, 0) ⟨by decide, rfl⟩ 0 rfl rfl (g_vp (by omega) (by omega)) dX7_segment_112 ?_
        rw [show (u : Int32).toNatClampNeg = ((u).toInt).toNat from congrArg Int.toNat (show (u : Int32).toInt = (u).toInt from rfl)]
        refine kz_icmp_le (X := (τ (1, 23, 0) ((((100 * (u).toInt) + (p).toInt)).toNat)).toInt) (Y := (τ (1, 12, 0) (((u).toInt).toNat)).toInt) hx hb rfl rfl dX7_segment_113 (tgt := 120) (by decide) (fun c_113_8 => ?_) (fun c_113_8 => ?_)
        · refine lv_iconst (v := 0) hx hb dX7_segment_120 (by decide) ?_
          exact s_iret hx hb hr hlk hG hS dX7_segment_121 (by unfold m_segR; (repeat' split) <;> first | rfl | (exfalso; omega)) rfl
        · refine lv_iconst (v := 1) hx hb dX7_segment_116 (by decide) ?_
          refine lv_goto (tgt := 121) hx hb dX7_segment_117 (by decide) ?_
          exact s_iret hx hb hr hlk hG hS dX7_segment_121 (by unfold m_segR; (repeat' split) <;> first | rfl | (exfalso; omega)) rfl
      · refine lv_tableOut (tgt := 122) hx hb dX7_segment_46 (by have := (show (w : Int32).toInt = (w).toInt from rfl); omega) (by decide) ?_
        refine lv_iconst (v := (-1)) hx hb dX7_segment_122 (by decide) ?_
        exact s_iret hx hb hr hlk hG hS dX7_segment_123 (by unfold m_segR; (repeat' split) <;> first | rfl | (exfalso; omega)) rfl
    · refine lv_iconst (v := (-1)) hx hb dX7_segment_35 (by decide) ?_
      exact s_iret hx hb hr hlk hG hS dX7_segment_36 (by unfold m_segR; (repeat' split) <;> first | rfl | (exfalso; omega)) rfl
set_option maxHeartbeats 4000000 in
set_option maxRecDepth 100000 in
theorem c_X7_at (l : Launch) (D : va_G) (cy : Nat → ClassId) (L : g_S → Nat) (σ : g_S → Nat → Int32) (τ : g_S → Nat → Int32) (hτ : g_up σ (0, 0, 0) 0 0 = τ) (u p : Int32) (s0 : 0 ≤ (τ (0, 0, 0) 10).toInt) (s1 : (τ (0, 0, 0) 10).toInt ≤ 8) (hsw : ∀ a : Nat, a < 8 → 0 ≤ (τ (1, 18, 0) a).toInt ∧ (τ (1, 18, 0) a).toInt ≤ 100) : m_Met l D cy L yX7_at (.code yX7_at cX7_at 3 (some .int)) 2 σ [.ref (L (0, 0, 0)), .int (u), .int (p)] (some (.int (m_atR τ u p))) τ := by
  refine g_Met.of (by decide) (Nat.le_of_ble_eq_true rfl) ?_
  intro pg e s m below meth c hx hb hr hlk hml hown hts hK hN H locs hG hS ls hl
  have hown : s.vm.findClass RX7 = some m.cls := hown
  have hl : lv_has ls 3 [(0, .ref (L (0, 0, 0))), (1, .int (u)), (2, .int (p))] := hl
  refine lv_aload_n hx hb dX7_at_0 rfl (lv_at hl 0 rfl) ?_
  refine lv_iconst (v := 0) hx hb dX7_at_1 (by decide) ?_
  refine g_puti (C := RX7) (T := TX7) (N := 28) (v := 0) (ty := .int) hx hb hts inX7g tyX7_ok nmX7 hown hK hG hS (0, 0, 0) ⟨rfl, rfl⟩ (m_at_0 cy L 0 0 (σ (0, 0, 0))) rfl 0 (by decide) (m_up_0_0 cy L 0 0 (σ (0, 0, 0)) (0)) fl_X7_83 rfl (by decide +kernel) rfl rfl (Nat.le_of_ble_eq_true rfl) dX7_at_2 (fun H locs hG hS => ?_)
  rw [hτ] at hG
  refine lv_iload_n hx hb dX7_at_5 rfl (lv_at hl 1 rfl) ?_
  refine lv_iconst (v := 0) hx hb dX7_at_6 (by decide) ?_
  refine lv_aload_n hx hb dX7_at_7 rfl (lv_at hl 0 rfl) ?_
  refine g_get (C := RX7) (T := TX7) (N := 28) (v := .int (τ (0, 0, 0) 10)) hx hb hts inX7g hown hK hG (0, 0, 0) ⟨rfl, rfl⟩ (m_at_0 cy L 0 0 (τ (0, 0, 0))) rfl 10 (by decide) fl_X7_107 rfl dX7_at_8 ?_
  refine lv_iconst (v := 1) hx hb dX7_at_11 (by decide) ?_
  refine lv_isub hx hb dX7_at_12 ?_
  have z_1 : ((τ (0, 0, 0) 10) - (1)).toInt = ((τ (0, 0, 0) 10).toInt - 1) := g_subZ rfl (by decide) (by omega) (by omega)
  refine g_cont (va_runS (As := [.int (u), .int 0, .int ((τ (0, 0, 0) 10) - (1))]) (rest := []) ⟨hx, hb, hml, hown, hts⟩ (c_X7_in l D cy L τ (u) (0) ((τ (0, 0, 0) 10) - (1)) (u).toInt 0 ((τ (0, 0, 0) 10).toInt - 1) rfl (by decide) z_1) (cwS 3 hts gS_X7_87 rfl rfl rfl (by decide +kernel) ⟨Nat.le_of_ble_eq_true rfl, Nat.le_of_ble_eq_true rfl⟩) (g_preS hK hN hG) rfl rfl hl.1 rfl (lv_room (Nat.le_of_ble_eq_true rfl)) dX7_at_13 ⟨Nat.zero_le _, Nat.zero_le _⟩) hS (fun H locs hG hS => ?_)
  refine W.eq (g2 := F0 m 16 ls [.int (g_b (0 ≤ (u).toInt ∧ (u).toInt ≤ ((τ (0, 0, 0) 10).toInt - 1)))]) rfl ?_
  refine kz_b_eq (tgt := 49) hx hb dX7_at_16 (by decide) (fun c_16_2 => ?_) (fun c_16_2 => ?_)
  · refine lv_iconst (v := (-1)) hx hb dX7_at_49 (by decide) ?_
    exact s_iret hx hb hr hlk hG hS dX7_at_50 (by unfold m_atR; (repeat' split) <;> first | rfl | (exfalso; omega)) rfl
  · have hs9 := hsw ((u).toInt).toNat (by omega)
    refine lv_iload_n hx hb dX7_at_19 rfl (lv_at hl 2 rfl) ?_
    refine lv_iconst (v := 0) hx hb dX7_at_20 (by decide) ?_
    refine lv_aload_n hx hb dX7_at_21 rfl (lv_at hl 0 rfl) ?_
    refine g_get (C := RX7) (T := TX7) (N := 28) (v := .ref (L (1, 18, 0))) hx hb hts inX7g hown hK hG (0, 0, 0) ⟨rfl, rfl⟩ (m_at_0 cy L 0 0 (τ (0, 0, 0))) rfl 18 (by decide) fl_X7_53 rfl dX7_at_22 ?_
    refine lv_iload_n hx hb dX7_at_25 rfl (lv_at hl 1 rfl) ?_
    refine g_iald (n := 8) hx hb hK hG (1, 18, 0) ⟨by decide, rfl⟩ 0 rfl rfl (g_vp (by omega) (by omega)) dX7_at_26 ?_
    rw [show (u : Int32).toNatClampNeg = ((u).toInt).toNat from congrArg Int.toNat (show (u : Int32).toInt = (u).toInt from rfl)]
    refine lv_iconst (v := 1) hx hb dX7_at_27 (by decide) ?_
    refine lv_isub hx hb dX7_at_28 ?_
    have z_3 : ((τ (1, 18, 0) (((u).toInt).toNat)) - (1)).toInt = ((τ (1, 18, 0) (((u).toInt).toNat)).toInt - 1) := g_subZ rfl (by decide) (by omega) (by omega)
    refine g_cont (va_runS (As := [.int (p), .int 0, .int ((τ (1, 18, 0) (((u).toInt).toNat)) - (1))]) (rest := []) ⟨hx, hb, hml, hown, hts⟩ (c_X7_in l D cy L τ (p) (0) ((τ (1, 18, 0) (((u).toInt).toNat)) - (1)) (p).toInt 0 ((τ (1, 18, 0) (((u).toInt).toNat)).toInt - 1) rfl (by decide) z_3) (cwS 3 hts gS_X7_87 rfl rfl rfl (by decide +kernel) ⟨Nat.le_of_ble_eq_true rfl, Nat.le_of_ble_eq_true rfl⟩) (g_preS hK hN hG) rfl rfl hl.1 rfl (lv_room (Nat.le_of_ble_eq_true rfl)) dX7_at_29 ⟨Nat.zero_le _, Nat.zero_le _⟩) hS (fun H locs hG hS => ?_)
    refine W.eq (g2 := F0 m 32 ls [.int (g_b (0 ≤ (p).toInt ∧ (p).toInt ≤ ((τ (1, 18, 0) (((u).toInt).toNat)).toInt - 1)))]) rfl ?_
    refine kz_b_eq (tgt := 49) hx hb dX7_at_32 (by decide) (fun c_32_4 => ?_) (fun c_32_4 => ?_)
    · refine lv_iconst (v := (-1)) hx hb dX7_at_49 (by decide) ?_
      exact s_iret hx hb hr hlk hG hS dX7_at_50 (by unfold m_atR; (repeat' split) <;> first | rfl | (exfalso; omega)) rfl
    · refine lv_aload_n hx hb dX7_at_35 rfl (lv_at hl 0 rfl) ?_
      refine g_get (C := RX7) (T := TX7) (N := 28) (v := .ref (L (1, 19, 0))) hx hb hts inX7g hown hK hG (0, 0, 0) ⟨rfl, rfl⟩ (m_at_0 cy L 0 0 (τ (0, 0, 0))) rfl 19 (by decide) fl_X7_56 rfl dX7_at_36 ?_
      refine lv_bipush (v := 100) hx hb dX7_at_39 (by decide) ?_
      refine lv_iload_n hx hb dX7_at_41 rfl (lv_at hl 1 rfl) ?_
      refine lv_imul hx hb dX7_at_42 ?_
      have z_5 : ((100) * (u)).toInt = (100 * (u).toInt) := g_mulZ (by decide) rfl (by omega) (by omega)
      refine lv_iload_n hx hb dX7_at_43 rfl (lv_at hl 2 rfl) ?_
      refine lv_iadd hx hb dX7_at_44 ?_
      have z_6 : (((100) * (u)) + (p)).toInt = ((100 * (u).toInt) + (p).toInt) := g_addZ z_5 rfl (by omega) (by omega)
      refine g_iald (n := 800) hx hb hK hG (1, 19, 0) ⟨by decide, rfl⟩ 0 rfl rfl (g_vp (by have := (show (((100) * (u)) + (p) : Int32).toInt = ((100 * (u).toInt) + (p).toInt) from z_6); omega) (by have := (show (((100) * (u)) + (p) : Int32).toInt = ((100 * (u).toInt) + (p).toInt) from z_6); omega)) dX7_at_45 ?_
      rw [show (((100) * (u)) + (p) : Int32).toNatClampNeg = (((100 * (u).toInt) + (p).toInt)).toNat from congrArg Int.toNat (show (((100) * (u)) + (p) : Int32).toInt = ((100 * (u).toInt) + (p).toInt) from z_6)]
      refine lv_goto (tgt := 50) hx hb dX7_at_46 (by decide) ?_
      exact s_iret hx hb hr hlk hG hS dX7_at_50 (by unfold m_atR; (repeat' split) <;> first | rfl | (exfalso; omega)) rfl
