/-! the class: its sessions -/
theorem g_nar01 {v : Int32} (h : v = 0 ∨ v = 1) : narrow .boolean (.int v) = .int v := by rcases h with rfl | rfl <;> rfl
def x_setsGo (σ : g_S → Nat → Int32) (i : Nat) : Nat → Nat → Int32 → Int32
  | 0, _, acc => acc
  | n + 1, k, acc => x_setsGo σ i n (k + 1) (if (σ (18, i, k) 2).toInt = 0 then acc else acc + 1)
theorem x_setsGo_s (σ : g_S → Nat → Int32) (i n k : Nat) (acc : Int32) : x_setsGo σ i (n + 1) k acc = x_setsGo σ i n (k + 1) (if (σ (18, i, k) 2).toInt = 0 then acc else acc + 1) := rfl
def x_shutGo (i : Nat) : Nat → Nat → (g_S → Nat → Int32) → (g_S → Nat → Int32)
  | 0, _, σ => σ
  | n + 1, k, σ => x_shutGo i n (k + 1) (x_forget σ i k)
theorem x_shutGo_s (i n k : Nat) (σ : g_S → Nat → Int32) : x_shutGo i (n + 1) k σ = x_shutGo i n (k + 1) (x_forget σ i k) := rfl
def x_shut (σ : g_S → Nat → Int32) (kn i : Nat) : g_S → Nat → Int32 := x_shutGo i kn 0 (g_up σ (11, i, 0) 4 0)
def x_dgM0 (σ : g_S → Nat → Int32) (i : Nat) (code : Int32) : g_S → Nat → Int32 := g_up (g_up σ (11, i, 0) 5 (σ (11, i, 0) 5 + 1)) (11, i, 0) 6 code
def x_dgM (σ : g_S → Nat → Int32) (kn i : Nat) (code : Int32) : g_S → Nat → Int32 := if (σ (11, i, 0) 5 + 1).toInt < 3 then x_dgM0 σ i code else x_shut (x_dgM0 σ i code) kn i
def x_sTell (σ : g_S → Nat → Int32) (kn i : Nat) (w : Int32) : Int32 := if w.toInt = 0 then (if (σ (11, i, 0) 4).toInt = 0 then 2 else 1) else if w.toInt = 1 then σ (11, i, 0) 5 else if w.toInt = 2 then σ (11, i, 0) 6 else if w.toInt = 3 then x_setsGo σ i kn 0 0 else -1
def x_backGo (σ : g_S → Nat → Int32) (x : Int32) : Nat → Int32 → Int32
  | 0, b => b
  | n + 1, b => if (x_great σ x b).toInt = -1 then b else x_backGo σ x n (x_great σ x b)
theorem x_backGo_s (σ : g_S → Nat → Int32) (x : Int32) (n : Nat) (b : Int32) : x_backGo σ x (n + 1) b = if (x_great σ x b).toInt = -1 then b else x_backGo σ x n (x_great σ x b) := rfl
set_option maxHeartbeats 4000000 in
set_option maxRecDepth 100000 in
theorem c_X5_isOpen (l : Launch) (D : va_G) (cy : Nat → ClassId) (L : g_S → Nat) (ns : Nat) (kk : Nat → Nat) (σ : g_S → Nat → Int32) (i : Nat) (hi : i < ns) (ho : narrow .boolean (.int (σ (11, i, 0) 4)) = .int (σ (11, i, 0) 4)) : x_Met l D cy L ns kk yX5_isOpen (.code yX5_isOpen cX5_isOpen 1 (some .boolean)) 0 σ [.ref (L (11, i, 0))] (some (.int (σ (11, i, 0) 4))) σ := by
  refine g_Met.of (by decide) (Nat.le_of_ble_eq_true rfl) ?_
  intro pg e s m below meth c hx hb hr hlk hml hown hts hK hN H locs hG hS ls hl
  have hown : s.vm.findClass RX5 = some m.cls := hown
  have hl : lv_has ls 1 [(0, .ref (L (11, i, 0)))] := hl
  refine lv_aload_n hx hb dX5_isOpen_0 rfl (lv_at hl 0 rfl) ?_
  refine g_get (C := RX5) (T := TX5) (N := 7) (v := .int (σ (11, i, 0) 4)) hx hb hts inX5g hown hK hG (11, i, 0) ⟨hi, rfl⟩ (x_at_11 cy L ns kk (i) (0) (σ (11, i, 0))) rfl 4 (by decide) fl_X5_9 rfl dX5_isOpen_1 ?_
  exact s_zret hx hb hr hlk hG hS dX5_isOpen_4 ho rfl rfl
set_option maxHeartbeats 4000000 in
set_option maxRecDepth 100000 in
theorem c_X5_may (l : Launch) (D : va_G) (cy : Nat → ClassId) (L : g_S → Nat) (ns : Nat) (kk : Nat → Nat) (σ : g_S → Nat → Int32) (i : Nat) (hi : i < ns) (q : Int32) : x_Met l D cy L ns kk yX5_may (.code yX5_may cX5_may 2 (some .boolean)) 0 σ [.ref (L (11, i, 0)), .int (q)] (some (.int (g_b (¬ (σ (11, i, 0) 0 &&& q).toInt = 0)))) σ := by
  refine g_Met.of (by decide) (Nat.le_of_ble_eq_true rfl) ?_
  intro pg e s m below meth c hx hb hr hlk hml hown hts hK hN H locs hG hS ls hl
  have hown : s.vm.findClass RX5 = some m.cls := hown
  have hl : lv_has ls 2 [(0, .ref (L (11, i, 0))), (1, .int (q))] := hl
  refine lv_aload_n hx hb dX5_may_0 rfl (lv_at hl 0 rfl) ?_
  refine g_get (C := RX5) (T := TX5) (N := 7) (v := .int (σ (11, i, 0) 0)) hx hb hts inX5g hown hK hG (11, i, 0) ⟨hi, rfl⟩ (x_at_11 cy L ns kk (i) (0) (σ (11, i, 0))) rfl 0 (by decide) fl_X5_22 rfl dX5_may_1 ?_
  refine lv_iload_n hx hb dX5_may_4 rfl (lv_at hl 1 rfl) ?_
  refine lv_iand hx hb dX5_may_5 ?_
  refine kz_if_eq (X := ((σ (11, i, 0) 0) &&& (q)).toInt) hx hb rfl dX5_may_6 (tgt := 13) (by decide) (fun c_6_1 => ?_) (fun c_6_1 => ?_)
  · refine lv_iconst (v := 0) hx hb dX5_may_13 (by decide) ?_
    exact s_zret hx hb hr hlk hG hS dX5_may_14 rfl (by unfold g_b; (repeat' split) <;> first | rfl | (exfalso; omega)) rfl
  · refine lv_iconst (v := 1) hx hb dX5_may_9 (by decide) ?_
    refine lv_goto (tgt := 14) hx hb dX5_may_10 (by decide) ?_
    exact s_zret hx hb hr hlk hG hS dX5_may_14 rfl (by unfold g_b; (repeat' split) <;> first | rfl | (exfalso; omega)) rfl
set_option maxHeartbeats 4000000 in
set_option maxRecDepth 100000 in
theorem c_X5_presented (l : Launch) (D : va_G) (cy : Nat → ClassId) (L : g_S → Nat) (ns : Nat) (kk : Nat → Nat) (σ : g_S → Nat → Int32) (i : Nat) (hi : i < ns) : x_Met l D cy L ns kk yX5_presented (.code yX5_presented cX5_presented 1 (some (.object "SearchWire$Presented"))) 0 σ [.ref (L (11, i, 0))] (some (.ref (L (13, i, 0)))) σ := by
  refine g_Met.of (by decide) (Nat.le_of_ble_eq_true rfl) ?_
  intro pg e s m below meth c hx hb hr hlk hml hown hts hK hN H locs hG hS ls hl
  have hown : s.vm.findClass RX5 = some m.cls := hown
  have hl : lv_has ls 1 [(0, .ref (L (11, i, 0)))] := hl
  refine lv_aload_n hx hb dX5_presented_0 rfl (lv_at hl 0 rfl) ?_
  refine g_get (C := RX5) (T := TX5) (N := 7) (v := .ref (L (13, i, 0))) hx hb hts inX5g hown hK hG (11, i, 0) ⟨hi, rfl⟩ (x_at_11 cy L ns kk (i) (0) (σ (11, i, 0))) rfl 2 (by decide) fl_X5_37 rfl dX5_presented_1 ?_
  exact s_aret hx hb hr hlk hG hS dX5_presented_4 (Or.inr ⟨_, rfl⟩) rfl rfl
set_option maxHeartbeats 4000000 in
set_option maxRecDepth 100000 in
theorem c_X5_scannedTerms (l : Launch) (D : va_G) (cy : Nat → ClassId) (L : g_S → Nat) (ns : Nat) (kk : Nat → Nat) (σ : g_S → Nat → Int32) (i : Nat) (hi : i < ns) : x_Met l D cy L ns kk yX5_scannedTerms (.code yX5_scannedTerms cX5_scannedTerms 1 (some (.object "SearchWire$ScannedTerms"))) 0 σ [.ref (L (11, i, 0))] (some (.ref (L (17, i, 0)))) σ := by
  refine g_Met.of (by decide) (Nat.le_of_ble_eq_true rfl) ?_
  intro pg e s m below meth c hx hb hr hlk hml hown hts hK hN H locs hG hS ls hl
  have hown : s.vm.findClass RX5 = some m.cls := hown
  have hl : lv_has ls 1 [(0, .ref (L (11, i, 0)))] := hl
  refine lv_aload_n hx hb dX5_scannedTerms_0 rfl (lv_at hl 0 rfl) ?_
  refine g_get (C := RX5) (T := TX5) (N := 7) (v := .ref (L (17, i, 0))) hx hb hts inX5g hown hK hG (11, i, 0) ⟨hi, rfl⟩ (x_at_11 cy L ns kk (i) (0) (σ (11, i, 0))) rfl 3 (by decide) fl_X5_44 rfl dX5_scannedTerms_1 ?_
  exact s_aret hx hb hr hlk hG hS dX5_scannedTerms_4 (Or.inr ⟨_, rfl⟩) rfl rfl
set_option maxHeartbeats 4000000 in
set_option maxRecDepth 100000 in
theorem c_X5_setOfName (l : Launch) (D : va_G) (cy : Nat → ClassId) (L : g_S → Nat) (ns : Nat) (kk : Nat → Nat) (σ : g_S → Nat → Int32) (i : Nat) (hi : i < ns) (p : Int32) (hk : kk i ≤ 5) : x_Met l D cy L ns kk yX5_setOfName (.code yX5_setOfName cX5_setOfName 2 (some (.object "SearchWire$ResultSet"))) 0 σ [.ref (L (11, i, 0)), .int (p)] (some (if 0 ≤ (p).toInt ∧ (p).toInt < ((kk i : Nat) : Int) then .ref (L (18, i, p.toNatClampNeg)) else .null)) σ := by
  refine g_Met.of (by decide) (Nat.le_of_ble_eq_true rfl) ?_
  intro pg e s m below meth c hx hb hr hlk hml hown hts hK hN H locs hG hS ls hl
  have hown : s.vm.findClass RX5 = some m.cls := hown
  have hl : lv_has ls 2 [(0, .ref (L (11, i, 0))), (1, .int (p))] := hl
  refine lv_iload_n hx hb dX5_setOfName_0 rfl (lv_at hl 1 rfl) ?_
  refine kz_if_lt (X := (p).toInt) hx hb rfl dX5_setOfName_1 (tgt := 22) (by decide) (fun c_1_1 => ?_) (fun c_1_1 => ?_)
  · refine lv_null hx hb dX5_setOfName_22 ?_
    exact s_aret hx hb hr hlk hG hS dX5_setOfName_23 (Or.inl rfl) (by rw [if_neg (by omega)]) rfl
  · refine lv_iload_n hx hb dX5_setOfName_4 rfl (lv_at hl 1 rfl) ?_
    refine lv_aload_n hx hb dX5_setOfName_5 rfl (lv_at hl 0 rfl) ?_
    refine g_get (C := RX5) (T := TX5) (N := 7) (v := .ref (L (12, i, 0))) hx hb hts inX5g hown hK hG (11, i, 0) ⟨hi, rfl⟩ (x_at_11 cy L ns kk (i) (0) (σ (11, i, 0))) rfl 1 (by decide) fl_X5_27 rfl dX5_setOfName_6 ?_
    refine g_alen (v := nI (kk i)) hx hb hK hG (12, i, 0) ⟨hi, rfl⟩ 3 rfl rfl rfl dX5_setOfName_9 ?_
    refine kz_icmp_ge (X := (p).toInt) (Y := ((kk i : Nat) : Int)) hx hb rfl (g_nIT (by omega)) dX5_setOfName_10 (tgt := 22) (by decide) (fun c_10_2 => ?_) (fun c_10_2 => ?_)
    · refine lv_null hx hb dX5_setOfName_22 ?_
      exact s_aret hx hb hr hlk hG hS dX5_setOfName_23 (Or.inl rfl) (by rw [if_neg (by omega)]) rfl
    · refine lv_aload_n hx hb dX5_setOfName_13 rfl (lv_at hl 0 rfl) ?_
      refine g_get (C := RX5) (T := TX5) (N := 7) (v := .ref (L (12, i, 0))) hx hb hts inX5g hown hK hG (11, i, 0) ⟨hi, rfl⟩ (x_at_11 cy L ns kk (i) (0) (σ (11, i, 0))) rfl 1 (by decide) fl_X5_27 rfl dX5_setOfName_14 ?_
      refine lv_iload_n hx hb dX5_setOfName_17 rfl (lv_at hl 1 rfl) ?_
      refine g_aald (n := (kk i)) (v := .ref (L (18, i, (p).toNatClampNeg))) hx hb hK hG (12, i, 0) ⟨hi, rfl⟩ 3 rfl rfl rfl (g_vp (by omega) (by omega)) rfl dX5_setOfName_18 ?_
      refine lv_goto (tgt := 23) hx hb dX5_setOfName_19 (by decide) ?_
      exact s_aret hx hb hr hlk hG hS dX5_setOfName_23 (Or.inr ⟨_, rfl⟩) (by rw [if_pos (by omega)]) rfl
set_option maxHeartbeats 4000000 in
set_option maxRecDepth 100000 in
theorem c_X5_madeSet (l : Launch) (D : va_G) (cy : Nat → ClassId) (L : g_S → Nat) (ns : Nat) (kk : Nat → Nat) (σ : g_S → Nat → Int32) (i : Nat) (hi : i < ns) (p : Int32) (hk : kk i ≤ 5) (hz : ∀ j, j < kk i → σ (18, i, j) 2 = 0 ∨ σ (18, i, j) 2 = 1) : x_Met l D cy L ns kk yX5_madeSet (.code yX5_madeSet cX5_madeSet 3 (some (.object "SearchWire$ResultSet"))) 1 σ [.ref (L (11, i, 0)), .int (p)] (some (if (0 ≤ (p).toInt ∧ (p).toInt < ((kk i : Nat) : Int)) ∧ ¬ (σ (18, i, (p).toNatClampNeg) 2).toInt = 0 then .ref (L (18, i, p.toNatClampNeg)) else .null)) σ := by
  refine g_Met.of (by decide) (Nat.le_of_ble_eq_true rfl) ?_
  intro pg e s m below meth c hx hb hr hlk hml hown hts hK hN H locs hG hS ls hl
  have hown : s.vm.findClass RX5 = some m.cls := hown
  have hl : lv_has ls 3 [(0, .ref (L (11, i, 0))), (1, .int (p))] := hl
  refine lv_aload_n hx hb dX5_madeSet_0 rfl (lv_at hl 0 rfl) ?_
  refine lv_iload_n hx hb dX5_madeSet_1 rfl (lv_at hl 1 rfl) ?_
  refine g_cont (va_runV (As := [.int (p)]) (rest := []) ⟨hx, hb, hml, hown, hts⟩ (c_X5_setOfName l D cy L ns kk σ (i) hi (p) hk) (cwV 1 hts gV_X5_48 rfl rfl rfl (by decide +kernel) ⟨Nat.le_of_ble_eq_true rfl, Nat.le_of_ble_eq_true rfl⟩) (g_preV hK hN hG (x := (11, i, 0)) ⟨hi, rfl⟩ (q := (RX5, TX5, 7)) (x_at_11 cy L ns kk (i) (0) (σ (11, i, 0))) rfl) rfl rfl hl.1 rfl (lv_room (Nat.le_of_ble_eq_true rfl)) dX5_madeSet_2 ⟨Nat.zero_le _, Nat.zero_le _⟩) hS (fun H locs hG hS => ?_)
  refine W.eq (g2 := F0 m 5 ls [(if 0 ≤ (p).toInt ∧ (p).toInt < ((kk i : Nat) : Int) then .ref (L (18, i, (p).toNatClampNeg)) else .null)]) rfl ?_
  by_cases c_2_1 : 0 ≤ (p).toInt ∧ (p).toInt < ((kk i : Nat) : Int)
  · rw [if_pos c_2_1]
    refine lv_astore_n (lv' := [(2, .ref (L (18, i, (p).toNatClampNeg))), (0, .ref (L (11, i, 0))), (1, .int (p))]) hx hb dX5_madeSet_5 rfl hl (by decide) rfl (fun ls hl => ?_)
    refine lv_aload_n hx hb dX5_madeSet_6 rfl (lv_at hl 0 rfl) ?_
    refine lv_ifnull hx hb dX5_madeSet_7 ?_
    refine lv_aload_n hx hb dX5_madeSet_10 rfl (lv_at hl 0 rfl) ?_
    refine g_cont (va_runV (As := []) (rest := []) ⟨hx, hb, hml, hown, hts⟩ (c_X3_isMade l D cy L ns kk σ (i) ((p).toNatClampNeg) hi (by rw [g_cl]; omega) (g_nar01 (hz _ (by rw [g_cl]; omega)))) (cwV 0 hts gV_X5_52 rfl rfl rfl (by decide +kernel) ⟨Nat.le_of_ble_eq_true rfl, Nat.le_of_ble_eq_true rfl⟩) (g_preV hK hN hG (x := (18, i, (p).toNatClampNeg)) ⟨hi, (by rw [g_cl]; omega)⟩ (q := (RX3, TX3, 3)) (x_at_18 cy L ns kk (i) ((p).toNatClampNeg) (σ (18, i, (p).toNatClampNeg))) rfl) rfl rfl hl.1 rfl (lv_room (Nat.le_of_ble_eq_true rfl)) dX5_madeSet_11 ⟨Nat.zero_le _, Nat.zero_le _⟩) hS (fun H locs hG hS => ?_)
    refine W.eq (g2 := F0 m 14 ls [.int (σ (18, i, (p).toNatClampNeg) 2)]) rfl ?_
    refine kz_if_eq (X := (σ (18, i, (p).toNatClampNeg) 2).toInt) hx hb rfl dX5_madeSet_14 (tgt := 21) (by decide) (fun c_14_2 => ?_) (fun c_14_2 => ?_)
    · refine lv_null hx hb dX5_madeSet_21 ?_
      exact s_aret hx hb hr hlk hG hS dX5_madeSet_22 (Or.inl rfl) (by rw [if_neg (by omega)]) rfl
    · refine lv_aload_n hx hb dX5_madeSet_17 rfl (lv_at hl 0 rfl) ?_
      refine lv_goto (tgt := 22) hx hb dX5_madeSet_18 (by decide) ?_
      exact s_aret hx hb hr hlk hG hS dX5_madeSet_22 (Or.inr ⟨_, rfl⟩) (by rw [if_pos (by omega)]) rfl
  · rw [if_neg c_2_1]
    refine lv_astore_nN (lv' := [(2, .null), (0, .ref (L (11, i, 0))), (1, .int (p))]) hx hb dX5_madeSet_5 rfl hl (by decide) rfl (fun ls hl => ?_)
    refine lv_aload_nN hx hb dX5_madeSet_6 rfl (lv_at hl 0 rfl) ?_
    refine lv_ifnullN (tgt := 21) hx hb dX5_madeSet_7 (by decide) ?_
    refine lv_null hx hb dX5_madeSet_21 ?_
    exact s_aret hx hb hr hlk hG hS dX5_madeSet_22 (Or.inl rfl) (by rw [if_neg (by omega)]) rfl
set_option maxHeartbeats 4000000 in
set_option maxRecDepth 100000 in
theorem lp_sets (l : Launch) (D : va_G) (cy : Nat → ClassId) (L : g_S → Nat) (ns : Nat) (kk : Nat → Nat) (σ : g_S → Nat → Int32) {pg : Program} {e : Env} {s : State} {m : MethodId} {args : Array Value} {below : List Frame} {meth : Method} {c : Code} {Q : State → Prop} (C0 : g_C pg s m meth c args cX5_setCount (some .int) 3 RX5 D (x_tys cy)) (i : Nat) (hi : i < ns) (hk : kk i ≤ 5) (hz : ∀ j, j < kk i → σ (18, i, j) 2 = 0 ∨ σ (18, i, j) 2 = 1) :
    ∀ (n : Nat) (k : Nat) (acc : Int32) (H : Heap) (locs : List Loc) (ls : Array Slot), k + n = kk i → g_H D vwCl (x_dom ns kk) L (fun z => x_K cy L ns kk z (σ z)) H → va_S (g_A (x_dom ns kk) L) s.heap H locs → lv_has ls 3 [(2, .int (nI k)), (1, .int (acc)), (0, .ref (L (11, i, 0)))] →
    (∀ (H : Heap) (locs : List Loc) (ls : Array Slot), g_H D vwCl (x_dom ns kk) L (fun z => x_K cy L ns kk z (σ z)) H → va_S (g_A (x_dom ns kk) L) s.heap H locs → lv_has ls 3 [(1, .int (x_setsGo σ i n k acc))] → W pg l e (g_R 1) s m args below meth c H locs 0 0 Q (F0 m 34 ls [])) →
    W pg l e (g_R 1) s m args below meth c H locs 0 0 Q (F0 m 4 ls []) := by
  obtain ⟨hx, hb, hr, hlk, hml, hown, hts, hK, hN⟩ := C0
  intro n
  induction n with
  | zero =>
    intro k acc H locs ls hv9 hG hS hl kk9
    have hz9 := g_nIT (show k < 2147483648 by omega)
    refine lv_iload_n hx hb dX5_setCount_4 rfl (lv_at hl 0 rfl) ?_
    refine lv_aload_n hx hb dX5_setCount_5 rfl (lv_at hl 2 rfl) ?_
    refine g_get (C := RX5) (T := TX5) (N := 7) (v := .ref (L (12, i, 0))) hx hb hts inX5g hown hK hG (11, i, 0) ⟨hi, rfl⟩ (x_at_11 cy L ns kk (i) (0) (σ (11, i, 0))) rfl 1 (by decide) fl_X5_27 rfl dX5_setCount_6 ?_
    refine g_alen (v := nI (kk i)) hx hb hK hG (12, i, 0) ⟨hi, rfl⟩ 3 rfl rfl rfl dX5_setCount_9 ?_
    refine kz_icmp_ge (X := ((k : Nat) : Int)) (Y := ((kk i : Nat) : Int)) hx hb (g_nIT (by omega)) (g_nIT (by omega)) dX5_setCount_10 (tgt := 34) (by decide) (fun c_10_1 => ?_) (fun c_10_1 => ?_)
    · exact kk9 H locs ls hG hS (lv_sub hl [1] rfl)
    · exact absurd c_10_1 (by omega)
  | succ n ih =>
    intro k acc H locs ls hv9 hG hS hl kk9
    have hz9 := g_nIT (show k < 2147483648 by omega)
    refine lv_iload_n hx hb dX5_setCount_4 rfl (lv_at hl 0 rfl) ?_
    refine lv_aload_n hx hb dX5_setCount_5 rfl (lv_at hl 2 rfl) ?_
    refine g_get (C := RX5) (T := TX5) (N := 7) (v := .ref (L (12, i, 0))) hx hb hts inX5g hown hK hG (11, i, 0) ⟨hi, rfl⟩ (x_at_11 cy L ns kk (i) (0) (σ (11, i, 0))) rfl 1 (by decide) fl_X5_27 rfl dX5_setCount_6 ?_
    refine g_alen (v := nI (kk i)) hx hb hK hG (12, i, 0) ⟨hi, rfl⟩ 3 rfl rfl rfl dX5_setCount_9 ?_
    refine kz_icmp_ge (X := ((k : Nat) : Int)) (Y := ((kk i : Nat) : Int)) hx hb (g_nIT (by omega)) (g_nIT (by omega)) dX5_setCount_10 (tgt := 34) (by decide) (fun c_10_1 => ?_) (fun c_10_1 => ?_)
    · exact absurd c_10_1 (by omega)
    · refine lv_aload_n hx hb dX5_setCount_13 rfl (lv_at hl 2 rfl) ?_
      refine g_get (C := RX5) (T := TX5) (N := 7) (v := .ref (L (12, i, 0))) hx hb hts inX5g hown hK hG (11, i, 0) ⟨hi, rfl⟩ (x_at_11 cy L ns kk (i) (0) (σ (11, i, 0))) rfl 1 (by decide) fl_X5_27 rfl dX5_setCount_14 ?_
      refine lv_iload_n hx hb dX5_setCount_17 rfl (lv_at hl 0 rfl) ?_
      refine g_aald (n := (kk i)) (v := .ref (L (18, i, k))) hx hb hK hG (12, i, 0) ⟨hi, rfl⟩ 3 rfl rfl rfl (vp_in_nI (show k < (kk i) by omega) (by omega)) (by rw [g_nIc (show k < 2147483648 by omega)]; rfl) dX5_setCount_18 ?_
      refine g_cont (va_runV (As := []) (rest := []) ⟨hx, hb, hml, hown, hts⟩ (c_X3_isMade l D cy L ns kk σ (i) (k) hi (by omega) (g_nar01 (hz k (by omega)))) (cwV 0 hts gV_X5_52 rfl rfl rfl (by decide +kernel) ⟨Nat.le_of_ble_eq_true rfl, Nat.le_of_ble_eq_true rfl⟩) (g_preV hK hN hG (x := (18, i, k)) ⟨hi, (by omega)⟩ (q := (RX3, TX3, 3)) (x_at_18 cy L ns kk (i) (k) (σ (18, i, k))) rfl) rfl rfl hl.1 rfl (lv_room (Nat.le_of_ble_eq_true rfl)) dX5_setCount_19 ⟨Nat.zero_le _, Nat.zero_le _⟩) hS (fun H locs hG hS => ?_)
      refine W.eq (g2 := F0 m 22 ls [.int (σ (18, i, k) 2)]) rfl ?_
      refine kz_if_eq (X := (σ (18, i, k) 2).toInt) hx hb rfl dX5_setCount_22 (tgt := 28) (by decide) (fun c_22_2 => ?_) (fun c_22_2 => ?_)
      · refine lv_iinc (v := nI (k + 1)) (lv' := [(2, .int (nI (k + 1))), (1, .int (acc)), (0, .ref (L (11, i, 0)))]) hx hb dX5_setCount_28 hl (k := 0) rfl (nI_1 (k)) (by decide) rfl (fun ls hl => ?_)
        refine lv_goto (tgt := 4) hx hb dX5_setCount_31 (by decide) ?_
        have e90 : x_setsGo σ i (n + 1) k acc = x_setsGo σ i n (k + 1) (acc) := (by rw [x_setsGo_s]; (repeat' split) <;> first | rfl | (exfalso; omega))
        rw [e90] at kk9
        exact ih (k + 1) (acc) H locs ls (by omega) hG hS (lv_sub hl [0, 1, 2] rfl) kk9
      · refine lv_iinc (v := acc + 1) (lv' := [(1, .int (acc + 1)), (2, .int (nI k)), (0, .ref (L (11, i, 0)))]) hx hb dX5_setCount_25 hl (k := 1) rfl rfl (by decide) rfl (fun ls hl => ?_)
        refine lv_iinc (v := nI (k + 1)) (lv' := [(2, .int (nI (k + 1))), (1, .int (acc + 1)), (0, .ref (L (11, i, 0)))]) hx hb dX5_setCount_28 hl (k := 1) rfl (nI_1 (k)) (by decide) rfl (fun ls hl => ?_)
        refine lv_goto (tgt := 4) hx hb dX5_setCount_31 (by decide) ?_
        have e90 : x_setsGo σ i (n + 1) k acc = x_setsGo σ i n (k + 1) (acc + 1) := (by rw [x_setsGo_s]; (repeat' split) <;> first | rfl | (exfalso; omega))
        rw [e90] at kk9
        exact ih (k + 1) (acc + 1) H locs ls (by omega) hG hS (lv_sub hl [0, 1, 2] rfl) kk9
set_option maxHeartbeats 4000000 in
set_option maxRecDepth 100000 in
theorem c_X5_setCount (l : Launch) (D : va_G) (cy : Nat → ClassId) (L : g_S → Nat) (ns : Nat) (kk : Nat → Nat) (σ : g_S → Nat → Int32) (i : Nat) (hi : i < ns) (hk : kk i ≤ 5) (hz : ∀ j, j < kk i → σ (18, i, j) 2 = 0 ∨ σ (18, i, j) 2 = 1) : x_Met l D cy L ns kk yX5_setCount (.code yX5_setCount cX5_setCount 3 (some .int)) 1 σ [.ref (L (11, i, 0))] (some (.int (x_setsGo σ i (kk i) 0 0))) σ := by
  refine g_Met.of (by decide) (Nat.le_of_ble_eq_true rfl) ?_
  intro pg e s m below meth c hx hb hr hlk hml hown hts hK hN H locs hG hS ls hl
  have hown : s.vm.findClass RX5 = some m.cls := hown
  have hl : lv_has ls 3 [(0, .ref (L (11, i, 0)))] := hl
  refine lv_iconst (v := 0) hx hb dX5_setCount_0 (by decide) ?_
  refine lv_istore_n (lv' := [(1, .int 0), (0, .ref (L (11, i, 0)))]) hx hb dX5_setCount_1 rfl hl (by decide) rfl (fun ls hl => ?_)
  refine lv_iconst (v := 0) hx hb dX5_setCount_2 (by decide) ?_
  refine lv_istore_n (lv' := [(2, .int 0), (1, .int 0), (0, .ref (L (11, i, 0)))]) hx hb dX5_setCount_3 rfl hl (by decide) rfl (fun ls hl => ?_)
  refine lp_sets l D cy L ns kk σ ⟨hx, hb, hr, hlk, hml, hown, hts, hK, hN⟩ i hi hk hz (kk i) 0 0 H locs ls (by omega) hG hS (lv_sub hl [0, 1, 2] rfl) (fun H locs ls hG hS hl => ?_)
  refine lv_iload_n hx hb dX5_setCount_34 rfl (lv_at hl 0 rfl) ?_
  exact s_iret hx hb hr hlk hG hS dX5_setCount_35 rfl rfl
set_option maxHeartbeats 4000000 in
set_option maxRecDepth 100000 in
theorem lp_shut (l : Launch) (D : va_G) (cy : Nat → ClassId) (L : g_S → Nat) (ns : Nat) (kk : Nat → Nat) {pg : Program} {e : Env} {s : State} {m : MethodId} {args : Array Value} {below : List Frame} {meth : Method} {c : Code} {Q : State → Prop} (C0 : g_C pg s m meth c args cX5_shut none 2 RX5 D (x_tys cy)) (i : Nat) (hi : i < ns) (hk : kk i ≤ 5) :
    ∀ (n : Nat) (σ : g_S → Nat → Int32) (k : Nat) (H : Heap) (locs : List Loc) (ls : Array Slot), k + n = kk i → g_H D vwCl (x_dom ns kk) L (fun z => x_K cy L ns kk z (σ z)) H → va_S (g_A (x_dom ns kk) L) s.heap H locs → lv_has ls 2 [(1, .int (nI k)), (0, .ref (L (11, i, 0)))] →
    (∀ (H : Heap) (locs : List Loc) (ls : Array Slot), g_H D vwCl (x_dom ns kk) L (fun z => x_K cy L ns kk z ((x_shutGo i n k σ) z)) H → va_S (g_A (x_dom ns kk) L) s.heap H locs → lv_has ls 2 [(0, .ref (L (11, i, 0)))] → W pg l e (g_R 1) s m args below meth c H locs 0 0 Q (F0 m 31 ls [])) →
    W pg l e (g_R 1) s m args below meth c H locs 0 0 Q (F0 m 7 ls []) := by
  obtain ⟨hx, hb, hr, hlk, hml, hown, hts, hK, hN⟩ := C0
  intro n
  induction n with
  | zero =>
    intro σ k H locs ls hv9 hG hS hl kk9
    have hz9 := g_nIT (show k < 2147483648 by omega)
    refine lv_iload_n hx hb dX5_shut_7 rfl (lv_at hl 0 rfl) ?_
    refine lv_aload_n hx hb dX5_shut_8 rfl (lv_at hl 1 rfl) ?_
    refine g_get (C := RX5) (T := TX5) (N := 7) (v := .ref (L (12, i, 0))) hx hb hts inX5g hown hK hG (11, i, 0) ⟨hi, rfl⟩ (x_at_11 cy L ns kk (i) (0) (σ (11, i, 0))) rfl 1 (by decide) fl_X5_27 rfl dX5_shut_9 ?_
    refine g_alen (v := nI (kk i)) hx hb hK hG (12, i, 0) ⟨hi, rfl⟩ 3 rfl rfl rfl dX5_shut_12 ?_
    refine kz_icmp_ge (X := ((k : Nat) : Int)) (Y := ((kk i : Nat) : Int)) hx hb (g_nIT (by omega)) (g_nIT (by omega)) dX5_shut_13 (tgt := 31) (by decide) (fun c_13_1 => ?_) (fun c_13_1 => ?_)
    · exact kk9 H locs ls hG hS (lv_sub hl [1] rfl)
    · exact absurd c_13_1 (by omega)
  | succ n ih =>
    intro σ k H locs ls hv9 hG hS hl kk9
    have hz9 := g_nIT (show k < 2147483648 by omega)
    refine lv_iload_n hx hb dX5_shut_7 rfl (lv_at hl 0 rfl) ?_
    refine lv_aload_n hx hb dX5_shut_8 rfl (lv_at hl 1 rfl) ?_
    refine g_get (C := RX5) (T := TX5) (N := 7) (v := .ref (L (12, i, 0))) hx hb hts inX5g hown hK hG (11, i, 0) ⟨hi, rfl⟩ (x_at_11 cy L ns kk (i) (0) (σ (11, i, 0))) rfl 1 (by decide) fl_X5_27 rfl dX5_shut_9 ?_
    refine g_alen (v := nI (kk i)) hx hb hK hG (12, i, 0) ⟨hi, rfl⟩ 3 rfl rfl rfl dX5_shut_12 ?_
    refine kz_icmp_ge (X := ((k : Nat) : Int)) (Y := ((kk i : Nat) : Int)) hx hb (g_nIT (by omega)) (g_nIT (by omega)) dX5_shut_13 (tgt := 31) (by decide) (fun c_13_1 => ?_) (fun c_13_1 => ?_)
    · exact absurd c_13_1 (by omega)
    · refine lv_aload_n hx hb dX5_shut_16 rfl (lv_at hl 1 rfl) ?_
      refine g_get (C := RX5) (T := TX5) (N := 7) (v := .ref (L (12, i, 0))) hx hb hts inX5g hown hK hG (11, i, 0) ⟨hi, rfl⟩ (x_at_11 cy L ns kk (i) (0) (σ (11, i, 0))) rfl 1 (by decide) fl_X5_27 rfl dX5_shut_17 ?_
      refine lv_iload_n hx hb dX5_shut_20 rfl (lv_at hl 0 rfl) ?_
      refine g_aald (n := (kk i)) (v := .ref (L (18, i, k))) hx hb hK hG (12, i, 0) ⟨hi, rfl⟩ 3 rfl rfl rfl (vp_in_nI (show k < (kk i) by omega) (by omega)) (by rw [g_nIc (show k < 2147483648 by omega)]; rfl) dX5_shut_21 ?_
      refine g_cont (va_runV (As := []) (rest := []) ⟨hx, hb, hml, hown, hts⟩ (c_X3_forget l D cy L ns kk σ (i) (k) hi (by omega)) (cwV 0 hts gV_X5_59 rfl rfl rfl (by decide +kernel) ⟨Nat.le_of_ble_eq_true rfl, Nat.le_of_ble_eq_true rfl⟩) (g_preV hK hN hG (x := (18, i, k)) ⟨hi, (by omega)⟩ (q := (RX3, TX3, 3)) (x_at_18 cy L ns kk (i) (k) (σ (18, i, k))) rfl) rfl rfl hl.1 rfl (lv_room (Nat.le_of_ble_eq_true rfl)) dX5_shut_22 ⟨Nat.zero_le _, Nat.zero_le _⟩) hS (fun H locs hG hS => ?_)
      refine W.eq (g2 := F0 m 25 ls []) rfl ?_
      refine lv_iinc (v := nI (k + 1)) (lv' := [(1, .int (nI (k + 1))), (0, .ref (L (11, i, 0)))]) hx hb dX5_shut_25 hl (k := 0) rfl (nI_1 (k)) (by decide) rfl (fun ls hl => ?_)
      refine lv_goto (tgt := 7) hx hb dX5_shut_28 (by decide) ?_
      have e90 : x_shutGo i (n + 1) k σ = x_shutGo i n (k + 1) (x_forget σ (i) (k)) := (by rw [x_shutGo_s])
      rw [e90] at kk9
      exact ih (x_forget σ (i) (k)) (k + 1) H locs ls (by omega) hG hS (lv_sub hl [0, 1] rfl) kk9
set_option maxHeartbeats 4000000 in
set_option maxRecDepth 100000 in
theorem c_X5_shut (l : Launch) (D : va_G) (cy : Nat → ClassId) (L : g_S → Nat) (ns : Nat) (kk : Nat → Nat) (σ : g_S → Nat → Int32) (i : Nat) (hi : i < ns) (hk : kk i ≤ 5) : x_Met l D cy L ns kk yX5_shut (.code yX5_shut cX5_shut 2 none) 1 σ [.ref (L (11, i, 0))] none (x_shut σ (kk i) i) := by
  refine g_Met.of (by decide) (Nat.le_of_ble_eq_true rfl) ?_
  intro pg e s m below meth c hx hb hr hlk hml hown hts hK hN H locs hG hS ls hl
  have hown : s.vm.findClass RX5 = some m.cls := hown
  have hl : lv_has ls 2 [(0, .ref (L (11, i, 0)))] := hl
  refine lv_aload_n hx hb dX5_shut_0 rfl (lv_at hl 0 rfl) ?_
  refine lv_iconst (v := 0) hx hb dX5_shut_1 (by decide) ?_
  refine g_puti (C := RX5) (T := TX5) (N := 7) (v := 0) (ty := .boolean) hx hb hts inX5g tyX5_ok nmX5 hown hK hG hS (11, i, 0) ⟨hi, rfl⟩ (x_at_11 cy L ns kk (i) (0) (σ (11, i, 0))) rfl 4 (by decide) (x_up_11_4 cy L ns kk (i) (0) (σ (11, i, 0)) (0)) fl_X5_9 rfl (by decide +kernel) rfl rfl (Nat.le_of_ble_eq_true rfl) dX5_shut_2 (fun H locs hG hS => ?_)
  refine lv_iconst (v := 0) hx hb dX5_shut_5 (by decide) ?_
  refine lv_istore_n (lv' := [(1, .int 0), (0, .ref (L (11, i, 0)))]) hx hb dX5_shut_6 rfl hl (by decide) rfl (fun ls hl => ?_)
  refine lp_shut l D cy L ns kk  ⟨hx, hb, hr, hlk, hml, hown, hts, hK, hN⟩ i hi hk (kk i) (g_up σ (11, i, 0) 4 0) 0 H locs ls (by omega) hG hS (lv_sub hl [0, 1] rfl) (fun H locs ls hG hS hl => ?_)
  exact s_vret hx hb hr hlk hG hS dX5_shut_31 rfl rfl
set_option maxHeartbeats 4000000 in
set_option maxRecDepth 100000 in
theorem c_X5_diagnose (l : Launch) (D : va_G) (cy : Nat → ClassId) (L : g_S → Nat) (ns : Nat) (kk : Nat → Nat) (σ : g_S → Nat → Int32) (i : Nat) (hi : i < ns) (code : Int32) (hk : kk i ≤ 5) : x_Met l D cy L ns kk yX5_diagnose (.code yX5_diagnose cX5_diagnose 2 (some .int)) 2 σ [.ref (L (11, i, 0)), .int (code)] (some (.int (-code))) (x_dgM σ (kk i) i code) := by
  refine g_Met.of (by decide) (Nat.le_of_ble_eq_true rfl) ?_
  intro pg e s m below meth c hx hb hr hlk hml hown hts hK hN H locs hG hS ls hl
  have hown : s.vm.findClass RX5 = some m.cls := hown
  have hl : lv_has ls 2 [(0, .ref (L (11, i, 0))), (1, .int (code))] := hl
  refine lv_aload_n hx hb dX5_diagnose_0 rfl (lv_at hl 0 rfl) ?_
  refine lv_dup hx hb dX5_diagnose_1 rfl ?_
  refine g_get (C := RX5) (T := TX5) (N := 7) (v := .int (σ (11, i, 0) 5)) hx hb hts inX5g hown hK hG (11, i, 0) ⟨hi, rfl⟩ (x_at_11 cy L ns kk (i) (0) (σ (11, i, 0))) rfl 5 (by decide) fl_X5_15 rfl dX5_diagnose_2 ?_
  refine lv_iconst (v := 1) hx hb dX5_diagnose_5 (by decide) ?_
  refine lv_iadd hx hb dX5_diagnose_6 ?_
  refine g_puti (C := RX5) (T := TX5) (N := 7) (v := (σ (11, i, 0) 5) + (1)) (ty := .int) hx hb hts inX5g tyX5_ok nmX5 hown hK hG hS (11, i, 0) ⟨hi, rfl⟩ (x_at_11 cy L ns kk (i) (0) (σ (11, i, 0))) rfl 5 (by decide) (x_up_11_5 cy L ns kk (i) (0) (σ (11, i, 0)) ((σ (11, i, 0) 5) + (1))) fl_X5_15 rfl (by decide +kernel) rfl rfl (Nat.le_of_ble_eq_true rfl) dX5_diagnose_7 (fun H locs hG hS => ?_)
  refine lv_aload_n hx hb dX5_diagnose_10 rfl (lv_at hl 0 rfl) ?_
  refine lv_iload_n hx hb dX5_diagnose_11 rfl (lv_at hl 1 rfl) ?_
  refine g_puti (C := RX5) (T := TX5) (N := 7) (v := code) (ty := .int) hx hb hts inX5g tyX5_ok nmX5 hown hK hG hS (11, i, 0) ⟨hi, rfl⟩ (x_at_11 cy L ns kk (i) (0) ((g_up σ (11, i, 0) (5) ((σ (11, i, 0) 5) + (1))) (11, i, 0))) rfl 6 (by decide) (x_up_11_6 cy L ns kk (i) (0) ((g_up σ (11, i, 0) (5) ((σ (11, i, 0) 5) + (1))) (11, i, 0)) (code)) fl_X5_19 rfl (by decide +kernel) rfl rfl (Nat.le_of_ble_eq_true rfl) dX5_diagnose_12 (fun H locs hG hS => ?_)
  refine lv_aload_n hx hb dX5_diagnose_15 rfl (lv_at hl 0 rfl) ?_
  refine g_get (C := RX5) (T := TX5) (N := 7) (v := .int ((g_up (g_up σ (11, i, 0) (5) ((σ (11, i, 0) 5) + (1))) (11, i, 0) (6) (code)) (11, i, 0) 5)) hx hb hts inX5g hown hK hG (11, i, 0) ⟨hi, rfl⟩ (x_at_11 cy L ns kk (i) (0) ((g_up (g_up σ (11, i, 0) (5) ((σ (11, i, 0) 5) + (1))) (11, i, 0) (6) (code)) (11, i, 0))) rfl 5 (by decide) fl_X5_15 rfl dX5_diagnose_16 ?_
  rw [show (g_up (g_up σ (11, i, 0) (5) ((σ (11, i, 0) 5) + (1))) (11, i, 0) (6) (code)) (11, i, 0) 5 = (σ (11, i, 0) 5) + (1) from by simp [g_up_at]]
  refine lv_iconst (v := 3) hx hb dX5_diagnose_19 (by decide) ?_
  refine kz_icmp_lt (X := ((σ (11, i, 0) 5) + (1)).toInt) (Y := 3) hx hb rfl (by decide) dX5_diagnose_20 (tgt := 27) (by decide) (fun c_20_1 => ?_) (fun c_20_1 => ?_)
  · refine lv_iload_n hx hb dX5_diagnose_27 rfl (lv_at hl 1 rfl) ?_
    refine lv_ineg hx hb dX5_diagnose_28 ?_
    exact s_iret hx hb hr hlk hG hS dX5_diagnose_29 rfl (by unfold x_dgM; rw [if_pos (by omega)]; rfl)
  · refine lv_aload_n hx hb dX5_diagnose_23 rfl (lv_at hl 0 rfl) ?_
    refine g_cont (va_runV (As := []) (rest := []) ⟨hx, hb, hml, hown, hts⟩ (c_X5_shut l D cy L ns kk (g_up (g_up σ (11, i, 0) (5) ((σ (11, i, 0) 5) + (1))) (11, i, 0) (6) (code)) (i) hi hk) (cwV 0 hts gV_X5_56 rfl rfl rfl (by decide +kernel) ⟨Nat.le_of_ble_eq_true rfl, Nat.le_of_ble_eq_true rfl⟩) (g_preV hK hN hG (x := (11, i, 0)) ⟨hi, rfl⟩ (q := (RX5, TX5, 7)) (x_at_11 cy L ns kk (i) (0) ((g_up (g_up σ (11, i, 0) (5) ((σ (11, i, 0) 5) + (1))) (11, i, 0) (6) (code)) (11, i, 0))) rfl) rfl rfl hl.1 rfl (lv_room (Nat.le_of_ble_eq_true rfl)) dX5_diagnose_24 ⟨Nat.zero_le _, Nat.zero_le _⟩) hS (fun H locs hG hS => ?_)
    refine W.eq (g2 := F0 m 27 ls []) rfl ?_
    refine lv_iload_n hx hb dX5_diagnose_27 rfl (lv_at hl 1 rfl) ?_
    refine lv_ineg hx hb dX5_diagnose_28 ?_
    exact s_iret hx hb hr hlk hG hS dX5_diagnose_29 rfl (by unfold x_dgM; rw [if_neg (by omega)]; rfl)
set_option maxHeartbeats 4000000 in
set_option maxRecDepth 100000 in
theorem c_X5_tell (l : Launch) (D : va_G) (cy : Nat → ClassId) (L : g_S → Nat) (ns : Nat) (kk : Nat → Nat) (σ : g_S → Nat → Int32) (i : Nat) (hi : i < ns) (w : Int32) (hk : kk i ≤ 5) (hz : ∀ j, j < kk i → σ (18, i, j) 2 = 0 ∨ σ (18, i, j) 2 = 1) : x_Met l D cy L ns kk yX5_tell (.code yX5_tell cX5_tell 2 (some .int)) 2 σ [.ref (L (11, i, 0)), .int (w)] (some (.int (x_sTell σ (kk i) i w))) σ := by
  refine g_Met.of (by decide) (Nat.le_of_ble_eq_true rfl) ?_
  intro pg e s m below meth c hx hb hr hlk hml hown hts hK hN H locs hG hS ls hl
  have hown : s.vm.findClass RX5 = some m.cls := hown
  have hl : lv_has ls 2 [(0, .ref (L (11, i, 0))), (1, .int (w))] := hl
  refine lv_iload_n hx hb dX5_tell_0 rfl (lv_at hl 1 rfl) ?_
  rcases (show (w).toInt = 0 ∨ (w).toInt = 1 ∨ (w).toInt = 2 ∨ (w).toInt = 3 ∨ ((w).toInt < 0 ∨ 3 < (w).toInt) by omega) with c_1_1 | c_1_1 | c_1_1 | c_1_1 | c_1_1
  · refine lv_tableIn (off := 31) (tgt := 32) hx hb dX5_tell_1 (by have := (show (w : Int32).toInt = (w).toInt from rfl); omega) (by have := (show (w : Int32).toInt = (w).toInt from rfl); omega) (by rw [((show (w : Int32).toInt = (w).toInt from rfl)).trans c_1_1]; rfl) (by decide) ?_
    refine lv_aload_n hx hb dX5_tell_32 rfl (lv_at hl 0 rfl) ?_
    refine g_get (C := RX5) (T := TX5) (N := 7) (v := .int (σ (11, i, 0) 4)) hx hb hts inX5g hown hK hG (11, i, 0) ⟨hi, rfl⟩ (x_at_11 cy L ns kk (i) (0) (σ (11, i, 0))) rfl 4 (by decide) fl_X5_9 rfl dX5_tell_33 ?_
    refine kz_if_eq (X := (σ (11, i, 0) 4).toInt) hx hb rfl dX5_tell_36 (tgt := 43) (by decide) (fun c_36_2 => ?_) (fun c_36_2 => ?_)
    · refine lv_iconst (v := 2) hx hb dX5_tell_43 (by decide) ?_
      exact s_iret hx hb hr hlk hG hS dX5_tell_44 (by unfold x_sTell; (repeat' split) <;> first | rfl | (exfalso; omega)) rfl
    · refine lv_iconst (v := 1) hx hb dX5_tell_39 (by decide) ?_
      refine lv_goto (tgt := 44) hx hb dX5_tell_40 (by decide) ?_
      exact s_iret hx hb hr hlk hG hS dX5_tell_44 (by unfold x_sTell; (repeat' split) <;> first | rfl | (exfalso; omega)) rfl
  · refine lv_tableIn (off := 44) (tgt := 45) hx hb dX5_tell_1 (by have := (show (w : Int32).toInt = (w).toInt from rfl); omega) (by have := (show (w : Int32).toInt = (w).toInt from rfl); omega) (by rw [((show (w : Int32).toInt = (w).toInt from rfl)).trans c_1_1]; rfl) (by decide) ?_
    refine lv_aload_n hx hb dX5_tell_45 rfl (lv_at hl 0 rfl) ?_
    refine g_get (C := RX5) (T := TX5) (N := 7) (v := .int (σ (11, i, 0) 5)) hx hb hts inX5g hown hK hG (11, i, 0) ⟨hi, rfl⟩ (x_at_11 cy L ns kk (i) (0) (σ (11, i, 0))) rfl 5 (by decide) fl_X5_15 rfl dX5_tell_46 ?_
    exact s_iret hx hb hr hlk hG hS dX5_tell_49 (by unfold x_sTell; (repeat' split) <;> first | rfl | (exfalso; omega)) rfl
  · refine lv_tableIn (off := 49) (tgt := 50) hx hb dX5_tell_1 (by have := (show (w : Int32).toInt = (w).toInt from rfl); omega) (by have := (show (w : Int32).toInt = (w).toInt from rfl); omega) (by rw [((show (w : Int32).toInt = (w).toInt from rfl)).trans c_1_1]; rfl) (by decide) ?_
    refine lv_aload_n hx hb dX5_tell_50 rfl (lv_at hl 0 rfl) ?_
    refine g_get (C := RX5) (T := TX5) (N := 7) (v := .int (σ (11, i, 0) 6)) hx hb hts inX5g hown hK hG (11, i, 0) ⟨hi, rfl⟩ (x_at_11 cy L ns kk (i) (0) (σ (11, i, 0))) rfl 6 (by decide) fl_X5_19 rfl dX5_tell_51 ?_
    exact s_iret hx hb hr hlk hG hS dX5_tell_54 (by unfold x_sTell; (repeat' split) <;> first | rfl | (exfalso; omega)) rfl
  · refine lv_tableIn (off := 54) (tgt := 55) hx hb dX5_tell_1 (by have := (show (w : Int32).toInt = (w).toInt from rfl); omega) (by have := (show (w : Int32).toInt = (w).toInt from rfl); omega) (by rw [((show (w : Int32).toInt = (w).toInt from rfl)).trans c_1_1]; rfl) (by decide) ?_
    refine lv_aload_n hx hb dX5_tell_55 rfl (lv_at hl 0 rfl) ?_
    refine g_cont (va_runV (As := []) (rest := []) ⟨hx, hb, hml, hown, hts⟩ (c_X5_setCount l D cy L ns kk σ (i) hi hk hz) (cwV 0 hts gV_X5_62 rfl rfl rfl (by decide +kernel) ⟨Nat.le_of_ble_eq_true rfl, Nat.le_of_ble_eq_true rfl⟩) (g_preV hK hN hG (x := (11, i, 0)) ⟨hi, rfl⟩ (q := (RX5, TX5, 7)) (x_at_11 cy L ns kk (i) (0) (σ (11, i, 0))) rfl) rfl rfl hl.1 rfl (lv_room (Nat.le_of_ble_eq_true rfl)) dX5_tell_56 ⟨Nat.zero_le _, Nat.zero_le _⟩) hS (fun H locs hG hS => ?_)
    refine W.eq (g2 := F0 m 59 ls [.int (x_setsGo σ (i) (kk (i)) 0 0)]) rfl ?_
    exact s_iret hx hb hr hlk hG hS dX5_tell_59 (by unfold x_sTell; (repeat' split) <;> first | rfl | (exfalso; omega)) rfl
  · refine lv_tableOut (tgt := 60) hx hb dX5_tell_1 (by have := (show (w : Int32).toInt = (w).toInt from rfl); omega) (by decide) ?_
    refine lv_iconst (v := (-1)) hx hb dX5_tell_60 (by decide) ?_
    exact s_iret hx hb hr hlk hG hS dX5_tell_61 (by unfold x_sTell; (repeat' split) <;> first | rfl | (exfalso; omega)) rfl
set_option maxHeartbeats 4000000 in
set_option maxRecDepth 100000 in
theorem c_X6_everOpened (l : Launch) (D : va_G) (cy : Nat → ClassId) (L : g_S → Nat) (ns : Nat) (kk : Nat → Nat) (σ : g_S → Nat → Int32) (p : Int32) (hs : (σ (0, 0, 0) 3).toInt = (ns : Int)) (h8 : ns ≤ 8) : x_Met l D cy L ns kk yX6_everOpened (.code yX6_everOpened cX6_everOpened 2 (some (.object "SearchWire$Session"))) 0 σ [.ref (L (0, 0, 0)), .int (p)] (some (if 0 ≤ (p).toInt ∧ (p).toInt < (ns : Int) then .ref (L (11, p.toNatClampNeg, 0)) else .null)) σ := by
  refine g_Met.of (by decide) (Nat.le_of_ble_eq_true rfl) ?_
  intro pg e s m below meth c hx hb hr hlk hml hown hts hK hN H locs hG hS ls hl
  have hown : s.vm.findClass RX6 = some m.cls := hown
  have hl : lv_has ls 2 [(0, .ref (L (0, 0, 0))), (1, .int (p))] := hl
  refine lv_iload_n hx hb dX6_everOpened_0 rfl (lv_at hl 1 rfl) ?_
  refine kz_if_lt (X := (p).toInt) hx hb rfl dX6_everOpened_1 (tgt := 21) (by decide) (fun c_1_1 => ?_) (fun c_1_1 => ?_)
  · refine lv_null hx hb dX6_everOpened_21 ?_
    exact s_aret hx hb hr hlk hG hS dX6_everOpened_22 (Or.inl rfl) (by rw [if_neg (by omega)]) rfl
  · refine lv_iload_n hx hb dX6_everOpened_4 rfl (lv_at hl 1 rfl) ?_
    refine lv_aload_n hx hb dX6_everOpened_5 rfl (lv_at hl 0 rfl) ?_
    refine g_get (C := RX6) (T := TX6) (N := 4) (v := .int (σ (0, 0, 0) 3)) hx hb hts inX6g hown hK hG (0, 0, 0) ⟨rfl, rfl⟩ (x_at_0 cy L ns kk (0) (0) (σ (0, 0, 0))) rfl 3 (by decide) fl_X6_29 rfl dX6_everOpened_6 ?_
    refine kz_icmp_ge (X := (p).toInt) (Y := (σ (0, 0, 0) 3).toInt) hx hb rfl rfl dX6_everOpened_9 (tgt := 21) (by decide) (fun c_9_2 => ?_) (fun c_9_2 => ?_)
    · refine lv_null hx hb dX6_everOpened_21 ?_
      exact s_aret hx hb hr hlk hG hS dX6_everOpened_22 (Or.inl rfl) (by rw [if_neg (by omega)]) rfl
    · refine lv_aload_n hx hb dX6_everOpened_12 rfl (lv_at hl 0 rfl) ?_
      refine g_get (C := RX6) (T := TX6) (N := 4) (v := .ref (L (9, 0, 0))) hx hb hts inX6g hown hK hG (0, 0, 0) ⟨rfl, rfl⟩ (x_at_0 cy L ns kk (0) (0) (σ (0, 0, 0))) rfl 2 (by decide) fl_X6_25 rfl dX6_everOpened_13 ?_
      refine lv_iload_n hx hb dX6_everOpened_16 rfl (lv_at hl 1 rfl) ?_
      refine g_aald (n := 8) (v := .ref (L (11, (p).toNatClampNeg, 0))) hx hb hK hG (9, 0, 0) ⟨rfl, rfl⟩ 2 rfl rfl rfl (g_vp (by omega) (by omega)) (by rw [if_pos (show (p).toNatClampNeg < ns from (by rw [g_cl]; omega))]; rfl) dX6_everOpened_17 ?_
      refine lv_goto (tgt := 22) hx hb dX6_everOpened_18 (by decide) ?_
      exact s_aret hx hb hr hlk hG hS dX6_everOpened_22 (Or.inr ⟨_, rfl⟩) (by rw [if_pos (by omega)]) rfl
set_option maxHeartbeats 4000000 in
set_option maxRecDepth 100000 in
theorem c_X6_openSession (l : Launch) (D : va_G) (cy : Nat → ClassId) (L : g_S → Nat) (ns : Nat) (kk : Nat → Nat) (σ : g_S → Nat → Int32) (p : Int32) (hs : (σ (0, 0, 0) 3).toInt = (ns : Int)) (h8 : ns ≤ 8) (hz4 : ∀ i, i < ns → σ (11, i, 0) 4 = 0 ∨ σ (11, i, 0) 4 = 1) : x_Met l D cy L ns kk yX6_openSession (.code yX6_openSession cX6_openSession 3 (some (.object "SearchWire$Session"))) 1 σ [.ref (L (0, 0, 0)), .int (p)] (some (if (0 ≤ (p).toInt ∧ (p).toInt < (ns : Int)) ∧ ¬ (σ (11, (p).toNatClampNeg, 0) 4).toInt = 0 then .ref (L (11, p.toNatClampNeg, 0)) else .null)) σ := by
  refine g_Met.of (by decide) (Nat.le_of_ble_eq_true rfl) ?_
  intro pg e s m below meth c hx hb hr hlk hml hown hts hK hN H locs hG hS ls hl
  have hown : s.vm.findClass RX6 = some m.cls := hown
  have hl : lv_has ls 3 [(0, .ref (L (0, 0, 0))), (1, .int (p))] := hl
  refine lv_aload_n hx hb dX6_openSession_0 rfl (lv_at hl 0 rfl) ?_
  refine lv_iload_n hx hb dX6_openSession_1 rfl (lv_at hl 1 rfl) ?_
  refine g_cont (va_runV (As := [.int (p)]) (rest := []) ⟨hx, hb, hml, hown, hts⟩ (c_X6_everOpened l D cy L ns kk σ (p) hs h8) (cwV 1 hts gV_X6_106 rfl rfl rfl (by decide +kernel) ⟨Nat.le_of_ble_eq_true rfl, Nat.le_of_ble_eq_true rfl⟩) (g_preV hK hN hG (x := (0, 0, 0)) ⟨rfl, rfl⟩ (q := (RX6, TX6, 4)) (x_at_0 cy L ns kk (0) (0) (σ (0, 0, 0))) rfl) rfl rfl hl.1 rfl (lv_room (Nat.le_of_ble_eq_true rfl)) dX6_openSession_2 ⟨Nat.zero_le _, Nat.zero_le _⟩) hS (fun H locs hG hS => ?_)
  refine W.eq (g2 := F0 m 5 ls [(if 0 ≤ (p).toInt ∧ (p).toInt < (ns : Int) then .ref (L (11, (p).toNatClampNeg, 0)) else .null)]) rfl ?_
  by_cases c_2_1 : 0 ≤ (p).toInt ∧ (p).toInt < (ns : Int)
  · rw [if_pos c_2_1]
    refine lv_astore_n (lv' := [(2, .ref (L (11, (p).toNatClampNeg, 0))), (0, .ref (L (0, 0, 0))), (1, .int (p))]) hx hb dX6_openSession_5 rfl hl (by decide) rfl (fun ls hl => ?_)
    refine lv_aload_n hx hb dX6_openSession_6 rfl (lv_at hl 0 rfl) ?_
    refine lv_ifnull hx hb dX6_openSession_7 ?_
    refine lv_aload_n hx hb dX6_openSession_10 rfl (lv_at hl 0 rfl) ?_
    refine g_cont (va_runV (As := []) (rest := []) ⟨hx, hb, hml, hown, hts⟩ (c_X5_isOpen l D cy L ns kk σ ((p).toNatClampNeg) (by rw [g_cl]; omega) (g_nar01 (hz4 _ (by rw [g_cl]; omega)))) (cwV 0 hts gV_X6_169 rfl rfl rfl (by decide +kernel) ⟨Nat.le_of_ble_eq_true rfl, Nat.le_of_ble_eq_true rfl⟩) (g_preV hK hN hG (x := (11, (p).toNatClampNeg, 0)) ⟨(by rw [g_cl]; omega), rfl⟩ (q := (RX5, TX5, 7)) (x_at_11 cy L ns kk ((p).toNatClampNeg) (0) (σ (11, (p).toNatClampNeg, 0))) rfl) rfl rfl hl.1 rfl (lv_room (Nat.le_of_ble_eq_true rfl)) dX6_openSession_11 ⟨Nat.zero_le _, Nat.zero_le _⟩) hS (fun H locs hG hS => ?_)
    refine W.eq (g2 := F0 m 14 ls [.int (σ (11, (p).toNatClampNeg, 0) 4)]) rfl ?_
    refine kz_if_eq (X := (σ (11, (p).toNatClampNeg, 0) 4).toInt) hx hb rfl dX6_openSession_14 (tgt := 21) (by decide) (fun c_14_2 => ?_) (fun c_14_2 => ?_)
    · refine lv_null hx hb dX6_openSession_21 ?_
      exact s_aret hx hb hr hlk hG hS dX6_openSession_22 (Or.inl rfl) (by rw [if_neg (by omega)]) rfl
    · refine lv_aload_n hx hb dX6_openSession_17 rfl (lv_at hl 0 rfl) ?_
      refine lv_goto (tgt := 22) hx hb dX6_openSession_18 (by decide) ?_
      exact s_aret hx hb hr hlk hG hS dX6_openSession_22 (Or.inr ⟨_, rfl⟩) (by rw [if_pos (by omega)]) rfl
  · rw [if_neg c_2_1]
    refine lv_astore_nN (lv' := [(2, .null), (0, .ref (L (0, 0, 0))), (1, .int (p))]) hx hb dX6_openSession_5 rfl hl (by decide) rfl (fun ls hl => ?_)
    refine lv_aload_nN hx hb dX6_openSession_6 rfl (lv_at hl 0 rfl) ?_
    refine lv_ifnullN (tgt := 21) hx hb dX6_openSession_7 (by decide) ?_
    refine lv_null hx hb dX6_openSession_21 ?_
    exact s_aret hx hb hr hlk hG hS dX6_openSession_22 (Or.inl rfl) (by rw [if_neg (by omega)]) rfl
set_option maxHeartbeats 4000000 in
set_option maxRecDepth 100000 in
theorem lp_back (l : Launch) (D : va_G) (cy : Nat → ClassId) (L : g_S → Nat) (ns : Nat) (kk : Nat → Nat) (σ : g_S → Nat → Int32) {pg : Program} {e : Env} {s : State} {m : MethodId} {args : Array Value} {below : List Frame} {meth : Method} {c : Code} {Q : State → Prop} (C0 : g_C pg s m meth c args cX6_stepBack (some .int) 7 RX6 D (x_tys cy)) (h0 : 0 ≤ (σ (1, 0, 0) 2).toInt) (hn : (σ (1, 0, 0) 2).toInt ≤ 100) (x pl : Int32) :
    ∀ (n : Nat) (k : Nat) (b : Int32) (H : Heap) (locs : List Loc) (ls : Array Slot), k + n = pl.toInt.toNat → g_H D vwCl (x_dom ns kk) L (fun z => x_K cy L ns kk z (σ z)) H → va_S (g_A (x_dom ns kk) L) s.heap H locs → lv_has ls 7 [(5, .int (nI k)), (4, .int (b)), (0, .ref (L (0, 0, 0))), (1, .int (x)), (3, .int (pl))] →
    (∀ (H : Heap) (locs : List Loc) (ls : Array Slot), g_H D vwCl (x_dom ns kk) L (fun z => x_K cy L ns kk z (σ z)) H → va_S (g_A (x_dom ns kk) L) s.heap H locs → lv_has ls 7 [(4, .int (x_backGo σ x n b))] → W pg l e (g_R 3) s m args below meth c H locs 0 0 Q (F0 m 43 ls [])) →
    (∀ (H : Heap) (locs : List Loc) (ls : Array Slot), g_H D vwCl (x_dom ns kk) L (fun z => x_K cy L ns kk z (σ z)) H → va_S (g_A (x_dom ns kk) L) s.heap H locs → lv_has ls 7 [(4, .int (x_backGo σ x n b))] → W pg l e (g_R 3) s m args below meth c H locs 0 0 Q (F0 m 30 ls [])) →
    W pg l e (g_R 3) s m args below meth c H locs 0 0 Q (F0 m 6 ls []) := by
  obtain ⟨hx, hb, hr, hlk, hml, hown, hts, hK, hN⟩ := C0
  intro n
  induction n with
  | zero =>
    intro k b H locs ls hv9 hG hS hl kk9 kk8
    have hr9 := g_rng pl
    have hz9 := g_nIT (show k < 2147483648 by omega)
    refine lv_iload hx hb dX6_stepBack_6 (lv_at hl 0 rfl) ?_
    refine lv_iload_n hx hb dX6_stepBack_8 rfl (lv_at hl 4 rfl) ?_
    refine kz_icmp_ge (X := ((k : Nat) : Int)) (Y := (pl).toInt) hx hb (g_nIT (by omega)) rfl dX6_stepBack_9 (tgt := 43) (by decide) (fun c_9_1 => ?_) (fun c_9_1 => ?_)
    · exact kk9 H locs ls hG hS (lv_sub hl [1] rfl)
    · exact absurd c_9_1 (by omega)
  | succ n ih =>
    intro k b H locs ls hv9 hG hS hl kk9 kk8
    have hr9 := g_rng pl
    have hz9 := g_nIT (show k < 2147483648 by omega)
    refine lv_iload hx hb dX6_stepBack_6 (lv_at hl 0 rfl) ?_
    refine lv_iload_n hx hb dX6_stepBack_8 rfl (lv_at hl 4 rfl) ?_
    refine kz_icmp_ge (X := ((k : Nat) : Int)) (Y := (pl).toInt) hx hb (g_nIT (by omega)) rfl dX6_stepBack_9 (tgt := 43) (by decide) (fun c_9_1 => ?_) (fun c_9_1 => ?_)
    · exact absurd c_9_1 (by omega)
    · refine lv_aload_n hx hb dX6_stepBack_12 rfl (lv_at hl 2 rfl) ?_
      refine g_get (C := RX6) (T := TX6) (N := 4) (v := .ref (L (1, 0, 0))) hx hb hts inX6g hown hK hG (0, 0, 0) ⟨rfl, rfl⟩ (x_at_0 cy L ns kk (0) (0) (σ (0, 0, 0))) rfl 0 (by decide) fl_X6_10 rfl dX6_stepBack_13 ?_
      refine lv_iload_n hx hb dX6_stepBack_16 rfl (lv_at hl 3 rfl) ?_
      refine lv_iload hx hb dX6_stepBack_17 (lv_at hl 1 rfl) ?_
      refine g_cont (va_runV (As := [.int (x), .int (b)]) (rest := []) ⟨hx, hb, hml, hown, hts⟩ (c_X2_greatestTermBelow l D cy L ns kk σ (x) (b) h0 hn) (cwV 2 hts gV_X6_173 rfl rfl rfl (by decide +kernel) ⟨Nat.le_of_ble_eq_true rfl, Nat.le_of_ble_eq_true rfl⟩) (g_preV hK hN hG (x := (1, 0, 0)) ⟨rfl, rfl⟩ (q := (RX2, TX2, 3)) (x_at_1 cy L ns kk (0) (0) (σ (1, 0, 0))) rfl) rfl rfl hl.1 rfl (lv_room (Nat.le_of_ble_eq_true rfl)) dX6_stepBack_19 ⟨Nat.zero_le _, Nat.zero_le _⟩) hS (fun H locs hG hS => ?_)
      refine W.eq (g2 := F0 m 22 ls [.int (x_great σ (x) (b))]) rfl ?_
      refine lv_istore (lv' := [(6, .int (x_great σ (x) (b))), (5, .int (nI k)), (4, .int (b)), (0, .ref (L (0, 0, 0))), (1, .int (x)), (3, .int (pl))]) hx hb dX6_stepBack_22 hl (by decide) rfl (fun ls hl => ?_)
      refine lv_iload hx hb dX6_stepBack_24 (lv_at hl 0 rfl) ?_
      refine lv_iconst (v := (-1)) hx hb dX6_stepBack_26 (by decide) ?_
      refine kz_icmp_ne (X := (x_great σ (x) (b)).toInt) (Y := (-1)) hx hb rfl (by decide) dX6_stepBack_27 (tgt := 33) (by decide) (fun c_27_2 => ?_) (fun c_27_2 => ?_)
      · refine lv_iload hx hb dX6_stepBack_33 (lv_at hl 0 rfl) ?_
        refine lv_istore (lv' := [(4, .int (x_great σ (x) (b))), (6, .int (x_great σ (x) (b))), (5, .int (nI k)), (0, .ref (L (0, 0, 0))), (1, .int (x)), (3, .int (pl))]) hx hb dX6_stepBack_35 hl (by decide) rfl (fun ls hl => ?_)
        refine lv_iinc (v := nI (k + 1)) (lv' := [(5, .int (nI (k + 1))), (4, .int (x_great σ (x) (b))), (6, .int (x_great σ (x) (b))), (0, .ref (L (0, 0, 0))), (1, .int (x)), (3, .int (pl))]) hx hb dX6_stepBack_37 hl (k := 2) rfl (nI_1 (k)) (by decide) rfl (fun ls hl => ?_)
        refine lv_goto (tgt := 6) hx hb dX6_stepBack_40 (by decide) ?_
        have e90 : x_backGo σ x (n + 1) b = x_backGo σ x n (x_great σ (x) (b)) := (by rw [x_backGo_s]; (repeat' split) <;> first | rfl | (exfalso; omega))
        rw [e90] at kk9 kk8
        exact ih (k + 1) (x_great σ (x) (b)) H locs ls (by omega) hG hS (lv_sub hl [0, 1, 3, 4, 5] rfl) kk9 kk8
      · have e90 : x_backGo σ x (n + 1) b = b := (by rw [x_backGo_s]; (repeat' split) <;> first | rfl | (exfalso; omega))
        rw [e90] at kk8
        exact kk8 H locs ls hG hS (lv_sub hl [2] rfl)
set_option maxHeartbeats 4000000 in
set_option maxRecDepth 100000 in
theorem c_X6_stepBack (l : Launch) (D : va_G) (cy : Nat → ClassId) (L : g_S → Nat) (ns : Nat) (kk : Nat → Nat) (σ : g_S → Nat → Int32) (x t pl : Int32) (h0 : 0 ≤ (σ (1, 0, 0) 2).toInt) (hn : (σ (1, 0, 0) 2).toInt ≤ 100) (hp : 0 ≤ pl.toInt) : x_Met l D cy L ns kk yX6_stepBack (.code yX6_stepBack cX6_stepBack 7 (some .int)) 3 σ [.ref (L (0, 0, 0)), .int (x), .int (t), .int (pl)] (some (.int (x_backGo σ x pl.toInt.toNat t))) σ := by
  refine g_Met.of (by decide) (Nat.le_of_ble_eq_true rfl) ?_
  intro pg e s m below meth c hx hb hr hlk hml hown hts hK hN H locs hG hS ls hl
  have hown : s.vm.findClass RX6 = some m.cls := hown
  have hl : lv_has ls 7 [(0, .ref (L (0, 0, 0))), (1, .int (x)), (2, .int (t)), (3, .int (pl))] := hl
  refine lv_iload_n hx hb dX6_stepBack_0 rfl (lv_at hl 2 rfl) ?_
  refine lv_istore (lv' := [(4, .int (t)), (0, .ref (L (0, 0, 0))), (1, .int (x)), (2, .int (t)), (3, .int (pl))]) hx hb dX6_stepBack_1 hl (by decide) rfl (fun ls hl => ?_)
  refine lv_iconst (v := 0) hx hb dX6_stepBack_3 (by decide) ?_
  refine lv_istore (lv' := [(5, .int 0), (4, .int (t)), (0, .ref (L (0, 0, 0))), (1, .int (x)), (2, .int (t)), (3, .int (pl))]) hx hb dX6_stepBack_4 hl (by decide) rfl (fun ls hl => ?_)
  refine lp_back l D cy L ns kk σ ⟨hx, hb, hr, hlk, hml, hown, hts, hK, hN⟩ h0 hn x pl pl.toInt.toNat 0 t H locs ls (by omega) hG hS (lv_sub hl [0, 1, 2, 3, 5] rfl) (fun H locs ls hG hS hl => ?_) (fun H locs ls hG hS hl => ?_)
  · refine lv_iload hx hb dX6_stepBack_43 (lv_at hl 0 rfl) ?_
    exact s_iret hx hb hr hlk hG hS dX6_stepBack_45 rfl rfl
  · refine lv_iload hx hb dX6_stepBack_30 (lv_at hl 0 rfl) ?_
    exact s_iret hx hb hr hlk hG hS dX6_stepBack_32 rfl rfl
