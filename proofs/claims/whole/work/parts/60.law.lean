/-! the law's loop -/
def w_C (p : Program) (l : Launch) (s : State) (m : MethodId) (meth : Method) (c : Code) (b L : Nat) (xs : Nat → Int32) (D : va_G) (cy : Nat → ClassId) (sa : Nat) : Prop := (p.tables.exec = Jvm.exec ∧ c.code = cL_law ∧ c.maxLocals = 7 ∧ s.vm.findClass RL = some m.cls ∧ (∀ w ∈ g_T, w.before #[Value.ref b] s = true)) ∧ (va_K D vwCl (x_tys cy) s ∧ h_N s ∧ e_N (fun q => s.heap.size ≤ q) sa s s.heap) ∧ (va_X b L xs s s.heap ∧ b < s.heap.size) ∧ (l.stackTraces = false ∧ L ≤ 3072)
/-- the three worlds of the law: the class's, the reference's, the long[1] -/
def w_I (s : State) (D : va_G) (cy : Nat → ClassId) (bo : Nat) (LM LX : g_S → Nat) (ns : Nat) (kk : Nat → Nat) (σ μ : r_M) (w0 : Int64) (H : Heap) : Prop :=
  (g_H D vwCl (x_dom ns kk) LX (fun z => x_K cy LX ns kk z (σ z)) H ∧ g_H D vwCl m_dom LM (fun z => m_K cy LM z (μ z)) H ∧ w_O cy bo w0 H) ∧ ((∀ x y, x_dom ns kk x → m_dom y → LX x ≠ LM y) ∧ (∀ x, x_dom ns kk x → LX x ≠ bo) ∧ (∀ y, m_dom y → LM y ≠ bo)) ∧ ((∀ x, x_dom ns kk x → s.heap.size ≤ LX x) ∧ (∀ y, m_dom y → s.heap.size ≤ LM y) ∧ s.heap.size ≤ bo) ∧ rel ns kk σ μ
theorem w_I.x {s : State} {D : va_G} {cy : Nat → ClassId} {bo : Nat} {LM LX : g_S → Nat} {ns : Nat} {kk : Nat → Nat} {σ σ' μ : r_M} {w0 : Int64} {H H1 : Heap} (h : w_I s D cy bo LM LX ns kk σ μ w0 H) (hX : g_H D vwCl (x_dom ns kk) LX (fun z => x_K cy LX ns kk z (σ' z)) H1) (hk : ∀ q : Nat, q < H.size → ¬ g_A (x_dom ns kk) LX q → H1[q]? = H[q]?) : g_H D vwCl m_dom LM (fun z => m_K cy LM z (μ z)) H1 ∧ w_O cy bo w0 H1 := by
  obtain ⟨⟨h1, h2, h3⟩, ⟨d1, d2, d3⟩, -, -⟩ := h
  exact ⟨h2.kept (fun y hy => hk _ (h2.lt hy) (fun ⟨x, a, b⟩ => d1 x y a hy b)), (hk bo (Array.getElem?_eq_some_iff.mp h3).1 (fun ⟨x, a, b⟩ => d2 x a b)).trans h3⟩
theorem w_Im {s : State} {D : va_G} {cy : Nat → ClassId} {bo : Nat} {LM LX : g_S → Nat} {ns : Nat} {kk : Nat → Nat} {σ' μ' : r_M} {w0 : Int64} {H1 H2 : Heap} (hX : g_H D vwCl (x_dom ns kk) LX (fun z => x_K cy LX ns kk z (σ' z)) H1) (hO : w_O cy bo w0 H1) (hM : g_H D vwCl m_dom LM (fun z => m_K cy LM z (μ' z)) H2) (hk : ∀ q : Nat, q < H1.size → ¬ g_A m_dom LM q → H2[q]? = H1[q]?) (hd : (∀ x y, x_dom ns kk x → m_dom y → LX x ≠ LM y) ∧ (∀ x, x_dom ns kk x → LX x ≠ bo) ∧ (∀ y, m_dom y → LM y ≠ bo)) (hl : (∀ x, x_dom ns kk x → s.heap.size ≤ LX x) ∧ (∀ y, m_dom y → s.heap.size ≤ LM y) ∧ s.heap.size ≤ bo) (hr : rel ns kk σ' μ') : w_I s D cy bo LM LX ns kk σ' μ' w0 H2 :=
  ⟨⟨hX.kept (fun x hx => hk _ (hX.lt hx) (fun ⟨y, a, b⟩ => hd.1 x y hx a b.symm)), hM, (hk bo (Array.getElem?_eq_some_iff.mp hO).1 (fun ⟨y, a, b⟩ => hd.2.2 y a b)).trans hO⟩, hd, hl, hr⟩
theorem w_I.m {s : State} {D : va_G} {cy : Nat → ClassId} {bo : Nat} {LM LX : g_S → Nat} {ns : Nat} {kk : Nat → Nat} {σ σ' μ μ' : r_M} {w0 : Int64} {H H1 H2 : Heap} (h : w_I s D cy bo LM LX ns kk σ μ w0 H) (hX : g_H D vwCl (x_dom ns kk) LX (fun z => x_K cy LX ns kk z (σ' z)) H1) (hO : w_O cy bo w0 H1) (hM : g_H D vwCl m_dom LM (fun z => m_K cy LM z (μ' z)) H2) (hk : ∀ q : Nat, q < H1.size → ¬ g_A m_dom LM q → H2[q]? = H1[q]?) (hr : rel ns kk σ' μ') : w_I s D cy bo LM LX ns kk σ' μ' w0 H2 := by
  obtain ⟨⟨h1, h2, h3⟩, ⟨d1, d2, d3⟩, hl, -⟩ := h
  exact ⟨⟨hX.kept (fun x hx => hk _ (hX.lt hx) (fun ⟨y, a, b⟩ => d1 x y hx a b.symm)), hM, (hk bo (Array.getElem?_eq_some_iff.mp hO).1 (fun ⟨y, a, b⟩ => d3 y a b)).trans hO⟩, ⟨d1, d2, d3⟩, hl, hr⟩
theorem h_preV {s : State} {H : Heap} {D : va_G} {cl : List vw_C} {tys : List (ClassId × FieldType)} {dom : g_S → Prop} {L : g_S → Nat} {V : g_S → va_E} {As : List Value} {q : vw_C} (hK : va_K D cl tys s) (hN : h_N s) (hG : g_H D cl dom L V H) {x : g_S} (hx : dom x) {ci : Nat} {fs : List Value} (he : V x = .inr (ci, fs)) (hc : cl[ci]? = some q) : PreV s H q.1 (L x) (h_Pc D cl tys dom L V H.size (.ref (L x) :: As)) As :=
  ⟨h_Pc.blind, va_recv hK (hG.one hx he) hc (q0 := 0) rfl, fun U hU hW => ⟨rfl, by rw [hU], by rw [hU]; exact hG, va_K.moved hW.alike hK, hN.warm hW⟩⟩
section WA
variable {p : Program} {l : Launch} {e : Env} {R : Room} {s : State} {m : MethodId} {args : Array Value} {below : List Frame} {meth : Method} {c : Code} {H : Heap} {locs : List Loc} {cells slots : Nat} {Q : State → Prop}
variable {pc : Nat} {ls : Array Slot} {rest : List Value} {H0 : Heap} {A : Nat → Prop} {b L : Nat} {xs : Nat → Int32} {lv : List (Nat × Value)} {k : Nat}
theorem w_arg1 {r1 r2 r3 : Value} (hexec : p.tables.exec = Jvm.exec) (hb : c.code = cL_law) (hX : va_X b L xs s H0) (hbl : b < H0.size) (hbA : ¬ A b) (hS : va_S A H0 H locs) (hl : lv_has ls 7 ((0, .ref b) :: (1, r1) :: (2, r2) :: (3, r3) :: (4, .int (nI (6 * k))) :: lv)) (hL : L ≤ 3072) (hk : 6 * k + 6 ≤ L) (d1 : decode cL_law pc = .ok (.aload_n 0, 1)) (d2 : decode cL_law (pc + 1) = .ok (.iload 4, 2)) (d3 : decode cL_law (pc + 3) = .ok (.iconst 1, 1)) (d4 : decode cL_law (pc + 4) = .ok (.iadd, 1)) (d5 : decode cL_law (pc + 5) = .ok (.iaload, 1))
    (kk : W p l e R s m args below meth c H locs cells slots Q (F0 m (pc + 6) ls (.int (xs (6 * k + 1)) :: rest))) : W p l e R s m args below meth c H locs cells slots Q (F0 m pc ls rest) := by
  refine lv_aload_n hexec hb d1 rfl (lv_at hl 0 rfl) ?_
  refine lv_iload hexec hb d2 (lv_at hl 4 rfl) ?_
  refine lv_iconst (v := 1) hexec hb d3 (by decide) ?_
  refine lv_iadd hexec hb d4 ?_
  have e1 : nI (6 * k) + (1 : Int32) = nI (6 * k + 1) := nI_add (6 * k) 1
  rw [e1]
  refine va_sld hexec hb hX hbl hbA hS (vp_in_nI (by omega) (by omega)) d5 ?_
  rw [g_nIc (show 6 * k + 1 < 2147483648 by omega)]
  exact kk
theorem w_arg2 {r1 r2 r3 : Value} (hexec : p.tables.exec = Jvm.exec) (hb : c.code = cL_law) (hX : va_X b L xs s H0) (hbl : b < H0.size) (hbA : ¬ A b) (hS : va_S A H0 H locs) (hl : lv_has ls 7 ((0, .ref b) :: (1, r1) :: (2, r2) :: (3, r3) :: (4, .int (nI (6 * k))) :: lv)) (hL : L ≤ 3072) (hk : 6 * k + 6 ≤ L) (d1 : decode cL_law pc = .ok (.aload_n 0, 1)) (d2 : decode cL_law (pc + 1) = .ok (.iload 4, 2)) (d3 : decode cL_law (pc + 3) = .ok (.iconst 2, 1)) (d4 : decode cL_law (pc + 4) = .ok (.iadd, 1)) (d5 : decode cL_law (pc + 5) = .ok (.iaload, 1))
    (kk : W p l e R s m args below meth c H locs cells slots Q (F0 m (pc + 6) ls (.int (xs (6 * k + 2)) :: rest))) : W p l e R s m args below meth c H locs cells slots Q (F0 m pc ls rest) := by
  refine lv_aload_n hexec hb d1 rfl (lv_at hl 0 rfl) ?_
  refine lv_iload hexec hb d2 (lv_at hl 4 rfl) ?_
  refine lv_iconst (v := 2) hexec hb d3 (by decide) ?_
  refine lv_iadd hexec hb d4 ?_
  have e1 : nI (6 * k) + (2 : Int32) = nI (6 * k + 2) := nI_add (6 * k) 2
  rw [e1]
  refine va_sld hexec hb hX hbl hbA hS (vp_in_nI (by omega) (by omega)) d5 ?_
  rw [g_nIc (show 6 * k + 2 < 2147483648 by omega)]
  exact kk
theorem w_arg3 {r1 r2 r3 : Value} (hexec : p.tables.exec = Jvm.exec) (hb : c.code = cL_law) (hX : va_X b L xs s H0) (hbl : b < H0.size) (hbA : ¬ A b) (hS : va_S A H0 H locs) (hl : lv_has ls 7 ((0, .ref b) :: (1, r1) :: (2, r2) :: (3, r3) :: (4, .int (nI (6 * k))) :: lv)) (hL : L ≤ 3072) (hk : 6 * k + 6 ≤ L) (d1 : decode cL_law pc = .ok (.aload_n 0, 1)) (d2 : decode cL_law (pc + 1) = .ok (.iload 4, 2)) (d3 : decode cL_law (pc + 3) = .ok (.iconst 3, 1)) (d4 : decode cL_law (pc + 4) = .ok (.iadd, 1)) (d5 : decode cL_law (pc + 5) = .ok (.iaload, 1))
    (kk : W p l e R s m args below meth c H locs cells slots Q (F0 m (pc + 6) ls (.int (xs (6 * k + 3)) :: rest))) : W p l e R s m args below meth c H locs cells slots Q (F0 m pc ls rest) := by
  refine lv_aload_n hexec hb d1 rfl (lv_at hl 0 rfl) ?_
  refine lv_iload hexec hb d2 (lv_at hl 4 rfl) ?_
  refine lv_iconst (v := 3) hexec hb d3 (by decide) ?_
  refine lv_iadd hexec hb d4 ?_
  have e1 : nI (6 * k) + (3 : Int32) = nI (6 * k + 3) := nI_add (6 * k) 3
  rw [e1]
  refine va_sld hexec hb hX hbl hbA hS (vp_in_nI (by omega) (by omega)) d5 ?_
  rw [g_nIc (show 6 * k + 3 < 2147483648 by omega)]
  exact kk
theorem w_arg4 {r1 r2 r3 : Value} (hexec : p.tables.exec = Jvm.exec) (hb : c.code = cL_law) (hX : va_X b L xs s H0) (hbl : b < H0.size) (hbA : ¬ A b) (hS : va_S A H0 H locs) (hl : lv_has ls 7 ((0, .ref b) :: (1, r1) :: (2, r2) :: (3, r3) :: (4, .int (nI (6 * k))) :: lv)) (hL : L ≤ 3072) (hk : 6 * k + 6 ≤ L) (d1 : decode cL_law pc = .ok (.aload_n 0, 1)) (d2 : decode cL_law (pc + 1) = .ok (.iload 4, 2)) (d3 : decode cL_law (pc + 3) = .ok (.iconst 4, 1)) (d4 : decode cL_law (pc + 4) = .ok (.iadd, 1)) (d5 : decode cL_law (pc + 5) = .ok (.iaload, 1))
    (kk : W p l e R s m args below meth c H locs cells slots Q (F0 m (pc + 6) ls (.int (xs (6 * k + 4)) :: rest))) : W p l e R s m args below meth c H locs cells slots Q (F0 m pc ls rest) := by
  refine lv_aload_n hexec hb d1 rfl (lv_at hl 0 rfl) ?_
  refine lv_iload hexec hb d2 (lv_at hl 4 rfl) ?_
  refine lv_iconst (v := 4) hexec hb d3 (by decide) ?_
  refine lv_iadd hexec hb d4 ?_
  have e1 : nI (6 * k) + (4 : Int32) = nI (6 * k + 4) := nI_add (6 * k) 4
  rw [e1]
  refine va_sld hexec hb hX hbl hbA hS (vp_in_nI (by omega) (by omega)) d5 ?_
  rw [g_nIc (show 6 * k + 4 < 2147483648 by omega)]
  exact kk
theorem w_arg5 {r1 r2 r3 : Value} (hexec : p.tables.exec = Jvm.exec) (hb : c.code = cL_law) (hX : va_X b L xs s H0) (hbl : b < H0.size) (hbA : ¬ A b) (hS : va_S A H0 H locs) (hl : lv_has ls 7 ((0, .ref b) :: (1, r1) :: (2, r2) :: (3, r3) :: (4, .int (nI (6 * k))) :: lv)) (hL : L ≤ 3072) (hk : 6 * k + 6 ≤ L) (d1 : decode cL_law pc = .ok (.aload_n 0, 1)) (d2 : decode cL_law (pc + 1) = .ok (.iload 4, 2)) (d3 : decode cL_law (pc + 3) = .ok (.iconst 5, 1)) (d4 : decode cL_law (pc + 4) = .ok (.iadd, 1)) (d5 : decode cL_law (pc + 5) = .ok (.iaload, 1))
    (kk : W p l e R s m args below meth c H locs cells slots Q (F0 m (pc + 6) ls (.int (xs (6 * k + 5)) :: rest))) : W p l e R s m args below meth c H locs cells slots Q (F0 m pc ls rest) := by
  refine lv_aload_n hexec hb d1 rfl (lv_at hl 0 rfl) ?_
  refine lv_iload hexec hb d2 (lv_at hl 4 rfl) ?_
  refine lv_iconst (v := 5) hexec hb d3 (by decide) ?_
  refine lv_iadd hexec hb d4 ?_
  have e1 : nI (6 * k) + (5 : Int32) = nI (6 * k + 5) := nI_add (6 * k) 5
  rw [e1]
  refine va_sld hexec hb hX hbl hbA hS (vp_in_nI (by omega) (by omega)) d5 ?_
  rw [g_nIc (show 6 * k + 5 < 2147483648 by omega)]
  exact kk
end WA
set_option maxHeartbeats 4000000 in
set_option maxRecDepth 100000 in
theorem lc_record {p : Program} {l : Launch} {e : Env} {s : State} {m : MethodId} {below : List Frame} {meth : Method} {c : Code} {b L : Nat} {xs : Nat → Int32} {D : va_G} {cy : Nat → ClassId} {sa : Nat} {Q : State → Prop} {bo : Nat} {LM : g_S → Nat} (C0 : w_C p l s m meth c b L xs D cy sa) (k : Nat) (hk : 6 * k + 6 ≤ L) (kk9 : ∀ (LX : g_S → Nat) (ns : Nat) (kk : Nat → Nat) (σ μ : r_M) (w0 : Int64) (H : Heap) (locs : List Loc) (ls : Array Slot), w_I s D cy bo LM LX ns kk σ μ w0 H → va_S (fun q => s.heap.size ≤ q) s.heap H locs → lv_has ls 7 [(0, .ref b), (1, .ref (LX (0, 0, 0))), (2, .ref (LM (0, 0, 0))), (3, .ref bo), (4, .int (nI (6 * k)))] → W p l e room_1 s m #[Value.ref b] below meth c H locs (120 + 20 * k) (20900 + 900 * k) Q (F0 m 850 ls [])) (LX : g_S → Nat) (ns : Nat) (kk : Nat → Nat) (σ μ : r_M) (w0 : Int64) (H : Heap) (locs : List Loc) (ls : Array Slot) (hI : w_I s D cy bo LM LX ns kk σ μ w0 H) (hS : va_S (fun q => s.heap.size ≤ q) s.heap H locs) (hl : lv_has ls 7 [(0, .ref b), (1, .ref (LX (0, 0, 0))), (2, .ref (LM (0, 0, 0))), (3, .ref bo), (4, .int (nI (6 * k)))]) : W p l e room_1 s m #[Value.ref b] below meth c H locs (100 + 20 * k) (20000 + 900 * k) Q (F0 m 116 ls []) := by
  obtain ⟨⟨hx, hb, hml, hown, hts⟩, ⟨hK, hN, hE⟩, ⟨hXs, hbl⟩, ⟨hl0, hL⟩⟩ := C0
  have hbA : ¬ (fun q : Nat => s.heap.size ≤ q) b := Nat.not_le.mpr hbl
  obtain ⟨⟨hX, hM, hO⟩, ⟨d1, d2, d3⟩, ⟨lX, lM, lO⟩, hR⟩ := id hI
  have hR0 : rel ns kk σ (g_up μ (0, 0, 0) 0 0) := rel_thrown hR
  have hRM : room_1.cells = 603072 ∧ room_1.slots = 7194730 := ⟨rfl, rfl⟩
  refine lv_aload_n hx hb dL_law_116 rfl (lv_at hl 1 rfl) ?_
  refine w_arg1 hx hb hXs hbl hbA hS hl hL hk dL_law_117 dL_law_118 dL_law_120 dL_law_121 dL_law_122 ?_
  refine g_cont0 (va_runV (As := [.int (xs (6 * k + 1))]) (rest := []) ⟨hx, hb, hml, hown, hts⟩ (c_X6_record l D cy LX ns kk σ (xs (6 * k + 1)) (rel_I hR)) (cwV 1 hts gV_L_19 rfl rfl rfl (by decide +kernel) ⟨Nat.le_of_ble_eq_true rfl, Nat.le_of_ble_eq_true rfl⟩) (g_preV hK hN.1 hX (x := (0, 0, 0)) ⟨rfl, rfl⟩ (q := (RX6, TX6, 4)) (x_at_0 cy LX ns kk 0 0 (σ (0, 0, 0))) rfl) rfl rfl hl.1 rfl (lv_room (Nat.le_of_ble_eq_true rfl)) dL_law_123 ⟨by rw [hRM.1]; omega, by rw [hRM.2]; omega⟩) hS (fun q ⟨x, h1, h2⟩ => by rw [← h2]; exact lX x h1) (fun H1 locs1 hX1 hS hz1 hk1 => ?_)
  obtain ⟨hM1, hO1⟩ := hI.x hX1 hk1
  refine W.eq (g2 := F0 m 126 ls [.int (x_addR σ (xs (6 * k + 1)))]) rfl ?_
  refine lv_aload_n hx hb dL_law_126 rfl (lv_at hl 2 rfl) ?_
  refine w_arg1 hx hb hXs hbl hbA hS hl hL hk dL_law_127 dL_law_128 dL_law_130 dL_law_131 dL_law_132 ?_
  refine g_cont0 (va_runV (As := [.int (xs (6 * k + 1))]) (rest := [.int (x_addR σ (xs (6 * k + 1)))]) ⟨hx, hb, hml, hown, hts⟩ (c_X7_record l D cy LM μ (g_up μ (0, 0, 0) 0 0) rfl (xs (6 * k + 1)) hR0.1.2.1.1 hR0.1.2.1.2) (cwV 1 hts gV_L_23 rfl rfl rfl (by decide +kernel) ⟨Nat.le_of_ble_eq_true rfl, Nat.le_of_ble_eq_true rfl⟩) (g_preV hK hN.1 hM1 (x := (0, 0, 0)) ⟨rfl, rfl⟩ (q := (RX7, TX7, 28)) (m_at_0 cy LM 0 0 (μ (0, 0, 0))) rfl) rfl rfl hl.1 rfl (lv_room (Nat.le_of_ble_eq_true rfl)) dL_law_133 ⟨by rw [hRM.1]; omega, by rw [hRM.2]; omega⟩) hS (fun q ⟨x, h1, h2⟩ => by rw [← h2]; exact lM x h1) (fun H2 locs2 hM2 hS hz2 hk2 => ?_)
  refine W.eq (g2 := F0 m 136 ls [.int (m_addR (g_up μ (0, 0, 0) 0 0) (xs (6 * k + 1))), .int (x_addR σ (xs (6 * k + 1)))]) rfl ?_
  obtain ⟨heq, hrel⟩ := r_record hR0 (xs (6 * k + 1))
  refine kz_icmp_eq (X := ((x_addR σ (xs (6 * k + 1)))).toInt) (Y := ((m_addR (g_up μ (0, 0, 0) 0 0) (xs (6 * k + 1)))).toInt) hx hb rfl rfl dL_law_136 (tgt := 850) (by decide) (fun c9 => ?_) (fun c9 => absurd (congrArg Int32.toInt heq) c9)
  refine W.widen (k := 120 + 20 * k) (n := 20900 + 900 * k) (by omega) (by omega) ?_
  exact kk9 LX ns kk _ _ w0 H2 locs2 ls (hI.m hX1 hO1 hM2 hk2 hrel) hS hl
set_option maxHeartbeats 4000000 in
set_option maxRecDepth 100000 in
theorem lc_term {p : Program} {l : Launch} {e : Env} {s : State} {m : MethodId} {below : List Frame} {meth : Method} {c : Code} {b L : Nat} {xs : Nat → Int32} {D : va_G} {cy : Nat → ClassId} {sa : Nat} {Q : State → Prop} {bo : Nat} {LM : g_S → Nat} (C0 : w_C p l s m meth c b L xs D cy sa) (k : Nat) (hk : 6 * k + 6 ≤ L) (kk9 : ∀ (LX : g_S → Nat) (ns : Nat) (kk : Nat → Nat) (σ μ : r_M) (w0 : Int64) (H : Heap) (locs : List Loc) (ls : Array Slot), w_I s D cy bo LM LX ns kk σ μ w0 H → va_S (fun q => s.heap.size ≤ q) s.heap H locs → lv_has ls 7 [(0, .ref b), (1, .ref (LX (0, 0, 0))), (2, .ref (LM (0, 0, 0))), (3, .ref bo), (4, .int (nI (6 * k)))] → W p l e room_1 s m #[Value.ref b] below meth c H locs (120 + 20 * k) (20900 + 900 * k) Q (F0 m 850 ls [])) (LX : g_S → Nat) (ns : Nat) (kk : Nat → Nat) (σ μ : r_M) (w0 : Int64) (H : Heap) (locs : List Loc) (ls : Array Slot) (hI : w_I s D cy bo LM LX ns kk σ μ w0 H) (hS : va_S (fun q => s.heap.size ≤ q) s.heap H locs) (hl : lv_has ls 7 [(0, .ref b), (1, .ref (LX (0, 0, 0))), (2, .ref (LM (0, 0, 0))), (3, .ref bo), (4, .int (nI (6 * k)))]) : W p l e room_1 s m #[Value.ref b] below meth c H locs (100 + 20 * k) (20000 + 900 * k) Q (F0 m 141 ls []) := by
  obtain ⟨⟨hx, hb, hml, hown, hts⟩, ⟨hK, hN, hE⟩, ⟨hXs, hbl⟩, ⟨hl0, hL⟩⟩ := C0
  have hbA : ¬ (fun q : Nat => s.heap.size ≤ q) b := Nat.not_le.mpr hbl
  obtain ⟨⟨hX, hM, hO⟩, ⟨d1, d2, d3⟩, ⟨lX, lM, lO⟩, hR⟩ := id hI
  have hR0 : rel ns kk σ (g_up μ (0, 0, 0) 0 0) := rel_thrown hR
  have hRM : room_1.cells = 603072 ∧ room_1.slots = 7194730 := ⟨rfl, rfl⟩
  refine lv_aload_n hx hb dL_law_141 rfl (lv_at hl 1 rfl) ?_
  refine w_arg1 hx hb hXs hbl hbA hS hl hL hk dL_law_142 dL_law_143 dL_law_145 dL_law_146 dL_law_147 ?_
  refine w_arg2 hx hb hXs hbl hbA hS hl hL hk dL_law_148 dL_law_149 dL_law_151 dL_law_152 dL_law_153 ?_
  refine w_arg3 hx hb hXs hbl hbA hS hl hL hk dL_law_154 dL_law_155 dL_law_157 dL_law_158 dL_law_159 ?_
  refine g_cont0 (va_runV (As := [.int (xs (6 * k + 1)), .int (xs (6 * k + 2)), .int (xs (6 * k + 3))]) (rest := []) ⟨hx, hb, hml, hown, hts⟩ (c_X6_term l D cy LX ns kk σ (xs (6 * k + 1)) (xs (6 * k + 2)) (xs (6 * k + 3)) (rel_I hR)) (cwV 3 hts gV_L_24 rfl rfl rfl (by decide +kernel) ⟨Nat.le_of_ble_eq_true rfl, Nat.le_of_ble_eq_true rfl⟩) (g_preV hK hN.1 hX (x := (0, 0, 0)) ⟨rfl, rfl⟩ (q := (RX6, TX6, 4)) (x_at_0 cy LX ns kk 0 0 (σ (0, 0, 0))) rfl) rfl rfl hl.1 rfl (lv_room (Nat.le_of_ble_eq_true rfl)) dL_law_160 ⟨by rw [hRM.1]; omega, by rw [hRM.2]; omega⟩) hS (fun q ⟨x, h1, h2⟩ => by rw [← h2]; exact lX x h1) (fun H1 locs1 hX1 hS hz1 hk1 => ?_)
  obtain ⟨hM1, hO1⟩ := hI.x hX1 hk1
  refine W.eq (g2 := F0 m 163 ls [.int (x_putR σ (xs (6 * k + 1)) (xs (6 * k + 2)) (xs (6 * k + 3)))]) rfl ?_
  refine lv_aload_n hx hb dL_law_163 rfl (lv_at hl 2 rfl) ?_
  refine w_arg1 hx hb hXs hbl hbA hS hl hL hk dL_law_164 dL_law_165 dL_law_167 dL_law_168 dL_law_169 ?_
  refine w_arg2 hx hb hXs hbl hbA hS hl hL hk dL_law_170 dL_law_171 dL_law_173 dL_law_174 dL_law_175 ?_
  refine w_arg3 hx hb hXs hbl hbA hS hl hL hk dL_law_176 dL_law_177 dL_law_179 dL_law_180 dL_law_181 ?_
  refine g_cont0 (va_runV (As := [.int (xs (6 * k + 1)), .int (xs (6 * k + 2)), .int (xs (6 * k + 3))]) (rest := [.int (x_putR σ (xs (6 * k + 1)) (xs (6 * k + 2)) (xs (6 * k + 3)))]) ⟨hx, hb, hml, hown, hts⟩ (c_X7_term l D cy LM μ (g_up μ (0, 0, 0) 0 0) rfl (xs (6 * k + 1)) (xs (6 * k + 2)) (xs (6 * k + 3)) hR0.1.2.1.1 hR0.1.2.1.2) (cwV 3 hts gV_L_27 rfl rfl rfl (by decide +kernel) ⟨Nat.le_of_ble_eq_true rfl, Nat.le_of_ble_eq_true rfl⟩) (g_preV hK hN.1 hM1 (x := (0, 0, 0)) ⟨rfl, rfl⟩ (q := (RX7, TX7, 28)) (m_at_0 cy LM 0 0 (μ (0, 0, 0))) rfl) rfl rfl hl.1 rfl (lv_room (Nat.le_of_ble_eq_true rfl)) dL_law_182 ⟨by rw [hRM.1]; omega, by rw [hRM.2]; omega⟩) hS (fun q ⟨x, h1, h2⟩ => by rw [← h2]; exact lM x h1) (fun H2 locs2 hM2 hS hz2 hk2 => ?_)
  refine W.eq (g2 := F0 m 185 ls [.int (m_putR (g_up μ (0, 0, 0) 0 0) (xs (6 * k + 1)) (xs (6 * k + 2)) (xs (6 * k + 3))), .int (x_putR σ (xs (6 * k + 1)) (xs (6 * k + 2)) (xs (6 * k + 3)))]) rfl ?_
  obtain ⟨heq, hrel⟩ := r_term hR0 (xs (6 * k + 1)) (xs (6 * k + 2)) (xs (6 * k + 3))
  refine kz_icmp_eq (X := ((x_putR σ (xs (6 * k + 1)) (xs (6 * k + 2)) (xs (6 * k + 3)))).toInt) (Y := ((m_putR (g_up μ (0, 0, 0) 0 0) (xs (6 * k + 1)) (xs (6 * k + 2)) (xs (6 * k + 3)))).toInt) hx hb rfl rfl dL_law_185 (tgt := 850) (by decide) (fun c9 => ?_) (fun c9 => absurd (congrArg Int32.toInt heq) c9)
  refine W.widen (k := 120 + 20 * k) (n := 20900 + 900 * k) (by omega) (by omega) ?_
  exact kk9 LX ns kk _ _ w0 H2 locs2 ls (hI.m hX1 hO1 hM2 hk2 hrel) hS hl
set_option maxHeartbeats 4000000 in
set_option maxRecDepth 100000 in
theorem lc_question {p : Program} {l : Launch} {e : Env} {s : State} {m : MethodId} {below : List Frame} {meth : Method} {c : Code} {b L : Nat} {xs : Nat → Int32} {D : va_G} {cy : Nat → ClassId} {sa : Nat} {Q : State → Prop} {bo : Nat} {LM : g_S → Nat} (C0 : w_C p l s m meth c b L xs D cy sa) (k : Nat) (hk : 6 * k + 6 ≤ L) (kk9 : ∀ (LX : g_S → Nat) (ns : Nat) (kk : Nat → Nat) (σ μ : r_M) (w0 : Int64) (H : Heap) (locs : List Loc) (ls : Array Slot), w_I s D cy bo LM LX ns kk σ μ w0 H → va_S (fun q => s.heap.size ≤ q) s.heap H locs → lv_has ls 7 [(0, .ref b), (1, .ref (LX (0, 0, 0))), (2, .ref (LM (0, 0, 0))), (3, .ref bo), (4, .int (nI (6 * k)))] → W p l e room_1 s m #[Value.ref b] below meth c H locs (120 + 20 * k) (20900 + 900 * k) Q (F0 m 850 ls [])) (LX : g_S → Nat) (ns : Nat) (kk : Nat → Nat) (σ μ : r_M) (w0 : Int64) (H : Heap) (locs : List Loc) (ls : Array Slot) (hI : w_I s D cy bo LM LX ns kk σ μ w0 H) (hS : va_S (fun q => s.heap.size ≤ q) s.heap H locs) (hl : lv_has ls 7 [(0, .ref b), (1, .ref (LX (0, 0, 0))), (2, .ref (LM (0, 0, 0))), (3, .ref bo), (4, .int (nI (6 * k)))]) : W p l e room_1 s m #[Value.ref b] below meth c H locs (100 + 20 * k) (20000 + 900 * k) Q (F0 m 190 ls []) := by
  obtain ⟨⟨hx, hb, hml, hown, hts⟩, ⟨hK, hN, hE⟩, ⟨hXs, hbl⟩, ⟨hl0, hL⟩⟩ := C0
  have hbA : ¬ (fun q : Nat => s.heap.size ≤ q) b := Nat.not_le.mpr hbl
  obtain ⟨⟨hX, hM, hO⟩, ⟨d1, d2, d3⟩, ⟨lX, lM, lO⟩, hR⟩ := id hI
  have hR0 : rel ns kk σ (g_up μ (0, 0, 0) 0 0) := rel_thrown hR
  have hRM : room_1.cells = 603072 ∧ room_1.slots = 7194730 := ⟨rfl, rfl⟩
  refine lv_aload_n hx hb dL_law_190 rfl (lv_at hl 1 rfl) ?_
  refine w_arg1 hx hb hXs hbl hbA hS hl hL hk dL_law_191 dL_law_192 dL_law_194 dL_law_195 dL_law_196 ?_
  refine w_arg2 hx hb hXs hbl hbA hS hl hL hk dL_law_197 dL_law_198 dL_law_200 dL_law_201 dL_law_202 ?_
  refine w_arg3 hx hb hXs hbl hbA hS hl hL hk dL_law_203 dL_law_204 dL_law_206 dL_law_207 dL_law_208 ?_
  refine w_arg4 hx hb hXs hbl hbA hS hl hL hk dL_law_209 dL_law_210 dL_law_212 dL_law_213 dL_law_214 ?_
  refine g_cont0 (va_runV (As := [.int (xs (6 * k + 1)), .int (xs (6 * k + 2)), .int (xs (6 * k + 3)), .int (xs (6 * k + 4))]) (rest := []) ⟨hx, hb, hml, hown, hts⟩ (c_X6_question l D cy LX ns kk σ (xs (6 * k + 1)) (xs (6 * k + 2)) (xs (6 * k + 3)) (xs (6 * k + 4)) (rel_I hR)) (cwV 4 hts gV_L_28 rfl rfl rfl (by decide +kernel) ⟨Nat.le_of_ble_eq_true rfl, Nat.le_of_ble_eq_true rfl⟩) (g_preV hK hN.1 hX (x := (0, 0, 0)) ⟨rfl, rfl⟩ (q := (RX6, TX6, 4)) (x_at_0 cy LX ns kk 0 0 (σ (0, 0, 0))) rfl) rfl rfl hl.1 rfl (lv_room (Nat.le_of_ble_eq_true rfl)) dL_law_215 ⟨by rw [hRM.1]; omega, by rw [hRM.2]; omega⟩) hS (fun q ⟨x, h1, h2⟩ => by rw [← h2]; exact lX x h1) (fun H1 locs1 hX1 hS hz1 hk1 => ?_)
  obtain ⟨hM1, hO1⟩ := hI.x hX1 hk1
  refine W.eq (g2 := F0 m 218 ls [.int (x_qsR σ (xs (6 * k + 1)) (xs (6 * k + 2)) (xs (6 * k + 3)) (xs (6 * k + 4)))]) rfl ?_
  refine lv_aload_n hx hb dL_law_218 rfl (lv_at hl 2 rfl) ?_
  refine w_arg1 hx hb hXs hbl hbA hS hl hL hk dL_law_219 dL_law_220 dL_law_222 dL_law_223 dL_law_224 ?_
  refine w_arg2 hx hb hXs hbl hbA hS hl hL hk dL_law_225 dL_law_226 dL_law_228 dL_law_229 dL_law_230 ?_
  refine w_arg3 hx hb hXs hbl hbA hS hl hL hk dL_law_231 dL_law_232 dL_law_234 dL_law_235 dL_law_236 ?_
  refine w_arg4 hx hb hXs hbl hbA hS hl hL hk dL_law_237 dL_law_238 dL_law_240 dL_law_241 dL_law_242 ?_
  refine g_cont0 (va_runV (As := [.int (xs (6 * k + 1)), .int (xs (6 * k + 2)), .int (xs (6 * k + 3)), .int (xs (6 * k + 4))]) (rest := [.int (x_qsR σ (xs (6 * k + 1)) (xs (6 * k + 2)) (xs (6 * k + 3)) (xs (6 * k + 4)))]) ⟨hx, hb, hml, hown, hts⟩ (c_X7_question l D cy LM μ (g_up μ (0, 0, 0) 0 0) rfl (xs (6 * k + 1)) (xs (6 * k + 2)) (xs (6 * k + 3)) (xs (6 * k + 4)) hR0.2.1.2.1.1 hR0.2.1.2.1.2) (cwV 4 hts gV_L_32 rfl rfl rfl (by decide +kernel) ⟨Nat.le_of_ble_eq_true rfl, Nat.le_of_ble_eq_true rfl⟩) (g_preV hK hN.1 hM1 (x := (0, 0, 0)) ⟨rfl, rfl⟩ (q := (RX7, TX7, 28)) (m_at_0 cy LM 0 0 (μ (0, 0, 0))) rfl) rfl rfl hl.1 rfl (lv_room (Nat.le_of_ble_eq_true rfl)) dL_law_243 ⟨by rw [hRM.1]; omega, by rw [hRM.2]; omega⟩) hS (fun q ⟨x, h1, h2⟩ => by rw [← h2]; exact lM x h1) (fun H2 locs2 hM2 hS hz2 hk2 => ?_)
  refine W.eq (g2 := F0 m 246 ls [.int (m_qsR (g_up μ (0, 0, 0) 0 0) (xs (6 * k + 1)) (xs (6 * k + 2)) (xs (6 * k + 3)) (xs (6 * k + 4))), .int (x_qsR σ (xs (6 * k + 1)) (xs (6 * k + 2)) (xs (6 * k + 3)) (xs (6 * k + 4)))]) rfl ?_
  obtain ⟨heq, hrel⟩ := r_question hR0 (xs (6 * k + 1)) (xs (6 * k + 2)) (xs (6 * k + 3)) (xs (6 * k + 4))
  refine kz_icmp_eq (X := ((x_qsR σ (xs (6 * k + 1)) (xs (6 * k + 2)) (xs (6 * k + 3)) (xs (6 * k + 4)))).toInt) (Y := ((m_qsR (g_up μ (0, 0, 0) 0 0) (xs (6 * k + 1)) (xs (6 * k + 2)) (xs (6 * k + 3)) (xs (6 * k + 4)))).toInt) hx hb rfl rfl dL_law_246 (tgt := 850) (by decide) (fun c9 => ?_) (fun c9 => absurd (congrArg Int32.toInt heq) c9)
  refine W.widen (k := 120 + 20 * k) (n := 20900 + 900 * k) (by omega) (by omega) ?_
  exact kk9 LX ns kk _ _ w0 H2 locs2 ls (hI.m hX1 hO1 hM2 hk2 hrel) hS hl
set_option maxHeartbeats 4000000 in
set_option maxRecDepth 100000 in
theorem lc_search {p : Program} {l : Launch} {e : Env} {s : State} {m : MethodId} {below : List Frame} {meth : Method} {c : Code} {b L : Nat} {xs : Nat → Int32} {D : va_G} {cy : Nat → ClassId} {sa : Nat} {Q : State → Prop} {bo : Nat} {LM : g_S → Nat} (C0 : w_C p l s m meth c b L xs D cy sa) (k : Nat) (hk : 6 * k + 6 ≤ L) (kk9 : ∀ (LX : g_S → Nat) (ns : Nat) (kk : Nat → Nat) (σ μ : r_M) (w0 : Int64) (H : Heap) (locs : List Loc) (ls : Array Slot), w_I s D cy bo LM LX ns kk σ μ w0 H → va_S (fun q => s.heap.size ≤ q) s.heap H locs → lv_has ls 7 [(0, .ref b), (1, .ref (LX (0, 0, 0))), (2, .ref (LM (0, 0, 0))), (3, .ref bo), (4, .int (nI (6 * k)))] → W p l e room_1 s m #[Value.ref b] below meth c H locs (120 + 20 * k) (20900 + 900 * k) Q (F0 m 850 ls [])) (LX : g_S → Nat) (ns : Nat) (kk : Nat → Nat) (σ μ : r_M) (w0 : Int64) (H : Heap) (locs : List Loc) (ls : Array Slot) (hI : w_I s D cy bo LM LX ns kk σ μ w0 H) (hS : va_S (fun q => s.heap.size ≤ q) s.heap H locs) (hl : lv_has ls 7 [(0, .ref b), (1, .ref (LX (0, 0, 0))), (2, .ref (LM (0, 0, 0))), (3, .ref bo), (4, .int (nI (6 * k)))]) : W p l e room_1 s m #[Value.ref b] below meth c H locs (100 + 20 * k) (20000 + 900 * k) Q (F0 m 288 ls []) := by
  obtain ⟨⟨hx, hb, hml, hown, hts⟩, ⟨hK, hN, hE⟩, ⟨hXs, hbl⟩, ⟨hl0, hL⟩⟩ := C0
  have hbA : ¬ (fun q : Nat => s.heap.size ≤ q) b := Nat.not_le.mpr hbl
  obtain ⟨⟨hX, hM, hO⟩, ⟨d1, d2, d3⟩, ⟨lX, lM, lO⟩, hR⟩ := id hI
  have hR0 : rel ns kk σ (g_up μ (0, 0, 0) 0 0) := rel_thrown hR
  have hRM : room_1.cells = 603072 ∧ room_1.slots = 7194730 := ⟨rfl, rfl⟩
  refine lv_aload_n hx hb dL_law_288 rfl (lv_at hl 1 rfl) ?_
  refine w_arg1 hx hb hXs hbl hbA hS hl hL hk dL_law_289 dL_law_290 dL_law_292 dL_law_293 dL_law_294 ?_
  refine w_arg2 hx hb hXs hbl hbA hS hl hL hk dL_law_295 dL_law_296 dL_law_298 dL_law_299 dL_law_300 ?_
  refine w_arg3 hx hb hXs hbl hbA hS hl hL hk dL_law_301 dL_law_302 dL_law_304 dL_law_305 dL_law_306 ?_
  refine g_cont0 (va_runV (As := [.int (xs (6 * k + 1)), .int (xs (6 * k + 2)), .int (xs (6 * k + 3))]) (rest := []) ⟨hx, hb, hml, hown, hts⟩ (c_X6_search l D cy LX ns kk σ (xs (6 * k + 1)) (xs (6 * k + 2)) (xs (6 * k + 3)) (rel_I hR)) (cwV 3 hts gV_L_38 rfl rfl rfl (by decide +kernel) ⟨Nat.le_of_ble_eq_true rfl, Nat.le_of_ble_eq_true rfl⟩) (g_preV hK hN.1 hX (x := (0, 0, 0)) ⟨rfl, rfl⟩ (q := (RX6, TX6, 4)) (x_at_0 cy LX ns kk 0 0 (σ (0, 0, 0))) rfl) rfl rfl hl.1 rfl (lv_room (Nat.le_of_ble_eq_true rfl)) dL_law_307 ⟨by rw [hRM.1]; omega, by rw [hRM.2]; omega⟩) hS (fun q ⟨x, h1, h2⟩ => by rw [← h2]; exact lX x h1) (fun H1 locs1 hX1 hS hz1 hk1 => ?_)
  obtain ⟨hM1, hO1⟩ := hI.x hX1 hk1
  refine W.eq (g2 := F0 m 310 ls [.int (x_searchR σ ns kk (xs (6 * k + 1)) (xs (6 * k + 2)) (xs (6 * k + 3)))]) rfl ?_
  refine lv_aload_n hx hb dL_law_310 rfl (lv_at hl 2 rfl) ?_
  refine w_arg1 hx hb hXs hbl hbA hS hl hL hk dL_law_311 dL_law_312 dL_law_314 dL_law_315 dL_law_316 ?_
  refine w_arg2 hx hb hXs hbl hbA hS hl hL hk dL_law_317 dL_law_318 dL_law_320 dL_law_321 dL_law_322 ?_
  refine w_arg3 hx hb hXs hbl hbA hS hl hL hk dL_law_323 dL_law_324 dL_law_326 dL_law_327 dL_law_328 ?_
  refine g_cont0 (va_runV (As := [.int (xs (6 * k + 1)), .int (xs (6 * k + 2)), .int (xs (6 * k + 3))]) (rest := [.int (x_searchR σ ns kk (xs (6 * k + 1)) (xs (6 * k + 2)) (xs (6 * k + 3)))]) ⟨hx, hb, hml, hown, hts⟩ (c_X7_search l D cy LM μ (g_up μ (0, 0, 0) 0 0) rfl (xs (6 * k + 1)) (xs (6 * k + 2)) (xs (6 * k + 3)) hR0.1.2.1.1 hR0.1.2.1.2 hR0.2.1.2.1.1 hR0.2.1.2.1.2 (rel_ns hR0).1 (rel_ns hR0).2 (rel_kOK hR0)) (cwV 3 hts gV_L_41 rfl rfl rfl (by decide +kernel) ⟨Nat.le_of_ble_eq_true rfl, Nat.le_of_ble_eq_true rfl⟩) (g_preV hK hN.1 hM1 (x := (0, 0, 0)) ⟨rfl, rfl⟩ (q := (RX7, TX7, 28)) (m_at_0 cy LM 0 0 (μ (0, 0, 0))) rfl) rfl rfl hl.1 rfl (lv_room (Nat.le_of_ble_eq_true rfl)) dL_law_329 ⟨by rw [hRM.1]; omega, by rw [hRM.2]; omega⟩) hS (fun q ⟨x, h1, h2⟩ => by rw [← h2]; exact lM x h1) (fun H2 locs2 hM2 hS hz2 hk2 => ?_)
  refine W.eq (g2 := F0 m 332 ls [.int (m_searchR (g_up μ (0, 0, 0) 0 0) (xs (6 * k + 1)) (xs (6 * k + 2)) (xs (6 * k + 3))), .int (x_searchR σ ns kk (xs (6 * k + 1)) (xs (6 * k + 2)) (xs (6 * k + 3)))]) rfl ?_
  obtain ⟨heq, hrel⟩ := r_search hR0 (xs (6 * k + 1)) (xs (6 * k + 2)) (xs (6 * k + 3))
  refine kz_icmp_eq (X := ((x_searchR σ ns kk (xs (6 * k + 1)) (xs (6 * k + 2)) (xs (6 * k + 3)))).toInt) (Y := ((m_searchR (g_up μ (0, 0, 0) 0 0) (xs (6 * k + 1)) (xs (6 * k + 2)) (xs (6 * k + 3)))).toInt) hx hb rfl rfl dL_law_332 (tgt := 850) (by decide) (fun c9 => ?_) (fun c9 => absurd (congrArg Int32.toInt heq) c9)
  refine W.widen (k := 120 + 20 * k) (n := 20900 + 900 * k) (by omega) (by omega) ?_
  exact kk9 LX ns kk _ _ w0 H2 locs2 ls (hI.m hX1 hO1 hM2 hk2 hrel) hS hl
set_option maxHeartbeats 4000000 in
set_option maxRecDepth 100000 in
theorem lc_size {p : Program} {l : Launch} {e : Env} {s : State} {m : MethodId} {below : List Frame} {meth : Method} {c : Code} {b L : Nat} {xs : Nat → Int32} {D : va_G} {cy : Nat → ClassId} {sa : Nat} {Q : State → Prop} {bo : Nat} {LM : g_S → Nat} (C0 : w_C p l s m meth c b L xs D cy sa) (k : Nat) (hk : 6 * k + 6 ≤ L) (kk9 : ∀ (LX : g_S → Nat) (ns : Nat) (kk : Nat → Nat) (σ μ : r_M) (w0 : Int64) (H : Heap) (locs : List Loc) (ls : Array Slot), w_I s D cy bo LM LX ns kk σ μ w0 H → va_S (fun q => s.heap.size ≤ q) s.heap H locs → lv_has ls 7 [(0, .ref b), (1, .ref (LX (0, 0, 0))), (2, .ref (LM (0, 0, 0))), (3, .ref bo), (4, .int (nI (6 * k)))] → W p l e room_1 s m #[Value.ref b] below meth c H locs (120 + 20 * k) (20900 + 900 * k) Q (F0 m 850 ls [])) (LX : g_S → Nat) (ns : Nat) (kk : Nat → Nat) (σ μ : r_M) (w0 : Int64) (H : Heap) (locs : List Loc) (ls : Array Slot) (hI : w_I s D cy bo LM LX ns kk σ μ w0 H) (hS : va_S (fun q => s.heap.size ≤ q) s.heap H locs) (hl : lv_has ls 7 [(0, .ref b), (1, .ref (LX (0, 0, 0))), (2, .ref (LM (0, 0, 0))), (3, .ref bo), (4, .int (nI (6 * k)))]) : W p l e room_1 s m #[Value.ref b] below meth c H locs (100 + 20 * k) (20000 + 900 * k) Q (F0 m 337 ls []) := by
  obtain ⟨⟨hx, hb, hml, hown, hts⟩, ⟨hK, hN, hE⟩, ⟨hXs, hbl⟩, ⟨hl0, hL⟩⟩ := C0
  have hbA : ¬ (fun q : Nat => s.heap.size ≤ q) b := Nat.not_le.mpr hbl
  obtain ⟨⟨hX, hM, hO⟩, ⟨d1, d2, d3⟩, ⟨lX, lM, lO⟩, hR⟩ := id hI
  have hR0 : rel ns kk σ (g_up μ (0, 0, 0) 0 0) := rel_thrown hR
  have hRM : room_1.cells = 603072 ∧ room_1.slots = 7194730 := ⟨rfl, rfl⟩
  refine lv_aload_n hx hb dL_law_337 rfl (lv_at hl 1 rfl) ?_
  refine w_arg1 hx hb hXs hbl hbA hS hl hL hk dL_law_338 dL_law_339 dL_law_341 dL_law_342 dL_law_343 ?_
  refine w_arg2 hx hb hXs hbl hbA hS hl hL hk dL_law_344 dL_law_345 dL_law_347 dL_law_348 dL_law_349 ?_
  refine g_cont0 (va_runV (As := [.int (xs (6 * k + 1)), .int (xs (6 * k + 2))]) (rest := []) ⟨hx, hb, hml, hown, hts⟩ (c_X6_size l D cy LX ns kk σ (xs (6 * k + 1)) (xs (6 * k + 2)) (rel_I hR)) (cwV 2 hts gV_L_42 rfl rfl rfl (by decide +kernel) ⟨Nat.le_of_ble_eq_true rfl, Nat.le_of_ble_eq_true rfl⟩) (g_preV hK hN.1 hX (x := (0, 0, 0)) ⟨rfl, rfl⟩ (q := (RX6, TX6, 4)) (x_at_0 cy LX ns kk 0 0 (σ (0, 0, 0))) rfl) rfl rfl hl.1 rfl (lv_room (Nat.le_of_ble_eq_true rfl)) dL_law_350 ⟨by rw [hRM.1]; omega, by rw [hRM.2]; omega⟩) hS (fun q ⟨x, h1, h2⟩ => by rw [← h2]; exact lX x h1) (fun H1 locs1 hX1 hS hz1 hk1 => ?_)
  obtain ⟨hM1, hO1⟩ := hI.x hX1 hk1
  refine W.eq (g2 := F0 m 353 ls [.int (x_sizeR σ ns kk (xs (6 * k + 1)) (xs (6 * k + 2)))]) rfl ?_
  refine lv_aload_n hx hb dL_law_353 rfl (lv_at hl 2 rfl) ?_
  refine w_arg1 hx hb hXs hbl hbA hS hl hL hk dL_law_354 dL_law_355 dL_law_357 dL_law_358 dL_law_359 ?_
  refine w_arg2 hx hb hXs hbl hbA hS hl hL hk dL_law_360 dL_law_361 dL_law_363 dL_law_364 dL_law_365 ?_
  refine g_cont0 (va_runV (As := [.int (xs (6 * k + 1)), .int (xs (6 * k + 2))]) (rest := [.int (x_sizeR σ ns kk (xs (6 * k + 1)) (xs (6 * k + 2)))]) ⟨hx, hb, hml, hown, hts⟩ (c_X7_size l D cy LM μ (g_up μ (0, 0, 0) 0 0) rfl (xs (6 * k + 1)) (xs (6 * k + 2)) (rel_ns hR0).1 (rel_ns hR0).2) (cwV 2 hts gV_L_45 rfl rfl rfl (by decide +kernel) ⟨Nat.le_of_ble_eq_true rfl, Nat.le_of_ble_eq_true rfl⟩) (g_preV hK hN.1 hM1 (x := (0, 0, 0)) ⟨rfl, rfl⟩ (q := (RX7, TX7, 28)) (m_at_0 cy LM 0 0 (μ (0, 0, 0))) rfl) rfl rfl hl.1 rfl (lv_room (Nat.le_of_ble_eq_true rfl)) dL_law_366 ⟨by rw [hRM.1]; omega, by rw [hRM.2]; omega⟩) hS (fun q ⟨x, h1, h2⟩ => by rw [← h2]; exact lM x h1) (fun H2 locs2 hM2 hS hz2 hk2 => ?_)
  refine W.eq (g2 := F0 m 369 ls [.int (m_sizeR (g_up μ (0, 0, 0) 0 0) (xs (6 * k + 1)) (xs (6 * k + 2))), .int (x_sizeR σ ns kk (xs (6 * k + 1)) (xs (6 * k + 2)))]) rfl ?_
  obtain ⟨heq, hrel⟩ := r_size hR0 (xs (6 * k + 1)) (xs (6 * k + 2))
  refine kz_icmp_eq (X := ((x_sizeR σ ns kk (xs (6 * k + 1)) (xs (6 * k + 2)))).toInt) (Y := ((m_sizeR (g_up μ (0, 0, 0) 0 0) (xs (6 * k + 1)) (xs (6 * k + 2)))).toInt) hx hb rfl rfl dL_law_369 (tgt := 850) (by decide) (fun c9 => ?_) (fun c9 => absurd (congrArg Int32.toInt heq) c9)
  refine W.widen (k := 120 + 20 * k) (n := 20900 + 900 * k) (by omega) (by omega) ?_
  exact kk9 LX ns kk _ _ w0 H2 locs2 ls (hI.m hX1 hO1 hM2 hk2 hrel) hS hl
set_option maxHeartbeats 4000000 in
set_option maxRecDepth 100000 in
theorem lc_present {p : Program} {l : Launch} {e : Env} {s : State} {m : MethodId} {below : List Frame} {meth : Method} {c : Code} {b L : Nat} {xs : Nat → Int32} {D : va_G} {cy : Nat → ClassId} {sa : Nat} {Q : State → Prop} {bo : Nat} {LM : g_S → Nat} (C0 : w_C p l s m meth c b L xs D cy sa) (k : Nat) (hk : 6 * k + 6 ≤ L) (kk9 : ∀ (LX : g_S → Nat) (ns : Nat) (kk : Nat → Nat) (σ μ : r_M) (w0 : Int64) (H : Heap) (locs : List Loc) (ls : Array Slot), w_I s D cy bo LM LX ns kk σ μ w0 H → va_S (fun q => s.heap.size ≤ q) s.heap H locs → lv_has ls 7 [(0, .ref b), (1, .ref (LX (0, 0, 0))), (2, .ref (LM (0, 0, 0))), (3, .ref bo), (4, .int (nI (6 * k)))] → W p l e room_1 s m #[Value.ref b] below meth c H locs (120 + 20 * k) (20900 + 900 * k) Q (F0 m 850 ls [])) (LX : g_S → Nat) (ns : Nat) (kk : Nat → Nat) (σ μ : r_M) (w0 : Int64) (H : Heap) (locs : List Loc) (ls : Array Slot) (hI : w_I s D cy bo LM LX ns kk σ μ w0 H) (hS : va_S (fun q => s.heap.size ≤ q) s.heap H locs) (hl : lv_has ls 7 [(0, .ref b), (1, .ref (LX (0, 0, 0))), (2, .ref (LM (0, 0, 0))), (3, .ref bo), (4, .int (nI (6 * k)))]) : W p l e room_1 s m #[Value.ref b] below meth c H locs (100 + 20 * k) (20000 + 900 * k) Q (F0 m 374 ls []) := by
  obtain ⟨⟨hx, hb, hml, hown, hts⟩, ⟨hK, hN, hE⟩, ⟨hXs, hbl⟩, ⟨hl0, hL⟩⟩ := C0
  have hbA : ¬ (fun q : Nat => s.heap.size ≤ q) b := Nat.not_le.mpr hbl
  obtain ⟨⟨hX, hM, hO⟩, ⟨d1, d2, d3⟩, ⟨lX, lM, lO⟩, hR⟩ := id hI
  have hR0 : rel ns kk σ (g_up μ (0, 0, 0) 0 0) := rel_thrown hR
  have hRM : room_1.cells = 603072 ∧ room_1.slots = 7194730 := ⟨rfl, rfl⟩
  refine lv_aload_n hx hb dL_law_374 rfl (lv_at hl 1 rfl) ?_
  refine w_arg1 hx hb hXs hbl hbA hS hl hL hk dL_law_375 dL_law_376 dL_law_378 dL_law_379 dL_law_380 ?_
  refine w_arg2 hx hb hXs hbl hbA hS hl hL hk dL_law_381 dL_law_382 dL_law_384 dL_law_385 dL_law_386 ?_
  refine w_arg3 hx hb hXs hbl hbA hS hl hL hk dL_law_387 dL_law_388 dL_law_390 dL_law_391 dL_law_392 ?_
  refine w_arg4 hx hb hXs hbl hbA hS hl hL hk dL_law_393 dL_law_394 dL_law_396 dL_law_397 dL_law_398 ?_
  refine g_cont0 (va_runV (As := [.int (xs (6 * k + 1)), .int (xs (6 * k + 2)), .int (xs (6 * k + 3)), .int (xs (6 * k + 4))]) (rest := []) ⟨hx, hb, hml, hown, hts⟩ (c_X6_present l D cy LX ns kk σ (xs (6 * k + 1)) (xs (6 * k + 2)) (xs (6 * k + 3)) (xs (6 * k + 4)) (rel_I hR)) (cwV 4 hts gV_L_46 rfl rfl rfl (by decide +kernel) ⟨Nat.le_of_ble_eq_true rfl, Nat.le_of_ble_eq_true rfl⟩) (g_preV hK hN.1 hX (x := (0, 0, 0)) ⟨rfl, rfl⟩ (q := (RX6, TX6, 4)) (x_at_0 cy LX ns kk 0 0 (σ (0, 0, 0))) rfl) rfl rfl hl.1 rfl (lv_room (Nat.le_of_ble_eq_true rfl)) dL_law_399 ⟨by rw [hRM.1]; omega, by rw [hRM.2]; omega⟩) hS (fun q ⟨x, h1, h2⟩ => by rw [← h2]; exact lX x h1) (fun H1 locs1 hX1 hS hz1 hk1 => ?_)
  obtain ⟨hM1, hO1⟩ := hI.x hX1 hk1
  refine W.eq (g2 := F0 m 402 ls [.int (x_presentR σ ns kk (xs (6 * k + 1)) (xs (6 * k + 2)) (xs (6 * k + 3)) (xs (6 * k + 4)))]) rfl ?_
  refine lv_aload_n hx hb dL_law_402 rfl (lv_at hl 2 rfl) ?_
  refine w_arg1 hx hb hXs hbl hbA hS hl hL hk dL_law_403 dL_law_404 dL_law_406 dL_law_407 dL_law_408 ?_
  refine w_arg2 hx hb hXs hbl hbA hS hl hL hk dL_law_409 dL_law_410 dL_law_412 dL_law_413 dL_law_414 ?_
  refine w_arg3 hx hb hXs hbl hbA hS hl hL hk dL_law_415 dL_law_416 dL_law_418 dL_law_419 dL_law_420 ?_
  refine w_arg4 hx hb hXs hbl hbA hS hl hL hk dL_law_421 dL_law_422 dL_law_424 dL_law_425 dL_law_426 ?_
  refine g_cont0 (va_runV (As := [.int (xs (6 * k + 1)), .int (xs (6 * k + 2)), .int (xs (6 * k + 3)), .int (xs (6 * k + 4))]) (rest := [.int (x_presentR σ ns kk (xs (6 * k + 1)) (xs (6 * k + 2)) (xs (6 * k + 3)) (xs (6 * k + 4)))]) ⟨hx, hb, hml, hown, hts⟩ (c_X7_present l D cy LM μ (g_up μ (0, 0, 0) 0 0) rfl (xs (6 * k + 1)) (xs (6 * k + 2)) (xs (6 * k + 3)) (xs (6 * k + 4)) (rel_ns hR0).1 (rel_ns hR0).2 (hR0.2.2.2.2.2.1 _).2 (fun t _ => hR0.2.2.2.2.2.2 _)) (cwV 4 hts gV_L_49 rfl rfl rfl (by decide +kernel) ⟨Nat.le_of_ble_eq_true rfl, Nat.le_of_ble_eq_true rfl⟩) (g_preV hK hN.1 hM1 (x := (0, 0, 0)) ⟨rfl, rfl⟩ (q := (RX7, TX7, 28)) (m_at_0 cy LM 0 0 (μ (0, 0, 0))) rfl) rfl rfl hl.1 rfl (lv_room (Nat.le_of_ble_eq_true rfl)) dL_law_427 ⟨by rw [hRM.1]; omega, by rw [hRM.2]; omega⟩) hS (fun q ⟨x, h1, h2⟩ => by rw [← h2]; exact lM x h1) (fun H2 locs2 hM2 hS hz2 hk2 => ?_)
  refine W.eq (g2 := F0 m 430 ls [.int (m_presentR (g_up μ (0, 0, 0) 0 0) (xs (6 * k + 1)) (xs (6 * k + 2)) (xs (6 * k + 3)) (xs (6 * k + 4))), .int (x_presentR σ ns kk (xs (6 * k + 1)) (xs (6 * k + 2)) (xs (6 * k + 3)) (xs (6 * k + 4)))]) rfl ?_
  obtain ⟨heq, hrel⟩ := r_present hR0 (xs (6 * k + 1)) (xs (6 * k + 2)) (xs (6 * k + 3)) (xs (6 * k + 4))
  refine kz_icmp_eq (X := ((x_presentR σ ns kk (xs (6 * k + 1)) (xs (6 * k + 2)) (xs (6 * k + 3)) (xs (6 * k + 4)))).toInt) (Y := ((m_presentR (g_up μ (0, 0, 0) 0 0) (xs (6 * k + 1)) (xs (6 * k + 2)) (xs (6 * k + 3)) (xs (6 * k + 4)))).toInt) hx hb rfl rfl dL_law_430 (tgt := 850) (by decide) (fun c9 => ?_) (fun c9 => absurd (congrArg Int32.toInt heq) c9)
  refine W.widen (k := 120 + 20 * k) (n := 20900 + 900 * k) (by omega) (by omega) ?_
  exact kk9 LX ns kk _ _ w0 H2 locs2 ls (hI.m hX1 hO1 hM2 hk2 hrel) hS hl
set_option maxHeartbeats 4000000 in
set_option maxRecDepth 100000 in
theorem lc_segment {p : Program} {l : Launch} {e : Env} {s : State} {m : MethodId} {below : List Frame} {meth : Method} {c : Code} {b L : Nat} {xs : Nat → Int32} {D : va_G} {cy : Nat → ClassId} {sa : Nat} {Q : State → Prop} {bo : Nat} {LM : g_S → Nat} (C0 : w_C p l s m meth c b L xs D cy sa) (k : Nat) (hk : 6 * k + 6 ≤ L) (kk9 : ∀ (LX : g_S → Nat) (ns : Nat) (kk : Nat → Nat) (σ μ : r_M) (w0 : Int64) (H : Heap) (locs : List Loc) (ls : Array Slot), w_I s D cy bo LM LX ns kk σ μ w0 H → va_S (fun q => s.heap.size ≤ q) s.heap H locs → lv_has ls 7 [(0, .ref b), (1, .ref (LX (0, 0, 0))), (2, .ref (LM (0, 0, 0))), (3, .ref bo), (4, .int (nI (6 * k)))] → W p l e room_1 s m #[Value.ref b] below meth c H locs (120 + 20 * k) (20900 + 900 * k) Q (F0 m 850 ls [])) (LX : g_S → Nat) (ns : Nat) (kk : Nat → Nat) (σ μ : r_M) (w0 : Int64) (H : Heap) (locs : List Loc) (ls : Array Slot) (hI : w_I s D cy bo LM LX ns kk σ μ w0 H) (hS : va_S (fun q => s.heap.size ≤ q) s.heap H locs) (hl : lv_has ls 7 [(0, .ref b), (1, .ref (LX (0, 0, 0))), (2, .ref (LM (0, 0, 0))), (3, .ref bo), (4, .int (nI (6 * k)))]) : W p l e room_1 s m #[Value.ref b] below meth c H locs (100 + 20 * k) (20000 + 900 * k) Q (F0 m 435 ls []) := by
  obtain ⟨⟨hx, hb, hml, hown, hts⟩, ⟨hK, hN, hE⟩, ⟨hXs, hbl⟩, ⟨hl0, hL⟩⟩ := C0
  have hbA : ¬ (fun q : Nat => s.heap.size ≤ q) b := Nat.not_le.mpr hbl
  obtain ⟨⟨hX, hM, hO⟩, ⟨d1, d2, d3⟩, ⟨lX, lM, lO⟩, hR⟩ := id hI
  have hR0 : rel ns kk σ (g_up μ (0, 0, 0) 0 0) := rel_thrown hR
  have hRM : room_1.cells = 603072 ∧ room_1.slots = 7194730 := ⟨rfl, rfl⟩
  refine lv_aload_n hx hb dL_law_435 rfl (lv_at hl 1 rfl) ?_
  refine w_arg1 hx hb hXs hbl hbA hS hl hL hk dL_law_436 dL_law_437 dL_law_439 dL_law_440 dL_law_441 ?_
  refine w_arg2 hx hb hXs hbl hbA hS hl hL hk dL_law_442 dL_law_443 dL_law_445 dL_law_446 dL_law_447 ?_
  refine w_arg3 hx hb hXs hbl hbA hS hl hL hk dL_law_448 dL_law_449 dL_law_451 dL_law_452 dL_law_453 ?_
  refine g_cont0 (va_runV (As := [.int (xs (6 * k + 1)), .int (xs (6 * k + 2)), .int (xs (6 * k + 3))]) (rest := []) ⟨hx, hb, hml, hown, hts⟩ (c_X6_segment l D cy LX ns kk σ (xs (6 * k + 1)) (xs (6 * k + 2)) (xs (6 * k + 3)) (rel_I hR)) (cwV 3 hts gV_L_50 rfl rfl rfl (by decide +kernel) ⟨Nat.le_of_ble_eq_true rfl, Nat.le_of_ble_eq_true rfl⟩) (g_preV hK hN.1 hX (x := (0, 0, 0)) ⟨rfl, rfl⟩ (q := (RX6, TX6, 4)) (x_at_0 cy LX ns kk 0 0 (σ (0, 0, 0))) rfl) rfl rfl hl.1 rfl (lv_room (Nat.le_of_ble_eq_true rfl)) dL_law_454 ⟨by rw [hRM.1]; omega, by rw [hRM.2]; omega⟩) hS (fun q ⟨x, h1, h2⟩ => by rw [← h2]; exact lX x h1) (fun H1 locs1 hX1 hS hz1 hk1 => ?_)
  obtain ⟨hM1, hO1⟩ := hI.x hX1 hk1
  refine W.eq (g2 := F0 m 457 ls [.int (x_segmentR σ ns (xs (6 * k + 1)) (xs (6 * k + 2)) (xs (6 * k + 3)))]) rfl ?_
  refine lv_aload_n hx hb dL_law_457 rfl (lv_at hl 2 rfl) ?_
  refine w_arg1 hx hb hXs hbl hbA hS hl hL hk dL_law_458 dL_law_459 dL_law_461 dL_law_462 dL_law_463 ?_
  refine w_arg2 hx hb hXs hbl hbA hS hl hL hk dL_law_464 dL_law_465 dL_law_467 dL_law_468 dL_law_469 ?_
  refine w_arg3 hx hb hXs hbl hbA hS hl hL hk dL_law_470 dL_law_471 dL_law_473 dL_law_474 dL_law_475 ?_
  refine g_cont0 (va_runV (As := [.int (xs (6 * k + 1)), .int (xs (6 * k + 2)), .int (xs (6 * k + 3))]) (rest := [.int (x_segmentR σ ns (xs (6 * k + 1)) (xs (6 * k + 2)) (xs (6 * k + 3)))]) ⟨hx, hb, hml, hown, hts⟩ (c_X7_segment l D cy LM μ (g_up μ (0, 0, 0) 0 0) rfl (xs (6 * k + 1)) (xs (6 * k + 2)) (xs (6 * k + 3)) (rel_ns hR0).1 (rel_ns hR0).2 (rel_seg hR0)) (cwV 3 hts gV_L_53 rfl rfl rfl (by decide +kernel) ⟨Nat.le_of_ble_eq_true rfl, Nat.le_of_ble_eq_true rfl⟩) (g_preV hK hN.1 hM1 (x := (0, 0, 0)) ⟨rfl, rfl⟩ (q := (RX7, TX7, 28)) (m_at_0 cy LM 0 0 (μ (0, 0, 0))) rfl) rfl rfl hl.1 rfl (lv_room (Nat.le_of_ble_eq_true rfl)) dL_law_476 ⟨by rw [hRM.1]; omega, by rw [hRM.2]; omega⟩) hS (fun q ⟨x, h1, h2⟩ => by rw [← h2]; exact lM x h1) (fun H2 locs2 hM2 hS hz2 hk2 => ?_)
  refine W.eq (g2 := F0 m 479 ls [.int (m_segR (g_up μ (0, 0, 0) 0 0) (xs (6 * k + 1)) (xs (6 * k + 2)) (xs (6 * k + 3))), .int (x_segmentR σ ns (xs (6 * k + 1)) (xs (6 * k + 2)) (xs (6 * k + 3)))]) rfl ?_
  obtain ⟨heq, hrel⟩ := r_segment hR0 (xs (6 * k + 1)) (xs (6 * k + 2)) (xs (6 * k + 3))
  refine kz_icmp_eq (X := ((x_segmentR σ ns (xs (6 * k + 1)) (xs (6 * k + 2)) (xs (6 * k + 3)))).toInt) (Y := ((m_segR (g_up μ (0, 0, 0) 0 0) (xs (6 * k + 1)) (xs (6 * k + 2)) (xs (6 * k + 3)))).toInt) hx hb rfl rfl dL_law_479 (tgt := 850) (by decide) (fun c9 => ?_) (fun c9 => absurd (congrArg Int32.toInt heq) c9)
  refine W.widen (k := 120 + 20 * k) (n := 20900 + 900 * k) (by omega) (by omega) ?_
  exact kk9 LX ns kk _ _ w0 H2 locs2 ls (hI.m hX1 hO1 hM2 hk2 hrel) hS hl
set_option maxHeartbeats 4000000 in
set_option maxRecDepth 100000 in
theorem lc_at {p : Program} {l : Launch} {e : Env} {s : State} {m : MethodId} {below : List Frame} {meth : Method} {c : Code} {b L : Nat} {xs : Nat → Int32} {D : va_G} {cy : Nat → ClassId} {sa : Nat} {Q : State → Prop} {bo : Nat} {LM : g_S → Nat} (C0 : w_C p l s m meth c b L xs D cy sa) (k : Nat) (hk : 6 * k + 6 ≤ L) (kk9 : ∀ (LX : g_S → Nat) (ns : Nat) (kk : Nat → Nat) (σ μ : r_M) (w0 : Int64) (H : Heap) (locs : List Loc) (ls : Array Slot), w_I s D cy bo LM LX ns kk σ μ w0 H → va_S (fun q => s.heap.size ≤ q) s.heap H locs → lv_has ls 7 [(0, .ref b), (1, .ref (LX (0, 0, 0))), (2, .ref (LM (0, 0, 0))), (3, .ref bo), (4, .int (nI (6 * k)))] → W p l e room_1 s m #[Value.ref b] below meth c H locs (120 + 20 * k) (20900 + 900 * k) Q (F0 m 850 ls [])) (LX : g_S → Nat) (ns : Nat) (kk : Nat → Nat) (σ μ : r_M) (w0 : Int64) (H : Heap) (locs : List Loc) (ls : Array Slot) (hI : w_I s D cy bo LM LX ns kk σ μ w0 H) (hS : va_S (fun q => s.heap.size ≤ q) s.heap H locs) (hl : lv_has ls 7 [(0, .ref b), (1, .ref (LX (0, 0, 0))), (2, .ref (LM (0, 0, 0))), (3, .ref bo), (4, .int (nI (6 * k)))]) : W p l e room_1 s m #[Value.ref b] below meth c H locs (100 + 20 * k) (20000 + 900 * k) Q (F0 m 484 ls []) := by
  obtain ⟨⟨hx, hb, hml, hown, hts⟩, ⟨hK, hN, hE⟩, ⟨hXs, hbl⟩, ⟨hl0, hL⟩⟩ := C0
  have hbA : ¬ (fun q : Nat => s.heap.size ≤ q) b := Nat.not_le.mpr hbl
  obtain ⟨⟨hX, hM, hO⟩, ⟨d1, d2, d3⟩, ⟨lX, lM, lO⟩, hR⟩ := id hI
  have hR0 : rel ns kk σ (g_up μ (0, 0, 0) 0 0) := rel_thrown hR
  have hRM : room_1.cells = 603072 ∧ room_1.slots = 7194730 := ⟨rfl, rfl⟩
  refine lv_aload_n hx hb dL_law_484 rfl (lv_at hl 1 rfl) ?_
  refine w_arg1 hx hb hXs hbl hbA hS hl hL hk dL_law_485 dL_law_486 dL_law_488 dL_law_489 dL_law_490 ?_
  refine w_arg2 hx hb hXs hbl hbA hS hl hL hk dL_law_491 dL_law_492 dL_law_494 dL_law_495 dL_law_496 ?_
  refine g_cont0 (va_runV (As := [.int (xs (6 * k + 1)), .int (xs (6 * k + 2))]) (rest := []) ⟨hx, hb, hml, hown, hts⟩ (c_X6_at l D cy LX ns kk σ (xs (6 * k + 1)) (xs (6 * k + 2)) (rel_I hR)) (cwV 2 hts gV_L_54 rfl rfl rfl (by decide +kernel) ⟨Nat.le_of_ble_eq_true rfl, Nat.le_of_ble_eq_true rfl⟩) (g_preV hK hN.1 hX (x := (0, 0, 0)) ⟨rfl, rfl⟩ (q := (RX6, TX6, 4)) (x_at_0 cy LX ns kk 0 0 (σ (0, 0, 0))) rfl) rfl rfl hl.1 rfl (lv_room (Nat.le_of_ble_eq_true rfl)) dL_law_497 ⟨by rw [hRM.1]; omega, by rw [hRM.2]; omega⟩) hS (fun q ⟨x, h1, h2⟩ => by rw [← h2]; exact lX x h1) (fun H1 locs1 hX1 hS hz1 hk1 => ?_)
  obtain ⟨hM1, hO1⟩ := hI.x hX1 hk1
  refine W.eq (g2 := F0 m 500 ls [.int (x_atR σ ns (xs (6 * k + 1)) (xs (6 * k + 2)))]) rfl ?_
  refine lv_aload_n hx hb dL_law_500 rfl (lv_at hl 2 rfl) ?_
  refine w_arg1 hx hb hXs hbl hbA hS hl hL hk dL_law_501 dL_law_502 dL_law_504 dL_law_505 dL_law_506 ?_
  refine w_arg2 hx hb hXs hbl hbA hS hl hL hk dL_law_507 dL_law_508 dL_law_510 dL_law_511 dL_law_512 ?_
  refine g_cont0 (va_runV (As := [.int (xs (6 * k + 1)), .int (xs (6 * k + 2))]) (rest := [.int (x_atR σ ns (xs (6 * k + 1)) (xs (6 * k + 2)))]) ⟨hx, hb, hml, hown, hts⟩ (c_X7_at l D cy LM μ (g_up μ (0, 0, 0) 0 0) rfl (xs (6 * k + 1)) (xs (6 * k + 2)) (rel_ns hR0).1 (rel_ns hR0).2 (rel_shw hR0)) (cwV 2 hts gV_L_57 rfl rfl rfl (by decide +kernel) ⟨Nat.le_of_ble_eq_true rfl, Nat.le_of_ble_eq_true rfl⟩) (g_preV hK hN.1 hM1 (x := (0, 0, 0)) ⟨rfl, rfl⟩ (q := (RX7, TX7, 28)) (m_at_0 cy LM 0 0 (μ (0, 0, 0))) rfl) rfl rfl hl.1 rfl (lv_room (Nat.le_of_ble_eq_true rfl)) dL_law_513 ⟨by rw [hRM.1]; omega, by rw [hRM.2]; omega⟩) hS (fun q ⟨x, h1, h2⟩ => by rw [← h2]; exact lM x h1) (fun H2 locs2 hM2 hS hz2 hk2 => ?_)
  refine W.eq (g2 := F0 m 516 ls [.int (m_atR (g_up μ (0, 0, 0) 0 0) (xs (6 * k + 1)) (xs (6 * k + 2))), .int (x_atR σ ns (xs (6 * k + 1)) (xs (6 * k + 2)))]) rfl ?_
  obtain ⟨heq, hrel⟩ := r_at hR0 (xs (6 * k + 1)) (xs (6 * k + 2))
  refine kz_icmp_eq (X := ((x_atR σ ns (xs (6 * k + 1)) (xs (6 * k + 2)))).toInt) (Y := ((m_atR (g_up μ (0, 0, 0) 0 0) (xs (6 * k + 1)) (xs (6 * k + 2)))).toInt) hx hb rfl rfl dL_law_516 (tgt := 850) (by decide) (fun c9 => ?_) (fun c9 => absurd (congrArg Int32.toInt heq) c9)
  refine W.widen (k := 120 + 20 * k) (n := 20900 + 900 * k) (by omega) (by omega) ?_
  exact kk9 LX ns kk _ _ w0 H2 locs2 ls (hI.m hX1 hO1 hM2 hk2 hrel) hS hl
set_option maxHeartbeats 4000000 in
set_option maxRecDepth 100000 in
theorem lc_scan {p : Program} {l : Launch} {e : Env} {s : State} {m : MethodId} {below : List Frame} {meth : Method} {c : Code} {b L : Nat} {xs : Nat → Int32} {D : va_G} {cy : Nat → ClassId} {sa : Nat} {Q : State → Prop} {bo : Nat} {LM : g_S → Nat} (C0 : w_C p l s m meth c b L xs D cy sa) (k : Nat) (hk : 6 * k + 6 ≤ L) (kk9 : ∀ (LX : g_S → Nat) (ns : Nat) (kk : Nat → Nat) (σ μ : r_M) (w0 : Int64) (H : Heap) (locs : List Loc) (ls : Array Slot), w_I s D cy bo LM LX ns kk σ μ w0 H → va_S (fun q => s.heap.size ≤ q) s.heap H locs → lv_has ls 7 [(0, .ref b), (1, .ref (LX (0, 0, 0))), (2, .ref (LM (0, 0, 0))), (3, .ref bo), (4, .int (nI (6 * k)))] → W p l e room_1 s m #[Value.ref b] below meth c H locs (120 + 20 * k) (20900 + 900 * k) Q (F0 m 850 ls [])) (LX : g_S → Nat) (ns : Nat) (kk : Nat → Nat) (σ μ : r_M) (w0 : Int64) (H : Heap) (locs : List Loc) (ls : Array Slot) (hI : w_I s D cy bo LM LX ns kk σ μ w0 H) (hS : va_S (fun q => s.heap.size ≤ q) s.heap H locs) (hl : lv_has ls 7 [(0, .ref b), (1, .ref (LX (0, 0, 0))), (2, .ref (LM (0, 0, 0))), (3, .ref bo), (4, .int (nI (6 * k)))]) : W p l e room_1 s m #[Value.ref b] below meth c H locs (100 + 20 * k) (20000 + 900 * k) Q (F0 m 598 ls []) := by
  obtain ⟨⟨hx, hb, hml, hown, hts⟩, ⟨hK, hN, hE⟩, ⟨hXs, hbl⟩, ⟨hl0, hL⟩⟩ := C0
  have hbA : ¬ (fun q : Nat => s.heap.size ≤ q) b := Nat.not_le.mpr hbl
  obtain ⟨⟨hX, hM, hO⟩, ⟨d1, d2, d3⟩, ⟨lX, lM, lO⟩, hR⟩ := id hI
  have hR0 : rel ns kk σ (g_up μ (0, 0, 0) 0 0) := rel_thrown hR
  have hRM : room_1.cells = 603072 ∧ room_1.slots = 7194730 := ⟨rfl, rfl⟩
  refine lv_aload_n hx hb dL_law_598 rfl (lv_at hl 1 rfl) ?_
  refine w_arg1 hx hb hXs hbl hbA hS hl hL hk dL_law_599 dL_law_600 dL_law_602 dL_law_603 dL_law_604 ?_
  refine w_arg2 hx hb hXs hbl hbA hS hl hL hk dL_law_605 dL_law_606 dL_law_608 dL_law_609 dL_law_610 ?_
  refine w_arg3 hx hb hXs hbl hbA hS hl hL hk dL_law_611 dL_law_612 dL_law_614 dL_law_615 dL_law_616 ?_
  refine w_arg4 hx hb hXs hbl hbA hS hl hL hk dL_law_617 dL_law_618 dL_law_620 dL_law_621 dL_law_622 ?_
  refine w_arg5 hx hb hXs hbl hbA hS hl hL hk dL_law_623 dL_law_624 dL_law_626 dL_law_627 dL_law_628 ?_
  refine g_cont0 (va_runV (As := [.int (xs (6 * k + 1)), .int (xs (6 * k + 2)), .int (xs (6 * k + 3)), .int (xs (6 * k + 4)), .int (xs (6 * k + 5))]) (rest := []) ⟨hx, hb, hml, hown, hts⟩ (c_X6_scan l D cy LX ns kk σ (xs (6 * k + 1)) (xs (6 * k + 2)) (xs (6 * k + 3)) (xs (6 * k + 4)) (xs (6 * k + 5)) (rel_I hR)) (cwV 5 hts gV_L_63 rfl rfl rfl (by decide +kernel) ⟨Nat.le_of_ble_eq_true rfl, Nat.le_of_ble_eq_true rfl⟩) (g_preV hK hN.1 hX (x := (0, 0, 0)) ⟨rfl, rfl⟩ (q := (RX6, TX6, 4)) (x_at_0 cy LX ns kk 0 0 (σ (0, 0, 0))) rfl) rfl rfl hl.1 rfl (lv_room (Nat.le_of_ble_eq_true rfl)) dL_law_629 ⟨by rw [hRM.1]; omega, by rw [hRM.2]; omega⟩) hS (fun q ⟨x, h1, h2⟩ => by rw [← h2]; exact lX x h1) (fun H1 locs1 hX1 hS hz1 hk1 => ?_)
  obtain ⟨hM1, hO1⟩ := hI.x hX1 hk1
  refine W.eq (g2 := F0 m 632 ls [.int (x_scanR σ ns kk (xs (6 * k + 1)) (xs (6 * k + 2)) (xs (6 * k + 3)) (xs (6 * k + 4)) (xs (6 * k + 5)))]) rfl ?_
  refine lv_aload_n hx hb dL_law_632 rfl (lv_at hl 2 rfl) ?_
  refine w_arg1 hx hb hXs hbl hbA hS hl hL hk dL_law_633 dL_law_634 dL_law_636 dL_law_637 dL_law_638 ?_
  refine w_arg2 hx hb hXs hbl hbA hS hl hL hk dL_law_639 dL_law_640 dL_law_642 dL_law_643 dL_law_644 ?_
  refine w_arg3 hx hb hXs hbl hbA hS hl hL hk dL_law_645 dL_law_646 dL_law_648 dL_law_649 dL_law_650 ?_
  refine w_arg4 hx hb hXs hbl hbA hS hl hL hk dL_law_651 dL_law_652 dL_law_654 dL_law_655 dL_law_656 ?_
  refine w_arg5 hx hb hXs hbl hbA hS hl hL hk dL_law_657 dL_law_658 dL_law_660 dL_law_661 dL_law_662 ?_
  refine g_cont0 (va_runV (As := [.int (xs (6 * k + 1)), .int (xs (6 * k + 2)), .int (xs (6 * k + 3)), .int (xs (6 * k + 4)), .int (xs (6 * k + 5))]) (rest := [.int (x_scanR σ ns kk (xs (6 * k + 1)) (xs (6 * k + 2)) (xs (6 * k + 3)) (xs (6 * k + 4)) (xs (6 * k + 5)))]) ⟨hx, hb, hml, hown, hts⟩ (c_X7_scan l D cy LM μ (g_up μ (0, 0, 0) 0 0) rfl (xs (6 * k + 1)) (xs (6 * k + 2)) (xs (6 * k + 3)) (xs (6 * k + 4)) (xs (6 * k + 5)) hR0.1.2.1.1 hR0.1.2.1.2 (rel_ns hR0).1 (rel_ns hR0).2 (rel_tA hR0)) (cwV 5 hts gV_L_67 rfl rfl rfl (by decide +kernel) ⟨Nat.le_of_ble_eq_true rfl, Nat.le_of_ble_eq_true rfl⟩) (g_preV hK hN.1 hM1 (x := (0, 0, 0)) ⟨rfl, rfl⟩ (q := (RX7, TX7, 28)) (m_at_0 cy LM 0 0 (μ (0, 0, 0))) rfl) rfl rfl hl.1 rfl (lv_room (Nat.le_of_ble_eq_true rfl)) dL_law_663 ⟨by rw [hRM.1]; omega, by rw [hRM.2]; omega⟩) hS (fun q ⟨x, h1, h2⟩ => by rw [← h2]; exact lM x h1) (fun H2 locs2 hM2 hS hz2 hk2 => ?_)
  refine W.eq (g2 := F0 m 666 ls [.int (m_scanR (g_up μ (0, 0, 0) 0 0) (xs (6 * k + 1)) (xs (6 * k + 2)) (xs (6 * k + 3)) (xs (6 * k + 4)) (xs (6 * k + 5))), .int (x_scanR σ ns kk (xs (6 * k + 1)) (xs (6 * k + 2)) (xs (6 * k + 3)) (xs (6 * k + 4)) (xs (6 * k + 5)))]) rfl ?_
  obtain ⟨heq, hrel⟩ := r_scan hR0 (xs (6 * k + 1)) (xs (6 * k + 2)) (xs (6 * k + 3)) (xs (6 * k + 4)) (xs (6 * k + 5))
  refine kz_icmp_eq (X := ((x_scanR σ ns kk (xs (6 * k + 1)) (xs (6 * k + 2)) (xs (6 * k + 3)) (xs (6 * k + 4)) (xs (6 * k + 5)))).toInt) (Y := ((m_scanR (g_up μ (0, 0, 0) 0 0) (xs (6 * k + 1)) (xs (6 * k + 2)) (xs (6 * k + 3)) (xs (6 * k + 4)) (xs (6 * k + 5)))).toInt) hx hb rfl rfl dL_law_666 (tgt := 850) (by decide) (fun c9 => ?_) (fun c9 => absurd (congrArg Int32.toInt heq) c9)
  refine W.widen (k := 120 + 20 * k) (n := 20900 + 900 * k) (by omega) (by omega) ?_
  exact kk9 LX ns kk _ _ w0 H2 locs2 ls (hI.m hX1 hO1 hM2 hk2 hrel) hS hl
set_option maxHeartbeats 4000000 in
set_option maxRecDepth 100000 in
theorem lc_drop {p : Program} {l : Launch} {e : Env} {s : State} {m : MethodId} {below : List Frame} {meth : Method} {c : Code} {b L : Nat} {xs : Nat → Int32} {D : va_G} {cy : Nat → ClassId} {sa : Nat} {Q : State → Prop} {bo : Nat} {LM : g_S → Nat} (C0 : w_C p l s m meth c b L xs D cy sa) (k : Nat) (hk : 6 * k + 6 ≤ L) (kk9 : ∀ (LX : g_S → Nat) (ns : Nat) (kk : Nat → Nat) (σ μ : r_M) (w0 : Int64) (H : Heap) (locs : List Loc) (ls : Array Slot), w_I s D cy bo LM LX ns kk σ μ w0 H → va_S (fun q => s.heap.size ≤ q) s.heap H locs → lv_has ls 7 [(0, .ref b), (1, .ref (LX (0, 0, 0))), (2, .ref (LM (0, 0, 0))), (3, .ref bo), (4, .int (nI (6 * k)))] → W p l e room_1 s m #[Value.ref b] below meth c H locs (120 + 20 * k) (20900 + 900 * k) Q (F0 m 850 ls [])) (LX : g_S → Nat) (ns : Nat) (kk : Nat → Nat) (σ μ : r_M) (w0 : Int64) (H : Heap) (locs : List Loc) (ls : Array Slot) (hI : w_I s D cy bo LM LX ns kk σ μ w0 H) (hS : va_S (fun q => s.heap.size ≤ q) s.heap H locs) (hl : lv_has ls 7 [(0, .ref b), (1, .ref (LX (0, 0, 0))), (2, .ref (LM (0, 0, 0))), (3, .ref bo), (4, .int (nI (6 * k)))]) : W p l e room_1 s m #[Value.ref b] below meth c H locs (100 + 20 * k) (20000 + 900 * k) Q (F0 m 751 ls []) := by
  obtain ⟨⟨hx, hb, hml, hown, hts⟩, ⟨hK, hN, hE⟩, ⟨hXs, hbl⟩, ⟨hl0, hL⟩⟩ := C0
  have hbA : ¬ (fun q : Nat => s.heap.size ≤ q) b := Nat.not_le.mpr hbl
  obtain ⟨⟨hX, hM, hO⟩, ⟨d1, d2, d3⟩, ⟨lX, lM, lO⟩, hR⟩ := id hI
  have hR0 : rel ns kk σ (g_up μ (0, 0, 0) 0 0) := rel_thrown hR
  have hRM : room_1.cells = 603072 ∧ room_1.slots = 7194730 := ⟨rfl, rfl⟩
  refine lv_aload_n hx hb dL_law_751 rfl (lv_at hl 1 rfl) ?_
  refine w_arg1 hx hb hXs hbl hbA hS hl hL hk dL_law_752 dL_law_753 dL_law_755 dL_law_756 dL_law_757 ?_
  refine w_arg2 hx hb hXs hbl hbA hS hl hL hk dL_law_758 dL_law_759 dL_law_761 dL_law_762 dL_law_763 ?_
  refine g_cont0 (va_runV (As := [.int (xs (6 * k + 1)), .int (xs (6 * k + 2))]) (rest := []) ⟨hx, hb, hml, hown, hts⟩ (c_X6_drop l D cy LX ns kk σ (xs (6 * k + 1)) (xs (6 * k + 2)) (rel_I hR)) (cwV 2 hts gV_L_78 rfl rfl rfl (by decide +kernel) ⟨Nat.le_of_ble_eq_true rfl, Nat.le_of_ble_eq_true rfl⟩) (g_preV hK hN.1 hX (x := (0, 0, 0)) ⟨rfl, rfl⟩ (q := (RX6, TX6, 4)) (x_at_0 cy LX ns kk 0 0 (σ (0, 0, 0))) rfl) rfl rfl hl.1 rfl (lv_room (Nat.le_of_ble_eq_true rfl)) dL_law_764 ⟨by rw [hRM.1]; omega, by rw [hRM.2]; omega⟩) hS (fun q ⟨x, h1, h2⟩ => by rw [← h2]; exact lX x h1) (fun H1 locs1 hX1 hS hz1 hk1 => ?_)
  obtain ⟨hM1, hO1⟩ := hI.x hX1 hk1
  refine W.eq (g2 := F0 m 767 ls [.int (x_dropR σ ns kk (xs (6 * k + 1)) (xs (6 * k + 2)))]) rfl ?_
  refine lv_aload_n hx hb dL_law_767 rfl (lv_at hl 2 rfl) ?_
  refine w_arg1 hx hb hXs hbl hbA hS hl hL hk dL_law_768 dL_law_769 dL_law_771 dL_law_772 dL_law_773 ?_
  refine w_arg2 hx hb hXs hbl hbA hS hl hL hk dL_law_774 dL_law_775 dL_law_777 dL_law_778 dL_law_779 ?_
  refine g_cont0 (va_runV (As := [.int (xs (6 * k + 1)), .int (xs (6 * k + 2))]) (rest := [.int (x_dropR σ ns kk (xs (6 * k + 1)) (xs (6 * k + 2)))]) ⟨hx, hb, hml, hown, hts⟩ (c_X7_drop l D cy LM μ (g_up μ (0, 0, 0) 0 0) rfl (xs (6 * k + 1)) (xs (6 * k + 2)) (rel_ns hR0).1 (rel_ns hR0).2) (cwV 2 hts gV_L_81 rfl rfl rfl (by decide +kernel) ⟨Nat.le_of_ble_eq_true rfl, Nat.le_of_ble_eq_true rfl⟩) (g_preV hK hN.1 hM1 (x := (0, 0, 0)) ⟨rfl, rfl⟩ (q := (RX7, TX7, 28)) (m_at_0 cy LM 0 0 (μ (0, 0, 0))) rfl) rfl rfl hl.1 rfl (lv_room (Nat.le_of_ble_eq_true rfl)) dL_law_780 ⟨by rw [hRM.1]; omega, by rw [hRM.2]; omega⟩) hS (fun q ⟨x, h1, h2⟩ => by rw [← h2]; exact lM x h1) (fun H2 locs2 hM2 hS hz2 hk2 => ?_)
  refine W.eq (g2 := F0 m 783 ls [.int (m_dropR (g_up μ (0, 0, 0) 0 0) (xs (6 * k + 1)) (xs (6 * k + 2))), .int (x_dropR σ ns kk (xs (6 * k + 1)) (xs (6 * k + 2)))]) rfl ?_
  obtain ⟨heq, hrel⟩ := r_drop hR0 (xs (6 * k + 1)) (xs (6 * k + 2))
  refine kz_icmp_eq (X := ((x_dropR σ ns kk (xs (6 * k + 1)) (xs (6 * k + 2)))).toInt) (Y := ((m_dropR (g_up μ (0, 0, 0) 0 0) (xs (6 * k + 1)) (xs (6 * k + 2)))).toInt) hx hb rfl rfl dL_law_783 (tgt := 850) (by decide) (fun c9 => ?_) (fun c9 => absurd (congrArg Int32.toInt heq) c9)
  refine W.widen (k := 120 + 20 * k) (n := 20900 + 900 * k) (by omega) (by omega) ?_
  exact kk9 LX ns kk _ _ w0 H2 locs2 ls (hI.m hX1 hO1 hM2 hk2 hrel) hS hl
set_option maxHeartbeats 4000000 in
set_option maxRecDepth 100000 in
theorem lc_close {p : Program} {l : Launch} {e : Env} {s : State} {m : MethodId} {below : List Frame} {meth : Method} {c : Code} {b L : Nat} {xs : Nat → Int32} {D : va_G} {cy : Nat → ClassId} {sa : Nat} {Q : State → Prop} {bo : Nat} {LM : g_S → Nat} (C0 : w_C p l s m meth c b L xs D cy sa) (k : Nat) (hk : 6 * k + 6 ≤ L) (kk9 : ∀ (LX : g_S → Nat) (ns : Nat) (kk : Nat → Nat) (σ μ : r_M) (w0 : Int64) (H : Heap) (locs : List Loc) (ls : Array Slot), w_I s D cy bo LM LX ns kk σ μ w0 H → va_S (fun q => s.heap.size ≤ q) s.heap H locs → lv_has ls 7 [(0, .ref b), (1, .ref (LX (0, 0, 0))), (2, .ref (LM (0, 0, 0))), (3, .ref bo), (4, .int (nI (6 * k)))] → W p l e room_1 s m #[Value.ref b] below meth c H locs (120 + 20 * k) (20900 + 900 * k) Q (F0 m 850 ls [])) (LX : g_S → Nat) (ns : Nat) (kk : Nat → Nat) (σ μ : r_M) (w0 : Int64) (H : Heap) (locs : List Loc) (ls : Array Slot) (hI : w_I s D cy bo LM LX ns kk σ μ w0 H) (hS : va_S (fun q => s.heap.size ≤ q) s.heap H locs) (hl : lv_has ls 7 [(0, .ref b), (1, .ref (LX (0, 0, 0))), (2, .ref (LM (0, 0, 0))), (3, .ref bo), (4, .int (nI (6 * k)))]) : W p l e room_1 s m #[Value.ref b] below meth c H locs (100 + 20 * k) (20000 + 900 * k) Q (F0 m 788 ls []) := by
  obtain ⟨⟨hx, hb, hml, hown, hts⟩, ⟨hK, hN, hE⟩, ⟨hXs, hbl⟩, ⟨hl0, hL⟩⟩ := C0
  have hbA : ¬ (fun q : Nat => s.heap.size ≤ q) b := Nat.not_le.mpr hbl
  obtain ⟨⟨hX, hM, hO⟩, ⟨d1, d2, d3⟩, ⟨lX, lM, lO⟩, hR⟩ := id hI
  have hR0 : rel ns kk σ (g_up μ (0, 0, 0) 0 0) := rel_thrown hR
  have hRM : room_1.cells = 603072 ∧ room_1.slots = 7194730 := ⟨rfl, rfl⟩
  refine lv_aload_n hx hb dL_law_788 rfl (lv_at hl 1 rfl) ?_
  refine w_arg1 hx hb hXs hbl hbA hS hl hL hk dL_law_789 dL_law_790 dL_law_792 dL_law_793 dL_law_794 ?_
  refine g_cont0 (va_runV (As := [.int (xs (6 * k + 1))]) (rest := []) ⟨hx, hb, hml, hown, hts⟩ (c_X6_close l D cy LX ns kk σ (xs (6 * k + 1)) (rel_I hR)) (cwV 1 hts gV_L_82 rfl rfl rfl (by decide +kernel) ⟨Nat.le_of_ble_eq_true rfl, Nat.le_of_ble_eq_true rfl⟩) (g_preV hK hN.1 hX (x := (0, 0, 0)) ⟨rfl, rfl⟩ (q := (RX6, TX6, 4)) (x_at_0 cy LX ns kk 0 0 (σ (0, 0, 0))) rfl) rfl rfl hl.1 rfl (lv_room (Nat.le_of_ble_eq_true rfl)) dL_law_795 ⟨by rw [hRM.1]; omega, by rw [hRM.2]; omega⟩) hS (fun q ⟨x, h1, h2⟩ => by rw [← h2]; exact lX x h1) (fun H1 locs1 hX1 hS hz1 hk1 => ?_)
  obtain ⟨hM1, hO1⟩ := hI.x hX1 hk1
  refine W.eq (g2 := F0 m 798 ls [.int (x_closeR σ ns kk (xs (6 * k + 1)))]) rfl ?_
  refine lv_aload_n hx hb dL_law_798 rfl (lv_at hl 2 rfl) ?_
  refine w_arg1 hx hb hXs hbl hbA hS hl hL hk dL_law_799 dL_law_800 dL_law_802 dL_law_803 dL_law_804 ?_
  refine g_cont0 (va_runV (As := [.int (xs (6 * k + 1))]) (rest := [.int (x_closeR σ ns kk (xs (6 * k + 1)))]) ⟨hx, hb, hml, hown, hts⟩ (c_X7_close l D cy LM μ (g_up μ (0, 0, 0) 0 0) rfl (xs (6 * k + 1)) (rel_ns hR0).1 (rel_ns hR0).2) (cwV 1 hts gV_L_85 rfl rfl rfl (by decide +kernel) ⟨Nat.le_of_ble_eq_true rfl, Nat.le_of_ble_eq_true rfl⟩) (g_preV hK hN.1 hM1 (x := (0, 0, 0)) ⟨rfl, rfl⟩ (q := (RX7, TX7, 28)) (m_at_0 cy LM 0 0 (μ (0, 0, 0))) rfl) rfl rfl hl.1 rfl (lv_room (Nat.le_of_ble_eq_true rfl)) dL_law_805 ⟨by rw [hRM.1]; omega, by rw [hRM.2]; omega⟩) hS (fun q ⟨x, h1, h2⟩ => by rw [← h2]; exact lM x h1) (fun H2 locs2 hM2 hS hz2 hk2 => ?_)
  refine W.eq (g2 := F0 m 808 ls [.int (m_closeR (g_up μ (0, 0, 0) 0 0) (xs (6 * k + 1))), .int (x_closeR σ ns kk (xs (6 * k + 1)))]) rfl ?_
  obtain ⟨heq, hrel⟩ := r_close hR0 (xs (6 * k + 1))
  refine kz_icmp_eq (X := ((x_closeR σ ns kk (xs (6 * k + 1)))).toInt) (Y := ((m_closeR (g_up μ (0, 0, 0) 0 0) (xs (6 * k + 1)))).toInt) hx hb rfl rfl dL_law_808 (tgt := 850) (by decide) (fun c9 => ?_) (fun c9 => absurd (congrArg Int32.toInt heq) c9)
  refine W.widen (k := 120 + 20 * k) (n := 20900 + 900 * k) (by omega) (by omega) ?_
  exact kk9 LX ns kk _ _ w0 H2 locs2 ls (hI.m hX1 hO1 hM2 hk2 hrel) hS hl
set_option maxHeartbeats 4000000 in
set_option maxRecDepth 100000 in
theorem lc_state {p : Program} {l : Launch} {e : Env} {s : State} {m : MethodId} {below : List Frame} {meth : Method} {c : Code} {b L : Nat} {xs : Nat → Int32} {D : va_G} {cy : Nat → ClassId} {sa : Nat} {Q : State → Prop} {bo : Nat} {LM : g_S → Nat} (C0 : w_C p l s m meth c b L xs D cy sa) (k : Nat) (hk : 6 * k + 6 ≤ L) (kk9 : ∀ (LX : g_S → Nat) (ns : Nat) (kk : Nat → Nat) (σ μ : r_M) (w0 : Int64) (H : Heap) (locs : List Loc) (ls : Array Slot), w_I s D cy bo LM LX ns kk σ μ w0 H → va_S (fun q => s.heap.size ≤ q) s.heap H locs → lv_has ls 7 [(0, .ref b), (1, .ref (LX (0, 0, 0))), (2, .ref (LM (0, 0, 0))), (3, .ref bo), (4, .int (nI (6 * k)))] → W p l e room_1 s m #[Value.ref b] below meth c H locs (120 + 20 * k) (20900 + 900 * k) Q (F0 m 850 ls [])) (LX : g_S → Nat) (ns : Nat) (kk : Nat → Nat) (σ μ : r_M) (w0 : Int64) (H : Heap) (locs : List Loc) (ls : Array Slot) (hI : w_I s D cy bo LM LX ns kk σ μ w0 H) (hS : va_S (fun q => s.heap.size ≤ q) s.heap H locs) (hl : lv_has ls 7 [(0, .ref b), (1, .ref (LX (0, 0, 0))), (2, .ref (LM (0, 0, 0))), (3, .ref bo), (4, .int (nI (6 * k)))]) : W p l e room_1 s m #[Value.ref b] below meth c H locs (100 + 20 * k) (20000 + 900 * k) Q (F0 m 813 ls []) := by
  obtain ⟨⟨hx, hb, hml, hown, hts⟩, ⟨hK, hN, hE⟩, ⟨hXs, hbl⟩, ⟨hl0, hL⟩⟩ := C0
  have hbA : ¬ (fun q : Nat => s.heap.size ≤ q) b := Nat.not_le.mpr hbl
  obtain ⟨⟨hX, hM, hO⟩, ⟨d1, d2, d3⟩, ⟨lX, lM, lO⟩, hR⟩ := id hI
  have hR0 : rel ns kk σ (g_up μ (0, 0, 0) 0 0) := rel_thrown hR
  have hRM : room_1.cells = 603072 ∧ room_1.slots = 7194730 := ⟨rfl, rfl⟩
  refine lv_aload_n hx hb dL_law_813 rfl (lv_at hl 1 rfl) ?_
  refine w_arg1 hx hb hXs hbl hbA hS hl hL hk dL_law_814 dL_law_815 dL_law_817 dL_law_818 dL_law_819 ?_
  refine w_arg2 hx hb hXs hbl hbA hS hl hL hk dL_law_820 dL_law_821 dL_law_823 dL_law_824 dL_law_825 ?_
  refine g_cont0 (va_runV (As := [.int (xs (6 * k + 1)), .int (xs (6 * k + 2))]) (rest := []) ⟨hx, hb, hml, hown, hts⟩ (c_X6_state l D cy LX ns kk σ (xs (6 * k + 1)) (xs (6 * k + 2)) (rel_I hR)) (cwV 2 hts gV_L_86 rfl rfl rfl (by decide +kernel) ⟨Nat.le_of_ble_eq_true rfl, Nat.le_of_ble_eq_true rfl⟩) (g_preV hK hN.1 hX (x := (0, 0, 0)) ⟨rfl, rfl⟩ (q := (RX6, TX6, 4)) (x_at_0 cy LX ns kk 0 0 (σ (0, 0, 0))) rfl) rfl rfl hl.1 rfl (lv_room (Nat.le_of_ble_eq_true rfl)) dL_law_826 ⟨by rw [hRM.1]; omega, by rw [hRM.2]; omega⟩) hS (fun q ⟨x, h1, h2⟩ => by rw [← h2]; exact lX x h1) (fun H1 locs1 hX1 hS hz1 hk1 => ?_)
  obtain ⟨hM1, hO1⟩ := hI.x hX1 hk1
  refine W.eq (g2 := F0 m 829 ls [.int (x_stateR σ ns kk (xs (6 * k + 1)) (xs (6 * k + 2)))]) rfl ?_
  refine lv_aload_n hx hb dL_law_829 rfl (lv_at hl 2 rfl) ?_
  refine w_arg1 hx hb hXs hbl hbA hS hl hL hk dL_law_830 dL_law_831 dL_law_833 dL_law_834 dL_law_835 ?_
  refine w_arg2 hx hb hXs hbl hbA hS hl hL hk dL_law_836 dL_law_837 dL_law_839 dL_law_840 dL_law_841 ?_
  refine g_cont0 (va_runV (As := [.int (xs (6 * k + 1)), .int (xs (6 * k + 2))]) (rest := [.int (x_stateR σ ns kk (xs (6 * k + 1)) (xs (6 * k + 2)))]) ⟨hx, hb, hml, hown, hts⟩ (c_X7_state l D cy LM μ (g_up μ (0, 0, 0) 0 0) rfl (xs (6 * k + 1)) (xs (6 * k + 2)) (rel_ns hR0).1 (rel_ns hR0).2) (cwV 2 hts gV_L_89 rfl rfl rfl (by decide +kernel) ⟨Nat.le_of_ble_eq_true rfl, Nat.le_of_ble_eq_true rfl⟩) (g_preV hK hN.1 hM1 (x := (0, 0, 0)) ⟨rfl, rfl⟩ (q := (RX7, TX7, 28)) (m_at_0 cy LM 0 0 (μ (0, 0, 0))) rfl) rfl rfl hl.1 rfl (lv_room (Nat.le_of_ble_eq_true rfl)) dL_law_842 ⟨by rw [hRM.1]; omega, by rw [hRM.2]; omega⟩) hS (fun q ⟨x, h1, h2⟩ => by rw [← h2]; exact lM x h1) (fun H2 locs2 hM2 hS hz2 hk2 => ?_)
  refine W.eq (g2 := F0 m 845 ls [.int (m_stateR (g_up μ (0, 0, 0) 0 0) (xs (6 * k + 1)) (xs (6 * k + 2))), .int (x_stateR σ ns kk (xs (6 * k + 1)) (xs (6 * k + 2)))]) rfl ?_
  obtain ⟨heq, hrel⟩ := r_state hR0 (xs (6 * k + 1)) (xs (6 * k + 2))
  refine kz_icmp_eq (X := ((x_stateR σ ns kk (xs (6 * k + 1)) (xs (6 * k + 2)))).toInt) (Y := ((m_stateR (g_up μ (0, 0, 0) 0 0) (xs (6 * k + 1)) (xs (6 * k + 2)))).toInt) hx hb rfl rfl dL_law_845 (tgt := 850) (by decide) (fun c9 => ?_) (fun c9 => absurd (congrArg Int32.toInt heq) c9)
  refine W.widen (k := 120 + 20 * k) (n := 20900 + 900 * k) (by omega) (by omega) ?_
  exact kk9 LX ns kk _ _ w0 H2 locs2 ls (hI.m hX1 hO1 hM2 hk2 hrel) hS hl
set_option maxHeartbeats 4000000 in
set_option maxRecDepth 100000 in
theorem lc_sort0 {p : Program} {l : Launch} {e : Env} {s : State} {m : MethodId} {below : List Frame} {meth : Method} {c : Code} {b L : Nat} {xs : Nat → Int32} {D : va_G} {cy : Nat → ClassId} {sa : Nat} {Q : State → Prop} {bo : Nat} {LM : g_S → Nat} (C0 : w_C p l s m meth c b L xs D cy sa) (k : Nat) (hk : 6 * k + 6 ≤ L) (kk9 : ∀ (LX : g_S → Nat) (ns : Nat) (kk : Nat → Nat) (σ μ : r_M) (w0 : Int64) (H : Heap) (locs : List Loc) (ls : Array Slot), w_I s D cy bo LM LX ns kk σ μ w0 H → va_S (fun q => s.heap.size ≤ q) s.heap H locs → lv_has ls 7 [(0, .ref b), (1, .ref (LX (0, 0, 0))), (2, .ref (LM (0, 0, 0))), (3, .ref bo), (4, .int (nI (6 * k)))] → W p l e room_1 s m #[Value.ref b] below meth c H locs (120 + 20 * k) (20900 + 900 * k) Q (F0 m 850 ls [])) (LX : g_S → Nat) (ns : Nat) (kk : Nat → Nat) (σ μ : r_M) (w0 : Int64) (H : Heap) (locs : List Loc) (ls : Array Slot) (hI : w_I s D cy bo LM LX ns kk σ μ w0 H) (hS : va_S (fun q => s.heap.size ≤ q) s.heap H locs) (hl : lv_has ls 7 [(0, .ref b), (1, .ref (LX (0, 0, 0))), (2, .ref (LM (0, 0, 0))), (3, .ref bo), (4, .int (nI (6 * k)))]) (hz : (xs (6 * k + 4)).toInt = 0) : W p l e room_1 s m #[Value.ref b] below meth c H locs (100 + 20 * k) (20000 + 900 * k) Q (F0 m 521 ls []) := by
  obtain ⟨⟨hx, hb, hml, hown, hts⟩, ⟨hK, hN, hE⟩, ⟨hXs, hbl⟩, ⟨hl0, hL⟩⟩ := C0
  have hbA : ¬ (fun q : Nat => s.heap.size ≤ q) b := Nat.not_le.mpr hbl
  obtain ⟨⟨hX, hM, hO⟩, ⟨d1, d2, d3⟩, ⟨lX, lM, lO⟩, hR⟩ := id hI
  have hR0 : rel ns kk σ (g_up μ (0, 0, 0) 0 0) := rel_thrown hR
  have hRM : room_1.cells = 603072 ∧ room_1.slots = 7194730 := ⟨rfl, rfl⟩
  refine lv_aload_n hx hb dL_law_521 rfl (lv_at hl 1 rfl) ?_
  refine w_arg1 hx hb hXs hbl hbA hS hl hL hk dL_law_522 dL_law_523 dL_law_525 dL_law_526 dL_law_527 ?_
  refine w_arg2 hx hb hXs hbl hbA hS hl hL hk dL_law_528 dL_law_529 dL_law_531 dL_law_532 dL_law_533 ?_
  refine w_arg3 hx hb hXs hbl hbA hS hl hL hk dL_law_534 dL_law_535 dL_law_537 dL_law_538 dL_law_539 ?_
  refine w_arg4 hx hb hXs hbl hbA hS hl hL hk dL_law_540 dL_law_541 dL_law_543 dL_law_544 dL_law_545 ?_
  refine kz_if_eq (X := (xs (6 * k + 4)).toInt) hx hb rfl dL_law_546 (tgt := 553) (by decide) (fun c8 => ?_) (fun c8 => absurd hz c8)
  refine lv_iconst (v := 0) hx hb dL_law_553 (by decide) ?_
  refine g_cont0 (va_runV (As := [.int (xs (6 * k + 1)), .int (xs (6 * k + 2)), .int (xs (6 * k + 3)), .int 0]) (rest := []) ⟨hx, hb, hml, hown, hts⟩ (c_X6_sort l D cy LX ns kk σ (xs (6 * k + 1)) (xs (6 * k + 2)) (xs (6 * k + 3)) 0 (rel_I hR)) (cwV 4 hts gV_L_58 rfl rfl rfl (by decide +kernel) ⟨Nat.le_of_ble_eq_true rfl, Nat.le_of_ble_eq_true rfl⟩) (g_preV hK hN.1 hX (x := (0, 0, 0)) ⟨rfl, rfl⟩ (q := (RX6, TX6, 4)) (x_at_0 cy LX ns kk 0 0 (σ (0, 0, 0))) rfl) rfl rfl hl.1 rfl (lv_room (Nat.le_of_ble_eq_true rfl)) dL_law_554 ⟨by rw [hRM.1]; omega, by rw [hRM.2]; omega⟩) hS (fun q ⟨x, h1, h2⟩ => by rw [← h2]; exact lX x h1) (fun H1 locs1 hX1 hS hz1 hk1 => ?_)
  obtain ⟨hM1, hO1⟩ := hI.x hX1 hk1
  refine W.eq (g2 := F0 m 557 ls [.int (x_sortR σ ns kk (xs (6 * k + 1)) (xs (6 * k + 2)) (xs (6 * k + 3)) 0)]) rfl ?_
  refine lv_aload_n hx hb dL_law_557 rfl (lv_at hl 2 rfl) ?_
  refine w_arg1 hx hb hXs hbl hbA hS hl hL hk dL_law_558 dL_law_559 dL_law_561 dL_law_562 dL_law_563 ?_
  refine w_arg2 hx hb hXs hbl hbA hS hl hL hk dL_law_564 dL_law_565 dL_law_567 dL_law_568 dL_law_569 ?_
  refine w_arg3 hx hb hXs hbl hbA hS hl hL hk dL_law_570 dL_law_571 dL_law_573 dL_law_574 dL_law_575 ?_
  refine w_arg4 hx hb hXs hbl hbA hS hl hL hk dL_law_576 dL_law_577 dL_law_579 dL_law_580 dL_law_581 ?_
  refine kz_if_eq (X := (xs (6 * k + 4)).toInt) hx hb rfl dL_law_582 (tgt := 589) (by decide) (fun c8 => ?_) (fun c8 => absurd hz c8)
  refine lv_iconst (v := 0) hx hb dL_law_589 (by decide) ?_
  refine g_cont0 (va_runV (As := [.int (xs (6 * k + 1)), .int (xs (6 * k + 2)), .int (xs (6 * k + 3)), .int 0]) (rest := [.int (x_sortR σ ns kk (xs (6 * k + 1)) (xs (6 * k + 2)) (xs (6 * k + 3)) 0)]) ⟨hx, hb, hml, hown, hts⟩ (c_X7_sort l D cy LM μ (g_up μ (0, 0, 0) 0 0) rfl (xs (6 * k + 1)) (xs (6 * k + 2)) (xs (6 * k + 3)) 0 (rel_ns hR0).1 (rel_ns hR0).2 (hR0.2.2.2.2.2.1 _).2 (fun t _ => hR0.2.2.2.2.2.2 _)) (cwV 4 hts gV_L_62 rfl rfl rfl (by decide +kernel) ⟨Nat.le_of_ble_eq_true rfl, Nat.le_of_ble_eq_true rfl⟩) (g_preV hK hN.1 hM1 (x := (0, 0, 0)) ⟨rfl, rfl⟩ (q := (RX7, TX7, 28)) (m_at_0 cy LM 0 0 (μ (0, 0, 0))) rfl) rfl rfl hl.1 rfl (lv_room (Nat.le_of_ble_eq_true rfl)) dL_law_590 ⟨by rw [hRM.1]; omega, by rw [hRM.2]; omega⟩) hS (fun q ⟨x, h1, h2⟩ => by rw [← h2]; exact lM x h1) (fun H2 locs2 hM2 hS hz2 hk2 => ?_)
  refine W.eq (g2 := F0 m 593 ls [.int (m_sortR (g_up μ (0, 0, 0) 0 0) (xs (6 * k + 1)) (xs (6 * k + 2)) (xs (6 * k + 3)) 0), .int (x_sortR σ ns kk (xs (6 * k + 1)) (xs (6 * k + 2)) (xs (6 * k + 3)) 0)]) rfl ?_
  obtain ⟨heq, hrel⟩ := r_sort hR0 (xs (6 * k + 1)) (xs (6 * k + 2)) (xs (6 * k + 3)) 0
  refine kz_icmp_eq (X := ((x_sortR σ ns kk (xs (6 * k + 1)) (xs (6 * k + 2)) (xs (6 * k + 3)) 0)).toInt) (Y := ((m_sortR (g_up μ (0, 0, 0) 0 0) (xs (6 * k + 1)) (xs (6 * k + 2)) (xs (6 * k + 3)) 0)).toInt) hx hb rfl rfl dL_law_593 (tgt := 850) (by decide) (fun c9 => ?_) (fun c9 => absurd (congrArg Int32.toInt heq) c9)
  refine W.widen (k := 120 + 20 * k) (n := 20900 + 900 * k) (by omega) (by omega) ?_
  exact kk9 LX ns kk _ _ w0 H2 locs2 ls (hI.m hX1 hO1 hM2 hk2 hrel) hS hl
set_option maxHeartbeats 4000000 in
set_option maxRecDepth 100000 in
theorem lc_sort1 {p : Program} {l : Launch} {e : Env} {s : State} {m : MethodId} {below : List Frame} {meth : Method} {c : Code} {b L : Nat} {xs : Nat → Int32} {D : va_G} {cy : Nat → ClassId} {sa : Nat} {Q : State → Prop} {bo : Nat} {LM : g_S → Nat} (C0 : w_C p l s m meth c b L xs D cy sa) (k : Nat) (hk : 6 * k + 6 ≤ L) (kk9 : ∀ (LX : g_S → Nat) (ns : Nat) (kk : Nat → Nat) (σ μ : r_M) (w0 : Int64) (H : Heap) (locs : List Loc) (ls : Array Slot), w_I s D cy bo LM LX ns kk σ μ w0 H → va_S (fun q => s.heap.size ≤ q) s.heap H locs → lv_has ls 7 [(0, .ref b), (1, .ref (LX (0, 0, 0))), (2, .ref (LM (0, 0, 0))), (3, .ref bo), (4, .int (nI (6 * k)))] → W p l e room_1 s m #[Value.ref b] below meth c H locs (120 + 20 * k) (20900 + 900 * k) Q (F0 m 850 ls [])) (LX : g_S → Nat) (ns : Nat) (kk : Nat → Nat) (σ μ : r_M) (w0 : Int64) (H : Heap) (locs : List Loc) (ls : Array Slot) (hI : w_I s D cy bo LM LX ns kk σ μ w0 H) (hS : va_S (fun q => s.heap.size ≤ q) s.heap H locs) (hl : lv_has ls 7 [(0, .ref b), (1, .ref (LX (0, 0, 0))), (2, .ref (LM (0, 0, 0))), (3, .ref bo), (4, .int (nI (6 * k)))]) (hz : ¬ (xs (6 * k + 4)).toInt = 0) : W p l e room_1 s m #[Value.ref b] below meth c H locs (100 + 20 * k) (20000 + 900 * k) Q (F0 m 521 ls []) := by
  obtain ⟨⟨hx, hb, hml, hown, hts⟩, ⟨hK, hN, hE⟩, ⟨hXs, hbl⟩, ⟨hl0, hL⟩⟩ := C0
  have hbA : ¬ (fun q : Nat => s.heap.size ≤ q) b := Nat.not_le.mpr hbl
  obtain ⟨⟨hX, hM, hO⟩, ⟨d1, d2, d3⟩, ⟨lX, lM, lO⟩, hR⟩ := id hI
  have hR0 : rel ns kk σ (g_up μ (0, 0, 0) 0 0) := rel_thrown hR
  have hRM : room_1.cells = 603072 ∧ room_1.slots = 7194730 := ⟨rfl, rfl⟩
  refine lv_aload_n hx hb dL_law_521 rfl (lv_at hl 1 rfl) ?_
  refine w_arg1 hx hb hXs hbl hbA hS hl hL hk dL_law_522 dL_law_523 dL_law_525 dL_law_526 dL_law_527 ?_
  refine w_arg2 hx hb hXs hbl hbA hS hl hL hk dL_law_528 dL_law_529 dL_law_531 dL_law_532 dL_law_533 ?_
  refine w_arg3 hx hb hXs hbl hbA hS hl hL hk dL_law_534 dL_law_535 dL_law_537 dL_law_538 dL_law_539 ?_
  refine w_arg4 hx hb hXs hbl hbA hS hl hL hk dL_law_540 dL_law_541 dL_law_543 dL_law_544 dL_law_545 ?_
  refine kz_if_eq (X := (xs (6 * k + 4)).toInt) hx hb rfl dL_law_546 (tgt := 553) (by decide) (fun c8 => absurd c8 hz) (fun c8 => ?_)
  refine lv_iconst (v := 1) hx hb dL_law_549 (by decide) ?_
  refine lv_goto (tgt := 554) hx hb dL_law_550 (by decide) ?_
  refine g_cont0 (va_runV (As := [.int (xs (6 * k + 1)), .int (xs (6 * k + 2)), .int (xs (6 * k + 3)), .int 1]) (rest := []) ⟨hx, hb, hml, hown, hts⟩ (c_X6_sort l D cy LX ns kk σ (xs (6 * k + 1)) (xs (6 * k + 2)) (xs (6 * k + 3)) 1 (rel_I hR)) (cwV 4 hts gV_L_58 rfl rfl rfl (by decide +kernel) ⟨Nat.le_of_ble_eq_true rfl, Nat.le_of_ble_eq_true rfl⟩) (g_preV hK hN.1 hX (x := (0, 0, 0)) ⟨rfl, rfl⟩ (q := (RX6, TX6, 4)) (x_at_0 cy LX ns kk 0 0 (σ (0, 0, 0))) rfl) rfl rfl hl.1 rfl (lv_room (Nat.le_of_ble_eq_true rfl)) dL_law_554 ⟨by rw [hRM.1]; omega, by rw [hRM.2]; omega⟩) hS (fun q ⟨x, h1, h2⟩ => by rw [← h2]; exact lX x h1) (fun H1 locs1 hX1 hS hz1 hk1 => ?_)
  obtain ⟨hM1, hO1⟩ := hI.x hX1 hk1
  refine W.eq (g2 := F0 m 557 ls [.int (x_sortR σ ns kk (xs (6 * k + 1)) (xs (6 * k + 2)) (xs (6 * k + 3)) 1)]) rfl ?_
  refine lv_aload_n hx hb dL_law_557 rfl (lv_at hl 2 rfl) ?_
  refine w_arg1 hx hb hXs hbl hbA hS hl hL hk dL_law_558 dL_law_559 dL_law_561 dL_law_562 dL_law_563 ?_
  refine w_arg2 hx hb hXs hbl hbA hS hl hL hk dL_law_564 dL_law_565 dL_law_567 dL_law_568 dL_law_569 ?_
  refine w_arg3 hx hb hXs hbl hbA hS hl hL hk dL_law_570 dL_law_571 dL_law_573 dL_law_574 dL_law_575 ?_
  refine w_arg4 hx hb hXs hbl hbA hS hl hL hk dL_law_576 dL_law_577 dL_law_579 dL_law_580 dL_law_581 ?_
  refine kz_if_eq (X := (xs (6 * k + 4)).toInt) hx hb rfl dL_law_582 (tgt := 589) (by decide) (fun c8 => absurd c8 hz) (fun c8 => ?_)
  refine lv_iconst (v := 1) hx hb dL_law_585 (by decide) ?_
  refine lv_goto (tgt := 590) hx hb dL_law_586 (by decide) ?_
  refine g_cont0 (va_runV (As := [.int (xs (6 * k + 1)), .int (xs (6 * k + 2)), .int (xs (6 * k + 3)), .int 1]) (rest := [.int (x_sortR σ ns kk (xs (6 * k + 1)) (xs (6 * k + 2)) (xs (6 * k + 3)) 1)]) ⟨hx, hb, hml, hown, hts⟩ (c_X7_sort l D cy LM μ (g_up μ (0, 0, 0) 0 0) rfl (xs (6 * k + 1)) (xs (6 * k + 2)) (xs (6 * k + 3)) 1 (rel_ns hR0).1 (rel_ns hR0).2 (hR0.2.2.2.2.2.1 _).2 (fun t _ => hR0.2.2.2.2.2.2 _)) (cwV 4 hts gV_L_62 rfl rfl rfl (by decide +kernel) ⟨Nat.le_of_ble_eq_true rfl, Nat.le_of_ble_eq_true rfl⟩) (g_preV hK hN.1 hM1 (x := (0, 0, 0)) ⟨rfl, rfl⟩ (q := (RX7, TX7, 28)) (m_at_0 cy LM 0 0 (μ (0, 0, 0))) rfl) rfl rfl hl.1 rfl (lv_room (Nat.le_of_ble_eq_true rfl)) dL_law_590 ⟨by rw [hRM.1]; omega, by rw [hRM.2]; omega⟩) hS (fun q ⟨x, h1, h2⟩ => by rw [← h2]; exact lM x h1) (fun H2 locs2 hM2 hS hz2 hk2 => ?_)
  refine W.eq (g2 := F0 m 593 ls [.int (m_sortR (g_up μ (0, 0, 0) 0 0) (xs (6 * k + 1)) (xs (6 * k + 2)) (xs (6 * k + 3)) 1), .int (x_sortR σ ns kk (xs (6 * k + 1)) (xs (6 * k + 2)) (xs (6 * k + 3)) 1)]) rfl ?_
  obtain ⟨heq, hrel⟩ := r_sort hR0 (xs (6 * k + 1)) (xs (6 * k + 2)) (xs (6 * k + 3)) 1
  refine kz_icmp_eq (X := ((x_sortR σ ns kk (xs (6 * k + 1)) (xs (6 * k + 2)) (xs (6 * k + 3)) 1)).toInt) (Y := ((m_sortR (g_up μ (0, 0, 0) 0 0) (xs (6 * k + 1)) (xs (6 * k + 2)) (xs (6 * k + 3)) 1)).toInt) hx hb rfl rfl dL_law_593 (tgt := 850) (by decide) (fun c9 => ?_) (fun c9 => absurd (congrArg Int32.toInt heq) c9)
  refine W.widen (k := 120 + 20 * k) (n := 20900 + 900 * k) (by omega) (by omega) ?_
  exact kk9 LX ns kk _ _ w0 H2 locs2 ls (hI.m hX1 hO1 hM2 hk2 hrel) hS hl
set_option maxHeartbeats 4000000 in
set_option maxRecDepth 100000 in
theorem lc_session0 {p : Program} {l : Launch} {e : Env} {s : State} {m : MethodId} {below : List Frame} {meth : Method} {c : Code} {b L : Nat} {xs : Nat → Int32} {D : va_G} {cy : Nat → ClassId} {sa : Nat} {Q : State → Prop} {bo : Nat} {LM : g_S → Nat} (C0 : w_C p l s m meth c b L xs D cy sa) (k : Nat) (hk : 6 * k + 6 ≤ L) (kk9 : ∀ (LX : g_S → Nat) (ns : Nat) (kk : Nat → Nat) (σ μ : r_M) (w0 : Int64) (H : Heap) (locs : List Loc) (ls : Array Slot), w_I s D cy bo LM LX ns kk σ μ w0 H → va_S (fun q => s.heap.size ≤ q) s.heap H locs → lv_has ls 7 [(0, .ref b), (1, .ref (LX (0, 0, 0))), (2, .ref (LM (0, 0, 0))), (3, .ref bo), (4, .int (nI (6 * k)))] → W p l e room_1 s m #[Value.ref b] below meth c H locs (120 + 20 * k) (20900 + 900 * k) Q (F0 m 850 ls [])) (LX : g_S → Nat) (ns : Nat) (kk : Nat → Nat) (σ μ : r_M) (w0 : Int64) (H : Heap) (locs : List Loc) (ls : Array Slot) (hI : w_I s D cy bo LM LX ns kk σ μ w0 H) (hS : va_S (fun q => s.heap.size ≤ q) s.heap H locs) (hl : lv_has ls 7 [(0, .ref b), (1, .ref (LX (0, 0, 0))), (2, .ref (LM (0, 0, 0))), (3, .ref bo), (4, .int (nI (6 * k)))]) (hC : ¬ (0 ≤ (xs (6 * k + 1)).toInt ∧ (xs (6 * k + 1)).toInt ≤ 7 ∧ 1 ≤ (xs (6 * k + 2)).toInt ∧ (xs (6 * k + 2)).toInt ≤ 1000 ∧ ns < 8)) : W p l e room_1 s m #[Value.ref b] below meth c H locs (100 + 20 * k) (20000 + 900 * k) Q (F0 m 251 ls []) := by
  obtain ⟨⟨hx, hb, hml, hown, hts⟩, ⟨hK, hN, hE⟩, ⟨hXs, hbl⟩, ⟨hl0, hL⟩⟩ := C0
  have hbA : ¬ (fun q : Nat => s.heap.size ≤ q) b := Nat.not_le.mpr hbl
  obtain ⟨⟨hX, hM, hO⟩, ⟨d1, d2, d3⟩, ⟨lX, lM, lO⟩, hR⟩ := id hI
  have hR0 : rel ns kk σ (g_up μ (0, 0, 0) 0 0) := rel_thrown hR
  have hRM : room_1.cells = 603072 ∧ room_1.slots = 7194730 := ⟨rfl, rfl⟩
  refine lv_aload_n hx hb dL_law_251 rfl (lv_at hl 1 rfl) ?_
  refine w_arg1 hx hb hXs hbl hbA hS hl hL hk dL_law_252 dL_law_253 dL_law_255 dL_law_256 dL_law_257 ?_
  refine w_arg2 hx hb hXs hbl hbA hS hl hL hk dL_law_258 dL_law_259 dL_law_261 dL_law_262 dL_law_263 ?_
  have h5 : (σ (0, 0, 0) 3).toInt = (ns : Int) := by rw [hR.2.2.1.1]; exact hR.2.2.1.2.1
  refine g_cont0 (va_runV (As := [.int (xs (6 * k + 1)), .int (xs (6 * k + 2))]) (rest := []) ⟨hx, hb, hml, hown, hts⟩ (c_X6_sessionN l D cy LX ns kk σ (xs (6 * k + 1)) (xs (6 * k + 2)) h5 hC) (cwV 2 hts gV_L_33 rfl rfl rfl (by decide +kernel) ⟨Nat.le_of_ble_eq_true rfl, Nat.le_of_ble_eq_true rfl⟩) (g_preV hK hN.1 hX (x := (0, 0, 0)) ⟨rfl, rfl⟩ (q := (RX6, TX6, 4)) (x_at_0 cy LX ns kk 0 0 (σ (0, 0, 0))) rfl) rfl rfl hl.1 rfl (lv_room (Nat.le_of_ble_eq_true rfl)) dL_law_264 ⟨by rw [hRM.1]; omega, by rw [hRM.2]; omega⟩) hS (fun q ⟨x, h1, h2⟩ => by rw [← h2]; exact lX x h1) (fun H1 locs1 hX1 hS hz1 hk1 => ?_)
  obtain ⟨hM1, hO1⟩ := hI.x hX1 hk1
  refine W.eq (g2 := F0 m 267 ls [.int (-1)]) rfl ?_
  refine lv_aload_n hx hb dL_law_267 rfl (lv_at hl 2 rfl) ?_
  refine w_arg1 hx hb hXs hbl hbA hS hl hL hk dL_law_268 dL_law_269 dL_law_271 dL_law_272 dL_law_273 ?_
  refine w_arg2 hx hb hXs hbl hbA hS hl hL hk dL_law_274 dL_law_275 dL_law_277 dL_law_278 dL_law_279 ?_
  refine g_cont0 (va_runV (As := [.int (xs (6 * k + 1)), .int (xs (6 * k + 2))]) (rest := [.int (-1)]) ⟨hx, hb, hml, hown, hts⟩ (c_X7_session l D cy LM μ (g_up μ (0, 0, 0) 0 0) rfl (xs (6 * k + 1)) (xs (6 * k + 2)) (rel_ns hR0).1 (rel_ns hR0).2) (cwV 2 hts gV_L_37 rfl rfl rfl (by decide +kernel) ⟨Nat.le_of_ble_eq_true rfl, Nat.le_of_ble_eq_true rfl⟩) (g_preV hK hN.1 hM1 (x := (0, 0, 0)) ⟨rfl, rfl⟩ (q := (RX7, TX7, 28)) (m_at_0 cy LM 0 0 (μ (0, 0, 0))) rfl) rfl rfl hl.1 rfl (lv_room (Nat.le_of_ble_eq_true rfl)) dL_law_280 ⟨by rw [hRM.1]; omega, by rw [hRM.2]; omega⟩) hS (fun q ⟨x, h1, h2⟩ => by rw [← h2]; exact lM x h1) (fun H2 locs2 hM2 hS hz2 hk2 => ?_)
  refine W.eq (g2 := F0 m 283 ls [.int (m_sesR (g_up μ (0, 0, 0) 0 0) (xs (6 * k + 1)) (xs (6 * k + 2))), .int (-1)]) rfl ?_
  obtain ⟨heq, hrel⟩ := r_sessionN hR0 (xs (6 * k + 1)) (xs (6 * k + 2)) hC
  refine kz_icmp_eq (X := (-1)) (Y := ((m_sesR (g_up μ (0, 0, 0) 0 0) (xs (6 * k + 1)) (xs (6 * k + 2)))).toInt) hx hb (by decide) rfl dL_law_283 (tgt := 850) (by decide) (fun c9 => ?_) (fun c9 => absurd ((show (-1 : Int) = (-1 : Int32).toInt from rfl).trans (congrArg Int32.toInt heq)) c9)
  refine W.widen (k := 120 + 20 * k) (n := 20900 + 900 * k) (by omega) (by omega) ?_
  exact kk9 LX ns kk _ _ w0 H2 locs2 ls (hI.m hX1 hO1 hM2 hk2 hrel) hS hl
set_option maxHeartbeats 4000000 in
set_option maxRecDepth 100000 in
theorem lc_session1 {p : Program} {l : Launch} {e : Env} {s : State} {m : MethodId} {below : List Frame} {meth : Method} {c : Code} {b L : Nat} {xs : Nat → Int32} {D : va_G} {cy : Nat → ClassId} {sa : Nat} {Q : State → Prop} {bo : Nat} {LM : g_S → Nat} (C0 : w_C p l s m meth c b L xs D cy sa) (k : Nat) (hk : 6 * k + 6 ≤ L) (kk9 : ∀ (LX : g_S → Nat) (ns : Nat) (kk : Nat → Nat) (σ μ : r_M) (w0 : Int64) (H : Heap) (locs : List Loc) (ls : Array Slot), w_I s D cy bo LM LX ns kk σ μ w0 H → va_S (fun q => s.heap.size ≤ q) s.heap H locs → lv_has ls 7 [(0, .ref b), (1, .ref (LX (0, 0, 0))), (2, .ref (LM (0, 0, 0))), (3, .ref bo), (4, .int (nI (6 * k)))] → W p l e room_1 s m #[Value.ref b] below meth c H locs (120 + 20 * k) (20900 + 900 * k) Q (F0 m 850 ls [])) (LX : g_S → Nat) (ns : Nat) (kk : Nat → Nat) (σ μ : r_M) (w0 : Int64) (H : Heap) (locs : List Loc) (ls : Array Slot) (hI : w_I s D cy bo LM LX ns kk σ μ w0 H) (hS : va_S (fun q => s.heap.size ≤ q) s.heap H locs) (hl : lv_has ls 7 [(0, .ref b), (1, .ref (LX (0, 0, 0))), (2, .ref (LM (0, 0, 0))), (3, .ref bo), (4, .int (nI (6 * k)))]) (hC : 0 ≤ (xs (6 * k + 1)).toInt ∧ (xs (6 * k + 1)).toInt ≤ 7 ∧ 1 ≤ (xs (6 * k + 2)).toInt ∧ (xs (6 * k + 2)).toInt ≤ 1000 ∧ ns < 8) (h8 : ((xs (6 * k + 1)) &&& 4).toInt = 0) : W p l e room_1 s m #[Value.ref b] below meth c H locs (100 + 20 * k) (20000 + 900 * k) Q (F0 m 251 ls []) := by
  obtain ⟨⟨hx, hb, hml, hown, hts⟩, ⟨hK, hN, hE⟩, ⟨hXs, hbl⟩, ⟨hl0, hL⟩⟩ := C0
  have hbA : ¬ (fun q : Nat => s.heap.size ≤ q) b := Nat.not_le.mpr hbl
  obtain ⟨⟨hX, hM, hO⟩, ⟨d1, d2, d3⟩, ⟨lX, lM, lO⟩, hR⟩ := id hI
  have hR0 : rel ns kk σ (g_up μ (0, 0, 0) 0 0) := rel_thrown hR
  have hRM : room_1.cells = 603072 ∧ room_1.slots = 7194730 := ⟨rfl, rfl⟩
  refine lv_aload_n hx hb dL_law_251 rfl (lv_at hl 1 rfl) ?_
  refine w_arg1 hx hb hXs hbl hbA hS hl hL hk dL_law_252 dL_law_253 dL_law_255 dL_law_256 dL_law_257 ?_
  refine w_arg2 hx hb hXs hbl hbA hS hl hL hk dL_law_258 dL_law_259 dL_law_261 dL_law_262 dL_law_263 ?_
  have h5 : (σ (0, 0, 0) 3).toInt = (ns : Int) := by rw [hR.2.2.1.1]; exact hR.2.2.1.2.1
  refine h_cont (va_runV (As := [.int (xs (6 * k + 1)), .int (xs (6 * k + 2))]) (rest := []) ⟨hx, hb, hml, hown, hts⟩ (k_X6_session1 l D cy LX ns kk σ H.size (xs (6 * k + 1)) (xs (6 * k + 2)) hC.1 hC.2.1 hC.2.2.1 hC.2.2.2.1 h5 hC.2.2.2.2 h8) (cwV 2 hts gV_L_33 rfl rfl rfl (by decide +kernel) ⟨Nat.le_of_ble_eq_true rfl, Nat.le_of_ble_eq_true rfl⟩) (h_preV hK hN hX (x := (0, 0, 0)) ⟨rfl, rfl⟩ (q := (RX6, TX6, 4)) (x_at_0 cy LX ns kk 0 0 (σ (0, 0, 0))) rfl) rfl rfl hl.1 rfl (lv_room (Nat.le_of_ble_eq_true rfl)) dL_law_264 ⟨by rw [hRM.1]; omega, by rw [hRM.2]; omega⟩) hS (fun q hq => hq.elim (fun ⟨x, h1, h2⟩ => by rw [← h2]; exact lX x h1) (fun h => Nat.le_trans hS.1 h)) (fun LY H1 locs1 hL9 hn9 hX1 hS1 hz1 hk1 => ?_)
  have hM1 := hM.kept (fun y hy => hk1 _ (hM.lt hy) (fun h => h.elim (fun ⟨x, a, b⟩ => d1 x y a hy b) (fun h => absurd (hM.lt hy) (Nat.not_lt.mpr h))))
  have hb1 : bo < H.size := (Array.getElem?_eq_some_iff.mp hO).1
  have hO1 : w_O cy bo w0 H1 := (hk1 bo hb1 (fun h => h.elim (fun ⟨x, a, b⟩ => d2 x a b) (fun h => absurd hb1 (Nat.not_lt.mpr h)))).trans hO
  have dY1 : ∀ x y, x_dom (ns + 1) (x_kk kk ns (xs (6 * k + 1))) x → m_dom y → LY x ≠ LM y := fun x y hx hy q => (hn9 x hx).elim (fun h => d1 x y h hy (by rw [← hL9 x h]; exact q)) (fun h => by have := hM.lt hy; omega)
  have dY2 : ∀ x, x_dom (ns + 1) (x_kk kk ns (xs (6 * k + 1))) x → LY x ≠ bo := fun x hx q => (hn9 x hx).elim (fun h => d2 x h (by rw [← hL9 x h]; exact q)) (fun h => by omega)
  have lY : ∀ x, x_dom (ns + 1) (x_kk kk ns (xs (6 * k + 1))) x → s.heap.size ≤ LY x := fun x hx => (hn9 x hx).elim (fun h => by rw [hL9 x h]; exact lX x h) (fun h => Nat.le_trans hS.1 h)
  have hl : lv_has ls 7 [(0, .ref b), (1, .ref (LY (0, 0, 0))), (2, .ref (LM (0, 0, 0))), (3, .ref bo), (4, .int (nI (6 * k)))] := by rw [hL9 (0, 0, 0) ⟨rfl, rfl⟩]; exact hl
  have hS := hS1
  refine W.eq (g2 := F0 m 267 ls [.int (σ (0, 0, 0) 3)]) rfl ?_
  refine lv_aload_n hx hb dL_law_267 rfl (lv_at hl 2 rfl) ?_
  refine w_arg1 hx hb hXs hbl hbA hS hl hL hk dL_law_268 dL_law_269 dL_law_271 dL_law_272 dL_law_273 ?_
  refine w_arg2 hx hb hXs hbl hbA hS hl hL hk dL_law_274 dL_law_275 dL_law_277 dL_law_278 dL_law_279 ?_
  refine g_cont0 (va_runV (As := [.int (xs (6 * k + 1)), .int (xs (6 * k + 2))]) (rest := [.int (σ (0, 0, 0) 3)]) ⟨hx, hb, hml, hown, hts⟩ (c_X7_session l D cy LM μ (g_up μ (0, 0, 0) 0 0) rfl (xs (6 * k + 1)) (xs (6 * k + 2)) (rel_ns hR0).1 (rel_ns hR0).2) (cwV 2 hts gV_L_37 rfl rfl rfl (by decide +kernel) ⟨Nat.le_of_ble_eq_true rfl, Nat.le_of_ble_eq_true rfl⟩) (g_preV hK hN.1 hM1 (x := (0, 0, 0)) ⟨rfl, rfl⟩ (q := (RX7, TX7, 28)) (m_at_0 cy LM 0 0 (μ (0, 0, 0))) rfl) rfl rfl hl.1 rfl (lv_room (Nat.le_of_ble_eq_true rfl)) dL_law_280 ⟨by rw [hRM.1]; omega, by rw [hRM.2]; omega⟩) hS (fun q ⟨x, h1, h2⟩ => by rw [← h2]; exact lM x h1) (fun H2 locs2 hM2 hS hz2 hk2 => ?_)
  refine W.eq (g2 := F0 m 283 ls [.int (m_sesR (g_up μ (0, 0, 0) 0 0) (xs (6 * k + 1)) (xs (6 * k + 2))), .int (σ (0, 0, 0) 3)]) rfl ?_
  obtain ⟨heq, hrel⟩ := r_sessionY hR0 (xs (6 * k + 1)) (xs (6 * k + 2)) hC
  refine kz_icmp_eq (X := ((σ (0, 0, 0) 3)).toInt) (Y := ((m_sesR (g_up μ (0, 0, 0) 0 0) (xs (6 * k + 1)) (xs (6 * k + 2)))).toInt) hx hb rfl rfl dL_law_283 (tgt := 850) (by decide) (fun c9 => ?_) (fun c9 => absurd (congrArg Int32.toInt heq) c9)
  refine W.widen (k := 120 + 20 * k) (n := 20900 + 900 * k) (by omega) (by omega) ?_
  exact kk9 LY (ns + 1) _ _ _ w0 H2 locs2 ls (w_Im hX1 hO1 hM2 hk2 ⟨dY1, dY2, d3⟩ ⟨lY, lM, lO⟩ hrel) hS hl
set_option maxHeartbeats 4000000 in
set_option maxRecDepth 100000 in
theorem lc_session5 {p : Program} {l : Launch} {e : Env} {s : State} {m : MethodId} {below : List Frame} {meth : Method} {c : Code} {b L : Nat} {xs : Nat → Int32} {D : va_G} {cy : Nat → ClassId} {sa : Nat} {Q : State → Prop} {bo : Nat} {LM : g_S → Nat} (C0 : w_C p l s m meth c b L xs D cy sa) (k : Nat) (hk : 6 * k + 6 ≤ L) (kk9 : ∀ (LX : g_S → Nat) (ns : Nat) (kk : Nat → Nat) (σ μ : r_M) (w0 : Int64) (H : Heap) (locs : List Loc) (ls : Array Slot), w_I s D cy bo LM LX ns kk σ μ w0 H → va_S (fun q => s.heap.size ≤ q) s.heap H locs → lv_has ls 7 [(0, .ref b), (1, .ref (LX (0, 0, 0))), (2, .ref (LM (0, 0, 0))), (3, .ref bo), (4, .int (nI (6 * k)))] → W p l e room_1 s m #[Value.ref b] below meth c H locs (120 + 20 * k) (20900 + 900 * k) Q (F0 m 850 ls [])) (LX : g_S → Nat) (ns : Nat) (kk : Nat → Nat) (σ μ : r_M) (w0 : Int64) (H : Heap) (locs : List Loc) (ls : Array Slot) (hI : w_I s D cy bo LM LX ns kk σ μ w0 H) (hS : va_S (fun q => s.heap.size ≤ q) s.heap H locs) (hl : lv_has ls 7 [(0, .ref b), (1, .ref (LX (0, 0, 0))), (2, .ref (LM (0, 0, 0))), (3, .ref bo), (4, .int (nI (6 * k)))]) (hC : 0 ≤ (xs (6 * k + 1)).toInt ∧ (xs (6 * k + 1)).toInt ≤ 7 ∧ 1 ≤ (xs (6 * k + 2)).toInt ∧ (xs (6 * k + 2)).toInt ≤ 1000 ∧ ns < 8) (h8 : ¬ ((xs (6 * k + 1)) &&& 4).toInt = 0) : W p l e room_1 s m #[Value.ref b] below meth c H locs (100 + 20 * k) (20000 + 900 * k) Q (F0 m 251 ls []) := by
  obtain ⟨⟨hx, hb, hml, hown, hts⟩, ⟨hK, hN, hE⟩, ⟨hXs, hbl⟩, ⟨hl0, hL⟩⟩ := C0
  have hbA : ¬ (fun q : Nat => s.heap.size ≤ q) b := Nat.not_le.mpr hbl
  obtain ⟨⟨hX, hM, hO⟩, ⟨d1, d2, d3⟩, ⟨lX, lM, lO⟩, hR⟩ := id hI
  have hR0 : rel ns kk σ (g_up μ (0, 0, 0) 0 0) := rel_thrown hR
  have hRM : room_1.cells = 603072 ∧ room_1.slots = 7194730 := ⟨rfl, rfl⟩
  refine lv_aload_n hx hb dL_law_251 rfl (lv_at hl 1 rfl) ?_
  refine w_arg1 hx hb hXs hbl hbA hS hl hL hk dL_law_252 dL_law_253 dL_law_255 dL_law_256 dL_law_257 ?_
  refine w_arg2 hx hb hXs hbl hbA hS hl hL hk dL_law_258 dL_law_259 dL_law_261 dL_law_262 dL_law_263 ?_
  have h5 : (σ (0, 0, 0) 3).toInt = (ns : Int) := by rw [hR.2.2.1.1]; exact hR.2.2.1.2.1
  refine h_cont (va_runV (As := [.int (xs (6 * k + 1)), .int (xs (6 * k + 2))]) (rest := []) ⟨hx, hb, hml, hown, hts⟩ (k_X6_session5 l D cy LX ns kk σ H.size (xs (6 * k + 1)) (xs (6 * k + 2)) hC.1 hC.2.1 hC.2.2.1 hC.2.2.2.1 h5 hC.2.2.2.2 h8) (cwV 2 hts gV_L_33 rfl rfl rfl (by decide +kernel) ⟨Nat.le_of_ble_eq_true rfl, Nat.le_of_ble_eq_true rfl⟩) (h_preV hK hN hX (x := (0, 0, 0)) ⟨rfl, rfl⟩ (q := (RX6, TX6, 4)) (x_at_0 cy LX ns kk 0 0 (σ (0, 0, 0))) rfl) rfl rfl hl.1 rfl (lv_room (Nat.le_of_ble_eq_true rfl)) dL_law_264 ⟨by rw [hRM.1]; omega, by rw [hRM.2]; omega⟩) hS (fun q hq => hq.elim (fun ⟨x, h1, h2⟩ => by rw [← h2]; exact lX x h1) (fun h => Nat.le_trans hS.1 h)) (fun LY H1 locs1 hL9 hn9 hX1 hS1 hz1 hk1 => ?_)
  have hM1 := hM.kept (fun y hy => hk1 _ (hM.lt hy) (fun h => h.elim (fun ⟨x, a, b⟩ => d1 x y a hy b) (fun h => absurd (hM.lt hy) (Nat.not_lt.mpr h))))
  have hb1 : bo < H.size := (Array.getElem?_eq_some_iff.mp hO).1
  have hO1 : w_O cy bo w0 H1 := (hk1 bo hb1 (fun h => h.elim (fun ⟨x, a, b⟩ => d2 x a b) (fun h => absurd hb1 (Nat.not_lt.mpr h)))).trans hO
  have dY1 : ∀ x y, x_dom (ns + 1) (x_kk kk ns (xs (6 * k + 1))) x → m_dom y → LY x ≠ LM y := fun x y hx hy q => (hn9 x hx).elim (fun h => d1 x y h hy (by rw [← hL9 x h]; exact q)) (fun h => by have := hM.lt hy; omega)
  have dY2 : ∀ x, x_dom (ns + 1) (x_kk kk ns (xs (6 * k + 1))) x → LY x ≠ bo := fun x hx q => (hn9 x hx).elim (fun h => d2 x h (by rw [← hL9 x h]; exact q)) (fun h => by omega)
  have lY : ∀ x, x_dom (ns + 1) (x_kk kk ns (xs (6 * k + 1))) x → s.heap.size ≤ LY x := fun x hx => (hn9 x hx).elim (fun h => by rw [hL9 x h]; exact lX x h) (fun h => Nat.le_trans hS.1 h)
  have hl : lv_has ls 7 [(0, .ref b), (1, .ref (LY (0, 0, 0))), (2, .ref (LM (0, 0, 0))), (3, .ref bo), (4, .int (nI (6 * k)))] := by rw [hL9 (0, 0, 0) ⟨rfl, rfl⟩]; exact hl
  have hS := hS1
  refine W.eq (g2 := F0 m 267 ls [.int (σ (0, 0, 0) 3)]) rfl ?_
  refine lv_aload_n hx hb dL_law_267 rfl (lv_at hl 2 rfl) ?_
  refine w_arg1 hx hb hXs hbl hbA hS hl hL hk dL_law_268 dL_law_269 dL_law_271 dL_law_272 dL_law_273 ?_
  refine w_arg2 hx hb hXs hbl hbA hS hl hL hk dL_law_274 dL_law_275 dL_law_277 dL_law_278 dL_law_279 ?_
  refine g_cont0 (va_runV (As := [.int (xs (6 * k + 1)), .int (xs (6 * k + 2))]) (rest := [.int (σ (0, 0, 0) 3)]) ⟨hx, hb, hml, hown, hts⟩ (c_X7_session l D cy LM μ (g_up μ (0, 0, 0) 0 0) rfl (xs (6 * k + 1)) (xs (6 * k + 2)) (rel_ns hR0).1 (rel_ns hR0).2) (cwV 2 hts gV_L_37 rfl rfl rfl (by decide +kernel) ⟨Nat.le_of_ble_eq_true rfl, Nat.le_of_ble_eq_true rfl⟩) (g_preV hK hN.1 hM1 (x := (0, 0, 0)) ⟨rfl, rfl⟩ (q := (RX7, TX7, 28)) (m_at_0 cy LM 0 0 (μ (0, 0, 0))) rfl) rfl rfl hl.1 rfl (lv_room (Nat.le_of_ble_eq_true rfl)) dL_law_280 ⟨by rw [hRM.1]; omega, by rw [hRM.2]; omega⟩) hS (fun q ⟨x, h1, h2⟩ => by rw [← h2]; exact lM x h1) (fun H2 locs2 hM2 hS hz2 hk2 => ?_)
  refine W.eq (g2 := F0 m 283 ls [.int (m_sesR (g_up μ (0, 0, 0) 0 0) (xs (6 * k + 1)) (xs (6 * k + 2))), .int (σ (0, 0, 0) 3)]) rfl ?_
  obtain ⟨heq, hrel⟩ := r_sessionY hR0 (xs (6 * k + 1)) (xs (6 * k + 2)) hC
  refine kz_icmp_eq (X := ((σ (0, 0, 0) 3)).toInt) (Y := ((m_sesR (g_up μ (0, 0, 0) 0 0) (xs (6 * k + 1)) (xs (6 * k + 2)))).toInt) hx hb rfl rfl dL_law_283 (tgt := 850) (by decide) (fun c9 => ?_) (fun c9 => absurd (congrArg Int32.toInt heq) c9)
  refine W.widen (k := 120 + 20 * k) (n := 20900 + 900 * k) (by omega) (by omega) ?_
  exact kk9 LY (ns + 1) _ _ _ w0 H2 locs2 ls (w_Im hX1 hO1 hM2 hk2 ⟨dY1, dY2, d3⟩ ⟨lY, lM, lO⟩ hrel) hS hl
theorem gSW_L_68 : GoodIn g_T (va_wsS RL 68 yL_scanned (w_cS :: g_T)) := by
  have h1 : Cond.methodLink RL 68 yL_scanned ∈ g_T := List.mem_filter.mpr ⟨by decide +kernel, rfl⟩
  have h2 : Cond.static yL_scanned ∈ g_T := List.mem_filter.mpr ⟨by decide +kernel, rfl⟩
  have h3 : Cond.initialized RL ∈ g_T := List.mem_filter.mpr ⟨by decide +kernel, rfl⟩
  have h4 : w_cS ∈ g_T := List.mem_filter.mpr ⟨by decide +kernel, rfl⟩
  intro w hw
  unfold va_wsS at hw
  rcases List.mem_append.mp hw with h | h
  · simp only [List.mem_cons, List.not_mem_nil, or_false] at h
    rcases h with rfl | rfl | rfl
    · exact ⟨h1, good_of_word (g_T_good _ h1)⟩
    · exact ⟨h2, good_of_word (g_T_good _ h2)⟩
    · exact ⟨h3, good_of_word (g_T_good _ h3)⟩
  · exact g_good h4 w h
theorem w_cont {p : Program} {l : Launch} {e : Env} {R : Room} {s : State} {m : MethodId} {args : Array Value} {below : List Frame} {meth : Method} {c : Code} {H H0 : Heap} {locs : List Loc} {cells slots mc ms pc : Nat} {Q : State → Prop} {ls : Array Slot} {rest st0 : List Value} {D : va_G} {A : Nat → Prop} {cy : Nat → ClassId} {L : g_S → Nat} {ns : Nat} {kk : Nat → Nat} {σ : r_M} {bo : Nat} {v : Int32} {w1 : Int64} {a : Array Value}
    (hr : va_Run p l e R s m args below meth c H locs cells slots mc ms (F0 m pc ls st0) rest (w_Qc D cy L ns kk σ bo v w1 a) (w_A ns kk L bo)) (hS : va_S A H0 H locs) (hA : ∀ q, w_A ns kk L bo q → A q)
    (kk9 : ∀ (H1 : Heap) (locs1 : List Loc), g_H D vwCl (x_dom ns kk) L (fun z => x_K cy L ns kk z (σ z)) H1 → w_O cy bo w1 H1 → va_S A H0 H1 locs1 → H.size ≤ H1.size → (∀ q : Nat, q < H.size → ¬ w_A ns kk L bo q → H1[q]? = H[q]?) → W p l e R s m args below meth c H1 locs1 (cells + mc) (slots + ms) Q (F0 m (pc + 3) ls (.int v :: rest))) : W p l e R s m args below meth c H locs cells slots Q (F0 m pc ls st0) := by
  intro T hT X
  obtain ⟨v2, st₀, t, T', L2, h0, X', hL, e1, e2, ⟨hv, hg, ho, hz, hk⟩, st⟩ := hr T hT X
  cases hv
  rw [h0] at hz hk
  obtain ⟨t2, a1, b1⟩ := kk9 T'.heap (locs ++ L2) (by rw [e1]; exact hg) (by rw [e1]; exact ho)
    ⟨Nat.le_trans hS.1 (by rw [e1]; exact hz), fun q h1 h2 => by rw [e1, hk q (Nat.lt_of_lt_of_le h1 hS.1) (fun z => h2 (hA q z))]; exact hS.2.1 q h1 h2, fun q hq => by
      rcases List.mem_append.mp hq with h | h
      · exact hS.2.2 q h
      · exact hA _ (hL q h)⟩ (by rw [e1]; exact hz) (fun q h1 h2 => by rw [e1]; exact hk q h1 h2) T' rfl X'
  exact ⟨t2, st t2 a1, b1⟩
set_option maxHeartbeats 4000000 in
set_option maxRecDepth 100000 in
theorem lc_scannedY {p : Program} {l : Launch} {e : Env} {s : State} {m : MethodId} {below : List Frame} {meth : Method} {c : Code} {b L : Nat} {xs : Nat → Int32} {D : va_G} {cy : Nat → ClassId} {sa : Nat} {Q : State → Prop} {bo : Nat} {LM : g_S → Nat} (C0 : w_C p l s m meth c b L xs D cy sa) (k : Nat) (hk : 6 * k + 6 ≤ L) (kk9 : ∀ (LX : g_S → Nat) (ns : Nat) (kk : Nat → Nat) (σ μ : r_M) (w0 : Int64) (H : Heap) (locs : List Loc) (ls : Array Slot), w_I s D cy bo LM LX ns kk σ μ w0 H → va_S (fun q => s.heap.size ≤ q) s.heap H locs → lv_has ls 7 [(0, .ref b), (1, .ref (LX (0, 0, 0))), (2, .ref (LM (0, 0, 0))), (3, .ref bo), (4, .int (nI (6 * k)))] → W p l e room_1 s m #[Value.ref b] below meth c H locs (120 + 20 * k) (20900 + 900 * k) Q (F0 m 850 ls [])) (LX : g_S → Nat) (ns : Nat) (kk : Nat → Nat) (σ μ : r_M) (w0 : Int64) (H : Heap) (locs : List Loc) (ls : Array Slot) (hI : w_I s D cy bo LM LX ns kk σ μ w0 H) (hS : va_S (fun q => s.heap.size ≤ q) s.heap H locs) (hl : lv_has ls 7 [(0, .ref b), (1, .ref (LX (0, 0, 0))), (2, .ref (LM (0, 0, 0))), (3, .ref bo), (4, .int (nI (6 * k)))]) (hP : x_scP2 σ ns (xs (6 * k + 1)) (xs (6 * k + 2))) : W p l e room_1 s m #[Value.ref b] below meth c H locs (100 + 20 * k) (20000 + 900 * k) Q (F0 m 671 ls []) := by
  obtain ⟨⟨hx, hb, hml, hown, hts⟩, ⟨hK, hN, hE⟩, ⟨hXs, hbl⟩, ⟨hl0, hL⟩⟩ := C0
  have hbA : ¬ (fun q : Nat => s.heap.size ≤ q) b := Nat.not_le.mpr hbl
  obtain ⟨⟨hX, hM, hO⟩, ⟨d1, d2, d3⟩, ⟨lX, lM, lO⟩, hR⟩ := id hI
  have hR0 : rel ns kk σ (g_up μ (0, 0, 0) 0 0) := rel_thrown hR
  have hRM : room_1.cells = 603072 ∧ room_1.slots = 7194730 := ⟨rfl, rfl⟩
  refine lv_aload_n hx hb dL_law_671 rfl (lv_at hl 1 rfl) ?_
  refine w_arg1 hx hb hXs hbl hbA hS hl hL hk dL_law_672 dL_law_673 dL_law_675 dL_law_676 dL_law_677 ?_
  refine w_arg2 hx hb hXs hbl hbA hS hl hL hk dL_law_678 dL_law_679 dL_law_681 dL_law_682 dL_law_683 ?_
  refine w_arg3 hx hb hXs hbl hbA hS hl hL hk dL_law_684 dL_law_685 dL_law_687 dL_law_688 dL_law_689 ?_
  refine lv_aload_n hx hb dL_law_690 rfl (lv_at hl 3 rfl) ?_
  have hAw : ∀ q, w_A ns kk LX bo q → s.heap.size ≤ q := fun q h => h.elim (fun ⟨x, h1, h2⟩ => by rw [← h2]; exact lX x h1) (fun h => by rw [h]; exact lO)
  have hEw : e_N (w_A ns kk LX bo) sa s H := (hE.kept hS.2.1).narrow hAw
  refine w_cont (vx_runSW (As := [.ref (LX (0, 0, 0)), .int (xs (6 * k + 1)), .int (xs (6 * k + 2)), .int (xs (6 * k + 3)), .ref bo]) (rest := []) ⟨hx, hb, hml, hown, hts⟩ (k_L_scannedG l D cy LX ns kk σ sa bo w0 (xs (6 * k + 1)) (xs (6 * k + 2)) (xs (6 * k + 3)) (rel_I hR) d2 hP) (vx_cwSW 5 hts gSW_L_68 rfl rfl rfl (by decide +kernel) ⟨Nat.le_of_ble_eq_true rfl, Nat.le_of_ble_eq_true rfl⟩) ⟨w_Pc.blind, fun U hU hW => ⟨rfl, by rw [hU]; exact hX, by rw [hU]; exact hO, va_K.moved hW.alike hK, hN.1.warm hW, by rw [hU]; exact hEw.warm hW⟩⟩ rfl rfl hl.1 rfl (lv_room (Nat.le_of_ble_eq_true rfl)) dL_law_691 ⟨by rw [hRM.1]; omega, by rw [hRM.2]; omega⟩) hS hAw (fun H1 locs1 hX1 hO1 hS hz1 hk1 => ?_)
  have hM1 := hM.kept (fun y hy => hk1 _ (hM.lt hy) (fun h => h.elim (fun ⟨x, a, b⟩ => d1 x y a hy b) (fun h => d3 y hy h)))
  refine W.eq (g2 := F0 m 694 ls [.int 0]) rfl ?_
  refine lv_istore (lv' := [(5, .int 0), (0, .ref b), (1, .ref (LX (0, 0, 0))), (2, .ref (LM (0, 0, 0))), (3, .ref bo), (4, .int (nI (6 * k)))]) hx hb dL_law_694 hl (by decide) rfl (fun ls hl => ?_)
  have hl := lv_sub hl [1, 2, 3, 4, 5, 0] rfl
  refine lv_aload_n hx hb dL_law_696 rfl (lv_at hl 2 rfl) ?_
  refine w_arg1 hx hb hXs hbl hbA hS hl hL hk dL_law_697 dL_law_698 dL_law_700 dL_law_701 dL_law_702 ?_
  refine w_arg2 hx hb hXs hbl hbA hS hl hL hk dL_law_703 dL_law_704 dL_law_706 dL_law_707 dL_law_708 ?_
  refine w_arg3 hx hb hXs hbl hbA hS hl hL hk dL_law_709 dL_law_710 dL_law_712 dL_law_713 dL_law_714 ?_
  refine g_cont0 (va_runV (As := [.int (xs (6 * k + 1)), .int (xs (6 * k + 2)), .int (xs (6 * k + 3))]) (rest := []) ⟨hx, hb, hml, hown, hts⟩ (c_X7_scanned l D cy LM μ (xs (6 * k + 1)) (xs (6 * k + 2)) (xs (6 * k + 3)) (rel_ns hR).1 (rel_ns hR).2 (rel_scn hR)) (cwV 3 hts gV_L_73 rfl rfl rfl (by decide +kernel) ⟨Nat.le_of_ble_eq_true rfl, Nat.le_of_ble_eq_true rfl⟩) (g_preV hK hN.1 hM1 (x := (0, 0, 0)) ⟨rfl, rfl⟩ (q := (RX7, TX7, 28)) (m_at_0 cy LM 0 0 (μ (0, 0, 0))) rfl) rfl rfl hl.1 rfl (lv_room (Nat.le_of_ble_eq_true rfl)) dL_law_715 ⟨by rw [hRM.1]; omega, by rw [hRM.2]; omega⟩) hS (fun q ⟨x, h1, h2⟩ => by rw [← h2]; exact lM x h1) (fun H2 locs2 hM2 hS hz2 hk2 => ?_)
  refine W.eq (g2 := F0 m 718 ls [.int (m_scdR μ (xs (6 * k + 1)) (xs (6 * k + 2)) (xs (6 * k + 3)))]) rfl ?_
  refine lv_istore (lv' := [(6, .int (m_scdR μ (xs (6 * k + 1)) (xs (6 * k + 2)) (xs (6 * k + 3)))), (0, .ref b), (1, .ref (LX (0, 0, 0))), (2, .ref (LM (0, 0, 0))), (3, .ref bo), (4, .int (nI (6 * k))), (5, .int 0)]) hx hb dL_law_718 hl (by decide) rfl (fun ls hl => ?_)
  have hl := lv_sub hl [1, 2, 3, 4, 5, 6, 0] rfl
  have hX2 := hX1.kept (fun x hx => hk2 _ (hX1.lt hx) (fun ⟨y, a, b⟩ => d1 x y hx a b.symm))
  have hO2 : w_O cy bo (x_scTell σ (xs (6 * k + 1)).toNatClampNeg (xs (6 * k + 2)) (xs (6 * k + 3))).toInt64 H2 := (hk2 bo (Array.getElem?_eq_some_iff.mp hO1).1 (fun ⟨y, a, b⟩ => d3 y a b)).trans hO1
  refine lv_aload_n hx hb dL_law_720 rfl (lv_at hl 2 rfl) ?_
  refine g_cont0 (va_runV (As := []) (rest := []) ⟨hx, hb, hml, hown, hts⟩ (c_X7_thrown l D cy LM (m_scdM μ (xs (6 * k + 1)) (xs (6 * k + 2)))) (cwV 0 hts gV_L_74 rfl rfl rfl (by decide +kernel) ⟨Nat.le_of_ble_eq_true rfl, Nat.le_of_ble_eq_true rfl⟩) (g_preV hK hN.1 hM2 (x := (0, 0, 0)) ⟨rfl, rfl⟩ (q := (RX7, TX7, 28)) (m_at_0 cy LM 0 0 (m_scdM μ (xs (6 * k + 1)) (xs (6 * k + 2)) (0, 0, 0))) rfl) rfl rfl hl.1 rfl (lv_room (Nat.le_of_ble_eq_true rfl)) dL_law_721 ⟨by rw [hRM.1]; omega, by rw [hRM.2]; omega⟩) hS (fun q ⟨x, h1, h2⟩ => by rw [← h2]; exact lM x h1) (fun H3 locs3 hM3 hS hz3 hk3 => ?_)
  obtain ⟨heq, hth, hrel⟩ := r_scannedY hR (xs (6 * k + 1)) (xs (6 * k + 2)) (xs (6 * k + 3)) hP
  refine W.eq (g2 := F0 m 724 ls [.int (m_scdM μ (xs (6 * k + 1)) (xs (6 * k + 2)) (0, 0, 0) 0)]) rfl ?_
  rw [hth]
  refine lv_iload hx hb dL_law_724 (lv_at hl 5 rfl) ?_
  refine kz_icmp_eq (X := 0) (Y := 0) hx hb (by decide) (by decide) dL_law_726 (tgt := 731) (by decide) (fun c9 => ?_) (fun c9 => absurd rfl c9)
  refine lv_iload hx hb dL_law_731 (lv_at hl 5 rfl) ?_
  refine kz_if_ne (X := 0) hx hb (by decide) dL_law_733 (tgt := 748) (by decide) (fun c9 => absurd rfl c9) (fun c9 => ?_)
  refine lv_aload_n hx hb dL_law_736 rfl (lv_at hl 3 rfl) ?_
  refine lv_iconst (v := 0) hx hb dL_law_737 (by decide) ?_
  have hO3 : w_O cy bo (x_scTell σ (xs (6 * k + 1)).toNatClampNeg (xs (6 * k + 2)) (xs (6 * k + 3))).toInt64 H3 := (hk3 bo (Array.getElem?_eq_some_iff.mp hO2).1 (fun ⟨y, a, b⟩ => d3 y a b)).trans hO2
  refine W.lald (v := .long ((x_scTell σ (xs (6 * k + 1)).toNatClampNeg (xs (6 * k + 2)) (xs (6 * k + 3))).toInt64)) hx hb hO3 ((hK.2 5 _ rfl).1 1 (fun j => .long ((x_scTell σ (xs (6 * k + 1)).toNatClampNeg (xs (6 * k + 2)) (xs (6 * k + 3))).toInt64))) (fun q => by cases q) (by show ¬ ((0 : Int32) < 0 ∨ (arrV _ _ _).slots.size ≤ _); rw [arrV_size]; exact (by decide : ¬ ((0 : Int32) < 0 ∨ 1 ≤ Int32.toNatClampNeg 0))) (by show (arrV _ _ _).slots[(0 : Int32).toNatClampNeg]? = _; rw [arrV_read _ _ (show (0 : Int32).toNatClampNeg < 1 by decide)]) rfl rfl dL_law_738 ?_
  refine W.eq (g2 := F0 m 739 ls [.long ((x_scTell σ (xs (6 * k + 1)).toNatClampNeg (xs (6 * k + 2)) (xs (6 * k + 3))).toInt64)]) rfl ?_
  refine lv_iload hx hb dL_law_739 (lv_at hl 6 rfl) ?_
  refine lv_i2l hx hb dL_law_741 (congrArg Int32.toInt64 heq.symm) ?_
  refine W.lcmp hx hb dL_law_742 ?_
  refine kz_if_eq (X := 0) hx hb (lg_cmp_0.mpr rfl) dL_law_743 (tgt := 748) (by decide) (fun c9 => ?_) (fun c9 => absurd rfl c9)
  refine lv_goto (tgt := 850) hx hb dL_law_748 (by decide) ?_
  refine W.widen (k := 120 + 20 * k) (n := 20900 + 900 * k) (by omega) (by omega) ?_
  exact kk9 LX ns kk _ _ _ H3 locs3 ls (w_Im hX2 hO2 hM3 hk3 ⟨d1, d2, d3⟩ ⟨lX, lM, lO⟩ hrel) hS (lv_sub hl [0, 1, 2, 3, 4] rfl)
set_option maxHeartbeats 4000000 in
set_option maxRecDepth 100000 in
theorem lc_scannedN {p : Program} {l : Launch} {e : Env} {s : State} {m : MethodId} {below : List Frame} {meth : Method} {c : Code} {b L : Nat} {xs : Nat → Int32} {D : va_G} {cy : Nat → ClassId} {sa : Nat} {Q : State → Prop} {bo : Nat} {LM : g_S → Nat} (C0 : w_C p l s m meth c b L xs D cy sa) (k : Nat) (hk : 6 * k + 6 ≤ L) (kk9 : ∀ (LX : g_S → Nat) (ns : Nat) (kk : Nat → Nat) (σ μ : r_M) (w0 : Int64) (H : Heap) (locs : List Loc) (ls : Array Slot), w_I s D cy bo LM LX ns kk σ μ w0 H → va_S (fun q => s.heap.size ≤ q) s.heap H locs → lv_has ls 7 [(0, .ref b), (1, .ref (LX (0, 0, 0))), (2, .ref (LM (0, 0, 0))), (3, .ref bo), (4, .int (nI (6 * k)))] → W p l e room_1 s m #[Value.ref b] below meth c H locs (120 + 20 * k) (20900 + 900 * k) Q (F0 m 850 ls [])) (LX : g_S → Nat) (ns : Nat) (kk : Nat → Nat) (σ μ : r_M) (w0 : Int64) (H : Heap) (locs : List Loc) (ls : Array Slot) (hI : w_I s D cy bo LM LX ns kk σ μ w0 H) (hS : va_S (fun q => s.heap.size ≤ q) s.heap H locs) (hl : lv_has ls 7 [(0, .ref b), (1, .ref (LX (0, 0, 0))), (2, .ref (LM (0, 0, 0))), (3, .ref bo), (4, .int (nI (6 * k)))]) (hP : ¬ x_scP2 σ ns (xs (6 * k + 1)) (xs (6 * k + 2))) : W p l e room_1 s m #[Value.ref b] below meth c H locs (100 + 20 * k) (20000 + 900 * k) Q (F0 m 671 ls []) := by
  obtain ⟨⟨hx, hb, hml, hown, hts⟩, ⟨hK, hN, hE⟩, ⟨hXs, hbl⟩, ⟨hl0, hL⟩⟩ := C0
  have hbA : ¬ (fun q : Nat => s.heap.size ≤ q) b := Nat.not_le.mpr hbl
  obtain ⟨⟨hX, hM, hO⟩, ⟨d1, d2, d3⟩, ⟨lX, lM, lO⟩, hR⟩ := id hI
  have hR0 : rel ns kk σ (g_up μ (0, 0, 0) 0 0) := rel_thrown hR
  have hRM : room_1.cells = 603072 ∧ room_1.slots = 7194730 := ⟨rfl, rfl⟩
  refine lv_aload_n hx hb dL_law_671 rfl (lv_at hl 1 rfl) ?_
  refine w_arg1 hx hb hXs hbl hbA hS hl hL hk dL_law_672 dL_law_673 dL_law_675 dL_law_676 dL_law_677 ?_
  refine w_arg2 hx hb hXs hbl hbA hS hl hL hk dL_law_678 dL_law_679 dL_law_681 dL_law_682 dL_law_683 ?_
  refine w_arg3 hx hb hXs hbl hbA hS hl hL hk dL_law_684 dL_law_685 dL_law_687 dL_law_688 dL_law_689 ?_
  refine lv_aload_n hx hb dL_law_690 rfl (lv_at hl 3 rfl) ?_
  have hAw : ∀ q, w_A ns kk LX bo q → s.heap.size ≤ q := fun q h => h.elim (fun ⟨x, h1, h2⟩ => by rw [← h2]; exact lX x h1) (fun h => by rw [h]; exact lO)
  have hEw : e_N (w_A ns kk LX bo) sa s H := (hE.kept hS.2.1).narrow hAw
  refine w_cont (vx_runSW (As := [.ref (LX (0, 0, 0)), .int (xs (6 * k + 1)), .int (xs (6 * k + 2)), .int (xs (6 * k + 3)), .ref bo]) (rest := []) ⟨hx, hb, hml, hown, hts⟩ (k_L_scannedT l hl0 D cy LX ns kk σ sa bo w0 (xs (6 * k + 1)) (xs (6 * k + 2)) (xs (6 * k + 3)) (rel_I hR) d2 hP) (vx_cwSW 5 hts gSW_L_68 rfl rfl rfl (by decide +kernel) ⟨Nat.le_of_ble_eq_true rfl, Nat.le_of_ble_eq_true rfl⟩) ⟨w_Pc.blind, fun U hU hW => ⟨rfl, by rw [hU]; exact hX, by rw [hU]; exact hO, va_K.moved hW.alike hK, hN.1.warm hW, by rw [hU]; exact hEw.warm hW⟩⟩ rfl rfl hl.1 rfl (lv_room (Nat.le_of_ble_eq_true rfl)) dL_law_691 ⟨by rw [hRM.1]; omega, by rw [hRM.2]; omega⟩) hS hAw (fun H1 locs1 hX1 hO1 hS hz1 hk1 => ?_)
  have hM1 := hM.kept (fun y hy => hk1 _ (hM.lt hy) (fun h => h.elim (fun ⟨x, a, b⟩ => d1 x y a hy b) (fun h => d3 y hy h)))
  refine W.eq (g2 := F0 m 694 ls [.int 1]) rfl ?_
  refine lv_istore (lv' := [(5, .int 1), (0, .ref b), (1, .ref (LX (0, 0, 0))), (2, .ref (LM (0, 0, 0))), (3, .ref bo), (4, .int (nI (6 * k)))]) hx hb dL_law_694 hl (by decide) rfl (fun ls hl => ?_)
  have hl := lv_sub hl [1, 2, 3, 4, 5, 0] rfl
  refine lv_aload_n hx hb dL_law_696 rfl (lv_at hl 2 rfl) ?_
  refine w_arg1 hx hb hXs hbl hbA hS hl hL hk dL_law_697 dL_law_698 dL_law_700 dL_law_701 dL_law_702 ?_
  refine w_arg2 hx hb hXs hbl hbA hS hl hL hk dL_law_703 dL_law_704 dL_law_706 dL_law_707 dL_law_708 ?_
  refine w_arg3 hx hb hXs hbl hbA hS hl hL hk dL_law_709 dL_law_710 dL_law_712 dL_law_713 dL_law_714 ?_
  refine g_cont0 (va_runV (As := [.int (xs (6 * k + 1)), .int (xs (6 * k + 2)), .int (xs (6 * k + 3))]) (rest := []) ⟨hx, hb, hml, hown, hts⟩ (c_X7_scanned l D cy LM μ (xs (6 * k + 1)) (xs (6 * k + 2)) (xs (6 * k + 3)) (rel_ns hR).1 (rel_ns hR).2 (rel_scn hR)) (cwV 3 hts gV_L_73 rfl rfl rfl (by decide +kernel) ⟨Nat.le_of_ble_eq_true rfl, Nat.le_of_ble_eq_true rfl⟩) (g_preV hK hN.1 hM1 (x := (0, 0, 0)) ⟨rfl, rfl⟩ (q := (RX7, TX7, 28)) (m_at_0 cy LM 0 0 (μ (0, 0, 0))) rfl) rfl rfl hl.1 rfl (lv_room (Nat.le_of_ble_eq_true rfl)) dL_law_715 ⟨by rw [hRM.1]; omega, by rw [hRM.2]; omega⟩) hS (fun q ⟨x, h1, h2⟩ => by rw [← h2]; exact lM x h1) (fun H2 locs2 hM2 hS hz2 hk2 => ?_)
  refine W.eq (g2 := F0 m 718 ls [.int (m_scdR μ (xs (6 * k + 1)) (xs (6 * k + 2)) (xs (6 * k + 3)))]) rfl ?_
  refine lv_istore (lv' := [(6, .int (m_scdR μ (xs (6 * k + 1)) (xs (6 * k + 2)) (xs (6 * k + 3)))), (0, .ref b), (1, .ref (LX (0, 0, 0))), (2, .ref (LM (0, 0, 0))), (3, .ref bo), (4, .int (nI (6 * k))), (5, .int 1)]) hx hb dL_law_718 hl (by decide) rfl (fun ls hl => ?_)
  have hl := lv_sub hl [1, 2, 3, 4, 5, 6, 0] rfl
  have hX2 := hX1.kept (fun x hx => hk2 _ (hX1.lt hx) (fun ⟨y, a, b⟩ => d1 x y hx a b.symm))
  have hO2 : w_O cy bo w0 H2 := (hk2 bo (Array.getElem?_eq_some_iff.mp hO1).1 (fun ⟨y, a, b⟩ => d3 y a b)).trans hO1
  refine lv_aload_n hx hb dL_law_720 rfl (lv_at hl 2 rfl) ?_
  refine g_cont0 (va_runV (As := []) (rest := []) ⟨hx, hb, hml, hown, hts⟩ (c_X7_thrown l D cy LM (m_scdM μ (xs (6 * k + 1)) (xs (6 * k + 2)))) (cwV 0 hts gV_L_74 rfl rfl rfl (by decide +kernel) ⟨Nat.le_of_ble_eq_true rfl, Nat.le_of_ble_eq_true rfl⟩) (g_preV hK hN.1 hM2 (x := (0, 0, 0)) ⟨rfl, rfl⟩ (q := (RX7, TX7, 28)) (m_at_0 cy LM 0 0 (m_scdM μ (xs (6 * k + 1)) (xs (6 * k + 2)) (0, 0, 0))) rfl) rfl rfl hl.1 rfl (lv_room (Nat.le_of_ble_eq_true rfl)) dL_law_721 ⟨by rw [hRM.1]; omega, by rw [hRM.2]; omega⟩) hS (fun q ⟨x, h1, h2⟩ => by rw [← h2]; exact lM x h1) (fun H3 locs3 hM3 hS hz3 hk3 => ?_)
  obtain ⟨hth, hrel⟩ := r_scannedN hR (xs (6 * k + 1)) (xs (6 * k + 2)) hP
  refine W.eq (g2 := F0 m 724 ls [.int (m_scdM μ (xs (6 * k + 1)) (xs (6 * k + 2)) (0, 0, 0) 0)]) rfl ?_
  rw [hth]
  refine lv_iload hx hb dL_law_724 (lv_at hl 5 rfl) ?_
  refine kz_icmp_eq (X := 1) (Y := 1) hx hb (by decide) (by decide) dL_law_726 (tgt := 731) (by decide) (fun c9 => ?_) (fun c9 => absurd rfl c9)
  refine lv_iload hx hb dL_law_731 (lv_at hl 5 rfl) ?_
  refine kz_if_ne (X := 1) hx hb (by decide) dL_law_733 (tgt := 748) (by decide) (fun c9 => ?_) (fun c9 => absurd c9 (by decide))
  refine lv_goto (tgt := 850) hx hb dL_law_748 (by decide) ?_
  refine W.widen (k := 120 + 20 * k) (n := 20900 + 900 * k) (by omega) (by omega) ?_
  exact kk9 LX ns kk _ _ _ H3 locs3 ls (w_Im hX2 hO2 hM3 hk3 ⟨d1, d2, d3⟩ ⟨lX, lM, lO⟩ hrel) hS (lv_sub hl [0, 1, 2, 3, 4] rfl)
