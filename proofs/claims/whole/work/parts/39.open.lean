/-! SearchWire.session: refused, or a session is made -/
set_option maxHeartbeats 4000000 in
set_option maxRecDepth 100000 in
theorem c_X6_sessionN (l : Launch) (D : va_G) (cy : Nat → ClassId) (L : g_S → Nat) (ns : Nat) (kk : Nat → Nat) (σ : g_S → Nat → Int32) (p q : Int32) (h5 : (σ (0, 0, 0) 3).toInt = (ns : Int)) (hno : ¬ (0 ≤ p.toInt ∧ p.toInt ≤ 7 ∧ 1 ≤ q.toInt ∧ q.toInt ≤ 1000 ∧ ns < 8)) : x_Met l D cy L ns kk yX6_session (.code yX6_session cX6_session 3 (some .int)) 1 σ [.ref (L (0, 0, 0)), .int (p), .int (q)] (some (.int (-1))) σ := by
  refine g_Met.of (by decide) (Nat.le_of_ble_eq_true rfl) ?_
  intro pg e s m below meth c hx hb hr hlk hml hown hts hK hN H locs hG hS ls hl
  have hown : s.vm.findClass RX6 = some m.cls := hown
  have hl : lv_has ls 3 [(0, .ref (L (0, 0, 0))), (1, .int (p)), (2, .int (q))] := hl
  refine lv_iload_n hx hb dX6_session_0 rfl (lv_at hl 1 rfl) ?_
  refine kz_if_lt (X := (p).toInt) hx hb rfl dX6_session_1 (tgt := 22) (by decide) (fun c_1_1 => ?_) (fun c_1_1 => ?_)
  · refine lv_iconst (v := (-1)) hx hb dX6_session_22 (by decide) ?_
    exact s_iret hx hb hr hlk hG hS dX6_session_23 rfl rfl
  · refine lv_iload_n hx hb dX6_session_4 rfl (lv_at hl 1 rfl) ?_
    refine lv_bipush (v := 7) hx hb dX6_session_5 (by decide) ?_
    refine kz_icmp_gt (X := (p).toInt) (Y := 7) hx hb rfl (by decide) dX6_session_7 (tgt := 22) (by decide) (fun c_7_2 => ?_) (fun c_7_2 => ?_)
    · refine lv_iconst (v := (-1)) hx hb dX6_session_22 (by decide) ?_
      exact s_iret hx hb hr hlk hG hS dX6_session_23 rfl rfl
    · refine lv_iload_n hx hb dX6_session_10 rfl (lv_at hl 2 rfl) ?_
      refine lv_iconst (v := 1) hx hb dX6_session_11 (by decide) ?_
      refine kz_icmp_lt (X := (q).toInt) (Y := 1) hx hb rfl (by decide) dX6_session_12 (tgt := 22) (by decide) (fun c_12_3 => ?_) (fun c_12_3 => ?_)
      · refine lv_iconst (v := (-1)) hx hb dX6_session_22 (by decide) ?_
        exact s_iret hx hb hr hlk hG hS dX6_session_23 rfl rfl
      · refine lv_iload_n hx hb dX6_session_15 rfl (lv_at hl 2 rfl) ?_
        refine lv_sipush (v := 1000) hx hb dX6_session_16 (by decide) ?_
        refine kz_icmp_le (X := (q).toInt) (Y := 1000) hx hb rfl (by decide) dX6_session_19 (tgt := 24) (by decide) (fun c_19_4 => ?_) (fun c_19_4 => ?_)
        · refine lv_aload_n hx hb dX6_session_24 rfl (lv_at hl 0 rfl) ?_
          refine g_get (C := RX6) (T := TX6) (N := 4) (v := .int (σ (0, 0, 0) 3)) hx hb hts inX6g hown hK hG (0, 0, 0) ⟨rfl, rfl⟩ (x_at_0 cy L ns kk (0) (0) (σ (0, 0, 0))) rfl 3 (by decide) fl_X6_29 rfl dX6_session_25 ?_
          refine lv_bipush (v := 8) hx hb dX6_session_28 (by decide) ?_
          refine kz_icmp_lt (X := (σ (0, 0, 0) 3).toInt) (Y := 8) hx hb rfl (by decide) dX6_session_30 (tgt := 35) (by decide) (fun c_30_5 => ?_) (fun c_30_5 => ?_)
          · exfalso
            exact hno ⟨by omega, by omega, by omega, by omega, by omega⟩
          · refine lv_iconst (v := (-1)) hx hb dX6_session_33 (by decide) ?_
            exact s_iret hx hb hr hlk hG hS dX6_session_34 rfl rfl
        · refine lv_iconst (v := (-1)) hx hb dX6_session_22 (by decide) ?_
          exact s_iret hx hb hr hlk hG hS dX6_session_23 rfl rfl
set_option maxHeartbeats 4000000 in
set_option maxRecDepth 100000 in
theorem k_X6_session1 (l : Launch) (D : va_G) (cy : Nat → ClassId) (L : g_S → Nat) (ns : Nat) (kk : Nat → Nat) (σ : g_S → Nat → Int32) (sz : Nat) (p q : Int32) (h1 : 0 ≤ p.toInt) (h2 : p.toInt ≤ 7) (h3 : 1 ≤ q.toInt) (h4 : q.toInt ≤ 1000) (h5 : (σ (0, 0, 0) 3).toInt = (ns : Int)) (h6 : ns < 8) (h8 : (p &&& 4).toInt = 0) : h_Met l yX6_session (.code yX6_session cX6_session 3 (some .int)) 4 11 460 D vwCl (x_tys cy) (x_dom ns kk) L (fun z => x_K cy L ns kk z (σ z)) sz [.ref (L (0, 0, 0)), .int p, .int q] (fun q => g_A (x_dom ns kk) L q ∨ sz ≤ q) (some (.int (σ (0, 0, 0) 3))) (x_dom (ns + 1) (x_kk kk ns p)) (fun L' z => x_K cy L' (ns + 1) (x_kk kk ns p) z (x_sesM σ ns p q z)) := by
  refine h_Met.of (by decide) (Nat.le_of_ble_eq_true rfl) ?_
  intro pg e s m below meth c hx hb hr hlk hml hown hin2 hsz hts hK hN hG ls hl
  have hown : s.vm.findClass RX6 = some m.cls := hown
  have hl : lv_has ls 3 [(0, .ref (L (0, 0, 0))), (1, .int (p)), (2, .int (q))] := hl
  have hS : va_S (fun q => g_A (x_dom ns kk) L q ∨ sz ≤ q) s.heap s.heap [] := va_S.rf
  have hAn : ∀ q, s.heap.size ≤ q → (fun q => g_A (x_dom ns kk) L q ∨ sz ≤ q) q := fun q h => Or.inr (by rw [← hsz]; exact h)
  have hA0 : (fun q => g_A (x_dom ns kk) L q ∨ sz ≤ q) (L (0, 0, 0)) := Or.inl (g_A.in (x := (0, 0, 0)) ⟨rfl, rfl⟩)
  have hA9 : (fun q => g_A (x_dom ns kk) L q ∨ sz ≤ q) (L (9, 0, 0)) := Or.inl (g_A.in (x := (9, 0, 0)) ⟨rfl, rfl⟩)
  generalize hdom : x_dom ns kk = dom at hG
  have hd_0_0_0 : dom (0, 0, 0) := by rw [← hdom]; exact ⟨rfl, rfl⟩
  have hd_9_0_0 : dom (9, 0, 0) := by rw [← hdom]; exact ⟨rfl, rfl⟩
  have hf_11_ns_0 : ¬ dom (11, ns, 0) := by rw [← hdom]; exact x_notin _ _ (by omega)
  have hf_12_ns_0 : ¬ dom (12, ns, 0) := by rw [← hdom]; exact x_notin _ _ (by omega)
  have hf_18_ns_0 : ¬ dom (18, ns, 0) := by rw [← hdom]; exact x_notin _ _ (by omega)
  have hf_19_ns_0 : ¬ dom (19, ns, 0) := by rw [← hdom]; exact x_notin _ _ (by omega)
  have hf_13_ns_0 : ¬ dom (13, ns, 0) := by rw [← hdom]; exact x_notin _ _ (by omega)
  have hf_14_ns_0 : ¬ dom (14, ns, 0) := by rw [← hdom]; exact x_notin _ _ (by omega)
  have hf_15_ns_0 : ¬ dom (15, ns, 0) := by rw [← hdom]; exact x_notin _ _ (by omega)
  have hf_16_ns_0 : ¬ dom (16, ns, 0) := by rw [← hdom]; exact x_notin _ _ (by omega)
  have hf_17_ns_0 : ¬ dom (17, ns, 0) := by rw [← hdom]; exact x_notin _ _ (by omega)
  have hf_20_ns_0 : ¬ dom (20, ns, 0) := by rw [← hdom]; exact x_notin _ _ (by omega)
  have hf_21_ns_0 : ¬ dom (21, ns, 0) := by rw [← hdom]; exact x_notin _ _ (by omega)
  generalize hV0 : (fun z => x_K cy L ns kk z (σ z)) = V at hG
  have hv_0_0_0 : V (0, 0, 0) = .inr (8, [.ref (L (1, 0, 0)), .ref (L (2, 0, 0)), .ref (L (9, 0, 0)), .int (σ (0, 0, 0) 3)]) := by rw [← hV0]; rfl
  have hv_9_0_0 : V (9, 0, 0) = .inl (cy 2, 8, .inr (.inr (.inr (.inr (fun k => if k < ns then some (L (11, k, 0)) else none))))) := by rw [← hV0]; rfl
  have e_0_0_0 : L (0, 0, 0) = L (0, 0, 0) := rfl
  have e_9_0_0 : L (9, 0, 0) = L (9, 0, 0) := rfl
  have hLL := fun y (_ : dom y) => (rfl : L y = L y)
  have hdd := fun y (hy : dom y) => hy
  have hVo : ∀ y, y ≠ (0, 0, 0) ∧ y ≠ (9, 0, 0) ∧ y ≠ (11, ns, 0) ∧ y ≠ (12, ns, 0) ∧ y ≠ (18, ns, 0) ∧ y ≠ (19, ns, 0) ∧ y ≠ (13, ns, 0) ∧ y ≠ (14, ns, 0) ∧ y ≠ (15, ns, 0) ∧ y ≠ (16, ns, 0) ∧ y ≠ (17, ns, 0) ∧ y ≠ (20, ns, 0) ∧ y ≠ (21, ns, 0) → V y = V y := fun _ _ => rfl
  refine lv_iload_n hx hb dX6_session_0 rfl (lv_at hl 1 rfl) ?_
  refine kz_if_lt (X := p.toInt) hx hb rfl dX6_session_1 (tgt := 22) (by decide) (fun c9 => absurd c9 (by omega)) (fun c9 => ?_)
  refine lv_iload_n hx hb dX6_session_4 rfl (lv_at hl 1 rfl) ?_
  refine lv_bipush (v := 7) hx hb dX6_session_5 (by decide) ?_
  refine kz_icmp_gt (X := p.toInt) (Y := 7) hx hb rfl (by decide) dX6_session_7 (tgt := 22) (by decide) (fun c9 => absurd c9 (by omega)) (fun c9 => ?_)
  refine lv_iload_n hx hb dX6_session_10 rfl (lv_at hl 2 rfl) ?_
  refine lv_iconst (v := 1) hx hb dX6_session_11 (by decide) ?_
  refine kz_icmp_lt (X := q.toInt) (Y := 1) hx hb rfl (by decide) dX6_session_12 (tgt := 22) (by decide) (fun c9 => absurd c9 (by omega)) (fun c9 => ?_)
  refine lv_iload_n hx hb dX6_session_15 rfl (lv_at hl 2 rfl) ?_
  refine lv_sipush (v := 1000) hx hb dX6_session_16 (by decide) ?_
  refine kz_icmp_le (X := q.toInt) (Y := 1000) hx hb rfl (by decide) dX6_session_19 (tgt := 24) (by decide) (fun c9 => ?_) (fun c9 => absurd c9 (by omega))
  refine lv_aload_n hx hb dX6_session_24 rfl (lv_at hl 0 rfl) ?_
  refine h_get (C := RX6) (T := TX6) (N := 4) (ci := 8) (v := .int (σ (0, 0, 0) 3)) hx hb hts inX6g hown hK hG (0, 0, 0) hd_0_0_0 e_0_0_0 hv_0_0_0 rfl 3 (by decide) fl_X6_29 rfl dX6_session_25 ?_
  refine lv_bipush (v := 8) hx hb dX6_session_28 (by decide) ?_
  refine kz_icmp_lt (X := (ns : Int)) (Y := 8) hx hb h5 (by decide) dX6_session_30 (tgt := 35) (by decide) (fun c9 => ?_) (fun c9 => absurd c9 (by omega))
  refine lv_aload_n hx hb dX6_session_35 rfl (lv_at hl 0 rfl) ?_
  refine h_get (C := RX6) (T := TX6) (N := 4) (ci := 8) (v := .ref (L (9, 0, 0))) hx hb hts inX6g hown hK hG (0, 0, 0) hd_0_0_0 e_0_0_0 hv_0_0_0 rfl 2 (by decide) fl_X6_25 rfl dX6_session_36 ?_
  refine lv_aload_n hx hb dX6_session_39 rfl (lv_at hl 0 rfl) ?_
  refine h_get (C := RX6) (T := TX6) (N := 4) (ci := 8) (v := .int (σ (0, 0, 0) 3)) hx hb hts inX6g hown hK hG (0, 0, 0) hd_0_0_0 e_0_0_0 hv_0_0_0 rfl 3 (by decide) fl_X6_29 rfl dX6_session_40 ?_
  refine h_newo (C := RX5) (T := TX5) (N := 7) (ci := 7) (fs := [.int 0, .null, .null, .null, .int 0, .int 0, .int 0]) hx hb hts inX5g tyX5_ok hown cl_X6_23 ins_X5 ini_X5 hK hG hS (11, ns, 0) hf_11_ns_0 rfl (fun j hj => by rcases (show j = 0 ∨ j = 1 ∨ j = 2 ∨ j = 3 ∨ j = 4 ∨ j = 5 ∨ j = 6 by omega) with rfl | rfl | rfl | rfl | rfl | rfl | rfl <;> rfl) (Nat.le_of_ble_eq_true rfl) (Nat.le_of_ble_eq_true rfl) dX6_session_43 (fun L1 b1 H hL9 e_11_ns_0 ha1 hG hS hz9 o9 => ?_)
  have hs_11_ns_0 : s.heap.size ≤ L1 (11, ns, 0) := by rw [e_11_ns_0]; exact ha1
  have e_0_0_0 := (hL9 _ hd_0_0_0).trans e_0_0_0
  have e_9_0_0 := (hL9 _ hd_9_0_0).trans e_9_0_0
  have hLL := fun y (hy : dom y) => (hL9 y (hdd y hy)).trans (hLL y hy)
  have hdd := fun y (hy : dom y) => hG.inO (hdd y hy)
  have hd_0_0_0 := hG.inO hd_0_0_0
  have hd_9_0_0 := hG.inO hd_9_0_0
  have hd_11_ns_0 := hG.inX
  have hf_12_ns_0 := hG.notin hf_12_ns_0 (by simp)
  have hf_18_ns_0 := hG.notin hf_18_ns_0 (by simp)
  have hf_19_ns_0 := hG.notin hf_19_ns_0 (by simp)
  have hf_13_ns_0 := hG.notin hf_13_ns_0 (by simp)
  have hf_14_ns_0 := hG.notin hf_14_ns_0 (by simp)
  have hf_15_ns_0 := hG.notin hf_15_ns_0 (by simp)
  have hf_16_ns_0 := hG.notin hf_16_ns_0 (by simp)
  have hf_17_ns_0 := hG.notin hf_17_ns_0 (by simp)
  have hf_20_ns_0 := hG.notin hf_20_ns_0 (by simp)
  have hf_21_ns_0 := hG.notin hf_21_ns_0 (by simp)
  generalize hV2 : g_set V (11, ns, 0) (.inr (7, [.int 0, .null, .null, .null, .int 0, .int 0, .int 0])) = V2 at hG
  have hv_0_0_0 : V2 (0, 0, 0) = .inr (8, [.ref (L (1, 0, 0)), .ref (L (2, 0, 0)), .ref (L (9, 0, 0)), .int (σ (0, 0, 0) 3)]) := by rw [← hV2, g_set_ne (by simp)]; exact hv_0_0_0
  have hv_9_0_0 : V2 (9, 0, 0) = .inl (cy 2, 8, .inr (.inr (.inr (.inr (fun k => if k < ns then some (L (11, k, 0)) else none))))) := by rw [← hV2, g_set_ne (by simp)]; exact hv_9_0_0
  have hv_11_ns_0 : V2 (11, ns, 0) = .inr (7, [.int 0, .null, .null, .null, .int 0, .int 0, .int 0]) := by rw [← hV2, g_set_self]
  have hVo : ∀ y, y ≠ (0, 0, 0) ∧ y ≠ (9, 0, 0) ∧ y ≠ (11, ns, 0) ∧ y ≠ (12, ns, 0) ∧ y ≠ (18, ns, 0) ∧ y ≠ (19, ns, 0) ∧ y ≠ (13, ns, 0) ∧ y ≠ (14, ns, 0) ∧ y ≠ (15, ns, 0) ∧ y ≠ (16, ns, 0) ∧ y ≠ (17, ns, 0) ∧ y ≠ (20, ns, 0) ∧ y ≠ (21, ns, 0) → V2 y = V y := fun y hy => by rw [← hV2, g_set_ne (fun q => hy.2.2.1 q)]; first | done | exact hVo y hy
  refine lv_dup hx hb dX6_session_46 rfl ?_
  refine lv_iload_n hx hb dX6_session_47 rfl (lv_at hl 1 rfl) ?_
  refine lv_iload_n hx hb dX6_session_48 rfl (lv_at hl 2 rfl) ?_
  have hz0 := hS.1
  refine h_cont (va_runI (As := [.int p, .int q]) (rest := [.ref b1, .int (σ (0, 0, 0) 3), .ref (L (9, 0, 0))]) ⟨hx, hb, hml, hown, hts⟩ (k_X5_init1 l D cy _ L1 V2 H.size ns p q h8 b1 e_11_ns_0 hd_11_ns_0 hv_11_ns_0 hf_12_ns_0 hf_18_ns_0 hf_19_ns_0 hf_13_ns_0 hf_14_ns_0 hf_15_ns_0 hf_16_ns_0 hf_17_ns_0 hf_20_ns_0 hf_21_ns_0) (cwI 2 hts (g_good cwd_X5_init) rfl rfl rfl (hts _ ini_X5) (hts _ ml_X6_48) (hts _ im_X5_init) rfl (by decide +kernel) ⟨Nat.le_of_ble_eq_true rfl, Nat.le_of_ble_eq_true rfl⟩) (h_pre hK hN hG) rfl rfl hl.1 rfl (lv_room (Nat.le_of_ble_eq_true rfl)) dX6_session_49 ⟨Nat.le_of_ble_eq_true rfl, Nat.le_of_ble_eq_true rfl⟩) hS (fun q hq => hq.elim (fun e9 => by rw [e9]; exact (hAn _ ha1)) (fun h9 => hAn q (Nat.le_trans hS.1 h9))) (fun L3 H locs hL9 hn9 hG hS hz9 o9 => ?_)
  refine W.eq (g2 := F0 m 52 ls [.ref b1, .int (σ (0, 0, 0) 3), .ref (L (9, 0, 0))]) rfl ?_
  have hs_11_ns_0 : s.heap.size ≤ L3 (11, ns, 0) := by rw [hL9 _ hd_11_ns_0]; exact hs_11_ns_0
  have hs_12_ns_0 : s.heap.size ≤ L3 (12, ns, 0) := Nat.le_trans hz0 ((hn9 (12, ns, 0) (Or.inr (by simp))).resolve_left hf_12_ns_0)
  have hs_18_ns_0 : s.heap.size ≤ L3 (18, ns, 0) := Nat.le_trans hz0 ((hn9 (18, ns, 0) (Or.inr (by simp))).resolve_left hf_18_ns_0)
  have hs_19_ns_0 : s.heap.size ≤ L3 (19, ns, 0) := Nat.le_trans hz0 ((hn9 (19, ns, 0) (Or.inr (by simp))).resolve_left hf_19_ns_0)
  have hs_13_ns_0 : s.heap.size ≤ L3 (13, ns, 0) := Nat.le_trans hz0 ((hn9 (13, ns, 0) (Or.inr (by simp))).resolve_left hf_13_ns_0)
  have hs_14_ns_0 : s.heap.size ≤ L3 (14, ns, 0) := Nat.le_trans hz0 ((hn9 (14, ns, 0) (Or.inr (by simp))).resolve_left hf_14_ns_0)
  have hs_15_ns_0 : s.heap.size ≤ L3 (15, ns, 0) := Nat.le_trans hz0 ((hn9 (15, ns, 0) (Or.inr (by simp))).resolve_left hf_15_ns_0)
  have hs_16_ns_0 : s.heap.size ≤ L3 (16, ns, 0) := Nat.le_trans hz0 ((hn9 (16, ns, 0) (Or.inr (by simp))).resolve_left hf_16_ns_0)
  have hs_17_ns_0 : s.heap.size ≤ L3 (17, ns, 0) := Nat.le_trans hz0 ((hn9 (17, ns, 0) (Or.inr (by simp))).resolve_left hf_17_ns_0)
  have hs_20_ns_0 : s.heap.size ≤ L3 (20, ns, 0) := Nat.le_trans hz0 ((hn9 (20, ns, 0) (Or.inr (by simp))).resolve_left hf_20_ns_0)
  have hs_21_ns_0 : s.heap.size ≤ L3 (21, ns, 0) := Nat.le_trans hz0 ((hn9 (21, ns, 0) (Or.inr (by simp))).resolve_left hf_21_ns_0)
  have e_0_0_0 := (hL9 _ hd_0_0_0).trans e_0_0_0
  have e_9_0_0 := (hL9 _ hd_9_0_0).trans e_9_0_0
  have e_11_ns_0 := (hL9 _ hd_11_ns_0).trans e_11_ns_0
  have hLL := fun y (hy : dom y) => (hL9 y (hdd y hy)).trans (hLL y hy)
  have hdd := fun y (hy : dom y) => hG.uL (hdd y hy)
  have hd_0_0_0 := hG.uL hd_0_0_0
  have hd_9_0_0 := hG.uL hd_9_0_0
  have hd_11_ns_0 := hG.uL hd_11_ns_0
  have hd_12_ns_0 := hG.uR (y := (12, ns, 0)) (by simp)
  have e_12_ns_0 : L3 (12, ns, 0) = L3 (12, ns, 0) := rfl
  have hd_18_ns_0 := hG.uR (y := (18, ns, 0)) (by simp)
  have e_18_ns_0 : L3 (18, ns, 0) = L3 (18, ns, 0) := rfl
  have hd_19_ns_0 := hG.uR (y := (19, ns, 0)) (by simp)
  have e_19_ns_0 : L3 (19, ns, 0) = L3 (19, ns, 0) := rfl
  have hd_13_ns_0 := hG.uR (y := (13, ns, 0)) (by simp)
  have e_13_ns_0 : L3 (13, ns, 0) = L3 (13, ns, 0) := rfl
  have hd_14_ns_0 := hG.uR (y := (14, ns, 0)) (by simp)
  have e_14_ns_0 : L3 (14, ns, 0) = L3 (14, ns, 0) := rfl
  have hd_15_ns_0 := hG.uR (y := (15, ns, 0)) (by simp)
  have e_15_ns_0 : L3 (15, ns, 0) = L3 (15, ns, 0) := rfl
  have hd_16_ns_0 := hG.uR (y := (16, ns, 0)) (by simp)
  have e_16_ns_0 : L3 (16, ns, 0) = L3 (16, ns, 0) := rfl
  have hd_17_ns_0 := hG.uR (y := (17, ns, 0)) (by simp)
  have e_17_ns_0 : L3 (17, ns, 0) = L3 (17, ns, 0) := rfl
  have hd_20_ns_0 := hG.uR (y := (20, ns, 0)) (by simp)
  have e_20_ns_0 : L3 (20, ns, 0) = L3 (20, ns, 0) := rfl
  have hd_21_ns_0 := hG.uR (y := (21, ns, 0)) (by simp)
  have e_21_ns_0 : L3 (21, ns, 0) = L3 (21, ns, 0) := rfl
  have hG : g_H D vwCl _ L3 (fun x => if x = (11, ns, 0) then .inr (7, [.int p, .ref (L3 (12, ns, 0)), .ref (L3 (13, ns, 0)), .ref (L3 (17, ns, 0)), .int 1, .int 0, .int 0]) else if x = (12, ns, 0) then .inl (cy 3, 1, .inr (.inr (.inr (.inr (va_up (fun _ => none) 0 (some (L3 (18, ns, 0)))))))) else if x = (18, ns, 0) then .inr (5, [.ref (L3 (19, ns, 0)), .int 0, .int 0]) else if x = (19, ns, 0) then .inl (cy 0, 100, .inl (fun _ => 0)) else if x = (13, ns, 0) then .inr (2, [.int q, .ref (L3 (14, ns, 0)), .ref (L3 (15, ns, 0)), .ref (L3 (16, ns, 0)), .int 0, .int 0]) else if x = (14, ns, 0) then .inl (cy 0, 100, .inl (fun _ => 0)) else if x = (15, ns, 0) then .inl (cy 0, 100, .inl (fun _ => 0)) else if x = (16, ns, 0) then .inl (cy 0, 100, .inl (fun _ => 0)) else if x = (17, ns, 0) then .inr (6, [.ref (L3 (20, ns, 0)), .ref (L3 (21, ns, 0)), .int 0]) else if x = (20, ns, 0) then .inl (cy 0, 20, .inl (fun _ => 0)) else if x = (21, ns, 0) then .inl (cy 0, 20, .inl (fun _ => 0)) else V2 x) H := hG
  generalize hV4 : (fun x => if x = (11, ns, 0) then .inr (7, [.int p, .ref (L3 (12, ns, 0)), .ref (L3 (13, ns, 0)), .ref (L3 (17, ns, 0)), .int 1, .int 0, .int 0]) else if x = (12, ns, 0) then .inl (cy 3, 1, .inr (.inr (.inr (.inr (va_up (fun _ => none) 0 (some (L3 (18, ns, 0)))))))) else if x = (18, ns, 0) then .inr (5, [.ref (L3 (19, ns, 0)), .int 0, .int 0]) else if x = (19, ns, 0) then .inl (cy 0, 100, .inl (fun _ => 0)) else if x = (13, ns, 0) then .inr (2, [.int q, .ref (L3 (14, ns, 0)), .ref (L3 (15, ns, 0)), .ref (L3 (16, ns, 0)), .int 0, .int 0]) else if x = (14, ns, 0) then .inl (cy 0, 100, .inl (fun _ => 0)) else if x = (15, ns, 0) then .inl (cy 0, 100, .inl (fun _ => 0)) else if x = (16, ns, 0) then .inl (cy 0, 100, .inl (fun _ => 0)) else if x = (17, ns, 0) then .inr (6, [.ref (L3 (20, ns, 0)), .ref (L3 (21, ns, 0)), .int 0]) else if x = (20, ns, 0) then .inl (cy 0, 20, .inl (fun _ => 0)) else if x = (21, ns, 0) then .inl (cy 0, 20, .inl (fun _ => 0)) else V2 x) = V4 at hG
  have hv_0_0_0 : V4 (0, 0, 0) = .inr (8, [.ref (L (1, 0, 0)), .ref (L (2, 0, 0)), .ref (L (9, 0, 0)), .int (σ (0, 0, 0) 3)]) := by rw [← hV4]; exact (if_neg (by simp)).trans ((if_neg (by simp)).trans ((if_neg (by simp)).trans ((if_neg (by simp)).trans ((if_neg (by simp)).trans ((if_neg (by simp)).trans ((if_neg (by simp)).trans ((if_neg (by simp)).trans ((if_neg (by simp)).trans ((if_neg (by simp)).trans ((if_neg (by simp)).trans (hv_0_0_0)))))))))))
  have hv_9_0_0 : V4 (9, 0, 0) = .inl (cy 2, 8, .inr (.inr (.inr (.inr (fun k => if k < ns then some (L (11, k, 0)) else none))))) := by rw [← hV4]; exact (if_neg (by simp)).trans ((if_neg (by simp)).trans ((if_neg (by simp)).trans ((if_neg (by simp)).trans ((if_neg (by simp)).trans ((if_neg (by simp)).trans ((if_neg (by simp)).trans ((if_neg (by simp)).trans ((if_neg (by simp)).trans ((if_neg (by simp)).trans ((if_neg (by simp)).trans (hv_9_0_0)))))))))))
  have hv_11_ns_0 : V4 (11, ns, 0) = .inr (7, [.int p, .ref (L3 (12, ns, 0)), .ref (L3 (13, ns, 0)), .ref (L3 (17, ns, 0)), .int 1, .int 0, .int 0]) := by rw [← hV4]; exact if_pos rfl
  have hv_12_ns_0 : V4 (12, ns, 0) = .inl (cy 3, 1, .inr (.inr (.inr (.inr (va_up (fun _ => none) 0 (some (L3 (18, ns, 0)))))))) := by rw [← hV4]; exact (if_neg (by simp)).trans (if_pos rfl)
  have hv_18_ns_0 : V4 (18, ns, 0) = .inr (5, [.ref (L3 (19, ns, 0)), .int 0, .int 0]) := by rw [← hV4]; exact (if_neg (by simp)).trans ((if_neg (by simp)).trans (if_pos rfl))
  have hv_19_ns_0 : V4 (19, ns, 0) = .inl (cy 0, 100, .inl (fun _ => 0)) := by rw [← hV4]; exact (if_neg (by simp)).trans ((if_neg (by simp)).trans ((if_neg (by simp)).trans (if_pos rfl)))
  have hv_13_ns_0 : V4 (13, ns, 0) = .inr (2, [.int q, .ref (L3 (14, ns, 0)), .ref (L3 (15, ns, 0)), .ref (L3 (16, ns, 0)), .int 0, .int 0]) := by rw [← hV4]; exact (if_neg (by simp)).trans ((if_neg (by simp)).trans ((if_neg (by simp)).trans ((if_neg (by simp)).trans (if_pos rfl))))
  have hv_14_ns_0 : V4 (14, ns, 0) = .inl (cy 0, 100, .inl (fun _ => 0)) := by rw [← hV4]; exact (if_neg (by simp)).trans ((if_neg (by simp)).trans ((if_neg (by simp)).trans ((if_neg (by simp)).trans ((if_neg (by simp)).trans (if_pos rfl)))))
  have hv_15_ns_0 : V4 (15, ns, 0) = .inl (cy 0, 100, .inl (fun _ => 0)) := by rw [← hV4]; exact (if_neg (by simp)).trans ((if_neg (by simp)).trans ((if_neg (by simp)).trans ((if_neg (by simp)).trans ((if_neg (by simp)).trans ((if_neg (by simp)).trans (if_pos rfl))))))
  have hv_16_ns_0 : V4 (16, ns, 0) = .inl (cy 0, 100, .inl (fun _ => 0)) := by rw [← hV4]; exact (if_neg (by simp)).trans ((if_neg (by simp)).trans ((if_neg (by simp)).trans ((if_neg (by simp)).trans ((if_neg (by simp)).trans ((if_neg (by simp)).trans ((if_neg (by simp)).trans (if_pos rfl)))))))
  have hv_17_ns_0 : V4 (17, ns, 0) = .inr (6, [.ref (L3 (20, ns, 0)), .ref (L3 (21, ns, 0)), .int 0]) := by rw [← hV4]; exact (if_neg (by simp)).trans ((if_neg (by simp)).trans ((if_neg (by simp)).trans ((if_neg (by simp)).trans ((if_neg (by simp)).trans ((if_neg (by simp)).trans ((if_neg (by simp)).trans ((if_neg (by simp)).trans (if_pos rfl))))))))
  have hv_20_ns_0 : V4 (20, ns, 0) = .inl (cy 0, 20, .inl (fun _ => 0)) := by rw [← hV4]; exact (if_neg (by simp)).trans ((if_neg (by simp)).trans ((if_neg (by simp)).trans ((if_neg (by simp)).trans ((if_neg (by simp)).trans ((if_neg (by simp)).trans ((if_neg (by simp)).trans ((if_neg (by simp)).trans ((if_neg (by simp)).trans (if_pos rfl)))))))))
  have hv_21_ns_0 : V4 (21, ns, 0) = .inl (cy 0, 20, .inl (fun _ => 0)) := by rw [← hV4]; exact (if_neg (by simp)).trans ((if_neg (by simp)).trans ((if_neg (by simp)).trans ((if_neg (by simp)).trans ((if_neg (by simp)).trans ((if_neg (by simp)).trans ((if_neg (by simp)).trans ((if_neg (by simp)).trans ((if_neg (by simp)).trans ((if_neg (by simp)).trans (if_pos rfl))))))))))
  have hVo : ∀ y, y ≠ (0, 0, 0) ∧ y ≠ (9, 0, 0) ∧ y ≠ (11, ns, 0) ∧ y ≠ (12, ns, 0) ∧ y ≠ (18, ns, 0) ∧ y ≠ (19, ns, 0) ∧ y ≠ (13, ns, 0) ∧ y ≠ (14, ns, 0) ∧ y ≠ (15, ns, 0) ∧ y ≠ (16, ns, 0) ∧ y ≠ (17, ns, 0) ∧ y ≠ (20, ns, 0) ∧ y ≠ (21, ns, 0) → V4 y = V y := fun y hy => by rw [← hV4]; exact (if_neg (fun q => by subst q; simp at hy)).trans ((if_neg (fun q => by subst q; simp at hy)).trans ((if_neg (fun q => by subst q; simp at hy)).trans ((if_neg (fun q => by subst q; simp at hy)).trans ((if_neg (fun q => by subst q; simp at hy)).trans ((if_neg (fun q => by subst q; simp at hy)).trans ((if_neg (fun q => by subst q; simp at hy)).trans ((if_neg (fun q => by subst q; simp at hy)).trans ((if_neg (fun q => by subst q; simp at hy)).trans ((if_neg (fun q => by subst q; simp at hy)).trans ((if_neg (fun q => by subst q; simp at hy)).trans (hVo y hy)))))))))))
  refine h_astq hx hb hK hG hS (9, 0, 0) hd_9_0_0 e_9_0_0 hA9 2 7 (r := (RX5, TX5, 7)) hv_9_0_0 rfl (11, ns, 0) hd_11_ns_0 e_11_ns_0 hv_11_ns_0 rfl (g_vp (by omega) (by omega)) dX6_session_52 (fun H locs hG hS => ?_)
  have hix : (σ (0, 0, 0) 3).toNatClampNeg = ns := by rw [g_cl, h5]; omega
  rw [hix] at hG
  have hG : g_H D vwCl _ L3 (g_set V4 (9, 0, 0) (.inl (cy 2, 8, .inr (.inr (.inr (.inr (va_up (fun k => if k < ns then some (L (11, k, 0)) else none) ns (some b1)))))))) H := hG
  generalize hV5 : g_set V4 (9, 0, 0) (.inl (cy 2, 8, .inr (.inr (.inr (.inr (va_up (fun k => if k < ns then some (L (11, k, 0)) else none) ns (some b1))))))) = V5 at hG
  have hv_0_0_0 : V5 (0, 0, 0) = .inr (8, [.ref (L (1, 0, 0)), .ref (L (2, 0, 0)), .ref (L (9, 0, 0)), .int (σ (0, 0, 0) 3)]) := by rw [← hV5, g_set_ne (by decide)]; exact hv_0_0_0
  have hv_11_ns_0 : V5 (11, ns, 0) = .inr (7, [.int p, .ref (L3 (12, ns, 0)), .ref (L3 (13, ns, 0)), .ref (L3 (17, ns, 0)), .int 1, .int 0, .int 0]) := by rw [← hV5, g_set_ne (by simp)]; exact hv_11_ns_0
  have hv_12_ns_0 : V5 (12, ns, 0) = .inl (cy 3, 1, .inr (.inr (.inr (.inr (va_up (fun _ => none) 0 (some (L3 (18, ns, 0)))))))) := by rw [← hV5, g_set_ne (by simp)]; exact hv_12_ns_0
  have hv_18_ns_0 : V5 (18, ns, 0) = .inr (5, [.ref (L3 (19, ns, 0)), .int 0, .int 0]) := by rw [← hV5, g_set_ne (by simp)]; exact hv_18_ns_0
  have hv_19_ns_0 : V5 (19, ns, 0) = .inl (cy 0, 100, .inl (fun _ => 0)) := by rw [← hV5, g_set_ne (by simp)]; exact hv_19_ns_0
  have hv_13_ns_0 : V5 (13, ns, 0) = .inr (2, [.int q, .ref (L3 (14, ns, 0)), .ref (L3 (15, ns, 0)), .ref (L3 (16, ns, 0)), .int 0, .int 0]) := by rw [← hV5, g_set_ne (by simp)]; exact hv_13_ns_0
  have hv_14_ns_0 : V5 (14, ns, 0) = .inl (cy 0, 100, .inl (fun _ => 0)) := by rw [← hV5, g_set_ne (by simp)]; exact hv_14_ns_0
  have hv_15_ns_0 : V5 (15, ns, 0) = .inl (cy 0, 100, .inl (fun _ => 0)) := by rw [← hV5, g_set_ne (by simp)]; exact hv_15_ns_0
  have hv_16_ns_0 : V5 (16, ns, 0) = .inl (cy 0, 100, .inl (fun _ => 0)) := by rw [← hV5, g_set_ne (by simp)]; exact hv_16_ns_0
  have hv_17_ns_0 : V5 (17, ns, 0) = .inr (6, [.ref (L3 (20, ns, 0)), .ref (L3 (21, ns, 0)), .int 0]) := by rw [← hV5, g_set_ne (by simp)]; exact hv_17_ns_0
  have hv_20_ns_0 : V5 (20, ns, 0) = .inl (cy 0, 20, .inl (fun _ => 0)) := by rw [← hV5, g_set_ne (by simp)]; exact hv_20_ns_0
  have hv_21_ns_0 : V5 (21, ns, 0) = .inl (cy 0, 20, .inl (fun _ => 0)) := by rw [← hV5, g_set_ne (by simp)]; exact hv_21_ns_0
  have hv_9_0_0 : V5 (9, 0, 0) = .inl (cy 2, 8, .inr (.inr (.inr (.inr (va_up (fun k => if k < ns then some (L (11, k, 0)) else none) ns (some b1)))))) := by rw [← hV5, g_set_self]
  have hVo : ∀ y, y ≠ (0, 0, 0) ∧ y ≠ (9, 0, 0) ∧ y ≠ (11, ns, 0) ∧ y ≠ (12, ns, 0) ∧ y ≠ (18, ns, 0) ∧ y ≠ (19, ns, 0) ∧ y ≠ (13, ns, 0) ∧ y ≠ (14, ns, 0) ∧ y ≠ (15, ns, 0) ∧ y ≠ (16, ns, 0) ∧ y ≠ (17, ns, 0) ∧ y ≠ (20, ns, 0) ∧ y ≠ (21, ns, 0) → V5 y = V y := fun y hy => by rw [← hV5, g_set_ne (fun q => hy.2.1 q)]; first | done | exact hVo y hy
  refine lv_aload_n hx hb dX6_session_53 rfl (lv_at hl 0 rfl) ?_
  refine lv_dup hx hb dX6_session_54 rfl ?_
  refine h_get (C := RX6) (T := TX6) (N := 4) (ci := 8) (v := .int (σ (0, 0, 0) 3)) hx hb hts inX6g hown hK hG (0, 0, 0) hd_0_0_0 e_0_0_0 hv_0_0_0 rfl 3 (by decide) fl_X6_29 rfl dX6_session_55 ?_
  refine lv_iconst (v := 1) hx hb dX6_session_58 (by decide) ?_
  refine lv_iadd hx hb dX6_session_59 ?_
  refine h_put (C := RX6) (T := TX6) (N := 4) (ci := 8) (ty := .int) hx hb hts inX6g tyX6_ok nmX6 hown hK hG hS (0, 0, 0) hd_0_0_0 e_0_0_0 hA0 hv_0_0_0 rfl 3 (by decide) fl_X6_29 rfl (by decide +kernel) rfl rfl (Nat.le_of_ble_eq_true rfl) dX6_session_60 (fun H locs hG hS => ?_)
  have hG : g_H D vwCl _ L3 (g_set V5 (0, 0, 0) (.inr (8, [.ref (L (1, 0, 0)), .ref (L (2, 0, 0)), .ref (L (9, 0, 0)), .int (σ (0, 0, 0) 3 + 1)]))) H := hG
  generalize hV6 : g_set V5 (0, 0, 0) (.inr (8, [.ref (L (1, 0, 0)), .ref (L (2, 0, 0)), .ref (L (9, 0, 0)), .int (σ (0, 0, 0) 3 + 1)])) = V6 at hG
  have hv_9_0_0 : V6 (9, 0, 0) = .inl (cy 2, 8, .inr (.inr (.inr (.inr (va_up (fun k => if k < ns then some (L (11, k, 0)) else none) ns (some b1)))))) := by rw [← hV6, g_set_ne (by decide)]; exact hv_9_0_0
  have hv_11_ns_0 : V6 (11, ns, 0) = .inr (7, [.int p, .ref (L3 (12, ns, 0)), .ref (L3 (13, ns, 0)), .ref (L3 (17, ns, 0)), .int 1, .int 0, .int 0]) := by rw [← hV6, g_set_ne (by simp)]; exact hv_11_ns_0
  have hv_12_ns_0 : V6 (12, ns, 0) = .inl (cy 3, 1, .inr (.inr (.inr (.inr (va_up (fun _ => none) 0 (some (L3 (18, ns, 0)))))))) := by rw [← hV6, g_set_ne (by simp)]; exact hv_12_ns_0
  have hv_18_ns_0 : V6 (18, ns, 0) = .inr (5, [.ref (L3 (19, ns, 0)), .int 0, .int 0]) := by rw [← hV6, g_set_ne (by simp)]; exact hv_18_ns_0
  have hv_19_ns_0 : V6 (19, ns, 0) = .inl (cy 0, 100, .inl (fun _ => 0)) := by rw [← hV6, g_set_ne (by simp)]; exact hv_19_ns_0
  have hv_13_ns_0 : V6 (13, ns, 0) = .inr (2, [.int q, .ref (L3 (14, ns, 0)), .ref (L3 (15, ns, 0)), .ref (L3 (16, ns, 0)), .int 0, .int 0]) := by rw [← hV6, g_set_ne (by simp)]; exact hv_13_ns_0
  have hv_14_ns_0 : V6 (14, ns, 0) = .inl (cy 0, 100, .inl (fun _ => 0)) := by rw [← hV6, g_set_ne (by simp)]; exact hv_14_ns_0
  have hv_15_ns_0 : V6 (15, ns, 0) = .inl (cy 0, 100, .inl (fun _ => 0)) := by rw [← hV6, g_set_ne (by simp)]; exact hv_15_ns_0
  have hv_16_ns_0 : V6 (16, ns, 0) = .inl (cy 0, 100, .inl (fun _ => 0)) := by rw [← hV6, g_set_ne (by simp)]; exact hv_16_ns_0
  have hv_17_ns_0 : V6 (17, ns, 0) = .inr (6, [.ref (L3 (20, ns, 0)), .ref (L3 (21, ns, 0)), .int 0]) := by rw [← hV6, g_set_ne (by simp)]; exact hv_17_ns_0
  have hv_20_ns_0 : V6 (20, ns, 0) = .inl (cy 0, 20, .inl (fun _ => 0)) := by rw [← hV6, g_set_ne (by simp)]; exact hv_20_ns_0
  have hv_21_ns_0 : V6 (21, ns, 0) = .inl (cy 0, 20, .inl (fun _ => 0)) := by rw [← hV6, g_set_ne (by simp)]; exact hv_21_ns_0
  have hv_0_0_0 : V6 (0, 0, 0) = .inr (8, [.ref (L (1, 0, 0)), .ref (L (2, 0, 0)), .ref (L (9, 0, 0)), .int (σ (0, 0, 0) 3 + 1)]) := by rw [← hV6, g_set_self]
  have hVo : ∀ y, y ≠ (0, 0, 0) ∧ y ≠ (9, 0, 0) ∧ y ≠ (11, ns, 0) ∧ y ≠ (12, ns, 0) ∧ y ≠ (18, ns, 0) ∧ y ≠ (19, ns, 0) ∧ y ≠ (13, ns, 0) ∧ y ≠ (14, ns, 0) ∧ y ≠ (15, ns, 0) ∧ y ≠ (16, ns, 0) ∧ y ≠ (17, ns, 0) ∧ y ≠ (20, ns, 0) ∧ y ≠ (21, ns, 0) → V6 y = V y := fun y hy => by rw [← hV6, g_set_ne (fun q => hy.1 q)]; first | done | exact hVo y hy
  refine lv_aload_n hx hb dX6_session_63 rfl (lv_at hl 0 rfl) ?_
  refine h_get (C := RX6) (T := TX6) (N := 4) (ci := 8) (v := .int (σ (0, 0, 0) 3 + 1)) hx hb hts inX6g hown hK hG (0, 0, 0) hd_0_0_0 e_0_0_0 hv_0_0_0 rfl 3 (by decide) fl_X6_29 rfl dX6_session_64 ?_
  refine lv_iconst (v := 1) hx hb dX6_session_67 (by decide) ?_
  refine lv_isub hx hb dX6_session_68 ?_
  have hv9 : σ (0, 0, 0) 3 + 1 - 1 = σ (0, 0, 0) 3 := Int32.add_sub_cancel _ _
  rw [hv9]
  have hdI : ∀ x, x_dom ns kk x → dom x := fun x h => by rw [← hdom]; exact h
  have hLx : ∀ y, x_dom ns kk y → L3 y = L y := fun y hy => hLL y (hdI y hy)
  have hkn : x_kk kk ns p ns = 1 := by simp [x_kk, h8]
  have hko : ∀ i, i < ns → x_kk kk ns p i = kk i := fun i hi => by simp [x_kk, Nat.ne_of_lt hi]
  have hnw : ∀ y, x_dom (ns + 1) (x_kk kk ns p) y → dom y ∨ s.heap.size ≤ L3 y := by
    intro y h
    rcases x_dom_succ hko h with h | rfl | rfl | rfl | rfl | rfl | rfl | rfl | rfl | rfl | ⟨j, hj, rfl⟩ | ⟨j, hj, rfl⟩
    · exact Or.inl (hdI y h)
    · exact Or.inr hs_11_ns_0
    · exact Or.inr hs_12_ns_0
    · exact Or.inr hs_13_ns_0
    · exact Or.inr hs_14_ns_0
    · exact Or.inr hs_15_ns_0
    · exact Or.inr hs_16_ns_0
    · exact Or.inr hs_17_ns_0
    · exact Or.inr hs_20_ns_0
    · exact Or.inr hs_21_ns_0
    · rw [hkn] at hj
      rcases (show j = 0 by omega) with rfl
      · exact Or.inr hs_18_ns_0
    · rw [hkn] at hj
      rcases (show j = 0 by omega) with rfl
      · exact Or.inr hs_19_ns_0
  refine h_iret hx hb hr hlk hLL hnw (hG.congrA (fun x h => ?_) (fun x h => ?_)) (by rw [← hdom]; exact hS) dX6_session_69 rfl
  · rcases x_dom_succ hko h with h | rfl | rfl | rfl | rfl | rfl | rfl | rfl | rfl | rfl | ⟨j, hj, rfl⟩ | ⟨j, hj, rfl⟩
    · exact hdd x (hdI x h)
    · exact hd_11_ns_0
    · exact hd_12_ns_0
    · exact hd_13_ns_0
    · exact hd_14_ns_0
    · exact hd_15_ns_0
    · exact hd_16_ns_0
    · exact hd_17_ns_0
    · exact hd_20_ns_0
    · exact hd_21_ns_0
    · rw [hkn] at hj
      rcases (show j = 0 by omega) with rfl
      · exact hd_18_ns_0
    · rw [hkn] at hj
      rcases (show j = 0 by omega) with rfl
      · exact hd_19_ns_0
  · rcases x_dom_succ hko h with h | rfl | rfl | rfl | rfl | rfl | rfl | rfl | rfl | rfl | ⟨j, hj, rfl⟩ | ⟨j, hj, rfl⟩
    · by_cases q0 : x = (0, 0, 0)
      · subst q0
        rw [hv_0_0_0]
        exact Or.inl (by simp [x_K, x_sesM, upd, hLx (1, 0, 0) ⟨rfl, rfl⟩, hLx (2, 0, 0) ⟨rfl, rfl⟩, hLx (9, 0, 0) ⟨rfl, rfl⟩])
      · rw [x_sesM_old h q0]
        by_cases q9 : x = (9, 0, 0)
        · subst q9
          rw [hv_9_0_0]
          refine g_same.refs (f := fun k => if k < ns + 1 then some (L3 (11, k, 0)) else none) fun j hj => ?_
          unfold va_up
          by_cases ej : j = ns
          · subst ej; simp [← e_11_ns_0]
          · by_cases lj : j < ns
            · simp [ej, lj, show j < ns + 1 by omega, hLx (11, j, 0) ⟨lj, rfl⟩]
            · simp [ej, lj, show ¬ j < ns + 1 by omega]
        · rw [hVo x ⟨q0, q9, (fun q => by subst q; exact x_notin _ _ (by omega) h), (fun q => by subst q; exact x_notin _ _ (by omega) h), (fun q => by subst q; exact x_notin _ _ (by omega) h), (fun q => by subst q; exact x_notin _ _ (by omega) h), (fun q => by subst q; exact x_notin _ _ (by omega) h), (fun q => by subst q; exact x_notin _ _ (by omega) h), (fun q => by subst q; exact x_notin _ _ (by omega) h), (fun q => by subst q; exact x_notin _ _ (by omega) h), (fun q => by subst q; exact x_notin _ _ (by omega) h), (fun q => by subst q; exact x_notin _ _ (by omega) h), (fun q => by subst q; exact x_notin _ _ (by omega) h)⟩, ← hV0]
          refine x_K_move hLx hko x h ?_ _
          intro q; obtain ⟨a, i, j⟩ := x; subst q; obtain ⟨rfl, rfl⟩ := h; exact q9 rfl
    · rw [hv_11_ns_0]; exact Or.inl (by simp [x_K, x_sesM, x_new]; try rfl)
    · rw [hv_12_ns_0]
      show g_same (.inl (cy 3, x_kk kk ns p ns, _)) (.inl (cy 3, 1, _))
      rw [hkn]
      refine g_same.refs fun j hj => ?_
      rcases (show j = 0 by omega) with rfl <;> rfl
    · rw [hv_13_ns_0]; exact Or.inl (by simp [x_K, x_sesM, x_new]; try rfl)
    · rw [hv_14_ns_0]; exact Or.inl (by simp [x_K, x_sesM, x_new]; try rfl)
    · rw [hv_15_ns_0]; exact Or.inl (by simp [x_K, x_sesM, x_new]; try rfl)
    · rw [hv_16_ns_0]; exact Or.inl (by simp [x_K, x_sesM, x_new]; try rfl)
    · rw [hv_17_ns_0]; exact Or.inl (by simp [x_K, x_sesM, x_new]; try rfl)
    · rw [hv_20_ns_0]; exact Or.inl (by simp [x_K, x_sesM, x_new]; try rfl)
    · rw [hv_21_ns_0]; exact Or.inl (by simp [x_K, x_sesM, x_new]; try rfl)
    · rw [hkn] at hj
      rcases (show j = 0 by omega) with rfl
      · rw [hv_18_ns_0]; exact Or.inl (by simp [x_K, x_sesM, x_new]; try rfl)
    · rw [hkn] at hj
      rcases (show j = 0 by omega) with rfl
      · rw [hv_19_ns_0]; exact Or.inl (by simp [x_K, x_sesM, x_new]; try rfl)
set_option maxHeartbeats 4000000 in
set_option maxRecDepth 100000 in
theorem k_X6_session5 (l : Launch) (D : va_G) (cy : Nat → ClassId) (L : g_S → Nat) (ns : Nat) (kk : Nat → Nat) (σ : g_S → Nat → Int32) (sz : Nat) (p q : Int32) (h1 : 0 ≤ p.toInt) (h2 : p.toInt ≤ 7) (h3 : 1 ≤ q.toInt) (h4 : q.toInt ≤ 1000) (h5 : (σ (0, 0, 0) 3).toInt = (ns : Int)) (h6 : ns < 8) (h8 : ¬ (p &&& 4).toInt = 0) : h_Met l yX6_session (.code yX6_session cX6_session 3 (some .int)) 4 19 876 D vwCl (x_tys cy) (x_dom ns kk) L (fun z => x_K cy L ns kk z (σ z)) sz [.ref (L (0, 0, 0)), .int p, .int q] (fun q => g_A (x_dom ns kk) L q ∨ sz ≤ q) (some (.int (σ (0, 0, 0) 3))) (x_dom (ns + 1) (x_kk kk ns p)) (fun L' z => x_K cy L' (ns + 1) (x_kk kk ns p) z (x_sesM σ ns p q z)) := by
  refine h_Met.of (by decide) (Nat.le_of_ble_eq_true rfl) ?_
  intro pg e s m below meth c hx hb hr hlk hml hown hin2 hsz hts hK hN hG ls hl
  have hown : s.vm.findClass RX6 = some m.cls := hown
  have hl : lv_has ls 3 [(0, .ref (L (0, 0, 0))), (1, .int (p)), (2, .int (q))] := hl
  have hS : va_S (fun q => g_A (x_dom ns kk) L q ∨ sz ≤ q) s.heap s.heap [] := va_S.rf
  have hAn : ∀ q, s.heap.size ≤ q → (fun q => g_A (x_dom ns kk) L q ∨ sz ≤ q) q := fun q h => Or.inr (by rw [← hsz]; exact h)
  have hA0 : (fun q => g_A (x_dom ns kk) L q ∨ sz ≤ q) (L (0, 0, 0)) := Or.inl (g_A.in (x := (0, 0, 0)) ⟨rfl, rfl⟩)
  have hA9 : (fun q => g_A (x_dom ns kk) L q ∨ sz ≤ q) (L (9, 0, 0)) := Or.inl (g_A.in (x := (9, 0, 0)) ⟨rfl, rfl⟩)
  generalize hdom : x_dom ns kk = dom at hG
  have hd_0_0_0 : dom (0, 0, 0) := by rw [← hdom]; exact ⟨rfl, rfl⟩
  have hd_9_0_0 : dom (9, 0, 0) := by rw [← hdom]; exact ⟨rfl, rfl⟩
  have hf_11_ns_0 : ¬ dom (11, ns, 0) := by rw [← hdom]; exact x_notin _ _ (by omega)
  have hf_12_ns_0 : ¬ dom (12, ns, 0) := by rw [← hdom]; exact x_notin _ _ (by omega)
  have hf_18_ns_0 : ¬ dom (18, ns, 0) := by rw [← hdom]; exact x_notin _ _ (by omega)
  have hf_19_ns_0 : ¬ dom (19, ns, 0) := by rw [← hdom]; exact x_notin _ _ (by omega)
  have hf_18_ns_1 : ¬ dom (18, ns, 1) := by rw [← hdom]; exact x_notin _ _ (by omega)
  have hf_19_ns_1 : ¬ dom (19, ns, 1) := by rw [← hdom]; exact x_notin _ _ (by omega)
  have hf_18_ns_2 : ¬ dom (18, ns, 2) := by rw [← hdom]; exact x_notin _ _ (by omega)
  have hf_19_ns_2 : ¬ dom (19, ns, 2) := by rw [← hdom]; exact x_notin _ _ (by omega)
  have hf_18_ns_3 : ¬ dom (18, ns, 3) := by rw [← hdom]; exact x_notin _ _ (by omega)
  have hf_19_ns_3 : ¬ dom (19, ns, 3) := by rw [← hdom]; exact x_notin _ _ (by omega)
  have hf_18_ns_4 : ¬ dom (18, ns, 4) := by rw [← hdom]; exact x_notin _ _ (by omega)
  have hf_19_ns_4 : ¬ dom (19, ns, 4) := by rw [← hdom]; exact x_notin _ _ (by omega)
  have hf_13_ns_0 : ¬ dom (13, ns, 0) := by rw [← hdom]; exact x_notin _ _ (by omega)
  have hf_14_ns_0 : ¬ dom (14, ns, 0) := by rw [← hdom]; exact x_notin _ _ (by omega)
  have hf_15_ns_0 : ¬ dom (15, ns, 0) := by rw [← hdom]; exact x_notin _ _ (by omega)
  have hf_16_ns_0 : ¬ dom (16, ns, 0) := by rw [← hdom]; exact x_notin _ _ (by omega)
  have hf_17_ns_0 : ¬ dom (17, ns, 0) := by rw [← hdom]; exact x_notin _ _ (by omega)
  have hf_20_ns_0 : ¬ dom (20, ns, 0) := by rw [← hdom]; exact x_notin _ _ (by omega)
  have hf_21_ns_0 : ¬ dom (21, ns, 0) := by rw [← hdom]; exact x_notin _ _ (by omega)
  generalize hV0 : (fun z => x_K cy L ns kk z (σ z)) = V at hG
  have hv_0_0_0 : V (0, 0, 0) = .inr (8, [.ref (L (1, 0, 0)), .ref (L (2, 0, 0)), .ref (L (9, 0, 0)), .int (σ (0, 0, 0) 3)]) := by rw [← hV0]; rfl
  have hv_9_0_0 : V (9, 0, 0) = .inl (cy 2, 8, .inr (.inr (.inr (.inr (fun k => if k < ns then some (L (11, k, 0)) else none))))) := by rw [← hV0]; rfl
  have e_0_0_0 : L (0, 0, 0) = L (0, 0, 0) := rfl
  have e_9_0_0 : L (9, 0, 0) = L (9, 0, 0) := rfl
  have hLL := fun y (_ : dom y) => (rfl : L y = L y)
  have hdd := fun y (hy : dom y) => hy
  have hVo : ∀ y, y ≠ (0, 0, 0) ∧ y ≠ (9, 0, 0) ∧ y ≠ (11, ns, 0) ∧ y ≠ (12, ns, 0) ∧ y ≠ (18, ns, 0) ∧ y ≠ (19, ns, 0) ∧ y ≠ (18, ns, 1) ∧ y ≠ (19, ns, 1) ∧ y ≠ (18, ns, 2) ∧ y ≠ (19, ns, 2) ∧ y ≠ (18, ns, 3) ∧ y ≠ (19, ns, 3) ∧ y ≠ (18, ns, 4) ∧ y ≠ (19, ns, 4) ∧ y ≠ (13, ns, 0) ∧ y ≠ (14, ns, 0) ∧ y ≠ (15, ns, 0) ∧ y ≠ (16, ns, 0) ∧ y ≠ (17, ns, 0) ∧ y ≠ (20, ns, 0) ∧ y ≠ (21, ns, 0) → V y = V y := fun _ _ => rfl
  refine lv_iload_n hx hb dX6_session_0 rfl (lv_at hl 1 rfl) ?_
  refine kz_if_lt (X := p.toInt) hx hb rfl dX6_session_1 (tgt := 22) (by decide) (fun c9 => absurd c9 (by omega)) (fun c9 => ?_)
  refine lv_iload_n hx hb dX6_session_4 rfl (lv_at hl 1 rfl) ?_
  refine lv_bipush (v := 7) hx hb dX6_session_5 (by decide) ?_
  refine kz_icmp_gt (X := p.toInt) (Y := 7) hx hb rfl (by decide) dX6_session_7 (tgt := 22) (by decide) (fun c9 => absurd c9 (by omega)) (fun c9 => ?_)
  refine lv_iload_n hx hb dX6_session_10 rfl (lv_at hl 2 rfl) ?_
  refine lv_iconst (v := 1) hx hb dX6_session_11 (by decide) ?_
  refine kz_icmp_lt (X := q.toInt) (Y := 1) hx hb rfl (by decide) dX6_session_12 (tgt := 22) (by decide) (fun c9 => absurd c9 (by omega)) (fun c9 => ?_)
  refine lv_iload_n hx hb dX6_session_15 rfl (lv_at hl 2 rfl) ?_
  refine lv_sipush (v := 1000) hx hb dX6_session_16 (by decide) ?_
  refine kz_icmp_le (X := q.toInt) (Y := 1000) hx hb rfl (by decide) dX6_session_19 (tgt := 24) (by decide) (fun c9 => ?_) (fun c9 => absurd c9 (by omega))
  refine lv_aload_n hx hb dX6_session_24 rfl (lv_at hl 0 rfl) ?_
  refine h_get (C := RX6) (T := TX6) (N := 4) (ci := 8) (v := .int (σ (0, 0, 0) 3)) hx hb hts inX6g hown hK hG (0, 0, 0) hd_0_0_0 e_0_0_0 hv_0_0_0 rfl 3 (by decide) fl_X6_29 rfl dX6_session_25 ?_
  refine lv_bipush (v := 8) hx hb dX6_session_28 (by decide) ?_
  refine kz_icmp_lt (X := (ns : Int)) (Y := 8) hx hb h5 (by decide) dX6_session_30 (tgt := 35) (by decide) (fun c9 => ?_) (fun c9 => absurd c9 (by omega))
  refine lv_aload_n hx hb dX6_session_35 rfl (lv_at hl 0 rfl) ?_
  refine h_get (C := RX6) (T := TX6) (N := 4) (ci := 8) (v := .ref (L (9, 0, 0))) hx hb hts inX6g hown hK hG (0, 0, 0) hd_0_0_0 e_0_0_0 hv_0_0_0 rfl 2 (by decide) fl_X6_25 rfl dX6_session_36 ?_
  refine lv_aload_n hx hb dX6_session_39 rfl (lv_at hl 0 rfl) ?_
  refine h_get (C := RX6) (T := TX6) (N := 4) (ci := 8) (v := .int (σ (0, 0, 0) 3)) hx hb hts inX6g hown hK hG (0, 0, 0) hd_0_0_0 e_0_0_0 hv_0_0_0 rfl 3 (by decide) fl_X6_29 rfl dX6_session_40 ?_
  refine h_newo (C := RX5) (T := TX5) (N := 7) (ci := 7) (fs := [.int 0, .null, .null, .null, .int 0, .int 0, .int 0]) hx hb hts inX5g tyX5_ok hown cl_X6_23 ins_X5 ini_X5 hK hG hS (11, ns, 0) hf_11_ns_0 rfl (fun j hj => by rcases (show j = 0 ∨ j = 1 ∨ j = 2 ∨ j = 3 ∨ j = 4 ∨ j = 5 ∨ j = 6 by omega) with rfl | rfl | rfl | rfl | rfl | rfl | rfl <;> rfl) (Nat.le_of_ble_eq_true rfl) (Nat.le_of_ble_eq_true rfl) dX6_session_43 (fun L1 b1 H hL9 e_11_ns_0 ha1 hG hS hz9 o9 => ?_)
  have hs_11_ns_0 : s.heap.size ≤ L1 (11, ns, 0) := by rw [e_11_ns_0]; exact ha1
  have e_0_0_0 := (hL9 _ hd_0_0_0).trans e_0_0_0
  have e_9_0_0 := (hL9 _ hd_9_0_0).trans e_9_0_0
  have hLL := fun y (hy : dom y) => (hL9 y (hdd y hy)).trans (hLL y hy)
  have hdd := fun y (hy : dom y) => hG.inO (hdd y hy)
  have hd_0_0_0 := hG.inO hd_0_0_0
  have hd_9_0_0 := hG.inO hd_9_0_0
  have hd_11_ns_0 := hG.inX
  have hf_12_ns_0 := hG.notin hf_12_ns_0 (by simp)
  have hf_18_ns_0 := hG.notin hf_18_ns_0 (by simp)
  have hf_19_ns_0 := hG.notin hf_19_ns_0 (by simp)
  have hf_18_ns_1 := hG.notin hf_18_ns_1 (by simp)
  have hf_19_ns_1 := hG.notin hf_19_ns_1 (by simp)
  have hf_18_ns_2 := hG.notin hf_18_ns_2 (by simp)
  have hf_19_ns_2 := hG.notin hf_19_ns_2 (by simp)
  have hf_18_ns_3 := hG.notin hf_18_ns_3 (by simp)
  have hf_19_ns_3 := hG.notin hf_19_ns_3 (by simp)
  have hf_18_ns_4 := hG.notin hf_18_ns_4 (by simp)
  have hf_19_ns_4 := hG.notin hf_19_ns_4 (by simp)
  have hf_13_ns_0 := hG.notin hf_13_ns_0 (by simp)
  have hf_14_ns_0 := hG.notin hf_14_ns_0 (by simp)
  have hf_15_ns_0 := hG.notin hf_15_ns_0 (by simp)
  have hf_16_ns_0 := hG.notin hf_16_ns_0 (by simp)
  have hf_17_ns_0 := hG.notin hf_17_ns_0 (by simp)
  have hf_20_ns_0 := hG.notin hf_20_ns_0 (by simp)
  have hf_21_ns_0 := hG.notin hf_21_ns_0 (by simp)
  generalize hV2 : g_set V (11, ns, 0) (.inr (7, [.int 0, .null, .null, .null, .int 0, .int 0, .int 0])) = V2 at hG
  have hv_0_0_0 : V2 (0, 0, 0) = .inr (8, [.ref (L (1, 0, 0)), .ref (L (2, 0, 0)), .ref (L (9, 0, 0)), .int (σ (0, 0, 0) 3)]) := by rw [← hV2, g_set_ne (by simp)]; exact hv_0_0_0
  have hv_9_0_0 : V2 (9, 0, 0) = .inl (cy 2, 8, .inr (.inr (.inr (.inr (fun k => if k < ns then some (L (11, k, 0)) else none))))) := by rw [← hV2, g_set_ne (by simp)]; exact hv_9_0_0
  have hv_11_ns_0 : V2 (11, ns, 0) = .inr (7, [.int 0, .null, .null, .null, .int 0, .int 0, .int 0]) := by rw [← hV2, g_set_self]
  have hVo : ∀ y, y ≠ (0, 0, 0) ∧ y ≠ (9, 0, 0) ∧ y ≠ (11, ns, 0) ∧ y ≠ (12, ns, 0) ∧ y ≠ (18, ns, 0) ∧ y ≠ (19, ns, 0) ∧ y ≠ (18, ns, 1) ∧ y ≠ (19, ns, 1) ∧ y ≠ (18, ns, 2) ∧ y ≠ (19, ns, 2) ∧ y ≠ (18, ns, 3) ∧ y ≠ (19, ns, 3) ∧ y ≠ (18, ns, 4) ∧ y ≠ (19, ns, 4) ∧ y ≠ (13, ns, 0) ∧ y ≠ (14, ns, 0) ∧ y ≠ (15, ns, 0) ∧ y ≠ (16, ns, 0) ∧ y ≠ (17, ns, 0) ∧ y ≠ (20, ns, 0) ∧ y ≠ (21, ns, 0) → V2 y = V y := fun y hy => by rw [← hV2, g_set_ne (fun q => hy.2.2.1 q)]; first | done | exact hVo y hy
  refine lv_dup hx hb dX6_session_46 rfl ?_
  refine lv_iload_n hx hb dX6_session_47 rfl (lv_at hl 1 rfl) ?_
  refine lv_iload_n hx hb dX6_session_48 rfl (lv_at hl 2 rfl) ?_
  have hz0 := hS.1
  refine h_cont (va_runI (As := [.int p, .int q]) (rest := [.ref b1, .int (σ (0, 0, 0) 3), .ref (L (9, 0, 0))]) ⟨hx, hb, hml, hown, hts⟩ (k_X5_init5 l D cy _ L1 V2 H.size ns p q h8 b1 e_11_ns_0 hd_11_ns_0 hv_11_ns_0 hf_12_ns_0 hf_18_ns_0 hf_19_ns_0 hf_18_ns_1 hf_19_ns_1 hf_18_ns_2 hf_19_ns_2 hf_18_ns_3 hf_19_ns_3 hf_18_ns_4 hf_19_ns_4 hf_13_ns_0 hf_14_ns_0 hf_15_ns_0 hf_16_ns_0 hf_17_ns_0 hf_20_ns_0 hf_21_ns_0) (cwI 2 hts (g_good cwd_X5_init) rfl rfl rfl (hts _ ini_X5) (hts _ ml_X6_48) (hts _ im_X5_init) rfl (by decide +kernel) ⟨Nat.le_of_ble_eq_true rfl, Nat.le_of_ble_eq_true rfl⟩) (h_pre hK hN hG) rfl rfl hl.1 rfl (lv_room (Nat.le_of_ble_eq_true rfl)) dX6_session_49 ⟨Nat.le_of_ble_eq_true rfl, Nat.le_of_ble_eq_true rfl⟩) hS (fun q hq => hq.elim (fun e9 => by rw [e9]; exact (hAn _ ha1)) (fun h9 => hAn q (Nat.le_trans hS.1 h9))) (fun L3 H locs hL9 hn9 hG hS hz9 o9 => ?_)
  refine W.eq (g2 := F0 m 52 ls [.ref b1, .int (σ (0, 0, 0) 3), .ref (L (9, 0, 0))]) rfl ?_
  have hs_11_ns_0 : s.heap.size ≤ L3 (11, ns, 0) := by rw [hL9 _ hd_11_ns_0]; exact hs_11_ns_0
  have hs_12_ns_0 : s.heap.size ≤ L3 (12, ns, 0) := Nat.le_trans hz0 ((hn9 (12, ns, 0) (Or.inr (by simp))).resolve_left hf_12_ns_0)
  have hs_18_ns_0 : s.heap.size ≤ L3 (18, ns, 0) := Nat.le_trans hz0 ((hn9 (18, ns, 0) (Or.inr (by simp))).resolve_left hf_18_ns_0)
  have hs_19_ns_0 : s.heap.size ≤ L3 (19, ns, 0) := Nat.le_trans hz0 ((hn9 (19, ns, 0) (Or.inr (by simp))).resolve_left hf_19_ns_0)
  have hs_18_ns_1 : s.heap.size ≤ L3 (18, ns, 1) := Nat.le_trans hz0 ((hn9 (18, ns, 1) (Or.inr (by simp))).resolve_left hf_18_ns_1)
  have hs_19_ns_1 : s.heap.size ≤ L3 (19, ns, 1) := Nat.le_trans hz0 ((hn9 (19, ns, 1) (Or.inr (by simp))).resolve_left hf_19_ns_1)
  have hs_18_ns_2 : s.heap.size ≤ L3 (18, ns, 2) := Nat.le_trans hz0 ((hn9 (18, ns, 2) (Or.inr (by simp))).resolve_left hf_18_ns_2)
  have hs_19_ns_2 : s.heap.size ≤ L3 (19, ns, 2) := Nat.le_trans hz0 ((hn9 (19, ns, 2) (Or.inr (by simp))).resolve_left hf_19_ns_2)
  have hs_18_ns_3 : s.heap.size ≤ L3 (18, ns, 3) := Nat.le_trans hz0 ((hn9 (18, ns, 3) (Or.inr (by simp))).resolve_left hf_18_ns_3)
  have hs_19_ns_3 : s.heap.size ≤ L3 (19, ns, 3) := Nat.le_trans hz0 ((hn9 (19, ns, 3) (Or.inr (by simp))).resolve_left hf_19_ns_3)
  have hs_18_ns_4 : s.heap.size ≤ L3 (18, ns, 4) := Nat.le_trans hz0 ((hn9 (18, ns, 4) (Or.inr (by simp))).resolve_left hf_18_ns_4)
  have hs_19_ns_4 : s.heap.size ≤ L3 (19, ns, 4) := Nat.le_trans hz0 ((hn9 (19, ns, 4) (Or.inr (by simp))).resolve_left hf_19_ns_4)
  have hs_13_ns_0 : s.heap.size ≤ L3 (13, ns, 0) := Nat.le_trans hz0 ((hn9 (13, ns, 0) (Or.inr (by simp))).resolve_left hf_13_ns_0)
  have hs_14_ns_0 : s.heap.size ≤ L3 (14, ns, 0) := Nat.le_trans hz0 ((hn9 (14, ns, 0) (Or.inr (by simp))).resolve_left hf_14_ns_0)
  have hs_15_ns_0 : s.heap.size ≤ L3 (15, ns, 0) := Nat.le_trans hz0 ((hn9 (15, ns, 0) (Or.inr (by simp))).resolve_left hf_15_ns_0)
  have hs_16_ns_0 : s.heap.size ≤ L3 (16, ns, 0) := Nat.le_trans hz0 ((hn9 (16, ns, 0) (Or.inr (by simp))).resolve_left hf_16_ns_0)
  have hs_17_ns_0 : s.heap.size ≤ L3 (17, ns, 0) := Nat.le_trans hz0 ((hn9 (17, ns, 0) (Or.inr (by simp))).resolve_left hf_17_ns_0)
  have hs_20_ns_0 : s.heap.size ≤ L3 (20, ns, 0) := Nat.le_trans hz0 ((hn9 (20, ns, 0) (Or.inr (by simp))).resolve_left hf_20_ns_0)
  have hs_21_ns_0 : s.heap.size ≤ L3 (21, ns, 0) := Nat.le_trans hz0 ((hn9 (21, ns, 0) (Or.inr (by simp))).resolve_left hf_21_ns_0)
  have e_0_0_0 := (hL9 _ hd_0_0_0).trans e_0_0_0
  have e_9_0_0 := (hL9 _ hd_9_0_0).trans e_9_0_0
  have e_11_ns_0 := (hL9 _ hd_11_ns_0).trans e_11_ns_0
  have hLL := fun y (hy : dom y) => (hL9 y (hdd y hy)).trans (hLL y hy)
  have hdd := fun y (hy : dom y) => hG.uL (hdd y hy)
  have hd_0_0_0 := hG.uL hd_0_0_0
  have hd_9_0_0 := hG.uL hd_9_0_0
  have hd_11_ns_0 := hG.uL hd_11_ns_0
  have hd_12_ns_0 := hG.uR (y := (12, ns, 0)) (by simp)
  have e_12_ns_0 : L3 (12, ns, 0) = L3 (12, ns, 0) := rfl
  have hd_18_ns_0 := hG.uR (y := (18, ns, 0)) (by simp)
  have e_18_ns_0 : L3 (18, ns, 0) = L3 (18, ns, 0) := rfl
  have hd_19_ns_0 := hG.uR (y := (19, ns, 0)) (by simp)
  have e_19_ns_0 : L3 (19, ns, 0) = L3 (19, ns, 0) := rfl
  have hd_18_ns_1 := hG.uR (y := (18, ns, 1)) (by simp)
  have e_18_ns_1 : L3 (18, ns, 1) = L3 (18, ns, 1) := rfl
  have hd_19_ns_1 := hG.uR (y := (19, ns, 1)) (by simp)
  have e_19_ns_1 : L3 (19, ns, 1) = L3 (19, ns, 1) := rfl
  have hd_18_ns_2 := hG.uR (y := (18, ns, 2)) (by simp)
  have e_18_ns_2 : L3 (18, ns, 2) = L3 (18, ns, 2) := rfl
  have hd_19_ns_2 := hG.uR (y := (19, ns, 2)) (by simp)
  have e_19_ns_2 : L3 (19, ns, 2) = L3 (19, ns, 2) := rfl
  have hd_18_ns_3 := hG.uR (y := (18, ns, 3)) (by simp)
  have e_18_ns_3 : L3 (18, ns, 3) = L3 (18, ns, 3) := rfl
  have hd_19_ns_3 := hG.uR (y := (19, ns, 3)) (by simp)
  have e_19_ns_3 : L3 (19, ns, 3) = L3 (19, ns, 3) := rfl
  have hd_18_ns_4 := hG.uR (y := (18, ns, 4)) (by simp)
  have e_18_ns_4 : L3 (18, ns, 4) = L3 (18, ns, 4) := rfl
  have hd_19_ns_4 := hG.uR (y := (19, ns, 4)) (by simp)
  have e_19_ns_4 : L3 (19, ns, 4) = L3 (19, ns, 4) := rfl
  have hd_13_ns_0 := hG.uR (y := (13, ns, 0)) (by simp)
  have e_13_ns_0 : L3 (13, ns, 0) = L3 (13, ns, 0) := rfl
  have hd_14_ns_0 := hG.uR (y := (14, ns, 0)) (by simp)
  have e_14_ns_0 : L3 (14, ns, 0) = L3 (14, ns, 0) := rfl
  have hd_15_ns_0 := hG.uR (y := (15, ns, 0)) (by simp)
  have e_15_ns_0 : L3 (15, ns, 0) = L3 (15, ns, 0) := rfl
  have hd_16_ns_0 := hG.uR (y := (16, ns, 0)) (by simp)
  have e_16_ns_0 : L3 (16, ns, 0) = L3 (16, ns, 0) := rfl
  have hd_17_ns_0 := hG.uR (y := (17, ns, 0)) (by simp)
  have e_17_ns_0 : L3 (17, ns, 0) = L3 (17, ns, 0) := rfl
  have hd_20_ns_0 := hG.uR (y := (20, ns, 0)) (by simp)
  have e_20_ns_0 : L3 (20, ns, 0) = L3 (20, ns, 0) := rfl
  have hd_21_ns_0 := hG.uR (y := (21, ns, 0)) (by simp)
  have e_21_ns_0 : L3 (21, ns, 0) = L3 (21, ns, 0) := rfl
  have hG : g_H D vwCl _ L3 (fun x => if x = (11, ns, 0) then .inr (7, [.int p, .ref (L3 (12, ns, 0)), .ref (L3 (13, ns, 0)), .ref (L3 (17, ns, 0)), .int 1, .int 0, .int 0]) else if x = (12, ns, 0) then .inl (cy 3, 5, .inr (.inr (.inr (.inr (va_up (va_up (va_up (va_up (va_up (fun _ => none) 0 (some (L3 (18, ns, 0)))) 1 (some (L3 (18, ns, 1)))) 2 (some (L3 (18, ns, 2)))) 3 (some (L3 (18, ns, 3)))) 4 (some (L3 (18, ns, 4)))))))) else if x = (18, ns, 0) then .inr (5, [.ref (L3 (19, ns, 0)), .int 0, .int 0]) else if x = (19, ns, 0) then .inl (cy 0, 100, .inl (fun _ => 0)) else if x = (18, ns, 1) then .inr (5, [.ref (L3 (19, ns, 1)), .int 0, .int 0]) else if x = (19, ns, 1) then .inl (cy 0, 100, .inl (fun _ => 0)) else if x = (18, ns, 2) then .inr (5, [.ref (L3 (19, ns, 2)), .int 0, .int 0]) else if x = (19, ns, 2) then .inl (cy 0, 100, .inl (fun _ => 0)) else if x = (18, ns, 3) then .inr (5, [.ref (L3 (19, ns, 3)), .int 0, .int 0]) else if x = (19, ns, 3) then .inl (cy 0, 100, .inl (fun _ => 0)) else if x = (18, ns, 4) then .inr (5, [.ref (L3 (19, ns, 4)), .int 0, .int 0]) else if x = (19, ns, 4) then .inl (cy 0, 100, .inl (fun _ => 0)) else if x = (13, ns, 0) then .inr (2, [.int q, .ref (L3 (14, ns, 0)), .ref (L3 (15, ns, 0)), .ref (L3 (16, ns, 0)), .int 0, .int 0]) else if x = (14, ns, 0) then .inl (cy 0, 100, .inl (fun _ => 0)) else if x = (15, ns, 0) then .inl (cy 0, 100, .inl (fun _ => 0)) else if x = (16, ns, 0) then .inl (cy 0, 100, .inl (fun _ => 0)) else if x = (17, ns, 0) then .inr (6, [.ref (L3 (20, ns, 0)), .ref (L3 (21, ns, 0)), .int 0]) else if x = (20, ns, 0) then .inl (cy 0, 20, .inl (fun _ => 0)) else if x = (21, ns, 0) then .inl (cy 0, 20, .inl (fun _ => 0)) else V2 x) H := hG
  generalize hV4 : (fun x => if x = (11, ns, 0) then .inr (7, [.int p, .ref (L3 (12, ns, 0)), .ref (L3 (13, ns, 0)), .ref (L3 (17, ns, 0)), .int 1, .int 0, .int 0]) else if x = (12, ns, 0) then .inl (cy 3, 5, .inr (.inr (.inr (.inr (va_up (va_up (va_up (va_up (va_up (fun _ => none) 0 (some (L3 (18, ns, 0)))) 1 (some (L3 (18, ns, 1)))) 2 (some (L3 (18, ns, 2)))) 3 (some (L3 (18, ns, 3)))) 4 (some (L3 (18, ns, 4)))))))) else if x = (18, ns, 0) then .inr (5, [.ref (L3 (19, ns, 0)), .int 0, .int 0]) else if x = (19, ns, 0) then .inl (cy 0, 100, .inl (fun _ => 0)) else if x = (18, ns, 1) then .inr (5, [.ref (L3 (19, ns, 1)), .int 0, .int 0]) else if x = (19, ns, 1) then .inl (cy 0, 100, .inl (fun _ => 0)) else if x = (18, ns, 2) then .inr (5, [.ref (L3 (19, ns, 2)), .int 0, .int 0]) else if x = (19, ns, 2) then .inl (cy 0, 100, .inl (fun _ => 0)) else if x = (18, ns, 3) then .inr (5, [.ref (L3 (19, ns, 3)), .int 0, .int 0]) else if x = (19, ns, 3) then .inl (cy 0, 100, .inl (fun _ => 0)) else if x = (18, ns, 4) then .inr (5, [.ref (L3 (19, ns, 4)), .int 0, .int 0]) else if x = (19, ns, 4) then .inl (cy 0, 100, .inl (fun _ => 0)) else if x = (13, ns, 0) then .inr (2, [.int q, .ref (L3 (14, ns, 0)), .ref (L3 (15, ns, 0)), .ref (L3 (16, ns, 0)), .int 0, .int 0]) else if x = (14, ns, 0) then .inl (cy 0, 100, .inl (fun _ => 0)) else if x = (15, ns, 0) then .inl (cy 0, 100, .inl (fun _ => 0)) else if x = (16, ns, 0) then .inl (cy 0, 100, .inl (fun _ => 0)) else if x = (17, ns, 0) then .inr (6, [.ref (L3 (20, ns, 0)), .ref (L3 (21, ns, 0)), .int 0]) else if x = (20, ns, 0) then .inl (cy 0, 20, .inl (fun _ => 0)) else if x = (21, ns, 0) then .inl (cy 0, 20, .inl (fun _ => 0)) else V2 x) = V4 at hG
  have hv_0_0_0 : V4 (0, 0, 0) = .inr (8, [.ref (L (1, 0, 0)), .ref (L (2, 0, 0)), .ref (L (9, 0, 0)), .int (σ (0, 0, 0) 3)]) := by rw [← hV4]; exact (if_neg (by simp)).trans ((if_neg (by simp)).trans ((if_neg (by simp)).trans ((if_neg (by simp)).trans ((if_neg (by simp)).trans ((if_neg (by simp)).trans ((if_neg (by simp)).trans ((if_neg (by simp)).trans ((if_neg (by simp)).trans ((if_neg (by simp)).trans ((if_neg (by simp)).trans ((if_neg (by simp)).trans ((if_neg (by simp)).trans ((if_neg (by simp)).trans ((if_neg (by simp)).trans ((if_neg (by simp)).trans ((if_neg (by simp)).trans ((if_neg (by simp)).trans ((if_neg (by simp)).trans (hv_0_0_0)))))))))))))))))))
  have hv_9_0_0 : V4 (9, 0, 0) = .inl (cy 2, 8, .inr (.inr (.inr (.inr (fun k => if k < ns then some (L (11, k, 0)) else none))))) := by rw [← hV4]; exact (if_neg (by simp)).trans ((if_neg (by simp)).trans ((if_neg (by simp)).trans ((if_neg (by simp)).trans ((if_neg (by simp)).trans ((if_neg (by simp)).trans ((if_neg (by simp)).trans ((if_neg (by simp)).trans ((if_neg (by simp)).trans ((if_neg (by simp)).trans ((if_neg (by simp)).trans ((if_neg (by simp)).trans ((if_neg (by simp)).trans ((if_neg (by simp)).trans ((if_neg (by simp)).trans ((if_neg (by simp)).trans ((if_neg (by simp)).trans ((if_neg (by simp)).trans ((if_neg (by simp)).trans (hv_9_0_0)))))))))))))))))))
  have hv_11_ns_0 : V4 (11, ns, 0) = .inr (7, [.int p, .ref (L3 (12, ns, 0)), .ref (L3 (13, ns, 0)), .ref (L3 (17, ns, 0)), .int 1, .int 0, .int 0]) := by rw [← hV4]; exact if_pos rfl
  have hv_12_ns_0 : V4 (12, ns, 0) = .inl (cy 3, 5, .inr (.inr (.inr (.inr (va_up (va_up (va_up (va_up (va_up (fun _ => none) 0 (some (L3 (18, ns, 0)))) 1 (some (L3 (18, ns, 1)))) 2 (some (L3 (18, ns, 2)))) 3 (some (L3 (18, ns, 3)))) 4 (some (L3 (18, ns, 4)))))))) := by rw [← hV4]; exact (if_neg (by simp)).trans (if_pos rfl)
  have hv_18_ns_0 : V4 (18, ns, 0) = .inr (5, [.ref (L3 (19, ns, 0)), .int 0, .int 0]) := by rw [← hV4]; exact (if_neg (by simp)).trans ((if_neg (by simp)).trans (if_pos rfl))
  have hv_19_ns_0 : V4 (19, ns, 0) = .inl (cy 0, 100, .inl (fun _ => 0)) := by rw [← hV4]; exact (if_neg (by simp)).trans ((if_neg (by simp)).trans ((if_neg (by simp)).trans (if_pos rfl)))
  have hv_18_ns_1 : V4 (18, ns, 1) = .inr (5, [.ref (L3 (19, ns, 1)), .int 0, .int 0]) := by rw [← hV4]; exact (if_neg (by simp)).trans ((if_neg (by simp)).trans ((if_neg (by simp)).trans ((if_neg (by simp)).trans (if_pos rfl))))
  have hv_19_ns_1 : V4 (19, ns, 1) = .inl (cy 0, 100, .inl (fun _ => 0)) := by rw [← hV4]; exact (if_neg (by simp)).trans ((if_neg (by simp)).trans ((if_neg (by simp)).trans ((if_neg (by simp)).trans ((if_neg (by simp)).trans (if_pos rfl)))))
  have hv_18_ns_2 : V4 (18, ns, 2) = .inr (5, [.ref (L3 (19, ns, 2)), .int 0, .int 0]) := by rw [← hV4]; exact (if_neg (by simp)).trans ((if_neg (by simp)).trans ((if_neg (by simp)).trans ((if_neg (by simp)).trans ((if_neg (by simp)).trans ((if_neg (by simp)).trans (if_pos rfl))))))
  have hv_19_ns_2 : V4 (19, ns, 2) = .inl (cy 0, 100, .inl (fun _ => 0)) := by rw [← hV4]; exact (if_neg (by simp)).trans ((if_neg (by simp)).trans ((if_neg (by simp)).trans ((if_neg (by simp)).trans ((if_neg (by simp)).trans ((if_neg (by simp)).trans ((if_neg (by simp)).trans (if_pos rfl)))))))
  have hv_18_ns_3 : V4 (18, ns, 3) = .inr (5, [.ref (L3 (19, ns, 3)), .int 0, .int 0]) := by rw [← hV4]; exact (if_neg (by simp)).trans ((if_neg (by simp)).trans ((if_neg (by simp)).trans ((if_neg (by simp)).trans ((if_neg (by simp)).trans ((if_neg (by simp)).trans ((if_neg (by simp)).trans ((if_neg (by simp)).trans (if_pos rfl))))))))
  have hv_19_ns_3 : V4 (19, ns, 3) = .inl (cy 0, 100, .inl (fun _ => 0)) := by rw [← hV4]; exact (if_neg (by simp)).trans ((if_neg (by simp)).trans ((if_neg (by simp)).trans ((if_neg (by simp)).trans ((if_neg (by simp)).trans ((if_neg (by simp)).trans ((if_neg (by simp)).trans ((if_neg (by simp)).trans ((if_neg (by simp)).trans (if_pos rfl)))))))))
  have hv_18_ns_4 : V4 (18, ns, 4) = .inr (5, [.ref (L3 (19, ns, 4)), .int 0, .int 0]) := by rw [← hV4]; exact (if_neg (by simp)).trans ((if_neg (by simp)).trans ((if_neg (by simp)).trans ((if_neg (by simp)).trans ((if_neg (by simp)).trans ((if_neg (by simp)).trans ((if_neg (by simp)).trans ((if_neg (by simp)).trans ((if_neg (by simp)).trans ((if_neg (by simp)).trans (if_pos rfl))))))))))
  have hv_19_ns_4 : V4 (19, ns, 4) = .inl (cy 0, 100, .inl (fun _ => 0)) := by rw [← hV4]; exact (if_neg (by simp)).trans ((if_neg (by simp)).trans ((if_neg (by simp)).trans ((if_neg (by simp)).trans ((if_neg (by simp)).trans ((if_neg (by simp)).trans ((if_neg (by simp)).trans ((if_neg (by simp)).trans ((if_neg (by simp)).trans ((if_neg (by simp)).trans ((if_neg (by simp)).trans (if_pos rfl)))))))))))
  have hv_13_ns_0 : V4 (13, ns, 0) = .inr (2, [.int q, .ref (L3 (14, ns, 0)), .ref (L3 (15, ns, 0)), .ref (L3 (16, ns, 0)), .int 0, .int 0]) := by rw [← hV4]; exact (if_neg (by simp)).trans ((if_neg (by simp)).trans ((if_neg (by simp)).trans ((if_neg (by simp)).trans ((if_neg (by simp)).trans ((if_neg (by simp)).trans ((if_neg (by simp)).trans ((if_neg (by simp)).trans ((if_neg (by simp)).trans ((if_neg (by simp)).trans ((if_neg (by simp)).trans ((if_neg (by simp)).trans (if_pos rfl))))))))))))
  have hv_14_ns_0 : V4 (14, ns, 0) = .inl (cy 0, 100, .inl (fun _ => 0)) := by rw [← hV4]; exact (if_neg (by simp)).trans ((if_neg (by simp)).trans ((if_neg (by simp)).trans ((if_neg (by simp)).trans ((if_neg (by simp)).trans ((if_neg (by simp)).trans ((if_neg (by simp)).trans ((if_neg (by simp)).trans ((if_neg (by simp)).trans ((if_neg (by simp)).trans ((if_neg (by simp)).trans ((if_neg (by simp)).trans ((if_neg (by simp)).trans (if_pos rfl)))))))))))))
  have hv_15_ns_0 : V4 (15, ns, 0) = .inl (cy 0, 100, .inl (fun _ => 0)) := by rw [← hV4]; exact (if_neg (by simp)).trans ((if_neg (by simp)).trans ((if_neg (by simp)).trans ((if_neg (by simp)).trans ((if_neg (by simp)).trans ((if_neg (by simp)).trans ((if_neg (by simp)).trans ((if_neg (by simp)).trans ((if_neg (by simp)).trans ((if_neg (by simp)).trans ((if_neg (by simp)).trans ((if_neg (by simp)).trans ((if_neg (by simp)).trans ((if_neg (by simp)).trans (if_pos rfl))))))))))))))
  have hv_16_ns_0 : V4 (16, ns, 0) = .inl (cy 0, 100, .inl (fun _ => 0)) := by rw [← hV4]; exact (if_neg (by simp)).trans ((if_neg (by simp)).trans ((if_neg (by simp)).trans ((if_neg (by simp)).trans ((if_neg (by simp)).trans ((if_neg (by simp)).trans ((if_neg (by simp)).trans ((if_neg (by simp)).trans ((if_neg (by simp)).trans ((if_neg (by simp)).trans ((if_neg (by simp)).trans ((if_neg (by simp)).trans ((if_neg (by simp)).trans ((if_neg (by simp)).trans ((if_neg (by simp)).trans (if_pos rfl)))))))))))))))
  have hv_17_ns_0 : V4 (17, ns, 0) = .inr (6, [.ref (L3 (20, ns, 0)), .ref (L3 (21, ns, 0)), .int 0]) := by rw [← hV4]; exact (if_neg (by simp)).trans ((if_neg (by simp)).trans ((if_neg (by simp)).trans ((if_neg (by simp)).trans ((if_neg (by simp)).trans ((if_neg (by simp)).trans ((if_neg (by simp)).trans ((if_neg (by simp)).trans ((if_neg (by simp)).trans ((if_neg (by simp)).trans ((if_neg (by simp)).trans ((if_neg (by simp)).trans ((if_neg (by simp)).trans ((if_neg (by simp)).trans ((if_neg (by simp)).trans ((if_neg (by simp)).trans (if_pos rfl))))))))))))))))
  have hv_20_ns_0 : V4 (20, ns, 0) = .inl (cy 0, 20, .inl (fun _ => 0)) := by rw [← hV4]; exact (if_neg (by simp)).trans ((if_neg (by simp)).trans ((if_neg (by simp)).trans ((if_neg (by simp)).trans ((if_neg (by simp)).trans ((if_neg (by simp)).trans ((if_neg (by simp)).trans ((if_neg (by simp)).trans ((if_neg (by simp)).trans ((if_neg (by simp)).trans ((if_neg (by simp)).trans ((if_neg (by simp)).trans ((if_neg (by simp)).trans ((if_neg (by simp)).trans ((if_neg (by simp)).trans ((if_neg (by simp)).trans ((if_neg (by simp)).trans (if_pos rfl)))))))))))))))))
  have hv_21_ns_0 : V4 (21, ns, 0) = .inl (cy 0, 20, .inl (fun _ => 0)) := by rw [← hV4]; exact (if_neg (by simp)).trans ((if_neg (by simp)).trans ((if_neg (by simp)).trans ((if_neg (by simp)).trans ((if_neg (by simp)).trans ((if_neg (by simp)).trans ((if_neg (by simp)).trans ((if_neg (by simp)).trans ((if_neg (by simp)).trans ((if_neg (by simp)).trans ((if_neg (by simp)).trans ((if_neg (by simp)).trans ((if_neg (by simp)).trans ((if_neg (by simp)).trans ((if_neg (by simp)).trans ((if_neg (by simp)).trans ((if_neg (by simp)).trans ((if_neg (by simp)).trans (if_pos rfl))))))))))))))))))
  have hVo : ∀ y, y ≠ (0, 0, 0) ∧ y ≠ (9, 0, 0) ∧ y ≠ (11, ns, 0) ∧ y ≠ (12, ns, 0) ∧ y ≠ (18, ns, 0) ∧ y ≠ (19, ns, 0) ∧ y ≠ (18, ns, 1) ∧ y ≠ (19, ns, 1) ∧ y ≠ (18, ns, 2) ∧ y ≠ (19, ns, 2) ∧ y ≠ (18, ns, 3) ∧ y ≠ (19, ns, 3) ∧ y ≠ (18, ns, 4) ∧ y ≠ (19, ns, 4) ∧ y ≠ (13, ns, 0) ∧ y ≠ (14, ns, 0) ∧ y ≠ (15, ns, 0) ∧ y ≠ (16, ns, 0) ∧ y ≠ (17, ns, 0) ∧ y ≠ (20, ns, 0) ∧ y ≠ (21, ns, 0) → V4 y = V y := fun y hy => by rw [← hV4]; exact (if_neg (fun q => by subst q; simp at hy)).trans ((if_neg (fun q => by subst q; simp at hy)).trans ((if_neg (fun q => by subst q; simp at hy)).trans ((if_neg (fun q => by subst q; simp at hy)).trans ((if_neg (fun q => by subst q; simp at hy)).trans ((if_neg (fun q => by subst q; simp at hy)).trans ((if_neg (fun q => by subst q; simp at hy)).trans ((if_neg (fun q => by subst q; simp at hy)).trans ((if_neg (fun q => by subst q; simp at hy)).trans ((if_neg (fun q => by subst q; simp at hy)).trans ((if_neg (fun q => by subst q; simp at hy)).trans ((if_neg (fun q => by subst q; simp at hy)).trans ((if_neg (fun q => by subst q; simp at hy)).trans ((if_neg (fun q => by subst q; simp at hy)).trans ((if_neg (fun q => by subst q; simp at hy)).trans ((if_neg (fun q => by subst q; simp at hy)).trans ((if_neg (fun q => by subst q; simp at hy)).trans ((if_neg (fun q => by subst q; simp at hy)).trans ((if_neg (fun q => by subst q; simp at hy)).trans (hVo y hy)))))))))))))))))))
  refine h_astq hx hb hK hG hS (9, 0, 0) hd_9_0_0 e_9_0_0 hA9 2 7 (r := (RX5, TX5, 7)) hv_9_0_0 rfl (11, ns, 0) hd_11_ns_0 e_11_ns_0 hv_11_ns_0 rfl (g_vp (by omega) (by omega)) dX6_session_52 (fun H locs hG hS => ?_)
  have hix : (σ (0, 0, 0) 3).toNatClampNeg = ns := by rw [g_cl, h5]; omega
  rw [hix] at hG
  have hG : g_H D vwCl _ L3 (g_set V4 (9, 0, 0) (.inl (cy 2, 8, .inr (.inr (.inr (.inr (va_up (fun k => if k < ns then some (L (11, k, 0)) else none) ns (some b1)))))))) H := hG
  generalize hV5 : g_set V4 (9, 0, 0) (.inl (cy 2, 8, .inr (.inr (.inr (.inr (va_up (fun k => if k < ns then some (L (11, k, 0)) else none) ns (some b1))))))) = V5 at hG
  have hv_0_0_0 : V5 (0, 0, 0) = .inr (8, [.ref (L (1, 0, 0)), .ref (L (2, 0, 0)), .ref (L (9, 0, 0)), .int (σ (0, 0, 0) 3)]) := by rw [← hV5, g_set_ne (by decide)]; exact hv_0_0_0
  have hv_11_ns_0 : V5 (11, ns, 0) = .inr (7, [.int p, .ref (L3 (12, ns, 0)), .ref (L3 (13, ns, 0)), .ref (L3 (17, ns, 0)), .int 1, .int 0, .int 0]) := by rw [← hV5, g_set_ne (by simp)]; exact hv_11_ns_0
  have hv_12_ns_0 : V5 (12, ns, 0) = .inl (cy 3, 5, .inr (.inr (.inr (.inr (va_up (va_up (va_up (va_up (va_up (fun _ => none) 0 (some (L3 (18, ns, 0)))) 1 (some (L3 (18, ns, 1)))) 2 (some (L3 (18, ns, 2)))) 3 (some (L3 (18, ns, 3)))) 4 (some (L3 (18, ns, 4)))))))) := by rw [← hV5, g_set_ne (by simp)]; exact hv_12_ns_0
  have hv_18_ns_0 : V5 (18, ns, 0) = .inr (5, [.ref (L3 (19, ns, 0)), .int 0, .int 0]) := by rw [← hV5, g_set_ne (by simp)]; exact hv_18_ns_0
  have hv_19_ns_0 : V5 (19, ns, 0) = .inl (cy 0, 100, .inl (fun _ => 0)) := by rw [← hV5, g_set_ne (by simp)]; exact hv_19_ns_0
  have hv_18_ns_1 : V5 (18, ns, 1) = .inr (5, [.ref (L3 (19, ns, 1)), .int 0, .int 0]) := by rw [← hV5, g_set_ne (by simp)]; exact hv_18_ns_1
  have hv_19_ns_1 : V5 (19, ns, 1) = .inl (cy 0, 100, .inl (fun _ => 0)) := by rw [← hV5, g_set_ne (by simp)]; exact hv_19_ns_1
  have hv_18_ns_2 : V5 (18, ns, 2) = .inr (5, [.ref (L3 (19, ns, 2)), .int 0, .int 0]) := by rw [← hV5, g_set_ne (by simp)]; exact hv_18_ns_2
  have hv_19_ns_2 : V5 (19, ns, 2) = .inl (cy 0, 100, .inl (fun _ => 0)) := by rw [← hV5, g_set_ne (by simp)]; exact hv_19_ns_2
  have hv_18_ns_3 : V5 (18, ns, 3) = .inr (5, [.ref (L3 (19, ns, 3)), .int 0, .int 0]) := by rw [← hV5, g_set_ne (by simp)]; exact hv_18_ns_3
  have hv_19_ns_3 : V5 (19, ns, 3) = .inl (cy 0, 100, .inl (fun _ => 0)) := by rw [← hV5, g_set_ne (by simp)]; exact hv_19_ns_3
  have hv_18_ns_4 : V5 (18, ns, 4) = .inr (5, [.ref (L3 (19, ns, 4)), .int 0, .int 0]) := by rw [← hV5, g_set_ne (by simp)]; exact hv_18_ns_4
  have hv_19_ns_4 : V5 (19, ns, 4) = .inl (cy 0, 100, .inl (fun _ => 0)) := by rw [← hV5, g_set_ne (by simp)]; exact hv_19_ns_4
  have hv_13_ns_0 : V5 (13, ns, 0) = .inr (2, [.int q, .ref (L3 (14, ns, 0)), .ref (L3 (15, ns, 0)), .ref (L3 (16, ns, 0)), .int 0, .int 0]) := by rw [← hV5, g_set_ne (by simp)]; exact hv_13_ns_0
  have hv_14_ns_0 : V5 (14, ns, 0) = .inl (cy 0, 100, .inl (fun _ => 0)) := by rw [← hV5, g_set_ne (by simp)]; exact hv_14_ns_0
  have hv_15_ns_0 : V5 (15, ns, 0) = .inl (cy 0, 100, .inl (fun _ => 0)) := by rw [← hV5, g_set_ne (by simp)]; exact hv_15_ns_0
  have hv_16_ns_0 : V5 (16, ns, 0) = .inl (cy 0, 100, .inl (fun _ => 0)) := by rw [← hV5, g_set_ne (by simp)]; exact hv_16_ns_0
  have hv_17_ns_0 : V5 (17, ns, 0) = .inr (6, [.ref (L3 (20, ns, 0)), .ref (L3 (21, ns, 0)), .int 0]) := by rw [← hV5, g_set_ne (by simp)]; exact hv_17_ns_0
  have hv_20_ns_0 : V5 (20, ns, 0) = .inl (cy 0, 20, .inl (fun _ => 0)) := by rw [← hV5, g_set_ne (by simp)]; exact hv_20_ns_0
  have hv_21_ns_0 : V5 (21, ns, 0) = .inl (cy 0, 20, .inl (fun _ => 0)) := by rw [← hV5, g_set_ne (by simp)]; exact hv_21_ns_0
  have hv_9_0_0 : V5 (9, 0, 0) = .inl (cy 2, 8, .inr (.inr (.inr (.inr (va_up (fun k => if k < ns then some (L (11, k, 0)) else none) ns (some b1)))))) := by rw [← hV5, g_set_self]
  have hVo : ∀ y, y ≠ (0, 0, 0) ∧ y ≠ (9, 0, 0) ∧ y ≠ (11, ns, 0) ∧ y ≠ (12, ns, 0) ∧ y ≠ (18, ns, 0) ∧ y ≠ (19, ns, 0) ∧ y ≠ (18, ns, 1) ∧ y ≠ (19, ns, 1) ∧ y ≠ (18, ns, 2) ∧ y ≠ (19, ns, 2) ∧ y ≠ (18, ns, 3) ∧ y ≠ (19, ns, 3) ∧ y ≠ (18, ns, 4) ∧ y ≠ (19, ns, 4) ∧ y ≠ (13, ns, 0) ∧ y ≠ (14, ns, 0) ∧ y ≠ (15, ns, 0) ∧ y ≠ (16, ns, 0) ∧ y ≠ (17, ns, 0) ∧ y ≠ (20, ns, 0) ∧ y ≠ (21, ns, 0) → V5 y = V y := fun y hy => by rw [← hV5, g_set_ne (fun q => hy.2.1 q)]; first | done | exact hVo y hy
  refine lv_aload_n hx hb dX6_session_53 rfl (lv_at hl 0 rfl) ?_
  refine lv_dup hx hb dX6_session_54 rfl ?_
  refine h_get (C := RX6) (T := TX6) (N := 4) (ci := 8) (v := .int (σ (0, 0, 0) 3)) hx hb hts inX6g hown hK hG (0, 0, 0) hd_0_0_0 e_0_0_0 hv_0_0_0 rfl 3 (by decide) fl_X6_29 rfl dX6_session_55 ?_
  refine lv_iconst (v := 1) hx hb dX6_session_58 (by decide) ?_
  refine lv_iadd hx hb dX6_session_59 ?_
  refine h_put (C := RX6) (T := TX6) (N := 4) (ci := 8) (ty := .int) hx hb hts inX6g tyX6_ok nmX6 hown hK hG hS (0, 0, 0) hd_0_0_0 e_0_0_0 hA0 hv_0_0_0 rfl 3 (by decide) fl_X6_29 rfl (by decide +kernel) rfl rfl (Nat.le_of_ble_eq_true rfl) dX6_session_60 (fun H locs hG hS => ?_)
  have hG : g_H D vwCl _ L3 (g_set V5 (0, 0, 0) (.inr (8, [.ref (L (1, 0, 0)), .ref (L (2, 0, 0)), .ref (L (9, 0, 0)), .int (σ (0, 0, 0) 3 + 1)]))) H := hG
  generalize hV6 : g_set V5 (0, 0, 0) (.inr (8, [.ref (L (1, 0, 0)), .ref (L (2, 0, 0)), .ref (L (9, 0, 0)), .int (σ (0, 0, 0) 3 + 1)])) = V6 at hG
  have hv_9_0_0 : V6 (9, 0, 0) = .inl (cy 2, 8, .inr (.inr (.inr (.inr (va_up (fun k => if k < ns then some (L (11, k, 0)) else none) ns (some b1)))))) := by rw [← hV6, g_set_ne (by decide)]; exact hv_9_0_0
  have hv_11_ns_0 : V6 (11, ns, 0) = .inr (7, [.int p, .ref (L3 (12, ns, 0)), .ref (L3 (13, ns, 0)), .ref (L3 (17, ns, 0)), .int 1, .int 0, .int 0]) := by rw [← hV6, g_set_ne (by simp)]; exact hv_11_ns_0
  have hv_12_ns_0 : V6 (12, ns, 0) = .inl (cy 3, 5, .inr (.inr (.inr (.inr (va_up (va_up (va_up (va_up (va_up (fun _ => none) 0 (some (L3 (18, ns, 0)))) 1 (some (L3 (18, ns, 1)))) 2 (some (L3 (18, ns, 2)))) 3 (some (L3 (18, ns, 3)))) 4 (some (L3 (18, ns, 4)))))))) := by rw [← hV6, g_set_ne (by simp)]; exact hv_12_ns_0
  have hv_18_ns_0 : V6 (18, ns, 0) = .inr (5, [.ref (L3 (19, ns, 0)), .int 0, .int 0]) := by rw [← hV6, g_set_ne (by simp)]; exact hv_18_ns_0
  have hv_19_ns_0 : V6 (19, ns, 0) = .inl (cy 0, 100, .inl (fun _ => 0)) := by rw [← hV6, g_set_ne (by simp)]; exact hv_19_ns_0
  have hv_18_ns_1 : V6 (18, ns, 1) = .inr (5, [.ref (L3 (19, ns, 1)), .int 0, .int 0]) := by rw [← hV6, g_set_ne (by simp)]; exact hv_18_ns_1
  have hv_19_ns_1 : V6 (19, ns, 1) = .inl (cy 0, 100, .inl (fun _ => 0)) := by rw [← hV6, g_set_ne (by simp)]; exact hv_19_ns_1
  have hv_18_ns_2 : V6 (18, ns, 2) = .inr (5, [.ref (L3 (19, ns, 2)), .int 0, .int 0]) := by rw [← hV6, g_set_ne (by simp)]; exact hv_18_ns_2
  have hv_19_ns_2 : V6 (19, ns, 2) = .inl (cy 0, 100, .inl (fun _ => 0)) := by rw [← hV6, g_set_ne (by simp)]; exact hv_19_ns_2
  have hv_18_ns_3 : V6 (18, ns, 3) = .inr (5, [.ref (L3 (19, ns, 3)), .int 0, .int 0]) := by rw [← hV6, g_set_ne (by simp)]; exact hv_18_ns_3
  have hv_19_ns_3 : V6 (19, ns, 3) = .inl (cy 0, 100, .inl (fun _ => 0)) := by rw [← hV6, g_set_ne (by simp)]; exact hv_19_ns_3
  have hv_18_ns_4 : V6 (18, ns, 4) = .inr (5, [.ref (L3 (19, ns, 4)), .int 0, .int 0]) := by rw [← hV6, g_set_ne (by simp)]; exact hv_18_ns_4
  have hv_19_ns_4 : V6 (19, ns, 4) = .inl (cy 0, 100, .inl (fun _ => 0)) := by rw [← hV6, g_set_ne (by simp)]; exact hv_19_ns_4
  have hv_13_ns_0 : V6 (13, ns, 0) = .inr (2, [.int q, .ref (L3 (14, ns, 0)), .ref (L3 (15, ns, 0)), .ref (L3 (16, ns, 0)), .int 0, .int 0]) := by rw [← hV6, g_set_ne (by simp)]; exact hv_13_ns_0
  have hv_14_ns_0 : V6 (14, ns, 0) = .inl (cy 0, 100, .inl (fun _ => 0)) := by rw [← hV6, g_set_ne (by simp)]; exact hv_14_ns_0
  have hv_15_ns_0 : V6 (15, ns, 0) = .inl (cy 0, 100, .inl (fun _ => 0)) := by rw [← hV6, g_set_ne (by simp)]; exact hv_15_ns_0
  have hv_16_ns_0 : V6 (16, ns, 0) = .inl (cy 0, 100, .inl (fun _ => 0)) := by rw [← hV6, g_set_ne (by simp)]; exact hv_16_ns_0
  have hv_17_ns_0 : V6 (17, ns, 0) = .inr (6, [.ref (L3 (20, ns, 0)), .ref (L3 (21, ns, 0)), .int 0]) := by rw [← hV6, g_set_ne (by simp)]; exact hv_17_ns_0
  have hv_20_ns_0 : V6 (20, ns, 0) = .inl (cy 0, 20, .inl (fun _ => 0)) := by rw [← hV6, g_set_ne (by simp)]; exact hv_20_ns_0
  have hv_21_ns_0 : V6 (21, ns, 0) = .inl (cy 0, 20, .inl (fun _ => 0)) := by rw [← hV6, g_set_ne (by simp)]; exact hv_21_ns_0
  have hv_0_0_0 : V6 (0, 0, 0) = .inr (8, [.ref (L (1, 0, 0)), .ref (L (2, 0, 0)), .ref (L (9, 0, 0)), .int (σ (0, 0, 0) 3 + 1)]) := by rw [← hV6, g_set_self]
  have hVo : ∀ y, y ≠ (0, 0, 0) ∧ y ≠ (9, 0, 0) ∧ y ≠ (11, ns, 0) ∧ y ≠ (12, ns, 0) ∧ y ≠ (18, ns, 0) ∧ y ≠ (19, ns, 0) ∧ y ≠ (18, ns, 1) ∧ y ≠ (19, ns, 1) ∧ y ≠ (18, ns, 2) ∧ y ≠ (19, ns, 2) ∧ y ≠ (18, ns, 3) ∧ y ≠ (19, ns, 3) ∧ y ≠ (18, ns, 4) ∧ y ≠ (19, ns, 4) ∧ y ≠ (13, ns, 0) ∧ y ≠ (14, ns, 0) ∧ y ≠ (15, ns, 0) ∧ y ≠ (16, ns, 0) ∧ y ≠ (17, ns, 0) ∧ y ≠ (20, ns, 0) ∧ y ≠ (21, ns, 0) → V6 y = V y := fun y hy => by rw [← hV6, g_set_ne (fun q => hy.1 q)]; first | done | exact hVo y hy
  refine lv_aload_n hx hb dX6_session_63 rfl (lv_at hl 0 rfl) ?_
  refine h_get (C := RX6) (T := TX6) (N := 4) (ci := 8) (v := .int (σ (0, 0, 0) 3 + 1)) hx hb hts inX6g hown hK hG (0, 0, 0) hd_0_0_0 e_0_0_0 hv_0_0_0 rfl 3 (by decide) fl_X6_29 rfl dX6_session_64 ?_
  refine lv_iconst (v := 1) hx hb dX6_session_67 (by decide) ?_
  refine lv_isub hx hb dX6_session_68 ?_
  have hv9 : σ (0, 0, 0) 3 + 1 - 1 = σ (0, 0, 0) 3 := Int32.add_sub_cancel _ _
  rw [hv9]
  have hdI : ∀ x, x_dom ns kk x → dom x := fun x h => by rw [← hdom]; exact h
  have hLx : ∀ y, x_dom ns kk y → L3 y = L y := fun y hy => hLL y (hdI y hy)
  have hkn : x_kk kk ns p ns = 5 := by simp [x_kk, h8]
  have hko : ∀ i, i < ns → x_kk kk ns p i = kk i := fun i hi => by simp [x_kk, Nat.ne_of_lt hi]
  have hnw : ∀ y, x_dom (ns + 1) (x_kk kk ns p) y → dom y ∨ s.heap.size ≤ L3 y := by
    intro y h
    rcases x_dom_succ hko h with h | rfl | rfl | rfl | rfl | rfl | rfl | rfl | rfl | rfl | ⟨j, hj, rfl⟩ | ⟨j, hj, rfl⟩
    · exact Or.inl (hdI y h)
    · exact Or.inr hs_11_ns_0
    · exact Or.inr hs_12_ns_0
    · exact Or.inr hs_13_ns_0
    · exact Or.inr hs_14_ns_0
    · exact Or.inr hs_15_ns_0
    · exact Or.inr hs_16_ns_0
    · exact Or.inr hs_17_ns_0
    · exact Or.inr hs_20_ns_0
    · exact Or.inr hs_21_ns_0
    · rw [hkn] at hj
      rcases (show j = 0 ∨ j = 1 ∨ j = 2 ∨ j = 3 ∨ j = 4 by omega) with rfl | rfl | rfl | rfl | rfl
      · exact Or.inr hs_18_ns_0
      · exact Or.inr hs_18_ns_1
      · exact Or.inr hs_18_ns_2
      · exact Or.inr hs_18_ns_3
      · exact Or.inr hs_18_ns_4
    · rw [hkn] at hj
      rcases (show j = 0 ∨ j = 1 ∨ j = 2 ∨ j = 3 ∨ j = 4 by omega) with rfl | rfl | rfl | rfl | rfl
      · exact Or.inr hs_19_ns_0
      · exact Or.inr hs_19_ns_1
      · exact Or.inr hs_19_ns_2
      · exact Or.inr hs_19_ns_3
      · exact Or.inr hs_19_ns_4
  refine h_iret hx hb hr hlk hLL hnw (hG.congrA (fun x h => ?_) (fun x h => ?_)) (by rw [← hdom]; exact hS) dX6_session_69 rfl
  · rcases x_dom_succ hko h with h | rfl | rfl | rfl | rfl | rfl | rfl | rfl | rfl | rfl | ⟨j, hj, rfl⟩ | ⟨j, hj, rfl⟩
    · exact hdd x (hdI x h)
    · exact hd_11_ns_0
    · exact hd_12_ns_0
    · exact hd_13_ns_0
    · exact hd_14_ns_0
    · exact hd_15_ns_0
    · exact hd_16_ns_0
    · exact hd_17_ns_0
    · exact hd_20_ns_0
    · exact hd_21_ns_0
    · rw [hkn] at hj
      rcases (show j = 0 ∨ j = 1 ∨ j = 2 ∨ j = 3 ∨ j = 4 by omega) with rfl | rfl | rfl | rfl | rfl
      · exact hd_18_ns_0
      · exact hd_18_ns_1
      · exact hd_18_ns_2
      · exact hd_18_ns_3
      · exact hd_18_ns_4
    · rw [hkn] at hj
      rcases (show j = 0 ∨ j = 1 ∨ j = 2 ∨ j = 3 ∨ j = 4 by omega) with rfl | rfl | rfl | rfl | rfl
      · exact hd_19_ns_0
      · exact hd_19_ns_1
      · exact hd_19_ns_2
      · exact hd_19_ns_3
      · exact hd_19_ns_4
  · rcases x_dom_succ hko h with h | rfl | rfl | rfl | rfl | rfl | rfl | rfl | rfl | rfl | ⟨j, hj, rfl⟩ | ⟨j, hj, rfl⟩
    · by_cases q0 : x = (0, 0, 0)
      · subst q0
        rw [hv_0_0_0]
        exact Or.inl (by simp [x_K, x_sesM, upd, hLx (1, 0, 0) ⟨rfl, rfl⟩, hLx (2, 0, 0) ⟨rfl, rfl⟩, hLx (9, 0, 0) ⟨rfl, rfl⟩])
      · rw [x_sesM_old h q0]
        by_cases q9 : x = (9, 0, 0)
        · subst q9
          rw [hv_9_0_0]
          refine g_same.refs (f := fun k => if k < ns + 1 then some (L3 (11, k, 0)) else none) fun j hj => ?_
          unfold va_up
          by_cases ej : j = ns
          · subst ej; simp [← e_11_ns_0]
          · by_cases lj : j < ns
            · simp [ej, lj, show j < ns + 1 by omega, hLx (11, j, 0) ⟨lj, rfl⟩]
            · simp [ej, lj, show ¬ j < ns + 1 by omega]
        · rw [hVo x ⟨q0, q9, (fun q => by subst q; exact x_notin _ _ (by omega) h), (fun q => by subst q; exact x_notin _ _ (by omega) h), (fun q => by subst q; exact x_notin _ _ (by omega) h), (fun q => by subst q; exact x_notin _ _ (by omega) h), (fun q => by subst q; exact x_notin _ _ (by omega) h), (fun q => by subst q; exact x_notin _ _ (by omega) h), (fun q => by subst q; exact x_notin _ _ (by omega) h), (fun q => by subst q; exact x_notin _ _ (by omega) h), (fun q => by subst q; exact x_notin _ _ (by omega) h), (fun q => by subst q; exact x_notin _ _ (by omega) h), (fun q => by subst q; exact x_notin _ _ (by omega) h), (fun q => by subst q; exact x_notin _ _ (by omega) h), (fun q => by subst q; exact x_notin _ _ (by omega) h), (fun q => by subst q; exact x_notin _ _ (by omega) h), (fun q => by subst q; exact x_notin _ _ (by omega) h), (fun q => by subst q; exact x_notin _ _ (by omega) h), (fun q => by subst q; exact x_notin _ _ (by omega) h), (fun q => by subst q; exact x_notin _ _ (by omega) h), (fun q => by subst q; exact x_notin _ _ (by omega) h)⟩, ← hV0]
          refine x_K_move hLx hko x h ?_ _
          intro q; obtain ⟨a, i, j⟩ := x; subst q; obtain ⟨rfl, rfl⟩ := h; exact q9 rfl
    · rw [hv_11_ns_0]; exact Or.inl (by simp [x_K, x_sesM, x_new]; try rfl)
    · rw [hv_12_ns_0]
      show g_same (.inl (cy 3, x_kk kk ns p ns, _)) (.inl (cy 3, 5, _))
      rw [hkn]
      refine g_same.refs fun j hj => ?_
      rcases (show j = 0 ∨ j = 1 ∨ j = 2 ∨ j = 3 ∨ j = 4 by omega) with rfl | rfl | rfl | rfl | rfl <;> rfl
    · rw [hv_13_ns_0]; exact Or.inl (by simp [x_K, x_sesM, x_new]; try rfl)
    · rw [hv_14_ns_0]; exact Or.inl (by simp [x_K, x_sesM, x_new]; try rfl)
    · rw [hv_15_ns_0]; exact Or.inl (by simp [x_K, x_sesM, x_new]; try rfl)
    · rw [hv_16_ns_0]; exact Or.inl (by simp [x_K, x_sesM, x_new]; try rfl)
    · rw [hv_17_ns_0]; exact Or.inl (by simp [x_K, x_sesM, x_new]; try rfl)
    · rw [hv_20_ns_0]; exact Or.inl (by simp [x_K, x_sesM, x_new]; try rfl)
    · rw [hv_21_ns_0]; exact Or.inl (by simp [x_K, x_sesM, x_new]; try rfl)
    · rw [hkn] at hj
      rcases (show j = 0 ∨ j = 1 ∨ j = 2 ∨ j = 3 ∨ j = 4 by omega) with rfl | rfl | rfl | rfl | rfl
      · rw [hv_18_ns_0]; exact Or.inl (by simp [x_K, x_sesM, x_new]; try rfl)
      · rw [hv_18_ns_1]; exact Or.inl (by simp [x_K, x_sesM, x_new]; try rfl)
      · rw [hv_18_ns_2]; exact Or.inl (by simp [x_K, x_sesM, x_new]; try rfl)
      · rw [hv_18_ns_3]; exact Or.inl (by simp [x_K, x_sesM, x_new]; try rfl)
      · rw [hv_18_ns_4]; exact Or.inl (by simp [x_K, x_sesM, x_new]; try rfl)
    · rw [hkn] at hj
      rcases (show j = 0 ∨ j = 1 ∨ j = 2 ∨ j = 3 ∨ j = 4 by omega) with rfl | rfl | rfl | rfl | rfl
      · rw [hv_19_ns_0]; exact Or.inl (by simp [x_K, x_sesM, x_new]; try rfl)
      · rw [hv_19_ns_1]; exact Or.inl (by simp [x_K, x_sesM, x_new]; try rfl)
      · rw [hv_19_ns_2]; exact Or.inl (by simp [x_K, x_sesM, x_new]; try rfl)
      · rw [hv_19_ns_3]; exact Or.inl (by simp [x_K, x_sesM, x_new]; try rfl)
      · rw [hv_19_ns_4]; exact Or.inl (by simp [x_K, x_sesM, x_new]; try rfl)
