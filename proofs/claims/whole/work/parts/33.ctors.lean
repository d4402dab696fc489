/-! the constructors that make arrays alone -/
set_option maxHeartbeats 4000000 in
set_option maxRecDepth 100000 in
theorem k_X0_init (l : Launch) (D : va_G) (cy : Nat → ClassId) (dom : g_S → Prop) (L : g_S → Nat) (V : g_S → va_E) (sz : Nat) (i : Nat) (p : Int32) (a0 : Nat) (e_13_i_0 : L (13, i, 0) = a0) (hd_13_i_0 : dom (13, i, 0)) (hv_13_i_0 : V (13, i, 0) = .inr (2, [.int 0, .null, .null, .null, .int 0, .int 0])) (hf_14_i_0 : ¬ dom (14, i, 0)) (hf_15_i_0 : ¬ dom (15, i, 0)) (hf_16_i_0 : ¬ dom (16, i, 0)) : h_Met l yX0_init (.code yX0_init cX0_init 2 none) 1 3 300 D vwCl (x_tys cy) dom L V sz [.ref a0, .int p] (h_A a0 sz) none (fun x => dom x ∨ x = (14, i, 0) ∨ x = (15, i, 0) ∨ x = (16, i, 0)) (fun L' x => if x = (13, i, 0) then .inr (2, [.int p, .ref (L' (14, i, 0)), .ref (L' (15, i, 0)), .ref (L' (16, i, 0)), .int 0, .int 0]) else if x = (14, i, 0) then .inl (cy 0, 100, .inl (fun _ => 0)) else if x = (15, i, 0) then .inl (cy 0, 100, .inl (fun _ => 0)) else if x = (16, i, 0) then .inl (cy 0, 100, .inl (fun _ => 0)) else V x) := by
  refine h_Met.of (by decide) (Nat.le_of_ble_eq_true rfl) ?_
  intro pg e s m below meth c hx hb hr hlk hml hown hin2 hsz hts hK hN hG ls hl
  have hown : s.vm.findClass RX0 = some m.cls := hown
  have hl : lv_has ls 2 [(0, .ref a0), (1, .int p)] := hl
  have hS : va_S (h_A a0 sz) s.heap s.heap [] := va_S.rf
  have hAa : h_A a0 sz a0 := Or.inl rfl
  have hAn : ∀ q, s.heap.size ≤ q → h_A a0 sz q := fun q h => Or.inr (by rw [← hsz]; exact h)
  have hLL := fun y (_ : dom y) => (rfl : L y = L y)
  have hdd := fun y (hy : dom y) => hy
  have hVo : ∀ y, y ≠ (13, i, 0) ∧ y ≠ (14, i, 0) ∧ y ≠ (15, i, 0) ∧ y ≠ (16, i, 0) → V y = V y := fun _ _ => rfl
  refine lv_aload_n hx hb dX0_init_0 rfl (lv_at hl 0 rfl) ?_
  refine W.objInit hx hb hown (hts _ ol_X0) (hts _ oi_ob) (hts _ oc_ob) rfl (by rw [hml]; exact hl.1) rfl dX0_init_1 (Nat.le_of_ble_eq_true rfl) (Nat.le_of_ble_eq_true rfl) ?_
  refine W.eq (g2 := F0 m 4 ls []) rfl ?_
  refine lv_aload_n hx hb dX0_init_4 rfl (lv_at hl 0 rfl) ?_
  refine lv_bipush (v := 100) hx hb dX0_init_5 (by decide) ?_
  refine h_newa (harr := hts _ ac_int) (atype := .int) (ty := .int) (a0 := (100, .inl (fun _ => 0))) hx hb rfl (fun C h => by cases h) hK 0 rfl hG hS (14, i, 0) hf_14_i_0 rfl (by decide) rfl (by decide) (Nat.le_of_ble_eq_true rfl) (Nat.le_of_ble_eq_true rfl) dX0_init_7 (fun L1 b1 H hL9 e_14_i_0 ha1 hG hS hz9 o9 => ?_)
  have hs_14_i_0 : s.heap.size ≤ L1 (14, i, 0) := by rw [e_14_i_0]; exact ha1
  have e_13_i_0 := (hL9 _ hd_13_i_0).trans e_13_i_0
  have hLL := fun y (hy : dom y) => (hL9 y (hdd y hy)).trans (hLL y hy)
  have hdd := fun y (hy : dom y) => hG.inO (hdd y hy)
  have hd_13_i_0 := hG.inO hd_13_i_0
  have hd_14_i_0 := hG.inX
  have hf_15_i_0 := hG.notin hf_15_i_0 (by simp)
  have hf_16_i_0 := hG.notin hf_16_i_0 (by simp)
  generalize hV2 : g_set V (14, i, 0) (.inl (cy 0, 100, .inl (fun _ => 0))) = V2 at hG
  have hv_13_i_0 : V2 (13, i, 0) = .inr (2, [.int 0, .null, .null, .null, .int 0, .int 0]) := by rw [← hV2, g_set_ne (by simp)]; exact hv_13_i_0
  have hv_14_i_0 : V2 (14, i, 0) = .inl (cy 0, 100, .inl (fun _ => 0)) := by rw [← hV2, g_set_self]
  have hVo : ∀ y, y ≠ (13, i, 0) ∧ y ≠ (14, i, 0) ∧ y ≠ (15, i, 0) ∧ y ≠ (16, i, 0) → V2 y = V y := fun y hy => by rw [← hV2, g_set_ne (fun q => hy.2.1 q)]; first | done | exact hVo y hy
  refine h_putF (C := RX0) (T := TX0) (N := 6) (ci := 2) (ty := (tyX0 1)) hx hb hts inX0g tyX0_ok nmX0 hown hK hG hS (13, i, 0) hd_13_i_0 e_13_i_0 hAa hv_13_i_0 rfl 1 (by decide) fl_X0_9 rfl hin2 rfl (by decide +kernel) rfl rfl (Nat.le_of_ble_eq_true rfl) dX0_init_9 (fun H locs hG hS => ?_)
  have hG : g_H D vwCl _ L1 (g_set V2 (13, i, 0) (.inr (2, [.int 0, .ref b1, .null, .null, .int 0, .int 0]))) H := hG
  generalize hV3 : g_set V2 (13, i, 0) (.inr (2, [.int 0, .ref b1, .null, .null, .int 0, .int 0])) = V3 at hG
  have hv_14_i_0 : V3 (14, i, 0) = .inl (cy 0, 100, .inl (fun _ => 0)) := by rw [← hV3, g_set_ne (by simp)]; exact hv_14_i_0
  have hv_13_i_0 : V3 (13, i, 0) = .inr (2, [.int 0, .ref b1, .null, .null, .int 0, .int 0]) := by rw [← hV3, g_set_self]
  have hVo : ∀ y, y ≠ (13, i, 0) ∧ y ≠ (14, i, 0) ∧ y ≠ (15, i, 0) ∧ y ≠ (16, i, 0) → V3 y = V y := fun y hy => by rw [← hV3, g_set_ne (fun q => hy.1 q)]; first | done | exact hVo y hy
  refine lv_aload_n hx hb dX0_init_12 rfl (lv_at hl 0 rfl) ?_
  refine lv_bipush (v := 100) hx hb dX0_init_13 (by decide) ?_
  refine h_newa (harr := hts _ ac_int) (atype := .int) (ty := .int) (a0 := (100, .inl (fun _ => 0))) hx hb rfl (fun C h => by cases h) hK 0 rfl hG hS (15, i, 0) hf_15_i_0 rfl (by decide) rfl (by decide) (Nat.le_of_ble_eq_true rfl) (Nat.le_of_ble_eq_true rfl) dX0_init_15 (fun L4 b4 H hL9 e_15_i_0 ha4 hG hS hz9 o9 => ?_)
  have hs_14_i_0 : s.heap.size ≤ L4 (14, i, 0) := by rw [hL9 _ hd_14_i_0]; exact hs_14_i_0
  have hs_15_i_0 : s.heap.size ≤ L4 (15, i, 0) := by rw [e_15_i_0]; exact ha4
  have e_13_i_0 := (hL9 _ hd_13_i_0).trans e_13_i_0
  have e_14_i_0 := (hL9 _ hd_14_i_0).trans e_14_i_0
  have hLL := fun y (hy : dom y) => (hL9 y (hdd y hy)).trans (hLL y hy)
  have hdd := fun y (hy : dom y) => hG.inO (hdd y hy)
  have hd_13_i_0 := hG.inO hd_13_i_0
  have hd_14_i_0 := hG.inO hd_14_i_0
  have hd_15_i_0 := hG.inX
  have hf_16_i_0 := hG.notin hf_16_i_0 (by simp)
  generalize hV5 : g_set V3 (15, i, 0) (.inl (cy 0, 100, .inl (fun _ => 0))) = V5 at hG
  have hv_13_i_0 : V5 (13, i, 0) = .inr (2, [.int 0, .ref b1, .null, .null, .int 0, .int 0]) := by rw [← hV5, g_set_ne (by simp)]; exact hv_13_i_0
  have hv_14_i_0 : V5 (14, i, 0) = .inl (cy 0, 100, .inl (fun _ => 0)) := by rw [← hV5, g_set_ne (by simp)]; exact hv_14_i_0
  have hv_15_i_0 : V5 (15, i, 0) = .inl (cy 0, 100, .inl (fun _ => 0)) := by rw [← hV5, g_set_self]
  have hVo : ∀ y, y ≠ (13, i, 0) ∧ y ≠ (14, i, 0) ∧ y ≠ (15, i, 0) ∧ y ≠ (16, i, 0) → V5 y = V y := fun y hy => by rw [← hV5, g_set_ne (fun q => hy.2.2.1 q)]; first | done | exact hVo y hy
  refine h_putF (C := RX0) (T := TX0) (N := 6) (ci := 2) (ty := (tyX0 2)) hx hb hts inX0g tyX0_ok nmX0 hown hK hG hS (13, i, 0) hd_13_i_0 e_13_i_0 hAa hv_13_i_0 rfl 2 (by decide) fl_X0_15 rfl hin2 rfl (by decide +kernel) rfl rfl (Nat.le_of_ble_eq_true rfl) dX0_init_17 (fun H locs hG hS => ?_)
  have hG : g_H D vwCl _ L4 (g_set V5 (13, i, 0) (.inr (2, [.int 0, .ref b1, .ref b4, .null, .int 0, .int 0]))) H := hG
  generalize hV6 : g_set V5 (13, i, 0) (.inr (2, [.int 0, .ref b1, .ref b4, .null, .int 0, .int 0])) = V6 at hG
  have hv_14_i_0 : V6 (14, i, 0) = .inl (cy 0, 100, .inl (fun _ => 0)) := by rw [← hV6, g_set_ne (by simp)]; exact hv_14_i_0
  have hv_15_i_0 : V6 (15, i, 0) = .inl (cy 0, 100, .inl (fun _ => 0)) := by rw [← hV6, g_set_ne (by simp)]; exact hv_15_i_0
  have hv_13_i_0 : V6 (13, i, 0) = .inr (2, [.int 0, .ref b1, .ref b4, .null, .int 0, .int 0]) := by rw [← hV6, g_set_self]
  have hVo : ∀ y, y ≠ (13, i, 0) ∧ y ≠ (14, i, 0) ∧ y ≠ (15, i, 0) ∧ y ≠ (16, i, 0) → V6 y = V y := fun y hy => by rw [← hV6, g_set_ne (fun q => hy.1 q)]; first | done | exact hVo y hy
  refine lv_aload_n hx hb dX0_init_20 rfl (lv_at hl 0 rfl) ?_
  refine lv_bipush (v := 100) hx hb dX0_init_21 (by decide) ?_
  refine h_newa (harr := hts _ ac_int) (atype := .int) (ty := .int) (a0 := (100, .inl (fun _ => 0))) hx hb rfl (fun C h => by cases h) hK 0 rfl hG hS (16, i, 0) hf_16_i_0 rfl (by decide) rfl (by decide) (Nat.le_of_ble_eq_true rfl) (Nat.le_of_ble_eq_true rfl) dX0_init_23 (fun L7 b7 H hL9 e_16_i_0 ha7 hG hS hz9 o9 => ?_)
  have hs_14_i_0 : s.heap.size ≤ L7 (14, i, 0) := by rw [hL9 _ hd_14_i_0]; exact hs_14_i_0
  have hs_15_i_0 : s.heap.size ≤ L7 (15, i, 0) := by rw [hL9 _ hd_15_i_0]; exact hs_15_i_0
  have hs_16_i_0 : s.heap.size ≤ L7 (16, i, 0) := by rw [e_16_i_0]; exact ha7
  have e_13_i_0 := (hL9 _ hd_13_i_0).trans e_13_i_0
  have e_14_i_0 := (hL9 _ hd_14_i_0).trans e_14_i_0
  have e_15_i_0 := (hL9 _ hd_15_i_0).trans e_15_i_0
  have hLL := fun y (hy : dom y) => (hL9 y (hdd y hy)).trans (hLL y hy)
  have hdd := fun y (hy : dom y) => hG.inO (hdd y hy)
  have hd_13_i_0 := hG.inO hd_13_i_0
  have hd_14_i_0 := hG.inO hd_14_i_0
  have hd_15_i_0 := hG.inO hd_15_i_0
  have hd_16_i_0 := hG.inX
  generalize hV8 : g_set V6 (16, i, 0) (.inl (cy 0, 100, .inl (fun _ => 0))) = V8 at hG
  have hv_13_i_0 : V8 (13, i, 0) = .inr (2, [.int 0, .ref b1, .ref b4, .null, .int 0, .int 0]) := by rw [← hV8, g_set_ne (by simp)]; exact hv_13_i_0
  have hv_14_i_0 : V8 (14, i, 0) = .inl (cy 0, 100, .inl (fun _ => 0)) := by rw [← hV8, g_set_ne (by simp)]; exact hv_14_i_0
  have hv_15_i_0 : V8 (15, i, 0) = .inl (cy 0, 100, .inl (fun _ => 0)) := by rw [← hV8, g_set_ne (by simp)]; exact hv_15_i_0
  have hv_16_i_0 : V8 (16, i, 0) = .inl (cy 0, 100, .inl (fun _ => 0)) := by rw [← hV8, g_set_self]
  have hVo : ∀ y, y ≠ (13, i, 0) ∧ y ≠ (14, i, 0) ∧ y ≠ (15, i, 0) ∧ y ≠ (16, i, 0) → V8 y = V y := fun y hy => by rw [← hV8, g_set_ne (fun q => hy.2.2.2 q)]; first | done | exact hVo y hy
  refine h_putF (C := RX0) (T := TX0) (N := 6) (ci := 2) (ty := (tyX0 3)) hx hb hts inX0g tyX0_ok nmX0 hown hK hG hS (13, i, 0) hd_13_i_0 e_13_i_0 hAa hv_13_i_0 rfl 3 (by decide) fl_X0_18 rfl hin2 rfl (by decide +kernel) rfl rfl (Nat.le_of_ble_eq_true rfl) dX0_init_25 (fun H locs hG hS => ?_)
  have hG : g_H D vwCl _ L7 (g_set V8 (13, i, 0) (.inr (2, [.int 0, .ref b1, .ref b4, .ref b7, .int 0, .int 0]))) H := hG
  generalize hV9 : g_set V8 (13, i, 0) (.inr (2, [.int 0, .ref b1, .ref b4, .ref b7, .int 0, .int 0])) = V9 at hG
  have hv_14_i_0 : V9 (14, i, 0) = .inl (cy 0, 100, .inl (fun _ => 0)) := by rw [← hV9, g_set_ne (by simp)]; exact hv_14_i_0
  have hv_15_i_0 : V9 (15, i, 0) = .inl (cy 0, 100, .inl (fun _ => 0)) := by rw [← hV9, g_set_ne (by simp)]; exact hv_15_i_0
  have hv_16_i_0 : V9 (16, i, 0) = .inl (cy 0, 100, .inl (fun _ => 0)) := by rw [← hV9, g_set_ne (by simp)]; exact hv_16_i_0
  have hv_13_i_0 : V9 (13, i, 0) = .inr (2, [.int 0, .ref b1, .ref b4, .ref b7, .int 0, .int 0]) := by rw [← hV9, g_set_self]
  have hVo : ∀ y, y ≠ (13, i, 0) ∧ y ≠ (14, i, 0) ∧ y ≠ (15, i, 0) ∧ y ≠ (16, i, 0) → V9 y = V y := fun y hy => by rw [← hV9, g_set_ne (fun q => hy.1 q)]; first | done | exact hVo y hy
  refine lv_aload_n hx hb dX0_init_28 rfl (lv_at hl 0 rfl) ?_
  refine lv_iconst (v := 0) hx hb dX0_init_29 (by decide) ?_
  refine h_put (C := RX0) (T := TX0) (N := 6) (ci := 2) (ty := .int) hx hb hts inX0g tyX0_ok nmX0 hown hK hG hS (13, i, 0) hd_13_i_0 e_13_i_0 hAa hv_13_i_0 rfl 4 (by decide) fl_X0_21 rfl (by decide +kernel) rfl rfl (Nat.le_of_ble_eq_true rfl) dX0_init_30 (fun H locs hG hS => ?_)
  have hG : g_H D vwCl _ L7 (g_set V9 (13, i, 0) (.inr (2, [.int 0, .ref b1, .ref b4, .ref b7, .int 0, .int 0]))) H := hG
  generalize hV10 : g_set V9 (13, i, 0) (.inr (2, [.int 0, .ref b1, .ref b4, .ref b7, .int 0, .int 0])) = V10 at hG
  have hv_14_i_0 : V10 (14, i, 0) = .inl (cy 0, 100, .inl (fun _ => 0)) := by rw [← hV10, g_set_ne (by simp)]; exact hv_14_i_0
  have hv_15_i_0 : V10 (15, i, 0) = .inl (cy 0, 100, .inl (fun _ => 0)) := by rw [← hV10, g_set_ne (by simp)]; exact hv_15_i_0
  have hv_16_i_0 : V10 (16, i, 0) = .inl (cy 0, 100, .inl (fun _ => 0)) := by rw [← hV10, g_set_ne (by simp)]; exact hv_16_i_0
  have hv_13_i_0 : V10 (13, i, 0) = .inr (2, [.int 0, .ref b1, .ref b4, .ref b7, .int 0, .int 0]) := by rw [← hV10, g_set_self]
  have hVo : ∀ y, y ≠ (13, i, 0) ∧ y ≠ (14, i, 0) ∧ y ≠ (15, i, 0) ∧ y ≠ (16, i, 0) → V10 y = V y := fun y hy => by rw [← hV10, g_set_ne (fun q => hy.1 q)]; first | done | exact hVo y hy
  refine lv_aload_n hx hb dX0_init_33 rfl (lv_at hl 0 rfl) ?_
  refine lv_iconst (v := 0) hx hb dX0_init_34 (by decide) ?_
  refine h_put (C := RX0) (T := TX0) (N := 6) (ci := 2) (ty := .int) hx hb hts inX0g tyX0_ok nmX0 hown hK hG hS (13, i, 0) hd_13_i_0 e_13_i_0 hAa hv_13_i_0 rfl 5 (by decide) fl_X0_25 rfl (by decide +kernel) rfl rfl (Nat.le_of_ble_eq_true rfl) dX0_init_35 (fun H locs hG hS => ?_)
  have hG : g_H D vwCl _ L7 (g_set V10 (13, i, 0) (.inr (2, [.int 0, .ref b1, .ref b4, .ref b7, .int 0, .int 0]))) H := hG
  generalize hV11 : g_set V10 (13, i, 0) (.inr (2, [.int 0, .ref b1, .ref b4, .ref b7, .int 0, .int 0])) = V11 at hG
  have hv_14_i_0 : V11 (14, i, 0) = .inl (cy 0, 100, .inl (fun _ => 0)) := by rw [← hV11, g_set_ne (by simp)]; exact hv_14_i_0
  have hv_15_i_0 : V11 (15, i, 0) = .inl (cy 0, 100, .inl (fun _ => 0)) := by rw [← hV11, g_set_ne (by simp)]; exact hv_15_i_0
  have hv_16_i_0 : V11 (16, i, 0) = .inl (cy 0, 100, .inl (fun _ => 0)) := by rw [← hV11, g_set_ne (by simp)]; exact hv_16_i_0
  have hv_13_i_0 : V11 (13, i, 0) = .inr (2, [.int 0, .ref b1, .ref b4, .ref b7, .int 0, .int 0]) := by rw [← hV11, g_set_self]
  have hVo : ∀ y, y ≠ (13, i, 0) ∧ y ≠ (14, i, 0) ∧ y ≠ (15, i, 0) ∧ y ≠ (16, i, 0) → V11 y = V y := fun y hy => by rw [← hV11, g_set_ne (fun q => hy.1 q)]; first | done | exact hVo y hy
  refine lv_aload_n hx hb dX0_init_38 rfl (lv_at hl 0 rfl) ?_
  refine lv_iload_n hx hb dX0_init_39 rfl (lv_at hl 1 rfl) ?_
  refine h_putF (C := RX0) (T := TX0) (N := 6) (ci := 2) (ty := .int) hx hb hts inX0g tyX0_ok nmX0 hown hK hG hS (13, i, 0) hd_13_i_0 e_13_i_0 hAa hv_13_i_0 rfl 0 (by decide) fl_X0_28 rfl hin2 rfl (by decide +kernel) rfl rfl (Nat.le_of_ble_eq_true rfl) dX0_init_40 (fun H locs hG hS => ?_)
  have hG : g_H D vwCl _ L7 (g_set V11 (13, i, 0) (.inr (2, [.int p, .ref b1, .ref b4, .ref b7, .int 0, .int 0]))) H := hG
  generalize hV12 : g_set V11 (13, i, 0) (.inr (2, [.int p, .ref b1, .ref b4, .ref b7, .int 0, .int 0])) = V12 at hG
  have hv_14_i_0 : V12 (14, i, 0) = .inl (cy 0, 100, .inl (fun _ => 0)) := by rw [← hV12, g_set_ne (by simp)]; exact hv_14_i_0
  have hv_15_i_0 : V12 (15, i, 0) = .inl (cy 0, 100, .inl (fun _ => 0)) := by rw [← hV12, g_set_ne (by simp)]; exact hv_15_i_0
  have hv_16_i_0 : V12 (16, i, 0) = .inl (cy 0, 100, .inl (fun _ => 0)) := by rw [← hV12, g_set_ne (by simp)]; exact hv_16_i_0
  have hv_13_i_0 : V12 (13, i, 0) = .inr (2, [.int p, .ref b1, .ref b4, .ref b7, .int 0, .int 0]) := by rw [← hV12, g_set_self]
  have hVo : ∀ y, y ≠ (13, i, 0) ∧ y ≠ (14, i, 0) ∧ y ≠ (15, i, 0) ∧ y ≠ (16, i, 0) → V12 y = V y := fun y hy => by rw [← hV12, g_set_ne (fun q => hy.1 q)]; first | done | exact hVo y hy
  have hnw : ∀ y, (dom y ∨ y = (14, i, 0) ∨ y = (15, i, 0) ∨ y = (16, i, 0)) → dom y ∨ s.heap.size ≤ L7 y := by
    intro y h
    rcases h with h | rfl | rfl | rfl
    · exact Or.inl h
    · exact Or.inr hs_14_i_0
    · exact Or.inr hs_15_i_0
    · exact Or.inr hs_16_i_0
  refine h_vret hx hb hr hlk hLL hnw (hG.congr (fun x h => ?_) (fun x h => ?_)) hS dX0_init_43
  · rcases h with h | rfl | rfl | rfl
    · exact hdd x h
    · exact hd_14_i_0
    · exact hd_15_i_0
    · exact hd_16_i_0
  · by_cases q_13_i_0 : x = (13, i, 0)
    · rw [if_pos q_13_i_0, q_13_i_0, hv_13_i_0, e_14_i_0, e_15_i_0, e_16_i_0]
    · rw [if_neg q_13_i_0]
      by_cases q_14_i_0 : x = (14, i, 0)
      · rw [if_pos q_14_i_0, q_14_i_0, hv_14_i_0]
      · rw [if_neg q_14_i_0]
        by_cases q_15_i_0 : x = (15, i, 0)
        · rw [if_pos q_15_i_0, q_15_i_0, hv_15_i_0]
        · rw [if_neg q_15_i_0]
          by_cases q_16_i_0 : x = (16, i, 0)
          · rw [if_pos q_16_i_0, q_16_i_0, hv_16_i_0]
          · rw [if_neg q_16_i_0]
            exact (hVo x ⟨q_13_i_0, q_14_i_0, q_15_i_0, q_16_i_0⟩).symm
set_option maxHeartbeats 4000000 in
set_option maxRecDepth 100000 in
theorem k_X4_init (l : Launch) (D : va_G) (cy : Nat → ClassId) (dom : g_S → Prop) (L : g_S → Nat) (V : g_S → va_E) (sz : Nat) (i : Nat) (a0 : Nat) (e_17_i_0 : L (17, i, 0) = a0) (hd_17_i_0 : dom (17, i, 0)) (hv_17_i_0 : V (17, i, 0) = .inr (6, [.null, .null, .int 0])) (hf_20_i_0 : ¬ dom (20, i, 0)) (hf_21_i_0 : ¬ dom (21, i, 0)) : h_Met l yX4_init (.code yX4_init cX4_init 1 none) 1 2 40 D vwCl (x_tys cy) dom L V sz [.ref a0] (h_A a0 sz) none (fun x => dom x ∨ x = (20, i, 0) ∨ x = (21, i, 0)) (fun L' x => if x = (17, i, 0) then .inr (6, [.ref (L' (20, i, 0)), .ref (L' (21, i, 0)), .int 0]) else if x = (20, i, 0) then .inl (cy 0, 20, .inl (fun _ => 0)) else if x = (21, i, 0) then .inl (cy 0, 20, .inl (fun _ => 0)) else V x) := by
  refine h_Met.of (by decide) (Nat.le_of_ble_eq_true rfl) ?_
  intro pg e s m below meth c hx hb hr hlk hml hown hin2 hsz hts hK hN hG ls hl
  have hown : s.vm.findClass RX4 = some m.cls := hown
  have hl : lv_has ls 1 [(0, .ref a0)] := hl
  have hS : va_S (h_A a0 sz) s.heap s.heap [] := va_S.rf
  have hAa : h_A a0 sz a0 := Or.inl rfl
  have hAn : ∀ q, s.heap.size ≤ q → h_A a0 sz q := fun q h => Or.inr (by rw [← hsz]; exact h)
  have hLL := fun y (_ : dom y) => (rfl : L y = L y)
  have hdd := fun y (hy : dom y) => hy
  have hVo : ∀ y, y ≠ (17, i, 0) ∧ y ≠ (20, i, 0) ∧ y ≠ (21, i, 0) → V y = V y := fun _ _ => rfl
  refine lv_aload_n hx hb dX4_init_0 rfl (lv_at hl 0 rfl) ?_
  refine W.objInit hx hb hown (hts _ ol_X4) (hts _ oi_ob) (hts _ oc_ob) rfl (by rw [hml]; exact hl.1) rfl dX4_init_1 (Nat.le_of_ble_eq_true rfl) (Nat.le_of_ble_eq_true rfl) ?_
  refine W.eq (g2 := F0 m 4 ls []) rfl ?_
  refine lv_aload_n hx hb dX4_init_4 rfl (lv_at hl 0 rfl) ?_
  refine lv_bipush (v := 20) hx hb dX4_init_5 (by decide) ?_
  refine h_newa (harr := hts _ ac_int) (atype := .int) (ty := .int) (a0 := (20, .inl (fun _ => 0))) hx hb rfl (fun C h => by cases h) hK 0 rfl hG hS (20, i, 0) hf_20_i_0 rfl (by decide) rfl (by decide) (Nat.le_of_ble_eq_true rfl) (Nat.le_of_ble_eq_true rfl) dX4_init_7 (fun L1 b1 H hL9 e_20_i_0 ha1 hG hS hz9 o9 => ?_)
  have hs_20_i_0 : s.heap.size ≤ L1 (20, i, 0) := by rw [e_20_i_0]; exact ha1
  have e_17_i_0 := (hL9 _ hd_17_i_0).trans e_17_i_0
  have hLL := fun y (hy : dom y) => (hL9 y (hdd y hy)).trans (hLL y hy)
  have hdd := fun y (hy : dom y) => hG.inO (hdd y hy)
  have hd_17_i_0 := hG.inO hd_17_i_0
  have hd_20_i_0 := hG.inX
  have hf_21_i_0 := hG.notin hf_21_i_0 (by simp)
  generalize hV2 : g_set V (20, i, 0) (.inl (cy 0, 20, .inl (fun _ => 0))) = V2 at hG
  have hv_17_i_0 : V2 (17, i, 0) = .inr (6, [.null, .null, .int 0]) := by rw [← hV2, g_set_ne (by simp)]; exact hv_17_i_0
  have hv_20_i_0 : V2 (20, i, 0) = .inl (cy 0, 20, .inl (fun _ => 0)) := by rw [← hV2, g_set_self]
  have hVo : ∀ y, y ≠ (17, i, 0) ∧ y ≠ (20, i, 0) ∧ y ≠ (21, i, 0) → V2 y = V y := fun y hy => by rw [← hV2, g_set_ne (fun q => hy.2.1 q)]; first | done | exact hVo y hy
  refine h_putF (C := RX4) (T := TX4) (N := 3) (ci := 6) (ty := (tyX4 0)) hx hb hts inX4g tyX4_ok nmX4 hown hK hG hS (17, i, 0) hd_17_i_0 e_17_i_0 hAa hv_17_i_0 rfl 0 (by decide) fl_X4_9 rfl hin2 rfl (by decide +kernel) rfl rfl (Nat.le_of_ble_eq_true rfl) dX4_init_9 (fun H locs hG hS => ?_)
  have hG : g_H D vwCl _ L1 (g_set V2 (17, i, 0) (.inr (6, [.ref b1, .null, .int 0]))) H := hG
  generalize hV3 : g_set V2 (17, i, 0) (.inr (6, [.ref b1, .null, .int 0])) = V3 at hG
  have hv_20_i_0 : V3 (20, i, 0) = .inl (cy 0, 20, .inl (fun _ => 0)) := by rw [← hV3, g_set_ne (by simp)]; exact hv_20_i_0
  have hv_17_i_0 : V3 (17, i, 0) = .inr (6, [.ref b1, .null, .int 0]) := by rw [← hV3, g_set_self]
  have hVo : ∀ y, y ≠ (17, i, 0) ∧ y ≠ (20, i, 0) ∧ y ≠ (21, i, 0) → V3 y = V y := fun y hy => by rw [← hV3, g_set_ne (fun q => hy.1 q)]; first | done | exact hVo y hy
  refine lv_aload_n hx hb dX4_init_12 rfl (lv_at hl 0 rfl) ?_
  refine lv_bipush (v := 20) hx hb dX4_init_13 (by decide) ?_
  refine h_newa (harr := hts _ ac_int) (atype := .int) (ty := .int) (a0 := (20, .inl (fun _ => 0))) hx hb rfl (fun C h => by cases h) hK 0 rfl hG hS (21, i, 0) hf_21_i_0 rfl (by decide) rfl (by decide) (Nat.le_of_ble_eq_true rfl) (Nat.le_of_ble_eq_true rfl) dX4_init_15 (fun L4 b4 H hL9 e_21_i_0 ha4 hG hS hz9 o9 => ?_)
  have hs_20_i_0 : s.heap.size ≤ L4 (20, i, 0) := by rw [hL9 _ hd_20_i_0]; exact hs_20_i_0
  have hs_21_i_0 : s.heap.size ≤ L4 (21, i, 0) := by rw [e_21_i_0]; exact ha4
  have e_17_i_0 := (hL9 _ hd_17_i_0).trans e_17_i_0
  have e_20_i_0 := (hL9 _ hd_20_i_0).trans e_20_i_0
  have hLL := fun y (hy : dom y) => (hL9 y (hdd y hy)).trans (hLL y hy)
  have hdd := fun y (hy : dom y) => hG.inO (hdd y hy)
  have hd_17_i_0 := hG.inO hd_17_i_0
  have hd_20_i_0 := hG.inO hd_20_i_0
  have hd_21_i_0 := hG.inX
  generalize hV5 : g_set V3 (21, i, 0) (.inl (cy 0, 20, .inl (fun _ => 0))) = V5 at hG
  have hv_17_i_0 : V5 (17, i, 0) = .inr (6, [.ref b1, .null, .int 0]) := by rw [← hV5, g_set_ne (by simp)]; exact hv_17_i_0
  have hv_20_i_0 : V5 (20, i, 0) = .inl (cy 0, 20, .inl (fun _ => 0)) := by rw [← hV5, g_set_ne (by simp)]; exact hv_20_i_0
  have hv_21_i_0 : V5 (21, i, 0) = .inl (cy 0, 20, .inl (fun _ => 0)) := by rw [← hV5, g_set_self]
  have hVo : ∀ y, y ≠ (17, i, 0) ∧ y ≠ (20, i, 0) ∧ y ≠ (21, i, 0) → V5 y = V y := fun y hy => by rw [← hV5, g_set_ne (fun q => hy.2.2 q)]; first | done | exact hVo y hy
  refine h_putF (C := RX4) (T := TX4) (N := 3) (ci := 6) (ty := (tyX4 1)) hx hb hts inX4g tyX4_ok nmX4 hown hK hG hS (17, i, 0) hd_17_i_0 e_17_i_0 hAa hv_17_i_0 rfl 1 (by decide) fl_X4_15 rfl hin2 rfl (by decide +kernel) rfl rfl (Nat.le_of_ble_eq_true rfl) dX4_init_17 (fun H locs hG hS => ?_)
  have hG : g_H D vwCl _ L4 (g_set V5 (17, i, 0) (.inr (6, [.ref b1, .ref b4, .int 0]))) H := hG
  generalize hV6 : g_set V5 (17, i, 0) (.inr (6, [.ref b1, .ref b4, .int 0])) = V6 at hG
  have hv_20_i_0 : V6 (20, i, 0) = .inl (cy 0, 20, .inl (fun _ => 0)) := by rw [← hV6, g_set_ne (by simp)]; exact hv_20_i_0
  have hv_21_i_0 : V6 (21, i, 0) = .inl (cy 0, 20, .inl (fun _ => 0)) := by rw [← hV6, g_set_ne (by simp)]; exact hv_21_i_0
  have hv_17_i_0 : V6 (17, i, 0) = .inr (6, [.ref b1, .ref b4, .int 0]) := by rw [← hV6, g_set_self]
  have hVo : ∀ y, y ≠ (17, i, 0) ∧ y ≠ (20, i, 0) ∧ y ≠ (21, i, 0) → V6 y = V y := fun y hy => by rw [← hV6, g_set_ne (fun q => hy.1 q)]; first | done | exact hVo y hy
  refine lv_aload_n hx hb dX4_init_20 rfl (lv_at hl 0 rfl) ?_
  refine lv_iconst (v := 0) hx hb dX4_init_21 (by decide) ?_
  refine h_put (C := RX4) (T := TX4) (N := 3) (ci := 6) (ty := .int) hx hb hts inX4g tyX4_ok nmX4 hown hK hG hS (17, i, 0) hd_17_i_0 e_17_i_0 hAa hv_17_i_0 rfl 2 (by decide) fl_X4_18 rfl (by decide +kernel) rfl rfl (Nat.le_of_ble_eq_true rfl) dX4_init_22 (fun H locs hG hS => ?_)
  have hG : g_H D vwCl _ L4 (g_set V6 (17, i, 0) (.inr (6, [.ref b1, .ref b4, .int 0]))) H := hG
  generalize hV7 : g_set V6 (17, i, 0) (.inr (6, [.ref b1, .ref b4, .int 0])) = V7 at hG
  have hv_20_i_0 : V7 (20, i, 0) = .inl (cy 0, 20, .inl (fun _ => 0)) := by rw [← hV7, g_set_ne (by simp)]; exact hv_20_i_0
  have hv_21_i_0 : V7 (21, i, 0) = .inl (cy 0, 20, .inl (fun _ => 0)) := by rw [← hV7, g_set_ne (by simp)]; exact hv_21_i_0
  have hv_17_i_0 : V7 (17, i, 0) = .inr (6, [.ref b1, .ref b4, .int 0]) := by rw [← hV7, g_set_self]
  have hVo : ∀ y, y ≠ (17, i, 0) ∧ y ≠ (20, i, 0) ∧ y ≠ (21, i, 0) → V7 y = V y := fun y hy => by rw [← hV7, g_set_ne (fun q => hy.1 q)]; first | done | exact hVo y hy
  have hnw : ∀ y, (dom y ∨ y = (20, i, 0) ∨ y = (21, i, 0)) → dom y ∨ s.heap.size ≤ L4 y := by
    intro y h
    rcases h with h | rfl | rfl
    · exact Or.inl h
    · exact Or.inr hs_20_i_0
    · exact Or.inr hs_21_i_0
  refine h_vret hx hb hr hlk hLL hnw (hG.congr (fun x h => ?_) (fun x h => ?_)) hS dX4_init_25
  · rcases h with h | rfl | rfl
    · exact hdd x h
    · exact hd_20_i_0
    · exact hd_21_i_0
  · by_cases q_17_i_0 : x = (17, i, 0)
    · rw [if_pos q_17_i_0, q_17_i_0, hv_17_i_0, e_20_i_0, e_21_i_0]
    · rw [if_neg q_17_i_0]
      by_cases q_20_i_0 : x = (20, i, 0)
      · rw [if_pos q_20_i_0, q_20_i_0, hv_20_i_0]
      · rw [if_neg q_20_i_0]
        by_cases q_21_i_0 : x = (21, i, 0)
        · rw [if_pos q_21_i_0, q_21_i_0, hv_21_i_0]
        · rw [if_neg q_21_i_0]
          exact (hVo x ⟨q_17_i_0, q_20_i_0, q_21_i_0⟩).symm
set_option maxHeartbeats 4000000 in
set_option maxRecDepth 100000 in
theorem k_X3_init (l : Launch) (D : va_G) (cy : Nat → ClassId) (dom : g_S → Prop) (L : g_S → Nat) (V : g_S → va_E) (sz : Nat) (i j : Nat) (a0 : Nat) (e_18_i_j : L (18, i, j) = a0) (hd_18_i_j : dom (18, i, j)) (hv_18_i_j : V (18, i, j) = .inr (5, [.null, .int 0, .int 0])) (hf_19_i_j : ¬ dom (19, i, j)) : h_Met l yX3_init (.code yX3_init cX3_init 1 none) 1 1 100 D vwCl (x_tys cy) dom L V sz [.ref a0] (h_A a0 sz) none (fun x => dom x ∨ x = (19, i, j)) (fun L' x => if x = (18, i, j) then .inr (5, [.ref (L' (19, i, j)), .int 0, .int 0]) else if x = (19, i, j) then .inl (cy 0, 100, .inl (fun _ => 0)) else V x) := by
  refine h_Met.of (by decide) (Nat.le_of_ble_eq_true rfl) ?_
  intro pg e s m below meth c hx hb hr hlk hml hown hin2 hsz hts hK hN hG ls hl
  have hown : s.vm.findClass RX3 = some m.cls := hown
  have hl : lv_has ls 1 [(0, .ref a0)] := hl
  have hS : va_S (h_A a0 sz) s.heap s.heap [] := va_S.rf
  have hAa : h_A a0 sz a0 := Or.inl rfl
  have hAn : ∀ q, s.heap.size ≤ q → h_A a0 sz q := fun q h => Or.inr (by rw [← hsz]; exact h)
  have hLL := fun y (_ : dom y) => (rfl : L y = L y)
  have hdd := fun y (hy : dom y) => hy
  have hVo : ∀ y, y ≠ (18, i, j) ∧ y ≠ (19, i, j) → V y = V y := fun _ _ => rfl
  refine lv_aload_n hx hb dX3_init_0 rfl (lv_at hl 0 rfl) ?_
  refine W.objInit hx hb hown (hts _ ol_X3) (hts _ oi_ob) (hts _ oc_ob) rfl (by rw [hml]; exact hl.1) rfl dX3_init_1 (Nat.le_of_ble_eq_true rfl) (Nat.le_of_ble_eq_true rfl) ?_
  refine W.eq (g2 := F0 m 4 ls []) rfl ?_
  refine lv_aload_n hx hb dX3_init_4 rfl (lv_at hl 0 rfl) ?_
  refine lv_bipush (v := 100) hx hb dX3_init_5 (by decide) ?_
  refine h_newa (harr := hts _ ac_int) (atype := .int) (ty := .int) (a0 := (100, .inl (fun _ => 0))) hx hb rfl (fun C h => by cases h) hK 0 rfl hG hS (19, i, j) hf_19_i_j rfl (by decide) rfl (by decide) (Nat.le_of_ble_eq_true rfl) (Nat.le_of_ble_eq_true rfl) dX3_init_7 (fun L1 b1 H hL9 e_19_i_j ha1 hG hS hz9 o9 => ?_)
  have hs_19_i_j : s.heap.size ≤ L1 (19, i, j) := by rw [e_19_i_j]; exact ha1
  have e_18_i_j := (hL9 _ hd_18_i_j).trans e_18_i_j
  have hLL := fun y (hy : dom y) => (hL9 y (hdd y hy)).trans (hLL y hy)
  have hdd := fun y (hy : dom y) => hG.inO (hdd y hy)
  have hd_18_i_j := hG.inO hd_18_i_j
  have hd_19_i_j := hG.inX
  generalize hV2 : g_set V (19, i, j) (.inl (cy 0, 100, .inl (fun _ => 0))) = V2 at hG
  have hv_18_i_j : V2 (18, i, j) = .inr (5, [.null, .int 0, .int 0]) := by rw [← hV2, g_set_ne (by simp)]; exact hv_18_i_j
  have hv_19_i_j : V2 (19, i, j) = .inl (cy 0, 100, .inl (fun _ => 0)) := by rw [← hV2, g_set_self]
  have hVo : ∀ y, y ≠ (18, i, j) ∧ y ≠ (19, i, j) → V2 y = V y := fun y hy => by rw [← hV2, g_set_ne (fun q => hy.2 q)]; first | done | exact hVo y hy
  refine h_putF (C := RX3) (T := TX3) (N := 3) (ci := 5) (ty := (tyX3 0)) hx hb hts inX3g tyX3_ok nmX3 hown hK hG hS (18, i, j) hd_18_i_j e_18_i_j hAa hv_18_i_j rfl 0 (by decide) fl_X3_9 rfl hin2 rfl (by decide +kernel) rfl rfl (Nat.le_of_ble_eq_true rfl) dX3_init_9 (fun H locs hG hS => ?_)
  have hG : g_H D vwCl _ L1 (g_set V2 (18, i, j) (.inr (5, [.ref b1, .int 0, .int 0]))) H := hG
  generalize hV3 : g_set V2 (18, i, j) (.inr (5, [.ref b1, .int 0, .int 0])) = V3 at hG
  have hv_19_i_j : V3 (19, i, j) = .inl (cy 0, 100, .inl (fun _ => 0)) := by rw [← hV3, g_set_ne (by simp)]; exact hv_19_i_j
  have hv_18_i_j : V3 (18, i, j) = .inr (5, [.ref b1, .int 0, .int 0]) := by rw [← hV3, g_set_self]
  have hVo : ∀ y, y ≠ (18, i, j) ∧ y ≠ (19, i, j) → V3 y = V y := fun y hy => by rw [← hV3, g_set_ne (fun q => hy.1 q)]; first | done | exact hVo y hy
  refine lv_aload_n hx hb dX3_init_12 rfl (lv_at hl 0 rfl) ?_
  refine lv_iconst (v := 0) hx hb dX3_init_13 (by decide) ?_
  refine h_put (C := RX3) (T := TX3) (N := 3) (ci := 5) (ty := .int) hx hb hts inX3g tyX3_ok nmX3 hown hK hG hS (18, i, j) hd_18_i_j e_18_i_j hAa hv_18_i_j rfl 1 (by decide) fl_X3_15 rfl (by decide +kernel) rfl rfl (Nat.le_of_ble_eq_true rfl) dX3_init_14 (fun H locs hG hS => ?_)
  have hG : g_H D vwCl _ L1 (g_set V3 (18, i, j) (.inr (5, [.ref b1, .int 0, .int 0]))) H := hG
  generalize hV4 : g_set V3 (18, i, j) (.inr (5, [.ref b1, .int 0, .int 0])) = V4 at hG
  have hv_19_i_j : V4 (19, i, j) = .inl (cy 0, 100, .inl (fun _ => 0)) := by rw [← hV4, g_set_ne (by simp)]; exact hv_19_i_j
  have hv_18_i_j : V4 (18, i, j) = .inr (5, [.ref b1, .int 0, .int 0]) := by rw [← hV4, g_set_self]
  have hVo : ∀ y, y ≠ (18, i, j) ∧ y ≠ (19, i, j) → V4 y = V y := fun y hy => by rw [← hV4, g_set_ne (fun q => hy.1 q)]; first | done | exact hVo y hy
  refine lv_aload_n hx hb dX3_init_17 rfl (lv_at hl 0 rfl) ?_
  refine lv_iconst (v := 0) hx hb dX3_init_18 (by decide) ?_
  refine h_put (C := RX3) (T := TX3) (N := 3) (ci := 5) (ty := .boolean) hx hb hts inX3g tyX3_ok nmX3 hown hK hG hS (18, i, j) hd_18_i_j e_18_i_j hAa hv_18_i_j rfl 2 (by decide) fl_X3_19 rfl (by decide +kernel) rfl rfl (Nat.le_of_ble_eq_true rfl) dX3_init_19 (fun H locs hG hS => ?_)
  have hG : g_H D vwCl _ L1 (g_set V4 (18, i, j) (.inr (5, [.ref b1, .int 0, .int 0]))) H := hG
  generalize hV5 : g_set V4 (18, i, j) (.inr (5, [.ref b1, .int 0, .int 0])) = V5 at hG
  have hv_19_i_j : V5 (19, i, j) = .inl (cy 0, 100, .inl (fun _ => 0)) := by rw [← hV5, g_set_ne (by simp)]; exact hv_19_i_j
  have hv_18_i_j : V5 (18, i, j) = .inr (5, [.ref b1, .int 0, .int 0]) := by rw [← hV5, g_set_self]
  have hVo : ∀ y, y ≠ (18, i, j) ∧ y ≠ (19, i, j) → V5 y = V y := fun y hy => by rw [← hV5, g_set_ne (fun q => hy.1 q)]; first | done | exact hVo y hy
  have hnw : ∀ y, (dom y ∨ y = (19, i, j)) → dom y ∨ s.heap.size ≤ L1 y := by
    intro y h
    rcases h with h | rfl
    · exact Or.inl h
    · exact Or.inr hs_19_i_j
  refine h_vret hx hb hr hlk hLL hnw (hG.congr (fun x h => ?_) (fun x h => ?_)) hS dX3_init_22
  · rcases h with h | rfl
    · exact hdd x h
    · exact hd_19_i_j
  · by_cases q_18_i_j : x = (18, i, j)
    · rw [if_pos q_18_i_j, q_18_i_j, hv_18_i_j, e_19_i_j]
    · rw [if_neg q_18_i_j]
      by_cases q_19_i_j : x = (19, i, j)
      · rw [if_pos q_19_i_j, q_19_i_j, hv_19_i_j]
      · rw [if_neg q_19_i_j]
        exact (hVo x ⟨q_18_i_j, q_19_i_j⟩).symm
set_option maxHeartbeats 4000000 in
set_option maxRecDepth 100000 in
theorem k_X1_init (l : Launch) (D : va_G) (cy : Nat → ClassId) (dom : g_S → Prop) (L : g_S → Nat) (V : g_S → va_E) (sz : Nat)  (a0 : Nat) (e_2_0_0 : L (2, 0, 0) = a0) (hd_2_0_0 : dom (2, 0, 0)) (hv_2_0_0 : V (2, 0, 0) = .inr (3, [.null, .null, .null, .null, .int 0])) (hf_5_0_0 : ¬ dom (5, 0, 0)) (hf_6_0_0 : ¬ dom (6, 0, 0)) (hf_7_0_0 : ¬ dom (7, 0, 0)) (hf_8_0_0 : ¬ dom (8, 0, 0)) : h_Met l yX1_init (.code yX1_init cX1_init 1 none) 1 4 160 D vwCl (x_tys cy) dom L V sz [.ref a0] (h_A a0 sz) none (fun x => dom x ∨ x = (5, 0, 0) ∨ x = (6, 0, 0) ∨ x = (7, 0, 0) ∨ x = (8, 0, 0)) (fun L' x => if x = (2, 0, 0) then .inr (3, [.ref (L' (5, 0, 0)), .ref (L' (6, 0, 0)), .ref (L' (7, 0, 0)), .ref (L' (8, 0, 0)), .int 0]) else if x = (5, 0, 0) then .inl (cy 0, 40, .inl (fun _ => 0)) else if x = (6, 0, 0) then .inl (cy 0, 40, .inl (fun _ => 0)) else if x = (7, 0, 0) then .inl (cy 0, 40, .inl (fun _ => 0)) else if x = (8, 0, 0) then .inl (cy 0, 40, .inl (fun _ => 0)) else V x) := by
  refine h_Met.of (by decide) (Nat.le_of_ble_eq_true rfl) ?_
  intro pg e s m below meth c hx hb hr hlk hml hown hin2 hsz hts hK hN hG ls hl
  have hown : s.vm.findClass RX1 = some m.cls := hown
  have hl : lv_has ls 1 [(0, .ref a0)] := hl
  have hS : va_S (h_A a0 sz) s.heap s.heap [] := va_S.rf
  have hAa : h_A a0 sz a0 := Or.inl rfl
  have hAn : ∀ q, s.heap.size ≤ q → h_A a0 sz q := fun q h => Or.inr (by rw [← hsz]; exact h)
  have hLL := fun y (_ : dom y) => (rfl : L y = L y)
  have hdd := fun y (hy : dom y) => hy
  have hVo : ∀ y, y ≠ (2, 0, 0) ∧ y ≠ (5, 0, 0) ∧ y ≠ (6, 0, 0) ∧ y ≠ (7, 0, 0) ∧ y ≠ (8, 0, 0) → V y = V y := fun _ _ => rfl
  refine lv_aload_n hx hb dX1_init_0 rfl (lv_at hl 0 rfl) ?_
  refine W.objInit hx hb hown (hts _ ol_X1) (hts _ oi_ob) (hts _ oc_ob) rfl (by rw [hml]; exact hl.1) rfl dX1_init_1 (Nat.le_of_ble_eq_true rfl) (Nat.le_of_ble_eq_true rfl) ?_
  refine W.eq (g2 := F0 m 4 ls []) rfl ?_
  refine lv_aload_n hx hb dX1_init_4 rfl (lv_at hl 0 rfl) ?_
  refine lv_bipush (v := 40) hx hb dX1_init_5 (by decide) ?_
  refine h_newa (harr := hts _ ac_int) (atype := .int) (ty := .int) (a0 := (40, .inl (fun _ => 0))) hx hb rfl (fun C h => by cases h) hK 0 rfl hG hS (5, 0, 0) hf_5_0_0 rfl (by decide) rfl (by decide) (Nat.le_of_ble_eq_true rfl) (Nat.le_of_ble_eq_true rfl) dX1_init_7 (fun L1 b1 H hL9 e_5_0_0 ha1 hG hS hz9 o9 => ?_)
  have hs_5_0_0 : s.heap.size ≤ L1 (5, 0, 0) := by rw [e_5_0_0]; exact ha1
  have e_2_0_0 := (hL9 _ hd_2_0_0).trans e_2_0_0
  have hLL := fun y (hy : dom y) => (hL9 y (hdd y hy)).trans (hLL y hy)
  have hdd := fun y (hy : dom y) => hG.inO (hdd y hy)
  have hd_2_0_0 := hG.inO hd_2_0_0
  have hd_5_0_0 := hG.inX
  have hf_6_0_0 := hG.notin hf_6_0_0 (by decide)
  have hf_7_0_0 := hG.notin hf_7_0_0 (by decide)
  have hf_8_0_0 := hG.notin hf_8_0_0 (by decide)
  generalize hV2 : g_set V (5, 0, 0) (.inl (cy 0, 40, .inl (fun _ => 0))) = V2 at hG
  have hv_2_0_0 : V2 (2, 0, 0) = .inr (3, [.null, .null, .null, .null, .int 0]) := by rw [← hV2, g_set_ne (by decide)]; exact hv_2_0_0
  have hv_5_0_0 : V2 (5, 0, 0) = .inl (cy 0, 40, .inl (fun _ => 0)) := by rw [← hV2, g_set_self]
  have hVo : ∀ y, y ≠ (2, 0, 0) ∧ y ≠ (5, 0, 0) ∧ y ≠ (6, 0, 0) ∧ y ≠ (7, 0, 0) ∧ y ≠ (8, 0, 0) → V2 y = V y := fun y hy => by rw [← hV2, g_set_ne (fun q => hy.2.1 q)]; first | done | exact hVo y hy
  refine h_putF (C := RX1) (T := TX1) (N := 5) (ci := 3) (ty := (tyX1 0)) hx hb hts inX1g tyX1_ok nmX1 hown hK hG hS (2, 0, 0) hd_2_0_0 e_2_0_0 hAa hv_2_0_0 rfl 0 (by decide) fl_X1_9 rfl hin2 rfl (by decide +kernel) rfl rfl (Nat.le_of_ble_eq_true rfl) dX1_init_9 (fun H locs hG hS => ?_)
  have hG : g_H D vwCl _ L1 (g_set V2 (2, 0, 0) (.inr (3, [.ref b1, .null, .null, .null, .int 0]))) H := hG
  generalize hV3 : g_set V2 (2, 0, 0) (.inr (3, [.ref b1, .null, .null, .null, .int 0])) = V3 at hG
  have hv_5_0_0 : V3 (5, 0, 0) = .inl (cy 0, 40, .inl (fun _ => 0)) := by rw [← hV3, g_set_ne (by decide)]; exact hv_5_0_0
  have hv_2_0_0 : V3 (2, 0, 0) = .inr (3, [.ref b1, .null, .null, .null, .int 0]) := by rw [← hV3, g_set_self]
  have hVo : ∀ y, y ≠ (2, 0, 0) ∧ y ≠ (5, 0, 0) ∧ y ≠ (6, 0, 0) ∧ y ≠ (7, 0, 0) ∧ y ≠ (8, 0, 0) → V3 y = V y := fun y hy => by rw [← hV3, g_set_ne (fun q => hy.1 q)]; first | done | exact hVo y hy
  refine lv_aload_n hx hb dX1_init_12 rfl (lv_at hl 0 rfl) ?_
  refine lv_bipush (v := 40) hx hb dX1_init_13 (by decide) ?_
  refine h_newa (harr := hts _ ac_int) (atype := .int) (ty := .int) (a0 := (40, .inl (fun _ => 0))) hx hb rfl (fun C h => by cases h) hK 0 rfl hG hS (6, 0, 0) hf_6_0_0 rfl (by decide) rfl (by decide) (Nat.le_of_ble_eq_true rfl) (Nat.le_of_ble_eq_true rfl) dX1_init_15 (fun L4 b4 H hL9 e_6_0_0 ha4 hG hS hz9 o9 => ?_)
  have hs_5_0_0 : s.heap.size ≤ L4 (5, 0, 0) := by rw [hL9 _ hd_5_0_0]; exact hs_5_0_0
  have hs_6_0_0 : s.heap.size ≤ L4 (6, 0, 0) := by rw [e_6_0_0]; exact ha4
  have e_2_0_0 := (hL9 _ hd_2_0_0).trans e_2_0_0
  have e_5_0_0 := (hL9 _ hd_5_0_0).trans e_5_0_0
  have hLL := fun y (hy : dom y) => (hL9 y (hdd y hy)).trans (hLL y hy)
  have hdd := fun y (hy : dom y) => hG.inO (hdd y hy)
  have hd_2_0_0 := hG.inO hd_2_0_0
  have hd_5_0_0 := hG.inO hd_5_0_0
  have hd_6_0_0 := hG.inX
  have hf_7_0_0 := hG.notin hf_7_0_0 (by decide)
  have hf_8_0_0 := hG.notin hf_8_0_0 (by decide)
  generalize hV5 : g_set V3 (6, 0, 0) (.inl (cy 0, 40, .inl (fun _ => 0))) = V5 at hG
  have hv_2_0_0 : V5 (2, 0, 0) = .inr (3, [.ref b1, .null, .null, .null, .int 0]) := by rw [← hV5, g_set_ne (by decide)]; exact hv_2_0_0
  have hv_5_0_0 : V5 (5, 0, 0) = .inl (cy 0, 40, .inl (fun _ => 0)) := by rw [← hV5, g_set_ne (by decide)]; exact hv_5_0_0
  have hv_6_0_0 : V5 (6, 0, 0) = .inl (cy 0, 40, .inl (fun _ => 0)) := by rw [← hV5, g_set_self]
  have hVo : ∀ y, y ≠ (2, 0, 0) ∧ y ≠ (5, 0, 0) ∧ y ≠ (6, 0, 0) ∧ y ≠ (7, 0, 0) ∧ y ≠ (8, 0, 0) → V5 y = V y := fun y hy => by rw [← hV5, g_set_ne (fun q => hy.2.2.1 q)]; first | done | exact hVo y hy
  refine h_putF (C := RX1) (T := TX1) (N := 5) (ci := 3) (ty := (tyX1 1)) hx hb hts inX1g tyX1_ok nmX1 hown hK hG hS (2, 0, 0) hd_2_0_0 e_2_0_0 hAa hv_2_0_0 rfl 1 (by decide) fl_X1_15 rfl hin2 rfl (by decide +kernel) rfl rfl (Nat.le_of_ble_eq_true rfl) dX1_init_17 (fun H locs hG hS => ?_)
  have hG : g_H D vwCl _ L4 (g_set V5 (2, 0, 0) (.inr (3, [.ref b1, .ref b4, .null, .null, .int 0]))) H := hG
  generalize hV6 : g_set V5 (2, 0, 0) (.inr (3, [.ref b1, .ref b4, .null, .null, .int 0])) = V6 at hG
  have hv_5_0_0 : V6 (5, 0, 0) = .inl (cy 0, 40, .inl (fun _ => 0)) := by rw [← hV6, g_set_ne (by decide)]; exact hv_5_0_0
  have hv_6_0_0 : V6 (6, 0, 0) = .inl (cy 0, 40, .inl (fun _ => 0)) := by rw [← hV6, g_set_ne (by decide)]; exact hv_6_0_0
  have hv_2_0_0 : V6 (2, 0, 0) = .inr (3, [.ref b1, .ref b4, .null, .null, .int 0]) := by rw [← hV6, g_set_self]
  have hVo : ∀ y, y ≠ (2, 0, 0) ∧ y ≠ (5, 0, 0) ∧ y ≠ (6, 0, 0) ∧ y ≠ (7, 0, 0) ∧ y ≠ (8, 0, 0) → V6 y = V y := fun y hy => by rw [← hV6, g_set_ne (fun q => hy.1 q)]; first | done | exact hVo y hy
  refine lv_aload_n hx hb dX1_init_20 rfl (lv_at hl 0 rfl) ?_
  refine lv_bipush (v := 40) hx hb dX1_init_21 (by decide) ?_
  refine h_newa (harr := hts _ ac_int) (atype := .int) (ty := .int) (a0 := (40, .inl (fun _ => 0))) hx hb rfl (fun C h => by cases h) hK 0 rfl hG hS (7, 0, 0) hf_7_0_0 rfl (by decide) rfl (by decide) (Nat.le_of_ble_eq_true rfl) (Nat.le_of_ble_eq_true rfl) dX1_init_23 (fun L7 b7 H hL9 e_7_0_0 ha7 hG hS hz9 o9 => ?_)
  have hs_5_0_0 : s.heap.size ≤ L7 (5, 0, 0) := by rw [hL9 _ hd_5_0_0]; exact hs_5_0_0
  have hs_6_0_0 : s.heap.size ≤ L7 (6, 0, 0) := by rw [hL9 _ hd_6_0_0]; exact hs_6_0_0
  have hs_7_0_0 : s.heap.size ≤ L7 (7, 0, 0) := by rw [e_7_0_0]; exact ha7
  have e_2_0_0 := (hL9 _ hd_2_0_0).trans e_2_0_0
  have e_5_0_0 := (hL9 _ hd_5_0_0).trans e_5_0_0
  have e_6_0_0 := (hL9 _ hd_6_0_0).trans e_6_0_0
  have hLL := fun y (hy : dom y) => (hL9 y (hdd y hy)).trans (hLL y hy)
  have hdd := fun y (hy : dom y) => hG.inO (hdd y hy)
  have hd_2_0_0 := hG.inO hd_2_0_0
  have hd_5_0_0 := hG.inO hd_5_0_0
  have hd_6_0_0 := hG.inO hd_6_0_0
  have hd_7_0_0 := hG.inX
  have hf_8_0_0 := hG.notin hf_8_0_0 (by decide)
  generalize hV8 : g_set V6 (7, 0, 0) (.inl (cy 0, 40, .inl (fun _ => 0))) = V8 at hG
  have hv_2_0_0 : V8 (2, 0, 0) = .inr (3, [.ref b1, .ref b4, .null, .null, .int 0]) := by rw [← hV8, g_set_ne (by decide)]; exact hv_2_0_0
  have hv_5_0_0 : V8 (5, 0, 0) = .inl (cy 0, 40, .inl (fun _ => 0)) := by rw [← hV8, g_set_ne (by decide)]; exact hv_5_0_0
  have hv_6_0_0 : V8 (6, 0, 0) = .inl (cy 0, 40, .inl (fun _ => 0)) := by rw [← hV8, g_set_ne (by decide)]; exact hv_6_0_0
  have hv_7_0_0 : V8 (7, 0, 0) = .inl (cy 0, 40, .inl (fun _ => 0)) := by rw [← hV8, g_set_self]
  have hVo : ∀ y, y ≠ (2, 0, 0) ∧ y ≠ (5, 0, 0) ∧ y ≠ (6, 0, 0) ∧ y ≠ (7, 0, 0) ∧ y ≠ (8, 0, 0) → V8 y = V y := fun y hy => by rw [← hV8, g_set_ne (fun q => hy.2.2.2.1 q)]; first | done | exact hVo y hy
  refine h_putF (C := RX1) (T := TX1) (N := 5) (ci := 3) (ty := (tyX1 2)) hx hb hts inX1g tyX1_ok nmX1 hown hK hG hS (2, 0, 0) hd_2_0_0 e_2_0_0 hAa hv_2_0_0 rfl 2 (by decide) fl_X1_18 rfl hin2 rfl (by decide +kernel) rfl rfl (Nat.le_of_ble_eq_true rfl) dX1_init_25 (fun H locs hG hS => ?_)
  have hG : g_H D vwCl _ L7 (g_set V8 (2, 0, 0) (.inr (3, [.ref b1, .ref b4, .ref b7, .null, .int 0]))) H := hG
  generalize hV9 : g_set V8 (2, 0, 0) (.inr (3, [.ref b1, .ref b4, .ref b7, .null, .int 0])) = V9 at hG
  have hv_5_0_0 : V9 (5, 0, 0) = .inl (cy 0, 40, .inl (fun _ => 0)) := by rw [← hV9, g_set_ne (by decide)]; exact hv_5_0_0
  have hv_6_0_0 : V9 (6, 0, 0) = .inl (cy 0, 40, .inl (fun _ => 0)) := by rw [← hV9, g_set_ne (by decide)]; exact hv_6_0_0
  have hv_7_0_0 : V9 (7, 0, 0) = .inl (cy 0, 40, .inl (fun _ => 0)) := by rw [← hV9, g_set_ne (by decide)]; exact hv_7_0_0
  have hv_2_0_0 : V9 (2, 0, 0) = .inr (3, [.ref b1, .ref b4, .ref b7, .null, .int 0]) := by rw [← hV9, g_set_self]
  have hVo : ∀ y, y ≠ (2, 0, 0) ∧ y ≠ (5, 0, 0) ∧ y ≠ (6, 0, 0) ∧ y ≠ (7, 0, 0) ∧ y ≠ (8, 0, 0) → V9 y = V y := fun y hy => by rw [← hV9, g_set_ne (fun q => hy.1 q)]; first | done | exact hVo y hy
  refine lv_aload_n hx hb dX1_init_28 rfl (lv_at hl 0 rfl) ?_
  refine lv_bipush (v := 40) hx hb dX1_init_29 (by decide) ?_
  refine h_newa (harr := hts _ ac_int) (atype := .int) (ty := .int) (a0 := (40, .inl (fun _ => 0))) hx hb rfl (fun C h => by cases h) hK 0 rfl hG hS (8, 0, 0) hf_8_0_0 rfl (by decide) rfl (by decide) (Nat.le_of_ble_eq_true rfl) (Nat.le_of_ble_eq_true rfl) dX1_init_31 (fun L10 b10 H hL9 e_8_0_0 ha10 hG hS hz9 o9 => ?_)
  have hs_5_0_0 : s.heap.size ≤ L10 (5, 0, 0) := by rw [hL9 _ hd_5_0_0]; exact hs_5_0_0
  have hs_6_0_0 : s.heap.size ≤ L10 (6, 0, 0) := by rw [hL9 _ hd_6_0_0]; exact hs_6_0_0
  have hs_7_0_0 : s.heap.size ≤ L10 (7, 0, 0) := by rw [hL9 _ hd_7_0_0]; exact hs_7_0_0
  have hs_8_0_0 : s.heap.size ≤ L10 (8, 0, 0) := by rw [e_8_0_0]; exact ha10
  have e_2_0_0 := (hL9 _ hd_2_0_0).trans e_2_0_0
  have e_5_0_0 := (hL9 _ hd_5_0_0).trans e_5_0_0
  have e_6_0_0 := (hL9 _ hd_6_0_0).trans e_6_0_0
  have e_7_0_0 := (hL9 _ hd_7_0_0).trans e_7_0_0
  have hLL := fun y (hy : dom y) => (hL9 y (hdd y hy)).trans (hLL y hy)
  have hdd := fun y (hy : dom y) => hG.inO (hdd y hy)
  have hd_2_0_0 := hG.inO hd_2_0_0
  have hd_5_0_0 := hG.inO hd_5_0_0
  have hd_6_0_0 := hG.inO hd_6_0_0
  have hd_7_0_0 := hG.inO hd_7_0_0
  have hd_8_0_0 := hG.inX
  generalize hV11 : g_set V9 (8, 0, 0) (.inl (cy 0, 40, .inl (fun _ => 0))) = V11 at hG
  have hv_2_0_0 : V11 (2, 0, 0) = .inr (3, [.ref b1, .ref b4, .ref b7, .null, .int 0]) := by rw [← hV11, g_set_ne (by decide)]; exact hv_2_0_0
  have hv_5_0_0 : V11 (5, 0, 0) = .inl (cy 0, 40, .inl (fun _ => 0)) := by rw [← hV11, g_set_ne (by decide)]; exact hv_5_0_0
  have hv_6_0_0 : V11 (6, 0, 0) = .inl (cy 0, 40, .inl (fun _ => 0)) := by rw [← hV11, g_set_ne (by decide)]; exact hv_6_0_0
  have hv_7_0_0 : V11 (7, 0, 0) = .inl (cy 0, 40, .inl (fun _ => 0)) := by rw [← hV11, g_set_ne (by decide)]; exact hv_7_0_0
  have hv_8_0_0 : V11 (8, 0, 0) = .inl (cy 0, 40, .inl (fun _ => 0)) := by rw [← hV11, g_set_self]
  have hVo : ∀ y, y ≠ (2, 0, 0) ∧ y ≠ (5, 0, 0) ∧ y ≠ (6, 0, 0) ∧ y ≠ (7, 0, 0) ∧ y ≠ (8, 0, 0) → V11 y = V y := fun y hy => by rw [← hV11, g_set_ne (fun q => hy.2.2.2.2 q)]; first | done | exact hVo y hy
  refine h_putF (C := RX1) (T := TX1) (N := 5) (ci := 3) (ty := (tyX1 3)) hx hb hts inX1g tyX1_ok nmX1 hown hK hG hS (2, 0, 0) hd_2_0_0 e_2_0_0 hAa hv_2_0_0 rfl 3 (by decide) fl_X1_21 rfl hin2 rfl (by decide +kernel) rfl rfl (Nat.le_of_ble_eq_true rfl) dX1_init_33 (fun H locs hG hS => ?_)
  have hG : g_H D vwCl _ L10 (g_set V11 (2, 0, 0) (.inr (3, [.ref b1, .ref b4, .ref b7, .ref b10, .int 0]))) H := hG
  generalize hV12 : g_set V11 (2, 0, 0) (.inr (3, [.ref b1, .ref b4, .ref b7, .ref b10, .int 0])) = V12 at hG
  have hv_5_0_0 : V12 (5, 0, 0) = .inl (cy 0, 40, .inl (fun _ => 0)) := by rw [← hV12, g_set_ne (by decide)]; exact hv_5_0_0
  have hv_6_0_0 : V12 (6, 0, 0) = .inl (cy 0, 40, .inl (fun _ => 0)) := by rw [← hV12, g_set_ne (by decide)]; exact hv_6_0_0
  have hv_7_0_0 : V12 (7, 0, 0) = .inl (cy 0, 40, .inl (fun _ => 0)) := by rw [← hV12, g_set_ne (by decide)]; exact hv_7_0_0
  have hv_8_0_0 : V12 (8, 0, 0) = .inl (cy 0, 40, .inl (fun _ => 0)) := by rw [← hV12, g_set_ne (by decide)]; exact hv_8_0_0
  have hv_2_0_0 : V12 (2, 0, 0) = .inr (3, [.ref b1, .ref b4, .ref b7, .ref b10, .int 0]) := by rw [← hV12, g_set_self]
  have hVo : ∀ y, y ≠ (2, 0, 0) ∧ y ≠ (5, 0, 0) ∧ y ≠ (6, 0, 0) ∧ y ≠ (7, 0, 0) ∧ y ≠ (8, 0, 0) → V12 y = V y := fun y hy => by rw [← hV12, g_set_ne (fun q => hy.1 q)]; first | done | exact hVo y hy
  refine lv_aload_n hx hb dX1_init_36 rfl (lv_at hl 0 rfl) ?_
  refine lv_iconst (v := 0) hx hb dX1_init_37 (by decide) ?_
  refine h_put (C := RX1) (T := TX1) (N := 5) (ci := 3) (ty := .int) hx hb hts inX1g tyX1_ok nmX1 hown hK hG hS (2, 0, 0) hd_2_0_0 e_2_0_0 hAa hv_2_0_0 rfl 4 (by decide) fl_X1_24 rfl (by decide +kernel) rfl rfl (Nat.le_of_ble_eq_true rfl) dX1_init_38 (fun H locs hG hS => ?_)
  have hG : g_H D vwCl _ L10 (g_set V12 (2, 0, 0) (.inr (3, [.ref b1, .ref b4, .ref b7, .ref b10, .int 0]))) H := hG
  generalize hV13 : g_set V12 (2, 0, 0) (.inr (3, [.ref b1, .ref b4, .ref b7, .ref b10, .int 0])) = V13 at hG
  have hv_5_0_0 : V13 (5, 0, 0) = .inl (cy 0, 40, .inl (fun _ => 0)) := by rw [← hV13, g_set_ne (by decide)]; exact hv_5_0_0
  have hv_6_0_0 : V13 (6, 0, 0) = .inl (cy 0, 40, .inl (fun _ => 0)) := by rw [← hV13, g_set_ne (by decide)]; exact hv_6_0_0
  have hv_7_0_0 : V13 (7, 0, 0) = .inl (cy 0, 40, .inl (fun _ => 0)) := by rw [← hV13, g_set_ne (by decide)]; exact hv_7_0_0
  have hv_8_0_0 : V13 (8, 0, 0) = .inl (cy 0, 40, .inl (fun _ => 0)) := by rw [← hV13, g_set_ne (by decide)]; exact hv_8_0_0
  have hv_2_0_0 : V13 (2, 0, 0) = .inr (3, [.ref b1, .ref b4, .ref b7, .ref b10, .int 0]) := by rw [← hV13, g_set_self]
  have hVo : ∀ y, y ≠ (2, 0, 0) ∧ y ≠ (5, 0, 0) ∧ y ≠ (6, 0, 0) ∧ y ≠ (7, 0, 0) ∧ y ≠ (8, 0, 0) → V13 y = V y := fun y hy => by rw [← hV13, g_set_ne (fun q => hy.1 q)]; first | done | exact hVo y hy
  have hnw : ∀ y, (dom y ∨ y = (5, 0, 0) ∨ y = (6, 0, 0) ∨ y = (7, 0, 0) ∨ y = (8, 0, 0)) → dom y ∨ s.heap.size ≤ L10 y := by
    intro y h
    rcases h with h | rfl | rfl | rfl | rfl
    · exact Or.inl h
    · exact Or.inr hs_5_0_0
    · exact Or.inr hs_6_0_0
    · exact Or.inr hs_7_0_0
    · exact Or.inr hs_8_0_0
  refine h_vret hx hb hr hlk hLL hnw (hG.congr (fun x h => ?_) (fun x h => ?_)) hS dX1_init_41
  · rcases h with h | rfl | rfl | rfl | rfl
    · exact hdd x h
    · exact hd_5_0_0
    · exact hd_6_0_0
    · exact hd_7_0_0
    · exact hd_8_0_0
  · by_cases q_2_0_0 : x = (2, 0, 0)
    · rw [if_pos q_2_0_0, q_2_0_0, hv_2_0_0, e_5_0_0, e_6_0_0, e_7_0_0, e_8_0_0]
    · rw [if_neg q_2_0_0]
      by_cases q_5_0_0 : x = (5, 0, 0)
      · rw [if_pos q_5_0_0, q_5_0_0, hv_5_0_0]
      · rw [if_neg q_5_0_0]
        by_cases q_6_0_0 : x = (6, 0, 0)
        · rw [if_pos q_6_0_0, q_6_0_0, hv_6_0_0]
        · rw [if_neg q_6_0_0]
          by_cases q_7_0_0 : x = (7, 0, 0)
          · rw [if_pos q_7_0_0, q_7_0_0, hv_7_0_0]
          · rw [if_neg q_7_0_0]
            by_cases q_8_0_0 : x = (8, 0, 0)
            · rw [if_pos q_8_0_0, q_8_0_0, hv_8_0_0]
            · rw [if_neg q_8_0_0]
              exact (hVo x ⟨q_2_0_0, q_5_0_0, q_6_0_0, q_7_0_0, q_8_0_0⟩).symm
