/-! a session is made: with one set, with five -/
set_option maxHeartbeats 4000000 in
set_option maxRecDepth 100000 in
theorem k_X5_init1 (l : Launch) (D : va_G) (cy : Nat → ClassId) (dom : g_S → Prop) (L : g_S → Nat) (V : g_S → va_E) (sz : Nat) (i : Nat) (p q : Int32) (h4 : (p &&& 4).toInt = 0) (a0 : Nat) (e_11_i_0 : L (11, i, 0) = a0) (hd_11_i_0 : dom (11, i, 0)) (hv_11_i_0 : V (11, i, 0) = .inr (7, [.int 0, .null, .null, .null, .int 0, .int 0, .int 0])) (hf_12_i_0 : ¬ dom (12, i, 0)) (hf_18_i_0 : ¬ dom (18, i, 0)) (hf_19_i_0 : ¬ dom (19, i, 0)) (hf_13_i_0 : ¬ dom (13, i, 0)) (hf_14_i_0 : ¬ dom (14, i, 0)) (hf_15_i_0 : ¬ dom (15, i, 0)) (hf_16_i_0 : ¬ dom (16, i, 0)) (hf_17_i_0 : ¬ dom (17, i, 0)) (hf_20_i_0 : ¬ dom (20, i, 0)) (hf_21_i_0 : ¬ dom (21, i, 0)) : h_Met l yX5_init (.code yX5_init cX5_init 4 none) 3 10 453 D vwCl (x_tys cy) dom L V sz [.ref a0, .int p, .int q] (h_A a0 sz) none (fun x => dom x ∨ x = (12, i, 0) ∨ x = (18, i, 0) ∨ x = (19, i, 0) ∨ x = (13, i, 0) ∨ x = (14, i, 0) ∨ x = (15, i, 0) ∨ x = (16, i, 0) ∨ x = (17, i, 0) ∨ x = (20, i, 0) ∨ x = (21, i, 0)) (fun L' x => if x = (11, i, 0) then .inr (7, [.int p, .ref (L' (12, i, 0)), .ref (L' (13, i, 0)), .ref (L' (17, i, 0)), .int 1, .int 0, .int 0]) else if x = (12, i, 0) then .inl (cy 3, 1, .inr (.inr (.inr (.inr (va_up (fun _ => none) 0 (some (L' (18, i, 0)))))))) else if x = (18, i, 0) then .inr (5, [.ref (L' (19, i, 0)), .int 0, .int 0]) else if x = (19, i, 0) then .inl (cy 0, 100, .inl (fun _ => 0)) else if x = (13, i, 0) then .inr (2, [.int q, .ref (L' (14, i, 0)), .ref (L' (15, i, 0)), .ref (L' (16, i, 0)), .int 0, .int 0]) else if x = (14, i, 0) then .inl (cy 0, 100, .inl (fun _ => 0)) else if x = (15, i, 0) then .inl (cy 0, 100, .inl (fun _ => 0)) else if x = (16, i, 0) then .inl (cy 0, 100, .inl (fun _ => 0)) else if x = (17, i, 0) then .inr (6, [.ref (L' (20, i, 0)), .ref (L' (21, i, 0)), .int 0]) else if x = (20, i, 0) then .inl (cy 0, 20, .inl (fun _ => 0)) else if x = (21, i, 0) then .inl (cy 0, 20, .inl (fun _ => 0)) else V x) := by
  refine h_Met.of (by decide) (Nat.le_of_ble_eq_true rfl) ?_
  intro pg e s m below meth c hx hb hr hlk hml hown hin2 hsz hts hK hN hG ls hl
  have hown : s.vm.findClass RX5 = some m.cls := hown
  have hl : lv_has ls 4 [(0, .ref a0), (1, .int p), (2, .int q)] := hl
  have hS : va_S (h_A a0 sz) s.heap s.heap [] := va_S.rf
  have hAa : h_A a0 sz a0 := Or.inl rfl
  have hAn : ∀ q, s.heap.size ≤ q → h_A a0 sz q := fun q h => Or.inr (by rw [← hsz]; exact h)
  have hLL := fun y (_ : dom y) => (rfl : L y = L y)
  have hdd := fun y (hy : dom y) => hy
  have hVo : ∀ y, y ≠ (11, i, 0) ∧ y ≠ (12, i, 0) ∧ y ≠ (18, i, 0) ∧ y ≠ (19, i, 0) ∧ y ≠ (13, i, 0) ∧ y ≠ (14, i, 0) ∧ y ≠ (15, i, 0) ∧ y ≠ (16, i, 0) ∧ y ≠ (17, i, 0) ∧ y ≠ (20, i, 0) ∧ y ≠ (21, i, 0) → V y = V y := fun _ _ => rfl
  refine lv_aload_n hx hb dX5_init_0 rfl (lv_at hl 0 rfl) ?_
  refine W.objInit hx hb hown (hts _ ol_X5) (hts _ oi_ob) (hts _ oc_ob) rfl (by rw [hml]; exact hl.1) rfl dX5_init_1 (Nat.le_of_ble_eq_true rfl) (Nat.le_of_ble_eq_true rfl) ?_
  refine W.eq (g2 := F0 m 4 ls []) rfl ?_
  refine lv_aload_n hx hb dX5_init_4 rfl (lv_at hl 0 rfl) ?_
  refine lv_iconst (v := 1) hx hb dX5_init_5 (by decide) ?_
  refine h_put (C := RX5) (T := TX5) (N := 7) (ci := 7) (ty := .boolean) hx hb hts inX5g tyX5_ok nmX5 hown hK hG hS (11, i, 0) hd_11_i_0 e_11_i_0 hAa hv_11_i_0 rfl 4 (by decide) fl_X5_9 rfl (by decide +kernel) rfl rfl (Nat.le_of_ble_eq_true rfl) dX5_init_6 (fun H locs hG hS => ?_)
  have hG : g_H D vwCl _ L (g_set V (11, i, 0) (.inr (7, [.int 0, .null, .null, .null, .int 1, .int 0, .int 0]))) H := hG
  generalize hV1 : g_set V (11, i, 0) (.inr (7, [.int 0, .null, .null, .null, .int 1, .int 0, .int 0])) = V1 at hG
  have hv_11_i_0 : V1 (11, i, 0) = .inr (7, [.int 0, .null, .null, .null, .int 1, .int 0, .int 0]) := by rw [← hV1, g_set_self]
  have hVo : ∀ y, y ≠ (11, i, 0) ∧ y ≠ (12, i, 0) ∧ y ≠ (18, i, 0) ∧ y ≠ (19, i, 0) ∧ y ≠ (13, i, 0) ∧ y ≠ (14, i, 0) ∧ y ≠ (15, i, 0) ∧ y ≠ (16, i, 0) ∧ y ≠ (17, i, 0) ∧ y ≠ (20, i, 0) ∧ y ≠ (21, i, 0) → V1 y = V y := fun y hy => by rw [← hV1, g_set_ne (fun q => hy.1 q)]; first | done | exact hVo y hy
  refine lv_aload_n hx hb dX5_init_9 rfl (lv_at hl 0 rfl) ?_
  refine lv_iconst (v := 0) hx hb dX5_init_10 (by decide) ?_
  refine h_put (C := RX5) (T := TX5) (N := 7) (ci := 7) (ty := .int) hx hb hts inX5g tyX5_ok nmX5 hown hK hG hS (11, i, 0) hd_11_i_0 e_11_i_0 hAa hv_11_i_0 rfl 5 (by decide) fl_X5_15 rfl (by decide +kernel) rfl rfl (Nat.le_of_ble_eq_true rfl) dX5_init_11 (fun H locs hG hS => ?_)
  have hG : g_H D vwCl _ L (g_set V1 (11, i, 0) (.inr (7, [.int 0, .null, .null, .null, .int 1, .int 0, .int 0]))) H := hG
  generalize hV2 : g_set V1 (11, i, 0) (.inr (7, [.int 0, .null, .null, .null, .int 1, .int 0, .int 0])) = V2 at hG
  have hv_11_i_0 : V2 (11, i, 0) = .inr (7, [.int 0, .null, .null, .null, .int 1, .int 0, .int 0]) := by rw [← hV2, g_set_self]
  have hVo : ∀ y, y ≠ (11, i, 0) ∧ y ≠ (12, i, 0) ∧ y ≠ (18, i, 0) ∧ y ≠ (19, i, 0) ∧ y ≠ (13, i, 0) ∧ y ≠ (14, i, 0) ∧ y ≠ (15, i, 0) ∧ y ≠ (16, i, 0) ∧ y ≠ (17, i, 0) ∧ y ≠ (20, i, 0) ∧ y ≠ (21, i, 0) → V2 y = V y := fun y hy => by rw [← hV2, g_set_ne (fun q => hy.1 q)]; first | done | exact hVo y hy
  refine lv_aload_n hx hb dX5_init_14 rfl (lv_at hl 0 rfl) ?_
  refine lv_iconst (v := 0) hx hb dX5_init_15 (by decide) ?_
  refine h_put (C := RX5) (T := TX5) (N := 7) (ci := 7) (ty := .int) hx hb hts inX5g tyX5_ok nmX5 hown hK hG hS (11, i, 0) hd_11_i_0 e_11_i_0 hAa hv_11_i_0 rfl 6 (by decide) fl_X5_19 rfl (by decide +kernel) rfl rfl (Nat.le_of_ble_eq_true rfl) dX5_init_16 (fun H locs hG hS => ?_)
  have hG : g_H D vwCl _ L (g_set V2 (11, i, 0) (.inr (7, [.int 0, .null, .null, .null, .int 1, .int 0, .int 0]))) H := hG
  generalize hV3 : g_set V2 (11, i, 0) (.inr (7, [.int 0, .null, .null, .null, .int 1, .int 0, .int 0])) = V3 at hG
  have hv_11_i_0 : V3 (11, i, 0) = .inr (7, [.int 0, .null, .null, .null, .int 1, .int 0, .int 0]) := by rw [← hV3, g_set_self]
  have hVo : ∀ y, y ≠ (11, i, 0) ∧ y ≠ (12, i, 0) ∧ y ≠ (18, i, 0) ∧ y ≠ (19, i, 0) ∧ y ≠ (13, i, 0) ∧ y ≠ (14, i, 0) ∧ y ≠ (15, i, 0) ∧ y ≠ (16, i, 0) ∧ y ≠ (17, i, 0) ∧ y ≠ (20, i, 0) ∧ y ≠ (21, i, 0) → V3 y = V y := fun y hy => by rw [← hV3, g_set_ne (fun q => hy.1 q)]; first | done | exact hVo y hy
  refine lv_aload_n hx hb dX5_init_19 rfl (lv_at hl 0 rfl) ?_
  refine lv_iload_n hx hb dX5_init_20 rfl (lv_at hl 1 rfl) ?_
  refine h_putF (C := RX5) (T := TX5) (N := 7) (ci := 7) (ty := .int) hx hb hts inX5g tyX5_ok nmX5 hown hK hG hS (11, i, 0) hd_11_i_0 e_11_i_0 hAa hv_11_i_0 rfl 0 (by decide) fl_X5_22 rfl hin2 rfl (by decide +kernel) rfl rfl (Nat.le_of_ble_eq_true rfl) dX5_init_21 (fun H locs hG hS => ?_)
  have hG : g_H D vwCl _ L (g_set V3 (11, i, 0) (.inr (7, [.int p, .null, .null, .null, .int 1, .int 0, .int 0]))) H := hG
  generalize hV4 : g_set V3 (11, i, 0) (.inr (7, [.int p, .null, .null, .null, .int 1, .int 0, .int 0])) = V4 at hG
  have hv_11_i_0 : V4 (11, i, 0) = .inr (7, [.int p, .null, .null, .null, .int 1, .int 0, .int 0]) := by rw [← hV4, g_set_self]
  have hVo : ∀ y, y ≠ (11, i, 0) ∧ y ≠ (12, i, 0) ∧ y ≠ (18, i, 0) ∧ y ≠ (19, i, 0) ∧ y ≠ (13, i, 0) ∧ y ≠ (14, i, 0) ∧ y ≠ (15, i, 0) ∧ y ≠ (16, i, 0) ∧ y ≠ (17, i, 0) ∧ y ≠ (20, i, 0) ∧ y ≠ (21, i, 0) → V4 y = V y := fun y hy => by rw [← hV4, g_set_ne (fun q => hy.1 q)]; first | done | exact hVo y hy
  refine lv_aload_n hx hb dX5_init_24 rfl (lv_at hl 0 rfl) ?_
  refine lv_iload_n hx hb dX5_init_25 rfl (lv_at hl 1 rfl) ?_
  refine lv_iconst (v := 4) hx hb dX5_init_26 (by decide) ?_
  refine lv_iand hx hb dX5_init_27 ?_
  refine kz_if_eq (X := (p &&& 4).toInt) hx hb rfl dX5_init_28 (tgt := 35) (by decide) (fun c28 => ?_) (fun c28 => absurd h4 c28)
  refine lv_iconst (v := 1) hx hb dX5_init_35 (by decide) ?_
  refine h_newq (C := RX3) (N' := 1) hx hb hown (hts _ cl_X5_25) hN.2.2.2.1 hK 3 rfl hG hS (12, i, 0) hf_12_i_0 (by decide) rfl (by decide) (Nat.le_of_ble_eq_true rfl) (Nat.le_of_ble_eq_true rfl) dX5_init_36 (fun L5 b5 H hL9 e_12_i_0 ha5 hG hS hz9 o9 => ?_)
  have hs_12_i_0 : s.heap.size ≤ L5 (12, i, 0) := by rw [e_12_i_0]; exact ha5
  have e_11_i_0 := (hL9 _ hd_11_i_0).trans e_11_i_0
  have hLL := fun y (hy : dom y) => (hL9 y (hdd y hy)).trans (hLL y hy)
  have hdd := fun y (hy : dom y) => hG.inO (hdd y hy)
  have hd_11_i_0 := hG.inO hd_11_i_0
  have hd_12_i_0 := hG.inX
  have hf_18_i_0 := hG.notin hf_18_i_0 (by simp)
  have hf_19_i_0 := hG.notin hf_19_i_0 (by simp)
  have hf_13_i_0 := hG.notin hf_13_i_0 (by simp)
  have hf_14_i_0 := hG.notin hf_14_i_0 (by simp)
  have hf_15_i_0 := hG.notin hf_15_i_0 (by simp)
  have hf_16_i_0 := hG.notin hf_16_i_0 (by simp)
  have hf_17_i_0 := hG.notin hf_17_i_0 (by simp)
  have hf_20_i_0 := hG.notin hf_20_i_0 (by simp)
  have hf_21_i_0 := hG.notin hf_21_i_0 (by simp)
  generalize hV6 : g_set V4 (12, i, 0) (.inl (cy 3, 1, .inr (.inr (.inr (.inr (fun _ => none)))))) = V6 at hG
  have hv_11_i_0 : V6 (11, i, 0) = .inr (7, [.int p, .null, .null, .null, .int 1, .int 0, .int 0]) := by rw [← hV6, g_set_ne (by simp)]; exact hv_11_i_0
  have hv_12_i_0 : V6 (12, i, 0) = .inl (cy 3, 1, .inr (.inr (.inr (.inr (fun _ => none))))) := by rw [← hV6, g_set_self]
  have hVo : ∀ y, y ≠ (11, i, 0) ∧ y ≠ (12, i, 0) ∧ y ≠ (18, i, 0) ∧ y ≠ (19, i, 0) ∧ y ≠ (13, i, 0) ∧ y ≠ (14, i, 0) ∧ y ≠ (15, i, 0) ∧ y ≠ (16, i, 0) ∧ y ≠ (17, i, 0) ∧ y ≠ (20, i, 0) ∧ y ≠ (21, i, 0) → V6 y = V y := fun y hy => by rw [← hV6, g_set_ne (fun q => hy.2.1 q)]; first | done | exact hVo y hy
  refine h_putF (C := RX5) (T := TX5) (N := 7) (ci := 7) (ty := (tyX5 1)) hx hb hts inX5g tyX5_ok nmX5 hown hK hG hS (11, i, 0) hd_11_i_0 e_11_i_0 hAa hv_11_i_0 rfl 1 (by decide) fl_X5_27 rfl hin2 rfl (by decide +kernel) rfl rfl (Nat.le_of_ble_eq_true rfl) dX5_init_39 (fun H locs hG hS => ?_)
  have hG : g_H D vwCl _ L5 (g_set V6 (11, i, 0) (.inr (7, [.int p, .ref b5, .null, .null, .int 1, .int 0, .int 0]))) H := hG
  generalize hV7 : g_set V6 (11, i, 0) (.inr (7, [.int p, .ref b5, .null, .null, .int 1, .int 0, .int 0])) = V7 at hG
  have hv_12_i_0 : V7 (12, i, 0) = .inl (cy 3, 1, .inr (.inr (.inr (.inr (fun _ => none))))) := by rw [← hV7, g_set_ne (by simp)]; exact hv_12_i_0
  have hv_11_i_0 : V7 (11, i, 0) = .inr (7, [.int p, .ref b5, .null, .null, .int 1, .int 0, .int 0]) := by rw [← hV7, g_set_self]
  have hVo : ∀ y, y ≠ (11, i, 0) ∧ y ≠ (12, i, 0) ∧ y ≠ (18, i, 0) ∧ y ≠ (19, i, 0) ∧ y ≠ (13, i, 0) ∧ y ≠ (14, i, 0) ∧ y ≠ (15, i, 0) ∧ y ≠ (16, i, 0) ∧ y ≠ (17, i, 0) ∧ y ≠ (20, i, 0) ∧ y ≠ (21, i, 0) → V7 y = V y := fun y hy => by rw [← hV7, g_set_ne (fun q => hy.1 q)]; first | done | exact hVo y hy
  refine lv_iconst (v := 0) hx hb dX5_init_42 (by decide) ?_
  refine lv_istore_n (lv' := [(3, .int 0), (0, .ref a0), (1, .int p), (2, .int q)]) hx hb dX5_init_43 rfl hl (by decide) rfl (fun ls hl => ?_)
  refine lv_iload_n hx hb dX5_init_44 rfl (lv_at hl 0 rfl) ?_
  refine lv_aload_n hx hb dX5_init_45 rfl (lv_at hl 1 rfl) ?_
  refine h_get (C := RX5) (T := TX5) (N := 7) (ci := 7) (v := .ref b5) hx hb hts inX5g hown hK hG (11, i, 0) hd_11_i_0 e_11_i_0 hv_11_i_0 rfl 1 (by decide) fl_X5_27 rfl dX5_init_46 ?_
  refine h_alen (v := 1) hx hb hK hG (12, i, 0) hd_12_i_0 e_12_i_0 3 hv_12_i_0 rfl rfl dX5_init_49 ?_
  refine kz_icmp_ge (X := 0) (Y := 1) hx hb (by decide) (by decide) dX5_init_50 (tgt := 72) (by decide) (fun c50 => absurd c50 (by decide)) (fun c50 => ?_)
  refine lv_aload_n hx hb dX5_init_53 rfl (lv_at hl 1 rfl) ?_
  refine h_get (C := RX5) (T := TX5) (N := 7) (ci := 7) (v := .ref b5) hx hb hts inX5g hown hK hG (11, i, 0) hd_11_i_0 e_11_i_0 hv_11_i_0 rfl 1 (by decide) fl_X5_27 rfl dX5_init_54 ?_
  refine lv_iload_n hx hb dX5_init_57 rfl (lv_at hl 0 rfl) ?_
  refine h_newo (C := RX3) (T := TX3) (N := 3) (ci := 5) (fs := [.null, .int 0, .int 0]) hx hb hts inX3g tyX3_ok hown cl_X5_25 ins_X3 ini_X3 hK hG hS (18, i, 0) hf_18_i_0 rfl (fun j hj => by rcases (show j = 0 ∨ j = 1 ∨ j = 2 by omega) with rfl | rfl | rfl <;> rfl) (Nat.le_of_ble_eq_true rfl) (Nat.le_of_ble_eq_true rfl) dX5_init_58 (fun L8 b8 H hL9 e_18_i_0 ha8 hG hS hz9 o9 => ?_)
  have hs_12_i_0 : s.heap.size ≤ L8 (12, i, 0) := by rw [hL9 _ hd_12_i_0]; exact hs_12_i_0
  have hs_18_i_0 : s.heap.size ≤ L8 (18, i, 0) := by rw [e_18_i_0]; exact ha8
  have e_11_i_0 := (hL9 _ hd_11_i_0).trans e_11_i_0
  have e_12_i_0 := (hL9 _ hd_12_i_0).trans e_12_i_0
  have hLL := fun y (hy : dom y) => (hL9 y (hdd y hy)).trans (hLL y hy)
  have hdd := fun y (hy : dom y) => hG.inO (hdd y hy)
  have hd_11_i_0 := hG.inO hd_11_i_0
  have hd_12_i_0 := hG.inO hd_12_i_0
  have hd_18_i_0 := hG.inX
  have hf_19_i_0 := hG.notin hf_19_i_0 (by simp)
  have hf_13_i_0 := hG.notin hf_13_i_0 (by simp)
  have hf_14_i_0 := hG.notin hf_14_i_0 (by simp)
  have hf_15_i_0 := hG.notin hf_15_i_0 (by simp)
  have hf_16_i_0 := hG.notin hf_16_i_0 (by simp)
  have hf_17_i_0 := hG.notin hf_17_i_0 (by simp)
  have hf_20_i_0 := hG.notin hf_20_i_0 (by simp)
  have hf_21_i_0 := hG.notin hf_21_i_0 (by simp)
  generalize hV9 : g_set V7 (18, i, 0) (.inr (5, [.null, .int 0, .int 0])) = V9 at hG
  have hv_11_i_0 : V9 (11, i, 0) = .inr (7, [.int p, .ref b5, .null, .null, .int 1, .int 0, .int 0]) := by rw [← hV9, g_set_ne (by simp)]; exact hv_11_i_0
  have hv_12_i_0 : V9 (12, i, 0) = .inl (cy 3, 1, .inr (.inr (.inr (.inr (fun _ => none))))) := by rw [← hV9, g_set_ne (by simp)]; exact hv_12_i_0
  have hv_18_i_0 : V9 (18, i, 0) = .inr (5, [.null, .int 0, .int 0]) := by rw [← hV9, g_set_self]
  have hVo : ∀ y, y ≠ (11, i, 0) ∧ y ≠ (12, i, 0) ∧ y ≠ (18, i, 0) ∧ y ≠ (19, i, 0) ∧ y ≠ (13, i, 0) ∧ y ≠ (14, i, 0) ∧ y ≠ (15, i, 0) ∧ y ≠ (16, i, 0) ∧ y ≠ (17, i, 0) ∧ y ≠ (20, i, 0) ∧ y ≠ (21, i, 0) → V9 y = V y := fun y hy => by rw [← hV9, g_set_ne (fun q => hy.2.2.1 q)]; first | done | exact hVo y hy
  refine lv_dup hx hb dX5_init_61 rfl ?_
  have hz0 := hS.1
  refine h_cont (va_runIN (As := []) (rest := [.ref b8, .int 0, .ref b5]) ⟨hx, hb, hml, hown, hts⟩ (k_X3_init l D cy _ L8 V9 H.size i 0 b8 e_18_i_0 hd_18_i_0 hv_18_i_0 hf_19_i_0) ⟨va_cnB 0 hts (g_good cwd_X3_init) rfl rfl rfl hN.2.1.2.1 (hts _ ini_X3) (by decide +kernel) ⟨Nat.le_of_ble_eq_true rfl, Nat.le_of_ble_eq_true rfl⟩, rfl, hts _ im_X3_init⟩ (h_pre hK hN hG) rfl rfl hl.1 rfl (lv_room (Nat.le_of_ble_eq_true rfl)) dX5_init_62 ⟨Nat.le_of_ble_eq_true rfl, Nat.le_of_ble_eq_true rfl⟩) hS (fun q hq => hq.elim (fun e9 => by rw [e9]; exact (hAn _ ha8)) (fun h9 => hAn q (Nat.le_trans hS.1 h9))) (fun L10 H locs hL9 hn9 hG hS hz9 o9 => ?_)
  refine W.eq (g2 := F0 m 65 ls [.ref b8, .int 0, .ref b5]) rfl ?_
  have hs_12_i_0 : s.heap.size ≤ L10 (12, i, 0) := by rw [hL9 _ hd_12_i_0]; exact hs_12_i_0
  have hs_18_i_0 : s.heap.size ≤ L10 (18, i, 0) := by rw [hL9 _ hd_18_i_0]; exact hs_18_i_0
  have hs_19_i_0 : s.heap.size ≤ L10 (19, i, 0) := Nat.le_trans hz0 ((hn9 (19, i, 0) (Or.inr (by simp))).resolve_left hf_19_i_0)
  have e_11_i_0 := (hL9 _ hd_11_i_0).trans e_11_i_0
  have e_12_i_0 := (hL9 _ hd_12_i_0).trans e_12_i_0
  have e_18_i_0 := (hL9 _ hd_18_i_0).trans e_18_i_0
  have hLL := fun y (hy : dom y) => (hL9 y (hdd y hy)).trans (hLL y hy)
  have hdd := fun y (hy : dom y) => hG.uL (hdd y hy)
  have hd_11_i_0 := hG.uL hd_11_i_0
  have hd_12_i_0 := hG.uL hd_12_i_0
  have hd_18_i_0 := hG.uL hd_18_i_0
  have hd_19_i_0 := hG.uR (y := (19, i, 0)) (by simp)
  have e_19_i_0 : L10 (19, i, 0) = L10 (19, i, 0) := rfl
  have hf_13_i_0 := hG.uN hf_13_i_0 (by simp)
  have hf_14_i_0 := hG.uN hf_14_i_0 (by simp)
  have hf_15_i_0 := hG.uN hf_15_i_0 (by simp)
  have hf_16_i_0 := hG.uN hf_16_i_0 (by simp)
  have hf_17_i_0 := hG.uN hf_17_i_0 (by simp)
  have hf_20_i_0 := hG.uN hf_20_i_0 (by simp)
  have hf_21_i_0 := hG.uN hf_21_i_0 (by simp)
  have hG : g_H D vwCl _ L10 (fun x => if x = (18, i, 0) then .inr (5, [.ref (L10 (19, i, 0)), .int 0, .int 0]) else if x = (19, i, 0) then .inl (cy 0, 100, .inl (fun _ => 0)) else V9 x) H := hG
  generalize hV11 : (fun x => if x = (18, i, 0) then .inr (5, [.ref (L10 (19, i, 0)), .int 0, .int 0]) else if x = (19, i, 0) then .inl (cy 0, 100, .inl (fun _ => 0)) else V9 x) = V11 at hG
  have hv_11_i_0 : V11 (11, i, 0) = .inr (7, [.int p, .ref b5, .null, .null, .int 1, .int 0, .int 0]) := by rw [← hV11]; exact (if_neg (by simp)).trans ((if_neg (by simp)).trans (hv_11_i_0))
  have hv_12_i_0 : V11 (12, i, 0) = .inl (cy 3, 1, .inr (.inr (.inr (.inr (fun _ => none))))) := by rw [← hV11]; exact (if_neg (by simp)).trans ((if_neg (by simp)).trans (hv_12_i_0))
  have hv_18_i_0 : V11 (18, i, 0) = .inr (5, [.ref (L10 (19, i, 0)), .int 0, .int 0]) := by rw [← hV11]; exact if_pos rfl
  have hv_19_i_0 : V11 (19, i, 0) = .inl (cy 0, 100, .inl (fun _ => 0)) := by rw [← hV11]; exact (if_neg (by simp)).trans (if_pos rfl)
  have hVo : ∀ y, y ≠ (11, i, 0) ∧ y ≠ (12, i, 0) ∧ y ≠ (18, i, 0) ∧ y ≠ (19, i, 0) ∧ y ≠ (13, i, 0) ∧ y ≠ (14, i, 0) ∧ y ≠ (15, i, 0) ∧ y ≠ (16, i, 0) ∧ y ≠ (17, i, 0) ∧ y ≠ (20, i, 0) ∧ y ≠ (21, i, 0) → V11 y = V y := fun y hy => by rw [← hV11]; exact (if_neg (fun q => by subst q; simp at hy)).trans ((if_neg (fun q => by subst q; simp at hy)).trans (hVo y hy))
  refine h_astq hx hb hK hG hS (12, i, 0) hd_12_i_0 e_12_i_0 (hAn _ ha5) 3 5 (r := (RX3, TX3, 3)) hv_12_i_0 rfl (18, i, 0) hd_18_i_0 e_18_i_0 hv_18_i_0 rfl (g_vp (by decide) (by decide)) dX5_init_65 (fun H locs hG hS => ?_)
  have hG : g_H D vwCl _ L10 (g_set V11 (12, i, 0) (.inl (cy 3, 1, .inr (.inr (.inr (.inr (va_up (fun _ => none) 0 (some b8)))))))) H := hG
  generalize hV12 : g_set V11 (12, i, 0) (.inl (cy 3, 1, .inr (.inr (.inr (.inr (va_up (fun _ => none) 0 (some b8))))))) = V12 at hG
  have hv_11_i_0 : V12 (11, i, 0) = .inr (7, [.int p, .ref b5, .null, .null, .int 1, .int 0, .int 0]) := by rw [← hV12, g_set_ne (by simp)]; exact hv_11_i_0
  have hv_18_i_0 : V12 (18, i, 0) = .inr (5, [.ref (L10 (19, i, 0)), .int 0, .int 0]) := by rw [← hV12, g_set_ne (by simp)]; exact hv_18_i_0
  have hv_19_i_0 : V12 (19, i, 0) = .inl (cy 0, 100, .inl (fun _ => 0)) := by rw [← hV12, g_set_ne (by simp)]; exact hv_19_i_0
  have hv_12_i_0 : V12 (12, i, 0) = .inl (cy 3, 1, .inr (.inr (.inr (.inr (va_up (fun _ => none) 0 (some b8)))))) := by rw [← hV12, g_set_self]
  have hVo : ∀ y, y ≠ (11, i, 0) ∧ y ≠ (12, i, 0) ∧ y ≠ (18, i, 0) ∧ y ≠ (19, i, 0) ∧ y ≠ (13, i, 0) ∧ y ≠ (14, i, 0) ∧ y ≠ (15, i, 0) ∧ y ≠ (16, i, 0) ∧ y ≠ (17, i, 0) ∧ y ≠ (20, i, 0) ∧ y ≠ (21, i, 0) → V12 y = V y := fun y hy => by rw [← hV12, g_set_ne (fun q => hy.2.1 q)]; first | done | exact hVo y hy
  refine lv_iinc (v := 1) (lv' := [(3, .int 1), (0, .ref a0), (1, .int p), (2, .int q)]) hx hb dX5_init_66 hl (k := 0) rfl (by decide) (by decide) rfl (fun ls hl => ?_)
  refine lv_goto (tgt := 44) hx hb dX5_init_69 (by decide) ?_
  refine lv_iload_n hx hb dX5_init_44 rfl (lv_at hl 0 rfl) ?_
  refine lv_aload_n hx hb dX5_init_45 rfl (lv_at hl 1 rfl) ?_
  refine h_get (C := RX5) (T := TX5) (N := 7) (ci := 7) (v := .ref b5) hx hb hts inX5g hown hK hG (11, i, 0) hd_11_i_0 e_11_i_0 hv_11_i_0 rfl 1 (by decide) fl_X5_27 rfl dX5_init_46 ?_
  refine h_alen (v := 1) hx hb hK hG (12, i, 0) hd_12_i_0 e_12_i_0 3 hv_12_i_0 rfl rfl dX5_init_49 ?_
  refine kz_icmp_ge (X := 1) (Y := 1) hx hb (by decide) (by decide) dX5_init_50 (tgt := 72) (by decide) (fun c50 => ?_) (fun c50 => absurd c50 (by decide))
  refine lv_aload_n hx hb dX5_init_72 rfl (lv_at hl 1 rfl) ?_
  refine h_newo (C := RX0) (T := TX0) (N := 6) (ci := 2) (fs := [.int 0, .null, .null, .null, .int 0, .int 0]) hx hb hts inX0g tyX0_ok hown cl_X5_32 ins_X0 ini_X0 hK hG hS (13, i, 0) hf_13_i_0 rfl (fun j hj => by rcases (show j = 0 ∨ j = 1 ∨ j = 2 ∨ j = 3 ∨ j = 4 ∨ j = 5 by omega) with rfl | rfl | rfl | rfl | rfl | rfl <;> rfl) (Nat.le_of_ble_eq_true rfl) (Nat.le_of_ble_eq_true rfl) dX5_init_73 (fun L13 b13 H hL9 e_13_i_0 ha13 hG hS hz9 o9 => ?_)
  have hs_12_i_0 : s.heap.size ≤ L13 (12, i, 0) := by rw [hL9 _ hd_12_i_0]; exact hs_12_i_0
  have hs_18_i_0 : s.heap.size ≤ L13 (18, i, 0) := by rw [hL9 _ hd_18_i_0]; exact hs_18_i_0
  have hs_19_i_0 : s.heap.size ≤ L13 (19, i, 0) := by rw [hL9 _ hd_19_i_0]; exact hs_19_i_0
  have hs_13_i_0 : s.heap.size ≤ L13 (13, i, 0) := by rw [e_13_i_0]; exact ha13
  have e_11_i_0 := (hL9 _ hd_11_i_0).trans e_11_i_0
  have e_12_i_0 := (hL9 _ hd_12_i_0).trans e_12_i_0
  have e_18_i_0 := (hL9 _ hd_18_i_0).trans e_18_i_0
  have e_19_i_0 := (hL9 _ hd_19_i_0).trans e_19_i_0
  have hLL := fun y (hy : dom y) => (hL9 y (hdd y hy)).trans (hLL y hy)
  have hdd := fun y (hy : dom y) => hG.inO (hdd y hy)
  have hd_11_i_0 := hG.inO hd_11_i_0
  have hd_12_i_0 := hG.inO hd_12_i_0
  have hd_18_i_0 := hG.inO hd_18_i_0
  have hd_19_i_0 := hG.inO hd_19_i_0
  have hd_13_i_0 := hG.inX
  have hf_14_i_0 := hG.notin hf_14_i_0 (by simp)
  have hf_15_i_0 := hG.notin hf_15_i_0 (by simp)
  have hf_16_i_0 := hG.notin hf_16_i_0 (by simp)
  have hf_17_i_0 := hG.notin hf_17_i_0 (by simp)
  have hf_20_i_0 := hG.notin hf_20_i_0 (by simp)
  have hf_21_i_0 := hG.notin hf_21_i_0 (by simp)
  generalize hV14 : g_set V12 (13, i, 0) (.inr (2, [.int 0, .null, .null, .null, .int 0, .int 0])) = V14 at hG
  have hv_11_i_0 : V14 (11, i, 0) = .inr (7, [.int p, .ref b5, .null, .null, .int 1, .int 0, .int 0]) := by rw [← hV14, g_set_ne (by simp)]; exact hv_11_i_0
  have hv_12_i_0 : V14 (12, i, 0) = .inl (cy 3, 1, .inr (.inr (.inr (.inr (va_up (fun _ => none) 0 (some b8)))))) := by rw [← hV14, g_set_ne (by simp)]; exact hv_12_i_0
  have hv_18_i_0 : V14 (18, i, 0) = .inr (5, [.ref (L10 (19, i, 0)), .int 0, .int 0]) := by rw [← hV14, g_set_ne (by simp)]; exact hv_18_i_0
  have hv_19_i_0 : V14 (19, i, 0) = .inl (cy 0, 100, .inl (fun _ => 0)) := by rw [← hV14, g_set_ne (by simp)]; exact hv_19_i_0
  have hv_13_i_0 : V14 (13, i, 0) = .inr (2, [.int 0, .null, .null, .null, .int 0, .int 0]) := by rw [← hV14, g_set_self]
  have hVo : ∀ y, y ≠ (11, i, 0) ∧ y ≠ (12, i, 0) ∧ y ≠ (18, i, 0) ∧ y ≠ (19, i, 0) ∧ y ≠ (13, i, 0) ∧ y ≠ (14, i, 0) ∧ y ≠ (15, i, 0) ∧ y ≠ (16, i, 0) ∧ y ≠ (17, i, 0) ∧ y ≠ (20, i, 0) ∧ y ≠ (21, i, 0) → V14 y = V y := fun y hy => by rw [← hV14, g_set_ne (fun q => hy.2.2.2.2.1 q)]; first | done | exact hVo y hy
  refine lv_dup hx hb dX5_init_76 rfl ?_
  refine lv_iload_n hx hb dX5_init_77 rfl (lv_at hl 3 rfl) ?_
  have hz0 := hS.1
  refine h_cont (va_runI (As := [.int q]) (rest := [.ref b13, .ref a0]) ⟨hx, hb, hml, hown, hts⟩ (k_X0_init l D cy _ L13 V14 H.size i q b13 e_13_i_0 hd_13_i_0 hv_13_i_0 hf_14_i_0 hf_15_i_0 hf_16_i_0) (cwI 1 hts (g_good cwd_X0_init) rfl rfl rfl (hts _ ini_X0) (hts _ ml_X5_34) (hts _ im_X0_init) rfl (by decide +kernel) ⟨Nat.le_of_ble_eq_true rfl, Nat.le_of_ble_eq_true rfl⟩) (h_pre hK hN hG) rfl rfl hl.1 rfl (lv_room (Nat.le_of_ble_eq_true rfl)) dX5_init_78 ⟨Nat.le_of_ble_eq_true rfl, Nat.le_of_ble_eq_true rfl⟩) hS (fun q hq => hq.elim (fun e9 => by rw [e9]; exact (hAn _ ha13)) (fun h9 => hAn q (Nat.le_trans hS.1 h9))) (fun L15 H locs hL9 hn9 hG hS hz9 o9 => ?_)
  refine W.eq (g2 := F0 m 81 ls [.ref b13, .ref a0]) rfl ?_
  have hs_12_i_0 : s.heap.size ≤ L15 (12, i, 0) := by rw [hL9 _ hd_12_i_0]; exact hs_12_i_0
  have hs_18_i_0 : s.heap.size ≤ L15 (18, i, 0) := by rw [hL9 _ hd_18_i_0]; exact hs_18_i_0
  have hs_19_i_0 : s.heap.size ≤ L15 (19, i, 0) := by rw [hL9 _ hd_19_i_0]; exact hs_19_i_0
  have hs_13_i_0 : s.heap.size ≤ L15 (13, i, 0) := by rw [hL9 _ hd_13_i_0]; exact hs_13_i_0
  have hs_14_i_0 : s.heap.size ≤ L15 (14, i, 0) := Nat.le_trans hz0 ((hn9 (14, i, 0) (Or.inr (by simp))).resolve_left hf_14_i_0)
  have hs_15_i_0 : s.heap.size ≤ L15 (15, i, 0) := Nat.le_trans hz0 ((hn9 (15, i, 0) (Or.inr (by simp))).resolve_left hf_15_i_0)
  have hs_16_i_0 : s.heap.size ≤ L15 (16, i, 0) := Nat.le_trans hz0 ((hn9 (16, i, 0) (Or.inr (by simp))).resolve_left hf_16_i_0)
  have e_11_i_0 := (hL9 _ hd_11_i_0).trans e_11_i_0
  have e_12_i_0 := (hL9 _ hd_12_i_0).trans e_12_i_0
  have e_18_i_0 := (hL9 _ hd_18_i_0).trans e_18_i_0
  have e_19_i_0 := (hL9 _ hd_19_i_0).trans e_19_i_0
  have e_13_i_0 := (hL9 _ hd_13_i_0).trans e_13_i_0
  have hLL := fun y (hy : dom y) => (hL9 y (hdd y hy)).trans (hLL y hy)
  have hdd := fun y (hy : dom y) => hG.uL (hdd y hy)
  have hd_11_i_0 := hG.uL hd_11_i_0
  have hd_12_i_0 := hG.uL hd_12_i_0
  have hd_18_i_0 := hG.uL hd_18_i_0
  have hd_19_i_0 := hG.uL hd_19_i_0
  have hd_13_i_0 := hG.uL hd_13_i_0
  have hd_14_i_0 := hG.uR (y := (14, i, 0)) (by simp)
  have e_14_i_0 : L15 (14, i, 0) = L15 (14, i, 0) := rfl
  have hd_15_i_0 := hG.uR (y := (15, i, 0)) (by simp)
  have e_15_i_0 : L15 (15, i, 0) = L15 (15, i, 0) := rfl
  have hd_16_i_0 := hG.uR (y := (16, i, 0)) (by simp)
  have e_16_i_0 : L15 (16, i, 0) = L15 (16, i, 0) := rfl
  have hf_17_i_0 := hG.uN hf_17_i_0 (by simp)
  have hf_20_i_0 := hG.uN hf_20_i_0 (by simp)
  have hf_21_i_0 := hG.uN hf_21_i_0 (by simp)
  have hG : g_H D vwCl _ L15 (fun x => if x = (13, i, 0) then .inr (2, [.int q, .ref (L15 (14, i, 0)), .ref (L15 (15, i, 0)), .ref (L15 (16, i, 0)), .int 0, .int 0]) else if x = (14, i, 0) then .inl (cy 0, 100, .inl (fun _ => 0)) else if x = (15, i, 0) then .inl (cy 0, 100, .inl (fun _ => 0)) else if x = (16, i, 0) then .inl (cy 0, 100, .inl (fun _ => 0)) else V14 x) H := hG
  generalize hV16 : (fun x => if x = (13, i, 0) then .inr (2, [.int q, .ref (L15 (14, i, 0)), .ref (L15 (15, i, 0)), .ref (L15 (16, i, 0)), .int 0, .int 0]) else if x = (14, i, 0) then .inl (cy 0, 100, .inl (fun _ => 0)) else if x = (15, i, 0) then .inl (cy 0, 100, .inl (fun _ => 0)) else if x = (16, i, 0) then .inl (cy 0, 100, .inl (fun _ => 0)) else V14 x) = V16 at hG
  have hv_11_i_0 : V16 (11, i, 0) = .inr (7, [.int p, .ref b5, .null, .null, .int 1, .int 0, .int 0]) := by rw [← hV16]; exact (if_neg (by simp)).trans ((if_neg (by simp)).trans ((if_neg (by simp)).trans ((if_neg (by simp)).trans (hv_11_i_0))))
  have hv_12_i_0 : V16 (12, i, 0) = .inl (cy 3, 1, .inr (.inr (.inr (.inr (va_up (fun _ => none) 0 (some b8)))))) := by rw [← hV16]; exact (if_neg (by simp)).trans ((if_neg (by simp)).trans ((if_neg (by simp)).trans ((if_neg (by simp)).trans (hv_12_i_0))))
  have hv_18_i_0 : V16 (18, i, 0) = .inr (5, [.ref (L10 (19, i, 0)), .int 0, .int 0]) := by rw [← hV16]; exact (if_neg (by simp)).trans ((if_neg (by simp)).trans ((if_neg (by simp)).trans ((if_neg (by simp)).trans (hv_18_i_0))))
  have hv_19_i_0 : V16 (19, i, 0) = .inl (cy 0, 100, .inl (fun _ => 0)) := by rw [← hV16]; exact (if_neg (by simp)).trans ((if_neg (by simp)).trans ((if_neg (by simp)).trans ((if_neg (by simp)).trans (hv_19_i_0))))
  have hv_13_i_0 : V16 (13, i, 0) = .inr (2, [.int q, .ref (L15 (14, i, 0)), .ref (L15 (15, i, 0)), .ref (L15 (16, i, 0)), .int 0, .int 0]) := by rw [← hV16]; exact if_pos rfl
  have hv_14_i_0 : V16 (14, i, 0) = .inl (cy 0, 100, .inl (fun _ => 0)) := by rw [← hV16]; exact (if_neg (by simp)).trans (if_pos rfl)
  have hv_15_i_0 : V16 (15, i, 0) = .inl (cy 0, 100, .inl (fun _ => 0)) := by rw [← hV16]; exact (if_neg (by simp)).trans ((if_neg (by simp)).trans (if_pos rfl))
  have hv_16_i_0 : V16 (16, i, 0) = .inl (cy 0, 100, .inl (fun _ => 0)) := by rw [← hV16]; exact (if_neg (by simp)).trans ((if_neg (by simp)).trans ((if_neg (by simp)).trans (if_pos rfl)))
  have hVo : ∀ y, y ≠ (11, i, 0) ∧ y ≠ (12, i, 0) ∧ y ≠ (18, i, 0) ∧ y ≠ (19, i, 0) ∧ y ≠ (13, i, 0) ∧ y ≠ (14, i, 0) ∧ y ≠ (15, i, 0) ∧ y ≠ (16, i, 0) ∧ y ≠ (17, i, 0) ∧ y ≠ (20, i, 0) ∧ y ≠ (21, i, 0) → V16 y = V y := fun y hy => by rw [← hV16]; exact (if_neg (fun q => by subst q; simp at hy)).trans ((if_neg (fun q => by subst q; simp at hy)).trans ((if_neg (fun q => by subst q; simp at hy)).trans ((if_neg (fun q => by subst q; simp at hy)).trans (hVo y hy))))
  refine h_putF (C := RX5) (T := TX5) (N := 7) (ci := 7) (ty := (tyX5 2)) hx hb hts inX5g tyX5_ok nmX5 hown hK hG hS (11, i, 0) hd_11_i_0 e_11_i_0 hAa hv_11_i_0 rfl 2 (by decide) fl_X5_37 rfl hin2 rfl (by decide +kernel) rfl rfl (Nat.le_of_ble_eq_true rfl) dX5_init_81 (fun H locs hG hS => ?_)
  have hG : g_H D vwCl _ L15 (g_set V16 (11, i, 0) (.inr (7, [.int p, .ref b5, .ref b13, .null, .int 1, .int 0, .int 0]))) H := hG
  generalize hV17 : g_set V16 (11, i, 0) (.inr (7, [.int p, .ref b5, .ref b13, .null, .int 1, .int 0, .int 0])) = V17 at hG
  have hv_12_i_0 : V17 (12, i, 0) = .inl (cy 3, 1, .inr (.inr (.inr (.inr (va_up (fun _ => none) 0 (some b8)))))) := by rw [← hV17, g_set_ne (by simp)]; exact hv_12_i_0
  have hv_18_i_0 : V17 (18, i, 0) = .inr (5, [.ref (L10 (19, i, 0)), .int 0, .int 0]) := by rw [← hV17, g_set_ne (by simp)]; exact hv_18_i_0
  have hv_19_i_0 : V17 (19, i, 0) = .inl (cy 0, 100, .inl (fun _ => 0)) := by rw [← hV17, g_set_ne (by simp)]; exact hv_19_i_0
  have hv_13_i_0 : V17 (13, i, 0) = .inr (2, [.int q, .ref (L15 (14, i, 0)), .ref (L15 (15, i, 0)), .ref (L15 (16, i, 0)), .int 0, .int 0]) := by rw [← hV17, g_set_ne (by simp)]; exact hv_13_i_0
  have hv_14_i_0 : V17 (14, i, 0) = .inl (cy 0, 100, .inl (fun _ => 0)) := by rw [← hV17, g_set_ne (by simp)]; exact hv_14_i_0
  have hv_15_i_0 : V17 (15, i, 0) = .inl (cy 0, 100, .inl (fun _ => 0)) := by rw [← hV17, g_set_ne (by simp)]; exact hv_15_i_0
  have hv_16_i_0 : V17 (16, i, 0) = .inl (cy 0, 100, .inl (fun _ => 0)) := by rw [← hV17, g_set_ne (by simp)]; exact hv_16_i_0
  have hv_11_i_0 : V17 (11, i, 0) = .inr (7, [.int p, .ref b5, .ref b13, .null, .int 1, .int 0, .int 0]) := by rw [← hV17, g_set_self]
  have hVo : ∀ y, y ≠ (11, i, 0) ∧ y ≠ (12, i, 0) ∧ y ≠ (18, i, 0) ∧ y ≠ (19, i, 0) ∧ y ≠ (13, i, 0) ∧ y ≠ (14, i, 0) ∧ y ≠ (15, i, 0) ∧ y ≠ (16, i, 0) ∧ y ≠ (17, i, 0) ∧ y ≠ (20, i, 0) ∧ y ≠ (21, i, 0) → V17 y = V y := fun y hy => by rw [← hV17, g_set_ne (fun q => hy.1 q)]; first | done | exact hVo y hy
  refine lv_aload_n hx hb dX5_init_84 rfl (lv_at hl 1 rfl) ?_
  refine h_newo (C := RX4) (T := TX4) (N := 3) (ci := 6) (fs := [.null, .null, .int 0]) hx hb hts inX4g tyX4_ok hown cl_X5_41 ins_X4 ini_X4 hK hG hS (17, i, 0) hf_17_i_0 rfl (fun j hj => by rcases (show j = 0 ∨ j = 1 ∨ j = 2 by omega) with rfl | rfl | rfl <;> rfl) (Nat.le_of_ble_eq_true rfl) (Nat.le_of_ble_eq_true rfl) dX5_init_85 (fun L18 b18 H hL9 e_17_i_0 ha18 hG hS hz9 o9 => ?_)
  have hs_12_i_0 : s.heap.size ≤ L18 (12, i, 0) := by rw [hL9 _ hd_12_i_0]; exact hs_12_i_0
  have hs_18_i_0 : s.heap.size ≤ L18 (18, i, 0) := by rw [hL9 _ hd_18_i_0]; exact hs_18_i_0
  have hs_19_i_0 : s.heap.size ≤ L18 (19, i, 0) := by rw [hL9 _ hd_19_i_0]; exact hs_19_i_0
  have hs_13_i_0 : s.heap.size ≤ L18 (13, i, 0) := by rw [hL9 _ hd_13_i_0]; exact hs_13_i_0
  have hs_14_i_0 : s.heap.size ≤ L18 (14, i, 0) := by rw [hL9 _ hd_14_i_0]; exact hs_14_i_0
  have hs_15_i_0 : s.heap.size ≤ L18 (15, i, 0) := by rw [hL9 _ hd_15_i_0]; exact hs_15_i_0
  have hs_16_i_0 : s.heap.size ≤ L18 (16, i, 0) := by rw [hL9 _ hd_16_i_0]; exact hs_16_i_0
  have hs_17_i_0 : s.heap.size ≤ L18 (17, i, 0) := by rw [e_17_i_0]; exact ha18
  have e_11_i_0 := (hL9 _ hd_11_i_0).trans e_11_i_0
  have e_12_i_0 := (hL9 _ hd_12_i_0).trans e_12_i_0
  have e_18_i_0 := (hL9 _ hd_18_i_0).trans e_18_i_0
  have e_19_i_0 := (hL9 _ hd_19_i_0).trans e_19_i_0
  have e_13_i_0 := (hL9 _ hd_13_i_0).trans e_13_i_0
  have e_14_i_0 := (hL9 _ hd_14_i_0).trans e_14_i_0
  have e_15_i_0 := (hL9 _ hd_15_i_0).trans e_15_i_0
  have e_16_i_0 := (hL9 _ hd_16_i_0).trans e_16_i_0
  have hLL := fun y (hy : dom y) => (hL9 y (hdd y hy)).trans (hLL y hy)
  have hdd := fun y (hy : dom y) => hG.inO (hdd y hy)
  have hd_11_i_0 := hG.inO hd_11_i_0
  have hd_12_i_0 := hG.inO hd_12_i_0
  have hd_18_i_0 := hG.inO hd_18_i_0
  have hd_19_i_0 := hG.inO hd_19_i_0
  have hd_13_i_0 := hG.inO hd_13_i_0
  have hd_14_i_0 := hG.inO hd_14_i_0
  have hd_15_i_0 := hG.inO hd_15_i_0
  have hd_16_i_0 := hG.inO hd_16_i_0
  have hd_17_i_0 := hG.inX
  have hf_20_i_0 := hG.notin hf_20_i_0 (by simp)
  have hf_21_i_0 := hG.notin hf_21_i_0 (by simp)
  generalize hV19 : g_set V17 (17, i, 0) (.inr (6, [.null, .null, .int 0])) = V19 at hG
  have hv_11_i_0 : V19 (11, i, 0) = .inr (7, [.int p, .ref b5, .ref b13, .null, .int 1, .int 0, .int 0]) := by rw [← hV19, g_set_ne (by simp)]; exact hv_11_i_0
  have hv_12_i_0 : V19 (12, i, 0) = .inl (cy 3, 1, .inr (.inr (.inr (.inr (va_up (fun _ => none) 0 (some b8)))))) := by rw [← hV19, g_set_ne (by simp)]; exact hv_12_i_0
  have hv_18_i_0 : V19 (18, i, 0) = .inr (5, [.ref (L10 (19, i, 0)), .int 0, .int 0]) := by rw [← hV19, g_set_ne (by simp)]; exact hv_18_i_0
  have hv_19_i_0 : V19 (19, i, 0) = .inl (cy 0, 100, .inl (fun _ => 0)) := by rw [← hV19, g_set_ne (by simp)]; exact hv_19_i_0
  have hv_13_i_0 : V19 (13, i, 0) = .inr (2, [.int q, .ref (L15 (14, i, 0)), .ref (L15 (15, i, 0)), .ref (L15 (16, i, 0)), .int 0, .int 0]) := by rw [← hV19, g_set_ne (by simp)]; exact hv_13_i_0
  have hv_14_i_0 : V19 (14, i, 0) = .inl (cy 0, 100, .inl (fun _ => 0)) := by rw [← hV19, g_set_ne (by simp)]; exact hv_14_i_0
  have hv_15_i_0 : V19 (15, i, 0) = .inl (cy 0, 100, .inl (fun _ => 0)) := by rw [← hV19, g_set_ne (by simp)]; exact hv_15_i_0
  have hv_16_i_0 : V19 (16, i, 0) = .inl (cy 0, 100, .inl (fun _ => 0)) := by rw [← hV19, g_set_ne (by simp)]; exact hv_16_i_0
  have hv_17_i_0 : V19 (17, i, 0) = .inr (6, [.null, .null, .int 0]) := by rw [← hV19, g_set_self]
  have hVo : ∀ y, y ≠ (11, i, 0) ∧ y ≠ (12, i, 0) ∧ y ≠ (18, i, 0) ∧ y ≠ (19, i, 0) ∧ y ≠ (13, i, 0) ∧ y ≠ (14, i, 0) ∧ y ≠ (15, i, 0) ∧ y ≠ (16, i, 0) ∧ y ≠ (17, i, 0) ∧ y ≠ (20, i, 0) ∧ y ≠ (21, i, 0) → V19 y = V y := fun y hy => by rw [← hV19, g_set_ne (fun q => hy.2.2.2.2.2.2.2.2.1 q)]; first | done | exact hVo y hy
  refine lv_dup hx hb dX5_init_88 rfl ?_
  have hz0 := hS.1
  refine h_cont (va_runIN (As := []) (rest := [.ref b18, .ref a0]) ⟨hx, hb, hml, hown, hts⟩ (k_X4_init l D cy _ L18 V19 H.size i b18 e_17_i_0 hd_17_i_0 hv_17_i_0 hf_20_i_0 hf_21_i_0) ⟨va_cnB 0 hts (g_good cwd_X4_init) rfl rfl rfl hN.2.1.2.2 (hts _ ini_X4) (by decide +kernel) ⟨Nat.le_of_ble_eq_true rfl, Nat.le_of_ble_eq_true rfl⟩, rfl, hts _ im_X4_init⟩ (h_pre hK hN hG) rfl rfl hl.1 rfl (lv_room (Nat.le_of_ble_eq_true rfl)) dX5_init_89 ⟨Nat.le_of_ble_eq_true rfl, Nat.le_of_ble_eq_true rfl⟩) hS (fun q hq => hq.elim (fun e9 => by rw [e9]; exact (hAn _ ha18)) (fun h9 => hAn q (Nat.le_trans hS.1 h9))) (fun L20 H locs hL9 hn9 hG hS hz9 o9 => ?_)
  refine W.eq (g2 := F0 m 92 ls [.ref b18, .ref a0]) rfl ?_
  have hs_12_i_0 : s.heap.size ≤ L20 (12, i, 0) := by rw [hL9 _ hd_12_i_0]; exact hs_12_i_0
  have hs_18_i_0 : s.heap.size ≤ L20 (18, i, 0) := by rw [hL9 _ hd_18_i_0]; exact hs_18_i_0
  have hs_19_i_0 : s.heap.size ≤ L20 (19, i, 0) := by rw [hL9 _ hd_19_i_0]; exact hs_19_i_0
  have hs_13_i_0 : s.heap.size ≤ L20 (13, i, 0) := by rw [hL9 _ hd_13_i_0]; exact hs_13_i_0
  have hs_14_i_0 : s.heap.size ≤ L20 (14, i, 0) := by rw [hL9 _ hd_14_i_0]; exact hs_14_i_0
  have hs_15_i_0 : s.heap.size ≤ L20 (15, i, 0) := by rw [hL9 _ hd_15_i_0]; exact hs_15_i_0
  have hs_16_i_0 : s.heap.size ≤ L20 (16, i, 0) := by rw [hL9 _ hd_16_i_0]; exact hs_16_i_0
  have hs_17_i_0 : s.heap.size ≤ L20 (17, i, 0) := by rw [hL9 _ hd_17_i_0]; exact hs_17_i_0
  have hs_20_i_0 : s.heap.size ≤ L20 (20, i, 0) := Nat.le_trans hz0 ((hn9 (20, i, 0) (Or.inr (by simp))).resolve_left hf_20_i_0)
  have hs_21_i_0 : s.heap.size ≤ L20 (21, i, 0) := Nat.le_trans hz0 ((hn9 (21, i, 0) (Or.inr (by simp))).resolve_left hf_21_i_0)
  have e_11_i_0 := (hL9 _ hd_11_i_0).trans e_11_i_0
  have e_12_i_0 := (hL9 _ hd_12_i_0).trans e_12_i_0
  have e_18_i_0 := (hL9 _ hd_18_i_0).trans e_18_i_0
  have e_19_i_0 := (hL9 _ hd_19_i_0).trans e_19_i_0
  have e_13_i_0 := (hL9 _ hd_13_i_0).trans e_13_i_0
  have e_14_i_0 := (hL9 _ hd_14_i_0).trans e_14_i_0
  have e_15_i_0 := (hL9 _ hd_15_i_0).trans e_15_i_0
  have e_16_i_0 := (hL9 _ hd_16_i_0).trans e_16_i_0
  have e_17_i_0 := (hL9 _ hd_17_i_0).trans e_17_i_0
  have hLL := fun y (hy : dom y) => (hL9 y (hdd y hy)).trans (hLL y hy)
  have hdd := fun y (hy : dom y) => hG.uL (hdd y hy)
  have hd_11_i_0 := hG.uL hd_11_i_0
  have hd_12_i_0 := hG.uL hd_12_i_0
  have hd_18_i_0 := hG.uL hd_18_i_0
  have hd_19_i_0 := hG.uL hd_19_i_0
  have hd_13_i_0 := hG.uL hd_13_i_0
  have hd_14_i_0 := hG.uL hd_14_i_0
  have hd_15_i_0 := hG.uL hd_15_i_0
  have hd_16_i_0 := hG.uL hd_16_i_0
  have hd_17_i_0 := hG.uL hd_17_i_0
  have hd_20_i_0 := hG.uR (y := (20, i, 0)) (by simp)
  have e_20_i_0 : L20 (20, i, 0) = L20 (20, i, 0) := rfl
  have hd_21_i_0 := hG.uR (y := (21, i, 0)) (by simp)
  have e_21_i_0 : L20 (21, i, 0) = L20 (21, i, 0) := rfl
  have hG : g_H D vwCl _ L20 (fun x => if x = (17, i, 0) then .inr (6, [.ref (L20 (20, i, 0)), .ref (L20 (21, i, 0)), .int 0]) else if x = (20, i, 0) then .inl (cy 0, 20, .inl (fun _ => 0)) else if x = (21, i, 0) then .inl (cy 0, 20, .inl (fun _ => 0)) else V19 x) H := hG
  generalize hV21 : (fun x => if x = (17, i, 0) then .inr (6, [.ref (L20 (20, i, 0)), .ref (L20 (21, i, 0)), .int 0]) else if x = (20, i, 0) then .inl (cy 0, 20, .inl (fun _ => 0)) else if x = (21, i, 0) then .inl (cy 0, 20, .inl (fun _ => 0)) else V19 x) = V21 at hG
  have hv_11_i_0 : V21 (11, i, 0) = .inr (7, [.int p, .ref b5, .ref b13, .null, .int 1, .int 0, .int 0]) := by rw [← hV21]; exact (if_neg (by simp)).trans ((if_neg (by simp)).trans ((if_neg (by simp)).trans (hv_11_i_0)))
  have hv_12_i_0 : V21 (12, i, 0) = .inl (cy 3, 1, .inr (.inr (.inr (.inr (va_up (fun _ => none) 0 (some b8)))))) := by rw [← hV21]; exact (if_neg (by simp)).trans ((if_neg (by simp)).trans ((if_neg (by simp)).trans (hv_12_i_0)))
  have hv_18_i_0 : V21 (18, i, 0) = .inr (5, [.ref (L10 (19, i, 0)), .int 0, .int 0]) := by rw [← hV21]; exact (if_neg (by simp)).trans ((if_neg (by simp)).trans ((if_neg (by simp)).trans (hv_18_i_0)))
  have hv_19_i_0 : V21 (19, i, 0) = .inl (cy 0, 100, .inl (fun _ => 0)) := by rw [← hV21]; exact (if_neg (by simp)).trans ((if_neg (by simp)).trans ((if_neg (by simp)).trans (hv_19_i_0)))
  have hv_13_i_0 : V21 (13, i, 0) = .inr (2, [.int q, .ref (L15 (14, i, 0)), .ref (L15 (15, i, 0)), .ref (L15 (16, i, 0)), .int 0, .int 0]) := by rw [← hV21]; exact (if_neg (by simp)).trans ((if_neg (by simp)).trans ((if_neg (by simp)).trans (hv_13_i_0)))
  have hv_14_i_0 : V21 (14, i, 0) = .inl (cy 0, 100, .inl (fun _ => 0)) := by rw [← hV21]; exact (if_neg (by simp)).trans ((if_neg (by simp)).trans ((if_neg (by simp)).trans (hv_14_i_0)))
  have hv_15_i_0 : V21 (15, i, 0) = .inl (cy 0, 100, .inl (fun _ => 0)) := by rw [← hV21]; exact (if_neg (by simp)).trans ((if_neg (by simp)).trans ((if_neg (by simp)).trans (hv_15_i_0)))
  have hv_16_i_0 : V21 (16, i, 0) = .inl (cy 0, 100, .inl (fun _ => 0)) := by rw [← hV21]; exact (if_neg (by simp)).trans ((if_neg (by simp)).trans ((if_neg (by simp)).trans (hv_16_i_0)))
  have hv_17_i_0 : V21 (17, i, 0) = .inr (6, [.ref (L20 (20, i, 0)), .ref (L20 (21, i, 0)), .int 0]) := by rw [← hV21]; exact if_pos rfl
  have hv_20_i_0 : V21 (20, i, 0) = .inl (cy 0, 20, .inl (fun _ => 0)) := by rw [← hV21]; exact (if_neg (by simp)).trans (if_pos rfl)
  have hv_21_i_0 : V21 (21, i, 0) = .inl (cy 0, 20, .inl (fun _ => 0)) := by rw [← hV21]; exact (if_neg (by simp)).trans ((if_neg (by simp)).trans (if_pos rfl))
  have hVo : ∀ y, y ≠ (11, i, 0) ∧ y ≠ (12, i, 0) ∧ y ≠ (18, i, 0) ∧ y ≠ (19, i, 0) ∧ y ≠ (13, i, 0) ∧ y ≠ (14, i, 0) ∧ y ≠ (15, i, 0) ∧ y ≠ (16, i, 0) ∧ y ≠ (17, i, 0) ∧ y ≠ (20, i, 0) ∧ y ≠ (21, i, 0) → V21 y = V y := fun y hy => by rw [← hV21]; exact (if_neg (fun q => by subst q; simp at hy)).trans ((if_neg (fun q => by subst q; simp at hy)).trans ((if_neg (fun q => by subst q; simp at hy)).trans (hVo y hy)))
  refine h_putF (C := RX5) (T := TX5) (N := 7) (ci := 7) (ty := (tyX5 3)) hx hb hts inX5g tyX5_ok nmX5 hown hK hG hS (11, i, 0) hd_11_i_0 e_11_i_0 hAa hv_11_i_0 rfl 3 (by decide) fl_X5_44 rfl hin2 rfl (by decide +kernel) rfl rfl (Nat.le_of_ble_eq_true rfl) dX5_init_92 (fun H locs hG hS => ?_)
  have hG : g_H D vwCl _ L20 (g_set V21 (11, i, 0) (.inr (7, [.int p, .ref b5, .ref b13, .ref b18, .int 1, .int 0, .int 0]))) H := hG
  generalize hV22 : g_set V21 (11, i, 0) (.inr (7, [.int p, .ref b5, .ref b13, .ref b18, .int 1, .int 0, .int 0])) = V22 at hG
  have hv_12_i_0 : V22 (12, i, 0) = .inl (cy 3, 1, .inr (.inr (.inr (.inr (va_up (fun _ => none) 0 (some b8)))))) := by rw [← hV22, g_set_ne (by simp)]; exact hv_12_i_0
  have hv_18_i_0 : V22 (18, i, 0) = .inr (5, [.ref (L10 (19, i, 0)), .int 0, .int 0]) := by rw [← hV22, g_set_ne (by simp)]; exact hv_18_i_0
  have hv_19_i_0 : V22 (19, i, 0) = .inl (cy 0, 100, .inl (fun _ => 0)) := by rw [← hV22, g_set_ne (by simp)]; exact hv_19_i_0
  have hv_13_i_0 : V22 (13, i, 0) = .inr (2, [.int q, .ref (L15 (14, i, 0)), .ref (L15 (15, i, 0)), .ref (L15 (16, i, 0)), .int 0, .int 0]) := by rw [← hV22, g_set_ne (by simp)]; exact hv_13_i_0
  have hv_14_i_0 : V22 (14, i, 0) = .inl (cy 0, 100, .inl (fun _ => 0)) := by rw [← hV22, g_set_ne (by simp)]; exact hv_14_i_0
  have hv_15_i_0 : V22 (15, i, 0) = .inl (cy 0, 100, .inl (fun _ => 0)) := by rw [← hV22, g_set_ne (by simp)]; exact hv_15_i_0
  have hv_16_i_0 : V22 (16, i, 0) = .inl (cy 0, 100, .inl (fun _ => 0)) := by rw [← hV22, g_set_ne (by simp)]; exact hv_16_i_0
  have hv_17_i_0 : V22 (17, i, 0) = .inr (6, [.ref (L20 (20, i, 0)), .ref (L20 (21, i, 0)), .int 0]) := by rw [← hV22, g_set_ne (by simp)]; exact hv_17_i_0
  have hv_20_i_0 : V22 (20, i, 0) = .inl (cy 0, 20, .inl (fun _ => 0)) := by rw [← hV22, g_set_ne (by simp)]; exact hv_20_i_0
  have hv_21_i_0 : V22 (21, i, 0) = .inl (cy 0, 20, .inl (fun _ => 0)) := by rw [← hV22, g_set_ne (by simp)]; exact hv_21_i_0
  have hv_11_i_0 : V22 (11, i, 0) = .inr (7, [.int p, .ref b5, .ref b13, .ref b18, .int 1, .int 0, .int 0]) := by rw [← hV22, g_set_self]
  have hVo : ∀ y, y ≠ (11, i, 0) ∧ y ≠ (12, i, 0) ∧ y ≠ (18, i, 0) ∧ y ≠ (19, i, 0) ∧ y ≠ (13, i, 0) ∧ y ≠ (14, i, 0) ∧ y ≠ (15, i, 0) ∧ y ≠ (16, i, 0) ∧ y ≠ (17, i, 0) ∧ y ≠ (20, i, 0) ∧ y ≠ (21, i, 0) → V22 y = V y := fun y hy => by rw [← hV22, g_set_ne (fun q => hy.1 q)]; first | done | exact hVo y hy
  have hnw : ∀ y, (dom y ∨ y = (12, i, 0) ∨ y = (18, i, 0) ∨ y = (19, i, 0) ∨ y = (13, i, 0) ∨ y = (14, i, 0) ∨ y = (15, i, 0) ∨ y = (16, i, 0) ∨ y = (17, i, 0) ∨ y = (20, i, 0) ∨ y = (21, i, 0)) → dom y ∨ s.heap.size ≤ L20 y := by
    intro y h
    rcases h with h | rfl | rfl | rfl | rfl | rfl | rfl | rfl | rfl | rfl | rfl
    · exact Or.inl h
    · exact Or.inr hs_12_i_0
    · exact Or.inr hs_18_i_0
    · exact Or.inr hs_19_i_0
    · exact Or.inr hs_13_i_0
    · exact Or.inr hs_14_i_0
    · exact Or.inr hs_15_i_0
    · exact Or.inr hs_16_i_0
    · exact Or.inr hs_17_i_0
    · exact Or.inr hs_20_i_0
    · exact Or.inr hs_21_i_0
  refine h_vret hx hb hr hlk hLL hnw (hG.congr (fun x h => ?_) (fun x h => ?_)) hS dX5_init_95
  · rcases h with h | rfl | rfl | rfl | rfl | rfl | rfl | rfl | rfl | rfl | rfl
    · exact hdd x h
    · exact hd_12_i_0
    · exact hd_18_i_0
    · exact hd_19_i_0
    · exact hd_13_i_0
    · exact hd_14_i_0
    · exact hd_15_i_0
    · exact hd_16_i_0
    · exact hd_17_i_0
    · exact hd_20_i_0
    · exact hd_21_i_0
  · by_cases q_11_i_0 : x = (11, i, 0)
    · rw [if_pos q_11_i_0, q_11_i_0, hv_11_i_0, e_12_i_0, e_13_i_0, e_17_i_0]
    · rw [if_neg q_11_i_0]
      by_cases q_12_i_0 : x = (12, i, 0)
      · rw [if_pos q_12_i_0, q_12_i_0, hv_12_i_0, e_18_i_0]
      · rw [if_neg q_12_i_0]
        by_cases q_18_i_0 : x = (18, i, 0)
        · rw [if_pos q_18_i_0, q_18_i_0, hv_18_i_0, e_19_i_0]
        · rw [if_neg q_18_i_0]
          by_cases q_19_i_0 : x = (19, i, 0)
          · rw [if_pos q_19_i_0, q_19_i_0, hv_19_i_0]
          · rw [if_neg q_19_i_0]
            by_cases q_13_i_0 : x = (13, i, 0)
            · rw [if_pos q_13_i_0, q_13_i_0, hv_13_i_0, e_14_i_0, e_15_i_0, e_16_i_0]
            · rw [if_neg q_13_i_0]
              by_cases q_14_i_0 : x = (14, i, 0)
              · rw [if_pos q_14_i_0, q_14_i_0, hv_14_i_0]
              · rw [if_neg q_14_i_0]
                by_cases q_15_i_0 : x = (15, i, 0)
                · rw [if_pos q_15_i_0, q_15_i_0, hv_15_i_0]
                · rw [if_neg q_15_i_0]
                  by_cases q_16_i_0 : x = (16, i, 0)
                  · rw [if_pos q_16_i_0, q_16_i_0, hv_16_i_0]
                  · rw [if_neg q_16_i_0]
                    by_cases q_17_i_0 : x = (17, i, 0)
                    · rw [if_pos q_17_i_0, q_17_i_0, hv_17_i_0, e_20_i_0, e_21_i_0]
                    · rw [if_neg q_17_i_0]
                      by_cases q_20_i_0 : x = (20, i, 0)
                      · rw [if_pos q_20_i_0, q_20_i_0, hv_20_i_0]
                      · rw [if_neg q_20_i_0]
                        by_cases q_21_i_0 : x = (21, i, 0)
                        · rw [if_pos q_21_i_0, q_21_i_0, hv_21_i_0]
                        · rw [if_neg q_21_i_0]
                          exact (hVo x ⟨q_11_i_0, q_12_i_0, q_18_i_0, q_19_i_0, q_13_i_0, q_14_i_0, q_15_i_0, q_16_i_0, q_17_i_0, q_20_i_0, q_21_i_0⟩).symm
set_option maxHeartbeats 4000000 in
set_option maxRecDepth 100000 in
theorem k_X5_init5 (l : Launch) (D : va_G) (cy : Nat → ClassId) (dom : g_S → Prop) (L : g_S → Nat) (V : g_S → va_E) (sz : Nat) (i : Nat) (p q : Int32) (h4 : ¬ (p &&& 4).toInt = 0) (a0 : Nat) (e_11_i_0 : L (11, i, 0) = a0) (hd_11_i_0 : dom (11, i, 0)) (hv_11_i_0 : V (11, i, 0) = .inr (7, [.int 0, .null, .null, .null, .int 0, .int 0, .int 0])) (hf_12_i_0 : ¬ dom (12, i, 0)) (hf_18_i_0 : ¬ dom (18, i, 0)) (hf_19_i_0 : ¬ dom (19, i, 0)) (hf_18_i_1 : ¬ dom (18, i, 1)) (hf_19_i_1 : ¬ dom (19, i, 1)) (hf_18_i_2 : ¬ dom (18, i, 2)) (hf_19_i_2 : ¬ dom (19, i, 2)) (hf_18_i_3 : ¬ dom (18, i, 3)) (hf_19_i_3 : ¬ dom (19, i, 3)) (hf_18_i_4 : ¬ dom (18, i, 4)) (hf_19_i_4 : ¬ dom (19, i, 4)) (hf_13_i_0 : ¬ dom (13, i, 0)) (hf_14_i_0 : ¬ dom (14, i, 0)) (hf_15_i_0 : ¬ dom (15, i, 0)) (hf_16_i_0 : ¬ dom (16, i, 0)) (hf_17_i_0 : ¬ dom (17, i, 0)) (hf_20_i_0 : ¬ dom (20, i, 0)) (hf_21_i_0 : ¬ dom (21, i, 0)) : h_Met l yX5_init (.code yX5_init cX5_init 4 none) 3 18 869 D vwCl (x_tys cy) dom L V sz [.ref a0, .int p, .int q] (h_A a0 sz) none (fun x => dom x ∨ x = (12, i, 0) ∨ x = (18, i, 0) ∨ x = (19, i, 0) ∨ x = (18, i, 1) ∨ x = (19, i, 1) ∨ x = (18, i, 2) ∨ x = (19, i, 2) ∨ x = (18, i, 3) ∨ x = (19, i, 3) ∨ x = (18, i, 4) ∨ x = (19, i, 4) ∨ x = (13, i, 0) ∨ x = (14, i, 0) ∨ x = (15, i, 0) ∨ x = (16, i, 0) ∨ x = (17, i, 0) ∨ x = (20, i, 0) ∨ x = (21, i, 0)) (fun L' x => if x = (11, i, 0) then .inr (7, [.int p, .ref (L' (12, i, 0)), .ref (L' (13, i, 0)), .ref (L' (17, i, 0)), .int 1, .int 0, .int 0]) else if x = (12, i, 0) then .inl (cy 3, 5, .inr (.inr (.inr (.inr (va_up (va_up (va_up (va_up (va_up (fun _ => none) 0 (some (L' (18, i, 0)))) 1 (some (L' (18, i, 1)))) 2 (some (L' (18, i, 2)))) 3 (some (L' (18, i, 3)))) 4 (some (L' (18, i, 4)))))))) else if x = (18, i, 0) then .inr (5, [.ref (L' (19, i, 0)), .int 0, .int 0]) else if x = (19, i, 0) then .inl (cy 0, 100, .inl (fun _ => 0)) else if x = (18, i, 1) then .inr (5, [.ref (L' (19, i, 1)), .int 0, .int 0]) else if x = (19, i, 1) then .inl (cy 0, 100, .inl (fun _ => 0)) else if x = (18, i, 2) then .inr (5, [.ref (L' (19, i, 2)), .int 0, .int 0]) else if x = (19, i, 2) then .inl (cy 0, 100, .inl (fun _ => 0)) else if x = (18, i, 3) then .inr (5, [.ref (L' (19, i, 3)), .int 0, .int 0]) else if x = (19, i, 3) then .inl (cy 0, 100, .inl (fun _ => 0)) else if x = (18, i, 4) then .inr (5, [.ref (L' (19, i, 4)), .int 0, .int 0]) else if x = (19, i, 4) then .inl (cy 0, 100, .inl (fun _ => 0)) else if x = (13, i, 0) then .inr (2, [.int q, .ref (L' (14, i, 0)), .ref (L' (15, i, 0)), .ref (L' (16, i, 0)), .int 0, .int 0]) else if x = (14, i, 0) then .inl (cy 0, 100, .inl (fun _ => 0)) else if x = (15, i, 0) then .inl (cy 0, 100, .inl (fun _ => 0)) else if x = (16, i, 0) then .inl (cy 0, 100, .inl (fun _ => 0)) else if x = (17, i, 0) then .inr (6, [.ref (L' (20, i, 0)), .ref (L' (21, i, 0)), .int 0]) else if x = (20, i, 0) then .inl (cy 0, 20, .inl (fun _ => 0)) else if x = (21, i, 0) then .inl (cy 0, 20, .inl (fun _ => 0)) else V x) := by
  refine h_Met.of (by decide) (Nat.le_of_ble_eq_true rfl) ?_
  intro pg e s m below meth c hx hb hr hlk hml hown hin2 hsz hts hK hN hG ls hl
  have hown : s.vm.findClass RX5 = some m.cls := hown
  have hl : lv_has ls 4 [(0, .ref a0), (1, .int p), (2, .int q)] := hl
  have hS : va_S (h_A a0 sz) s.heap s.heap [] := va_S.rf
  have hAa : h_A a0 sz a0 := Or.inl rfl
  have hAn : ∀ q, s.heap.size ≤ q → h_A a0 sz q := fun q h => Or.inr (by rw [← hsz]; exact h)
  have hLL := fun y (_ : dom y) => (rfl : L y = L y)
  have hdd := fun y (hy : dom y) => hy
  have hVo : ∀ y, y ≠ (11, i, 0) ∧ y ≠ (12, i, 0) ∧ y ≠ (18, i, 0) ∧ y ≠ (19, i, 0) ∧ y ≠ (18, i, 1) ∧ y ≠ (19, i, 1) ∧ y ≠ (18, i, 2) ∧ y ≠ (19, i, 2) ∧ y ≠ (18, i, 3) ∧ y ≠ (19, i, 3) ∧ y ≠ (18, i, 4) ∧ y ≠ (19, i, 4) ∧ y ≠ (13, i, 0) ∧ y ≠ (14, i, 0) ∧ y ≠ (15, i, 0) ∧ y ≠ (16, i, 0) ∧ y ≠ (17, i, 0) ∧ y ≠ (20, i, 0) ∧ y ≠ (21, i, 0) → V y = V y := fun _ _ => rfl
  refine lv_aload_n hx hb dX5_init_0 rfl (lv_at hl 0 rfl) ?_
  refine W.objInit hx hb hown (hts _ ol_X5) (hts _ oi_ob) (hts _ oc_ob) rfl (by rw [hml]; exact hl.1) rfl dX5_init_1 (Nat.le_of_ble_eq_true rfl) (Nat.le_of_ble_eq_true rfl) ?_
  refine W.eq (g2 := F0 m 4 ls []) rfl ?_
  refine lv_aload_n hx hb dX5_init_4 rfl (lv_at hl 0 rfl) ?_
  refine lv_iconst (v := 1) hx hb dX5_init_5 (by decide) ?_
  refine h_put (C := RX5) (T := TX5) (N := 7) (ci := 7) (ty := .boolean) hx hb hts inX5g tyX5_ok nmX5 hown hK hG hS (11, i, 0) hd_11_i_0 e_11_i_0 hAa hv_11_i_0 rfl 4 (by decide) fl_X5_9 rfl (by decide +kernel) rfl rfl (Nat.le_of_ble_eq_true rfl) dX5_init_6 (fun H locs hG hS => ?_)
  have hG : g_H D vwCl _ L (g_set V (11, i, 0) (.inr (7, [.int 0, .null, .null, .null, .int 1, .int 0, .int 0]))) H := hG
  generalize hV1 : g_set V (11, i, 0) (.inr (7, [.int 0, .null, .null, .null, .int 1, .int 0, .int 0])) = V1 at hG
  have hv_11_i_0 : V1 (11, i, 0) = .inr (7, [.int 0, .null, .null, .null, .int 1, .int 0, .int 0]) := by rw [← hV1, g_set_self]
  have hVo : ∀ y, y ≠ (11, i, 0) ∧ y ≠ (12, i, 0) ∧ y ≠ (18, i, 0) ∧ y ≠ (19, i, 0) ∧ y ≠ (18, i, 1) ∧ y ≠ (19, i, 1) ∧ y ≠ (18, i, 2) ∧ y ≠ (19, i, 2) ∧ y ≠ (18, i, 3) ∧ y ≠ (19, i, 3) ∧ y ≠ (18, i, 4) ∧ y ≠ (19, i, 4) ∧ y ≠ (13, i, 0) ∧ y ≠ (14, i, 0) ∧ y ≠ (15, i, 0) ∧ y ≠ (16, i, 0) ∧ y ≠ (17, i, 0) ∧ y ≠ (20, i, 0) ∧ y ≠ (21, i, 0) → V1 y = V y := fun y hy => by rw [← hV1, g_set_ne (fun q => hy.1 q)]; first | done | exact hVo y hy
  refine lv_aload_n hx hb dX5_init_9 rfl (lv_at hl 0 rfl) ?_
  refine lv_iconst (v := 0) hx hb dX5_init_10 (by decide) ?_
  refine h_put (C := RX5) (T := TX5) (N := 7) (ci := 7) (ty := .int) hx hb hts inX5g tyX5_ok nmX5 hown hK hG hS (11, i, 0) hd_11_i_0 e_11_i_0 hAa hv_11_i_0 rfl 5 (by decide) fl_X5_15 rfl (by decide +kernel) rfl rfl (Nat.le_of_ble_eq_true rfl) dX5_init_11 (fun H locs hG hS => ?_)
  have hG : g_H D vwCl _ L (g_set V1 (11, i, 0) (.inr (7, [.int 0, .null, .null, .null, .int 1, .int 0, .int 0]))) H := hG
  generalize hV2 : g_set V1 (11, i, 0) (.inr (7, [.int 0, .null, .null, .null, .int 1, .int 0, .int 0])) = V2 at hG
  have hv_11_i_0 : V2 (11, i, 0) = .inr (7, [.int 0, .null, .null, .null, .int 1, .int 0, .int 0]) := by rw [← hV2, g_set_self]
  have hVo : ∀ y, y ≠ (11, i, 0) ∧ y ≠ (12, i, 0) ∧ y ≠ (18, i, 0) ∧ y ≠ (19, i, 0) ∧ y ≠ (18, i, 1) ∧ y ≠ (19, i, 1) ∧ y ≠ (18, i, 2) ∧ y ≠ (19, i, 2) ∧ y ≠ (18, i, 3) ∧ y ≠ (19, i, 3) ∧ y ≠ (18, i, 4) ∧ y ≠ (19, i, 4) ∧ y ≠ (13, i, 0) ∧ y ≠ (14, i, 0) ∧ y ≠ (15, i, 0) ∧ y ≠ (16, i, 0) ∧ y ≠ (17, i, 0) ∧ y ≠ (20, i, 0) ∧ y ≠ (21, i, 0) → V2 y = V y := fun y hy => by rw [← hV2, g_set_ne (fun q => hy.1 q)]; first | done | exact hVo y hy
  refine lv_aload_n hx hb dX5_init_14 rfl (lv_at hl 0 rfl) ?_
  refine lv_iconst (v := 0) hx hb dX5_init_15 (by decide) ?_
  refine h_put (C := RX5) (T := TX5) (N := 7) (ci := 7) (ty := .int) hx hb hts inX5g tyX5_ok nmX5 hown hK hG hS (11, i, 0) hd_11_i_0 e_11_i_0 hAa hv_11_i_0 rfl 6 (by decide) fl_X5_19 rfl (by decide +kernel) rfl rfl (Nat.le_of_ble_eq_true rfl) dX5_init_16 (fun H locs hG hS => ?_)
  have hG : g_H D vwCl _ L (g_set V2 (11, i, 0) (.inr (7, [.int 0, .null, .null, .null, .int 1, .int 0, .int 0]))) H := hG
  generalize hV3 : g_set V2 (11, i, 0) (.inr (7, [.int 0, .null, .null, .null, .int 1, .int 0, .int 0])) = V3 at hG
  have hv_11_i_0 : V3 (11, i, 0) = .inr (7, [.int 0, .null, .null, .null, .int 1, .int 0, .int 0]) := by rw [← hV3, g_set_self]
  have hVo : ∀ y, y ≠ (11, i, 0) ∧ y ≠ (12, i, 0) ∧ y ≠ (18, i, 0) ∧ y ≠ (19, i, 0) ∧ y ≠ (18, i, 1) ∧ y ≠ (19, i, 1) ∧ y ≠ (18, i, 2) ∧ y ≠ (19, i, 2) ∧ y ≠ (18, i, 3) ∧ y ≠ (19, i, 3) ∧ y ≠ (18, i, 4) ∧ y ≠ (19, i, 4) ∧ y ≠ (13, i, 0) ∧ y ≠ (14, i, 0) ∧ y ≠ (15, i, 0) ∧ y ≠ (16, i, 0) ∧ y ≠ (17, i, 0) ∧ y ≠ (20, i, 0) ∧ y ≠ (21, i, 0) → V3 y = V y := fun y hy => by rw [← hV3, g_set_ne (fun q => hy.1 q)]; first | done | exact hVo y hy
  refine lv_aload_n hx hb dX5_init_19 rfl (lv_at hl 0 rfl) ?_
  refine lv_iload_n hx hb dX5_init_20 rfl (lv_at hl 1 rfl) ?_
  refine h_putF (C := RX5) (T := TX5) (N := 7) (ci := 7) (ty := .int) hx hb hts inX5g tyX5_ok nmX5 hown hK hG hS (11, i, 0) hd_11_i_0 e_11_i_0 hAa hv_11_i_0 rfl 0 (by decide) fl_X5_22 rfl hin2 rfl (by decide +kernel) rfl rfl (Nat.le_of_ble_eq_true rfl) dX5_init_21 (fun H locs hG hS => ?_)
  have hG : g_H D vwCl _ L (g_set V3 (11, i, 0) (.inr (7, [.int p, .null, .null, .null, .int 1, .int 0, .int 0]))) H := hG
  generalize hV4 : g_set V3 (11, i, 0) (.inr (7, [.int p, .null, .null, .null, .int 1, .int 0, .int 0])) = V4 at hG
  have hv_11_i_0 : V4 (11, i, 0) = .inr (7, [.int p, .null, .null, .null, .int 1, .int 0, .int 0]) := by rw [← hV4, g_set_self]
  have hVo : ∀ y, y ≠ (11, i, 0) ∧ y ≠ (12, i, 0) ∧ y ≠ (18, i, 0) ∧ y ≠ (19, i, 0) ∧ y ≠ (18, i, 1) ∧ y ≠ (19, i, 1) ∧ y ≠ (18, i, 2) ∧ y ≠ (19, i, 2) ∧ y ≠ (18, i, 3) ∧ y ≠ (19, i, 3) ∧ y ≠ (18, i, 4) ∧ y ≠ (19, i, 4) ∧ y ≠ (13, i, 0) ∧ y ≠ (14, i, 0) ∧ y ≠ (15, i, 0) ∧ y ≠ (16, i, 0) ∧ y ≠ (17, i, 0) ∧ y ≠ (20, i, 0) ∧ y ≠ (21, i, 0) → V4 y = V y := fun y hy => by rw [← hV4, g_set_ne (fun q => hy.1 q)]; first | done | exact hVo y hy
  refine lv_aload_n hx hb dX5_init_24 rfl (lv_at hl 0 rfl) ?_
  refine lv_iload_n hx hb dX5_init_25 rfl (lv_at hl 1 rfl) ?_
  refine lv_iconst (v := 4) hx hb dX5_init_26 (by decide) ?_
  refine lv_iand hx hb dX5_init_27 ?_
  refine kz_if_eq (X := (p &&& 4).toInt) hx hb rfl dX5_init_28 (tgt := 35) (by decide) (fun c28 => absurd c28 h4) (fun c28 => ?_)
  refine lv_iconst (v := 5) hx hb dX5_init_31 (by decide) ?_
  refine lv_goto (tgt := 36) hx hb dX5_init_32 (by decide) ?_
  refine h_newq (C := RX3) (N' := 5) hx hb hown (hts _ cl_X5_25) hN.2.2.2.1 hK 3 rfl hG hS (12, i, 0) hf_12_i_0 (by decide) rfl (by decide) (Nat.le_of_ble_eq_true rfl) (Nat.le_of_ble_eq_true rfl) dX5_init_36 (fun L5 b5 H hL9 e_12_i_0 ha5 hG hS hz9 o9 => ?_)
  have hs_12_i_0 : s.heap.size ≤ L5 (12, i, 0) := by rw [e_12_i_0]; exact ha5
  have e_11_i_0 := (hL9 _ hd_11_i_0).trans e_11_i_0
  have hLL := fun y (hy : dom y) => (hL9 y (hdd y hy)).trans (hLL y hy)
  have hdd := fun y (hy : dom y) => hG.inO (hdd y hy)
  have hd_11_i_0 := hG.inO hd_11_i_0
  have hd_12_i_0 := hG.inX
  have hf_18_i_0 := hG.notin hf_18_i_0 (by simp)
  have hf_19_i_0 := hG.notin hf_19_i_0 (by simp)
  have hf_18_i_1 := hG.notin hf_18_i_1 (by simp)
  have hf_19_i_1 := hG.notin hf_19_i_1 (by simp)
  have hf_18_i_2 := hG.notin hf_18_i_2 (by simp)
  have hf_19_i_2 := hG.notin hf_19_i_2 (by simp)
  have hf_18_i_3 := hG.notin hf_18_i_3 (by simp)
  have hf_19_i_3 := hG.notin hf_19_i_3 (by simp)
  have hf_18_i_4 := hG.notin hf_18_i_4 (by simp)
  have hf_19_i_4 := hG.notin hf_19_i_4 (by simp)
  have hf_13_i_0 := hG.notin hf_13_i_0 (by simp)
  have hf_14_i_0 := hG.notin hf_14_i_0 (by simp)
  have hf_15_i_0 := hG.notin hf_15_i_0 (by simp)
  have hf_16_i_0 := hG.notin hf_16_i_0 (by simp)
  have hf_17_i_0 := hG.notin hf_17_i_0 (by simp)
  have hf_20_i_0 := hG.notin hf_20_i_0 (by simp)
  have hf_21_i_0 := hG.notin hf_21_i_0 (by simp)
  generalize hV6 : g_set V4 (12, i, 0) (.inl (cy 3, 5, .inr (.inr (.inr (.inr (fun _ => none)))))) = V6 at hG
  have hv_11_i_0 : V6 (11, i, 0) = .inr (7, [.int p, .null, .null, .null, .int 1, .int 0, .int 0]) := by rw [← hV6, g_set_ne (by simp)]; exact hv_11_i_0
  have hv_12_i_0 : V6 (12, i, 0) = .inl (cy 3, 5, .inr (.inr (.inr (.inr (fun _ => none))))) := by rw [← hV6, g_set_self]
  have hVo : ∀ y, y ≠ (11, i, 0) ∧ y ≠ (12, i, 0) ∧ y ≠ (18, i, 0) ∧ y ≠ (19, i, 0) ∧ y ≠ (18, i, 1) ∧ y ≠ (19, i, 1) ∧ y ≠ (18, i, 2) ∧ y ≠ (19, i, 2) ∧ y ≠ (18, i, 3) ∧ y ≠ (19, i, 3) ∧ y ≠ (18, i, 4) ∧ y ≠ (19, i, 4) ∧ y ≠ (13, i, 0) ∧ y ≠ (14, i, 0) ∧ y ≠ (15, i, 0) ∧ y ≠ (16, i, 0) ∧ y ≠ (17, i, 0) ∧ y ≠ (20, i, 0) ∧ y ≠ (21, i, 0) → V6 y = V y := fun y hy => by rw [← hV6, g_set_ne (fun q => hy.2.1 q)]; first | done | exact hVo y hy
  refine h_putF (C := RX5) (T := TX5) (N := 7) (ci := 7) (ty := (tyX5 1)) hx hb hts inX5g tyX5_ok nmX5 hown hK hG hS (11, i, 0) hd_11_i_0 e_11_i_0 hAa hv_11_i_0 rfl 1 (by decide) fl_X5_27 rfl hin2 rfl (by decide +kernel) rfl rfl (Nat.le_of_ble_eq_true rfl) dX5_init_39 (fun H locs hG hS => ?_)
  have hG : g_H D vwCl _ L5 (g_set V6 (11, i, 0) (.inr (7, [.int p, .ref b5, .null, .null, .int 1, .int 0, .int 0]))) H := hG
  generalize hV7 : g_set V6 (11, i, 0) (.inr (7, [.int p, .ref b5, .null, .null, .int 1, .int 0, .int 0])) = V7 at hG
  have hv_12_i_0 : V7 (12, i, 0) = .inl (cy 3, 5, .inr (.inr (.inr (.inr (fun _ => none))))) := by rw [← hV7, g_set_ne (by simp)]; exact hv_12_i_0
  have hv_11_i_0 : V7 (11, i, 0) = .inr (7, [.int p, .ref b5, .null, .null, .int 1, .int 0, .int 0]) := by rw [← hV7, g_set_self]
  have hVo : ∀ y, y ≠ (11, i, 0) ∧ y ≠ (12, i, 0) ∧ y ≠ (18, i, 0) ∧ y ≠ (19, i, 0) ∧ y ≠ (18, i, 1) ∧ y ≠ (19, i, 1) ∧ y ≠ (18, i, 2) ∧ y ≠ (19, i, 2) ∧ y ≠ (18, i, 3) ∧ y ≠ (19, i, 3) ∧ y ≠ (18, i, 4) ∧ y ≠ (19, i, 4) ∧ y ≠ (13, i, 0) ∧ y ≠ (14, i, 0) ∧ y ≠ (15, i, 0) ∧ y ≠ (16, i, 0) ∧ y ≠ (17, i, 0) ∧ y ≠ (20, i, 0) ∧ y ≠ (21, i, 0) → V7 y = V y := fun y hy => by rw [← hV7, g_set_ne (fun q => hy.1 q)]; first | done | exact hVo y hy
  refine lv_iconst (v := 0) hx hb dX5_init_42 (by decide) ?_
  refine lv_istore_n (lv' := [(3, .int 0), (0, .ref a0), (1, .int p), (2, .int q)]) hx hb dX5_init_43 rfl hl (by decide) rfl (fun ls hl => ?_)
  refine lv_iload_n hx hb dX5_init_44 rfl (lv_at hl 0 rfl) ?_
  refine lv_aload_n hx hb dX5_init_45 rfl (lv_at hl 1 rfl) ?_
  refine h_get (C := RX5) (T := TX5) (N := 7) (ci := 7) (v := .ref b5) hx hb hts inX5g hown hK hG (11, i, 0) hd_11_i_0 e_11_i_0 hv_11_i_0 rfl 1 (by decide) fl_X5_27 rfl dX5_init_46 ?_
  refine h_alen (v := 5) hx hb hK hG (12, i, 0) hd_12_i_0 e_12_i_0 3 hv_12_i_0 rfl rfl dX5_init_49 ?_
  refine kz_icmp_ge (X := 0) (Y := 5) hx hb (by decide) (by decide) dX5_init_50 (tgt := 72) (by decide) (fun c50 => absurd c50 (by decide)) (fun c50 => ?_)
  refine lv_aload_n hx hb dX5_init_53 rfl (lv_at hl 1 rfl) ?_
  refine h_get (C := RX5) (T := TX5) (N := 7) (ci := 7) (v := .ref b5) hx hb hts inX5g hown hK hG (11, i, 0) hd_11_i_0 e_11_i_0 hv_11_i_0 rfl 1 (by decide) fl_X5_27 rfl dX5_init_54 ?_
  refine lv_iload_n hx hb dX5_init_57 rfl (lv_at hl 0 rfl) ?_
  refine h_newo (C := RX3) (T := TX3) (N := 3) (ci := 5) (fs := [.null, .int 0, .int 0]) hx hb hts inX3g tyX3_ok hown cl_X5_25 ins_X3 ini_X3 hK hG hS (18, i, 0) hf_18_i_0 rfl (fun j hj => by rcases (show j = 0 ∨ j = 1 ∨ j = 2 by omega) with rfl | rfl | rfl <;> rfl) (Nat.le_of_ble_eq_true rfl) (Nat.le_of_ble_eq_true rfl) dX5_init_58 (fun L8 b8 H hL9 e_18_i_0 ha8 hG hS hz9 o9 => ?_)
  have hs_12_i_0 : s.heap.size ≤ L8 (12, i, 0) := by rw [hL9 _ hd_12_i_0]; exact hs_12_i_0
  have hs_18_i_0 : s.heap.size ≤ L8 (18, i, 0) := by rw [e_18_i_0]; exact ha8
  have e_11_i_0 := (hL9 _ hd_11_i_0).trans e_11_i_0
  have e_12_i_0 := (hL9 _ hd_12_i_0).trans e_12_i_0
  have hLL := fun y (hy : dom y) => (hL9 y (hdd y hy)).trans (hLL y hy)
  have hdd := fun y (hy : dom y) => hG.inO (hdd y hy)
  have hd_11_i_0 := hG.inO hd_11_i_0
  have hd_12_i_0 := hG.inO hd_12_i_0
  have hd_18_i_0 := hG.inX
  have hf_19_i_0 := hG.notin hf_19_i_0 (by simp)
  have hf_18_i_1 := hG.notin hf_18_i_1 (by simp)
  have hf_19_i_1 := hG.notin hf_19_i_1 (by simp)
  have hf_18_i_2 := hG.notin hf_18_i_2 (by simp)
  have hf_19_i_2 := hG.notin hf_19_i_2 (by simp)
  have hf_18_i_3 := hG.notin hf_18_i_3 (by simp)
  have hf_19_i_3 := hG.notin hf_19_i_3 (by simp)
  have hf_18_i_4 := hG.notin hf_18_i_4 (by simp)
  have hf_19_i_4 := hG.notin hf_19_i_4 (by simp)
  have hf_13_i_0 := hG.notin hf_13_i_0 (by simp)
  have hf_14_i_0 := hG.notin hf_14_i_0 (by simp)
  have hf_15_i_0 := hG.notin hf_15_i_0 (by simp)
  have hf_16_i_0 := hG.notin hf_16_i_0 (by simp)
  have hf_17_i_0 := hG.notin hf_17_i_0 (by simp)
  have hf_20_i_0 := hG.notin hf_20_i_0 (by simp)
  have hf_21_i_0 := hG.notin hf_21_i_0 (by simp)
  generalize hV9 : g_set V7 (18, i, 0) (.inr (5, [.null, .int 0, .int 0])) = V9 at hG
  have hv_11_i_0 : V9 (11, i, 0) = .inr (7, [.int p, .ref b5, .null, .null, .int 1, .int 0, .int 0]) := by rw [← hV9, g_set_ne (by simp)]; exact hv_11_i_0
  have hv_12_i_0 : V9 (12, i, 0) = .inl (cy 3, 5, .inr (.inr (.inr (.inr (fun _ => none))))) := by rw [← hV9, g_set_ne (by simp)]; exact hv_12_i_0
  have hv_18_i_0 : V9 (18, i, 0) = .inr (5, [.null, .int 0, .int 0]) := by rw [← hV9, g_set_self]
  have hVo : ∀ y, y ≠ (11, i, 0) ∧ y ≠ (12, i, 0) ∧ y ≠ (18, i, 0) ∧ y ≠ (19, i, 0) ∧ y ≠ (18, i, 1) ∧ y ≠ (19, i, 1) ∧ y ≠ (18, i, 2) ∧ y ≠ (19, i, 2) ∧ y ≠ (18, i, 3) ∧ y ≠ (19, i, 3) ∧ y ≠ (18, i, 4) ∧ y ≠ (19, i, 4) ∧ y ≠ (13, i, 0) ∧ y ≠ (14, i, 0) ∧ y ≠ (15, i, 0) ∧ y ≠ (16, i, 0) ∧ y ≠ (17, i, 0) ∧ y ≠ (20, i, 0) ∧ y ≠ (21, i, 0) → V9 y = V y := fun y hy => by rw [← hV9, g_set_ne (fun q => hy.2.2.1 q)]; first | done | exact hVo y hy
  refine lv_dup hx hb dX5_init_61 rfl ?_
  have hz0 := hS.1
  refine h_cont (va_runIN (As := []) (rest := [.ref b8, .int 0, .ref b5]) ⟨hx, hb, hml, hown, hts⟩ (k_X3_init l D cy _ L8 V9 H.size i 0 b8 e_18_i_0 hd_18_i_0 hv_18_i_0 hf_19_i_0) ⟨va_cnB 0 hts (g_good cwd_X3_init) rfl rfl rfl hN.2.1.2.1 (hts _ ini_X3) (by decide +kernel) ⟨Nat.le_of_ble_eq_true rfl, Nat.le_of_ble_eq_true rfl⟩, rfl, hts _ im_X3_init⟩ (h_pre hK hN hG) rfl rfl hl.1 rfl (lv_room (Nat.le_of_ble_eq_true rfl)) dX5_init_62 ⟨Nat.le_of_ble_eq_true rfl, Nat.le_of_ble_eq_true rfl⟩) hS (fun q hq => hq.elim (fun e9 => by rw [e9]; exact (hAn _ ha8)) (fun h9 => hAn q (Nat.le_trans hS.1 h9))) (fun L10 H locs hL9 hn9 hG hS hz9 o9 => ?_)
  refine W.eq (g2 := F0 m 65 ls [.ref b8, .int 0, .ref b5]) rfl ?_
  have hs_12_i_0 : s.heap.size ≤ L10 (12, i, 0) := by rw [hL9 _ hd_12_i_0]; exact hs_12_i_0
  have hs_18_i_0 : s.heap.size ≤ L10 (18, i, 0) := by rw [hL9 _ hd_18_i_0]; exact hs_18_i_0
  have hs_19_i_0 : s.heap.size ≤ L10 (19, i, 0) := Nat.le_trans hz0 ((hn9 (19, i, 0) (Or.inr (by simp))).resolve_left hf_19_i_0)
  have e_11_i_0 := (hL9 _ hd_11_i_0).trans e_11_i_0
  have e_12_i_0 := (hL9 _ hd_12_i_0).trans e_12_i_0
  have e_18_i_0 := (hL9 _ hd_18_i_0).trans e_18_i_0
  have hLL := fun y (hy : dom y) => (hL9 y (hdd y hy)).trans (hLL y hy)
  have hdd := fun y (hy : dom y) => hG.uL (hdd y hy)
  have hd_11_i_0 := hG.uL hd_11_i_0
  have hd_12_i_0 := hG.uL hd_12_i_0
  have hd_18_i_0 := hG.uL hd_18_i_0
  have hd_19_i_0 := hG.uR (y := (19, i, 0)) (by simp)
  have e_19_i_0 : L10 (19, i, 0) = L10 (19, i, 0) := rfl
  have hf_18_i_1 := hG.uN hf_18_i_1 (by simp)
  have hf_19_i_1 := hG.uN hf_19_i_1 (by simp)
  have hf_18_i_2 := hG.uN hf_18_i_2 (by simp)
  have hf_19_i_2 := hG.uN hf_19_i_2 (by simp)
  have hf_18_i_3 := hG.uN hf_18_i_3 (by simp)
  have hf_19_i_3 := hG.uN hf_19_i_3 (by simp)
  have hf_18_i_4 := hG.uN hf_18_i_4 (by simp)
  have hf_19_i_4 := hG.uN hf_19_i_4 (by simp)
  have hf_13_i_0 := hG.uN hf_13_i_0 (by simp)
  have hf_14_i_0 := hG.uN hf_14_i_0 (by simp)
  have hf_15_i_0 := hG.uN hf_15_i_0 (by simp)
  have hf_16_i_0 := hG.uN hf_16_i_0 (by simp)
  have hf_17_i_0 := hG.uN hf_17_i_0 (by simp)
  have hf_20_i_0 := hG.uN hf_20_i_0 (by simp)
  have hf_21_i_0 := hG.uN hf_21_i_0 (by simp)
  have hG : g_H D vwCl _ L10 (fun x => if x = (18, i, 0) then .inr (5, [.ref (L10 (19, i, 0)), .int 0, .int 0]) else if x = (19, i, 0) then .inl (cy 0, 100, .inl (fun _ => 0)) else V9 x) H := hG
  generalize hV11 : (fun x => if x = (18, i, 0) then .inr (5, [.ref (L10 (19, i, 0)), .int 0, .int 0]) else if x = (19, i, 0) then .inl (cy 0, 100, .inl (fun _ => 0)) else V9 x) = V11 at hG
  have hv_11_i_0 : V11 (11, i, 0) = .inr (7, [.int p, .ref b5, .null, .null, .int 1, .int 0, .int 0]) := by rw [← hV11]; exact (if_neg (by simp)).trans ((if_neg (by simp)).trans (hv_11_i_0))
  have hv_12_i_0 : V11 (12, i, 0) = .inl (cy 3, 5, .inr (.inr (.inr (.inr (fun _ => none))))) := by rw [← hV11]; exact (if_neg (by simp)).trans ((if_neg (by simp)).trans (hv_12_i_0))
  have hv_18_i_0 : V11 (18, i, 0) = .inr (5, [.ref (L10 (19, i, 0)), .int 0, .int 0]) := by rw [← hV11]; exact if_pos rfl
  have hv_19_i_0 : V11 (19, i, 0) = .inl (cy 0, 100, .inl (fun _ => 0)) := by rw [← hV11]; exact (if_neg (by simp)).trans (if_pos rfl)
  have hVo : ∀ y, y ≠ (11, i, 0) ∧ y ≠ (12, i, 0) ∧ y ≠ (18, i, 0) ∧ y ≠ (19, i, 0) ∧ y ≠ (18, i, 1) ∧ y ≠ (19, i, 1) ∧ y ≠ (18, i, 2) ∧ y ≠ (19, i, 2) ∧ y ≠ (18, i, 3) ∧ y ≠ (19, i, 3) ∧ y ≠ (18, i, 4) ∧ y ≠ (19, i, 4) ∧ y ≠ (13, i, 0) ∧ y ≠ (14, i, 0) ∧ y ≠ (15, i, 0) ∧ y ≠ (16, i, 0) ∧ y ≠ (17, i, 0) ∧ y ≠ (20, i, 0) ∧ y ≠ (21, i, 0) → V11 y = V y := fun y hy => by rw [← hV11]; exact (if_neg (fun q => by subst q; simp at hy)).trans ((if_neg (fun q => by subst q; simp at hy)).trans (hVo y hy))
  refine h_astq hx hb hK hG hS (12, i, 0) hd_12_i_0 e_12_i_0 (hAn _ ha5) 3 5 (r := (RX3, TX3, 3)) hv_12_i_0 rfl (18, i, 0) hd_18_i_0 e_18_i_0 hv_18_i_0 rfl (g_vp (by decide) (by decide)) dX5_init_65 (fun H locs hG hS => ?_)
  have hG : g_H D vwCl _ L10 (g_set V11 (12, i, 0) (.inl (cy 3, 5, .inr (.inr (.inr (.inr (va_up (fun _ => none) 0 (some b8)))))))) H := hG
  generalize hV12 : g_set V11 (12, i, 0) (.inl (cy 3, 5, .inr (.inr (.inr (.inr (va_up (fun _ => none) 0 (some b8))))))) = V12 at hG
  have hv_11_i_0 : V12 (11, i, 0) = .inr (7, [.int p, .ref b5, .null, .null, .int 1, .int 0, .int 0]) := by rw [← hV12, g_set_ne (by simp)]; exact hv_11_i_0
  have hv_18_i_0 : V12 (18, i, 0) = .inr (5, [.ref (L10 (19, i, 0)), .int 0, .int 0]) := by rw [← hV12, g_set_ne (by simp)]; exact hv_18_i_0
  have hv_19_i_0 : V12 (19, i, 0) = .inl (cy 0, 100, .inl (fun _ => 0)) := by rw [← hV12, g_set_ne (by simp)]; exact hv_19_i_0
  have hv_12_i_0 : V12 (12, i, 0) = .inl (cy 3, 5, .inr (.inr (.inr (.inr (va_up (fun _ => none) 0 (some b8)))))) := by rw [← hV12, g_set_self]
  have hVo : ∀ y, y ≠ (11, i, 0) ∧ y ≠ (12, i, 0) ∧ y ≠ (18, i, 0) ∧ y ≠ (19, i, 0) ∧ y ≠ (18, i, 1) ∧ y ≠ (19, i, 1) ∧ y ≠ (18, i, 2) ∧ y ≠ (19, i, 2) ∧ y ≠ (18, i, 3) ∧ y ≠ (19, i, 3) ∧ y ≠ (18, i, 4) ∧ y ≠ (19, i, 4) ∧ y ≠ (13, i, 0) ∧ y ≠ (14, i, 0) ∧ y ≠ (15, i, 0) ∧ y ≠ (16, i, 0) ∧ y ≠ (17, i, 0) ∧ y ≠ (20, i, 0) ∧ y ≠ (21, i, 0) → V12 y = V y := fun y hy => by rw [← hV12, g_set_ne (fun q => hy.2.1 q)]; first | done | exact hVo y hy
  refine lv_iinc (v := 1) (lv' := [(3, .int 1), (0, .ref a0), (1, .int p), (2, .int q)]) hx hb dX5_init_66 hl (k := 0) rfl (by decide) (by decide) rfl (fun ls hl => ?_)
  refine lv_goto (tgt := 44) hx hb dX5_init_69 (by decide) ?_
  refine lv_iload_n hx hb dX5_init_44 rfl (lv_at hl 0 rfl) ?_
  refine lv_aload_n hx hb dX5_init_45 rfl (lv_at hl 1 rfl) ?_
  refine h_get (C := RX5) (T := TX5) (N := 7) (ci := 7) (v := .ref b5) hx hb hts inX5g hown hK hG (11, i, 0) hd_11_i_0 e_11_i_0 hv_11_i_0 rfl 1 (by decide) fl_X5_27 rfl dX5_init_46 ?_
  refine h_alen (v := 5) hx hb hK hG (12, i, 0) hd_12_i_0 e_12_i_0 3 hv_12_i_0 rfl rfl dX5_init_49 ?_
  refine kz_icmp_ge (X := 1) (Y := 5) hx hb (by decide) (by decide) dX5_init_50 (tgt := 72) (by decide) (fun c50 => absurd c50 (by decide)) (fun c50 => ?_)
  refine lv_aload_n hx hb dX5_init_53 rfl (lv_at hl 1 rfl) ?_
  refine h_get (C := RX5) (T := TX5) (N := 7) (ci := 7) (v := .ref b5) hx hb hts inX5g hown hK hG (11, i, 0) hd_11_i_0 e_11_i_0 hv_11_i_0 rfl 1 (by decide) fl_X5_27 rfl dX5_init_54 ?_
  refine lv_iload_n hx hb dX5_init_57 rfl (lv_at hl 0 rfl) ?_
  refine h_newo (C := RX3) (T := TX3) (N := 3) (ci := 5) (fs := [.null, .int 0, .int 0]) hx hb hts inX3g tyX3_ok hown cl_X5_25 ins_X3 ini_X3 hK hG hS (18, i, 1) hf_18_i_1 rfl (fun j hj => by rcases (show j = 0 ∨ j = 1 ∨ j = 2 by omega) with rfl | rfl | rfl <;> rfl) (Nat.le_of_ble_eq_true rfl) (Nat.le_of_ble_eq_true rfl) dX5_init_58 (fun L13 b13 H hL9 e_18_i_1 ha13 hG hS hz9 o9 => ?_)
  have hs_12_i_0 : s.heap.size ≤ L13 (12, i, 0) := by rw [hL9 _ hd_12_i_0]; exact hs_12_i_0
  have hs_18_i_0 : s.heap.size ≤ L13 (18, i, 0) := by rw [hL9 _ hd_18_i_0]; exact hs_18_i_0
  have hs_19_i_0 : s.heap.size ≤ L13 (19, i, 0) := by rw [hL9 _ hd_19_i_0]; exact hs_19_i_0
  have hs_18_i_1 : s.heap.size ≤ L13 (18, i, 1) := by rw [e_18_i_1]; exact ha13
  have e_11_i_0 := (hL9 _ hd_11_i_0).trans e_11_i_0
  have e_12_i_0 := (hL9 _ hd_12_i_0).trans e_12_i_0
  have e_18_i_0 := (hL9 _ hd_18_i_0).trans e_18_i_0
  have e_19_i_0 := (hL9 _ hd_19_i_0).trans e_19_i_0
  have hLL := fun y (hy : dom y) => (hL9 y (hdd y hy)).trans (hLL y hy)
  have hdd := fun y (hy : dom y) => hG.inO (hdd y hy)
  have hd_11_i_0 := hG.inO hd_11_i_0
  have hd_12_i_0 := hG.inO hd_12_i_0
  have hd_18_i_0 := hG.inO hd_18_i_0
  have hd_19_i_0 := hG.inO hd_19_i_0
  have hd_18_i_1 := hG.inX
  have hf_19_i_1 := hG.notin hf_19_i_1 (by simp)
  have hf_18_i_2 := hG.notin hf_18_i_2 (by simp)
  have hf_19_i_2 := hG.notin hf_19_i_2 (by simp)
  have hf_18_i_3 := hG.notin hf_18_i_3 (by simp)
  have hf_19_i_3 := hG.notin hf_19_i_3 (by simp)
  have hf_18_i_4 := hG.notin hf_18_i_4 (by simp)
  have hf_19_i_4 := hG.notin hf_19_i_4 (by simp)
  have hf_13_i_0 := hG.notin hf_13_i_0 (by simp)
  have hf_14_i_0 := hG.notin hf_14_i_0 (by simp)
  have hf_15_i_0 := hG.notin hf_15_i_0 (by simp)
  have hf_16_i_0 := hG.notin hf_16_i_0 (by simp)
  have hf_17_i_0 := hG.notin hf_17_i_0 (by simp)
  have hf_20_i_0 := hG.notin hf_20_i_0 (by simp)
  have hf_21_i_0 := hG.notin hf_21_i_0 (by simp)
  generalize hV14 : g_set V12 (18, i, 1) (.inr (5, [.null, .int 0, .int 0])) = V14 at hG
  have hv_11_i_0 : V14 (11, i, 0) = .inr (7, [.int p, .ref b5, .null, .null, .int 1, .int 0, .int 0]) := by rw [← hV14, g_set_ne (by simp)]; exact hv_11_i_0
  have hv_12_i_0 : V14 (12, i, 0) = .inl (cy 3, 5, .inr (.inr (.inr (.inr (va_up (fun _ => none) 0 (some b8)))))) := by rw [← hV14, g_set_ne (by simp)]; exact hv_12_i_0
  have hv_18_i_0 : V14 (18, i, 0) = .inr (5, [.ref (L10 (19, i, 0)), .int 0, .int 0]) := by rw [← hV14, g_set_ne (by simp)]; exact hv_18_i_0
  have hv_19_i_0 : V14 (19, i, 0) = .inl (cy 0, 100, .inl (fun _ => 0)) := by rw [← hV14, g_set_ne (by simp)]; exact hv_19_i_0
  have hv_18_i_1 : V14 (18, i, 1) = .inr (5, [.null, .int 0, .int 0]) := by rw [← hV14, g_set_self]
  have hVo : ∀ y, y ≠ (11, i, 0) ∧ y ≠ (12, i, 0) ∧ y ≠ (18, i, 0) ∧ y ≠ (19, i, 0) ∧ y ≠ (18, i, 1) ∧ y ≠ (19, i, 1) ∧ y ≠ (18, i, 2) ∧ y ≠ (19, i, 2) ∧ y ≠ (18, i, 3) ∧ y ≠ (19, i, 3) ∧ y ≠ (18, i, 4) ∧ y ≠ (19, i, 4) ∧ y ≠ (13, i, 0) ∧ y ≠ (14, i, 0) ∧ y ≠ (15, i, 0) ∧ y ≠ (16, i, 0) ∧ y ≠ (17, i, 0) ∧ y ≠ (20, i, 0) ∧ y ≠ (21, i, 0) → V14 y = V y := fun y hy => by rw [← hV14, g_set_ne (fun q => hy.2.2.2.2.1 q)]; first | done | exact hVo y hy
  refine lv_dup hx hb dX5_init_61 rfl ?_
  have hz0 := hS.1
  refine h_cont (va_runIN (As := []) (rest := [.ref b13, .int 1, .ref b5]) ⟨hx, hb, hml, hown, hts⟩ (k_X3_init l D cy _ L13 V14 H.size i 1 b13 e_18_i_1 hd_18_i_1 hv_18_i_1 hf_19_i_1) ⟨va_cnB 0 hts (g_good cwd_X3_init) rfl rfl rfl hN.2.1.2.1 (hts _ ini_X3) (by decide +kernel) ⟨Nat.le_of_ble_eq_true rfl, Nat.le_of_ble_eq_true rfl⟩, rfl, hts _ im_X3_init⟩ (h_pre hK hN hG) rfl rfl hl.1 rfl (lv_room (Nat.le_of_ble_eq_true rfl)) dX5_init_62 ⟨Nat.le_of_ble_eq_true rfl, Nat.le_of_ble_eq_true rfl⟩) hS (fun q hq => hq.elim (fun e9 => by rw [e9]; exact (hAn _ ha13)) (fun h9 => hAn q (Nat.le_trans hS.1 h9))) (fun L15 H locs hL9 hn9 hG hS hz9 o9 => ?_)
  refine W.eq (g2 := F0 m 65 ls [.ref b13, .int 1, .ref b5]) rfl ?_
  have hs_12_i_0 : s.heap.size ≤ L15 (12, i, 0) := by rw [hL9 _ hd_12_i_0]; exact hs_12_i_0
  have hs_18_i_0 : s.heap.size ≤ L15 (18, i, 0) := by rw [hL9 _ hd_18_i_0]; exact hs_18_i_0
  have hs_19_i_0 : s.heap.size ≤ L15 (19, i, 0) := by rw [hL9 _ hd_19_i_0]; exact hs_19_i_0
  have hs_18_i_1 : s.heap.size ≤ L15 (18, i, 1) := by rw [hL9 _ hd_18_i_1]; exact hs_18_i_1
  have hs_19_i_1 : s.heap.size ≤ L15 (19, i, 1) := Nat.le_trans hz0 ((hn9 (19, i, 1) (Or.inr (by simp))).resolve_left hf_19_i_1)
  have e_11_i_0 := (hL9 _ hd_11_i_0).trans e_11_i_0
  have e_12_i_0 := (hL9 _ hd_12_i_0).trans e_12_i_0
  have e_18_i_0 := (hL9 _ hd_18_i_0).trans e_18_i_0
  have e_19_i_0 := (hL9 _ hd_19_i_0).trans e_19_i_0
  have e_18_i_1 := (hL9 _ hd_18_i_1).trans e_18_i_1
  have hLL := fun y (hy : dom y) => (hL9 y (hdd y hy)).trans (hLL y hy)
  have hdd := fun y (hy : dom y) => hG.uL (hdd y hy)
  have hd_11_i_0 := hG.uL hd_11_i_0
  have hd_12_i_0 := hG.uL hd_12_i_0
  have hd_18_i_0 := hG.uL hd_18_i_0
  have hd_19_i_0 := hG.uL hd_19_i_0
  have hd_18_i_1 := hG.uL hd_18_i_1
  have hd_19_i_1 := hG.uR (y := (19, i, 1)) (by simp)
  have e_19_i_1 : L15 (19, i, 1) = L15 (19, i, 1) := rfl
  have hf_18_i_2 := hG.uN hf_18_i_2 (by simp)
  have hf_19_i_2 := hG.uN hf_19_i_2 (by simp)
  have hf_18_i_3 := hG.uN hf_18_i_3 (by simp)
  have hf_19_i_3 := hG.uN hf_19_i_3 (by simp)
  have hf_18_i_4 := hG.uN hf_18_i_4 (by simp)
  have hf_19_i_4 := hG.uN hf_19_i_4 (by simp)
  have hf_13_i_0 := hG.uN hf_13_i_0 (by simp)
  have hf_14_i_0 := hG.uN hf_14_i_0 (by simp)
  have hf_15_i_0 := hG.uN hf_15_i_0 (by simp)
  have hf_16_i_0 := hG.uN hf_16_i_0 (by simp)
  have hf_17_i_0 := hG.uN hf_17_i_0 (by simp)
  have hf_20_i_0 := hG.uN hf_20_i_0 (by simp)
  have hf_21_i_0 := hG.uN hf_21_i_0 (by simp)
  have hG : g_H D vwCl _ L15 (fun x => if x = (18, i, 1) then .inr (5, [.ref (L15 (19, i, 1)), .int 0, .int 0]) else if x = (19, i, 1) then .inl (cy 0, 100, .inl (fun _ => 0)) else V14 x) H := hG
  generalize hV16 : (fun x => if x = (18, i, 1) then .inr (5, [.ref (L15 (19, i, 1)), .int 0, .int 0]) else if x = (19, i, 1) then .inl (cy 0, 100, .inl (fun _ => 0)) else V14 x) = V16 at hG
  have hv_11_i_0 : V16 (11, i, 0) = .inr (7, [.int p, .ref b5, .null, .null, .int 1, .int 0, .int 0]) := by rw [← hV16]; exact (if_neg (by simp)).trans ((if_neg (by simp)).trans (hv_11_i_0))
  have hv_12_i_0 : V16 (12, i, 0) = .inl (cy 3, 5, .inr (.inr (.inr (.inr (va_up (fun _ => none) 0 (some b8)))))) := by rw [← hV16]; exact (if_neg (by simp)).trans ((if_neg (by simp)).trans (hv_12_i_0))
  have hv_18_i_0 : V16 (18, i, 0) = .inr (5, [.ref (L10 (19, i, 0)), .int 0, .int 0]) := by rw [← hV16]; exact (if_neg (by simp)).trans ((if_neg (by simp)).trans (hv_18_i_0))
  have hv_19_i_0 : V16 (19, i, 0) = .inl (cy 0, 100, .inl (fun _ => 0)) := by rw [← hV16]; exact (if_neg (by simp)).trans ((if_neg (by simp)).trans (hv_19_i_0))
  have hv_18_i_1 : V16 (18, i, 1) = .inr (5, [.ref (L15 (19, i, 1)), .int 0, .int 0]) := by rw [← hV16]; exact if_pos rfl
  have hv_19_i_1 : V16 (19, i, 1) = .inl (cy 0, 100, .inl (fun _ => 0)) := by rw [← hV16]; exact (if_neg (by simp)).trans (if_pos rfl)
  have hVo : ∀ y, y ≠ (11, i, 0) ∧ y ≠ (12, i, 0) ∧ y ≠ (18, i, 0) ∧ y ≠ (19, i, 0) ∧ y ≠ (18, i, 1) ∧ y ≠ (19, i, 1) ∧ y ≠ (18, i, 2) ∧ y ≠ (19, i, 2) ∧ y ≠ (18, i, 3) ∧ y ≠ (19, i, 3) ∧ y ≠ (18, i, 4) ∧ y ≠ (19, i, 4) ∧ y ≠ (13, i, 0) ∧ y ≠ (14, i, 0) ∧ y ≠ (15, i, 0) ∧ y ≠ (16, i, 0) ∧ y ≠ (17, i, 0) ∧ y ≠ (20, i, 0) ∧ y ≠ (21, i, 0) → V16 y = V y := fun y hy => by rw [← hV16]; exact (if_neg (fun q => by subst q; simp at hy)).trans ((if_neg (fun q => by subst q; simp at hy)).trans (hVo y hy))
  refine h_astq hx hb hK hG hS (12, i, 0) hd_12_i_0 e_12_i_0 (hAn _ ha5) 3 5 (r := (RX3, TX3, 3)) hv_12_i_0 rfl (18, i, 1) hd_18_i_1 e_18_i_1 hv_18_i_1 rfl (g_vp (by decide) (by decide)) dX5_init_65 (fun H locs hG hS => ?_)
  have hG : g_H D vwCl _ L15 (g_set V16 (12, i, 0) (.inl (cy 3, 5, .inr (.inr (.inr (.inr (va_up (va_up (fun _ => none) 0 (some b8)) 1 (some b13)))))))) H := hG
  generalize hV17 : g_set V16 (12, i, 0) (.inl (cy 3, 5, .inr (.inr (.inr (.inr (va_up (va_up (fun _ => none) 0 (some b8)) 1 (some b13))))))) = V17 at hG
  have hv_11_i_0 : V17 (11, i, 0) = .inr (7, [.int p, .ref b5, .null, .null, .int 1, .int 0, .int 0]) := by rw [← hV17, g_set_ne (by simp)]; exact hv_11_i_0
  have hv_18_i_0 : V17 (18, i, 0) = .inr (5, [.ref (L10 (19, i, 0)), .int 0, .int 0]) := by rw [← hV17, g_set_ne (by simp)]; exact hv_18_i_0
  have hv_19_i_0 : V17 (19, i, 0) = .inl (cy 0, 100, .inl (fun _ => 0)) := by rw [← hV17, g_set_ne (by simp)]; exact hv_19_i_0
  have hv_18_i_1 : V17 (18, i, 1) = .inr (5, [.ref (L15 (19, i, 1)), .int 0, .int 0]) := by rw [← hV17, g_set_ne (by simp)]; exact hv_18_i_1
  have hv_19_i_1 : V17 (19, i, 1) = .inl (cy 0, 100, .inl (fun _ => 0)) := by rw [← hV17, g_set_ne (by simp)]; exact hv_19_i_1
  have hv_12_i_0 : V17 (12, i, 0) = .inl (cy 3, 5, .inr (.inr (.inr (.inr (va_up (va_up (fun _ => none) 0 (some b8)) 1 (some b13)))))) := by rw [← hV17, g_set_self]
  have hVo : ∀ y, y ≠ (11, i, 0) ∧ y ≠ (12, i, 0) ∧ y ≠ (18, i, 0) ∧ y ≠ (19, i, 0) ∧ y ≠ (18, i, 1) ∧ y ≠ (19, i, 1) ∧ y ≠ (18, i, 2) ∧ y ≠ (19, i, 2) ∧ y ≠ (18, i, 3) ∧ y ≠ (19, i, 3) ∧ y ≠ (18, i, 4) ∧ y ≠ (19, i, 4) ∧ y ≠ (13, i, 0) ∧ y ≠ (14, i, 0) ∧ y ≠ (15, i, 0) ∧ y ≠ (16, i, 0) ∧ y ≠ (17, i, 0) ∧ y ≠ (20, i, 0) ∧ y ≠ (21, i, 0) → V17 y = V y := fun y hy => by rw [← hV17, g_set_ne (fun q => hy.2.1 q)]; first | done | exact hVo y hy
  refine lv_iinc (v := 2) (lv' := [(3, .int 2), (0, .ref a0), (1, .int p), (2, .int q)]) hx hb dX5_init_66 hl (k := 0) rfl (by decide) (by decide) rfl (fun ls hl => ?_)
  refine lv_goto (tgt := 44) hx hb dX5_init_69 (by decide) ?_
  refine lv_iload_n hx hb dX5_init_44 rfl (lv_at hl 0 rfl) ?_
  refine lv_aload_n hx hb dX5_init_45 rfl (lv_at hl 1 rfl) ?_
  refine h_get (C := RX5) (T := TX5) (N := 7) (ci := 7) (v := .ref b5) hx hb hts inX5g hown hK hG (11, i, 0) hd_11_i_0 e_11_i_0 hv_11_i_0 rfl 1 (by decide) fl_X5_27 rfl dX5_init_46 ?_
  refine h_alen (v := 5) hx hb hK hG (12, i, 0) hd_12_i_0 e_12_i_0 3 hv_12_i_0 rfl rfl dX5_init_49 ?_
  refine kz_icmp_ge (X := 2) (Y := 5) hx hb (by decide) (by decide) dX5_init_50 (tgt := 72) (by decide) (fun c50 => absurd c50 (by decide)) (fun c50 => ?_)
  refine lv_aload_n hx hb dX5_init_53 rfl (lv_at hl 1 rfl) ?_
  refine h_get (C := RX5) (T := TX5) (N := 7) (ci := 7) (v := .ref b5) hx hb hts inX5g hown hK hG (11, i, 0) hd_11_i_0 e_11_i_0 hv_11_i_0 rfl 1 (by decide) fl_X5_27 rfl dX5_init_54 ?_
  refine lv_iload_n hx hb dX5_init_57 rfl (lv_at hl 0 rfl) ?_
  refine h_newo (C := RX3) (T := TX3) (N := 3) (ci := 5) (fs := [.null, .int 0, .int 0]) hx hb hts inX3g tyX3_ok hown cl_X5_25 ins_X3 ini_X3 hK hG hS (18, i, 2) hf_18_i_2 rfl (fun j hj => by rcases (show j = 0 ∨ j = 1 ∨ j = 2 by omega) with rfl | rfl | rfl <;> rfl) (Nat.le_of_ble_eq_true rfl) (Nat.le_of_ble_eq_true rfl) dX5_init_58 (fun L18 b18 H hL9 e_18_i_2 ha18 hG hS hz9 o9 => ?_)
  have hs_12_i_0 : s.heap.size ≤ L18 (12, i, 0) := by rw [hL9 _ hd_12_i_0]; exact hs_12_i_0
  have hs_18_i_0 : s.heap.size ≤ L18 (18, i, 0) := by rw [hL9 _ hd_18_i_0]; exact hs_18_i_0
  have hs_19_i_0 : s.heap.size ≤ L18 (19, i, 0) := by rw [hL9 _ hd_19_i_0]; exact hs_19_i_0
  have hs_18_i_1 : s.heap.size ≤ L18 (18, i, 1) := by rw [hL9 _ hd_18_i_1]; exact hs_18_i_1
  have hs_19_i_1 : s.heap.size ≤ L18 (19, i, 1) := by rw [hL9 _ hd_19_i_1]; exact hs_19_i_1
  have hs_18_i_2 : s.heap.size ≤ L18 (18, i, 2) := by rw [e_18_i_2]; exact ha18
  have e_11_i_0 := (hL9 _ hd_11_i_0).trans e_11_i_0
  have e_12_i_0 := (hL9 _ hd_12_i_0).trans e_12_i_0
  have e_18_i_0 := (hL9 _ hd_18_i_0).trans e_18_i_0
  have e_19_i_0 := (hL9 _ hd_19_i_0).trans e_19_i_0
  have e_18_i_1 := (hL9 _ hd_18_i_1).trans e_18_i_1
  have e_19_i_1 := (hL9 _ hd_19_i_1).trans e_19_i_1
  have hLL := fun y (hy : dom y) => (hL9 y (hdd y hy)).trans (hLL y hy)
  have hdd := fun y (hy : dom y) => hG.inO (hdd y hy)
  have hd_11_i_0 := hG.inO hd_11_i_0
  have hd_12_i_0 := hG.inO hd_12_i_0
  have hd_18_i_0 := hG.inO hd_18_i_0
  have hd_19_i_0 := hG.inO hd_19_i_0
  have hd_18_i_1 := hG.inO hd_18_i_1
  have hd_19_i_1 := hG.inO hd_19_i_1
  have hd_18_i_2 := hG.inX
  have hf_19_i_2 := hG.notin hf_19_i_2 (by simp)
  have hf_18_i_3 := hG.notin hf_18_i_3 (by simp)
  have hf_19_i_3 := hG.notin hf_19_i_3 (by simp)
  have hf_18_i_4 := hG.notin hf_18_i_4 (by simp)
  have hf_19_i_4 := hG.notin hf_19_i_4 (by simp)
  have hf_13_i_0 := hG.notin hf_13_i_0 (by simp)
  have hf_14_i_0 := hG.notin hf_14_i_0 (by simp)
  have hf_15_i_0 := hG.notin hf_15_i_0 (by simp)
  have hf_16_i_0 := hG.notin hf_16_i_0 (by simp)
  have hf_17_i_0 := hG.notin hf_17_i_0 (by simp)
  have hf_20_i_0 := hG.notin hf_20_i_0 (by simp)
  have hf_21_i_0 := hG.notin hf_21_i_0 (by simp)
  generalize hV19 : g_set V17 (18, i, 2) (.inr (5, [.null, .int 0, .int 0])) = V19 at hG
  have hv_11_i_0 : V19 (11, i, 0) = .inr (7, [.int p, .ref b5, .null, .null, .int 1, .int 0, .int 0]) := by rw [← hV19, g_set_ne (by simp)]; exact hv_11_i_0
  have hv_12_i_0 : V19 (12, i, 0) = .inl (cy 3, 5, .inr (.inr (.inr (.inr (va_up (va_up (fun _ => none) 0 (some b8)) 1 (some b13)))))) := by rw [← hV19, g_set_ne (by simp)]; exact hv_12_i_0
  have hv_18_i_0 : V19 (18, i, 0) = .inr (5, [.ref (L10 (19, i, 0)), .int 0, .int 0]) := by rw [← hV19, g_set_ne (by simp)]; exact hv_18_i_0
  have hv_19_i_0 : V19 (19, i, 0) = .inl (cy 0, 100, .inl (fun _ => 0)) := by rw [← hV19, g_set_ne (by simp)]; exact hv_19_i_0
  have hv_18_i_1 : V19 (18, i, 1) = .inr (5, [.ref (L15 (19, i, 1)), .int 0, .int 0]) := by rw [← hV19, g_set_ne (by simp)]; exact hv_18_i_1
  have hv_19_i_1 : V19 (19, i, 1) = .inl (cy 0, 100, .inl (fun _ => 0)) := by rw [← hV19, g_set_ne (by simp)]; exact hv_19_i_1
  have hv_18_i_2 : V19 (18, i, 2) = .inr (5, [.null, .int 0, .int 0]) := by rw [← hV19, g_set_self]
  have hVo : ∀ y, y ≠ (11, i, 0) ∧ y ≠ (12, i, 0) ∧ y ≠ (18, i, 0) ∧ y ≠ (19, i, 0) ∧ y ≠ (18, i, 1) ∧ y ≠ (19, i, 1) ∧ y ≠ (18, i, 2) ∧ y ≠ (19, i, 2) ∧ y ≠ (18, i, 3) ∧ y ≠ (19, i, 3) ∧ y ≠ (18, i, 4) ∧ y ≠ (19, i, 4) ∧ y ≠ (13, i, 0) ∧ y ≠ (14, i, 0) ∧ y ≠ (15, i, 0) ∧ y ≠ (16, i, 0) ∧ y ≠ (17, i, 0) ∧ y ≠ (20, i, 0) ∧ y ≠ (21, i, 0) → V19 y = V y := fun y hy => by rw [← hV19, g_set_ne (fun q => hy.2.2.2.2.2.2.1 q)]; first | done | exact hVo y hy
  refine lv_dup hx hb dX5_init_61 rfl ?_
  have hz0 := hS.1
  refine h_cont (va_runIN (As := []) (rest := [.ref b18, .int 2, .ref b5]) ⟨hx, hb, hml, hown, hts⟩ (k_X3_init l D cy _ L18 V19 H.size i 2 b18 e_18_i_2 hd_18_i_2 hv_18_i_2 hf_19_i_2) ⟨va_cnB 0 hts (g_good cwd_X3_init) rfl rfl rfl hN.2.1.2.1 (hts _ ini_X3) (by decide +kernel) ⟨Nat.le_of_ble_eq_true rfl, Nat.le_of_ble_eq_true rfl⟩, rfl, hts _ im_X3_init⟩ (h_pre hK hN hG) rfl rfl hl.1 rfl (lv_room (Nat.le_of_ble_eq_true rfl)) dX5_init_62 ⟨Nat.le_of_ble_eq_true rfl, Nat.le_of_ble_eq_true rfl⟩) hS (fun q hq => hq.elim (fun e9 => by rw [e9]; exact (hAn _ ha18)) (fun h9 => hAn q (Nat.le_trans hS.1 h9))) (fun L20 H locs hL9 hn9 hG hS hz9 o9 => ?_)
  refine W.eq (g2 := F0 m 65 ls [.ref b18, .int 2, .ref b5]) rfl ?_
  have hs_12_i_0 : s.heap.size ≤ L20 (12, i, 0) := by rw [hL9 _ hd_12_i_0]; exact hs_12_i_0
  have hs_18_i_0 : s.heap.size ≤ L20 (18, i, 0) := by rw [hL9 _ hd_18_i_0]; exact hs_18_i_0
  have hs_19_i_0 : s.heap.size ≤ L20 (19, i, 0) := by rw [hL9 _ hd_19_i_0]; exact hs_19_i_0
  have hs_18_i_1 : s.heap.size ≤ L20 (18, i, 1) := by rw [hL9 _ hd_18_i_1]; exact hs_18_i_1
  have hs_19_i_1 : s.heap.size ≤ L20 (19, i, 1) := by rw [hL9 _ hd_19_i_1]; exact hs_19_i_1
  have hs_18_i_2 : s.heap.size ≤ L20 (18, i, 2) := by rw [hL9 _ hd_18_i_2]; exact hs_18_i_2
  have hs_19_i_2 : s.heap.size ≤ L20 (19, i, 2) := Nat.le_trans hz0 ((hn9 (19, i, 2) (Or.inr (by simp))).resolve_left hf_19_i_2)
  have e_11_i_0 := (hL9 _ hd_11_i_0).trans e_11_i_0
  have e_12_i_0 := (hL9 _ hd_12_i_0).trans e_12_i_0
  have e_18_i_0 := (hL9 _ hd_18_i_0).trans e_18_i_0
  have e_19_i_0 := (hL9 _ hd_19_i_0).trans e_19_i_0
  have e_18_i_1 := (hL9 _ hd_18_i_1).trans e_18_i_1
  have e_19_i_1 := (hL9 _ hd_19_i_1).trans e_19_i_1
  have e_18_i_2 := (hL9 _ hd_18_i_2).trans e_18_i_2
  have hLL := fun y (hy : dom y) => (hL9 y (hdd y hy)).trans (hLL y hy)
  have hdd := fun y (hy : dom y) => hG.uL (hdd y hy)
  have hd_11_i_0 := hG.uL hd_11_i_0
  have hd_12_i_0 := hG.uL hd_12_i_0
  have hd_18_i_0 := hG.uL hd_18_i_0
  have hd_19_i_0 := hG.uL hd_19_i_0
  have hd_18_i_1 := hG.uL hd_18_i_1
  have hd_19_i_1 := hG.uL hd_19_i_1
  have hd_18_i_2 := hG.uL hd_18_i_2
  have hd_19_i_2 := hG.uR (y := (19, i, 2)) (by simp)
  have e_19_i_2 : L20 (19, i, 2) = L20 (19, i, 2) := rfl
  have hf_18_i_3 := hG.uN hf_18_i_3 (by simp)
  have hf_19_i_3 := hG.uN hf_19_i_3 (by simp)
  have hf_18_i_4 := hG.uN hf_18_i_4 (by simp)
  have hf_19_i_4 := hG.uN hf_19_i_4 (by simp)
  have hf_13_i_0 := hG.uN hf_13_i_0 (by simp)
  have hf_14_i_0 := hG.uN hf_14_i_0 (by simp)
  have hf_15_i_0 := hG.uN hf_15_i_0 (by simp)
  have hf_16_i_0 := hG.uN hf_16_i_0 (by simp)
  have hf_17_i_0 := hG.uN hf_17_i_0 (by simp)
  have hf_20_i_0 := hG.uN hf_20_i_0 (by simp)
  have hf_21_i_0 := hG.uN hf_21_i_0 (by simp)
  have hG : g_H D vwCl _ L20 (fun x => if x = (18, i, 2) then .inr (5, [.ref (L20 (19, i, 2)), .int 0, .int 0]) else if x = (19, i, 2) then .inl (cy 0, 100, .inl (fun _ => 0)) else V19 x) H := hG
  generalize hV21 : (fun x => if x = (18, i, 2) then .inr (5, [.ref (L20 (19, i, 2)), .int 0, .int 0]) else if x = (19, i, 2) then .inl (cy 0, 100, .inl (fun _ => 0)) else V19 x) = V21 at hG
  have hv_11_i_0 : V21 (11, i, 0) = .inr (7, [.int p, .ref b5, .null, .null, .int 1, .int 0, .int 0]) := by rw [← hV21]; exact (if_neg (by simp)).trans ((if_neg (by simp)).trans (hv_11_i_0))
  have hv_12_i_0 : V21 (12, i, 0) = .inl (cy 3, 5, .inr (.inr (.inr (.inr (va_up (va_up (fun _ => none) 0 (some b8)) 1 (some b13)))))) := by rw [← hV21]; exact (if_neg (by simp)).trans ((if_neg (by simp)).trans (hv_12_i_0))
  have hv_18_i_0 : V21 (18, i, 0) = .inr (5, [.ref (L10 (19, i, 0)), .int 0, .int 0]) := by rw [← hV21]; exact (if_neg (by simp)).trans ((if_neg (by simp)).trans (hv_18_i_0))
  have hv_19_i_0 : V21 (19, i, 0) = .inl (cy 0, 100, .inl (fun _ => 0)) := by rw [← hV21]; exact (if_neg (by simp)).trans ((if_neg (by simp)).trans (hv_19_i_0))
  have hv_18_i_1 : V21 (18, i, 1) = .inr (5, [.ref (L15 (19, i, 1)), .int 0, .int 0]) := by rw [← hV21]; exact (if_neg (by simp)).trans ((if_neg (by simp)).trans (hv_18_i_1))
  have hv_19_i_1 : V21 (19, i, 1) = .inl (cy 0, 100, .inl (fun _ => 0)) := by rw [← hV21]; exact (if_neg (by simp)).trans ((if_neg (by simp)).trans (hv_19_i_1))
  have hv_18_i_2 : V21 (18, i, 2) = .inr (5, [.ref (L20 (19, i, 2)), .int 0, .int 0]) := by rw [← hV21]; exact if_pos rfl
  have hv_19_i_2 : V21 (19, i, 2) = .inl (cy 0, 100, .inl (fun _ => 0)) := by rw [← hV21]; exact (if_neg (by simp)).trans (if_pos rfl)
  have hVo : ∀ y, y ≠ (11, i, 0) ∧ y ≠ (12, i, 0) ∧ y ≠ (18, i, 0) ∧ y ≠ (19, i, 0) ∧ y ≠ (18, i, 1) ∧ y ≠ (19, i, 1) ∧ y ≠ (18, i, 2) ∧ y ≠ (19, i, 2) ∧ y ≠ (18, i, 3) ∧ y ≠ (19, i, 3) ∧ y ≠ (18, i, 4) ∧ y ≠ (19, i, 4) ∧ y ≠ (13, i, 0) ∧ y ≠ (14, i, 0) ∧ y ≠ (15, i, 0) ∧ y ≠ (16, i, 0) ∧ y ≠ (17, i, 0) ∧ y ≠ (20, i, 0) ∧ y ≠ (21, i, 0) → V21 y = V y := fun y hy => by rw [← hV21]; exact (if_neg (fun q => by subst q; simp at hy)).trans ((if_neg (fun q => by subst q; simp at hy)).trans (hVo y hy))
  refine h_astq hx hb hK hG hS (12, i, 0) hd_12_i_0 e_12_i_0 (hAn _ ha5) 3 5 (r := (RX3, TX3, 3)) hv_12_i_0 rfl (18, i, 2) hd_18_i_2 e_18_i_2 hv_18_i_2 rfl (g_vp (by decide) (by decide)) dX5_init_65 (fun H locs hG hS => ?_)
  have hG : g_H D vwCl _ L20 (g_set V21 (12, i, 0) (.inl (cy 3, 5, .inr (.inr (.inr (.inr (va_up (va_up (va_up (fun _ => none) 0 (some b8)) 1 (some b13)) 2 (some b18)))))))) H := hG
  generalize hV22 : g_set V21 (12, i, 0) (.inl (cy 3, 5, .inr (.inr (.inr (.inr (va_up (va_up (va_up (fun _ => none) 0 (some b8)) 1 (some b13)) 2 (some b18))))))) = V22 at hG
  have hv_11_i_0 : V22 (11, i, 0) = .inr (7, [.int p, .ref b5, .null, .null, .int 1, .int 0, .int 0]) := by rw [← hV22, g_set_ne (by simp)]; exact hv_11_i_0
  have hv_18_i_0 : V22 (18, i, 0) = .inr (5, [.ref (L10 (19, i, 0)), .int 0, .int 0]) := by rw [← hV22, g_set_ne (by simp)]; exact hv_18_i_0
  have hv_19_i_0 : V22 (19, i, 0) = .inl (cy 0, 100, .inl (fun _ => 0)) := by rw [← hV22, g_set_ne (by simp)]; exact hv_19_i_0
  have hv_18_i_1 : V22 (18, i, 1) = .inr (5, [.ref (L15 (19, i, 1)), .int 0, .int 0]) := by rw [← hV22, g_set_ne (by simp)]; exact hv_18_i_1
  have hv_19_i_1 : V22 (19, i, 1) = .inl (cy 0, 100, .inl (fun _ => 0)) := by rw [← hV22, g_set_ne (by simp)]; exact hv_19_i_1
  have hv_18_i_2 : V22 (18, i, 2) = .inr (5, [.ref (L20 (19, i, 2)), .int 0, .int 0]) := by rw [← hV22, g_set_ne (by simp)]; exact hv_18_i_2
  have hv_19_i_2 : V22 (19, i, 2) = .inl (cy 0, 100, .inl (fun _ => 0)) := by rw [← hV22, g_set_ne (by simp)]; exact hv_19_i_2
  have hv_12_i_0 : V22 (12, i, 0) = .inl (cy 3, 5, .inr (.inr (.inr (.inr (va_up (va_up (va_up (fun _ => none) 0 (some b8)) 1 (some b13)) 2 (some b18)))))) := by rw [← hV22, g_set_self]
  have hVo : ∀ y, y ≠ (11, i, 0) ∧ y ≠ (12, i, 0) ∧ y ≠ (18, i, 0) ∧ y ≠ (19, i, 0) ∧ y ≠ (18, i, 1) ∧ y ≠ (19, i, 1) ∧ y ≠ (18, i, 2) ∧ y ≠ (19, i, 2) ∧ y ≠ (18, i, 3) ∧ y ≠ (19, i, 3) ∧ y ≠ (18, i, 4) ∧ y ≠ (19, i, 4) ∧ y ≠ (13, i, 0) ∧ y ≠ (14, i, 0) ∧ y ≠ (15, i, 0) ∧ y ≠ (16, i, 0) ∧ y ≠ (17, i, 0) ∧ y ≠ (20, i, 0) ∧ y ≠ (21, i, 0) → V22 y = V y := fun y hy => by rw [← hV22, g_set_ne (fun q => hy.2.1 q)]; first | done | exact hVo y hy
  refine lv_iinc (v := 3) (lv' := [(3, .int 3), (0, .ref a0), (1, .int p), (2, .int q)]) hx hb dX5_init_66 hl (k := 0) rfl (by decide) (by decide) rfl (fun ls hl => ?_)
  refine lv_goto (tgt := 44) hx hb dX5_init_69 (by decide) ?_
  refine lv_iload_n hx hb dX5_init_44 rfl (lv_at hl 0 rfl) ?_
  refine lv_aload_n hx hb dX5_init_45 rfl (lv_at hl 1 rfl) ?_
  refine h_get (C := RX5) (T := TX5) (N := 7) (ci := 7) (v := .ref b5) hx hb hts inX5g hown hK hG (11, i, 0) hd_11_i_0 e_11_i_0 hv_11_i_0 rfl 1 (by decide) fl_X5_27 rfl dX5_init_46 ?_
  refine h_alen (v := 5) hx hb hK hG (12, i, 0) hd_12_i_0 e_12_i_0 3 hv_12_i_0 rfl rfl dX5_init_49 ?_
  refine kz_icmp_ge (X := 3) (Y := 5) hx hb (by decide) (by decide) dX5_init_50 (tgt := 72) (by decide) (fun c50 => absurd c50 (by decide)) (fun c50 => ?_)
  refine lv_aload_n hx hb dX5_init_53 rfl (lv_at hl 1 rfl) ?_
  refine h_get (C := RX5) (T := TX5) (N := 7) (ci := 7) (v := .ref b5) hx hb hts inX5g hown hK hG (11, i, 0) hd_11_i_0 e_11_i_0 hv_11_i_0 rfl 1 (by decide) fl_X5_27 rfl dX5_init_54 ?_
  refine lv_iload_n hx hb dX5_init_57 rfl (lv_at hl 0 rfl) ?_
  refine h_newo (C := RX3) (T := TX3) (N := 3) (ci := 5) (fs := [.null, .int 0, .int 0]) hx hb hts inX3g tyX3_ok hown cl_X5_25 ins_X3 ini_X3 hK hG hS (18, i, 3) hf_18_i_3 rfl (fun j hj => by rcases (show j = 0 ∨ j = 1 ∨ j = 2 by omega) with rfl | rfl | rfl <;> rfl) (Nat.le_of_ble_eq_true rfl) (Nat.le_of_ble_eq_true rfl) dX5_init_58 (fun L23 b23 H hL9 e_18_i_3 ha23 hG hS hz9 o9 => ?_)
  have hs_12_i_0 : s.heap.size ≤ L23 (12, i, 0) := by rw [hL9 _ hd_12_i_0]; exact hs_12_i_0
  have hs_18_i_0 : s.heap.size ≤ L23 (18, i, 0) := by rw [hL9 _ hd_18_i_0]; exact hs_18_i_0
  have hs_19_i_0 : s.heap.size ≤ L23 (19, i, 0) := by rw [hL9 _ hd_19_i_0]; exact hs_19_i_0
  have hs_18_i_1 : s.heap.size ≤ L23 (18, i, 1) := by rw [hL9 _ hd_18_i_1]; exact hs_18_i_1
  have hs_19_i_1 : s.heap.size ≤ L23 (19, i, 1) := by rw [hL9 _ hd_19_i_1]; exact hs_19_i_1
  have hs_18_i_2 : s.heap.size ≤ L23 (18, i, 2) := by rw [hL9 _ hd_18_i_2]; exact hs_18_i_2
  have hs_19_i_2 : s.heap.size ≤ L23 (19, i, 2) := by rw [hL9 _ hd_19_i_2]; exact hs_19_i_2
  have hs_18_i_3 : s.heap.size ≤ L23 (18, i, 3) := by rw [e_18_i_3]; exact ha23
  have e_11_i_0 := (hL9 _ hd_11_i_0).trans e_11_i_0
  have e_12_i_0 := (hL9 _ hd_12_i_0).trans e_12_i_0
  have e_18_i_0 := (hL9 _ hd_18_i_0).trans e_18_i_0
  have e_19_i_0 := (hL9 _ hd_19_i_0).trans e_19_i_0
  have e_18_i_1 := (hL9 _ hd_18_i_1).trans e_18_i_1
  have e_19_i_1 := (hL9 _ hd_19_i_1).trans e_19_i_1
  have e_18_i_2 := (hL9 _ hd_18_i_2).trans e_18_i_2
  have e_19_i_2 := (hL9 _ hd_19_i_2).trans e_19_i_2
  have hLL := fun y (hy : dom y) => (hL9 y (hdd y hy)).trans (hLL y hy)
  have hdd := fun y (hy : dom y) => hG.inO (hdd y hy)
  have hd_11_i_0 := hG.inO hd_11_i_0
  have hd_12_i_0 := hG.inO hd_12_i_0
  have hd_18_i_0 := hG.inO hd_18_i_0
  have hd_19_i_0 := hG.inO hd_19_i_0
  have hd_18_i_1 := hG.inO hd_18_i_1
  have hd_19_i_1 := hG.inO hd_19_i_1
  have hd_18_i_2 := hG.inO hd_18_i_2
  have hd_19_i_2 := hG.inO hd_19_i_2
  have hd_18_i_3 := hG.inX
  have hf_19_i_3 := hG.notin hf_19_i_3 (by simp)
  have hf_18_i_4 := hG.notin hf_18_i_4 (by simp)
  have hf_19_i_4 := hG.notin hf_19_i_4 (by simp)
  have hf_13_i_0 := hG.notin hf_13_i_0 (by simp)
  have hf_14_i_0 := hG.notin hf_14_i_0 (by simp)
  have hf_15_i_0 := hG.notin hf_15_i_0 (by simp)
  have hf_16_i_0 := hG.notin hf_16_i_0 (by simp)
  have hf_17_i_0 := hG.notin hf_17_i_0 (by simp)
  have hf_20_i_0 := hG.notin hf_20_i_0 (by simp)
  have hf_21_i_0 := hG.notin hf_21_i_0 (by simp)
  generalize hV24 : g_set V22 (18, i, 3) (.inr (5, [.null, .int 0, .int 0])) = V24 at hG
  have hv_11_i_0 : V24 (11, i, 0) = .inr (7, [.int p, .ref b5, .null, .null, .int 1, .int 0, .int 0]) := by rw [← hV24, g_set_ne (by simp)]; exact hv_11_i_0
  have hv_12_i_0 : V24 (12, i, 0) = .inl (cy 3, 5, .inr (.inr (.inr (.inr (va_up (va_up (va_up (fun _ => none) 0 (some b8)) 1 (some b13)) 2 (some b18)))))) := by rw [← hV24, g_set_ne (by simp)]; exact hv_12_i_0
  have hv_18_i_0 : V24 (18, i, 0) = .inr (5, [.ref (L10 (19, i, 0)), .int 0, .int 0]) := by rw [← hV24, g_set_ne (by simp)]; exact hv_18_i_0
  have hv_19_i_0 : V24 (19, i, 0) = .inl (cy 0, 100, .inl (fun _ => 0)) := by rw [← hV24, g_set_ne (by simp)]; exact hv_19_i_0
  have hv_18_i_1 : V24 (18, i, 1) = .inr (5, [.ref (L15 (19, i, 1)), .int 0, .int 0]) := by rw [← hV24, g_set_ne (by simp)]; exact hv_18_i_1
  have hv_19_i_1 : V24 (19, i, 1) = .inl (cy 0, 100, .inl (fun _ => 0)) := by rw [← hV24, g_set_ne (by simp)]; exact hv_19_i_1
  have hv_18_i_2 : V24 (18, i, 2) = .inr (5, [.ref (L20 (19, i, 2)), .int 0, .int 0]) := by rw [← hV24, g_set_ne (by simp)]; exact hv_18_i_2
  have hv_19_i_2 : V24 (19, i, 2) = .inl (cy 0, 100, .inl (fun _ => 0)) := by rw [← hV24, g_set_ne (by simp)]; exact hv_19_i_2
  have hv_18_i_3 : V24 (18, i, 3) = .inr (5, [.null, .int 0, .int 0]) := by rw [← hV24, g_set_self]
  have hVo : ∀ y, y ≠ (11, i, 0) ∧ y ≠ (12, i, 0) ∧ y ≠ (18, i, 0) ∧ y ≠ (19, i, 0) ∧ y ≠ (18, i, 1) ∧ y ≠ (19, i, 1) ∧ y ≠ (18, i, 2) ∧ y ≠ (19, i, 2) ∧ y ≠ (18, i, 3) ∧ y ≠ (19, i, 3) ∧ y ≠ (18, i, 4) ∧ y ≠ (19, i, 4) ∧ y ≠ (13, i, 0) ∧ y ≠ (14, i, 0) ∧ y ≠ (15, i, 0) ∧ y ≠ (16, i, 0) ∧ y ≠ (17, i, 0) ∧ y ≠ (20, i, 0) ∧ y ≠ (21, i, 0) → V24 y = V y := fun y hy => by rw [← hV24, g_set_ne (fun q => hy.2.2.2.2.2.2.2.2.1 q)]; first | done | exact hVo y hy
  refine lv_dup hx hb dX5_init_61 rfl ?_
  have hz0 := hS.1
  refine h_cont (va_runIN (As := []) (rest := [.ref b23, .int 3, .ref b5]) ⟨hx, hb, hml, hown, hts⟩ (k_X3_init l D cy _ L23 V24 H.size i 3 b23 e_18_i_3 hd_18_i_3 hv_18_i_3 hf_19_i_3) ⟨va_cnB 0 hts (g_good cwd_X3_init) rfl rfl rfl hN.2.1.2.1 (hts _ ini_X3) (by decide +kernel) ⟨Nat.le_of_ble_eq_true rfl, Nat.le_of_ble_eq_true rfl⟩, rfl, hts _ im_X3_init⟩ (h_pre hK hN hG) rfl rfl hl.1 rfl (lv_room (Nat.le_of_ble_eq_true rfl)) dX5_init_62 ⟨Nat.le_of_ble_eq_true rfl, Nat.le_of_ble_eq_true rfl⟩) hS (fun q hq => hq.elim (fun e9 => by rw [e9]; exact (hAn _ ha23)) (fun h9 => hAn q (Nat.le_trans hS.1 h9))) (fun L25 H locs hL9 hn9 hG hS hz9 o9 => ?_)
  refine W.eq (g2 := F0 m 65 ls [.ref b23, .int 3, .ref b5]) rfl ?_
  have hs_12_i_0 : s.heap.size ≤ L25 (12, i, 0) := by rw [hL9 _ hd_12_i_0]; exact hs_12_i_0
  have hs_18_i_0 : s.heap.size ≤ L25 (18, i, 0) := by rw [hL9 _ hd_18_i_0]; exact hs_18_i_0
  have hs_19_i_0 : s.heap.size ≤ L25 (19, i, 0) := by rw [hL9 _ hd_19_i_0]; exact hs_19_i_0
  have hs_18_i_1 : s.heap.size ≤ L25 (18, i, 1) := by rw [hL9 _ hd_18_i_1]; exact hs_18_i_1
  have hs_19_i_1 : s.heap.size ≤ L25 (19, i, 1) := by rw [hL9 _ hd_19_i_1]; exact hs_19_i_1
  have hs_18_i_2 : s.heap.size ≤ L25 (18, i, 2) := by rw [hL9 _ hd_18_i_2]; exact hs_18_i_2
  have hs_19_i_2 : s.heap.size ≤ L25 (19, i, 2) := by rw [hL9 _ hd_19_i_2]; exact hs_19_i_2
  have hs_18_i_3 : s.heap.size ≤ L25 (18, i, 3) := by rw [hL9 _ hd_18_i_3]; exact hs_18_i_3
  have hs_19_i_3 : s.heap.size ≤ L25 (19, i, 3) := Nat.le_trans hz0 ((hn9 (19, i, 3) (Or.inr (by simp))).resolve_left hf_19_i_3)
  have e_11_i_0 := (hL9 _ hd_11_i_0).trans e_11_i_0
  have e_12_i_0 := (hL9 _ hd_12_i_0).trans e_12_i_0
  have e_18_i_0 := (hL9 _ hd_18_i_0).trans e_18_i_0
  have e_19_i_0 := (hL9 _ hd_19_i_0).trans e_19_i_0
  have e_18_i_1 := (hL9 _ hd_18_i_1).trans e_18_i_1
  have e_19_i_1 := (hL9 _ hd_19_i_1).trans e_19_i_1
  have e_18_i_2 := (hL9 _ hd_18_i_2).trans e_18_i_2
  have e_19_i_2 := (hL9 _ hd_19_i_2).trans e_19_i_2
  have e_18_i_3 := (hL9 _ hd_18_i_3).trans e_18_i_3
  have hLL := fun y (hy : dom y) => (hL9 y (hdd y hy)).trans (hLL y hy)
  have hdd := fun y (hy : dom y) => hG.uL (hdd y hy)
  have hd_11_i_0 := hG.uL hd_11_i_0
  have hd_12_i_0 := hG.uL hd_12_i_0
  have hd_18_i_0 := hG.uL hd_18_i_0
  have hd_19_i_0 := hG.uL hd_19_i_0
  have hd_18_i_1 := hG.uL hd_18_i_1
  have hd_19_i_1 := hG.uL hd_19_i_1
  have hd_18_i_2 := hG.uL hd_18_i_2
  have hd_19_i_2 := hG.uL hd_19_i_2
  have hd_18_i_3 := hG.uL hd_18_i_3
  have hd_19_i_3 := hG.uR (y := (19, i, 3)) (by simp)
  have e_19_i_3 : L25 (19, i, 3) = L25 (19, i, 3) := rfl
  have hf_18_i_4 := hG.uN hf_18_i_4 (by simp)
  have hf_19_i_4 := hG.uN hf_19_i_4 (by simp)
  have hf_13_i_0 := hG.uN hf_13_i_0 (by simp)
  have hf_14_i_0 := hG.uN hf_14_i_0 (by simp)
  have hf_15_i_0 := hG.uN hf_15_i_0 (by simp)
  have hf_16_i_0 := hG.uN hf_16_i_0 (by simp)
  have hf_17_i_0 := hG.uN hf_17_i_0 (by simp)
  have hf_20_i_0 := hG.uN hf_20_i_0 (by simp)
  have hf_21_i_0 := hG.uN hf_21_i_0 (by simp)
  have hG : g_H D vwCl _ L25 (fun x => if x = (18, i, 3) then .inr (5, [.ref (L25 (19, i, 3)), .int 0, .int 0]) else if x = (19, i, 3) then .inl (cy 0, 100, .inl (fun _ => 0)) else V24 x) H := hG
  generalize hV26 : (fun x => if x = (18, i, 3) then .inr (5, [.ref (L25 (19, i, 3)), .int 0, .int 0]) else if x = (19, i, 3) then .inl (cy 0, 100, .inl (fun _ => 0)) else V24 x) = V26 at hG
  have hv_11_i_0 : V26 (11, i, 0) = .inr (7, [.int p, .ref b5, .null, .null, .int 1, .int 0, .int 0]) := by rw [← hV26]; exact (if_neg (by simp)).trans ((if_neg (by simp)).trans (hv_11_i_0))
  have hv_12_i_0 : V26 (12, i, 0) = .inl (cy 3, 5, .inr (.inr (.inr (.inr (va_up (va_up (va_up (fun _ => none) 0 (some b8)) 1 (some b13)) 2 (some b18)))))) := by rw [← hV26]; exact (if_neg (by simp)).trans ((if_neg (by simp)).trans (hv_12_i_0))
  have hv_18_i_0 : V26 (18, i, 0) = .inr (5, [.ref (L10 (19, i, 0)), .int 0, .int 0]) := by rw [← hV26]; exact (if_neg (by simp)).trans ((if_neg (by simp)).trans (hv_18_i_0))
  have hv_19_i_0 : V26 (19, i, 0) = .inl (cy 0, 100, .inl (fun _ => 0)) := by rw [← hV26]; exact (if_neg (by simp)).trans ((if_neg (by simp)).trans (hv_19_i_0))
  have hv_18_i_1 : V26 (18, i, 1) = .inr (5, [.ref (L15 (19, i, 1)), .int 0, .int 0]) := by rw [← hV26]; exact (if_neg (by simp)).trans ((if_neg (by simp)).trans (hv_18_i_1))
  have hv_19_i_1 : V26 (19, i, 1) = .inl (cy 0, 100, .inl (fun _ => 0)) := by rw [← hV26]; exact (if_neg (by simp)).trans ((if_neg (by simp)).trans (hv_19_i_1))
  have hv_18_i_2 : V26 (18, i, 2) = .inr (5, [.ref (L20 (19, i, 2)), .int 0, .int 0]) := by rw [← hV26]; exact (if_neg (by simp)).trans ((if_neg (by simp)).trans (hv_18_i_2))
  have hv_19_i_2 : V26 (19, i, 2) = .inl (cy 0, 100, .inl (fun _ => 0)) := by rw [← hV26]; exact (if_neg (by simp)).trans ((if_neg (by simp)).trans (hv_19_i_2))
  have hv_18_i_3 : V26 (18, i, 3) = .inr (5, [.ref (L25 (19, i, 3)), .int 0, .int 0]) := by rw [← hV26]; exact if_pos rfl
  have hv_19_i_3 : V26 (19, i, 3) = .inl (cy 0, 100, .inl (fun _ => 0)) := by rw [← hV26]; exact (if_neg (by simp)).trans (if_pos rfl)
  have hVo : ∀ y, y ≠ (11, i, 0) ∧ y ≠ (12, i, 0) ∧ y ≠ (18, i, 0) ∧ y ≠ (19, i, 0) ∧ y ≠ (18, i, 1) ∧ y ≠ (19, i, 1) ∧ y ≠ (18, i, 2) ∧ y ≠ (19, i, 2) ∧ y ≠ (18, i, 3) ∧ y ≠ (19, i, 3) ∧ y ≠ (18, i, 4) ∧ y ≠ (19, i, 4) ∧ y ≠ (13, i, 0) ∧ y ≠ (14, i, 0) ∧ y ≠ (15, i, 0) ∧ y ≠ (16, i, 0) ∧ y ≠ (17, i, 0) ∧ y ≠ (20, i, 0) ∧ y ≠ (21, i, 0) → V26 y = V y := fun y hy => by rw [← hV26]; exact (if_neg (fun q => by subst q; simp at hy)).trans ((if_neg (fun q => by subst q; simp at hy)).trans (hVo y hy))
  refine h_astq hx hb hK hG hS (12, i, 0) hd_12_i_0 e_12_i_0 (hAn _ ha5) 3 5 (r := (RX3, TX3, 3)) hv_12_i_0 rfl (18, i, 3) hd_18_i_3 e_18_i_3 hv_18_i_3 rfl (g_vp (by decide) (by decide)) dX5_init_65 (fun H locs hG hS => ?_)
  have hG : g_H D vwCl _ L25 (g_set V26 (12, i, 0) (.inl (cy 3, 5, .inr (.inr (.inr (.inr (va_up (va_up (va_up (va_up (fun _ => none) 0 (some b8)) 1 (some b13)) 2 (some b18)) 3 (some b23)))))))) H := hG
  generalize hV27 : g_set V26 (12, i, 0) (.inl (cy 3, 5, .inr (.inr (.inr (.inr (va_up (va_up (va_up (va_up (fun _ => none) 0 (some b8)) 1 (some b13)) 2 (some b18)) 3 (some b23))))))) = V27 at hG
  have hv_11_i_0 : V27 (11, i, 0) = .inr (7, [.int p, .ref b5, .null, .null, .int 1, .int 0, .int 0]) := by rw [← hV27, g_set_ne (by simp)]; exact hv_11_i_0
  have hv_18_i_0 : V27 (18, i, 0) = .inr (5, [.ref (L10 (19, i, 0)), .int 0, .int 0]) := by rw [← hV27, g_set_ne (by simp)]; exact hv_18_i_0
  have hv_19_i_0 : V27 (19, i, 0) = .inl (cy 0, 100, .inl (fun _ => 0)) := by rw [← hV27, g_set_ne (by simp)]; exact hv_19_i_0
  have hv_18_i_1 : V27 (18, i, 1) = .inr (5, [.ref (L15 (19, i, 1)), .int 0, .int 0]) := by rw [← hV27, g_set_ne (by simp)]; exact hv_18_i_1
  have hv_19_i_1 : V27 (19, i, 1) = .inl (cy 0, 100, .inl (fun _ => 0)) := by rw [← hV27, g_set_ne (by simp)]; exact hv_19_i_1
  have hv_18_i_2 : V27 (18, i, 2) = .inr (5, [.ref (L20 (19, i, 2)), .int 0, .int 0]) := by rw [← hV27, g_set_ne (by simp)]; exact hv_18_i_2
  have hv_19_i_2 : V27 (19, i, 2) = .inl (cy 0, 100, .inl (fun _ => 0)) := by rw [← hV27, g_set_ne (by simp)]; exact hv_19_i_2
  have hv_18_i_3 : V27 (18, i, 3) = .inr (5, [.ref (L25 (19, i, 3)), .int 0, .int 0]) := by rw [← hV27, g_set_ne (by simp)]; exact hv_18_i_3
  have hv_19_i_3 : V27 (19, i, 3) = .inl (cy 0, 100, .inl (fun _ => 0)) := by rw [← hV27, g_set_ne (by simp)]; exact hv_19_i_3
  have hv_12_i_0 : V27 (12, i, 0) = .inl (cy 3, 5, .inr (.inr (.inr (.inr (va_up (va_up (va_up (va_up (fun _ => none) 0 (some b8)) 1 (some b13)) 2 (some b18)) 3 (some b23)))))) := by rw [← hV27, g_set_self]
  have hVo : ∀ y, y ≠ (11, i, 0) ∧ y ≠ (12, i, 0) ∧ y ≠ (18, i, 0) ∧ y ≠ (19, i, 0) ∧ y ≠ (18, i, 1) ∧ y ≠ (19, i, 1) ∧ y ≠ (18, i, 2) ∧ y ≠ (19, i, 2) ∧ y ≠ (18, i, 3) ∧ y ≠ (19, i, 3) ∧ y ≠ (18, i, 4) ∧ y ≠ (19, i, 4) ∧ y ≠ (13, i, 0) ∧ y ≠ (14, i, 0) ∧ y ≠ (15, i, 0) ∧ y ≠ (16, i, 0) ∧ y ≠ (17, i, 0) ∧ y ≠ (20, i, 0) ∧ y ≠ (21, i, 0) → V27 y = V y := fun y hy => by rw [← hV27, g_set_ne (fun q => hy.2.1 q)]; first | done | exact hVo y hy
  refine lv_iinc (v := 4) (lv' := [(3, .int 4), (0, .ref a0), (1, .int p), (2, .int q)]) hx hb dX5_init_66 hl (k := 0) rfl (by decide) (by decide) rfl (fun ls hl => ?_)
  refine lv_goto (tgt := 44) hx hb dX5_init_69 (by decide) ?_
  refine lv_iload_n hx hb dX5_init_44 rfl (lv_at hl 0 rfl) ?_
  refine lv_aload_n hx hb dX5_init_45 rfl (lv_at hl 1 rfl) ?_
  refine h_get (C := RX5) (T := TX5) (N := 7) (ci := 7) (v := .ref b5) hx hb hts inX5g hown hK hG (11, i, 0) hd_11_i_0 e_11_i_0 hv_11_i_0 rfl 1 (by decide) fl_X5_27 rfl dX5_init_46 ?_
  refine h_alen (v := 5) hx hb hK hG (12, i, 0) hd_12_i_0 e_12_i_0 3 hv_12_i_0 rfl rfl dX5_init_49 ?_
  refine kz_icmp_ge (X := 4) (Y := 5) hx hb (by decide) (by decide) dX5_init_50 (tgt := 72) (by decide) (fun c50 => absurd c50 (by decide)) (fun c50 => ?_)
  refine lv_aload_n hx hb dX5_init_53 rfl (lv_at hl 1 rfl) ?_
  refine h_get (C := RX5) (T := TX5) (N := 7) (ci := 7) (v := .ref b5) hx hb hts inX5g hown hK hG (11, i, 0) hd_11_i_0 e_11_i_0 hv_11_i_0 rfl 1 (by decide) fl_X5_27 rfl dX5_init_54 ?_
  refine lv_iload_n hx hb dX5_init_57 rfl (lv_at hl 0 rfl) ?_
  refine h_newo (C := RX3) (T := TX3) (N := 3) (ci := 5) (fs := [.null, .int 0, .int 0]) hx hb hts inX3g tyX3_ok hown cl_X5_25 ins_X3 ini_X3 hK hG hS (18, i, 4) hf_18_i_4 rfl (fun j hj => by rcases (show j = 0 ∨ j = 1 ∨ j = 2 by omega) with rfl | rfl | rfl <;> rfl) (Nat.le_of_ble_eq_true rfl) (Nat.le_of_ble_eq_true rfl) dX5_init_58 (fun L28 b28 H hL9 e_18_i_4 ha28 hG hS hz9 o9 => ?_)
  have hs_12_i_0 : s.heap.size ≤ L28 (12, i, 0) := by rw [hL9 _ hd_12_i_0]; exact hs_12_i_0
  have hs_18_i_0 : s.heap.size ≤ L28 (18, i, 0) := by rw [hL9 _ hd_18_i_0]; exact hs_18_i_0
  have hs_19_i_0 : s.heap.size ≤ L28 (19, i, 0) := by rw [hL9 _ hd_19_i_0]; exact hs_19_i_0
  have hs_18_i_1 : s.heap.size ≤ L28 (18, i, 1) := by rw [hL9 _ hd_18_i_1]; exact hs_18_i_1
  have hs_19_i_1 : s.heap.size ≤ L28 (19, i, 1) := by rw [hL9 _ hd_19_i_1]; exact hs_19_i_1
  have hs_18_i_2 : s.heap.size ≤ L28 (18, i, 2) := by rw [hL9 _ hd_18_i_2]; exact hs_18_i_2
  have hs_19_i_2 : s.heap.size ≤ L28 (19, i, 2) := by rw [hL9 _ hd_19_i_2]; exact hs_19_i_2
  have hs_18_i_3 : s.heap.size ≤ L28 (18, i, 3) := by rw [hL9 _ hd_18_i_3]; exact hs_18_i_3
  have hs_19_i_3 : s.heap.size ≤ L28 (19, i, 3) := by rw [hL9 _ hd_19_i_3]; exact hs_19_i_3
  have hs_18_i_4 : s.heap.size ≤ L28 (18, i, 4) := by rw [e_18_i_4]; exact ha28
  have e_11_i_0 := (hL9 _ hd_11_i_0).trans e_11_i_0
  have e_12_i_0 := (hL9 _ hd_12_i_0).trans e_12_i_0
  have e_18_i_0 := (hL9 _ hd_18_i_0).trans e_18_i_0
  have e_19_i_0 := (hL9 _ hd_19_i_0).trans e_19_i_0
  have e_18_i_1 := (hL9 _ hd_18_i_1).trans e_18_i_1
  have e_19_i_1 := (hL9 _ hd_19_i_1).trans e_19_i_1
  have e_18_i_2 := (hL9 _ hd_18_i_2).trans e_18_i_2
  have e_19_i_2 := (hL9 _ hd_19_i_2).trans e_19_i_2
  have e_18_i_3 := (hL9 _ hd_18_i_3).trans e_18_i_3
  have e_19_i_3 := (hL9 _ hd_19_i_3).trans e_19_i_3
  have hLL := fun y (hy : dom y) => (hL9 y (hdd y hy)).trans (hLL y hy)
  have hdd := fun y (hy : dom y) => hG.inO (hdd y hy)
  have hd_11_i_0 := hG.inO hd_11_i_0
  have hd_12_i_0 := hG.inO hd_12_i_0
  have hd_18_i_0 := hG.inO hd_18_i_0
  have hd_19_i_0 := hG.inO hd_19_i_0
  have hd_18_i_1 := hG.inO hd_18_i_1
  have hd_19_i_1 := hG.inO hd_19_i_1
  have hd_18_i_2 := hG.inO hd_18_i_2
  have hd_19_i_2 := hG.inO hd_19_i_2
  have hd_18_i_3 := hG.inO hd_18_i_3
  have hd_19_i_3 := hG.inO hd_19_i_3
  have hd_18_i_4 := hG.inX
  have hf_19_i_4 := hG.notin hf_19_i_4 (by simp)
  have hf_13_i_0 := hG.notin hf_13_i_0 (by simp)
  have hf_14_i_0 := hG.notin hf_14_i_0 (by simp)
  have hf_15_i_0 := hG.notin hf_15_i_0 (by simp)
  have hf_16_i_0 := hG.notin hf_16_i_0 (by simp)
  have hf_17_i_0 := hG.notin hf_17_i_0 (by simp)
  have hf_20_i_0 := hG.notin hf_20_i_0 (by simp)
  have hf_21_i_0 := hG.notin hf_21_i_0 (by simp)
  generalize hV29 : g_set V27 (18, i, 4) (.inr (5, [.null, .int 0, .int 0])) = V29 at hG
  have hv_11_i_0 : V29 (11, i, 0) = .inr (7, [.int p, .ref b5, .null, .null, .int 1, .int 0, .int 0]) := by rw [← hV29, g_set_ne (by simp)]; exact hv_11_i_0
  have hv_12_i_0 : V29 (12, i, 0) = .inl (cy 3, 5, .inr (.inr (.inr (.inr (va_up (va_up (va_up (va_up (fun _ => none) 0 (some b8)) 1 (some b13)) 2 (some b18)) 3 (some b23)))))) := by rw [← hV29, g_set_ne (by simp)]; exact hv_12_i_0
  have hv_18_i_0 : V29 (18, i, 0) = .inr (5, [.ref (L10 (19, i, 0)), .int 0, .int 0]) := by rw [← hV29, g_set_ne (by simp)]; exact hv_18_i_0
  have hv_19_i_0 : V29 (19, i, 0) = .inl (cy 0, 100, .inl (fun _ => 0)) := by rw [← hV29, g_set_ne (by simp)]; exact hv_19_i_0
  have hv_18_i_1 : V29 (18, i, 1) = .inr (5, [.ref (L15 (19, i, 1)), .int 0, .int 0]) := by rw [← hV29, g_set_ne (by simp)]; exact hv_18_i_1
  have hv_19_i_1 : V29 (19, i, 1) = .inl (cy 0, 100, .inl (fun _ => 0)) := by rw [← hV29, g_set_ne (by simp)]; exact hv_19_i_1
  have hv_18_i_2 : V29 (18, i, 2) = .inr (5, [.ref (L20 (19, i, 2)), .int 0, .int 0]) := by rw [← hV29, g_set_ne (by simp)]; exact hv_18_i_2
  have hv_19_i_2 : V29 (19, i, 2) = .inl (cy 0, 100, .inl (fun _ => 0)) := by rw [← hV29, g_set_ne (by simp)]; exact hv_19_i_2
  have hv_18_i_3 : V29 (18, i, 3) = .inr (5, [.ref (L25 (19, i, 3)), .int 0, .int 0]) := by rw [← hV29, g_set_ne (by simp)]; exact hv_18_i_3
  have hv_19_i_3 : V29 (19, i, 3) = .inl (cy 0, 100, .inl (fun _ => 0)) := by rw [← hV29, g_set_ne (by simp)]; exact hv_19_i_3
  have hv_18_i_4 : V29 (18, i, 4) = .inr (5, [.null, .int 0, .int 0]) := by rw [← hV29, g_set_self]
  have hVo : ∀ y, y ≠ (11, i, 0) ∧ y ≠ (12, i, 0) ∧ y ≠ (18, i, 0) ∧ y ≠ (19, i, 0) ∧ y ≠ (18, i, 1) ∧ y ≠ (19, i, 1) ∧ y ≠ (18, i, 2) ∧ y ≠ (19, i, 2) ∧ y ≠ (18, i, 3) ∧ y ≠ (19, i, 3) ∧ y ≠ (18, i, 4) ∧ y ≠ (19, i, 4) ∧ y ≠ (13, i, 0) ∧ y ≠ (14, i, 0) ∧ y ≠ (15, i, 0) ∧ y ≠ (16, i, 0) ∧ y ≠ (17, i, 0) ∧ y ≠ (20, i, 0) ∧ y ≠ (21, i, 0) → V29 y = V y := fun y hy => by rw [← hV29, g_set_ne (fun q => hy.2.2.2.2.2.2.2.2.2.2.1 q)]; first | done | exact hVo y hy
  refine lv_dup hx hb dX5_init_61 rfl ?_
  have hz0 := hS.1
  refine h_cont (va_runIN (As := []) (rest := [.ref b28, .int 4, .ref b5]) ⟨hx, hb, hml, hown, hts⟩ (k_X3_init l D cy _ L28 V29 H.size i 4 b28 e_18_i_4 hd_18_i_4 hv_18_i_4 hf_19_i_4) ⟨va_cnB 0 hts (g_good cwd_X3_init) rfl rfl rfl hN.2.1.2.1 (hts _ ini_X3) (by decide +kernel) ⟨Nat.le_of_ble_eq_true rfl, Nat.le_of_ble_eq_true rfl⟩, rfl, hts _ im_X3_init⟩ (h_pre hK hN hG) rfl rfl hl.1 rfl (lv_room (Nat.le_of_ble_eq_true rfl)) dX5_init_62 ⟨Nat.le_of_ble_eq_true rfl, Nat.le_of_ble_eq_true rfl⟩) hS (fun q hq => hq.elim (fun e9 => by rw [e9]; exact (hAn _ ha28)) (fun h9 => hAn q (Nat.le_trans hS.1 h9))) (fun L30 H locs hL9 hn9 hG hS hz9 o9 => ?_)
  refine W.eq (g2 := F0 m 65 ls [.ref b28, .int 4, .ref b5]) rfl ?_
  have hs_12_i_0 : s.heap.size ≤ L30 (12, i, 0) := by rw [hL9 _ hd_12_i_0]; exact hs_12_i_0
  have hs_18_i_0 : s.heap.size ≤ L30 (18, i, 0) := by rw [hL9 _ hd_18_i_0]; exact hs_18_i_0
  have hs_19_i_0 : s.heap.size ≤ L30 (19, i, 0) := by rw [hL9 _ hd_19_i_0]; exact hs_19_i_0
  have hs_18_i_1 : s.heap.size ≤ L30 (18, i, 1) := by rw [hL9 _ hd_18_i_1]; exact hs_18_i_1
  have hs_19_i_1 : s.heap.size ≤ L30 (19, i, 1) := by rw [hL9 _ hd_19_i_1]; exact hs_19_i_1
  have hs_18_i_2 : s.heap.size ≤ L30 (18, i, 2) := by rw [hL9 _ hd_18_i_2]; exact hs_18_i_2
  have hs_19_i_2 : s.heap.size ≤ L30 (19, i, 2) := by rw [hL9 _ hd_19_i_2]; exact hs_19_i_2
  have hs_18_i_3 : s.heap.size ≤ L30 (18, i, 3) := by rw [hL9 _ hd_18_i_3]; exact hs_18_i_3
  have hs_19_i_3 : s.heap.size ≤ L30 (19, i, 3) := by rw [hL9 _ hd_19_i_3]; exact hs_19_i_3
  have hs_18_i_4 : s.heap.size ≤ L30 (18, i, 4) := by rw [hL9 _ hd_18_i_4]; exact hs_18_i_4
  have hs_19_i_4 : s.heap.size ≤ L30 (19, i, 4) := Nat.le_trans hz0 ((hn9 (19, i, 4) (Or.inr (by simp))).resolve_left hf_19_i_4)
  have e_11_i_0 := (hL9 _ hd_11_i_0).trans e_11_i_0
  have e_12_i_0 := (hL9 _ hd_12_i_0).trans e_12_i_0
  have e_18_i_0 := (hL9 _ hd_18_i_0).trans e_18_i_0
  have e_19_i_0 := (hL9 _ hd_19_i_0).trans e_19_i_0
  have e_18_i_1 := (hL9 _ hd_18_i_1).trans e_18_i_1
  have e_19_i_1 := (hL9 _ hd_19_i_1).trans e_19_i_1
  have e_18_i_2 := (hL9 _ hd_18_i_2).trans e_18_i_2
  have e_19_i_2 := (hL9 _ hd_19_i_2).trans e_19_i_2
  have e_18_i_3 := (hL9 _ hd_18_i_3).trans e_18_i_3
  have e_19_i_3 := (hL9 _ hd_19_i_3).trans e_19_i_3
  have e_18_i_4 := (hL9 _ hd_18_i_4).trans e_18_i_4
  have hLL := fun y (hy : dom y) => (hL9 y (hdd y hy)).trans (hLL y hy)
  have hdd := fun y (hy : dom y) => hG.uL (hdd y hy)
  have hd_11_i_0 := hG.uL hd_11_i_0
  have hd_12_i_0 := hG.uL hd_12_i_0
  have hd_18_i_0 := hG.uL hd_18_i_0
  have hd_19_i_0 := hG.uL hd_19_i_0
  have hd_18_i_1 := hG.uL hd_18_i_1
  have hd_19_i_1 := hG.uL hd_19_i_1
  have hd_18_i_2 := hG.uL hd_18_i_2
  have hd_19_i_2 := hG.uL hd_19_i_2
  have hd_18_i_3 := hG.uL hd_18_i_3
  have hd_19_i_3 := hG.uL hd_19_i_3
  have hd_18_i_4 := hG.uL hd_18_i_4
  have hd_19_i_4 := hG.uR (y := (19, i, 4)) (by simp)
  have e_19_i_4 : L30 (19, i, 4) = L30 (19, i, 4) := rfl
  have hf_13_i_0 := hG.uN hf_13_i_0 (by simp)
  have hf_14_i_0 := hG.uN hf_14_i_0 (by simp)
  have hf_15_i_0 := hG.uN hf_15_i_0 (by simp)
  have hf_16_i_0 := hG.uN hf_16_i_0 (by simp)
  have hf_17_i_0 := hG.uN hf_17_i_0 (by simp)
  have hf_20_i_0 := hG.uN hf_20_i_0 (by simp)
  have hf_21_i_0 := hG.uN hf_21_i_0 (by simp)
  have hG : g_H D vwCl _ L30 (fun x => if x = (18, i, 4) then .inr (5, [.ref (L30 (19, i, 4)), .int 0, .int 0]) else if x = (19, i, 4) then .inl (cy 0, 100, .inl (fun _ => 0)) else V29 x) H := hG
  generalize hV31 : (fun x => if x = (18, i, 4) then .inr (5, [.ref (L30 (19, i, 4)), .int 0, .int 0]) else if x = (19, i, 4) then .inl (cy 0, 100, .inl (fun _ => 0)) else V29 x) = V31 at hG
  have hv_11_i_0 : V31 (11, i, 0) = .inr (7, [.int p, .ref b5, .null, .null, .int 1, .int 0, .int 0]) := by rw [← hV31]; exact (if_neg (by simp)).trans ((if_neg (by simp)).trans (hv_11_i_0))
  have hv_12_i_0 : V31 (12, i, 0) = .inl (cy 3, 5, .inr (.inr (.inr (.inr (va_up (va_up (va_up (va_up (fun _ => none) 0 (some b8)) 1 (some b13)) 2 (some b18)) 3 (some b23)))))) := by rw [← hV31]; exact (if_neg (by simp)).trans ((if_neg (by simp)).trans (hv_12_i_0))
  have hv_18_i_0 : V31 (18, i, 0) = .inr (5, [.ref (L10 (19, i, 0)), .int 0, .int 0]) := by rw [← hV31]; exact (if_neg (by simp)).trans ((if_neg (by simp)).trans (hv_18_i_0))
  have hv_19_i_0 : V31 (19, i, 0) = .inl (cy 0, 100, .inl (fun _ => 0)) := by rw [← hV31]; exact (if_neg (by simp)).trans ((if_neg (by simp)).trans (hv_19_i_0))
  have hv_18_i_1 : V31 (18, i, 1) = .inr (5, [.ref (L15 (19, i, 1)), .int 0, .int 0]) := by rw [← hV31]; exact (if_neg (by simp)).trans ((if_neg (by simp)).trans (hv_18_i_1))
  have hv_19_i_1 : V31 (19, i, 1) = .inl (cy 0, 100, .inl (fun _ => 0)) := by rw [← hV31]; exact (if_neg (by simp)).trans ((if_neg (by simp)).trans (hv_19_i_1))
  have hv_18_i_2 : V31 (18, i, 2) = .inr (5, [.ref (L20 (19, i, 2)), .int 0, .int 0]) := by rw [← hV31]; exact (if_neg (by simp)).trans ((if_neg (by simp)).trans (hv_18_i_2))
  have hv_19_i_2 : V31 (19, i, 2) = .inl (cy 0, 100, .inl (fun _ => 0)) := by rw [← hV31]; exact (if_neg (by simp)).trans ((if_neg (by simp)).trans (hv_19_i_2))
  have hv_18_i_3 : V31 (18, i, 3) = .inr (5, [.ref (L25 (19, i, 3)), .int 0, .int 0]) := by rw [← hV31]; exact (if_neg (by simp)).trans ((if_neg (by simp)).trans (hv_18_i_3))
  have hv_19_i_3 : V31 (19, i, 3) = .inl (cy 0, 100, .inl (fun _ => 0)) := by rw [← hV31]; exact (if_neg (by simp)).trans ((if_neg (by simp)).trans (hv_19_i_3))
  have hv_18_i_4 : V31 (18, i, 4) = .inr (5, [.ref (L30 (19, i, 4)), .int 0, .int 0]) := by rw [← hV31]; exact if_pos rfl
  have hv_19_i_4 : V31 (19, i, 4) = .inl (cy 0, 100, .inl (fun _ => 0)) := by rw [← hV31]; exact (if_neg (by simp)).trans (if_pos rfl)
  have hVo : ∀ y, y ≠ (11, i, 0) ∧ y ≠ (12, i, 0) ∧ y ≠ (18, i, 0) ∧ y ≠ (19, i, 0) ∧ y ≠ (18, i, 1) ∧ y ≠ (19, i, 1) ∧ y ≠ (18, i, 2) ∧ y ≠ (19, i, 2) ∧ y ≠ (18, i, 3) ∧ y ≠ (19, i, 3) ∧ y ≠ (18, i, 4) ∧ y ≠ (19, i, 4) ∧ y ≠ (13, i, 0) ∧ y ≠ (14, i, 0) ∧ y ≠ (15, i, 0) ∧ y ≠ (16, i, 0) ∧ y ≠ (17, i, 0) ∧ y ≠ (20, i, 0) ∧ y ≠ (21, i, 0) → V31 y = V y := fun y hy => by rw [← hV31]; exact (if_neg (fun q => by subst q; simp at hy)).trans ((if_neg (fun q => by subst q; simp at hy)).trans (hVo y hy))
  refine h_astq hx hb hK hG hS (12, i, 0) hd_12_i_0 e_12_i_0 (hAn _ ha5) 3 5 (r := (RX3, TX3, 3)) hv_12_i_0 rfl (18, i, 4) hd_18_i_4 e_18_i_4 hv_18_i_4 rfl (g_vp (by decide) (by decide)) dX5_init_65 (fun H locs hG hS => ?_)
  have hG : g_H D vwCl _ L30 (g_set V31 (12, i, 0) (.inl (cy 3, 5, .inr (.inr (.inr (.inr (va_up (va_up (va_up (va_up (va_up (fun _ => none) 0 (some b8)) 1 (some b13)) 2 (some b18)) 3 (some b23)) 4 (some b28)))))))) H := hG
  generalize hV32 : g_set V31 (12, i, 0) (.inl (cy 3, 5, .inr (.inr (.inr (.inr (va_up (va_up (va_up (va_up (va_up (fun _ => none) 0 (some b8)) 1 (some b13)) 2 (some b18)) 3 (some b23)) 4 (some b28))))))) = V32 at hG
  have hv_11_i_0 : V32 (11, i, 0) = .inr (7, [.int p, .ref b5, .null, .null, .int 1, .int 0, .int 0]) := by rw [← hV32, g_set_ne (by simp)]; exact hv_11_i_0
  have hv_18_i_0 : V32 (18, i, 0) = .inr (5, [.ref (L10 (19, i, 0)), .int 0, .int 0]) := by rw [← hV32, g_set_ne (by simp)]; exact hv_18_i_0
  have hv_19_i_0 : V32 (19, i, 0) = .inl (cy 0, 100, .inl (fun _ => 0)) := by rw [← hV32, g_set_ne (by simp)]; exact hv_19_i_0
  have hv_18_i_1 : V32 (18, i, 1) = .inr (5, [.ref (L15 (19, i, 1)), .int 0, .int 0]) := by rw [← hV32, g_set_ne (by simp)]; exact hv_18_i_1
  have hv_19_i_1 : V32 (19, i, 1) = .inl (cy 0, 100, .inl (fun _ => 0)) := by rw [← hV32, g_set_ne (by simp)]; exact hv_19_i_1
  have hv_18_i_2 : V32 (18, i, 2) = .inr (5, [.ref (L20 (19, i, 2)), .int 0, .int 0]) := by rw [← hV32, g_set_ne (by simp)]; exact hv_18_i_2
  have hv_19_i_2 : V32 (19, i, 2) = .inl (cy 0, 100, .inl (fun _ => 0)) := by rw [← hV32, g_set_ne (by simp)]; exact hv_19_i_2
  have hv_18_i_3 : V32 (18, i, 3) = .inr (5, [.ref (L25 (19, i, 3)), .int 0, .int 0]) := by rw [← hV32, g_set_ne (by simp)]; exact hv_18_i_3
  have hv_19_i_3 : V32 (19, i, 3) = .inl (cy 0, 100, .inl (fun _ => 0)) := by rw [← hV32, g_set_ne (by simp)]; exact hv_19_i_3
  have hv_18_i_4 : V32 (18, i, 4) = .inr (5, [.ref (L30 (19, i, 4)), .int 0, .int 0]) := by rw [← hV32, g_set_ne (by simp)]; exact hv_18_i_4
  have hv_19_i_4 : V32 (19, i, 4) = .inl (cy 0, 100, .inl (fun _ => 0)) := by rw [← hV32, g_set_ne (by simp)]; exact hv_19_i_4
  have hv_12_i_0 : V32 (12, i, 0) = .inl (cy 3, 5, .inr (.inr (.inr (.inr (va_up (va_up (va_up (va_up (va_up (fun _ => none) 0 (some b8)) 1 (some b13)) 2 (some b18)) 3 (some b23)) 4 (some b28)))))) := by rw [← hV32, g_set_self]
  have hVo : ∀ y, y ≠ (11, i, 0) ∧ y ≠ (12, i, 0) ∧ y ≠ (18, i, 0) ∧ y ≠ (19, i, 0) ∧ y ≠ (18, i, 1) ∧ y ≠ (19, i, 1) ∧ y ≠ (18, i, 2) ∧ y ≠ (19, i, 2) ∧ y ≠ (18, i, 3) ∧ y ≠ (19, i, 3) ∧ y ≠ (18, i, 4) ∧ y ≠ (19, i, 4) ∧ y ≠ (13, i, 0) ∧ y ≠ (14, i, 0) ∧ y ≠ (15, i, 0) ∧ y ≠ (16, i, 0) ∧ y ≠ (17, i, 0) ∧ y ≠ (20, i, 0) ∧ y ≠ (21, i, 0) → V32 y = V y := fun y hy => by rw [← hV32, g_set_ne (fun q => hy.2.1 q)]; first | done | exact hVo y hy
  refine lv_iinc (v := 5) (lv' := [(3, .int 5), (0, .ref a0), (1, .int p), (2, .int q)]) hx hb dX5_init_66 hl (k := 0) rfl (by decide) (by decide) rfl (fun ls hl => ?_)
  refine lv_goto (tgt := 44) hx hb dX5_init_69 (by decide) ?_
  refine lv_iload_n hx hb dX5_init_44 rfl (lv_at hl 0 rfl) ?_
  refine lv_aload_n hx hb dX5_init_45 rfl (lv_at hl 1 rfl) ?_
  refine h_get (C := RX5) (T := TX5) (N := 7) (ci := 7) (v := .ref b5) hx hb hts inX5g hown hK hG (11, i, 0) hd_11_i_0 e_11_i_0 hv_11_i_0 rfl 1 (by decide) fl_X5_27 rfl dX5_init_46 ?_
  refine h_alen (v := 5) hx hb hK hG (12, i, 0) hd_12_i_0 e_12_i_0 3 hv_12_i_0 rfl rfl dX5_init_49 ?_
  refine kz_icmp_ge (X := 5) (Y := 5) hx hb (by decide) (by decide) dX5_init_50 (tgt := 72) (by decide) (fun c50 => ?_) (fun c50 => absurd c50 (by decide))
  refine lv_aload_n hx hb dX5_init_72 rfl (lv_at hl 1 rfl) ?_
  refine h_newo (C := RX0) (T := TX0) (N := 6) (ci := 2) (fs := [.int 0, .null, .null, .null, .int 0, .int 0]) hx hb hts inX0g tyX0_ok hown cl_X5_32 ins_X0 ini_X0 hK hG hS (13, i, 0) hf_13_i_0 rfl (fun j hj => by rcases (show j = 0 ∨ j = 1 ∨ j = 2 ∨ j = 3 ∨ j = 4 ∨ j = 5 by omega) with rfl | rfl | rfl | rfl | rfl | rfl <;> rfl) (Nat.le_of_ble_eq_true rfl) (Nat.le_of_ble_eq_true rfl) dX5_init_73 (fun L33 b33 H hL9 e_13_i_0 ha33 hG hS hz9 o9 => ?_)
  have hs_12_i_0 : s.heap.size ≤ L33 (12, i, 0) := by rw [hL9 _ hd_12_i_0]; exact hs_12_i_0
  have hs_18_i_0 : s.heap.size ≤ L33 (18, i, 0) := by rw [hL9 _ hd_18_i_0]; exact hs_18_i_0
  have hs_19_i_0 : s.heap.size ≤ L33 (19, i, 0) := by rw [hL9 _ hd_19_i_0]; exact hs_19_i_0
  have hs_18_i_1 : s.heap.size ≤ L33 (18, i, 1) := by rw [hL9 _ hd_18_i_1]; exact hs_18_i_1
  have hs_19_i_1 : s.heap.size ≤ L33 (19, i, 1) := by rw [hL9 _ hd_19_i_1]; exact hs_19_i_1
  have hs_18_i_2 : s.heap.size ≤ L33 (18, i, 2) := by rw [hL9 _ hd_18_i_2]; exact hs_18_i_2
  have hs_19_i_2 : s.heap.size ≤ L33 (19, i, 2) := by rw [hL9 _ hd_19_i_2]; exact hs_19_i_2
  have hs_18_i_3 : s.heap.size ≤ L33 (18, i, 3) := by rw [hL9 _ hd_18_i_3]; exact hs_18_i_3
  have hs_19_i_3 : s.heap.size ≤ L33 (19, i, 3) := by rw [hL9 _ hd_19_i_3]; exact hs_19_i_3
  have hs_18_i_4 : s.heap.size ≤ L33 (18, i, 4) := by rw [hL9 _ hd_18_i_4]; exact hs_18_i_4
  have hs_19_i_4 : s.heap.size ≤ L33 (19, i, 4) := by rw [hL9 _ hd_19_i_4]; exact hs_19_i_4
  have hs_13_i_0 : s.heap.size ≤ L33 (13, i, 0) := by rw [e_13_i_0]; exact ha33
  have e_11_i_0 := (hL9 _ hd_11_i_0).trans e_11_i_0
  have e_12_i_0 := (hL9 _ hd_12_i_0).trans e_12_i_0
  have e_18_i_0 := (hL9 _ hd_18_i_0).trans e_18_i_0
  have e_19_i_0 := (hL9 _ hd_19_i_0).trans e_19_i_0
  have e_18_i_1 := (hL9 _ hd_18_i_1).trans e_18_i_1
  have e_19_i_1 := (hL9 _ hd_19_i_1).trans e_19_i_1
  have e_18_i_2 := (hL9 _ hd_18_i_2).trans e_18_i_2
  have e_19_i_2 := (hL9 _ hd_19_i_2).trans e_19_i_2
  have e_18_i_3 := (hL9 _ hd_18_i_3).trans e_18_i_3
  have e_19_i_3 := (hL9 _ hd_19_i_3).trans e_19_i_3
  have e_18_i_4 := (hL9 _ hd_18_i_4).trans e_18_i_4
  have e_19_i_4 := (hL9 _ hd_19_i_4).trans e_19_i_4
  have hLL := fun y (hy : dom y) => (hL9 y (hdd y hy)).trans (hLL y hy)
  have hdd := fun y (hy : dom y) => hG.inO (hdd y hy)
  have hd_11_i_0 := hG.inO hd_11_i_0
  have hd_12_i_0 := hG.inO hd_12_i_0
  have hd_18_i_0 := hG.inO hd_18_i_0
  have hd_19_i_0 := hG.inO hd_19_i_0
  have hd_18_i_1 := hG.inO hd_18_i_1
  have hd_19_i_1 := hG.inO hd_19_i_1
  have hd_18_i_2 := hG.inO hd_18_i_2
  have hd_19_i_2 := hG.inO hd_19_i_2
  have hd_18_i_3 := hG.inO hd_18_i_3
  have hd_19_i_3 := hG.inO hd_19_i_3
  have hd_18_i_4 := hG.inO hd_18_i_4
  have hd_19_i_4 := hG.inO hd_19_i_4
  have hd_13_i_0 := hG.inX
  have hf_14_i_0 := hG.notin hf_14_i_0 (by simp)
  have hf_15_i_0 := hG.notin hf_15_i_0 (by simp)
  have hf_16_i_0 := hG.notin hf_16_i_0 (by simp)
  have hf_17_i_0 := hG.notin hf_17_i_0 (by simp)
  have hf_20_i_0 := hG.notin hf_20_i_0 (by simp)
  have hf_21_i_0 := hG.notin hf_21_i_0 (by simp)
  generalize hV34 : g_set V32 (13, i, 0) (.inr (2, [.int 0, .null, .null, .null, .int 0, .int 0])) = V34 at hG
  have hv_11_i_0 : V34 (11, i, 0) = .inr (7, [.int p, .ref b5, .null, .null, .int 1, .int 0, .int 0]) := by rw [← hV34, g_set_ne (by simp)]; exact hv_11_i_0
  have hv_12_i_0 : V34 (12, i, 0) = .inl (cy 3, 5, .inr (.inr (.inr (.inr (va_up (va_up (va_up (va_up (va_up (fun _ => none) 0 (some b8)) 1 (some b13)) 2 (some b18)) 3 (some b23)) 4 (some b28)))))) := by rw [← hV34, g_set_ne (by simp)]; exact hv_12_i_0
  have hv_18_i_0 : V34 (18, i, 0) = .inr (5, [.ref (L10 (19, i, 0)), .int 0, .int 0]) := by rw [← hV34, g_set_ne (by simp)]; exact hv_18_i_0
  have hv_19_i_0 : V34 (19, i, 0) = .inl (cy 0, 100, .inl (fun _ => 0)) := by rw [← hV34, g_set_ne (by simp)]; exact hv_19_i_0
  have hv_18_i_1 : V34 (18, i, 1) = .inr (5, [.ref (L15 (19, i, 1)), .int 0, .int 0]) := by rw [← hV34, g_set_ne (by simp)]; exact hv_18_i_1
  have hv_19_i_1 : V34 (19, i, 1) = .inl (cy 0, 100, .inl (fun _ => 0)) := by rw [← hV34, g_set_ne (by simp)]; exact hv_19_i_1
  have hv_18_i_2 : V34 (18, i, 2) = .inr (5, [.ref (L20 (19, i, 2)), .int 0, .int 0]) := by rw [← hV34, g_set_ne (by simp)]; exact hv_18_i_2
  have hv_19_i_2 : V34 (19, i, 2) = .inl (cy 0, 100, .inl (fun _ => 0)) := by rw [← hV34, g_set_ne (by simp)]; exact hv_19_i_2
  have hv_18_i_3 : V34 (18, i, 3) = .inr (5, [.ref (L25 (19, i, 3)), .int 0, .int 0]) := by rw [← hV34, g_set_ne (by simp)]; exact hv_18_i_3
  have hv_19_i_3 : V34 (19, i, 3) = .inl (cy 0, 100, .inl (fun _ => 0)) := by rw [← hV34, g_set_ne (by simp)]; exact hv_19_i_3
  have hv_18_i_4 : V34 (18, i, 4) = .inr (5, [.ref (L30 (19, i, 4)), .int 0, .int 0]) := by rw [← hV34, g_set_ne (by simp)]; exact hv_18_i_4
  have hv_19_i_4 : V34 (19, i, 4) = .inl (cy 0, 100, .inl (fun _ => 0)) := by rw [← hV34, g_set_ne (by simp)]; exact hv_19_i_4
  have hv_13_i_0 : V34 (13, i, 0) = .inr (2, [.int 0, .null, .null, .null, .int 0, .int 0]) := by rw [← hV34, g_set_self]
  have hVo : ∀ y, y ≠ (11, i, 0) ∧ y ≠ (12, i, 0) ∧ y ≠ (18, i, 0) ∧ y ≠ (19, i, 0) ∧ y ≠ (18, i, 1) ∧ y ≠ (19, i, 1) ∧ y ≠ (18, i, 2) ∧ y ≠ (19, i, 2) ∧ y ≠ (18, i, 3) ∧ y ≠ (19, i, 3) ∧ y ≠ (18, i, 4) ∧ y ≠ (19, i, 4) ∧ y ≠ (13, i, 0) ∧ y ≠ (14, i, 0) ∧ y ≠ (15, i, 0) ∧ y ≠ (16, i, 0) ∧ y ≠ (17, i, 0) ∧ y ≠ (20, i, 0) ∧ y ≠ (21, i, 0) → V34 y = V y := fun y hy => by rw [← hV34, g_set_ne (fun q => hy.2.2.2.2.2.2.2.2.2.2.2.2.1 q)]; first | done | exact hVo y hy
  refine lv_dup hx hb dX5_init_76 rfl ?_
  refine lv_iload_n hx hb dX5_init_77 rfl (lv_at hl 3 rfl) ?_
  have hz0 := hS.1
  refine h_cont (va_runI (As := [.int q]) (rest := [.ref b33, .ref a0]) ⟨hx, hb, hml, hown, hts⟩ (k_X0_init l D cy _ L33 V34 H.size i q b33 e_13_i_0 hd_13_i_0 hv_13_i_0 hf_14_i_0 hf_15_i_0 hf_16_i_0) (cwI 1 hts (g_good cwd_X0_init) rfl rfl rfl (hts _ ini_X0) (hts _ ml_X5_34) (hts _ im_X0_init) rfl (by decide +kernel) ⟨Nat.le_of_ble_eq_true rfl, Nat.le_of_ble_eq_true rfl⟩) (h_pre hK hN hG) rfl rfl hl.1 rfl (lv_room (Nat.le_of_ble_eq_true rfl)) dX5_init_78 ⟨Nat.le_of_ble_eq_true rfl, Nat.le_of_ble_eq_true rfl⟩) hS (fun q hq => hq.elim (fun e9 => by rw [e9]; exact (hAn _ ha33)) (fun h9 => hAn q (Nat.le_trans hS.1 h9))) (fun L35 H locs hL9 hn9 hG hS hz9 o9 => ?_)
  refine W.eq (g2 := F0 m 81 ls [.ref b33, .ref a0]) rfl ?_
  have hs_12_i_0 : s.heap.size ≤ L35 (12, i, 0) := by rw [hL9 _ hd_12_i_0]; exact hs_12_i_0
  have hs_18_i_0 : s.heap.size ≤ L35 (18, i, 0) := by rw [hL9 _ hd_18_i_0]; exact hs_18_i_0
  have hs_19_i_0 : s.heap.size ≤ L35 (19, i, 0) := by rw [hL9 _ hd_19_i_0]; exact hs_19_i_0
  have hs_18_i_1 : s.heap.size ≤ L35 (18, i, 1) := by rw [hL9 _ hd_18_i_1]; exact hs_18_i_1
  have hs_19_i_1 : s.heap.size ≤ L35 (19, i, 1) := by rw [hL9 _ hd_19_i_1]; exact hs_19_i_1
  have hs_18_i_2 : s.heap.size ≤ L35 (18, i, 2) := by rw [hL9 _ hd_18_i_2]; exact hs_18_i_2
  have hs_19_i_2 : s.heap.size ≤ L35 (19, i, 2) := by rw [hL9 _ hd_19_i_2]; exact hs_19_i_2
  have hs_18_i_3 : s.heap.size ≤ L35 (18, i, 3) := by rw [hL9 _ hd_18_i_3]; exact hs_18_i_3
  have hs_19_i_3 : s.heap.size ≤ L35 (19, i, 3) := by rw [hL9 _ hd_19_i_3]; exact hs_19_i_3
  have hs_18_i_4 : s.heap.size ≤ L35 (18, i, 4) := by rw [hL9 _ hd_18_i_4]; exact hs_18_i_4
  have hs_19_i_4 : s.heap.size ≤ L35 (19, i, 4) := by rw [hL9 _ hd_19_i_4]; exact hs_19_i_4
  have hs_13_i_0 : s.heap.size ≤ L35 (13, i, 0) := by rw [hL9 _ hd_13_i_0]; exact hs_13_i_0
  have hs_14_i_0 : s.heap.size ≤ L35 (14, i, 0) := Nat.le_trans hz0 ((hn9 (14, i, 0) (Or.inr (by simp))).resolve_left hf_14_i_0)
  have hs_15_i_0 : s.heap.size ≤ L35 (15, i, 0) := Nat.le_trans hz0 ((hn9 (15, i, 0) (Or.inr (by simp))).resolve_left hf_15_i_0)
  have hs_16_i_0 : s.heap.size ≤ L35 (16, i, 0) := Nat.le_trans hz0 ((hn9 (16, i, 0) (Or.inr (by simp))).resolve_left hf_16_i_0)
  have e_11_i_0 := (hL9 _ hd_11_i_0).trans e_11_i_0
  have e_12_i_0 := (hL9 _ hd_12_i_0).trans e_12_i_0
  have e_18_i_0 := (hL9 _ hd_18_i_0).trans e_18_i_0
  have e_19_i_0 := (hL9 _ hd_19_i_0).trans e_19_i_0
  have e_18_i_1 := (hL9 _ hd_18_i_1).trans e_18_i_1
  have e_19_i_1 := (hL9 _ hd_19_i_1).trans e_19_i_1
  have e_18_i_2 := (hL9 _ hd_18_i_2).trans e_18_i_2
  have e_19_i_2 := (hL9 _ hd_19_i_2).trans e_19_i_2
  have e_18_i_3 := (hL9 _ hd_18_i_3).trans e_18_i_3
  have e_19_i_3 := (hL9 _ hd_19_i_3).trans e_19_i_3
  have e_18_i_4 := (hL9 _ hd_18_i_4).trans e_18_i_4
  have e_19_i_4 := (hL9 _ hd_19_i_4).trans e_19_i_4
  have e_13_i_0 := (hL9 _ hd_13_i_0).trans e_13_i_0
  have hLL := fun y (hy : dom y) => (hL9 y (hdd y hy)).trans (hLL y hy)
  have hdd := fun y (hy : dom y) => hG.uL (hdd y hy)
  have hd_11_i_0 := hG.uL hd_11_i_0
  have hd_12_i_0 := hG.uL hd_12_i_0
  have hd_18_i_0 := hG.uL hd_18_i_0
  have hd_19_i_0 := hG.uL hd_19_i_0
  have hd_18_i_1 := hG.uL hd_18_i_1
  have hd_19_i_1 := hG.uL hd_19_i_1
  have hd_18_i_2 := hG.uL hd_18_i_2
  have hd_19_i_2 := hG.uL hd_19_i_2
  have hd_18_i_3 := hG.uL hd_18_i_3
  have hd_19_i_3 := hG.uL hd_19_i_3
  have hd_18_i_4 := hG.uL hd_18_i_4
  have hd_19_i_4 := hG.uL hd_19_i_4
  have hd_13_i_0 := hG.uL hd_13_i_0
  have hd_14_i_0 := hG.uR (y := (14, i, 0)) (by simp)
  have e_14_i_0 : L35 (14, i, 0) = L35 (14, i, 0) := rfl
  have hd_15_i_0 := hG.uR (y := (15, i, 0)) (by simp)
  have e_15_i_0 : L35 (15, i, 0) = L35 (15, i, 0) := rfl
  have hd_16_i_0 := hG.uR (y := (16, i, 0)) (by simp)
  have e_16_i_0 : L35 (16, i, 0) = L35 (16, i, 0) := rfl
  have hf_17_i_0 := hG.uN hf_17_i_0 (by simp)
  have hf_20_i_0 := hG.uN hf_20_i_0 (by simp)
  have hf_21_i_0 := hG.uN hf_21_i_0 (by simp)
  have hG : g_H D vwCl _ L35 (fun x => if x = (13, i, 0) then .inr (2, [.int q, .ref (L35 (14, i, 0)), .ref (L35 (15, i, 0)), .ref (L35 (16, i, 0)), .int 0, .int 0]) else if x = (14, i, 0) then .inl (cy 0, 100, .inl (fun _ => 0)) else if x = (15, i, 0) then .inl (cy 0, 100, .inl (fun _ => 0)) else if x = (16, i, 0) then .inl (cy 0, 100, .inl (fun _ => 0)) else V34 x) H := hG
  generalize hV36 : (fun x => if x = (13, i, 0) then .inr (2, [.int q, .ref (L35 (14, i, 0)), .ref (L35 (15, i, 0)), .ref (L35 (16, i, 0)), .int 0, .int 0]) else if x = (14, i, 0) then .inl (cy 0, 100, .inl (fun _ => 0)) else if x = (15, i, 0) then .inl (cy 0, 100, .inl (fun _ => 0)) else if x = (16, i, 0) then .inl (cy 0, 100, .inl (fun _ => 0)) else V34 x) = V36 at hG
  have hv_11_i_0 : V36 (11, i, 0) = .inr (7, [.int p, .ref b5, .null, .null, .int 1, .int 0, .int 0]) := by rw [← hV36]; exact (if_neg (by simp)).trans ((if_neg (by simp)).trans ((if_neg (by simp)).trans ((if_neg (by simp)).trans (hv_11_i_0))))
  have hv_12_i_0 : V36 (12, i, 0) = .inl (cy 3, 5, .inr (.inr (.inr (.inr (va_up (va_up (va_up (va_up (va_up (fun _ => none) 0 (some b8)) 1 (some b13)) 2 (some b18)) 3 (some b23)) 4 (some b28)))))) := by rw [← hV36]; exact (if_neg (by simp)).trans ((if_neg (by simp)).trans ((if_neg (by simp)).trans ((if_neg (by simp)).trans (hv_12_i_0))))
  have hv_18_i_0 : V36 (18, i, 0) = .inr (5, [.ref (L10 (19, i, 0)), .int 0, .int 0]) := by rw [← hV36]; exact (if_neg (by simp)).trans ((if_neg (by simp)).trans ((if_neg (by simp)).trans ((if_neg (by simp)).trans (hv_18_i_0))))
  have hv_19_i_0 : V36 (19, i, 0) = .inl (cy 0, 100, .inl (fun _ => 0)) := by rw [← hV36]; exact (if_neg (by simp)).trans ((if_neg (by simp)).trans ((if_neg (by simp)).trans ((if_neg (by simp)).trans (hv_19_i_0))))
  have hv_18_i_1 : V36 (18, i, 1) = .inr (5, [.ref (L15 (19, i, 1)), .int 0, .int 0]) := by rw [← hV36]; exact (if_neg (by simp)).trans ((if_neg (by simp)).trans ((if_neg (by simp)).trans ((if_neg (by simp)).trans (hv_18_i_1))))
  have hv_19_i_1 : V36 (19, i, 1) = .inl (cy 0, 100, .inl (fun _ => 0)) := by rw [← hV36]; exact (if_neg (by simp)).trans ((if_neg (by simp)).trans ((if_neg (by simp)).trans ((if_neg (by simp)).trans (hv_19_i_1))))
  have hv_18_i_2 : V36 (18, i, 2) = .inr (5, [.ref (L20 (19, i, 2)), .int 0, .int 0]) := by rw [← hV36]; exact (if_neg (by simp)).trans ((if_neg (by simp)).trans ((if_neg (by simp)).trans ((if_neg (by simp)).trans (hv_18_i_2))))
  have hv_19_i_2 : V36 (19, i, 2) = .inl (cy 0, 100, .inl (fun _ => 0)) := by rw [← hV36]; exact (if_neg (by simp)).trans ((if_neg (by simp)).trans ((if_neg (by simp)).trans ((if_neg (by simp)).trans (hv_19_i_2))))
  have hv_18_i_3 : V36 (18, i, 3) = .inr (5, [.ref (L25 (19, i, 3)), .int 0, .int 0]) := by rw [← hV36]; exact (if_neg (by simp)).trans ((if_neg (by simp)).trans ((if_neg (by simp)).trans ((if_neg (by simp)).trans (hv_18_i_3))))
  have hv_19_i_3 : V36 (19, i, 3) = .inl (cy 0, 100, .inl (fun _ => 0)) := by rw [← hV36]; exact (if_neg (by simp)).trans ((if_neg (by simp)).trans ((if_neg (by simp)).trans ((if_neg (by simp)).trans (hv_19_i_3))))
  have hv_18_i_4 : V36 (18, i, 4) = .inr (5, [.ref (L30 (19, i, 4)), .int 0, .int 0]) := by rw [← hV36]; exact (if_neg (by simp)).trans ((if_neg (by simp)).trans ((if_neg (by simp)).trans ((if_neg (by simp)).trans (hv_18_i_4))))
  have hv_19_i_4 : V36 (19, i, 4) = .inl (cy 0, 100, .inl (fun _ => 0)) := by rw [← hV36]; exact (if_neg (by simp)).trans ((if_neg (by simp)).trans ((if_neg (by simp)).trans ((if_neg (by simp)).trans (hv_19_i_4))))
  have hv_13_i_0 : V36 (13, i, 0) = .inr (2, [.int q, .ref (L35 (14, i, 0)), .ref (L35 (15, i, 0)), .ref (L35 (16, i, 0)), .int 0, .int 0]) := by rw [← hV36]; exact if_pos rfl
  have hv_14_i_0 : V36 (14, i, 0) = .inl (cy 0, 100, .inl (fun _ => 0)) := by rw [← hV36]; exact (if_neg (by simp)).trans (if_pos rfl)
  have hv_15_i_0 : V36 (15, i, 0) = .inl (cy 0, 100, .inl (fun _ => 0)) := by rw [← hV36]; exact (if_neg (by simp)).trans ((if_neg (by simp)).trans (if_pos rfl))
  have hv_16_i_0 : V36 (16, i, 0) = .inl (cy 0, 100, .inl (fun _ => 0)) := by rw [← hV36]; exact (if_neg (by simp)).trans ((if_neg (by simp)).trans ((if_neg (by simp)).trans (if_pos rfl)))
  have hVo : ∀ y, y ≠ (11, i, 0) ∧ y ≠ (12, i, 0) ∧ y ≠ (18, i, 0) ∧ y ≠ (19, i, 0) ∧ y ≠ (18, i, 1) ∧ y ≠ (19, i, 1) ∧ y ≠ (18, i, 2) ∧ y ≠ (19, i, 2) ∧ y ≠ (18, i, 3) ∧ y ≠ (19, i, 3) ∧ y ≠ (18, i, 4) ∧ y ≠ (19, i, 4) ∧ y ≠ (13, i, 0) ∧ y ≠ (14, i, 0) ∧ y ≠ (15, i, 0) ∧ y ≠ (16, i, 0) ∧ y ≠ (17, i, 0) ∧ y ≠ (20, i, 0) ∧ y ≠ (21, i, 0) → V36 y = V y := fun y hy => by rw [← hV36]; exact (if_neg (fun q => by subst q; simp at hy)).trans ((if_neg (fun q => by subst q; simp at hy)).trans ((if_neg (fun q => by subst q; simp at hy)).trans ((if_neg (fun q => by subst q; simp at hy)).trans (hVo y hy))))
  refine h_putF (C := RX5) (T := TX5) (N := 7) (ci := 7) (ty := (tyX5 2)) hx hb hts inX5g tyX5_ok nmX5 hown hK hG hS (11, i, 0) hd_11_i_0 e_11_i_0 hAa hv_11_i_0 rfl 2 (by decide) fl_X5_37 rfl hin2 rfl (by decide +kernel) rfl rfl (Nat.le_of_ble_eq_true rfl) dX5_init_81 (fun H locs hG hS => ?_)
  have hG : g_H D vwCl _ L35 (g_set V36 (11, i, 0) (.inr (7, [.int p, .ref b5, .ref b33, .null, .int 1, .int 0, .int 0]))) H := hG
  generalize hV37 : g_set V36 (11, i, 0) (.inr (7, [.int p, .ref b5, .ref b33, .null, .int 1, .int 0, .int 0])) = V37 at hG
  have hv_12_i_0 : V37 (12, i, 0) = .inl (cy 3, 5, .inr (.inr (.inr (.inr (va_up (va_up (va_up (va_up (va_up (fun _ => none) 0 (some b8)) 1 (some b13)) 2 (some b18)) 3 (some b23)) 4 (some b28)))))) := by rw [← hV37, g_set_ne (by simp)]; exact hv_12_i_0
  have hv_18_i_0 : V37 (18, i, 0) = .inr (5, [.ref (L10 (19, i, 0)), .int 0, .int 0]) := by rw [← hV37, g_set_ne (by simp)]; exact hv_18_i_0
  have hv_19_i_0 : V37 (19, i, 0) = .inl (cy 0, 100, .inl (fun _ => 0)) := by rw [← hV37, g_set_ne (by simp)]; exact hv_19_i_0
  have hv_18_i_1 : V37 (18, i, 1) = .inr (5, [.ref (L15 (19, i, 1)), .int 0, .int 0]) := by rw [← hV37, g_set_ne (by simp)]; exact hv_18_i_1
  have hv_19_i_1 : V37 (19, i, 1) = .inl (cy 0, 100, .inl (fun _ => 0)) := by rw [← hV37, g_set_ne (by simp)]; exact hv_19_i_1
  have hv_18_i_2 : V37 (18, i, 2) = .inr (5, [.ref (L20 (19, i, 2)), .int 0, .int 0]) := by rw [← hV37, g_set_ne (by simp)]; exact hv_18_i_2
  have hv_19_i_2 : V37 (19, i, 2) = .inl (cy 0, 100, .inl (fun _ => 0)) := by rw [← hV37, g_set_ne (by simp)]; exact hv_19_i_2
  have hv_18_i_3 : V37 (18, i, 3) = .inr (5, [.ref (L25 (19, i, 3)), .int 0, .int 0]) := by rw [← hV37, g_set_ne (by simp)]; exact hv_18_i_3
  have hv_19_i_3 : V37 (19, i, 3) = .inl (cy 0, 100, .inl (fun _ => 0)) := by rw [← hV37, g_set_ne (by simp)]; exact hv_19_i_3
  have hv_18_i_4 : V37 (18, i, 4) = .inr (5, [.ref (L30 (19, i, 4)), .int 0, .int 0]) := by rw [← hV37, g_set_ne (by simp)]; exact hv_18_i_4
  have hv_19_i_4 : V37 (19, i, 4) = .inl (cy 0, 100, .inl (fun _ => 0)) := by rw [← hV37, g_set_ne (by simp)]; exact hv_19_i_4
  have hv_13_i_0 : V37 (13, i, 0) = .inr (2, [.int q, .ref (L35 (14, i, 0)), .ref (L35 (15, i, 0)), .ref (L35 (16, i, 0)), .int 0, .int 0]) := by rw [← hV37, g_set_ne (by simp)]; exact hv_13_i_0
  have hv_14_i_0 : V37 (14, i, 0) = .inl (cy 0, 100, .inl (fun _ => 0)) := by rw [← hV37, g_set_ne (by simp)]; exact hv_14_i_0
  have hv_15_i_0 : V37 (15, i, 0) = .inl (cy 0, 100, .inl (fun _ => 0)) := by rw [← hV37, g_set_ne (by simp)]; exact hv_15_i_0
  have hv_16_i_0 : V37 (16, i, 0) = .inl (cy 0, 100, .inl (fun _ => 0)) := by rw [← hV37, g_set_ne (by simp)]; exact hv_16_i_0
  have hv_11_i_0 : V37 (11, i, 0) = .inr (7, [.int p, .ref b5, .ref b33, .null, .int 1, .int 0, .int 0]) := by rw [← hV37, g_set_self]
  have hVo : ∀ y, y ≠ (11, i, 0) ∧ y ≠ (12, i, 0) ∧ y ≠ (18, i, 0) ∧ y ≠ (19, i, 0) ∧ y ≠ (18, i, 1) ∧ y ≠ (19, i, 1) ∧ y ≠ (18, i, 2) ∧ y ≠ (19, i, 2) ∧ y ≠ (18, i, 3) ∧ y ≠ (19, i, 3) ∧ y ≠ (18, i, 4) ∧ y ≠ (19, i, 4) ∧ y ≠ (13, i, 0) ∧ y ≠ (14, i, 0) ∧ y ≠ (15, i, 0) ∧ y ≠ (16, i, 0) ∧ y ≠ (17, i, 0) ∧ y ≠ (20, i, 0) ∧ y ≠ (21, i, 0) → V37 y = V y := fun y hy => by rw [← hV37, g_set_ne (fun q => hy.1 q)]; first | done | exact hVo y hy
  refine lv_aload_n hx hb dX5_init_84 rfl (lv_at hl 1 rfl) ?_
  refine h_newo (C := RX4) (T := TX4) (N := 3) (ci := 6) (fs := [.null, .null, .int 0]) hx hb hts inX4g tyX4_ok hown cl_X5_41 ins_X4 ini_X4 hK hG hS (17, i, 0) hf_17_i_0 rfl (fun j hj => by rcases (show j = 0 ∨ j = 1 ∨ j = 2 by omega) with rfl | rfl | rfl <;> rfl) (Nat.le_of_ble_eq_true rfl) (Nat.le_of_ble_eq_true rfl) dX5_init_85 (fun L38 b38 H hL9 e_17_i_0 ha38 hG hS hz9 o9 => ?_)
  have hs_12_i_0 : s.heap.size ≤ L38 (12, i, 0) := by rw [hL9 _ hd_12_i_0]; exact hs_12_i_0
  have hs_18_i_0 : s.heap.size ≤ L38 (18, i, 0) := by rw [hL9 _ hd_18_i_0]; exact hs_18_i_0
  have hs_19_i_0 : s.heap.size ≤ L38 (19, i, 0) := by rw [hL9 _ hd_19_i_0]; exact hs_19_i_0
  have hs_18_i_1 : s.heap.size ≤ L38 (18, i, 1) := by rw [hL9 _ hd_18_i_1]; exact hs_18_i_1
  have hs_19_i_1 : s.heap.size ≤ L38 (19, i, 1) := by rw [hL9 _ hd_19_i_1]; exact hs_19_i_1
  have hs_18_i_2 : s.heap.size ≤ L38 (18, i, 2) := by rw [hL9 _ hd_18_i_2]; exact hs_18_i_2
  have hs_19_i_2 : s.heap.size ≤ L38 (19, i, 2) := by rw [hL9 _ hd_19_i_2]; exact hs_19_i_2
  have hs_18_i_3 : s.heap.size ≤ L38 (18, i, 3) := by rw [hL9 _ hd_18_i_3]; exact hs_18_i_3
  have hs_19_i_3 : s.heap.size ≤ L38 (19, i, 3) := by rw [hL9 _ hd_19_i_3]; exact hs_19_i_3
  have hs_18_i_4 : s.heap.size ≤ L38 (18, i, 4) := by rw [hL9 _ hd_18_i_4]; exact hs_18_i_4
  have hs_19_i_4 : s.heap.size ≤ L38 (19, i, 4) := by rw [hL9 _ hd_19_i_4]; exact hs_19_i_4
  have hs_13_i_0 : s.heap.size ≤ L38 (13, i, 0) := by rw [hL9 _ hd_13_i_0]; exact hs_13_i_0
  have hs_14_i_0 : s.heap.size ≤ L38 (14, i, 0) := by rw [hL9 _ hd_14_i_0]; exact hs_14_i_0
  have hs_15_i_0 : s.heap.size ≤ L38 (15, i, 0) := by rw [hL9 _ hd_15_i_0]; exact hs_15_i_0
  have hs_16_i_0 : s.heap.size ≤ L38 (16, i, 0) := by rw [hL9 _ hd_16_i_0]; exact hs_16_i_0
  have hs_17_i_0 : s.heap.size ≤ L38 (17, i, 0) := by rw [e_17_i_0]; exact ha38
  have e_11_i_0 := (hL9 _ hd_11_i_0).trans e_11_i_0
  have e_12_i_0 := (hL9 _ hd_12_i_0).trans e_12_i_0
  have e_18_i_0 := (hL9 _ hd_18_i_0).trans e_18_i_0
  have e_19_i_0 := (hL9 _ hd_19_i_0).trans e_19_i_0
  have e_18_i_1 := (hL9 _ hd_18_i_1).trans e_18_i_1
  have e_19_i_1 := (hL9 _ hd_19_i_1).trans e_19_i_1
  have e_18_i_2 := (hL9 _ hd_18_i_2).trans e_18_i_2
  have e_19_i_2 := (hL9 _ hd_19_i_2).trans e_19_i_2
  have e_18_i_3 := (hL9 _ hd_18_i_3).trans e_18_i_3
  have e_19_i_3 := (hL9 _ hd_19_i_3).trans e_19_i_3
  have e_18_i_4 := (hL9 _ hd_18_i_4).trans e_18_i_4
  have e_19_i_4 := (hL9 _ hd_19_i_4).trans e_19_i_4
  have e_13_i_0 := (hL9 _ hd_13_i_0).trans e_13_i_0
  have e_14_i_0 := (hL9 _ hd_14_i_0).trans e_14_i_0
  have e_15_i_0 := (hL9 _ hd_15_i_0).trans e_15_i_0
  have e_16_i_0 := (hL9 _ hd_16_i_0).trans e_16_i_0
  have hLL := fun y (hy : dom y) => (hL9 y (hdd y hy)).trans (hLL y hy)
  have hdd := fun y (hy : dom y) => hG.inO (hdd y hy)
  have hd_11_i_0 := hG.inO hd_11_i_0
  have hd_12_i_0 := hG.inO hd_12_i_0
  have hd_18_i_0 := hG.inO hd_18_i_0
  have hd_19_i_0 := hG.inO hd_19_i_0
  have hd_18_i_1 := hG.inO hd_18_i_1
  have hd_19_i_1 := hG.inO hd_19_i_1
  have hd_18_i_2 := hG.inO hd_18_i_2
  have hd_19_i_2 := hG.inO hd_19_i_2
  have hd_18_i_3 := hG.inO hd_18_i_3
  have hd_19_i_3 := hG.inO hd_19_i_3
  have hd_18_i_4 := hG.inO hd_18_i_4
  have hd_19_i_4 := hG.inO hd_19_i_4
  have hd_13_i_0 := hG.inO hd_13_i_0
  have hd_14_i_0 := hG.inO hd_14_i_0
  have hd_15_i_0 := hG.inO hd_15_i_0
  have hd_16_i_0 := hG.inO hd_16_i_0
  have hd_17_i_0 := hG.inX
  have hf_20_i_0 := hG.notin hf_20_i_0 (by simp)
  have hf_21_i_0 := hG.notin hf_21_i_0 (by simp)
  generalize hV39 : g_set V37 (17, i, 0) (.inr (6, [.null, .null, .int 0])) = V39 at hG
  have hv_11_i_0 : V39 (11, i, 0) = .inr (7, [.int p, .ref b5, .ref b33, .null, .int 1, .int 0, .int 0]) := by rw [← hV39, g_set_ne (by simp)]; exact hv_11_i_0
  have hv_12_i_0 : V39 (12, i, 0) = .inl (cy 3, 5, .inr (.inr (.inr (.inr (va_up (va_up (va_up (va_up (va_up (fun _ => none) 0 (some b8)) 1 (some b13)) 2 (some b18)) 3 (some b23)) 4 (some b28)))))) := by rw [← hV39, g_set_ne (by simp)]; exact hv_12_i_0
  have hv_18_i_0 : V39 (18, i, 0) = .inr (5, [.ref (L10 (19, i, 0)), .int 0, .int 0]) := by rw [← hV39, g_set_ne (by simp)]; exact hv_18_i_0
  have hv_19_i_0 : V39 (19, i, 0) = .inl (cy 0, 100, .inl (fun _ => 0)) := by rw [← hV39, g_set_ne (by simp)]; exact hv_19_i_0
  have hv_18_i_1 : V39 (18, i, 1) = .inr (5, [.ref (L15 (19, i, 1)), .int 0, .int 0]) := by rw [← hV39, g_set_ne (by simp)]; exact hv_18_i_1
  have hv_19_i_1 : V39 (19, i, 1) = .inl (cy 0, 100, .inl (fun _ => 0)) := by rw [← hV39, g_set_ne (by simp)]; exact hv_19_i_1
  have hv_18_i_2 : V39 (18, i, 2) = .inr (5, [.ref (L20 (19, i, 2)), .int 0, .int 0]) := by rw [← hV39, g_set_ne (by simp)]; exact hv_18_i_2
  have hv_19_i_2 : V39 (19, i, 2) = .inl (cy 0, 100, .inl (fun _ => 0)) := by rw [← hV39, g_set_ne (by simp)]; exact hv_19_i_2
  have hv_18_i_3 : V39 (18, i, 3) = .inr (5, [.ref (L25 (19, i, 3)), .int 0, .int 0]) := by rw [← hV39, g_set_ne (by simp)]; exact hv_18_i_3
  have hv_19_i_3 : V39 (19, i, 3) = .inl (cy 0, 100, .inl (fun _ => 0)) := by rw [← hV39, g_set_ne (by simp)]; exact hv_19_i_3
  have hv_18_i_4 : V39 (18, i, 4) = .inr (5, [.ref (L30 (19, i, 4)), .int 0, .int 0]) := by rw [← hV39, g_set_ne (by simp)]; exact hv_18_i_4
  have hv_19_i_4 : V39 (19, i, 4) = .inl (cy 0, 100, .inl (fun _ => 0)) := by rw [← hV39, g_set_ne (by simp)]; exact hv_19_i_4
  have hv_13_i_0 : V39 (13, i, 0) = .inr (2, [.int q, .ref (L35 (14, i, 0)), .ref (L35 (15, i, 0)), .ref (L35 (16, i, 0)), .int 0, .int 0]) := by rw [← hV39, g_set_ne (by simp)]; exact hv_13_i_0
  have hv_14_i_0 : V39 (14, i, 0) = .inl (cy 0, 100, .inl (fun _ => 0)) := by rw [← hV39, g_set_ne (by simp)]; exact hv_14_i_0
  have hv_15_i_0 : V39 (15, i, 0) = .inl (cy 0, 100, .inl (fun _ => 0)) := by rw [← hV39, g_set_ne (by simp)]; exact hv_15_i_0
  have hv_16_i_0 : V39 (16, i, 0) = .inl (cy 0, 100, .inl (fun _ => 0)) := by rw [← hV39, g_set_ne (by simp)]; exact hv_16_i_0
  have hv_17_i_0 : V39 (17, i, 0) = .inr (6, [.null, .null, .int 0]) := by rw [← hV39, g_set_self]
  have hVo : ∀ y, y ≠ (11, i, 0) ∧ y ≠ (12, i, 0) ∧ y ≠ (18, i, 0) ∧ y ≠ (19, i, 0) ∧ y ≠ (18, i, 1) ∧ y ≠ (19, i, 1) ∧ y ≠ (18, i, 2) ∧ y ≠ (19, i, 2) ∧ y ≠ (18, i, 3) ∧ y ≠ (19, i, 3) ∧ y ≠ (18, i, 4) ∧ y ≠ (19, i, 4) ∧ y ≠ (13, i, 0) ∧ y ≠ (14, i, 0) ∧ y ≠ (15, i, 0) ∧ y ≠ (16, i, 0) ∧ y ≠ (17, i, 0) ∧ y ≠ (20, i, 0) ∧ y ≠ (21, i, 0) → V39 y = V y := fun y hy => by rw [← hV39, g_set_ne (fun q => hy.2.2.2.2.2.2.2.2.2.2.2.2.2.2.2.2.1 q)]; first | done | exact hVo y hy
  refine lv_dup hx hb dX5_init_88 rfl ?_
  have hz0 := hS.1
  refine h_cont (va_runIN (As := []) (rest := [.ref b38, .ref a0]) ⟨hx, hb, hml, hown, hts⟩ (k_X4_init l D cy _ L38 V39 H.size i b38 e_17_i_0 hd_17_i_0 hv_17_i_0 hf_20_i_0 hf_21_i_0) ⟨va_cnB 0 hts (g_good cwd_X4_init) rfl rfl rfl hN.2.1.2.2 (hts _ ini_X4) (by decide +kernel) ⟨Nat.le_of_ble_eq_true rfl, Nat.le_of_ble_eq_true rfl⟩, rfl, hts _ im_X4_init⟩ (h_pre hK hN hG) rfl rfl hl.1 rfl (lv_room (Nat.le_of_ble_eq_true rfl)) dX5_init_89 ⟨Nat.le_of_ble_eq_true rfl, Nat.le_of_ble_eq_true rfl⟩) hS (fun q hq => hq.elim (fun e9 => by rw [e9]; exact (hAn _ ha38)) (fun h9 => hAn q (Nat.le_trans hS.1 h9))) (fun L40 H locs hL9 hn9 hG hS hz9 o9 => ?_)
  refine W.eq (g2 := F0 m 92 ls [.ref b38, .ref a0]) rfl ?_
  have hs_12_i_0 : s.heap.size ≤ L40 (12, i, 0) := by rw [hL9 _ hd_12_i_0]; exact hs_12_i_0
  have hs_18_i_0 : s.heap.size ≤ L40 (18, i, 0) := by rw [hL9 _ hd_18_i_0]; exact hs_18_i_0
  have hs_19_i_0 : s.heap.size ≤ L40 (19, i, 0) := by rw [hL9 _ hd_19_i_0]; exact hs_19_i_0
  have hs_18_i_1 : s.heap.size ≤ L40 (18, i, 1) := by rw [hL9 _ hd_18_i_1]; exact hs_18_i_1
  have hs_19_i_1 : s.heap.size ≤ L40 (19, i, 1) := by rw [hL9 _ hd_19_i_1]; exact hs_19_i_1
  have hs_18_i_2 : s.heap.size ≤ L40 (18, i, 2) := by rw [hL9 _ hd_18_i_2]; exact hs_18_i_2
  have hs_19_i_2 : s.heap.size ≤ L40 (19, i, 2) := by rw [hL9 _ hd_19_i_2]; exact hs_19_i_2
  have hs_18_i_3 : s.heap.size ≤ L40 (18, i, 3) := by rw [hL9 _ hd_18_i_3]; exact hs_18_i_3
  have hs_19_i_3 : s.heap.size ≤ L40 (19, i, 3) := by rw [hL9 _ hd_19_i_3]; exact hs_19_i_3
  have hs_18_i_4 : s.heap.size ≤ L40 (18, i, 4) := by rw [hL9 _ hd_18_i_4]; exact hs_18_i_4
  have hs_19_i_4 : s.heap.size ≤ L40 (19, i, 4) := by rw [hL9 _ hd_19_i_4]; exact hs_19_i_4
  have hs_13_i_0 : s.heap.size ≤ L40 (13, i, 0) := by rw [hL9 _ hd_13_i_0]; exact hs_13_i_0
  have hs_14_i_0 : s.heap.size ≤ L40 (14, i, 0) := by rw [hL9 _ hd_14_i_0]; exact hs_14_i_0
  have hs_15_i_0 : s.heap.size ≤ L40 (15, i, 0) := by rw [hL9 _ hd_15_i_0]; exact hs_15_i_0
  have hs_16_i_0 : s.heap.size ≤ L40 (16, i, 0) := by rw [hL9 _ hd_16_i_0]; exact hs_16_i_0
  have hs_17_i_0 : s.heap.size ≤ L40 (17, i, 0) := by rw [hL9 _ hd_17_i_0]; exact hs_17_i_0
  have hs_20_i_0 : s.heap.size ≤ L40 (20, i, 0) := Nat.le_trans hz0 ((hn9 (20, i, 0) (Or.inr (by simp))).resolve_left hf_20_i_0)
  have hs_21_i_0 : s.heap.size ≤ L40 (21, i, 0) := Nat.le_trans hz0 ((hn9 (21, i, 0) (Or.inr (by simp))).resolve_left hf_21_i_0)
  have e_11_i_0 := (hL9 _ hd_11_i_0).trans e_11_i_0
  have e_12_i_0 := (hL9 _ hd_12_i_0).trans e_12_i_0
  have e_18_i_0 := (hL9 _ hd_18_i_0).trans e_18_i_0
  have e_19_i_0 := (hL9 _ hd_19_i_0).trans e_19_i_0
  have e_18_i_1 := (hL9 _ hd_18_i_1).trans e_18_i_1
  have e_19_i_1 := (hL9 _ hd_19_i_1).trans e_19_i_1
  have e_18_i_2 := (hL9 _ hd_18_i_2).trans e_18_i_2
  have e_19_i_2 := (hL9 _ hd_19_i_2).trans e_19_i_2
  have e_18_i_3 := (hL9 _ hd_18_i_3).trans e_18_i_3
  have e_19_i_3 := (hL9 _ hd_19_i_3).trans e_19_i_3
  have e_18_i_4 := (hL9 _ hd_18_i_4).trans e_18_i_4
  have e_19_i_4 := (hL9 _ hd_19_i_4).trans e_19_i_4
  have e_13_i_0 := (hL9 _ hd_13_i_0).trans e_13_i_0
  have e_14_i_0 := (hL9 _ hd_14_i_0).trans e_14_i_0
  have e_15_i_0 := (hL9 _ hd_15_i_0).trans e_15_i_0
  have e_16_i_0 := (hL9 _ hd_16_i_0).trans e_16_i_0
  have e_17_i_0 := (hL9 _ hd_17_i_0).trans e_17_i_0
  have hLL := fun y (hy : dom y) => (hL9 y (hdd y hy)).trans (hLL y hy)
  have hdd := fun y (hy : dom y) => hG.uL (hdd y hy)
  have hd_11_i_0 := hG.uL hd_11_i_0
  have hd_12_i_0 := hG.uL hd_12_i_0
  have hd_18_i_0 := hG.uL hd_18_i_0
  have hd_19_i_0 := hG.uL hd_19_i_0
  have hd_18_i_1 := hG.uL hd_18_i_1
  have hd_19_i_1 := hG.uL hd_19_i_1
  have hd_18_i_2 := hG.uL hd_18_i_2
  have hd_19_i_2 := hG.uL hd_19_i_2
  have hd_18_i_3 := hG.uL hd_18_i_3
  have hd_19_i_3 := hG.uL hd_19_i_3
  have hd_18_i_4 := hG.uL hd_18_i_4
  have hd_19_i_4 := hG.uL hd_19_i_4
  have hd_13_i_0 := hG.uL hd_13_i_0
  have hd_14_i_0 := hG.uL hd_14_i_0
  have hd_15_i_0 := hG.uL hd_15_i_0
  have hd_16_i_0 := hG.uL hd_16_i_0
  have hd_17_i_0 := hG.uL hd_17_i_0
  have hd_20_i_0 := hG.uR (y := (20, i, 0)) (by simp)
  have e_20_i_0 : L40 (20, i, 0) = L40 (20, i, 0) := rfl
  have hd_21_i_0 := hG.uR (y := (21, i, 0)) (by simp)
  have e_21_i_0 : L40 (21, i, 0) = L40 (21, i, 0) := rfl
  have hG : g_H D vwCl _ L40 (fun x => if x = (17, i, 0) then .inr (6, [.ref (L40 (20, i, 0)), .ref (L40 (21, i, 0)), .int 0]) else if x = (20, i, 0) then .inl (cy 0, 20, .inl (fun _ => 0)) else if x = (21, i, 0) then .inl (cy 0, 20, .inl (fun _ => 0)) else V39 x) H := hG
  generalize hV41 : (fun x => if x = (17, i, 0) then .inr (6, [.ref (L40 (20, i, 0)), .ref (L40 (21, i, 0)), .int 0]) else if x = (20, i, 0) then .inl (cy 0, 20, .inl (fun _ => 0)) else if x = (21, i, 0) then .inl (cy 0, 20, .inl (fun _ => 0)) else V39 x) = V41 at hG
  have hv_11_i_0 : V41 (11, i, 0) = .inr (7, [.int p, .ref b5, .ref b33, .null, .int 1, .int 0, .int 0]) := by rw [← hV41]; exact (if_neg (by simp)).trans ((if_neg (by simp)).trans ((if_neg (by simp)).trans (hv_11_i_0)))
  have hv_12_i_0 : V41 (12, i, 0) = .inl (cy 3, 5, .inr (.inr (.inr (.inr (va_up (va_up (va_up (va_up (va_up (fun _ => none) 0 (some b8)) 1 (some b13)) 2 (some b18)) 3 (some b23)) 4 (some b28)))))) := by rw [← hV41]; exact (if_neg (by simp)).trans ((if_neg (by simp)).trans ((if_neg (by simp)).trans (hv_12_i_0)))
  have hv_18_i_0 : V41 (18, i, 0) = .inr (5, [.ref (L10 (19, i, 0)), .int 0, .int 0]) := by rw [← hV41]; exact (if_neg (by simp)).trans ((if_neg (by simp)).trans ((if_neg (by simp)).trans (hv_18_i_0)))
  have hv_19_i_0 : V41 (19, i, 0) = .inl (cy 0, 100, .inl (fun _ => 0)) := by rw [← hV41]; exact (if_neg (by simp)).trans ((if_neg (by simp)).trans ((if_neg (by simp)).trans (hv_19_i_0)))
  have hv_18_i_1 : V41 (18, i, 1) = .inr (5, [.ref (L15 (19, i, 1)), .int 0, .int 0]) := by rw [← hV41]; exact (if_neg (by simp)).trans ((if_neg (by simp)).trans ((if_neg (by simp)).trans (hv_18_i_1)))
  have hv_19_i_1 : V41 (19, i, 1) = .inl (cy 0, 100, .inl (fun _ => 0)) := by rw [← hV41]; exact (if_neg (by simp)).trans ((if_neg (by simp)).trans ((if_neg (by simp)).trans (hv_19_i_1)))
  have hv_18_i_2 : V41 (18, i, 2) = .inr (5, [.ref (L20 (19, i, 2)), .int 0, .int 0]) := by rw [← hV41]; exact (if_neg (by simp)).trans ((if_neg (by simp)).trans ((if_neg (by simp)).trans (hv_18_i_2)))
  have hv_19_i_2 : V41 (19, i, 2) = .inl (cy 0, 100, .inl (fun _ => 0)) := by rw [← hV41]; exact (if_neg (by simp)).trans ((if_neg (by simp)).trans ((if_neg (by simp)).trans (hv_19_i_2)))
  have hv_18_i_3 : V41 (18, i, 3) = .inr (5, [.ref (L25 (19, i, 3)), .int 0, .int 0]) := by rw [← hV41]; exact (if_neg (by simp)).trans ((if_neg (by simp)).trans ((if_neg (by simp)).trans (hv_18_i_3)))
  have hv_19_i_3 : V41 (19, i, 3) = .inl (cy 0, 100, .inl (fun _ => 0)) := by rw [← hV41]; exact (if_neg (by simp)).trans ((if_neg (by simp)).trans ((if_neg (by simp)).trans (hv_19_i_3)))
  have hv_18_i_4 : V41 (18, i, 4) = .inr (5, [.ref (L30 (19, i, 4)), .int 0, .int 0]) := by rw [← hV41]; exact (if_neg (by simp)).trans ((if_neg (by simp)).trans ((if_neg (by simp)).trans (hv_18_i_4)))
  have hv_19_i_4 : V41 (19, i, 4) = .inl (cy 0, 100, .inl (fun _ => 0)) := by rw [← hV41]; exact (if_neg (by simp)).trans ((if_neg (by simp)).trans ((if_neg (by simp)).trans (hv_19_i_4)))
  have hv_13_i_0 : V41 (13, i, 0) = .inr (2, [.int q, .ref (L35 (14, i, 0)), .ref (L35 (15, i, 0)), .ref (L35 (16, i, 0)), .int 0, .int 0]) := by rw [← hV41]; exact (if_neg (by simp)).trans ((if_neg (by simp)).trans ((if_neg (by simp)).trans (hv_13_i_0)))
  have hv_14_i_0 : V41 (14, i, 0) = .inl (cy 0, 100, .inl (fun _ => 0)) := by rw [← hV41]; exact (if_neg (by simp)).trans ((if_neg (by simp)).trans ((if_neg (by simp)).trans (hv_14_i_0)))
  have hv_15_i_0 : V41 (15, i, 0) = .inl (cy 0, 100, .inl (fun _ => 0)) := by rw [← hV41]; exact (if_neg (by simp)).trans ((if_neg (by simp)).trans ((if_neg (by simp)).trans (hv_15_i_0)))
  have hv_16_i_0 : V41 (16, i, 0) = .inl (cy 0, 100, .inl (fun _ => 0)) := by rw [← hV41]; exact (if_neg (by simp)).trans ((if_neg (by simp)).trans ((if_neg (by simp)).trans (hv_16_i_0)))
  have hv_17_i_0 : V41 (17, i, 0) = .inr (6, [.ref (L40 (20, i, 0)), .ref (L40 (21, i, 0)), .int 0]) := by rw [← hV41]; exact if_pos rfl
  have hv_20_i_0 : V41 (20, i, 0) = .inl (cy 0, 20, .inl (fun _ => 0)) := by rw [← hV41]; exact (if_neg (by simp)).trans (if_pos rfl)
  have hv_21_i_0 : V41 (21, i, 0) = .inl (cy 0, 20, .inl (fun _ => 0)) := by rw [← hV41]; exact (if_neg (by simp)).trans ((if_neg (by simp)).trans (if_pos rfl))
  have hVo : ∀ y, y ≠ (11, i, 0) ∧ y ≠ (12, i, 0) ∧ y ≠ (18, i, 0) ∧ y ≠ (19, i, 0) ∧ y ≠ (18, i, 1) ∧ y ≠ (19, i, 1) ∧ y ≠ (18, i, 2) ∧ y ≠ (19, i, 2) ∧ y ≠ (18, i, 3) ∧ y ≠ (19, i, 3) ∧ y ≠ (18, i, 4) ∧ y ≠ (19, i, 4) ∧ y ≠ (13, i, 0) ∧ y ≠ (14, i, 0) ∧ y ≠ (15, i, 0) ∧ y ≠ (16, i, 0) ∧ y ≠ (17, i, 0) ∧ y ≠ (20, i, 0) ∧ y ≠ (21, i, 0) → V41 y = V y := fun y hy => by rw [← hV41]; exact (if_neg (fun q => by subst q; simp at hy)).trans ((if_neg (fun q => by subst q; simp at hy)).trans ((if_neg (fun q => by subst q; simp at hy)).trans (hVo y hy)))
  refine h_putF (C := RX5) (T := TX5) (N := 7) (ci := 7) (ty := (tyX5 3)) hx hb hts inX5g tyX5_ok nmX5 hown hK hG hS (11, i, 0) hd_11_i_0 e_11_i_0 hAa hv_11_i_0 rfl 3 (by decide) fl_X5_44 rfl hin2 rfl (by decide +kernel) rfl rfl (Nat.le_of_ble_eq_true rfl) dX5_init_92 (fun H locs hG hS => ?_)
  have hG : g_H D vwCl _ L40 (g_set V41 (11, i, 0) (.inr (7, [.int p, .ref b5, .ref b33, .ref b38, .int 1, .int 0, .int 0]))) H := hG
  generalize hV42 : g_set V41 (11, i, 0) (.inr (7, [.int p, .ref b5, .ref b33, .ref b38, .int 1, .int 0, .int 0])) = V42 at hG
  have hv_12_i_0 : V42 (12, i, 0) = .inl (cy 3, 5, .inr (.inr (.inr (.inr (va_up (va_up (va_up (va_up (va_up (fun _ => none) 0 (some b8)) 1 (some b13)) 2 (some b18)) 3 (some b23)) 4 (some b28)))))) := by rw [← hV42, g_set_ne (by simp)]; exact hv_12_i_0
  have hv_18_i_0 : V42 (18, i, 0) = .inr (5, [.ref (L10 (19, i, 0)), .int 0, .int 0]) := by rw [← hV42, g_set_ne (by simp)]; exact hv_18_i_0
  have hv_19_i_0 : V42 (19, i, 0) = .inl (cy 0, 100, .inl (fun _ => 0)) := by rw [← hV42, g_set_ne (by simp)]; exact hv_19_i_0
  have hv_18_i_1 : V42 (18, i, 1) = .inr (5, [.ref (L15 (19, i, 1)), .int 0, .int 0]) := by rw [← hV42, g_set_ne (by simp)]; exact hv_18_i_1
  have hv_19_i_1 : V42 (19, i, 1) = .inl (cy 0, 100, .inl (fun _ => 0)) := by rw [← hV42, g_set_ne (by simp)]; exact hv_19_i_1
  have hv_18_i_2 : V42 (18, i, 2) = .inr (5, [.ref (L20 (19, i, 2)), .int 0, .int 0]) := by rw [← hV42, g_set_ne (by simp)]; exact hv_18_i_2
  have hv_19_i_2 : V42 (19, i, 2) = .inl (cy 0, 100, .inl (fun _ => 0)) := by rw [← hV42, g_set_ne (by simp)]; exact hv_19_i_2
  have hv_18_i_3 : V42 (18, i, 3) = .inr (5, [.ref (L25 (19, i, 3)), .int 0, .int 0]) := by rw [← hV42, g_set_ne (by simp)]; exact hv_18_i_3
  have hv_19_i_3 : V42 (19, i, 3) = .inl (cy 0, 100, .inl (fun _ => 0)) := by rw [← hV42, g_set_ne (by simp)]; exact hv_19_i_3
  have hv_18_i_4 : V42 (18, i, 4) = .inr (5, [.ref (L30 (19, i, 4)), .int 0, .int 0]) := by rw [← hV42, g_set_ne (by simp)]; exact hv_18_i_4
  have hv_19_i_4 : V42 (19, i, 4) = .inl (cy 0, 100, .inl (fun _ => 0)) := by rw [← hV42, g_set_ne (by simp)]; exact hv_19_i_4
  have hv_13_i_0 : V42 (13, i, 0) = .inr (2, [.int q, .ref (L35 (14, i, 0)), .ref (L35 (15, i, 0)), .ref (L35 (16, i, 0)), .int 0, .int 0]) := by rw [← hV42, g_set_ne (by simp)]; exact hv_13_i_0
  have hv_14_i_0 : V42 (14, i, 0) = .inl (cy 0, 100, .inl (fun _ => 0)) := by rw [← hV42, g_set_ne (by simp)]; exact hv_14_i_0
  have hv_15_i_0 : V42 (15, i, 0) = .inl (cy 0, 100, .inl (fun _ => 0)) := by rw [← hV42, g_set_ne (by simp)]; exact hv_15_i_0
  have hv_16_i_0 : V42 (16, i, 0) = .inl (cy 0, 100, .inl (fun _ => 0)) := by rw [← hV42, g_set_ne (by simp)]; exact hv_16_i_0
  have hv_17_i_0 : V42 (17, i, 0) = .inr (6, [.ref (L40 (20, i, 0)), .ref (L40 (21, i, 0)), .int 0]) := by rw [← hV42, g_set_ne (by simp)]; exact hv_17_i_0
  have hv_20_i_0 : V42 (20, i, 0) = .inl (cy 0, 20, .inl (fun _ => 0)) := by rw [← hV42, g_set_ne (by simp)]; exact hv_20_i_0
  have hv_21_i_0 : V42 (21, i, 0) = .inl (cy 0, 20, .inl (fun _ => 0)) := by rw [← hV42, g_set_ne (by simp)]; exact hv_21_i_0
  have hv_11_i_0 : V42 (11, i, 0) = .inr (7, [.int p, .ref b5, .ref b33, .ref b38, .int 1, .int 0, .int 0]) := by rw [← hV42, g_set_self]
  have hVo : ∀ y, y ≠ (11, i, 0) ∧ y ≠ (12, i, 0) ∧ y ≠ (18, i, 0) ∧ y ≠ (19, i, 0) ∧ y ≠ (18, i, 1) ∧ y ≠ (19, i, 1) ∧ y ≠ (18, i, 2) ∧ y ≠ (19, i, 2) ∧ y ≠ (18, i, 3) ∧ y ≠ (19, i, 3) ∧ y ≠ (18, i, 4) ∧ y ≠ (19, i, 4) ∧ y ≠ (13, i, 0) ∧ y ≠ (14, i, 0) ∧ y ≠ (15, i, 0) ∧ y ≠ (16, i, 0) ∧ y ≠ (17, i, 0) ∧ y ≠ (20, i, 0) ∧ y ≠ (21, i, 0) → V42 y = V y := fun y hy => by rw [← hV42, g_set_ne (fun q => hy.1 q)]; first | done | exact hVo y hy
  have hnw : ∀ y, (dom y ∨ y = (12, i, 0) ∨ y = (18, i, 0) ∨ y = (19, i, 0) ∨ y = (18, i, 1) ∨ y = (19, i, 1) ∨ y = (18, i, 2) ∨ y = (19, i, 2) ∨ y = (18, i, 3) ∨ y = (19, i, 3) ∨ y = (18, i, 4) ∨ y = (19, i, 4) ∨ y = (13, i, 0) ∨ y = (14, i, 0) ∨ y = (15, i, 0) ∨ y = (16, i, 0) ∨ y = (17, i, 0) ∨ y = (20, i, 0) ∨ y = (21, i, 0)) → dom y ∨ s.heap.size ≤ L40 y := by
    intro y h
    rcases h with h | rfl | rfl | rfl | rfl | rfl | rfl | rfl | rfl | rfl | rfl | rfl | rfl | rfl | rfl | rfl | rfl | rfl | rfl
    · exact Or.inl h
    · exact Or.inr hs_12_i_0
    · exact Or.inr hs_18_i_0
    · exact Or.inr hs_19_i_0
    · exact Or.inr hs_18_i_1
    · exact Or.inr hs_19_i_1
    · exact Or.inr hs_18_i_2
    · exact Or.inr hs_19_i_2
    · exact Or.inr hs_18_i_3
    · exact Or.inr hs_19_i_3
    · exact Or.inr hs_18_i_4
    · exact Or.inr hs_19_i_4
    · exact Or.inr hs_13_i_0
    · exact Or.inr hs_14_i_0
    · exact Or.inr hs_15_i_0
    · exact Or.inr hs_16_i_0
    · exact Or.inr hs_17_i_0
    · exact Or.inr hs_20_i_0
    · exact Or.inr hs_21_i_0
  refine h_vret hx hb hr hlk hLL hnw (hG.congr (fun x h => ?_) (fun x h => ?_)) hS dX5_init_95
  · rcases h with h | rfl | rfl | rfl | rfl | rfl | rfl | rfl | rfl | rfl | rfl | rfl | rfl | rfl | rfl | rfl | rfl | rfl | rfl
    · exact hdd x h
    · exact hd_12_i_0
    · exact hd_18_i_0
    · exact hd_19_i_0
    · exact hd_18_i_1
    · exact hd_19_i_1
    · exact hd_18_i_2
    · exact hd_19_i_2
    · exact hd_18_i_3
    · exact hd_19_i_3
    · exact hd_18_i_4
    · exact hd_19_i_4
    · exact hd_13_i_0
    · exact hd_14_i_0
    · exact hd_15_i_0
    · exact hd_16_i_0
    · exact hd_17_i_0
    · exact hd_20_i_0
    · exact hd_21_i_0
  · by_cases q_11_i_0 : x = (11, i, 0)
    · rw [if_pos q_11_i_0, q_11_i_0, hv_11_i_0, e_12_i_0, e_13_i_0, e_17_i_0]
    · rw [if_neg q_11_i_0]
      by_cases q_12_i_0 : x = (12, i, 0)
      · rw [if_pos q_12_i_0, q_12_i_0, hv_12_i_0, e_18_i_0, e_18_i_1, e_18_i_2, e_18_i_3, e_18_i_4]
      · rw [if_neg q_12_i_0]
        by_cases q_18_i_0 : x = (18, i, 0)
        · rw [if_pos q_18_i_0, q_18_i_0, hv_18_i_0, e_19_i_0]
        · rw [if_neg q_18_i_0]
          by_cases q_19_i_0 : x = (19, i, 0)
          · rw [if_pos q_19_i_0, q_19_i_0, hv_19_i_0]
          · rw [if_neg q_19_i_0]
            by_cases q_18_i_1 : x = (18, i, 1)
            · rw [if_pos q_18_i_1, q_18_i_1, hv_18_i_1, e_19_i_1]
            · rw [if_neg q_18_i_1]
              by_cases q_19_i_1 : x = (19, i, 1)
              · rw [if_pos q_19_i_1, q_19_i_1, hv_19_i_1]
              · rw [if_neg q_19_i_1]
                by_cases q_18_i_2 : x = (18, i, 2)
                · rw [if_pos q_18_i_2, q_18_i_2, hv_18_i_2, e_19_i_2]
                · rw [if_neg q_18_i_2]
                  by_cases q_19_i_2 : x = (19, i, 2)
                  · rw [if_pos q_19_i_2, q_19_i_2, hv_19_i_2]
                  · rw [if_neg q_19_i_2]
                    by_cases q_18_i_3 : x = (18, i, 3)
                    · rw [if_pos q_18_i_3, q_18_i_3, hv_18_i_3, e_19_i_3]
                    · rw [if_neg q_18_i_3]
                      by_cases q_19_i_3 : x = (19, i, 3)
                      · rw [if_pos q_19_i_3, q_19_i_3, hv_19_i_3]
                      · rw [if_neg q_19_i_3]
                        by_cases q_18_i_4 : x = (18, i, 4)
                        · rw [if_pos q_18_i_4, q_18_i_4, hv_18_i_4, e_19_i_4]
                        · rw [if_neg q_18_i_4]
                          by_cases q_19_i_4 : x = (19, i, 4)
                          · rw [if_pos q_19_i_4, q_19_i_4, hv_19_i_4]
                          · rw [if_neg q_19_i_4]
                            by_cases q_13_i_0 : x = (13, i, 0)
                            · rw [if_pos q_13_i_0, q_13_i_0, hv_13_i_0, e_14_i_0, e_15_i_0, e_16_i_0]
                            · rw [if_neg q_13_i_0]
                              by_cases q_14_i_0 : x = (14, i, 0)
                              · rw [if_pos q_14_i_0, q_14_i_0, hv_14_i_0]
                              · rw [if_neg q_14_i_0]
                                by_cases q_15_i_0 : x = (15, i, 0)
                                · rw [if_pos q_15_i_0, q_15_i_0, hv_15_i_0]
                                · rw [if_neg q_15_i_0]
                                  by_cases q_16_i_0 : x = (16, i, 0)
                                  · rw [if_pos q_16_i_0, q_16_i_0, hv_16_i_0]
                                  · rw [if_neg q_16_i_0]
                                    by_cases q_17_i_0 : x = (17, i, 0)
                                    · rw [if_pos q_17_i_0, q_17_i_0, hv_17_i_0, e_20_i_0, e_21_i_0]
                                    · rw [if_neg q_17_i_0]
                                      by_cases q_20_i_0 : x = (20, i, 0)
                                      · rw [if_pos q_20_i_0, q_20_i_0, hv_20_i_0]
                                      · rw [if_neg q_20_i_0]
                                        by_cases q_21_i_0 : x = (21, i, 0)
                                        · rw [if_pos q_21_i_0, q_21_i_0, hv_21_i_0]
                                        · rw [if_neg q_21_i_0]
                                          exact (hVo x ⟨q_11_i_0, q_12_i_0, q_18_i_0, q_19_i_0, q_18_i_1, q_19_i_1, q_18_i_2, q_19_i_2, q_18_i_3, q_19_i_3, q_18_i_4, q_19_i_4, q_13_i_0, q_14_i_0, q_15_i_0, q_16_i_0, q_17_i_0, q_20_i_0, q_21_i_0⟩).symm
