/-! the records and the class itself are made -/
set_option maxHeartbeats 4000000 in
set_option maxRecDepth 100000 in
theorem k_X2_init (l : Launch) (D : va_G) (cy : Nat → ClassId) (dom : g_S → Prop) (L : g_S → Nat) (V : g_S → va_E) (sz : Nat)  (a0 : Nat) (e_1_0_0 : L (1, 0, 0) = a0) (hd_1_0_0 : dom (1, 0, 0)) (hv_1_0_0 : V (1, 0, 0) = .inr (4, [.null, .null, .int 0])) (hf_3_0_0 : ¬ dom (3, 0, 0)) (hf_4_0_0 : ¬ dom (4, 0, 0)) (hf_10_0_0 : ¬ dom (10, 0, 0)) (hf_10_1_0 : ¬ dom (10, 1, 0)) (hf_10_2_0 : ¬ dom (10, 2, 0)) (hf_10_3_0 : ¬ dom (10, 3, 0)) (hf_10_4_0 : ¬ dom (10, 4, 0)) : h_Met l yX2_init (.code yX2_init cX2_init 1 none) 1 7 605 D vwCl (x_tys cy) dom L V sz [.ref a0] (h_A a0 sz) none (fun x => dom x ∨ x = (3, 0, 0) ∨ x = (4, 0, 0) ∨ x = (10, 0, 0) ∨ x = (10, 1, 0) ∨ x = (10, 2, 0) ∨ x = (10, 3, 0) ∨ x = (10, 4, 0)) (fun L' x => if x = (1, 0, 0) then .inr (4, [.ref (L' (3, 0, 0)), .ref (L' (4, 0, 0)), .int 0]) else if x = (3, 0, 0) then .inl (cy 0, 100, .inl (fun _ => 0)) else if x = (4, 0, 0) then .inl (cy 1, 5, .inr (.inr (.inr (.inr (va_up (va_up (va_up (va_up (va_up (fun _ => none) 0 (some (L' (10, 0, 0)))) 1 (some (L' (10, 1, 0)))) 2 (some (L' (10, 2, 0)))) 3 (some (L' (10, 3, 0)))) 4 (some (L' (10, 4, 0)))))))) else if x = (10, 0, 0) then .inl (cy 0, 100, .inl (fun _ => 0)) else if x = (10, 1, 0) then .inl (cy 0, 100, .inl (fun _ => 0)) else if x = (10, 2, 0) then .inl (cy 0, 100, .inl (fun _ => 0)) else if x = (10, 3, 0) then .inl (cy 0, 100, .inl (fun _ => 0)) else if x = (10, 4, 0) then .inl (cy 0, 100, .inl (fun _ => 0)) else V x) := by
  refine h_Met.of (by decide) (Nat.le_of_ble_eq_true rfl) ?_
  intro pg e s m below meth c hx hb hr hlk hml hown hin2 hsz hts hK hN hG ls hl
  have hown : s.vm.findClass RX2 = some m.cls := hown
  have hl : lv_has ls 1 [(0, .ref a0)] := hl
  have hS : va_S (h_A a0 sz) s.heap s.heap [] := va_S.rf
  have hAa : h_A a0 sz a0 := Or.inl rfl
  have hAn : ∀ q, s.heap.size ≤ q → h_A a0 sz q := fun q h => Or.inr (by rw [← hsz]; exact h)
  have hLL := fun y (_ : dom y) => (rfl : L y = L y)
  have hdd := fun y (hy : dom y) => hy
  have hVo : ∀ y, y ≠ (1, 0, 0) ∧ y ≠ (3, 0, 0) ∧ y ≠ (4, 0, 0) ∧ y ≠ (10, 0, 0) ∧ y ≠ (10, 1, 0) ∧ y ≠ (10, 2, 0) ∧ y ≠ (10, 3, 0) ∧ y ≠ (10, 4, 0) → V y = V y := fun _ _ => rfl
  refine lv_aload_n hx hb dX2_init_0 rfl (lv_at hl 0 rfl) ?_
  refine W.objInit hx hb hown (hts _ ol_X2) (hts _ oi_ob) (hts _ oc_ob) rfl (by rw [hml]; exact hl.1) rfl dX2_init_1 (Nat.le_of_ble_eq_true rfl) (Nat.le_of_ble_eq_true rfl) ?_
  refine W.eq (g2 := F0 m 4 ls []) rfl ?_
  refine lv_aload_n hx hb dX2_init_4 rfl (lv_at hl 0 rfl) ?_
  refine lv_bipush (v := 100) hx hb dX2_init_5 (by decide) ?_
  refine h_newa (harr := hts _ ac_int) (atype := .int) (ty := .int) (a0 := (100, .inl (fun _ => 0))) hx hb rfl (fun C h => by cases h) hK 0 rfl hG hS (3, 0, 0) hf_3_0_0 rfl (by decide) rfl (by decide) (Nat.le_of_ble_eq_true rfl) (Nat.le_of_ble_eq_true rfl) dX2_init_7 (fun L1 b1 H hL9 e_3_0_0 ha1 hG hS hz9 o9 => ?_)
  have hs_3_0_0 : s.heap.size ≤ L1 (3, 0, 0) := by rw [e_3_0_0]; exact ha1
  have e_1_0_0 := (hL9 _ hd_1_0_0).trans e_1_0_0
  have hLL := fun y (hy : dom y) => (hL9 y (hdd y hy)).trans (hLL y hy)
  have hdd := fun y (hy : dom y) => hG.inO (hdd y hy)
  have hd_1_0_0 := hG.inO hd_1_0_0
  have hd_3_0_0 := hG.inX
  have hf_4_0_0 := hG.notin hf_4_0_0 (by decide)
  have hf_10_0_0 := hG.notin hf_10_0_0 (by decide)
  have hf_10_1_0 := hG.notin hf_10_1_0 (by decide)
  have hf_10_2_0 := hG.notin hf_10_2_0 (by decide)
  have hf_10_3_0 := hG.notin hf_10_3_0 (by decide)
  have hf_10_4_0 := hG.notin hf_10_4_0 (by decide)
  generalize hV2 : g_set V (3, 0, 0) (.inl (cy 0, 100, .inl (fun _ => 0))) = V2 at hG
  have hv_1_0_0 : V2 (1, 0, 0) = .inr (4, [.null, .null, .int 0]) := by rw [← hV2, g_set_ne (by decide)]; exact hv_1_0_0
  have hv_3_0_0 : V2 (3, 0, 0) = .inl (cy 0, 100, .inl (fun _ => 0)) := by rw [← hV2, g_set_self]
  have hVo : ∀ y, y ≠ (1, 0, 0) ∧ y ≠ (3, 0, 0) ∧ y ≠ (4, 0, 0) ∧ y ≠ (10, 0, 0) ∧ y ≠ (10, 1, 0) ∧ y ≠ (10, 2, 0) ∧ y ≠ (10, 3, 0) ∧ y ≠ (10, 4, 0) → V2 y = V y := fun y hy => by rw [← hV2, g_set_ne (fun q => hy.2.1 q)]; first | done | exact hVo y hy
  refine h_putF (C := RX2) (T := TX2) (N := 3) (ci := 4) (ty := (tyX2 0)) hx hb hts inX2g tyX2_ok nmX2 hown hK hG hS (1, 0, 0) hd_1_0_0 e_1_0_0 hAa hv_1_0_0 rfl 0 (by decide) fl_X2_9 rfl hin2 rfl (by decide +kernel) rfl rfl (Nat.le_of_ble_eq_true rfl) dX2_init_9 (fun H locs hG hS => ?_)
  have hG : g_H D vwCl _ L1 (g_set V2 (1, 0, 0) (.inr (4, [.ref b1, .null, .int 0]))) H := hG
  generalize hV3 : g_set V2 (1, 0, 0) (.inr (4, [.ref b1, .null, .int 0])) = V3 at hG
  have hv_3_0_0 : V3 (3, 0, 0) = .inl (cy 0, 100, .inl (fun _ => 0)) := by rw [← hV3, g_set_ne (by decide)]; exact hv_3_0_0
  have hv_1_0_0 : V3 (1, 0, 0) = .inr (4, [.ref b1, .null, .int 0]) := by rw [← hV3, g_set_self]
  have hVo : ∀ y, y ≠ (1, 0, 0) ∧ y ≠ (3, 0, 0) ∧ y ≠ (4, 0, 0) ∧ y ≠ (10, 0, 0) ∧ y ≠ (10, 1, 0) ∧ y ≠ (10, 2, 0) ∧ y ≠ (10, 3, 0) ∧ y ≠ (10, 4, 0) → V3 y = V y := fun y hy => by rw [← hV3, g_set_ne (fun q => hy.1 q)]; first | done | exact hVo y hy
  refine lv_aload_n hx hb dX2_init_12 rfl (lv_at hl 0 rfl) ?_
  refine lv_iconst (v := 5) hx hb dX2_init_13 (by decide) ?_
  refine lv_bipush (v := 100) hx hb dX2_init_14 (by decide) ?_
  have hz0 := hS.1
  refine h_mna hx hb hown (hts _ cl_X2_15) hN.2.2.2.2 (hts _ ac_int) hK rfl rfl hG hS hAn hf_4_0_0 (fun k hk => by rcases (show k = 0 ∨ k = 1 ∨ k = 2 ∨ k = 3 ∨ k = 4 by omega) with rfl | rfl | rfl | rfl | rfl <;> assumption) dX2_init_16 (Nat.le_of_ble_eq_true rfl) (Nat.le_of_ble_eq_true rfl) (fun L4 H locs hL9 hn9 hG hS hz9 o9 => ?_)
  have hs_3_0_0 : s.heap.size ≤ L4 (3, 0, 0) := by rw [hL9 _ hd_3_0_0]; exact hs_3_0_0
  have hs_4_0_0 : s.heap.size ≤ L4 (4, 0, 0) := Nat.le_trans hz0 (hn9 (4, 0, 0) (by simp))
  have hs_10_0_0 : s.heap.size ≤ L4 (10, 0, 0) := Nat.le_trans hz0 (hn9 (10, 0, 0) (by simp))
  have hs_10_1_0 : s.heap.size ≤ L4 (10, 1, 0) := Nat.le_trans hz0 (hn9 (10, 1, 0) (by simp))
  have hs_10_2_0 : s.heap.size ≤ L4 (10, 2, 0) := Nat.le_trans hz0 (hn9 (10, 2, 0) (by simp))
  have hs_10_3_0 : s.heap.size ≤ L4 (10, 3, 0) := Nat.le_trans hz0 (hn9 (10, 3, 0) (by simp))
  have hs_10_4_0 : s.heap.size ≤ L4 (10, 4, 0) := Nat.le_trans hz0 (hn9 (10, 4, 0) (by simp))
  have e_1_0_0 := (hL9 _ hd_1_0_0).trans e_1_0_0
  have e_3_0_0 := (hL9 _ hd_3_0_0).trans e_3_0_0
  have hLL := fun y (hy : dom y) => (hL9 y (hdd y hy)).trans (hLL y hy)
  have hdd := fun y (hy : dom y) => hG.uL (hdd y hy)
  have hd_1_0_0 := hG.uL hd_1_0_0
  have hd_3_0_0 := hG.uL hd_3_0_0
  have hd_4_0_0 := hG.uR (y := (4, 0, 0)) (by simp)
  have e_4_0_0 : L4 (4, 0, 0) = L4 (4, 0, 0) := rfl
  have hd_10_0_0 := hG.uR (y := (10, 0, 0)) (by simp)
  have e_10_0_0 : L4 (10, 0, 0) = L4 (10, 0, 0) := rfl
  have hd_10_1_0 := hG.uR (y := (10, 1, 0)) (by simp)
  have e_10_1_0 : L4 (10, 1, 0) = L4 (10, 1, 0) := rfl
  have hd_10_2_0 := hG.uR (y := (10, 2, 0)) (by simp)
  have e_10_2_0 : L4 (10, 2, 0) = L4 (10, 2, 0) := rfl
  have hd_10_3_0 := hG.uR (y := (10, 3, 0)) (by simp)
  have e_10_3_0 : L4 (10, 3, 0) = L4 (10, 3, 0) := rfl
  have hd_10_4_0 := hG.uR (y := (10, 4, 0)) (by simp)
  have e_10_4_0 : L4 (10, 4, 0) = L4 (10, 4, 0) := rfl
  have hG : g_H D vwCl _ L4 (fun x => if x = (4, 0, 0) then .inl (cy 1, 5, .inr (.inr (.inr (.inr (va_up (va_up (va_up (va_up (va_up (fun _ => none) 0 (some (L4 (10, 0, 0)))) 1 (some (L4 (10, 1, 0)))) 2 (some (L4 (10, 2, 0)))) 3 (some (L4 (10, 3, 0)))) 4 (some (L4 (10, 4, 0)))))))) else if x = (10, 0, 0) then .inl (cy 0, 100, .inl (fun _ => 0)) else if x = (10, 1, 0) then .inl (cy 0, 100, .inl (fun _ => 0)) else if x = (10, 2, 0) then .inl (cy 0, 100, .inl (fun _ => 0)) else if x = (10, 3, 0) then .inl (cy 0, 100, .inl (fun _ => 0)) else if x = (10, 4, 0) then .inl (cy 0, 100, .inl (fun _ => 0)) else V3 x) H := hG
  generalize hV5 : (fun x => if x = (4, 0, 0) then .inl (cy 1, 5, .inr (.inr (.inr (.inr (va_up (va_up (va_up (va_up (va_up (fun _ => none) 0 (some (L4 (10, 0, 0)))) 1 (some (L4 (10, 1, 0)))) 2 (some (L4 (10, 2, 0)))) 3 (some (L4 (10, 3, 0)))) 4 (some (L4 (10, 4, 0)))))))) else if x = (10, 0, 0) then .inl (cy 0, 100, .inl (fun _ => 0)) else if x = (10, 1, 0) then .inl (cy 0, 100, .inl (fun _ => 0)) else if x = (10, 2, 0) then .inl (cy 0, 100, .inl (fun _ => 0)) else if x = (10, 3, 0) then .inl (cy 0, 100, .inl (fun _ => 0)) else if x = (10, 4, 0) then .inl (cy 0, 100, .inl (fun _ => 0)) else V3 x) = V5 at hG
  have hv_1_0_0 : V5 (1, 0, 0) = .inr (4, [.ref b1, .null, .int 0]) := by rw [← hV5]; exact (if_neg (by simp)).trans ((if_neg (by simp)).trans ((if_neg (by simp)).trans ((if_neg (by simp)).trans ((if_neg (by simp)).trans ((if_neg (by simp)).trans (hv_1_0_0))))))
  have hv_3_0_0 : V5 (3, 0, 0) = .inl (cy 0, 100, .inl (fun _ => 0)) := by rw [← hV5]; exact (if_neg (by simp)).trans ((if_neg (by simp)).trans ((if_neg (by simp)).trans ((if_neg (by simp)).trans ((if_neg (by simp)).trans ((if_neg (by simp)).trans (hv_3_0_0))))))
  have hv_4_0_0 : V5 (4, 0, 0) = .inl (cy 1, 5, .inr (.inr (.inr (.inr (va_up (va_up (va_up (va_up (va_up (fun _ => none) 0 (some (L4 (10, 0, 0)))) 1 (some (L4 (10, 1, 0)))) 2 (some (L4 (10, 2, 0)))) 3 (some (L4 (10, 3, 0)))) 4 (some (L4 (10, 4, 0)))))))) := by rw [← hV5]; exact if_pos rfl
  have hv_10_0_0 : V5 (10, 0, 0) = .inl (cy 0, 100, .inl (fun _ => 0)) := by rw [← hV5]; exact (if_neg (by simp)).trans (if_pos rfl)
  have hv_10_1_0 : V5 (10, 1, 0) = .inl (cy 0, 100, .inl (fun _ => 0)) := by rw [← hV5]; exact (if_neg (by simp)).trans ((if_neg (by simp)).trans (if_pos rfl))
  have hv_10_2_0 : V5 (10, 2, 0) = .inl (cy 0, 100, .inl (fun _ => 0)) := by rw [← hV5]; exact (if_neg (by simp)).trans ((if_neg (by simp)).trans ((if_neg (by simp)).trans (if_pos rfl)))
  have hv_10_3_0 : V5 (10, 3, 0) = .inl (cy 0, 100, .inl (fun _ => 0)) := by rw [← hV5]; exact (if_neg (by simp)).trans ((if_neg (by simp)).trans ((if_neg (by simp)).trans ((if_neg (by simp)).trans (if_pos rfl))))
  have hv_10_4_0 : V5 (10, 4, 0) = .inl (cy 0, 100, .inl (fun _ => 0)) := by rw [← hV5]; exact (if_neg (by simp)).trans ((if_neg (by simp)).trans ((if_neg (by simp)).trans ((if_neg (by simp)).trans ((if_neg (by simp)).trans (if_pos rfl)))))
  have hVo : ∀ y, y ≠ (1, 0, 0) ∧ y ≠ (3, 0, 0) ∧ y ≠ (4, 0, 0) ∧ y ≠ (10, 0, 0) ∧ y ≠ (10, 1, 0) ∧ y ≠ (10, 2, 0) ∧ y ≠ (10, 3, 0) ∧ y ≠ (10, 4, 0) → V5 y = V y := fun y hy => by rw [← hV5]; exact (if_neg (fun q => by subst q; simp at hy)).trans ((if_neg (fun q => by subst q; simp at hy)).trans ((if_neg (fun q => by subst q; simp at hy)).trans ((if_neg (fun q => by subst q; simp at hy)).trans ((if_neg (fun q => by subst q; simp at hy)).trans ((if_neg (fun q => by subst q; simp at hy)).trans (hVo y hy))))))
  refine h_putF (C := RX2) (T := TX2) (N := 3) (ci := 4) (ty := (tyX2 1)) hx hb hts inX2g tyX2_ok nmX2 hown hK hG hS (1, 0, 0) hd_1_0_0 e_1_0_0 hAa hv_1_0_0 rfl 1 (by decide) fl_X2_17 rfl hin2 rfl (by decide +kernel) rfl rfl (Nat.le_of_ble_eq_true rfl) dX2_init_20 (fun H locs hG hS => ?_)
  have hG : g_H D vwCl _ L4 (g_set V5 (1, 0, 0) (.inr (4, [.ref b1, .ref (L4 (4, 0, 0)), .int 0]))) H := hG
  generalize hV6 : g_set V5 (1, 0, 0) (.inr (4, [.ref b1, .ref (L4 (4, 0, 0)), .int 0])) = V6 at hG
  have hv_3_0_0 : V6 (3, 0, 0) = .inl (cy 0, 100, .inl (fun _ => 0)) := by rw [← hV6, g_set_ne (by decide)]; exact hv_3_0_0
  have hv_4_0_0 : V6 (4, 0, 0) = .inl (cy 1, 5, .inr (.inr (.inr (.inr (va_up (va_up (va_up (va_up (va_up (fun _ => none) 0 (some (L4 (10, 0, 0)))) 1 (some (L4 (10, 1, 0)))) 2 (some (L4 (10, 2, 0)))) 3 (some (L4 (10, 3, 0)))) 4 (some (L4 (10, 4, 0)))))))) := by rw [← hV6, g_set_ne (by decide)]; exact hv_4_0_0
  have hv_10_0_0 : V6 (10, 0, 0) = .inl (cy 0, 100, .inl (fun _ => 0)) := by rw [← hV6, g_set_ne (by decide)]; exact hv_10_0_0
  have hv_10_1_0 : V6 (10, 1, 0) = .inl (cy 0, 100, .inl (fun _ => 0)) := by rw [← hV6, g_set_ne (by decide)]; exact hv_10_1_0
  have hv_10_2_0 : V6 (10, 2, 0) = .inl (cy 0, 100, .inl (fun _ => 0)) := by rw [← hV6, g_set_ne (by decide)]; exact hv_10_2_0
  have hv_10_3_0 : V6 (10, 3, 0) = .inl (cy 0, 100, .inl (fun _ => 0)) := by rw [← hV6, g_set_ne (by decide)]; exact hv_10_3_0
  have hv_10_4_0 : V6 (10, 4, 0) = .inl (cy 0, 100, .inl (fun _ => 0)) := by rw [← hV6, g_set_ne (by decide)]; exact hv_10_4_0
  have hv_1_0_0 : V6 (1, 0, 0) = .inr (4, [.ref b1, .ref (L4 (4, 0, 0)), .int 0]) := by rw [← hV6, g_set_self]
  have hVo : ∀ y, y ≠ (1, 0, 0) ∧ y ≠ (3, 0, 0) ∧ y ≠ (4, 0, 0) ∧ y ≠ (10, 0, 0) ∧ y ≠ (10, 1, 0) ∧ y ≠ (10, 2, 0) ∧ y ≠ (10, 3, 0) ∧ y ≠ (10, 4, 0) → V6 y = V y := fun y hy => by rw [← hV6, g_set_ne (fun q => hy.1 q)]; first | done | exact hVo y hy
  refine lv_aload_n hx hb dX2_init_23 rfl (lv_at hl 0 rfl) ?_
  refine lv_iconst (v := 0) hx hb dX2_init_24 (by decide) ?_
  refine h_put (C := RX2) (T := TX2) (N := 3) (ci := 4) (ty := .int) hx hb hts inX2g tyX2_ok nmX2 hown hK hG hS (1, 0, 0) hd_1_0_0 e_1_0_0 hAa hv_1_0_0 rfl 2 (by decide) fl_X2_20 rfl (by decide +kernel) rfl rfl (Nat.le_of_ble_eq_true rfl) dX2_init_25 (fun H locs hG hS => ?_)
  have hG : g_H D vwCl _ L4 (g_set V6 (1, 0, 0) (.inr (4, [.ref b1, .ref (L4 (4, 0, 0)), .int 0]))) H := hG
  generalize hV7 : g_set V6 (1, 0, 0) (.inr (4, [.ref b1, .ref (L4 (4, 0, 0)), .int 0])) = V7 at hG
  have hv_3_0_0 : V7 (3, 0, 0) = .inl (cy 0, 100, .inl (fun _ => 0)) := by rw [← hV7, g_set_ne (by decide)]; exact hv_3_0_0
  have hv_4_0_0 : V7 (4, 0, 0) = .inl (cy 1, 5, .inr (.inr (.inr (.inr (va_up (va_up (va_up (va_up (va_up (fun _ => none) 0 (some (L4 (10, 0, 0)))) 1 (some (L4 (10, 1, 0)))) 2 (some (L4 (10, 2, 0)))) 3 (some (L4 (10, 3, 0)))) 4 (some (L4 (10, 4, 0)))))))) := by rw [← hV7, g_set_ne (by decide)]; exact hv_4_0_0
  have hv_10_0_0 : V7 (10, 0, 0) = .inl (cy 0, 100, .inl (fun _ => 0)) := by rw [← hV7, g_set_ne (by decide)]; exact hv_10_0_0
  have hv_10_1_0 : V7 (10, 1, 0) = .inl (cy 0, 100, .inl (fun _ => 0)) := by rw [← hV7, g_set_ne (by decide)]; exact hv_10_1_0
  have hv_10_2_0 : V7 (10, 2, 0) = .inl (cy 0, 100, .inl (fun _ => 0)) := by rw [← hV7, g_set_ne (by decide)]; exact hv_10_2_0
  have hv_10_3_0 : V7 (10, 3, 0) = .inl (cy 0, 100, .inl (fun _ => 0)) := by rw [← hV7, g_set_ne (by decide)]; exact hv_10_3_0
  have hv_10_4_0 : V7 (10, 4, 0) = .inl (cy 0, 100, .inl (fun _ => 0)) := by rw [← hV7, g_set_ne (by decide)]; exact hv_10_4_0
  have hv_1_0_0 : V7 (1, 0, 0) = .inr (4, [.ref b1, .ref (L4 (4, 0, 0)), .int 0]) := by rw [← hV7, g_set_self]
  have hVo : ∀ y, y ≠ (1, 0, 0) ∧ y ≠ (3, 0, 0) ∧ y ≠ (4, 0, 0) ∧ y ≠ (10, 0, 0) ∧ y ≠ (10, 1, 0) ∧ y ≠ (10, 2, 0) ∧ y ≠ (10, 3, 0) ∧ y ≠ (10, 4, 0) → V7 y = V y := fun y hy => by rw [← hV7, g_set_ne (fun q => hy.1 q)]; first | done | exact hVo y hy
  have hnw : ∀ y, (dom y ∨ y = (3, 0, 0) ∨ y = (4, 0, 0) ∨ y = (10, 0, 0) ∨ y = (10, 1, 0) ∨ y = (10, 2, 0) ∨ y = (10, 3, 0) ∨ y = (10, 4, 0)) → dom y ∨ s.heap.size ≤ L4 y := by
    intro y h
    rcases h with h | rfl | rfl | rfl | rfl | rfl | rfl | rfl
    · exact Or.inl h
    · exact Or.inr hs_3_0_0
    · exact Or.inr hs_4_0_0
    · exact Or.inr hs_10_0_0
    · exact Or.inr hs_10_1_0
    · exact Or.inr hs_10_2_0
    · exact Or.inr hs_10_3_0
    · exact Or.inr hs_10_4_0
  refine h_vret hx hb hr hlk hLL hnw (hG.congr (fun x h => ?_) (fun x h => ?_)) hS dX2_init_28
  · rcases h with h | rfl | rfl | rfl | rfl | rfl | rfl | rfl
    · exact hdd x h
    · exact hd_3_0_0
    · exact hd_4_0_0
    · exact hd_10_0_0
    · exact hd_10_1_0
    · exact hd_10_2_0
    · exact hd_10_3_0
    · exact hd_10_4_0
  · by_cases q_1_0_0 : x = (1, 0, 0)
    · rw [if_pos q_1_0_0, q_1_0_0, hv_1_0_0, e_3_0_0, e_4_0_0]
    · rw [if_neg q_1_0_0]
      by_cases q_3_0_0 : x = (3, 0, 0)
      · rw [if_pos q_3_0_0, q_3_0_0, hv_3_0_0]
      · rw [if_neg q_3_0_0]
        by_cases q_4_0_0 : x = (4, 0, 0)
        · rw [if_pos q_4_0_0, q_4_0_0, hv_4_0_0, e_10_0_0, e_10_1_0, e_10_2_0, e_10_3_0, e_10_4_0]
        · rw [if_neg q_4_0_0]
          by_cases q_10_0_0 : x = (10, 0, 0)
          · rw [if_pos q_10_0_0, q_10_0_0, hv_10_0_0]
          · rw [if_neg q_10_0_0]
            by_cases q_10_1_0 : x = (10, 1, 0)
            · rw [if_pos q_10_1_0, q_10_1_0, hv_10_1_0]
            · rw [if_neg q_10_1_0]
              by_cases q_10_2_0 : x = (10, 2, 0)
              · rw [if_pos q_10_2_0, q_10_2_0, hv_10_2_0]
              · rw [if_neg q_10_2_0]
                by_cases q_10_3_0 : x = (10, 3, 0)
                · rw [if_pos q_10_3_0, q_10_3_0, hv_10_3_0]
                · rw [if_neg q_10_3_0]
                  by_cases q_10_4_0 : x = (10, 4, 0)
                  · rw [if_pos q_10_4_0, q_10_4_0, hv_10_4_0]
                  · rw [if_neg q_10_4_0]
                    exact (hVo x ⟨q_1_0_0, q_3_0_0, q_4_0_0, q_10_0_0, q_10_1_0, q_10_2_0, q_10_3_0, q_10_4_0⟩).symm
set_option maxHeartbeats 4000000 in
set_option maxRecDepth 100000 in
theorem k_X6_init (l : Launch) (D : va_G) (cy : Nat → ClassId) (dom : g_S → Prop) (L : g_S → Nat) (V : g_S → va_E) (sz : Nat)  (a0 : Nat) (e_0_0_0 : L (0, 0, 0) = a0) (hd_0_0_0 : dom (0, 0, 0)) (hv_0_0_0 : V (0, 0, 0) = .inr (8, [.null, .null, .null, .int 0])) (hf_1_0_0 : ¬ dom (1, 0, 0)) (hf_3_0_0 : ¬ dom (3, 0, 0)) (hf_4_0_0 : ¬ dom (4, 0, 0)) (hf_10_0_0 : ¬ dom (10, 0, 0)) (hf_10_1_0 : ¬ dom (10, 1, 0)) (hf_10_2_0 : ¬ dom (10, 2, 0)) (hf_10_3_0 : ¬ dom (10, 3, 0)) (hf_10_4_0 : ¬ dom (10, 4, 0)) (hf_2_0_0 : ¬ dom (2, 0, 0)) (hf_5_0_0 : ¬ dom (5, 0, 0)) (hf_6_0_0 : ¬ dom (6, 0, 0)) (hf_7_0_0 : ¬ dom (7, 0, 0)) (hf_8_0_0 : ¬ dom (8, 0, 0)) (hf_9_0_0 : ¬ dom (9, 0, 0)) : h_Met l yX6_init (.code yX6_init cX6_init 1 none) 2 14 781 D vwCl (x_tys cy) dom L V sz [.ref a0] (h_A a0 sz) none (fun x => dom x ∨ x = (1, 0, 0) ∨ x = (3, 0, 0) ∨ x = (4, 0, 0) ∨ x = (10, 0, 0) ∨ x = (10, 1, 0) ∨ x = (10, 2, 0) ∨ x = (10, 3, 0) ∨ x = (10, 4, 0) ∨ x = (2, 0, 0) ∨ x = (5, 0, 0) ∨ x = (6, 0, 0) ∨ x = (7, 0, 0) ∨ x = (8, 0, 0) ∨ x = (9, 0, 0)) (fun L' x => if x = (0, 0, 0) then .inr (8, [.ref (L' (1, 0, 0)), .ref (L' (2, 0, 0)), .ref (L' (9, 0, 0)), .int 0]) else if x = (1, 0, 0) then .inr (4, [.ref (L' (3, 0, 0)), .ref (L' (4, 0, 0)), .int 0]) else if x = (3, 0, 0) then .inl (cy 0, 100, .inl (fun _ => 0)) else if x = (4, 0, 0) then .inl (cy 1, 5, .inr (.inr (.inr (.inr (va_up (va_up (va_up (va_up (va_up (fun _ => none) 0 (some (L' (10, 0, 0)))) 1 (some (L' (10, 1, 0)))) 2 (some (L' (10, 2, 0)))) 3 (some (L' (10, 3, 0)))) 4 (some (L' (10, 4, 0)))))))) else if x = (10, 0, 0) then .inl (cy 0, 100, .inl (fun _ => 0)) else if x = (10, 1, 0) then .inl (cy 0, 100, .inl (fun _ => 0)) else if x = (10, 2, 0) then .inl (cy 0, 100, .inl (fun _ => 0)) else if x = (10, 3, 0) then .inl (cy 0, 100, .inl (fun _ => 0)) else if x = (10, 4, 0) then .inl (cy 0, 100, .inl (fun _ => 0)) else if x = (2, 0, 0) then .inr (3, [.ref (L' (5, 0, 0)), .ref (L' (6, 0, 0)), .ref (L' (7, 0, 0)), .ref (L' (8, 0, 0)), .int 0]) else if x = (5, 0, 0) then .inl (cy 0, 40, .inl (fun _ => 0)) else if x = (6, 0, 0) then .inl (cy 0, 40, .inl (fun _ => 0)) else if x = (7, 0, 0) then .inl (cy 0, 40, .inl (fun _ => 0)) else if x = (8, 0, 0) then .inl (cy 0, 40, .inl (fun _ => 0)) else if x = (9, 0, 0) then .inl (cy 2, 8, .inr (.inr (.inr (.inr (fun _ => none))))) else V x) := by
  refine h_Met.of (by decide) (Nat.le_of_ble_eq_true rfl) ?_
  intro pg e s m below meth c hx hb hr hlk hml hown hin2 hsz hts hK hN hG ls hl
  have hown : s.vm.findClass RX6 = some m.cls := hown
  have hl : lv_has ls 1 [(0, .ref a0)] := hl
  have hS : va_S (h_A a0 sz) s.heap s.heap [] := va_S.rf
  have hAa : h_A a0 sz a0 := Or.inl rfl
  have hAn : ∀ q, s.heap.size ≤ q → h_A a0 sz q := fun q h => Or.inr (by rw [← hsz]; exact h)
  have hLL := fun y (_ : dom y) => (rfl : L y = L y)
  have hdd := fun y (hy : dom y) => hy
  have hVo : ∀ y, y ≠ (0, 0, 0) ∧ y ≠ (1, 0, 0) ∧ y ≠ (3, 0, 0) ∧ y ≠ (4, 0, 0) ∧ y ≠ (10, 0, 0) ∧ y ≠ (10, 1, 0) ∧ y ≠ (10, 2, 0) ∧ y ≠ (10, 3, 0) ∧ y ≠ (10, 4, 0) ∧ y ≠ (2, 0, 0) ∧ y ≠ (5, 0, 0) ∧ y ≠ (6, 0, 0) ∧ y ≠ (7, 0, 0) ∧ y ≠ (8, 0, 0) ∧ y ≠ (9, 0, 0) → V y = V y := fun _ _ => rfl
  refine lv_aload_n hx hb dX6_init_0 rfl (lv_at hl 0 rfl) ?_
  refine W.objInit hx hb hown (hts _ ol_X6) (hts _ oi_ob) (hts _ oc_ob) rfl (by rw [hml]; exact hl.1) rfl dX6_init_1 (Nat.le_of_ble_eq_true rfl) (Nat.le_of_ble_eq_true rfl) ?_
  refine W.eq (g2 := F0 m 4 ls []) rfl ?_
  refine lv_aload_n hx hb dX6_init_4 rfl (lv_at hl 0 rfl) ?_
  refine h_newo (C := RX2) (T := TX2) (N := 3) (ci := 4) (fs := [.null, .null, .int 0]) hx hb hts inX2g tyX2_ok hown cl_X6_7 ins_X2 ini_X2 hK hG hS (1, 0, 0) hf_1_0_0 rfl (fun j hj => by rcases (show j = 0 ∨ j = 1 ∨ j = 2 by omega) with rfl | rfl | rfl <;> rfl) (Nat.le_of_ble_eq_true rfl) (Nat.le_of_ble_eq_true rfl) dX6_init_5 (fun L1 b1 H hL9 e_1_0_0 ha1 hG hS hz9 o9 => ?_)
  have hs_1_0_0 : s.heap.size ≤ L1 (1, 0, 0) := by rw [e_1_0_0]; exact ha1
  have e_0_0_0 := (hL9 _ hd_0_0_0).trans e_0_0_0
  have hLL := fun y (hy : dom y) => (hL9 y (hdd y hy)).trans (hLL y hy)
  have hdd := fun y (hy : dom y) => hG.inO (hdd y hy)
  have hd_0_0_0 := hG.inO hd_0_0_0
  have hd_1_0_0 := hG.inX
  have hf_3_0_0 := hG.notin hf_3_0_0 (by decide)
  have hf_4_0_0 := hG.notin hf_4_0_0 (by decide)
  have hf_10_0_0 := hG.notin hf_10_0_0 (by decide)
  have hf_10_1_0 := hG.notin hf_10_1_0 (by decide)
  have hf_10_2_0 := hG.notin hf_10_2_0 (by decide)
  have hf_10_3_0 := hG.notin hf_10_3_0 (by decide)
  have hf_10_4_0 := hG.notin hf_10_4_0 (by decide)
  have hf_2_0_0 := hG.notin hf_2_0_0 (by decide)
  have hf_5_0_0 := hG.notin hf_5_0_0 (by decide)
  have hf_6_0_0 := hG.notin hf_6_0_0 (by decide)
  have hf_7_0_0 := hG.notin hf_7_0_0 (by decide)
  have hf_8_0_0 := hG.notin hf_8_0_0 (by decide)
  have hf_9_0_0 := hG.notin hf_9_0_0 (by decide)
  generalize hV2 : g_set V (1, 0, 0) (.inr (4, [.null, .null, .int 0])) = V2 at hG
  have hv_0_0_0 : V2 (0, 0, 0) = .inr (8, [.null, .null, .null, .int 0]) := by rw [← hV2, g_set_ne (by decide)]; exact hv_0_0_0
  have hv_1_0_0 : V2 (1, 0, 0) = .inr (4, [.null, .null, .int 0]) := by rw [← hV2, g_set_self]
  have hVo : ∀ y, y ≠ (0, 0, 0) ∧ y ≠ (1, 0, 0) ∧ y ≠ (3, 0, 0) ∧ y ≠ (4, 0, 0) ∧ y ≠ (10, 0, 0) ∧ y ≠ (10, 1, 0) ∧ y ≠ (10, 2, 0) ∧ y ≠ (10, 3, 0) ∧ y ≠ (10, 4, 0) ∧ y ≠ (2, 0, 0) ∧ y ≠ (5, 0, 0) ∧ y ≠ (6, 0, 0) ∧ y ≠ (7, 0, 0) ∧ y ≠ (8, 0, 0) ∧ y ≠ (9, 0, 0) → V2 y = V y := fun y hy => by rw [← hV2, g_set_ne (fun q => hy.2.1 q)]; first | done | exact hVo y hy
  refine lv_dup hx hb dX6_init_8 rfl ?_
  have hz0 := hS.1
  refine h_cont (va_runIN (As := []) (rest := [.ref b1, .ref a0]) ⟨hx, hb, hml, hown, hts⟩ (k_X2_init l D cy _ L1 V2 H.size  b1 e_1_0_0 hd_1_0_0 hv_1_0_0 hf_3_0_0 hf_4_0_0 hf_10_0_0 hf_10_1_0 hf_10_2_0 hf_10_3_0 hf_10_4_0) ⟨va_cnB 0 hts (g_good cwd_X2_init) rfl rfl rfl hN.2.1.1.1 (hts _ ini_X2) (by decide +kernel) ⟨Nat.le_of_ble_eq_true rfl, Nat.le_of_ble_eq_true rfl⟩, rfl, hts _ im_X2_init⟩ (h_pre hK hN hG) rfl rfl hl.1 rfl (lv_room (Nat.le_of_ble_eq_true rfl)) dX6_init_9 ⟨Nat.le_of_ble_eq_true rfl, Nat.le_of_ble_eq_true rfl⟩) hS (fun q hq => hq.elim (fun e9 => by rw [e9]; exact (hAn _ ha1)) (fun h9 => hAn q (Nat.le_trans hS.1 h9))) (fun L3 H locs hL9 hn9 hG hS hz9 o9 => ?_)
  refine W.eq (g2 := F0 m 12 ls [.ref b1, .ref a0]) rfl ?_
  have hs_1_0_0 : s.heap.size ≤ L3 (1, 0, 0) := by rw [hL9 _ hd_1_0_0]; exact hs_1_0_0
  have hs_3_0_0 : s.heap.size ≤ L3 (3, 0, 0) := Nat.le_trans hz0 ((hn9 (3, 0, 0) (Or.inr (by simp))).resolve_left hf_3_0_0)
  have hs_4_0_0 : s.heap.size ≤ L3 (4, 0, 0) := Nat.le_trans hz0 ((hn9 (4, 0, 0) (Or.inr (by simp))).resolve_left hf_4_0_0)
  have hs_10_0_0 : s.heap.size ≤ L3 (10, 0, 0) := Nat.le_trans hz0 ((hn9 (10, 0, 0) (Or.inr (by simp))).resolve_left hf_10_0_0)
  have hs_10_1_0 : s.heap.size ≤ L3 (10, 1, 0) := Nat.le_trans hz0 ((hn9 (10, 1, 0) (Or.inr (by simp))).resolve_left hf_10_1_0)
  have hs_10_2_0 : s.heap.size ≤ L3 (10, 2, 0) := Nat.le_trans hz0 ((hn9 (10, 2, 0) (Or.inr (by simp))).resolve_left hf_10_2_0)
  have hs_10_3_0 : s.heap.size ≤ L3 (10, 3, 0) := Nat.le_trans hz0 ((hn9 (10, 3, 0) (Or.inr (by simp))).resolve_left hf_10_3_0)
  have hs_10_4_0 : s.heap.size ≤ L3 (10, 4, 0) := Nat.le_trans hz0 ((hn9 (10, 4, 0) (Or.inr (by simp))).resolve_left hf_10_4_0)
  have e_0_0_0 := (hL9 _ hd_0_0_0).trans e_0_0_0
  have e_1_0_0 := (hL9 _ hd_1_0_0).trans e_1_0_0
  have hLL := fun y (hy : dom y) => (hL9 y (hdd y hy)).trans (hLL y hy)
  have hdd := fun y (hy : dom y) => hG.uL (hdd y hy)
  have hd_0_0_0 := hG.uL hd_0_0_0
  have hd_1_0_0 := hG.uL hd_1_0_0
  have hd_3_0_0 := hG.uR (y := (3, 0, 0)) (by simp)
  have e_3_0_0 : L3 (3, 0, 0) = L3 (3, 0, 0) := rfl
  have hd_4_0_0 := hG.uR (y := (4, 0, 0)) (by simp)
  have e_4_0_0 : L3 (4, 0, 0) = L3 (4, 0, 0) := rfl
  have hd_10_0_0 := hG.uR (y := (10, 0, 0)) (by simp)
  have e_10_0_0 : L3 (10, 0, 0) = L3 (10, 0, 0) := rfl
  have hd_10_1_0 := hG.uR (y := (10, 1, 0)) (by simp)
  have e_10_1_0 : L3 (10, 1, 0) = L3 (10, 1, 0) := rfl
  have hd_10_2_0 := hG.uR (y := (10, 2, 0)) (by simp)
  have e_10_2_0 : L3 (10, 2, 0) = L3 (10, 2, 0) := rfl
  have hd_10_3_0 := hG.uR (y := (10, 3, 0)) (by simp)
  have e_10_3_0 : L3 (10, 3, 0) = L3 (10, 3, 0) := rfl
  have hd_10_4_0 := hG.uR (y := (10, 4, 0)) (by simp)
  have e_10_4_0 : L3 (10, 4, 0) = L3 (10, 4, 0) := rfl
  have hf_2_0_0 := hG.uN hf_2_0_0 (by simp)
  have hf_5_0_0 := hG.uN hf_5_0_0 (by simp)
  have hf_6_0_0 := hG.uN hf_6_0_0 (by simp)
  have hf_7_0_0 := hG.uN hf_7_0_0 (by simp)
  have hf_8_0_0 := hG.uN hf_8_0_0 (by simp)
  have hf_9_0_0 := hG.uN hf_9_0_0 (by simp)
  have hG : g_H D vwCl _ L3 (fun x => if x = (1, 0, 0) then .inr (4, [.ref (L3 (3, 0, 0)), .ref (L3 (4, 0, 0)), .int 0]) else if x = (3, 0, 0) then .inl (cy 0, 100, .inl (fun _ => 0)) else if x = (4, 0, 0) then .inl (cy 1, 5, .inr (.inr (.inr (.inr (va_up (va_up (va_up (va_up (va_up (fun _ => none) 0 (some (L3 (10, 0, 0)))) 1 (some (L3 (10, 1, 0)))) 2 (some (L3 (10, 2, 0)))) 3 (some (L3 (10, 3, 0)))) 4 (some (L3 (10, 4, 0)))))))) else if x = (10, 0, 0) then .inl (cy 0, 100, .inl (fun _ => 0)) else if x = (10, 1, 0) then .inl (cy 0, 100, .inl (fun _ => 0)) else if x = (10, 2, 0) then .inl (cy 0, 100, .inl (fun _ => 0)) else if x = (10, 3, 0) then .inl (cy 0, 100, .inl (fun _ => 0)) else if x = (10, 4, 0) then .inl (cy 0, 100, .inl (fun _ => 0)) else V2 x) H := hG
  generalize hV4 : (fun x => if x = (1, 0, 0) then .inr (4, [.ref (L3 (3, 0, 0)), .ref (L3 (4, 0, 0)), .int 0]) else if x = (3, 0, 0) then .inl (cy 0, 100, .inl (fun _ => 0)) else if x = (4, 0, 0) then .inl (cy 1, 5, .inr (.inr (.inr (.inr (va_up (va_up (va_up (va_up (va_up (fun _ => none) 0 (some (L3 (10, 0, 0)))) 1 (some (L3 (10, 1, 0)))) 2 (some (L3 (10, 2, 0)))) 3 (some (L3 (10, 3, 0)))) 4 (some (L3 (10, 4, 0)))))))) else if x = (10, 0, 0) then .inl (cy 0, 100, .inl (fun _ => 0)) else if x = (10, 1, 0) then .inl (cy 0, 100, .inl (fun _ => 0)) else if x = (10, 2, 0) then .inl (cy 0, 100, .inl (fun _ => 0)) else if x = (10, 3, 0) then .inl (cy 0, 100, .inl (fun _ => 0)) else if x = (10, 4, 0) then .inl (cy 0, 100, .inl (fun _ => 0)) else V2 x) = V4 at hG
  have hv_0_0_0 : V4 (0, 0, 0) = .inr (8, [.null, .null, .null, .int 0]) := by rw [← hV4]; exact (if_neg (by simp)).trans ((if_neg (by simp)).trans ((if_neg (by simp)).trans ((if_neg (by simp)).trans ((if_neg (by simp)).trans ((if_neg (by simp)).trans ((if_neg (by simp)).trans ((if_neg (by simp)).trans (hv_0_0_0))))))))
  have hv_1_0_0 : V4 (1, 0, 0) = .inr (4, [.ref (L3 (3, 0, 0)), .ref (L3 (4, 0, 0)), .int 0]) := by rw [← hV4]; exact if_pos rfl
  have hv_3_0_0 : V4 (3, 0, 0) = .inl (cy 0, 100, .inl (fun _ => 0)) := by rw [← hV4]; exact (if_neg (by simp)).trans (if_pos rfl)
  have hv_4_0_0 : V4 (4, 0, 0) = .inl (cy 1, 5, .inr (.inr (.inr (.inr (va_up (va_up (va_up (va_up (va_up (fun _ => none) 0 (some (L3 (10, 0, 0)))) 1 (some (L3 (10, 1, 0)))) 2 (some (L3 (10, 2, 0)))) 3 (some (L3 (10, 3, 0)))) 4 (some (L3 (10, 4, 0)))))))) := by rw [← hV4]; exact (if_neg (by simp)).trans ((if_neg (by simp)).trans (if_pos rfl))
  have hv_10_0_0 : V4 (10, 0, 0) = .inl (cy 0, 100, .inl (fun _ => 0)) := by rw [← hV4]; exact (if_neg (by simp)).trans ((if_neg (by simp)).trans ((if_neg (by simp)).trans (if_pos rfl)))
  have hv_10_1_0 : V4 (10, 1, 0) = .inl (cy 0, 100, .inl (fun _ => 0)) := by rw [← hV4]; exact (if_neg (by simp)).trans ((if_neg (by simp)).trans ((if_neg (by simp)).trans ((if_neg (by simp)).trans (if_pos rfl))))
  have hv_10_2_0 : V4 (10, 2, 0) = .inl (cy 0, 100, .inl (fun _ => 0)) := by rw [← hV4]; exact (if_neg (by simp)).trans ((if_neg (by simp)).trans ((if_neg (by simp)).trans ((if_neg (by simp)).trans ((if_neg (by simp)).trans (if_pos rfl)))))
  have hv_10_3_0 : V4 (10, 3, 0) = .inl (cy 0, 100, .inl (fun _ => 0)) := by rw [← hV4]; exact (if_neg (by simp)).trans ((if_neg (by simp)).trans ((if_neg (by simp)).trans ((if_neg (by simp)).trans ((if_neg (by simp)).trans ((if_neg (by simp)).trans (if_pos rfl))))))
  have hv_10_4_0 : V4 (10, 4, 0) = .inl (cy 0, 100, .inl (fun _ => 0)) := by rw [← hV4]; exact (if_neg (by simp)).trans ((if_neg (by simp)).trans ((if_neg (by simp)).trans ((if_neg (by simp)).trans ((if_neg (by simp)).trans ((if_neg (by simp)).trans ((if_neg (by simp)).trans (if_pos rfl)))))))
  have hVo : ∀ y, y ≠ (0, 0, 0) ∧ y ≠ (1, 0, 0) ∧ y ≠ (3, 0, 0) ∧ y ≠ (4, 0, 0) ∧ y ≠ (10, 0, 0) ∧ y ≠ (10, 1, 0) ∧ y ≠ (10, 2, 0) ∧ y ≠ (10, 3, 0) ∧ y ≠ (10, 4, 0) ∧ y ≠ (2, 0, 0) ∧ y ≠ (5, 0, 0) ∧ y ≠ (6, 0, 0) ∧ y ≠ (7, 0, 0) ∧ y ≠ (8, 0, 0) ∧ y ≠ (9, 0, 0) → V4 y = V y := fun y hy => by rw [← hV4]; exact (if_neg (fun q => by subst q; simp at hy)).trans ((if_neg (fun q => by subst q; simp at hy)).trans ((if_neg (fun q => by subst q; simp at hy)).trans ((if_neg (fun q => by subst q; simp at hy)).trans ((if_neg (fun q => by subst q; simp at hy)).trans ((if_neg (fun q => by subst q; simp at hy)).trans ((if_neg (fun q => by subst q; simp at hy)).trans ((if_neg (fun q => by subst q; simp at hy)).trans (hVo y hy))))))))
  refine h_putF (C := RX6) (T := TX6) (N := 4) (ci := 8) (ty := (tyX6 0)) hx hb hts inX6g tyX6_ok nmX6 hown hK hG hS (0, 0, 0) hd_0_0_0 e_0_0_0 hAa hv_0_0_0 rfl 0 (by decide) fl_X6_10 rfl hin2 rfl (by decide +kernel) rfl rfl (Nat.le_of_ble_eq_true rfl) dX6_init_12 (fun H locs hG hS => ?_)
  have hG : g_H D vwCl _ L3 (g_set V4 (0, 0, 0) (.inr (8, [.ref b1, .null, .null, .int 0]))) H := hG
  generalize hV5 : g_set V4 (0, 0, 0) (.inr (8, [.ref b1, .null, .null, .int 0])) = V5 at hG
  have hv_1_0_0 : V5 (1, 0, 0) = .inr (4, [.ref (L3 (3, 0, 0)), .ref (L3 (4, 0, 0)), .int 0]) := by rw [← hV5, g_set_ne (by decide)]; exact hv_1_0_0
  have hv_3_0_0 : V5 (3, 0, 0) = .inl (cy 0, 100, .inl (fun _ => 0)) := by rw [← hV5, g_set_ne (by decide)]; exact hv_3_0_0
  have hv_4_0_0 : V5 (4, 0, 0) = .inl (cy 1, 5, .inr (.inr (.inr (.inr (va_up (va_up (va_up (va_up (va_up (fun _ => none) 0 (some (L3 (10, 0, 0)))) 1 (some (L3 (10, 1, 0)))) 2 (some (L3 (10, 2, 0)))) 3 (some (L3 (10, 3, 0)))) 4 (some (L3 (10, 4, 0)))))))) := by rw [← hV5, g_set_ne (by decide)]; exact hv_4_0_0
  have hv_10_0_0 : V5 (10, 0, 0) = .inl (cy 0, 100, .inl (fun _ => 0)) := by rw [← hV5, g_set_ne (by decide)]; exact hv_10_0_0
  have hv_10_1_0 : V5 (10, 1, 0) = .inl (cy 0, 100, .inl (fun _ => 0)) := by rw [← hV5, g_set_ne (by decide)]; exact hv_10_1_0
  have hv_10_2_0 : V5 (10, 2, 0) = .inl (cy 0, 100, .inl (fun _ => 0)) := by rw [← hV5, g_set_ne (by decide)]; exact hv_10_2_0
  have hv_10_3_0 : V5 (10, 3, 0) = .inl (cy 0, 100, .inl (fun _ => 0)) := by rw [← hV5, g_set_ne (by decide)]; exact hv_10_3_0
  have hv_10_4_0 : V5 (10, 4, 0) = .inl (cy 0, 100, .inl (fun _ => 0)) := by rw [← hV5, g_set_ne (by decide)]; exact hv_10_4_0
  have hv_0_0_0 : V5 (0, 0, 0) = .inr (8, [.ref b1, .null, .null, .int 0]) := by rw [← hV5, g_set_self]
  have hVo : ∀ y, y ≠ (0, 0, 0) ∧ y ≠ (1, 0, 0) ∧ y ≠ (3, 0, 0) ∧ y ≠ (4, 0, 0) ∧ y ≠ (10, 0, 0) ∧ y ≠ (10, 1, 0) ∧ y ≠ (10, 2, 0) ∧ y ≠ (10, 3, 0) ∧ y ≠ (10, 4, 0) ∧ y ≠ (2, 0, 0) ∧ y ≠ (5, 0, 0) ∧ y ≠ (6, 0, 0) ∧ y ≠ (7, 0, 0) ∧ y ≠ (8, 0, 0) ∧ y ≠ (9, 0, 0) → V5 y = V y := fun y hy => by rw [← hV5, g_set_ne (fun q => hy.1 q)]; first | done | exact hVo y hy
  refine lv_aload_n hx hb dX6_init_15 rfl (lv_at hl 0 rfl) ?_
  refine h_newo (C := RX1) (T := TX1) (N := 5) (ci := 3) (fs := [.null, .null, .null, .null, .int 0]) hx hb hts inX1g tyX1_ok hown cl_X6_16 ins_X1 ini_X1 hK hG hS (2, 0, 0) hf_2_0_0 rfl (fun j hj => by rcases (show j = 0 ∨ j = 1 ∨ j = 2 ∨ j = 3 ∨ j = 4 by omega) with rfl | rfl | rfl | rfl | rfl <;> rfl) (Nat.le_of_ble_eq_true rfl) (Nat.le_of_ble_eq_true rfl) dX6_init_16 (fun L6 b6 H hL9 e_2_0_0 ha6 hG hS hz9 o9 => ?_)
  have hs_1_0_0 : s.heap.size ≤ L6 (1, 0, 0) := by rw [hL9 _ hd_1_0_0]; exact hs_1_0_0
  have hs_3_0_0 : s.heap.size ≤ L6 (3, 0, 0) := by rw [hL9 _ hd_3_0_0]; exact hs_3_0_0
  have hs_4_0_0 : s.heap.size ≤ L6 (4, 0, 0) := by rw [hL9 _ hd_4_0_0]; exact hs_4_0_0
  have hs_10_0_0 : s.heap.size ≤ L6 (10, 0, 0) := by rw [hL9 _ hd_10_0_0]; exact hs_10_0_0
  have hs_10_1_0 : s.heap.size ≤ L6 (10, 1, 0) := by rw [hL9 _ hd_10_1_0]; exact hs_10_1_0
  have hs_10_2_0 : s.heap.size ≤ L6 (10, 2, 0) := by rw [hL9 _ hd_10_2_0]; exact hs_10_2_0
  have hs_10_3_0 : s.heap.size ≤ L6 (10, 3, 0) := by rw [hL9 _ hd_10_3_0]; exact hs_10_3_0
  have hs_10_4_0 : s.heap.size ≤ L6 (10, 4, 0) := by rw [hL9 _ hd_10_4_0]; exact hs_10_4_0
  have hs_2_0_0 : s.heap.size ≤ L6 (2, 0, 0) := by rw [e_2_0_0]; exact ha6
  have e_0_0_0 := (hL9 _ hd_0_0_0).trans e_0_0_0
  have e_1_0_0 := (hL9 _ hd_1_0_0).trans e_1_0_0
  have e_3_0_0 := (hL9 _ hd_3_0_0).trans e_3_0_0
  have e_4_0_0 := (hL9 _ hd_4_0_0).trans e_4_0_0
  have e_10_0_0 := (hL9 _ hd_10_0_0).trans e_10_0_0
  have e_10_1_0 := (hL9 _ hd_10_1_0).trans e_10_1_0
  have e_10_2_0 := (hL9 _ hd_10_2_0).trans e_10_2_0
  have e_10_3_0 := (hL9 _ hd_10_3_0).trans e_10_3_0
  have e_10_4_0 := (hL9 _ hd_10_4_0).trans e_10_4_0
  have hLL := fun y (hy : dom y) => (hL9 y (hdd y hy)).trans (hLL y hy)
  have hdd := fun y (hy : dom y) => hG.inO (hdd y hy)
  have hd_0_0_0 := hG.inO hd_0_0_0
  have hd_1_0_0 := hG.inO hd_1_0_0
  have hd_3_0_0 := hG.inO hd_3_0_0
  have hd_4_0_0 := hG.inO hd_4_0_0
  have hd_10_0_0 := hG.inO hd_10_0_0
  have hd_10_1_0 := hG.inO hd_10_1_0
  have hd_10_2_0 := hG.inO hd_10_2_0
  have hd_10_3_0 := hG.inO hd_10_3_0
  have hd_10_4_0 := hG.inO hd_10_4_0
  have hd_2_0_0 := hG.inX
  have hf_5_0_0 := hG.notin hf_5_0_0 (by decide)
  have hf_6_0_0 := hG.notin hf_6_0_0 (by decide)
  have hf_7_0_0 := hG.notin hf_7_0_0 (by decide)
  have hf_8_0_0 := hG.notin hf_8_0_0 (by decide)
  have hf_9_0_0 := hG.notin hf_9_0_0 (by decide)
  generalize hV7 : g_set V5 (2, 0, 0) (.inr (3, [.null, .null, .null, .null, .int 0])) = V7 at hG
  have hv_0_0_0 : V7 (0, 0, 0) = .inr (8, [.ref b1, .null, .null, .int 0]) := by rw [← hV7, g_set_ne (by decide)]; exact hv_0_0_0
  have hv_1_0_0 : V7 (1, 0, 0) = .inr (4, [.ref (L3 (3, 0, 0)), .ref (L3 (4, 0, 0)), .int 0]) := by rw [← hV7, g_set_ne (by decide)]; exact hv_1_0_0
  have hv_3_0_0 : V7 (3, 0, 0) = .inl (cy 0, 100, .inl (fun _ => 0)) := by rw [← hV7, g_set_ne (by decide)]; exact hv_3_0_0
  have hv_4_0_0 : V7 (4, 0, 0) = .inl (cy 1, 5, .inr (.inr (.inr (.inr (va_up (va_up (va_up (va_up (va_up (fun _ => none) 0 (some (L3 (10, 0, 0)))) 1 (some (L3 (10, 1, 0)))) 2 (some (L3 (10, 2, 0)))) 3 (some (L3 (10, 3, 0)))) 4 (some (L3 (10, 4, 0)))))))) := by rw [← hV7, g_set_ne (by decide)]; exact hv_4_0_0
  have hv_10_0_0 : V7 (10, 0, 0) = .inl (cy 0, 100, .inl (fun _ => 0)) := by rw [← hV7, g_set_ne (by decide)]; exact hv_10_0_0
  have hv_10_1_0 : V7 (10, 1, 0) = .inl (cy 0, 100, .inl (fun _ => 0)) := by rw [← hV7, g_set_ne (by decide)]; exact hv_10_1_0
  have hv_10_2_0 : V7 (10, 2, 0) = .inl (cy 0, 100, .inl (fun _ => 0)) := by rw [← hV7, g_set_ne (by decide)]; exact hv_10_2_0
  have hv_10_3_0 : V7 (10, 3, 0) = .inl (cy 0, 100, .inl (fun _ => 0)) := by rw [← hV7, g_set_ne (by decide)]; exact hv_10_3_0
  have hv_10_4_0 : V7 (10, 4, 0) = .inl (cy 0, 100, .inl (fun _ => 0)) := by rw [← hV7, g_set_ne (by decide)]; exact hv_10_4_0
  have hv_2_0_0 : V7 (2, 0, 0) = .inr (3, [.null, .null, .null, .null, .int 0]) := by rw [← hV7, g_set_self]
  have hVo : ∀ y, y ≠ (0, 0, 0) ∧ y ≠ (1, 0, 0) ∧ y ≠ (3, 0, 0) ∧ y ≠ (4, 0, 0) ∧ y ≠ (10, 0, 0) ∧ y ≠ (10, 1, 0) ∧ y ≠ (10, 2, 0) ∧ y ≠ (10, 3, 0) ∧ y ≠ (10, 4, 0) ∧ y ≠ (2, 0, 0) ∧ y ≠ (5, 0, 0) ∧ y ≠ (6, 0, 0) ∧ y ≠ (7, 0, 0) ∧ y ≠ (8, 0, 0) ∧ y ≠ (9, 0, 0) → V7 y = V y := fun y hy => by rw [← hV7, g_set_ne (fun q => hy.2.2.2.2.2.2.2.2.2.1 q)]; first | done | exact hVo y hy
  refine lv_dup hx hb dX6_init_19 rfl ?_
  have hz0 := hS.1
  refine h_cont (va_runIN (As := []) (rest := [.ref b6, .ref a0]) ⟨hx, hb, hml, hown, hts⟩ (k_X1_init l D cy _ L6 V7 H.size  b6 e_2_0_0 hd_2_0_0 hv_2_0_0 hf_5_0_0 hf_6_0_0 hf_7_0_0 hf_8_0_0) ⟨va_cnB 0 hts (g_good cwd_X1_init) rfl rfl rfl hN.2.1.1.2 (hts _ ini_X1) (by decide +kernel) ⟨Nat.le_of_ble_eq_true rfl, Nat.le_of_ble_eq_true rfl⟩, rfl, hts _ im_X1_init⟩ (h_pre hK hN hG) rfl rfl hl.1 rfl (lv_room (Nat.le_of_ble_eq_true rfl)) dX6_init_20 ⟨Nat.le_of_ble_eq_true rfl, Nat.le_of_ble_eq_true rfl⟩) hS (fun q hq => hq.elim (fun e9 => by rw [e9]; exact (hAn _ ha6)) (fun h9 => hAn q (Nat.le_trans hS.1 h9))) (fun L8 H locs hL9 hn9 hG hS hz9 o9 => ?_)
  refine W.eq (g2 := F0 m 23 ls [.ref b6, .ref a0]) rfl ?_
  have hs_1_0_0 : s.heap.size ≤ L8 (1, 0, 0) := by rw [hL9 _ hd_1_0_0]; exact hs_1_0_0
  have hs_3_0_0 : s.heap.size ≤ L8 (3, 0, 0) := by rw [hL9 _ hd_3_0_0]; exact hs_3_0_0
  have hs_4_0_0 : s.heap.size ≤ L8 (4, 0, 0) := by rw [hL9 _ hd_4_0_0]; exact hs_4_0_0
  have hs_10_0_0 : s.heap.size ≤ L8 (10, 0, 0) := by rw [hL9 _ hd_10_0_0]; exact hs_10_0_0
  have hs_10_1_0 : s.heap.size ≤ L8 (10, 1, 0) := by rw [hL9 _ hd_10_1_0]; exact hs_10_1_0
  have hs_10_2_0 : s.heap.size ≤ L8 (10, 2, 0) := by rw [hL9 _ hd_10_2_0]; exact hs_10_2_0
  have hs_10_3_0 : s.heap.size ≤ L8 (10, 3, 0) := by rw [hL9 _ hd_10_3_0]; exact hs_10_3_0
  have hs_10_4_0 : s.heap.size ≤ L8 (10, 4, 0) := by rw [hL9 _ hd_10_4_0]; exact hs_10_4_0
  have hs_2_0_0 : s.heap.size ≤ L8 (2, 0, 0) := by rw [hL9 _ hd_2_0_0]; exact hs_2_0_0
  have hs_5_0_0 : s.heap.size ≤ L8 (5, 0, 0) := Nat.le_trans hz0 ((hn9 (5, 0, 0) (Or.inr (by simp))).resolve_left hf_5_0_0)
  have hs_6_0_0 : s.heap.size ≤ L8 (6, 0, 0) := Nat.le_trans hz0 ((hn9 (6, 0, 0) (Or.inr (by simp))).resolve_left hf_6_0_0)
  have hs_7_0_0 : s.heap.size ≤ L8 (7, 0, 0) := Nat.le_trans hz0 ((hn9 (7, 0, 0) (Or.inr (by simp))).resolve_left hf_7_0_0)
  have hs_8_0_0 : s.heap.size ≤ L8 (8, 0, 0) := Nat.le_trans hz0 ((hn9 (8, 0, 0) (Or.inr (by simp))).resolve_left hf_8_0_0)
  have e_0_0_0 := (hL9 _ hd_0_0_0).trans e_0_0_0
  have e_1_0_0 := (hL9 _ hd_1_0_0).trans e_1_0_0
  have e_3_0_0 := (hL9 _ hd_3_0_0).trans e_3_0_0
  have e_4_0_0 := (hL9 _ hd_4_0_0).trans e_4_0_0
  have e_10_0_0 := (hL9 _ hd_10_0_0).trans e_10_0_0
  have e_10_1_0 := (hL9 _ hd_10_1_0).trans e_10_1_0
  have e_10_2_0 := (hL9 _ hd_10_2_0).trans e_10_2_0
  have e_10_3_0 := (hL9 _ hd_10_3_0).trans e_10_3_0
  have e_10_4_0 := (hL9 _ hd_10_4_0).trans e_10_4_0
  have e_2_0_0 := (hL9 _ hd_2_0_0).trans e_2_0_0
  have hLL := fun y (hy : dom y) => (hL9 y (hdd y hy)).trans (hLL y hy)
  have hdd := fun y (hy : dom y) => hG.uL (hdd y hy)
  have hd_0_0_0 := hG.uL hd_0_0_0
  have hd_1_0_0 := hG.uL hd_1_0_0
  have hd_3_0_0 := hG.uL hd_3_0_0
  have hd_4_0_0 := hG.uL hd_4_0_0
  have hd_10_0_0 := hG.uL hd_10_0_0
  have hd_10_1_0 := hG.uL hd_10_1_0
  have hd_10_2_0 := hG.uL hd_10_2_0
  have hd_10_3_0 := hG.uL hd_10_3_0
  have hd_10_4_0 := hG.uL hd_10_4_0
  have hd_2_0_0 := hG.uL hd_2_0_0
  have hd_5_0_0 := hG.uR (y := (5, 0, 0)) (by simp)
  have e_5_0_0 : L8 (5, 0, 0) = L8 (5, 0, 0) := rfl
  have hd_6_0_0 := hG.uR (y := (6, 0, 0)) (by simp)
  have e_6_0_0 : L8 (6, 0, 0) = L8 (6, 0, 0) := rfl
  have hd_7_0_0 := hG.uR (y := (7, 0, 0)) (by simp)
  have e_7_0_0 : L8 (7, 0, 0) = L8 (7, 0, 0) := rfl
  have hd_8_0_0 := hG.uR (y := (8, 0, 0)) (by simp)
  have e_8_0_0 : L8 (8, 0, 0) = L8 (8, 0, 0) := rfl
  have hf_9_0_0 := hG.uN hf_9_0_0 (by simp)
  have hG : g_H D vwCl _ L8 (fun x => if x = (2, 0, 0) then .inr (3, [.ref (L8 (5, 0, 0)), .ref (L8 (6, 0, 0)), .ref (L8 (7, 0, 0)), .ref (L8 (8, 0, 0)), .int 0]) else if x = (5, 0, 0) then .inl (cy 0, 40, .inl (fun _ => 0)) else if x = (6, 0, 0) then .inl (cy 0, 40, .inl (fun _ => 0)) else if x = (7, 0, 0) then .inl (cy 0, 40, .inl (fun _ => 0)) else if x = (8, 0, 0) then .inl (cy 0, 40, .inl (fun _ => 0)) else V7 x) H := hG
  generalize hV9 : (fun x => if x = (2, 0, 0) then .inr (3, [.ref (L8 (5, 0, 0)), .ref (L8 (6, 0, 0)), .ref (L8 (7, 0, 0)), .ref (L8 (8, 0, 0)), .int 0]) else if x = (5, 0, 0) then .inl (cy 0, 40, .inl (fun _ => 0)) else if x = (6, 0, 0) then .inl (cy 0, 40, .inl (fun _ => 0)) else if x = (7, 0, 0) then .inl (cy 0, 40, .inl (fun _ => 0)) else if x = (8, 0, 0) then .inl (cy 0, 40, .inl (fun _ => 0)) else V7 x) = V9 at hG
  have hv_0_0_0 : V9 (0, 0, 0) = .inr (8, [.ref b1, .null, .null, .int 0]) := by rw [← hV9]; exact (if_neg (by simp)).trans ((if_neg (by simp)).trans ((if_neg (by simp)).trans ((if_neg (by simp)).trans ((if_neg (by simp)).trans (hv_0_0_0)))))
  have hv_1_0_0 : V9 (1, 0, 0) = .inr (4, [.ref (L3 (3, 0, 0)), .ref (L3 (4, 0, 0)), .int 0]) := by rw [← hV9]; exact (if_neg (by simp)).trans ((if_neg (by simp)).trans ((if_neg (by simp)).trans ((if_neg (by simp)).trans ((if_neg (by simp)).trans (hv_1_0_0)))))
  have hv_3_0_0 : V9 (3, 0, 0) = .inl (cy 0, 100, .inl (fun _ => 0)) := by rw [← hV9]; exact (if_neg (by simp)).trans ((if_neg (by simp)).trans ((if_neg (by simp)).trans ((if_neg (by simp)).trans ((if_neg (by simp)).trans (hv_3_0_0)))))
  have hv_4_0_0 : V9 (4, 0, 0) = .inl (cy 1, 5, .inr (.inr (.inr (.inr (va_up (va_up (va_up (va_up (va_up (fun _ => none) 0 (some (L3 (10, 0, 0)))) 1 (some (L3 (10, 1, 0)))) 2 (some (L3 (10, 2, 0)))) 3 (some (L3 (10, 3, 0)))) 4 (some (L3 (10, 4, 0)))))))) := by rw [← hV9]; exact (if_neg (by simp)).trans ((if_neg (by simp)).trans ((if_neg (by simp)).trans ((if_neg (by simp)).trans ((if_neg (by simp)).trans (hv_4_0_0)))))
  have hv_10_0_0 : V9 (10, 0, 0) = .inl (cy 0, 100, .inl (fun _ => 0)) := by rw [← hV9]; exact (if_neg (by simp)).trans ((if_neg (by simp)).trans ((if_neg (by simp)).trans ((if_neg (by simp)).trans ((if_neg (by simp)).trans (hv_10_0_0)))))
  have hv_10_1_0 : V9 (10, 1, 0) = .inl (cy 0, 100, .inl (fun _ => 0)) := by rw [← hV9]; exact (if_neg (by simp)).trans ((if_neg (by simp)).trans ((if_neg (by simp)).trans ((if_neg (by simp)).trans ((if_neg (by simp)).trans (hv_10_1_0)))))
  have hv_10_2_0 : V9 (10, 2, 0) = .inl (cy 0, 100, .inl (fun _ => 0)) := by rw [← hV9]; exact (if_neg (by simp)).trans ((if_neg (by simp)).trans ((if_neg (by simp)).trans ((if_neg (by simp)).trans ((if_neg (by simp)).trans (hv_10_2_0)))))
  have hv_10_3_0 : V9 (10, 3, 0) = .inl (cy 0, 100, .inl (fun _ => 0)) := by rw [← hV9]; exact (if_neg (by simp)).trans ((if_neg (by simp)).trans ((if_neg (by simp)).trans ((if_neg (by simp)).trans ((if_neg (by simp)).trans (hv_10_3_0)))))
  have hv_10_4_0 : V9 (10, 4, 0) = .inl (cy 0, 100, .inl (fun _ => 0)) := by rw [← hV9]; exact (if_neg (by simp)).trans ((if_neg (by simp)).trans ((if_neg (by simp)).trans ((if_neg (by simp)).trans ((if_neg (by simp)).trans (hv_10_4_0)))))
  have hv_2_0_0 : V9 (2, 0, 0) = .inr (3, [.ref (L8 (5, 0, 0)), .ref (L8 (6, 0, 0)), .ref (L8 (7, 0, 0)), .ref (L8 (8, 0, 0)), .int 0]) := by rw [← hV9]; exact if_pos rfl
  have hv_5_0_0 : V9 (5, 0, 0) = .inl (cy 0, 40, .inl (fun _ => 0)) := by rw [← hV9]; exact (if_neg (by simp)).trans (if_pos rfl)
  have hv_6_0_0 : V9 (6, 0, 0) = .inl (cy 0, 40, .inl (fun _ => 0)) := by rw [← hV9]; exact (if_neg (by simp)).trans ((if_neg (by simp)).trans (if_pos rfl))
  have hv_7_0_0 : V9 (7, 0, 0) = .inl (cy 0, 40, .inl (fun _ => 0)) := by rw [← hV9]; exact (if_neg (by simp)).trans ((if_neg (by simp)).trans ((if_neg (by simp)).trans (if_pos rfl)))
  have hv_8_0_0 : V9 (8, 0, 0) = .inl (cy 0, 40, .inl (fun _ => 0)) := by rw [← hV9]; exact (if_neg (by simp)).trans ((if_neg (by simp)).trans ((if_neg (by simp)).trans ((if_neg (by simp)).trans (if_pos rfl))))
  have hVo : ∀ y, y ≠ (0, 0, 0) ∧ y ≠ (1, 0, 0) ∧ y ≠ (3, 0, 0) ∧ y ≠ (4, 0, 0) ∧ y ≠ (10, 0, 0) ∧ y ≠ (10, 1, 0) ∧ y ≠ (10, 2, 0) ∧ y ≠ (10, 3, 0) ∧ y ≠ (10, 4, 0) ∧ y ≠ (2, 0, 0) ∧ y ≠ (5, 0, 0) ∧ y ≠ (6, 0, 0) ∧ y ≠ (7, 0, 0) ∧ y ≠ (8, 0, 0) ∧ y ≠ (9, 0, 0) → V9 y = V y := fun y hy => by rw [← hV9]; exact (if_neg (fun q => by subst q; simp at hy)).trans ((if_neg (fun q => by subst q; simp at hy)).trans ((if_neg (fun q => by subst q; simp at hy)).trans ((if_neg (fun q => by subst q; simp at hy)).trans ((if_neg (fun q => by subst q; simp at hy)).trans (hVo y hy)))))
  refine h_putF (C := RX6) (T := TX6) (N := 4) (ci := 8) (ty := (tyX6 1)) hx hb hts inX6g tyX6_ok nmX6 hown hK hG hS (0, 0, 0) hd_0_0_0 e_0_0_0 hAa hv_0_0_0 rfl 1 (by decide) fl_X6_19 rfl hin2 rfl (by decide +kernel) rfl rfl (Nat.le_of_ble_eq_true rfl) dX6_init_23 (fun H locs hG hS => ?_)
  have hG : g_H D vwCl _ L8 (g_set V9 (0, 0, 0) (.inr (8, [.ref b1, .ref b6, .null, .int 0]))) H := hG
  generalize hV10 : g_set V9 (0, 0, 0) (.inr (8, [.ref b1, .ref b6, .null, .int 0])) = V10 at hG
  have hv_1_0_0 : V10 (1, 0, 0) = .inr (4, [.ref (L3 (3, 0, 0)), .ref (L3 (4, 0, 0)), .int 0]) := by rw [← hV10, g_set_ne (by decide)]; exact hv_1_0_0
  have hv_3_0_0 : V10 (3, 0, 0) = .inl (cy 0, 100, .inl (fun _ => 0)) := by rw [← hV10, g_set_ne (by decide)]; exact hv_3_0_0
  have hv_4_0_0 : V10 (4, 0, 0) = .inl (cy 1, 5, .inr (.inr (.inr (.inr (va_up (va_up (va_up (va_up (va_up (fun _ => none) 0 (some (L3 (10, 0, 0)))) 1 (some (L3 (10, 1, 0)))) 2 (some (L3 (10, 2, 0)))) 3 (some (L3 (10, 3, 0)))) 4 (some (L3 (10, 4, 0)))))))) := by rw [← hV10, g_set_ne (by decide)]; exact hv_4_0_0
  have hv_10_0_0 : V10 (10, 0, 0) = .inl (cy 0, 100, .inl (fun _ => 0)) := by rw [← hV10, g_set_ne (by decide)]; exact hv_10_0_0
  have hv_10_1_0 : V10 (10, 1, 0) = .inl (cy 0, 100, .inl (fun _ => 0)) := by rw [← hV10, g_set_ne (by decide)]; exact hv_10_1_0
  have hv_10_2_0 : V10 (10, 2, 0) = .inl (cy 0, 100, .inl (fun _ => 0)) := by rw [← hV10, g_set_ne (by decide)]; exact hv_10_2_0
  have hv_10_3_0 : V10 (10, 3, 0) = .inl (cy 0, 100, .inl (fun _ => 0)) := by rw [← hV10, g_set_ne (by decide)]; exact hv_10_3_0
  have hv_10_4_0 : V10 (10, 4, 0) = .inl (cy 0, 100, .inl (fun _ => 0)) := by rw [← hV10, g_set_ne (by decide)]; exact hv_10_4_0
  have hv_2_0_0 : V10 (2, 0, 0) = .inr (3, [.ref (L8 (5, 0, 0)), .ref (L8 (6, 0, 0)), .ref (L8 (7, 0, 0)), .ref (L8 (8, 0, 0)), .int 0]) := by rw [← hV10, g_set_ne (by decide)]; exact hv_2_0_0
  have hv_5_0_0 : V10 (5, 0, 0) = .inl (cy 0, 40, .inl (fun _ => 0)) := by rw [← hV10, g_set_ne (by decide)]; exact hv_5_0_0
  have hv_6_0_0 : V10 (6, 0, 0) = .inl (cy 0, 40, .inl (fun _ => 0)) := by rw [← hV10, g_set_ne (by decide)]; exact hv_6_0_0
  have hv_7_0_0 : V10 (7, 0, 0) = .inl (cy 0, 40, .inl (fun _ => 0)) := by rw [← hV10, g_set_ne (by decide)]; exact hv_7_0_0
  have hv_8_0_0 : V10 (8, 0, 0) = .inl (cy 0, 40, .inl (fun _ => 0)) := by rw [← hV10, g_set_ne (by decide)]; exact hv_8_0_0
  have hv_0_0_0 : V10 (0, 0, 0) = .inr (8, [.ref b1, .ref b6, .null, .int 0]) := by rw [← hV10, g_set_self]
  have hVo : ∀ y, y ≠ (0, 0, 0) ∧ y ≠ (1, 0, 0) ∧ y ≠ (3, 0, 0) ∧ y ≠ (4, 0, 0) ∧ y ≠ (10, 0, 0) ∧ y ≠ (10, 1, 0) ∧ y ≠ (10, 2, 0) ∧ y ≠ (10, 3, 0) ∧ y ≠ (10, 4, 0) ∧ y ≠ (2, 0, 0) ∧ y ≠ (5, 0, 0) ∧ y ≠ (6, 0, 0) ∧ y ≠ (7, 0, 0) ∧ y ≠ (8, 0, 0) ∧ y ≠ (9, 0, 0) → V10 y = V y := fun y hy => by rw [← hV10, g_set_ne (fun q => hy.1 q)]; first | done | exact hVo y hy
  refine lv_aload_n hx hb dX6_init_26 rfl (lv_at hl 0 rfl) ?_
  refine lv_bipush (v := 8) hx hb dX6_init_27 (by decide) ?_
  refine h_newq (C := RX5) (N' := 8) hx hb hown (hts _ cl_X6_23) hN.2.2.1 hK 2 rfl hG hS (9, 0, 0) hf_9_0_0 (by decide) rfl (by decide) (Nat.le_of_ble_eq_true rfl) (Nat.le_of_ble_eq_true rfl) dX6_init_29 (fun L11 b11 H hL9 e_9_0_0 ha11 hG hS hz9 o9 => ?_)
  have hs_1_0_0 : s.heap.size ≤ L11 (1, 0, 0) := by rw [hL9 _ hd_1_0_0]; exact hs_1_0_0
  have hs_3_0_0 : s.heap.size ≤ L11 (3, 0, 0) := by rw [hL9 _ hd_3_0_0]; exact hs_3_0_0
  have hs_4_0_0 : s.heap.size ≤ L11 (4, 0, 0) := by rw [hL9 _ hd_4_0_0]; exact hs_4_0_0
  have hs_10_0_0 : s.heap.size ≤ L11 (10, 0, 0) := by rw [hL9 _ hd_10_0_0]; exact hs_10_0_0
  have hs_10_1_0 : s.heap.size ≤ L11 (10, 1, 0) := by rw [hL9 _ hd_10_1_0]; exact hs_10_1_0
  have hs_10_2_0 : s.heap.size ≤ L11 (10, 2, 0) := by rw [hL9 _ hd_10_2_0]; exact hs_10_2_0
  have hs_10_3_0 : s.heap.size ≤ L11 (10, 3, 0) := by rw [hL9 _ hd_10_3_0]; exact hs_10_3_0
  have hs_10_4_0 : s.heap.size ≤ L11 (10, 4, 0) := by rw [hL9 _ hd_10_4_0]; exact hs_10_4_0
  have hs_2_0_0 : s.heap.size ≤ L11 (2, 0, 0) := by rw [hL9 _ hd_2_0_0]; exact hs_2_0_0
  have hs_5_0_0 : s.heap.size ≤ L11 (5, 0, 0) := by rw [hL9 _ hd_5_0_0]; exact hs_5_0_0
  have hs_6_0_0 : s.heap.size ≤ L11 (6, 0, 0) := by rw [hL9 _ hd_6_0_0]; exact hs_6_0_0
  have hs_7_0_0 : s.heap.size ≤ L11 (7, 0, 0) := by rw [hL9 _ hd_7_0_0]; exact hs_7_0_0
  have hs_8_0_0 : s.heap.size ≤ L11 (8, 0, 0) := by rw [hL9 _ hd_8_0_0]; exact hs_8_0_0
  have hs_9_0_0 : s.heap.size ≤ L11 (9, 0, 0) := by rw [e_9_0_0]; exact ha11
  have e_0_0_0 := (hL9 _ hd_0_0_0).trans e_0_0_0
  have e_1_0_0 := (hL9 _ hd_1_0_0).trans e_1_0_0
  have e_3_0_0 := (hL9 _ hd_3_0_0).trans e_3_0_0
  have e_4_0_0 := (hL9 _ hd_4_0_0).trans e_4_0_0
  have e_10_0_0 := (hL9 _ hd_10_0_0).trans e_10_0_0
  have e_10_1_0 := (hL9 _ hd_10_1_0).trans e_10_1_0
  have e_10_2_0 := (hL9 _ hd_10_2_0).trans e_10_2_0
  have e_10_3_0 := (hL9 _ hd_10_3_0).trans e_10_3_0
  have e_10_4_0 := (hL9 _ hd_10_4_0).trans e_10_4_0
  have e_2_0_0 := (hL9 _ hd_2_0_0).trans e_2_0_0
  have e_5_0_0 := (hL9 _ hd_5_0_0).trans e_5_0_0
  have e_6_0_0 := (hL9 _ hd_6_0_0).trans e_6_0_0
  have e_7_0_0 := (hL9 _ hd_7_0_0).trans e_7_0_0
  have e_8_0_0 := (hL9 _ hd_8_0_0).trans e_8_0_0
  have hLL := fun y (hy : dom y) => (hL9 y (hdd y hy)).trans (hLL y hy)
  have hdd := fun y (hy : dom y) => hG.inO (hdd y hy)
  have hd_0_0_0 := hG.inO hd_0_0_0
  have hd_1_0_0 := hG.inO hd_1_0_0
  have hd_3_0_0 := hG.inO hd_3_0_0
  have hd_4_0_0 := hG.inO hd_4_0_0
  have hd_10_0_0 := hG.inO hd_10_0_0
  have hd_10_1_0 := hG.inO hd_10_1_0
  have hd_10_2_0 := hG.inO hd_10_2_0
  have hd_10_3_0 := hG.inO hd_10_3_0
  have hd_10_4_0 := hG.inO hd_10_4_0
  have hd_2_0_0 := hG.inO hd_2_0_0
  have hd_5_0_0 := hG.inO hd_5_0_0
  have hd_6_0_0 := hG.inO hd_6_0_0
  have hd_7_0_0 := hG.inO hd_7_0_0
  have hd_8_0_0 := hG.inO hd_8_0_0
  have hd_9_0_0 := hG.inX
  generalize hV12 : g_set V10 (9, 0, 0) (.inl (cy 2, 8, .inr (.inr (.inr (.inr (fun _ => none)))))) = V12 at hG
  have hv_0_0_0 : V12 (0, 0, 0) = .inr (8, [.ref b1, .ref b6, .null, .int 0]) := by rw [← hV12, g_set_ne (by decide)]; exact hv_0_0_0
  have hv_1_0_0 : V12 (1, 0, 0) = .inr (4, [.ref (L3 (3, 0, 0)), .ref (L3 (4, 0, 0)), .int 0]) := by rw [← hV12, g_set_ne (by decide)]; exact hv_1_0_0
  have hv_3_0_0 : V12 (3, 0, 0) = .inl (cy 0, 100, .inl (fun _ => 0)) := by rw [← hV12, g_set_ne (by decide)]; exact hv_3_0_0
  have hv_4_0_0 : V12 (4, 0, 0) = .inl (cy 1, 5, .inr (.inr (.inr (.inr (va_up (va_up (va_up (va_up (va_up (fun _ => none) 0 (some (L3 (10, 0, 0)))) 1 (some (L3 (10, 1, 0)))) 2 (some (L3 (10, 2, 0)))) 3 (some (L3 (10, 3, 0)))) 4 (some (L3 (10, 4, 0)))))))) := by rw [← hV12, g_set_ne (by decide)]; exact hv_4_0_0
  have hv_10_0_0 : V12 (10, 0, 0) = .inl (cy 0, 100, .inl (fun _ => 0)) := by rw [← hV12, g_set_ne (by decide)]; exact hv_10_0_0
  have hv_10_1_0 : V12 (10, 1, 0) = .inl (cy 0, 100, .inl (fun _ => 0)) := by rw [← hV12, g_set_ne (by decide)]; exact hv_10_1_0
  have hv_10_2_0 : V12 (10, 2, 0) = .inl (cy 0, 100, .inl (fun _ => 0)) := by rw [← hV12, g_set_ne (by decide)]; exact hv_10_2_0
  have hv_10_3_0 : V12 (10, 3, 0) = .inl (cy 0, 100, .inl (fun _ => 0)) := by rw [← hV12, g_set_ne (by decide)]; exact hv_10_3_0
  have hv_10_4_0 : V12 (10, 4, 0) = .inl (cy 0, 100, .inl (fun _ => 0)) := by rw [← hV12, g_set_ne (by decide)]; exact hv_10_4_0
  have hv_2_0_0 : V12 (2, 0, 0) = .inr (3, [.ref (L8 (5, 0, 0)), .ref (L8 (6, 0, 0)), .ref (L8 (7, 0, 0)), .ref (L8 (8, 0, 0)), .int 0]) := by rw [← hV12, g_set_ne (by decide)]; exact hv_2_0_0
  have hv_5_0_0 : V12 (5, 0, 0) = .inl (cy 0, 40, .inl (fun _ => 0)) := by rw [← hV12, g_set_ne (by decide)]; exact hv_5_0_0
  have hv_6_0_0 : V12 (6, 0, 0) = .inl (cy 0, 40, .inl (fun _ => 0)) := by rw [← hV12, g_set_ne (by decide)]; exact hv_6_0_0
  have hv_7_0_0 : V12 (7, 0, 0) = .inl (cy 0, 40, .inl (fun _ => 0)) := by rw [← hV12, g_set_ne (by decide)]; exact hv_7_0_0
  have hv_8_0_0 : V12 (8, 0, 0) = .inl (cy 0, 40, .inl (fun _ => 0)) := by rw [← hV12, g_set_ne (by decide)]; exact hv_8_0_0
  have hv_9_0_0 : V12 (9, 0, 0) = .inl (cy 2, 8, .inr (.inr (.inr (.inr (fun _ => none))))) := by rw [← hV12, g_set_self]
  have hVo : ∀ y, y ≠ (0, 0, 0) ∧ y ≠ (1, 0, 0) ∧ y ≠ (3, 0, 0) ∧ y ≠ (4, 0, 0) ∧ y ≠ (10, 0, 0) ∧ y ≠ (10, 1, 0) ∧ y ≠ (10, 2, 0) ∧ y ≠ (10, 3, 0) ∧ y ≠ (10, 4, 0) ∧ y ≠ (2, 0, 0) ∧ y ≠ (5, 0, 0) ∧ y ≠ (6, 0, 0) ∧ y ≠ (7, 0, 0) ∧ y ≠ (8, 0, 0) ∧ y ≠ (9, 0, 0) → V12 y = V y := fun y hy => by rw [← hV12, g_set_ne (fun q => hy.2.2.2.2.2.2.2.2.2.2.2.2.2.2 q)]; first | done | exact hVo y hy
  refine h_putF (C := RX6) (T := TX6) (N := 4) (ci := 8) (ty := (tyX6 2)) hx hb hts inX6g tyX6_ok nmX6 hown hK hG hS (0, 0, 0) hd_0_0_0 e_0_0_0 hAa hv_0_0_0 rfl 2 (by decide) fl_X6_25 rfl hin2 rfl (by decide +kernel) rfl rfl (Nat.le_of_ble_eq_true rfl) dX6_init_32 (fun H locs hG hS => ?_)
  have hG : g_H D vwCl _ L11 (g_set V12 (0, 0, 0) (.inr (8, [.ref b1, .ref b6, .ref b11, .int 0]))) H := hG
  generalize hV13 : g_set V12 (0, 0, 0) (.inr (8, [.ref b1, .ref b6, .ref b11, .int 0])) = V13 at hG
  have hv_1_0_0 : V13 (1, 0, 0) = .inr (4, [.ref (L3 (3, 0, 0)), .ref (L3 (4, 0, 0)), .int 0]) := by rw [← hV13, g_set_ne (by decide)]; exact hv_1_0_0
  have hv_3_0_0 : V13 (3, 0, 0) = .inl (cy 0, 100, .inl (fun _ => 0)) := by rw [← hV13, g_set_ne (by decide)]; exact hv_3_0_0
  have hv_4_0_0 : V13 (4, 0, 0) = .inl (cy 1, 5, .inr (.inr (.inr (.inr (va_up (va_up (va_up (va_up (va_up (fun _ => none) 0 (some (L3 (10, 0, 0)))) 1 (some (L3 (10, 1, 0)))) 2 (some (L3 (10, 2, 0)))) 3 (some (L3 (10, 3, 0)))) 4 (some (L3 (10, 4, 0)))))))) := by rw [← hV13, g_set_ne (by decide)]; exact hv_4_0_0
  have hv_10_0_0 : V13 (10, 0, 0) = .inl (cy 0, 100, .inl (fun _ => 0)) := by rw [← hV13, g_set_ne (by decide)]; exact hv_10_0_0
  have hv_10_1_0 : V13 (10, 1, 0) = .inl (cy 0, 100, .inl (fun _ => 0)) := by rw [← hV13, g_set_ne (by decide)]; exact hv_10_1_0
  have hv_10_2_0 : V13 (10, 2, 0) = .inl (cy 0, 100, .inl (fun _ => 0)) := by rw [← hV13, g_set_ne (by decide)]; exact hv_10_2_0
  have hv_10_3_0 : V13 (10, 3, 0) = .inl (cy 0, 100, .inl (fun _ => 0)) := by rw [← hV13, g_set_ne (by decide)]; exact hv_10_3_0
  have hv_10_4_0 : V13 (10, 4, 0) = .inl (cy 0, 100, .inl (fun _ => 0)) := by rw [← hV13, g_set_ne (by decide)]; exact hv_10_4_0
  have hv_2_0_0 : V13 (2, 0, 0) = .inr (3, [.ref (L8 (5, 0, 0)), .ref (L8 (6, 0, 0)), .ref (L8 (7, 0, 0)), .ref (L8 (8, 0, 0)), .int 0]) := by rw [← hV13, g_set_ne (by decide)]; exact hv_2_0_0
  have hv_5_0_0 : V13 (5, 0, 0) = .inl (cy 0, 40, .inl (fun _ => 0)) := by rw [← hV13, g_set_ne (by decide)]; exact hv_5_0_0
  have hv_6_0_0 : V13 (6, 0, 0) = .inl (cy 0, 40, .inl (fun _ => 0)) := by rw [← hV13, g_set_ne (by decide)]; exact hv_6_0_0
  have hv_7_0_0 : V13 (7, 0, 0) = .inl (cy 0, 40, .inl (fun _ => 0)) := by rw [← hV13, g_set_ne (by decide)]; exact hv_7_0_0
  have hv_8_0_0 : V13 (8, 0, 0) = .inl (cy 0, 40, .inl (fun _ => 0)) := by rw [← hV13, g_set_ne (by decide)]; exact hv_8_0_0
  have hv_9_0_0 : V13 (9, 0, 0) = .inl (cy 2, 8, .inr (.inr (.inr (.inr (fun _ => none))))) := by rw [← hV13, g_set_ne (by decide)]; exact hv_9_0_0
  have hv_0_0_0 : V13 (0, 0, 0) = .inr (8, [.ref b1, .ref b6, .ref b11, .int 0]) := by rw [← hV13, g_set_self]
  have hVo : ∀ y, y ≠ (0, 0, 0) ∧ y ≠ (1, 0, 0) ∧ y ≠ (3, 0, 0) ∧ y ≠ (4, 0, 0) ∧ y ≠ (10, 0, 0) ∧ y ≠ (10, 1, 0) ∧ y ≠ (10, 2, 0) ∧ y ≠ (10, 3, 0) ∧ y ≠ (10, 4, 0) ∧ y ≠ (2, 0, 0) ∧ y ≠ (5, 0, 0) ∧ y ≠ (6, 0, 0) ∧ y ≠ (7, 0, 0) ∧ y ≠ (8, 0, 0) ∧ y ≠ (9, 0, 0) → V13 y = V y := fun y hy => by rw [← hV13, g_set_ne (fun q => hy.1 q)]; first | done | exact hVo y hy
  refine lv_aload_n hx hb dX6_init_35 rfl (lv_at hl 0 rfl) ?_
  refine lv_iconst (v := 0) hx hb dX6_init_36 (by decide) ?_
  refine h_put (C := RX6) (T := TX6) (N := 4) (ci := 8) (ty := .int) hx hb hts inX6g tyX6_ok nmX6 hown hK hG hS (0, 0, 0) hd_0_0_0 e_0_0_0 hAa hv_0_0_0 rfl 3 (by decide) fl_X6_29 rfl (by decide +kernel) rfl rfl (Nat.le_of_ble_eq_true rfl) dX6_init_37 (fun H locs hG hS => ?_)
  have hG : g_H D vwCl _ L11 (g_set V13 (0, 0, 0) (.inr (8, [.ref b1, .ref b6, .ref b11, .int 0]))) H := hG
  generalize hV14 : g_set V13 (0, 0, 0) (.inr (8, [.ref b1, .ref b6, .ref b11, .int 0])) = V14 at hG
  have hv_1_0_0 : V14 (1, 0, 0) = .inr (4, [.ref (L3 (3, 0, 0)), .ref (L3 (4, 0, 0)), .int 0]) := by rw [← hV14, g_set_ne (by decide)]; exact hv_1_0_0
  have hv_3_0_0 : V14 (3, 0, 0) = .inl (cy 0, 100, .inl (fun _ => 0)) := by rw [← hV14, g_set_ne (by decide)]; exact hv_3_0_0
  have hv_4_0_0 : V14 (4, 0, 0) = .inl (cy 1, 5, .inr (.inr (.inr (.inr (va_up (va_up (va_up (va_up (va_up (fun _ => none) 0 (some (L3 (10, 0, 0)))) 1 (some (L3 (10, 1, 0)))) 2 (some (L3 (10, 2, 0)))) 3 (some (L3 (10, 3, 0)))) 4 (some (L3 (10, 4, 0)))))))) := by rw [← hV14, g_set_ne (by decide)]; exact hv_4_0_0
  have hv_10_0_0 : V14 (10, 0, 0) = .inl (cy 0, 100, .inl (fun _ => 0)) := by rw [← hV14, g_set_ne (by decide)]; exact hv_10_0_0
  have hv_10_1_0 : V14 (10, 1, 0) = .inl (cy 0, 100, .inl (fun _ => 0)) := by rw [← hV14, g_set_ne (by decide)]; exact hv_10_1_0
  have hv_10_2_0 : V14 (10, 2, 0) = .inl (cy 0, 100, .inl (fun _ => 0)) := by rw [← hV14, g_set_ne (by decide)]; exact hv_10_2_0
  have hv_10_3_0 : V14 (10, 3, 0) = .inl (cy 0, 100, .inl (fun _ => 0)) := by rw [← hV14, g_set_ne (by decide)]; exact hv_10_3_0
  have hv_10_4_0 : V14 (10, 4, 0) = .inl (cy 0, 100, .inl (fun _ => 0)) := by rw [← hV14, g_set_ne (by decide)]; exact hv_10_4_0
  have hv_2_0_0 : V14 (2, 0, 0) = .inr (3, [.ref (L8 (5, 0, 0)), .ref (L8 (6, 0, 0)), .ref (L8 (7, 0, 0)), .ref (L8 (8, 0, 0)), .int 0]) := by rw [← hV14, g_set_ne (by decide)]; exact hv_2_0_0
  have hv_5_0_0 : V14 (5, 0, 0) = .inl (cy 0, 40, .inl (fun _ => 0)) := by rw [← hV14, g_set_ne (by decide)]; exact hv_5_0_0
  have hv_6_0_0 : V14 (6, 0, 0) = .inl (cy 0, 40, .inl (fun _ => 0)) := by rw [← hV14, g_set_ne (by decide)]; exact hv_6_0_0
  have hv_7_0_0 : V14 (7, 0, 0) = .inl (cy 0, 40, .inl (fun _ => 0)) := by rw [← hV14, g_set_ne (by decide)]; exact hv_7_0_0
  have hv_8_0_0 : V14 (8, 0, 0) = .inl (cy 0, 40, .inl (fun _ => 0)) := by rw [← hV14, g_set_ne (by decide)]; exact hv_8_0_0
  have hv_9_0_0 : V14 (9, 0, 0) = .inl (cy 2, 8, .inr (.inr (.inr (.inr (fun _ => none))))) := by rw [← hV14, g_set_ne (by decide)]; exact hv_9_0_0
  have hv_0_0_0 : V14 (0, 0, 0) = .inr (8, [.ref b1, .ref b6, .ref b11, .int 0]) := by rw [← hV14, g_set_self]
  have hVo : ∀ y, y ≠ (0, 0, 0) ∧ y ≠ (1, 0, 0) ∧ y ≠ (3, 0, 0) ∧ y ≠ (4, 0, 0) ∧ y ≠ (10, 0, 0) ∧ y ≠ (10, 1, 0) ∧ y ≠ (10, 2, 0) ∧ y ≠ (10, 3, 0) ∧ y ≠ (10, 4, 0) ∧ y ≠ (2, 0, 0) ∧ y ≠ (5, 0, 0) ∧ y ≠ (6, 0, 0) ∧ y ≠ (7, 0, 0) ∧ y ≠ (8, 0, 0) ∧ y ≠ (9, 0, 0) → V14 y = V y := fun y hy => by rw [← hV14, g_set_ne (fun q => hy.1 q)]; first | done | exact hVo y hy
  have hnw : ∀ y, (dom y ∨ y = (1, 0, 0) ∨ y = (3, 0, 0) ∨ y = (4, 0, 0) ∨ y = (10, 0, 0) ∨ y = (10, 1, 0) ∨ y = (10, 2, 0) ∨ y = (10, 3, 0) ∨ y = (10, 4, 0) ∨ y = (2, 0, 0) ∨ y = (5, 0, 0) ∨ y = (6, 0, 0) ∨ y = (7, 0, 0) ∨ y = (8, 0, 0) ∨ y = (9, 0, 0)) → dom y ∨ s.heap.size ≤ L11 y := by
    intro y h
    rcases h with h | rfl | rfl | rfl | rfl | rfl | rfl | rfl | rfl | rfl | rfl | rfl | rfl | rfl | rfl
    · exact Or.inl h
    · exact Or.inr hs_1_0_0
    · exact Or.inr hs_3_0_0
    · exact Or.inr hs_4_0_0
    · exact Or.inr hs_10_0_0
    · exact Or.inr hs_10_1_0
    · exact Or.inr hs_10_2_0
    · exact Or.inr hs_10_3_0
    · exact Or.inr hs_10_4_0
    · exact Or.inr hs_2_0_0
    · exact Or.inr hs_5_0_0
    · exact Or.inr hs_6_0_0
    · exact Or.inr hs_7_0_0
    · exact Or.inr hs_8_0_0
    · exact Or.inr hs_9_0_0
  refine h_vret hx hb hr hlk hLL hnw (hG.congr (fun x h => ?_) (fun x h => ?_)) hS dX6_init_40
  · rcases h with h | rfl | rfl | rfl | rfl | rfl | rfl | rfl | rfl | rfl | rfl | rfl | rfl | rfl | rfl
    · exact hdd x h
    · exact hd_1_0_0
    · exact hd_3_0_0
    · exact hd_4_0_0
    · exact hd_10_0_0
    · exact hd_10_1_0
    · exact hd_10_2_0
    · exact hd_10_3_0
    · exact hd_10_4_0
    · exact hd_2_0_0
    · exact hd_5_0_0
    · exact hd_6_0_0
    · exact hd_7_0_0
    · exact hd_8_0_0
    · exact hd_9_0_0
  · by_cases q_0_0_0 : x = (0, 0, 0)
    · rw [if_pos q_0_0_0, q_0_0_0, hv_0_0_0, e_1_0_0, e_2_0_0, e_9_0_0]
    · rw [if_neg q_0_0_0]
      by_cases q_1_0_0 : x = (1, 0, 0)
      · rw [if_pos q_1_0_0, q_1_0_0, hv_1_0_0, e_3_0_0, e_4_0_0]
      · rw [if_neg q_1_0_0]
        by_cases q_3_0_0 : x = (3, 0, 0)
        · rw [if_pos q_3_0_0, q_3_0_0, hv_3_0_0]
        · rw [if_neg q_3_0_0]
          by_cases q_4_0_0 : x = (4, 0, 0)
          · rw [if_pos q_4_0_0, q_4_0_0, hv_4_0_0, e_10_0_0, e_10_1_0, e_10_2_0, e_10_3_0, e_10_4_0]
          · rw [if_neg q_4_0_0]
            by_cases q_10_0_0 : x = (10, 0, 0)
            · rw [if_pos q_10_0_0, q_10_0_0, hv_10_0_0]
            · rw [if_neg q_10_0_0]
              by_cases q_10_1_0 : x = (10, 1, 0)
              · rw [if_pos q_10_1_0, q_10_1_0, hv_10_1_0]
              · rw [if_neg q_10_1_0]
                by_cases q_10_2_0 : x = (10, 2, 0)
                · rw [if_pos q_10_2_0, q_10_2_0, hv_10_2_0]
                · rw [if_neg q_10_2_0]
                  by_cases q_10_3_0 : x = (10, 3, 0)
                  · rw [if_pos q_10_3_0, q_10_3_0, hv_10_3_0]
                  · rw [if_neg q_10_3_0]
                    by_cases q_10_4_0 : x = (10, 4, 0)
                    · rw [if_pos q_10_4_0, q_10_4_0, hv_10_4_0]
                    · rw [if_neg q_10_4_0]
                      by_cases q_2_0_0 : x = (2, 0, 0)
                      · rw [if_pos q_2_0_0, q_2_0_0, hv_2_0_0, e_5_0_0, e_6_0_0, e_7_0_0, e_8_0_0]
                      · rw [if_neg q_2_0_0]
                        by_cases q_5_0_0 : x = (5, 0, 0)
                        · rw [if_pos q_5_0_0, q_5_0_0, hv_5_0_0]
                        · rw [if_neg q_5_0_0]
                          by_cases q_6_0_0 : x = (6, 0, 0)
                          · rw [if_pos q_6_0_0, q_6_0_0, hv_6_0_0]
                          · rw [if_neg q_6_0_0]
                            by_cases q_7_0_0 : x = (7, 0, 0)
                            · rw [if_pos q_7_0_0, q_7_0_0, hv_7_0_0]
                            · rw [if_neg q_7_0_0]
                              by_cases q_8_0_0 : x = (8, 0, 0)
                              · rw [if_pos q_8_0_0, q_8_0_0, hv_8_0_0]
                              · rw [if_neg q_8_0_0]
                                by_cases q_9_0_0 : x = (9, 0, 0)
                                · rw [if_pos q_9_0_0, q_9_0_0, hv_9_0_0]
                                · rw [if_neg q_9_0_0]
                                  exact (hVo x ⟨q_0_0_0, q_1_0_0, q_3_0_0, q_4_0_0, q_10_0_0, q_10_1_0, q_10_2_0, q_10_3_0, q_10_4_0, q_2_0_0, q_5_0_0, q_6_0_0, q_7_0_0, q_8_0_0, q_9_0_0⟩).symm
