/-! the reference is made -/
section MI
variable {p : Program} {l : Launch} {e : Env} {R : Room} {s : State} {m : MethodId} {args : Array Value} {below : List Frame} {meth : Method} {c : Code} {H : Heap} {locs : List Loc} {cells slots : Nat} {Q : State → Prop}
variable {cc : ByteArray} {pc : Nat} {ls : Array Slot} {rest : List Value} {D : va_G} {cl : List vw_C} {A : Nat → Prop} {tys : List (ClassId × FieldType)} {H0 : Heap} {dom : g_S → Prop} {L : g_S → Nat} {V : g_S → va_E}
theorem h_iast (hexec : p.tables.exec = Jvm.exec) (hb : c.code = cc) (hK : va_K D cl tys s) (hG : g_H D cl dom L V H) (hS : va_S A H0 H locs) (x : g_S) (hx : dom x) {a : Nat} (hLa : L x = a) (hA : A a) (t0 : Nat) {cA : ClassId} {n : Nat} {f : Nat → Int32} (ha : V x = .inl (cA, n, .inl f)) (ht : tys[t0]? = some (cA, .int)) {i v : Int32} (hin : vp_in i n) (hdg : decode cc pc = .ok (.iastore, 1))
    (kk : ∀ (H1 : Heap) (locs : List Loc), g_H D cl dom L (g_set V x (.inl (cA, n, .inl (upd f i.toNatClampNeg v)))) H1 → va_S A H0 H1 locs → W p l e R s m args below meth c H1 locs cells slots Q (F0 m (pc + 1) ls rest)) : W p l e R s m args below meth c H locs cells slots Q (F0 m pc ls (.int v :: .int i :: .ref a :: rest)) := by
  subst hLa
  refine W.iast hexec hb ((hG.one hx ha) 0 _ rfl) ((hK.2 t0 _ ht).1 n (fun j => .int (f j))) (fun q => by cases q) (by show ¬ (i < 0 ∨ (arrV _ _ _).slots.size ≤ _); rw [arrV_size]; exact hin) rfl rfl hdg fun H1 e z oq => ?_
  refine kk H1 _ (hG.set hx ?_ oq) (hS.put z oq hA)
  show H1[L x]? = some (vp_cell _ _)
  rw [e, vp_cell_i, vp_cell_i, arrV_store]
  congr 2
  funext q
  by_cases hq : q = i.toNatClampNeg
  · subst hq; simp [updV, upd]
  · simp [updV, upd, hq]
end MI
def m_f0 (k : Nat) : Nat → Int32 := fun j => if j < k then -1 else 0
theorem m_f0_s (k : Nat) : upd (m_f0 k) k (-1) = m_f0 (k + 1) := by
  funext j
  unfold upd m_f0
  by_cases h : j = k
  · subst h; simp
  · by_cases h2 : j < k
    · simp [h, h2, show j < k + 1 by omega]
    · simp [h, h2, show ¬ j < k + 1 by omega]
set_option maxHeartbeats 4000000 in
set_option maxRecDepth 100000 in
theorem lp_minit {pg : Program} {l : Launch} {e : Env} {R : Room} {s : State} {m : MethodId} {args : Array Value} {below : List Frame} {meth : Method} {c : Code} {cells slots : Nat} {Q : State → Prop} {D : va_G} {cy : Nat → ClassId} {A : Nat → Prop} {dom : g_S → Prop} {L : g_S → Nat} {a0 b16 : Nat} {fs : List Value}
    (hx : pg.tables.exec = Jvm.exec) (hb : c.code = cX7_init) (hts : ∀ w ∈ g_T, w.before args s = true) (hown : s.vm.findClass RX7 = some m.cls) (hK : va_K D vwCl (x_tys cy) s) (hd0 : dom (0, 0, 0)) (e0 : L (0, 0, 0) = a0) (hd16 : dom (1, 16, 0)) (e16 : L (1, 16, 0) = b16) (hA16 : A b16) (hf16 : fs[16]? = some (.ref b16)) :
    ∀ (n k : Nat) (V : g_S → va_E) (H : Heap) (locs : List Loc) (ls : Array Slot), k + n = 40 → g_H D vwCl dom L V H → va_S A s.heap H locs → V (0, 0, 0) = .inr (9, fs) → V (1, 16, 0) = .inl (cy 0, 40, .inl (m_f0 k)) → lv_has ls 2 [(1, .int (nI k)), (0, .ref a0)] →
    (∀ (V' : g_S → va_E) (H : Heap) (locs : List Loc) (ls : Array Slot), g_H D vwCl dom L V' H → va_S A s.heap H locs → V' (1, 16, 0) = .inl (cy 0, 40, .inl (m_f0 40)) → (∀ y, y ≠ (1, 16, 0) → V' y = V y) → W pg l e R s m args below meth c H locs cells slots Q (F0 m 226 ls [])) →
    W pg l e R s m args below meth c H locs cells slots Q (F0 m 207 ls []) := by
  intro n
  induction n with
  | zero =>
    intro k V H locs ls hk hG hS hv0 hv hl kk
    obtain rfl : k = 40 := by omega
    refine lv_iload_n hx hb dX7_init_207 rfl (lv_at hl 0 rfl) ?_
    refine lv_bipush (v := 40) hx hb dX7_init_208 (by decide) ?_
    refine kz_icmp_ge (X := 40) (Y := 40) hx hb (by decide) (by decide) dX7_init_210 (tgt := 226) (by decide) (fun c9 => ?_) (fun c9 => absurd c9 (by decide))
    exact kk V H locs ls hG hS hv (fun _ _ => rfl)
  | succ n ih =>
    intro k V H locs ls hk hG hS hv0 hv hl kk
    refine lv_iload_n hx hb dX7_init_207 rfl (lv_at hl 0 rfl) ?_
    refine lv_bipush (v := 40) hx hb dX7_init_208 (by decide) ?_
    refine kz_icmp_ge (X := ((k : Nat) : Int)) (Y := 40) hx hb (g_nIT (by omega)) (by decide) dX7_init_210 (tgt := 226) (by decide) (fun c9 => absurd c9 (by omega)) (fun c9 => ?_)
    refine lv_aload_n hx hb dX7_init_213 rfl (lv_at hl 1 rfl) ?_
    refine h_get (C := RX7) (T := TX7) (N := 28) (ci := 9) (v := .ref b16) hx hb hts inX7g hown hK hG (0, 0, 0) hd0 e0 hv0 rfl 16 (by decide) fl_X7_47 hf16 dX7_init_214 ?_
    refine lv_iload_n hx hb dX7_init_217 rfl (lv_at hl 0 rfl) ?_
    refine lv_iconst (v := (-1)) hx hb dX7_init_218 (by decide) ?_
    refine h_iast hx hb hK hG hS (1, 16, 0) hd16 e16 hA16 0 hv rfl (vp_in_nI (show k < 40 by omega) (by omega)) dX7_init_219 (fun H locs hG hS => ?_)
    rw [g_nIc (show k < 2147483648 by omega), m_f0_s] at hG
    refine lv_iinc (v := nI (k + 1)) (lv' := [(1, .int (nI (k + 1))), (0, .ref a0)]) hx hb dX7_init_220 hl (k := 0) rfl (nI_1 k) (by decide) rfl (fun ls hl => ?_)
    refine lv_goto (tgt := 207) hx hb dX7_init_223 (by decide) ?_
    refine ih (k + 1) _ H locs ls (by omega) hG hS (by rw [g_set_ne (by decide)]; exact hv0) g_set_self hl (fun V' H locs ls h1 h2 h3 h4 => ?_)
    exact kk V' H locs ls h1 h2 h3 (fun y hy => (h4 y hy).trans (g_set_ne hy))
set_option maxHeartbeats 4000000 in
set_option maxRecDepth 100000 in
theorem k_X7_init (l : Launch) (D : va_G) (cy : Nat → ClassId) (dom : g_S → Prop) (L : g_S → Nat) (V : g_S → va_E) (sz : Nat)  (a0 : Nat) (e_0_0_0 : L (0, 0, 0) = a0) (hd_0_0_0 : dom (0, 0, 0)) (hv_0_0_0 : V (0, 0, 0) = .inr (9, [.int 0, .int 0, .null, .null, .int 0, .null, .null, .null, .null, .null, .int 0, .null, .null, .null, .null, .null, .null, .null, .null, .null, .null, .null, .null, .null, .null, .null, .null, .null])) (hf_1_2_0 : ¬ dom (1, 2, 0)) (hf_1_3_0 : ¬ dom (1, 3, 0)) (hf_1_5_0 : ¬ dom (1, 5, 0)) (hf_1_6_0 : ¬ dom (1, 6, 0)) (hf_1_7_0 : ¬ dom (1, 7, 0)) (hf_1_8_0 : ¬ dom (1, 8, 0)) (hf_2_9_0 : ¬ dom (2, 9, 0)) (hf_1_11_0 : ¬ dom (1, 11, 0)) (hf_1_12_0 : ¬ dom (1, 12, 0)) (hf_2_13_0 : ¬ dom (2, 13, 0)) (hf_1_14_0 : ¬ dom (1, 14, 0)) (hf_1_15_0 : ¬ dom (1, 15, 0)) (hf_1_16_0 : ¬ dom (1, 16, 0)) (hf_1_17_0 : ¬ dom (1, 17, 0)) (hf_1_18_0 : ¬ dom (1, 18, 0)) (hf_1_19_0 : ¬ dom (1, 19, 0)) (hf_1_20_0 : ¬ dom (1, 20, 0)) (hf_1_21_0 : ¬ dom (1, 21, 0)) (hf_1_22_0 : ¬ dom (1, 22, 0)) (hf_1_23_0 : ¬ dom (1, 23, 0)) (hf_1_24_0 : ¬ dom (1, 24, 0)) (hf_1_25_0 : ¬ dom (1, 25, 0)) (hf_1_26_0 : ¬ dom (1, 26, 0)) (hf_1_27_0 : ¬ dom (1, 27, 0)) : h_Met l yX7_init (.code yX7_init cX7_init 2 none) 1 24 9424 D vwCl (x_tys cy) dom L V sz [.ref a0] (h_A a0 sz) none (fun x => dom x ∨ x = (1, 2, 0) ∨ x = (1, 3, 0) ∨ x = (1, 5, 0) ∨ x = (1, 6, 0) ∨ x = (1, 7, 0) ∨ x = (1, 8, 0) ∨ x = (2, 9, 0) ∨ x = (1, 11, 0) ∨ x = (1, 12, 0) ∨ x = (2, 13, 0) ∨ x = (1, 14, 0) ∨ x = (1, 15, 0) ∨ x = (1, 16, 0) ∨ x = (1, 17, 0) ∨ x = (1, 18, 0) ∨ x = (1, 19, 0) ∨ x = (1, 20, 0) ∨ x = (1, 21, 0) ∨ x = (1, 22, 0) ∨ x = (1, 23, 0) ∨ x = (1, 24, 0) ∨ x = (1, 25, 0) ∨ x = (1, 26, 0) ∨ x = (1, 27, 0)) (fun L' x => if x = (0, 0, 0) then .inr (9, [.int 0, .int 0, .ref (L' (1, 2, 0)), .ref (L' (1, 3, 0)), .int 0, .ref (L' (1, 5, 0)), .ref (L' (1, 6, 0)), .ref (L' (1, 7, 0)), .ref (L' (1, 8, 0)), .ref (L' (2, 9, 0)), .int 0, .ref (L' (1, 11, 0)), .ref (L' (1, 12, 0)), .ref (L' (2, 13, 0)), .ref (L' (1, 14, 0)), .ref (L' (1, 15, 0)), .ref (L' (1, 16, 0)), .ref (L' (1, 17, 0)), .ref (L' (1, 18, 0)), .ref (L' (1, 19, 0)), .ref (L' (1, 20, 0)), .ref (L' (1, 21, 0)), .ref (L' (1, 22, 0)), .ref (L' (1, 23, 0)), .ref (L' (1, 24, 0)), .ref (L' (1, 25, 0)), .ref (L' (1, 26, 0)), .ref (L' (1, 27, 0))]) else if x = (1, 2, 0) then .inl (cy 0, 100, .inl (fun _ => 0)) else if x = (1, 3, 0) then .inl (cy 0, 500, .inl (fun _ => 0)) else if x = (1, 5, 0) then .inl (cy 0, 40, .inl (fun _ => 0)) else if x = (1, 6, 0) then .inl (cy 0, 40, .inl (fun _ => 0)) else if x = (1, 7, 0) then .inl (cy 0, 40, .inl (fun _ => 0)) else if x = (1, 8, 0) then .inl (cy 0, 40, .inl (fun _ => 0)) else if x = (2, 9, 0) then .inl (cy 4, 40, .inl (fun _ => 0)) else if x = (1, 11, 0) then .inl (cy 0, 8, .inl (fun _ => 0)) else if x = (1, 12, 0) then .inl (cy 0, 8, .inl (fun _ => 0)) else if x = (2, 13, 0) then .inl (cy 4, 8, .inl (fun _ => 0)) else if x = (1, 14, 0) then .inl (cy 0, 8, .inl (fun _ => 0)) else if x = (1, 15, 0) then .inl (cy 0, 8, .inl (fun _ => 0)) else if x = (1, 16, 0) then .inl (cy 0, 40, .inl (m_f0 40)) else if x = (1, 17, 0) then .inl (cy 0, 4000, .inl (fun _ => 0)) else if x = (1, 18, 0) then .inl (cy 0, 8, .inl (fun _ => 0)) else if x = (1, 19, 0) then .inl (cy 0, 800, .inl (fun _ => 0)) else if x = (1, 20, 0) then .inl (cy 0, 8, .inl (fun _ => 0)) else if x = (1, 21, 0) then .inl (cy 0, 800, .inl (fun _ => 0)) else if x = (1, 22, 0) then .inl (cy 0, 800, .inl (fun _ => 0)) else if x = (1, 23, 0) then .inl (cy 0, 800, .inl (fun _ => 0)) else if x = (1, 24, 0) then .inl (cy 0, 8, .inl (fun _ => 0)) else if x = (1, 25, 0) then .inl (cy 0, 160, .inl (fun _ => 0)) else if x = (1, 26, 0) then .inl (cy 0, 160, .inl (fun _ => 0)) else if x = (1, 27, 0) then .inl (cy 0, 1000, .inl (fun _ => 0)) else V x) := by
  refine h_Met.of (by decide) (Nat.le_of_ble_eq_true rfl) ?_
  intro pg e s m below meth c hx hb hr hlk hml hown hin2 hsz hts hK hN hG ls hl
  have hown : s.vm.findClass RX7 = some m.cls := hown
  have hl : lv_has ls 2 [(0, .ref a0)] := hl
  have hS : va_S (h_A a0 sz) s.heap s.heap [] := va_S.rf
  have hAa : h_A a0 sz a0 := Or.inl rfl
  have hAn : ∀ q, s.heap.size ≤ q → h_A a0 sz q := fun q h => Or.inr (by rw [← hsz]; exact h)
  have hLL := fun y (_ : dom y) => (rfl : L y = L y)
  have hdd := fun y (hy : dom y) => hy
  have hVo : ∀ y, y ≠ (0, 0, 0) ∧ y ≠ (1, 2, 0) ∧ y ≠ (1, 3, 0) ∧ y ≠ (1, 5, 0) ∧ y ≠ (1, 6, 0) ∧ y ≠ (1, 7, 0) ∧ y ≠ (1, 8, 0) ∧ y ≠ (2, 9, 0) ∧ y ≠ (1, 11, 0) ∧ y ≠ (1, 12, 0) ∧ y ≠ (2, 13, 0) ∧ y ≠ (1, 14, 0) ∧ y ≠ (1, 15, 0) ∧ y ≠ (1, 16, 0) ∧ y ≠ (1, 17, 0) ∧ y ≠ (1, 18, 0) ∧ y ≠ (1, 19, 0) ∧ y ≠ (1, 20, 0) ∧ y ≠ (1, 21, 0) ∧ y ≠ (1, 22, 0) ∧ y ≠ (1, 23, 0) ∧ y ≠ (1, 24, 0) ∧ y ≠ (1, 25, 0) ∧ y ≠ (1, 26, 0) ∧ y ≠ (1, 27, 0) → V y = V y := fun _ _ => rfl
  refine lv_aload_n hx hb dX7_init_0 rfl (lv_at hl 0 rfl) ?_
  refine W.objInit hx hb hown (hts _ ol_X7) (hts _ oi_ob) (hts _ oc_ob) rfl (by rw [hml]; exact hl.1) rfl dX7_init_1 (Nat.le_of_ble_eq_true rfl) (Nat.le_of_ble_eq_true rfl) ?_
  refine W.eq (g2 := F0 m 4 ls []) rfl ?_
  refine lv_aload_n hx hb dX7_init_4 rfl (lv_at hl 0 rfl) ?_
  refine lv_bipush (v := 100) hx hb dX7_init_5 (by decide) ?_
  refine h_newa (harr := hts _ ac_int) (atype := .int) (ty := .int) (a0 := (100, .inl (fun _ => 0))) hx hb rfl (fun C h => by cases h) hK 0 rfl hG hS (1, 2, 0) hf_1_2_0 rfl (by decide) rfl (by decide) (Nat.le_of_ble_eq_true rfl) (Nat.le_of_ble_eq_true rfl) dX7_init_7 (fun L1 b1 H hL9 e_1_2_0 ha1 hG hS hz9 o9 => ?_)
  have hs_1_2_0 : s.heap.size ≤ L1 (1, 2, 0) := by rw [e_1_2_0]; exact ha1
  have e_0_0_0 := (hL9 _ hd_0_0_0).trans e_0_0_0
  have hLL := fun y (hy : dom y) => (hL9 y (hdd y hy)).trans (hLL y hy)
  have hdd := fun y (hy : dom y) => hG.inO (hdd y hy)
  have hd_0_0_0 := hG.inO hd_0_0_0
  have hd_1_2_0 := hG.inX
  have hf_1_3_0 := hG.notin hf_1_3_0 (by decide)
  have hf_1_5_0 := hG.notin hf_1_5_0 (by decide)
  have hf_1_6_0 := hG.notin hf_1_6_0 (by decide)
  have hf_1_7_0 := hG.notin hf_1_7_0 (by decide)
  have hf_1_8_0 := hG.notin hf_1_8_0 (by decide)
  have hf_2_9_0 := hG.notin hf_2_9_0 (by decide)
  have hf_1_11_0 := hG.notin hf_1_11_0 (by decide)
  have hf_1_12_0 := hG.notin hf_1_12_0 (by decide)
  have hf_2_13_0 := hG.notin hf_2_13_0 (by decide)
  have hf_1_14_0 := hG.notin hf_1_14_0 (by decide)
  have hf_1_15_0 := hG.notin hf_1_15_0 (by decide)
  have hf_1_16_0 := hG.notin hf_1_16_0 (by decide)
  have hf_1_17_0 := hG.notin hf_1_17_0 (by decide)
  have hf_1_18_0 := hG.notin hf_1_18_0 (by decide)
  have hf_1_19_0 := hG.notin hf_1_19_0 (by decide)
  have hf_1_20_0 := hG.notin hf_1_20_0 (by decide)
  have hf_1_21_0 := hG.notin hf_1_21_0 (by decide)
  have hf_1_22_0 := hG.notin hf_1_22_0 (by decide)
  have hf_1_23_0 := hG.notin hf_1_23_0 (by decide)
  have hf_1_24_0 := hG.notin hf_1_24_0 (by decide)
  have hf_1_25_0 := hG.notin hf_1_25_0 (by decide)
  have hf_1_26_0 := hG.notin hf_1_26_0 (by decide)
  have hf_1_27_0 := hG.notin hf_1_27_0 (by decide)
  generalize hV2 : g_set V (1, 2, 0) (.inl (cy 0, 100, .inl (fun _ => 0))) = V2 at hG
  have hv_0_0_0 : V2 (0, 0, 0) = .inr (9, [.int 0, .int 0, .null, .null, .int 0, .null, .null, .null, .null, .null, .int 0, .null, .null, .null, .null, .null, .null, .null, .null, .null, .null, .null, .null, .null, .null, .null, .null, .null]) := by rw [← hV2, g_set_ne (by decide)]; exact hv_0_0_0
  have hv_1_2_0 : V2 (1, 2, 0) = .inl (cy 0, 100, .inl (fun _ => 0)) := by rw [← hV2, g_set_self]
  have hVo : ∀ y, y ≠ (0, 0, 0) ∧ y ≠ (1, 2, 0) ∧ y ≠ (1, 3, 0) ∧ y ≠ (1, 5, 0) ∧ y ≠ (1, 6, 0) ∧ y ≠ (1, 7, 0) ∧ y ≠ (1, 8, 0) ∧ y ≠ (2, 9, 0) ∧ y ≠ (1, 11, 0) ∧ y ≠ (1, 12, 0) ∧ y ≠ (2, 13, 0) ∧ y ≠ (1, 14, 0) ∧ y ≠ (1, 15, 0) ∧ y ≠ (1, 16, 0) ∧ y ≠ (1, 17, 0) ∧ y ≠ (1, 18, 0) ∧ y ≠ (1, 19, 0) ∧ y ≠ (1, 20, 0) ∧ y ≠ (1, 21, 0) ∧ y ≠ (1, 22, 0) ∧ y ≠ (1, 23, 0) ∧ y ≠ (1, 24, 0) ∧ y ≠ (1, 25, 0) ∧ y ≠ (1, 26, 0) ∧ y ≠ (1, 27, 0) → V2 y = V y := fun y hy => by rw [← hV2, g_set_ne (fun q => hy.2.1 q)]; first | done | exact hVo y hy
  refine h_putF (C := RX7) (T := TX7) (N := 28) (ci := 9) (ty := (tyX7 2)) hx hb hts inX7g tyX7_ok nmX7 hown hK hG hS (0, 0, 0) hd_0_0_0 e_0_0_0 hAa hv_0_0_0 rfl 2 (by decide) fl_X7_7 rfl hin2 rfl (by decide +kernel) rfl rfl (Nat.le_of_ble_eq_true rfl) dX7_init_9 (fun H locs hG hS => ?_)
  have hG : g_H D vwCl _ L1 (g_set V2 (0, 0, 0) (.inr (9, [.int 0, .int 0, .ref b1, .null, .int 0, .null, .null, .null, .null, .null, .int 0, .null, .null, .null, .null, .null, .null, .null, .null, .null, .null, .null, .null, .null, .null, .null, .null, .null]))) H := hG
  generalize hV3 : g_set V2 (0, 0, 0) (.inr (9, [.int 0, .int 0, .ref b1, .null, .int 0, .null, .null, .null, .null, .null, .int 0, .null, .null, .null, .null, .null, .null, .null, .null, .null, .null, .null, .null, .null, .null, .null, .null, .null])) = V3 at hG
  have hv_1_2_0 : V3 (1, 2, 0) = .inl (cy 0, 100, .inl (fun _ => 0)) := by rw [← hV3, g_set_ne (by decide)]; exact hv_1_2_0
  have hv_0_0_0 : V3 (0, 0, 0) = .inr (9, [.int 0, .int 0, .ref b1, .null, .int 0, .null, .null, .null, .null, .null, .int 0, .null, .null, .null, .null, .null, .null, .null, .null, .null, .null, .null, .null, .null, .null, .null, .null, .null]) := by rw [← hV3, g_set_self]
  have hVo : ∀ y, y ≠ (0, 0, 0) ∧ y ≠ (1, 2, 0) ∧ y ≠ (1, 3, 0) ∧ y ≠ (1, 5, 0) ∧ y ≠ (1, 6, 0) ∧ y ≠ (1, 7, 0) ∧ y ≠ (1, 8, 0) ∧ y ≠ (2, 9, 0) ∧ y ≠ (1, 11, 0) ∧ y ≠ (1, 12, 0) ∧ y ≠ (2, 13, 0) ∧ y ≠ (1, 14, 0) ∧ y ≠ (1, 15, 0) ∧ y ≠ (1, 16, 0) ∧ y ≠ (1, 17, 0) ∧ y ≠ (1, 18, 0) ∧ y ≠ (1, 19, 0) ∧ y ≠ (1, 20, 0) ∧ y ≠ (1, 21, 0) ∧ y ≠ (1, 22, 0) ∧ y ≠ (1, 23, 0) ∧ y ≠ (1, 24, 0) ∧ y ≠ (1, 25, 0) ∧ y ≠ (1, 26, 0) ∧ y ≠ (1, 27, 0) → V3 y = V y := fun y hy => by rw [← hV3, g_set_ne (fun q => hy.1 q)]; first | done | exact hVo y hy
  refine lv_aload_n hx hb dX7_init_12 rfl (lv_at hl 0 rfl) ?_
  refine lv_sipush (v := 500) hx hb dX7_init_13 (by decide) ?_
  refine h_newa (harr := hts _ ac_int) (atype := .int) (ty := .int) (a0 := (500, .inl (fun _ => 0))) hx hb rfl (fun C h => by cases h) hK 0 rfl hG hS (1, 3, 0) hf_1_3_0 rfl (by decide) rfl (by decide) (Nat.le_of_ble_eq_true rfl) (Nat.le_of_ble_eq_true rfl) dX7_init_16 (fun L4 b4 H hL9 e_1_3_0 ha4 hG hS hz9 o9 => ?_)
  have hs_1_2_0 : s.heap.size ≤ L4 (1, 2, 0) := by rw [hL9 _ hd_1_2_0]; exact hs_1_2_0
  have hs_1_3_0 : s.heap.size ≤ L4 (1, 3, 0) := by rw [e_1_3_0]; exact ha4
  have e_0_0_0 := (hL9 _ hd_0_0_0).trans e_0_0_0
  have e_1_2_0 := (hL9 _ hd_1_2_0).trans e_1_2_0
  have hLL := fun y (hy : dom y) => (hL9 y (hdd y hy)).trans (hLL y hy)
  have hdd := fun y (hy : dom y) => hG.inO (hdd y hy)
  have hd_0_0_0 := hG.inO hd_0_0_0
  have hd_1_2_0 := hG.inO hd_1_2_0
  have hd_1_3_0 := hG.inX
  have hf_1_5_0 := hG.notin hf_1_5_0 (by decide)
  have hf_1_6_0 := hG.notin hf_1_6_0 (by decide)
  have hf_1_7_0 := hG.notin hf_1_7_0 (by decide)
  have hf_1_8_0 := hG.notin hf_1_8_0 (by decide)
  have hf_2_9_0 := hG.notin hf_2_9_0 (by decide)
  have hf_1_11_0 := hG.notin hf_1_11_0 (by decide)
  have hf_1_12_0 := hG.notin hf_1_12_0 (by decide)
  have hf_2_13_0 := hG.notin hf_2_13_0 (by decide)
  have hf_1_14_0 := hG.notin hf_1_14_0 (by decide)
  have hf_1_15_0 := hG.notin hf_1_15_0 (by decide)
  have hf_1_16_0 := hG.notin hf_1_16_0 (by decide)
  have hf_1_17_0 := hG.notin hf_1_17_0 (by decide)
  have hf_1_18_0 := hG.notin hf_1_18_0 (by decide)
  have hf_1_19_0 := hG.notin hf_1_19_0 (by decide)
  have hf_1_20_0 := hG.notin hf_1_20_0 (by decide)
  have hf_1_21_0 := hG.notin hf_1_21_0 (by decide)
  have hf_1_22_0 := hG.notin hf_1_22_0 (by decide)
  have hf_1_23_0 := hG.notin hf_1_23_0 (by decide)
  have hf_1_24_0 := hG.notin hf_1_24_0 (by decide)
  have hf_1_25_0 := hG.notin hf_1_25_0 (by decide)
  have hf_1_26_0 := hG.notin hf_1_26_0 (by decide)
  have hf_1_27_0 := hG.notin hf_1_27_0 (by decide)
  generalize hV5 : g_set V3 (1, 3, 0) (.inl (cy 0, 500, .inl (fun _ => 0))) = V5 at hG
  have hv_0_0_0 : V5 (0, 0, 0) = .inr (9, [.int 0, .int 0, .ref b1, .null, .int 0, .null, .null, .null, .null, .null, .int 0, .null, .null, .null, .null, .null, .null, .null, .null, .null, .null, .null, .null, .null, .null, .null, .null, .null]) := by rw [← hV5, g_set_ne (by decide)]; exact hv_0_0_0
  have hv_1_2_0 : V5 (1, 2, 0) = .inl (cy 0, 100, .inl (fun _ => 0)) := by rw [← hV5, g_set_ne (by decide)]; exact hv_1_2_0
  have hv_1_3_0 : V5 (1, 3, 0) = .inl (cy 0, 500, .inl (fun _ => 0)) := by rw [← hV5, g_set_self]
  have hVo : ∀ y, y ≠ (0, 0, 0) ∧ y ≠ (1, 2, 0) ∧ y ≠ (1, 3, 0) ∧ y ≠ (1, 5, 0) ∧ y ≠ (1, 6, 0) ∧ y ≠ (1, 7, 0) ∧ y ≠ (1, 8, 0) ∧ y ≠ (2, 9, 0) ∧ y ≠ (1, 11, 0) ∧ y ≠ (1, 12, 0) ∧ y ≠ (2, 13, 0) ∧ y ≠ (1, 14, 0) ∧ y ≠ (1, 15, 0) ∧ y ≠ (1, 16, 0) ∧ y ≠ (1, 17, 0) ∧ y ≠ (1, 18, 0) ∧ y ≠ (1, 19, 0) ∧ y ≠ (1, 20, 0) ∧ y ≠ (1, 21, 0) ∧ y ≠ (1, 22, 0) ∧ y ≠ (1, 23, 0) ∧ y ≠ (1, 24, 0) ∧ y ≠ (1, 25, 0) ∧ y ≠ (1, 26, 0) ∧ y ≠ (1, 27, 0) → V5 y = V y := fun y hy => by rw [← hV5, g_set_ne (fun q => hy.2.2.1 q)]; first | done | exact hVo y hy
  refine h_putF (C := RX7) (T := TX7) (N := 28) (ci := 9) (ty := (tyX7 3)) hx hb hts inX7g tyX7_ok nmX7 hown hK hG hS (0, 0, 0) hd_0_0_0 e_0_0_0 hAa hv_0_0_0 rfl 3 (by decide) fl_X7_13 rfl hin2 rfl (by decide +kernel) rfl rfl (Nat.le_of_ble_eq_true rfl) dX7_init_18 (fun H locs hG hS => ?_)
  have hG : g_H D vwCl _ L4 (g_set V5 (0, 0, 0) (.inr (9, [.int 0, .int 0, .ref b1, .ref b4, .int 0, .null, .null, .null, .null, .null, .int 0, .null, .null, .null, .null, .null, .null, .null, .null, .null, .null, .null, .null, .null, .null, .null, .null, .null]))) H := hG
  generalize hV6 : g_set V5 (0, 0, 0) (.inr (9, [.int 0, .int 0, .ref b1, .ref b4, .int 0, .null, .null, .null, .null, .null, .int 0, .null, .null, .null, .null, .null, .null, .null, .null, .null, .null, .null, .null, .null, .null, .null, .null, .null])) = V6 at hG
  have hv_1_2_0 : V6 (1, 2, 0) = .inl (cy 0, 100, .inl (fun _ => 0)) := by rw [← hV6, g_set_ne (by decide)]; exact hv_1_2_0
  have hv_1_3_0 : V6 (1, 3, 0) = .inl (cy 0, 500, .inl (fun _ => 0)) := by rw [← hV6, g_set_ne (by decide)]; exact hv_1_3_0
  have hv_0_0_0 : V6 (0, 0, 0) = .inr (9, [.int 0, .int 0, .ref b1, .ref b4, .int 0, .null, .null, .null, .null, .null, .int 0, .null, .null, .null, .null, .null, .null, .null, .null, .null, .null, .null, .null, .null, .null, .null, .null, .null]) := by rw [← hV6, g_set_self]
  have hVo : ∀ y, y ≠ (0, 0, 0) ∧ y ≠ (1, 2, 0) ∧ y ≠ (1, 3, 0) ∧ y ≠ (1, 5, 0) ∧ y ≠ (1, 6, 0) ∧ y ≠ (1, 7, 0) ∧ y ≠ (1, 8, 0) ∧ y ≠ (2, 9, 0) ∧ y ≠ (1, 11, 0) ∧ y ≠ (1, 12, 0) ∧ y ≠ (2, 13, 0) ∧ y ≠ (1, 14, 0) ∧ y ≠ (1, 15, 0) ∧ y ≠ (1, 16, 0) ∧ y ≠ (1, 17, 0) ∧ y ≠ (1, 18, 0) ∧ y ≠ (1, 19, 0) ∧ y ≠ (1, 20, 0) ∧ y ≠ (1, 21, 0) ∧ y ≠ (1, 22, 0) ∧ y ≠ (1, 23, 0) ∧ y ≠ (1, 24, 0) ∧ y ≠ (1, 25, 0) ∧ y ≠ (1, 26, 0) ∧ y ≠ (1, 27, 0) → V6 y = V y := fun y hy => by rw [← hV6, g_set_ne (fun q => hy.1 q)]; first | done | exact hVo y hy
  refine lv_aload_n hx hb dX7_init_21 rfl (lv_at hl 0 rfl) ?_
  refine lv_bipush (v := 40) hx hb dX7_init_22 (by decide) ?_
  refine h_newa (harr := hts _ ac_int) (atype := .int) (ty := .int) (a0 := (40, .inl (fun _ => 0))) hx hb rfl (fun C h => by cases h) hK 0 rfl hG hS (1, 5, 0) hf_1_5_0 rfl (by decide) rfl (by decide) (Nat.le_of_ble_eq_true rfl) (Nat.le_of_ble_eq_true rfl) dX7_init_24 (fun L7 b7 H hL9 e_1_5_0 ha7 hG hS hz9 o9 => ?_)
  have hs_1_2_0 : s.heap.size ≤ L7 (1, 2, 0) := by rw [hL9 _ hd_1_2_0]; exact hs_1_2_0
  have hs_1_3_0 : s.heap.size ≤ L7 (1, 3, 0) := by rw [hL9 _ hd_1_3_0]; exact hs_1_3_0
  have hs_1_5_0 : s.heap.size ≤ L7 (1, 5, 0) := by rw [e_1_5_0]; exact ha7
  have e_0_0_0 := (hL9 _ hd_0_0_0).trans e_0_0_0
  have e_1_2_0 := (hL9 _ hd_1_2_0).trans e_1_2_0
  have e_1_3_0 := (hL9 _ hd_1_3_0).trans e_1_3_0
  have hLL := fun y (hy : dom y) => (hL9 y (hdd y hy)).trans (hLL y hy)
  have hdd := fun y (hy : dom y) => hG.inO (hdd y hy)
  have hd_0_0_0 := hG.inO hd_0_0_0
  have hd_1_2_0 := hG.inO hd_1_2_0
  have hd_1_3_0 := hG.inO hd_1_3_0
  have hd_1_5_0 := hG.inX
  have hf_1_6_0 := hG.notin hf_1_6_0 (by decide)
  have hf_1_7_0 := hG.notin hf_1_7_0 (by decide)
  have hf_1_8_0 := hG.notin hf_1_8_0 (by decide)
  have hf_2_9_0 := hG.notin hf_2_9_0 (by decide)
  have hf_1_11_0 := hG.notin hf_1_11_0 (by decide)
  have hf_1_12_0 := hG.notin hf_1_12_0 (by decide)
  have hf_2_13_0 := hG.notin hf_2_13_0 (by decide)
  have hf_1_14_0 := hG.notin hf_1_14_0 (by decide)
  have hf_1_15_0 := hG.notin hf_1_15_0 (by decide)
  have hf_1_16_0 := hG.notin hf_1_16_0 (by decide)
  have hf_1_17_0 := hG.notin hf_1_17_0 (by decide)
  have hf_1_18_0 := hG.notin hf_1_18_0 (by decide)
  have hf_1_19_0 := hG.notin hf_1_19_0 (by decide)
  have hf_1_20_0 := hG.notin hf_1_20_0 (by decide)
  have hf_1_21_0 := hG.notin hf_1_21_0 (by decide)
  have hf_1_22_0 := hG.notin hf_1_22_0 (by decide)
  have hf_1_23_0 := hG.notin hf_1_23_0 (by decide)
  have hf_1_24_0 := hG.notin hf_1_24_0 (by decide)
  have hf_1_25_0 := hG.notin hf_1_25_0 (by decide)
  have hf_1_26_0 := hG.notin hf_1_26_0 (by decide)
  have hf_1_27_0 := hG.notin hf_1_27_0 (by decide)
  generalize hV8 : g_set V6 (1, 5, 0) (.inl (cy 0, 40, .inl (fun _ => 0))) = V8 at hG
  have hv_0_0_0 : V8 (0, 0, 0) = .inr (9, [.int 0, .int 0, .ref b1, .ref b4, .int 0, .null, .null, .null, .null, .null, .int 0, .null, .null, .null, .null, .null, .null, .null, .null, .null, .null, .null, .null, .null, .null, .null, .null, .null]) := by rw [← hV8, g_set_ne (by decide)]; exact hv_0_0_0
  have hv_1_2_0 : V8 (1, 2, 0) = .inl (cy 0, 100, .inl (fun _ => 0)) := by rw [← hV8, g_set_ne (by decide)]; exact hv_1_2_0
  have hv_1_3_0 : V8 (1, 3, 0) = .inl (cy 0, 500, .inl (fun _ => 0)) := by rw [← hV8, g_set_ne (by decide)]; exact hv_1_3_0
  have hv_1_5_0 : V8 (1, 5, 0) = .inl (cy 0, 40, .inl (fun _ => 0)) := by rw [← hV8, g_set_self]
  have hVo : ∀ y, y ≠ (0, 0, 0) ∧ y ≠ (1, 2, 0) ∧ y ≠ (1, 3, 0) ∧ y ≠ (1, 5, 0) ∧ y ≠ (1, 6, 0) ∧ y ≠ (1, 7, 0) ∧ y ≠ (1, 8, 0) ∧ y ≠ (2, 9, 0) ∧ y ≠ (1, 11, 0) ∧ y ≠ (1, 12, 0) ∧ y ≠ (2, 13, 0) ∧ y ≠ (1, 14, 0) ∧ y ≠ (1, 15, 0) ∧ y ≠ (1, 16, 0) ∧ y ≠ (1, 17, 0) ∧ y ≠ (1, 18, 0) ∧ y ≠ (1, 19, 0) ∧ y ≠ (1, 20, 0) ∧ y ≠ (1, 21, 0) ∧ y ≠ (1, 22, 0) ∧ y ≠ (1, 23, 0) ∧ y ≠ (1, 24, 0) ∧ y ≠ (1, 25, 0) ∧ y ≠ (1, 26, 0) ∧ y ≠ (1, 27, 0) → V8 y = V y := fun y hy => by rw [← hV8, g_set_ne (fun q => hy.2.2.2.1 q)]; first | done | exact hVo y hy
  refine h_putF (C := RX7) (T := TX7) (N := 28) (ci := 9) (ty := (tyX7 5)) hx hb hts inX7g tyX7_ok nmX7 hown hK hG hS (0, 0, 0) hd_0_0_0 e_0_0_0 hAa hv_0_0_0 rfl 5 (by decide) fl_X7_16 rfl hin2 rfl (by decide +kernel) rfl rfl (Nat.le_of_ble_eq_true rfl) dX7_init_26 (fun H locs hG hS => ?_)
  have hG : g_H D vwCl _ L7 (g_set V8 (0, 0, 0) (.inr (9, [.int 0, .int 0, .ref b1, .ref b4, .int 0, .ref b7, .null, .null, .null, .null, .int 0, .null, .null, .null, .null, .null, .null, .null, .null, .null, .null, .null, .null, .null, .null, .null, .null, .null]))) H := hG
  generalize hV9 : g_set V8 (0, 0, 0) (.inr (9, [.int 0, .int 0, .ref b1, .ref b4, .int 0, .ref b7, .null, .null, .null, .null, .int 0, .null, .null, .null, .null, .null, .null, .null, .null, .null, .null, .null, .null, .null, .null, .null, .null, .null])) = V9 at hG
  have hv_1_2_0 : V9 (1, 2, 0) = .inl (cy 0, 100, .inl (fun _ => 0)) := by rw [← hV9, g_set_ne (by decide)]; exact hv_1_2_0
  have hv_1_3_0 : V9 (1, 3, 0) = .inl (cy 0, 500, .inl (fun _ => 0)) := by rw [← hV9, g_set_ne (by decide)]; exact hv_1_3_0
  have hv_1_5_0 : V9 (1, 5, 0) = .inl (cy 0, 40, .inl (fun _ => 0)) := by rw [← hV9, g_set_ne (by decide)]; exact hv_1_5_0
  have hv_0_0_0 : V9 (0, 0, 0) = .inr (9, [.int 0, .int 0, .ref b1, .ref b4, .int 0, .ref b7, .null, .null, .null, .null, .int 0, .null, .null, .null, .null, .null, .null, .null, .null, .null, .null, .null, .null, .null, .null, .null, .null, .null]) := by rw [← hV9, g_set_self]
  have hVo : ∀ y, y ≠ (0, 0, 0) ∧ y ≠ (1, 2, 0) ∧ y ≠ (1, 3, 0) ∧ y ≠ (1, 5, 0) ∧ y ≠ (1, 6, 0) ∧ y ≠ (1, 7, 0) ∧ y ≠ (1, 8, 0) ∧ y ≠ (2, 9, 0) ∧ y ≠ (1, 11, 0) ∧ y ≠ (1, 12, 0) ∧ y ≠ (2, 13, 0) ∧ y ≠ (1, 14, 0) ∧ y ≠ (1, 15, 0) ∧ y ≠ (1, 16, 0) ∧ y ≠ (1, 17, 0) ∧ y ≠ (1, 18, 0) ∧ y ≠ (1, 19, 0) ∧ y ≠ (1, 20, 0) ∧ y ≠ (1, 21, 0) ∧ y ≠ (1, 22, 0) ∧ y ≠ (1, 23, 0) ∧ y ≠ (1, 24, 0) ∧ y ≠ (1, 25, 0) ∧ y ≠ (1, 26, 0) ∧ y ≠ (1, 27, 0) → V9 y = V y := fun y hy => by rw [← hV9, g_set_ne (fun q => hy.1 q)]; first | done | exact hVo y hy
  refine lv_aload_n hx hb dX7_init_29 rfl (lv_at hl 0 rfl) ?_
  refine lv_bipush (v := 40) hx hb dX7_init_30 (by decide) ?_
  refine h_newa (harr := hts _ ac_int) (atype := .int) (ty := .int) (a0 := (40, .inl (fun _ => 0))) hx hb rfl (fun C h => by cases h) hK 0 rfl hG hS (1, 6, 0) hf_1_6_0 rfl (by decide) rfl (by decide) (Nat.le_of_ble_eq_true rfl) (Nat.le_of_ble_eq_true rfl) dX7_init_32 (fun L10 b10 H hL9 e_1_6_0 ha10 hG hS hz9 o9 => ?_)
  have hs_1_2_0 : s.heap.size ≤ L10 (1, 2, 0) := by rw [hL9 _ hd_1_2_0]; exact hs_1_2_0
  have hs_1_3_0 : s.heap.size ≤ L10 (1, 3, 0) := by rw [hL9 _ hd_1_3_0]; exact hs_1_3_0
  have hs_1_5_0 : s.heap.size ≤ L10 (1, 5, 0) := by rw [hL9 _ hd_1_5_0]; exact hs_1_5_0
  have hs_1_6_0 : s.heap.size ≤ L10 (1, 6, 0) := by rw [e_1_6_0]; exact ha10
  have e_0_0_0 := (hL9 _ hd_0_0_0).trans e_0_0_0
  have e_1_2_0 := (hL9 _ hd_1_2_0).trans e_1_2_0
  have e_1_3_0 := (hL9 _ hd_1_3_0).trans e_1_3_0
  have e_1_5_0 := (hL9 _ hd_1_5_0).trans e_1_5_0
  have hLL := fun y (hy : dom y) => (hL9 y (hdd y hy)).trans (hLL y hy)
  have hdd := fun y (hy : dom y) => hG.inO (hdd y hy)
  have hd_0_0_0 := hG.inO hd_0_0_0
  have hd_1_2_0 := hG.inO hd_1_2_0
  have hd_1_3_0 := hG.inO hd_1_3_0
  have hd_1_5_0 := hG.inO hd_1_5_0
  have hd_1_6_0 := hG.inX
  have hf_1_7_0 := hG.notin hf_1_7_0 (by decide)
  have hf_1_8_0 := hG.notin hf_1_8_0 (by decide)
  have hf_2_9_0 := hG.notin hf_2_9_0 (by decide)
  have hf_1_11_0 := hG.notin hf_1_11_0 (by decide)
  have hf_1_12_0 := hG.notin hf_1_12_0 (by decide)
  have hf_2_13_0 := hG.notin hf_2_13_0 (by decide)
  have hf_1_14_0 := hG.notin hf_1_14_0 (by decide)
  have hf_1_15_0 := hG.notin hf_1_15_0 (by decide)
  have hf_1_16_0 := hG.notin hf_1_16_0 (by decide)
  have hf_1_17_0 := hG.notin hf_1_17_0 (by decide)
  have hf_1_18_0 := hG.notin hf_1_18_0 (by decide)
  have hf_1_19_0 := hG.notin hf_1_19_0 (by decide)
  have hf_1_20_0 := hG.notin hf_1_20_0 (by decide)
  have hf_1_21_0 := hG.notin hf_1_21_0 (by decide)
  have hf_1_22_0 := hG.notin hf_1_22_0 (by decide)
  have hf_1_23_0 := hG.notin hf_1_23_0 (by decide)
  have hf_1_24_0 := hG.notin hf_1_24_0 (by decide)
  have hf_1_25_0 := hG.notin hf_1_25_0 (by decide)
  have hf_1_26_0 := hG.notin hf_1_26_0 (by decide)
  have hf_1_27_0 := hG.notin hf_1_27_0 (by decide)
  generalize hV11 : g_set V9 (1, 6, 0) (.inl (cy 0, 40, .inl (fun _ => 0))) = V11 at hG
  have hv_0_0_0 : V11 (0, 0, 0) = .inr (9, [.int 0, .int 0, .ref b1, .ref b4, .int 0, .ref b7, .null, .null, .null, .null, .int 0, .null, .null, .null, .null, .null, .null, .null, .null, .null, .null, .null, .null, .null, .null, .null, .null, .null]) := by rw [← hV11, g_set_ne (by decide)]; exact hv_0_0_0
  have hv_1_2_0 : V11 (1, 2, 0) = .inl (cy 0, 100, .inl (fun _ => 0)) := by rw [← hV11, g_set_ne (by decide)]; exact hv_1_2_0
  have hv_1_3_0 : V11 (1, 3, 0) = .inl (cy 0, 500, .inl (fun _ => 0)) := by rw [← hV11, g_set_ne (by decide)]; exact hv_1_3_0
  have hv_1_5_0 : V11 (1, 5, 0) = .inl (cy 0, 40, .inl (fun _ => 0)) := by rw [← hV11, g_set_ne (by decide)]; exact hv_1_5_0
  have hv_1_6_0 : V11 (1, 6, 0) = .inl (cy 0, 40, .inl (fun _ => 0)) := by rw [← hV11, g_set_self]
  have hVo : ∀ y, y ≠ (0, 0, 0) ∧ y ≠ (1, 2, 0) ∧ y ≠ (1, 3, 0) ∧ y ≠ (1, 5, 0) ∧ y ≠ (1, 6, 0) ∧ y ≠ (1, 7, 0) ∧ y ≠ (1, 8, 0) ∧ y ≠ (2, 9, 0) ∧ y ≠ (1, 11, 0) ∧ y ≠ (1, 12, 0) ∧ y ≠ (2, 13, 0) ∧ y ≠ (1, 14, 0) ∧ y ≠ (1, 15, 0) ∧ y ≠ (1, 16, 0) ∧ y ≠ (1, 17, 0) ∧ y ≠ (1, 18, 0) ∧ y ≠ (1, 19, 0) ∧ y ≠ (1, 20, 0) ∧ y ≠ (1, 21, 0) ∧ y ≠ (1, 22, 0) ∧ y ≠ (1, 23, 0) ∧ y ≠ (1, 24, 0) ∧ y ≠ (1, 25, 0) ∧ y ≠ (1, 26, 0) ∧ y ≠ (1, 27, 0) → V11 y = V y := fun y hy => by rw [← hV11, g_set_ne (fun q => hy.2.2.2.2.1 q)]; first | done | exact hVo y hy
  refine h_putF (C := RX7) (T := TX7) (N := 28) (ci := 9) (ty := (tyX7 6)) hx hb hts inX7g tyX7_ok nmX7 hown hK hG hS (0, 0, 0) hd_0_0_0 e_0_0_0 hAa hv_0_0_0 rfl 6 (by decide) fl_X7_19 rfl hin2 rfl (by decide +kernel) rfl rfl (Nat.le_of_ble_eq_true rfl) dX7_init_34 (fun H locs hG hS => ?_)
  have hG : g_H D vwCl _ L10 (g_set V11 (0, 0, 0) (.inr (9, [.int 0, .int 0, .ref b1, .ref b4, .int 0, .ref b7, .ref b10, .null, .null, .null, .int 0, .null, .null, .null, .null, .null, .null, .null, .null, .null, .null, .null, .null, .null, .null, .null, .null, .null]))) H := hG
  generalize hV12 : g_set V11 (0, 0, 0) (.inr (9, [.int 0, .int 0, .ref b1, .ref b4, .int 0, .ref b7, .ref b10, .null, .null, .null, .int 0, .null, .null, .null, .null, .null, .null, .null, .null, .null, .null, .null, .null, .null, .null, .null, .null, .null])) = V12 at hG
  have hv_1_2_0 : V12 (1, 2, 0) = .inl (cy 0, 100, .inl (fun _ => 0)) := by rw [← hV12, g_set_ne (by decide)]; exact hv_1_2_0
  have hv_1_3_0 : V12 (1, 3, 0) = .inl (cy 0, 500, .inl (fun _ => 0)) := by rw [← hV12, g_set_ne (by decide)]; exact hv_1_3_0
  have hv_1_5_0 : V12 (1, 5, 0) = .inl (cy 0, 40, .inl (fun _ => 0)) := by rw [← hV12, g_set_ne (by decide)]; exact hv_1_5_0
  have hv_1_6_0 : V12 (1, 6, 0) = .inl (cy 0, 40, .inl (fun _ => 0)) := by rw [← hV12, g_set_ne (by decide)]; exact hv_1_6_0
  have hv_0_0_0 : V12 (0, 0, 0) = .inr (9, [.int 0, .int 0, .ref b1, .ref b4, .int 0, .ref b7, .ref b10, .null, .null, .null, .int 0, .null, .null, .null, .null, .null, .null, .null, .null, .null, .null, .null, .null, .null, .null, .null, .null, .null]) := by rw [← hV12, g_set_self]
  have hVo : ∀ y, y ≠ (0, 0, 0) ∧ y ≠ (1, 2, 0) ∧ y ≠ (1, 3, 0) ∧ y ≠ (1, 5, 0) ∧ y ≠ (1, 6, 0) ∧ y ≠ (1, 7, 0) ∧ y ≠ (1, 8, 0) ∧ y ≠ (2, 9, 0) ∧ y ≠ (1, 11, 0) ∧ y ≠ (1, 12, 0) ∧ y ≠ (2, 13, 0) ∧ y ≠ (1, 14, 0) ∧ y ≠ (1, 15, 0) ∧ y ≠ (1, 16, 0) ∧ y ≠ (1, 17, 0) ∧ y ≠ (1, 18, 0) ∧ y ≠ (1, 19, 0) ∧ y ≠ (1, 20, 0) ∧ y ≠ (1, 21, 0) ∧ y ≠ (1, 22, 0) ∧ y ≠ (1, 23, 0) ∧ y ≠ (1, 24, 0) ∧ y ≠ (1, 25, 0) ∧ y ≠ (1, 26, 0) ∧ y ≠ (1, 27, 0) → V12 y = V y := fun y hy => by rw [← hV12, g_set_ne (fun q => hy.1 q)]; first | done | exact hVo y hy
  refine lv_aload_n hx hb dX7_init_37 rfl (lv_at hl 0 rfl) ?_
  refine lv_bipush (v := 40) hx hb dX7_init_38 (by decide) ?_
  refine h_newa (harr := hts _ ac_int) (atype := .int) (ty := .int) (a0 := (40, .inl (fun _ => 0))) hx hb rfl (fun C h => by cases h) hK 0 rfl hG hS (1, 7, 0) hf_1_7_0 rfl (by decide) rfl (by decide) (Nat.le_of_ble_eq_true rfl) (Nat.le_of_ble_eq_true rfl) dX7_init_40 (fun L13 b13 H hL9 e_1_7_0 ha13 hG hS hz9 o9 => ?_)
  have hs_1_2_0 : s.heap.size ≤ L13 (1, 2, 0) := by rw [hL9 _ hd_1_2_0]; exact hs_1_2_0
  have hs_1_3_0 : s.heap.size ≤ L13 (1, 3, 0) := by rw [hL9 _ hd_1_3_0]; exact hs_1_3_0
  have hs_1_5_0 : s.heap.size ≤ L13 (1, 5, 0) := by rw [hL9 _ hd_1_5_0]; exact hs_1_5_0
  have hs_1_6_0 : s.heap.size ≤ L13 (1, 6, 0) := by rw [hL9 _ hd_1_6_0]; exact hs_1_6_0
  have hs_1_7_0 : s.heap.size ≤ L13 (1, 7, 0) := by rw [e_1_7_0]; exact ha13
  have e_0_0_0 := (hL9 _ hd_0_0_0).trans e_0_0_0
  have e_1_2_0 := (hL9 _ hd_1_2_0).trans e_1_2_0
  have e_1_3_0 := (hL9 _ hd_1_3_0).trans e_1_3_0
  have e_1_5_0 := (hL9 _ hd_1_5_0).trans e_1_5_0
  have e_1_6_0 := (hL9 _ hd_1_6_0).trans e_1_6_0
  have hLL := fun y (hy : dom y) => (hL9 y (hdd y hy)).trans (hLL y hy)
  have hdd := fun y (hy : dom y) => hG.inO (hdd y hy)
  have hd_0_0_0 := hG.inO hd_0_0_0
  have hd_1_2_0 := hG.inO hd_1_2_0
  have hd_1_3_0 := hG.inO hd_1_3_0
  have hd_1_5_0 := hG.inO hd_1_5_0
  have hd_1_6_0 := hG.inO hd_1_6_0
  have hd_1_7_0 := hG.inX
  have hf_1_8_0 := hG.notin hf_1_8_0 (by decide)
  have hf_2_9_0 := hG.notin hf_2_9_0 (by decide)
  have hf_1_11_0 := hG.notin hf_1_11_0 (by decide)
  have hf_1_12_0 := hG.notin hf_1_12_0 (by decide)
  have hf_2_13_0 := hG.notin hf_2_13_0 (by decide)
  have hf_1_14_0 := hG.notin hf_1_14_0 (by decide)
  have hf_1_15_0 := hG.notin hf_1_15_0 (by decide)
  have hf_1_16_0 := hG.notin hf_1_16_0 (by decide)
  have hf_1_17_0 := hG.notin hf_1_17_0 (by decide)
  have hf_1_18_0 := hG.notin hf_1_18_0 (by decide)
  have hf_1_19_0 := hG.notin hf_1_19_0 (by decide)
  have hf_1_20_0 := hG.notin hf_1_20_0 (by decide)
  have hf_1_21_0 := hG.notin hf_1_21_0 (by decide)
  have hf_1_22_0 := hG.notin hf_1_22_0 (by decide)
  have hf_1_23_0 := hG.notin hf_1_23_0 (by decide)
  have hf_1_24_0 := hG.notin hf_1_24_0 (by decide)
  have hf_1_25_0 := hG.notin hf_1_25_0 (by decide)
  have hf_1_26_0 := hG.notin hf_1_26_0 (by decide)
  have hf_1_27_0 := hG.notin hf_1_27_0 (by decide)
  generalize hV14 : g_set V12 (1, 7, 0) (.inl (cy 0, 40, .inl (fun _ => 0))) = V14 at hG
  have hv_0_0_0 : V14 (0, 0, 0) = .inr (9, [.int 0, .int 0, .ref b1, .ref b4, .int 0, .ref b7, .ref b10, .null, .null, .null, .int 0, .null, .null, .null, .null, .null, .null, .null, .null, .null, .null, .null, .null, .null, .null, .null, .null, .null]) := by rw [← hV14, g_set_ne (by decide)]; exact hv_0_0_0
  have hv_1_2_0 : V14 (1, 2, 0) = .inl (cy 0, 100, .inl (fun _ => 0)) := by rw [← hV14, g_set_ne (by decide)]; exact hv_1_2_0
  have hv_1_3_0 : V14 (1, 3, 0) = .inl (cy 0, 500, .inl (fun _ => 0)) := by rw [← hV14, g_set_ne (by decide)]; exact hv_1_3_0
  have hv_1_5_0 : V14 (1, 5, 0) = .inl (cy 0, 40, .inl (fun _ => 0)) := by rw [← hV14, g_set_ne (by decide)]; exact hv_1_5_0
  have hv_1_6_0 : V14 (1, 6, 0) = .inl (cy 0, 40, .inl (fun _ => 0)) := by rw [← hV14, g_set_ne (by decide)]; exact hv_1_6_0
  have hv_1_7_0 : V14 (1, 7, 0) = .inl (cy 0, 40, .inl (fun _ => 0)) := by rw [← hV14, g_set_self]
  have hVo : ∀ y, y ≠ (0, 0, 0) ∧ y ≠ (1, 2, 0) ∧ y ≠ (1, 3, 0) ∧ y ≠ (1, 5, 0) ∧ y ≠ (1, 6, 0) ∧ y ≠ (1, 7, 0) ∧ y ≠ (1, 8, 0) ∧ y ≠ (2, 9, 0) ∧ y ≠ (1, 11, 0) ∧ y ≠ (1, 12, 0) ∧ y ≠ (2, 13, 0) ∧ y ≠ (1, 14, 0) ∧ y ≠ (1, 15, 0) ∧ y ≠ (1, 16, 0) ∧ y ≠ (1, 17, 0) ∧ y ≠ (1, 18, 0) ∧ y ≠ (1, 19, 0) ∧ y ≠ (1, 20, 0) ∧ y ≠ (1, 21, 0) ∧ y ≠ (1, 22, 0) ∧ y ≠ (1, 23, 0) ∧ y ≠ (1, 24, 0) ∧ y ≠ (1, 25, 0) ∧ y ≠ (1, 26, 0) ∧ y ≠ (1, 27, 0) → V14 y = V y := fun y hy => by rw [← hV14, g_set_ne (fun q => hy.2.2.2.2.2.1 q)]; first | done | exact hVo y hy
  refine h_putF (C := RX7) (T := TX7) (N := 28) (ci := 9) (ty := (tyX7 7)) hx hb hts inX7g tyX7_ok nmX7 hown hK hG hS (0, 0, 0) hd_0_0_0 e_0_0_0 hAa hv_0_0_0 rfl 7 (by decide) fl_X7_22 rfl hin2 rfl (by decide +kernel) rfl rfl (Nat.le_of_ble_eq_true rfl) dX7_init_42 (fun H locs hG hS => ?_)
  have hG : g_H D vwCl _ L13 (g_set V14 (0, 0, 0) (.inr (9, [.int 0, .int 0, .ref b1, .ref b4, .int 0, .ref b7, .ref b10, .ref b13, .null, .null, .int 0, .null, .null, .null, .null, .null, .null, .null, .null, .null, .null, .null, .null, .null, .null, .null, .null, .null]))) H := hG
  generalize hV15 : g_set V14 (0, 0, 0) (.inr (9, [.int 0, .int 0, .ref b1, .ref b4, .int 0, .ref b7, .ref b10, .ref b13, .null, .null, .int 0, .null, .null, .null, .null, .null, .null, .null, .null, .null, .null, .null, .null, .null, .null, .null, .null, .null])) = V15 at hG
  have hv_1_2_0 : V15 (1, 2, 0) = .inl (cy 0, 100, .inl (fun _ => 0)) := by rw [← hV15, g_set_ne (by decide)]; exact hv_1_2_0
  have hv_1_3_0 : V15 (1, 3, 0) = .inl (cy 0, 500, .inl (fun _ => 0)) := by rw [← hV15, g_set_ne (by decide)]; exact hv_1_3_0
  have hv_1_5_0 : V15 (1, 5, 0) = .inl (cy 0, 40, .inl (fun _ => 0)) := by rw [← hV15, g_set_ne (by decide)]; exact hv_1_5_0
  have hv_1_6_0 : V15 (1, 6, 0) = .inl (cy 0, 40, .inl (fun _ => 0)) := by rw [← hV15, g_set_ne (by decide)]; exact hv_1_6_0
  have hv_1_7_0 : V15 (1, 7, 0) = .inl (cy 0, 40, .inl (fun _ => 0)) := by rw [← hV15, g_set_ne (by decide)]; exact hv_1_7_0
  have hv_0_0_0 : V15 (0, 0, 0) = .inr (9, [.int 0, .int 0, .ref b1, .ref b4, .int 0, .ref b7, .ref b10, .ref b13, .null, .null, .int 0, .null, .null, .null, .null, .null, .null, .null, .null, .null, .null, .null, .null, .null, .null, .null, .null, .null]) := by rw [← hV15, g_set_self]
  have hVo : ∀ y, y ≠ (0, 0, 0) ∧ y ≠ (1, 2, 0) ∧ y ≠ (1, 3, 0) ∧ y ≠ (1, 5, 0) ∧ y ≠ (1, 6, 0) ∧ y ≠ (1, 7, 0) ∧ y ≠ (1, 8, 0) ∧ y ≠ (2, 9, 0) ∧ y ≠ (1, 11, 0) ∧ y ≠ (1, 12, 0) ∧ y ≠ (2, 13, 0) ∧ y ≠ (1, 14, 0) ∧ y ≠ (1, 15, 0) ∧ y ≠ (1, 16, 0) ∧ y ≠ (1, 17, 0) ∧ y ≠ (1, 18, 0) ∧ y ≠ (1, 19, 0) ∧ y ≠ (1, 20, 0) ∧ y ≠ (1, 21, 0) ∧ y ≠ (1, 22, 0) ∧ y ≠ (1, 23, 0) ∧ y ≠ (1, 24, 0) ∧ y ≠ (1, 25, 0) ∧ y ≠ (1, 26, 0) ∧ y ≠ (1, 27, 0) → V15 y = V y := fun y hy => by rw [← hV15, g_set_ne (fun q => hy.1 q)]; first | done | exact hVo y hy
  refine lv_aload_n hx hb dX7_init_45 rfl (lv_at hl 0 rfl) ?_
  refine lv_bipush (v := 40) hx hb dX7_init_46 (by decide) ?_
  refine h_newa (harr := hts _ ac_int) (atype := .int) (ty := .int) (a0 := (40, .inl (fun _ => 0))) hx hb rfl (fun C h => by cases h) hK 0 rfl hG hS (1, 8, 0) hf_1_8_0 rfl (by decide) rfl (by decide) (Nat.le_of_ble_eq_true rfl) (Nat.le_of_ble_eq_true rfl) dX7_init_48 (fun L16 b16 H hL9 e_1_8_0 ha16 hG hS hz9 o9 => ?_)
  have hs_1_2_0 : s.heap.size ≤ L16 (1, 2, 0) := by rw [hL9 _ hd_1_2_0]; exact hs_1_2_0
  have hs_1_3_0 : s.heap.size ≤ L16 (1, 3, 0) := by rw [hL9 _ hd_1_3_0]; exact hs_1_3_0
  have hs_1_5_0 : s.heap.size ≤ L16 (1, 5, 0) := by rw [hL9 _ hd_1_5_0]; exact hs_1_5_0
  have hs_1_6_0 : s.heap.size ≤ L16 (1, 6, 0) := by rw [hL9 _ hd_1_6_0]; exact hs_1_6_0
  have hs_1_7_0 : s.heap.size ≤ L16 (1, 7, 0) := by rw [hL9 _ hd_1_7_0]; exact hs_1_7_0
  have hs_1_8_0 : s.heap.size ≤ L16 (1, 8, 0) := by rw [e_1_8_0]; exact ha16
  have e_0_0_0 := (hL9 _ hd_0_0_0).trans e_0_0_0
  have e_1_2_0 := (hL9 _ hd_1_2_0).trans e_1_2_0
  have e_1_3_0 := (hL9 _ hd_1_3_0).trans e_1_3_0
  have e_1_5_0 := (hL9 _ hd_1_5_0).trans e_1_5_0
  have e_1_6_0 := (hL9 _ hd_1_6_0).trans e_1_6_0
  have e_1_7_0 := (hL9 _ hd_1_7_0).trans e_1_7_0
  have hLL := fun y (hy : dom y) => (hL9 y (hdd y hy)).trans (hLL y hy)
  have hdd := fun y (hy : dom y) => hG.inO (hdd y hy)
  have hd_0_0_0 := hG.inO hd_0_0_0
  have hd_1_2_0 := hG.inO hd_1_2_0
  have hd_1_3_0 := hG.inO hd_1_3_0
  have hd_1_5_0 := hG.inO hd_1_5_0
  have hd_1_6_0 := hG.inO hd_1_6_0
  have hd_1_7_0 := hG.inO hd_1_7_0
  have hd_1_8_0 := hG.inX
  have hf_2_9_0 := hG.notin hf_2_9_0 (by decide)
  have hf_1_11_0 := hG.notin hf_1_11_0 (by decide)
  have hf_1_12_0 := hG.notin hf_1_12_0 (by decide)
  have hf_2_13_0 := hG.notin hf_2_13_0 (by decide)
  have hf_1_14_0 := hG.notin hf_1_14_0 (by decide)
  have hf_1_15_0 := hG.notin hf_1_15_0 (by decide)
  have hf_1_16_0 := hG.notin hf_1_16_0 (by decide)
  have hf_1_17_0 := hG.notin hf_1_17_0 (by decide)
  have hf_1_18_0 := hG.notin hf_1_18_0 (by decide)
  have hf_1_19_0 := hG.notin hf_1_19_0 (by decide)
  have hf_1_20_0 := hG.notin hf_1_20_0 (by decide)
  have hf_1_21_0 := hG.notin hf_1_21_0 (by decide)
  have hf_1_22_0 := hG.notin hf_1_22_0 (by decide)
  have hf_1_23_0 := hG.notin hf_1_23_0 (by decide)
  have hf_1_24_0 := hG.notin hf_1_24_0 (by decide)
  have hf_1_25_0 := hG.notin hf_1_25_0 (by decide)
  have hf_1_26_0 := hG.notin hf_1_26_0 (by decide)
  have hf_1_27_0 := hG.notin hf_1_27_0 (by decide)
  generalize hV17 : g_set V15 (1, 8, 0) (.inl (cy 0, 40, .inl (fun _ => 0))) = V17 at hG
  have hv_0_0_0 : V17 (0, 0, 0) = .inr (9, [.int 0, .int 0, .ref b1, .ref b4, .int 0, .ref b7, .ref b10, .ref b13, .null, .null, .int 0, .null, .null, .null, .null, .null, .null, .null, .null, .null, .null, .null, .null, .null, .null, .null, .null, .null]) := by rw [← hV17, g_set_ne (by decide)]; exact hv_0_0_0
  have hv_1_2_0 : V17 (1, 2, 0) = .inl (cy 0, 100, .inl (fun _ => 0)) := by rw [← hV17, g_set_ne (by decide)]; exact hv_1_2_0
  have hv_1_3_0 : V17 (1, 3, 0) = .inl (cy 0, 500, .inl (fun _ => 0)) := by rw [← hV17, g_set_ne (by decide)]; exact hv_1_3_0
  have hv_1_5_0 : V17 (1, 5, 0) = .inl (cy 0, 40, .inl (fun _ => 0)) := by rw [← hV17, g_set_ne (by decide)]; exact hv_1_5_0
  have hv_1_6_0 : V17 (1, 6, 0) = .inl (cy 0, 40, .inl (fun _ => 0)) := by rw [← hV17, g_set_ne (by decide)]; exact hv_1_6_0
  have hv_1_7_0 : V17 (1, 7, 0) = .inl (cy 0, 40, .inl (fun _ => 0)) := by rw [← hV17, g_set_ne (by decide)]; exact hv_1_7_0
  have hv_1_8_0 : V17 (1, 8, 0) = .inl (cy 0, 40, .inl (fun _ => 0)) := by rw [← hV17, g_set_self]
  have hVo : ∀ y, y ≠ (0, 0, 0) ∧ y ≠ (1, 2, 0) ∧ y ≠ (1, 3, 0) ∧ y ≠ (1, 5, 0) ∧ y ≠ (1, 6, 0) ∧ y ≠ (1, 7, 0) ∧ y ≠ (1, 8, 0) ∧ y ≠ (2, 9, 0) ∧ y ≠ (1, 11, 0) ∧ y ≠ (1, 12, 0) ∧ y ≠ (2, 13, 0) ∧ y ≠ (1, 14, 0) ∧ y ≠ (1, 15, 0) ∧ y ≠ (1, 16, 0) ∧ y ≠ (1, 17, 0) ∧ y ≠ (1, 18, 0) ∧ y ≠ (1, 19, 0) ∧ y ≠ (1, 20, 0) ∧ y ≠ (1, 21, 0) ∧ y ≠ (1, 22, 0) ∧ y ≠ (1, 23, 0) ∧ y ≠ (1, 24, 0) ∧ y ≠ (1, 25, 0) ∧ y ≠ (1, 26, 0) ∧ y ≠ (1, 27, 0) → V17 y = V y := fun y hy => by rw [← hV17, g_set_ne (fun q => hy.2.2.2.2.2.2.1 q)]; first | done | exact hVo y hy
  refine h_putF (C := RX7) (T := TX7) (N := 28) (ci := 9) (ty := (tyX7 8)) hx hb hts inX7g tyX7_ok nmX7 hown hK hG hS (0, 0, 0) hd_0_0_0 e_0_0_0 hAa hv_0_0_0 rfl 8 (by decide) fl_X7_25 rfl hin2 rfl (by decide +kernel) rfl rfl (Nat.le_of_ble_eq_true rfl) dX7_init_50 (fun H locs hG hS => ?_)
  have hG : g_H D vwCl _ L16 (g_set V17 (0, 0, 0) (.inr (9, [.int 0, .int 0, .ref b1, .ref b4, .int 0, .ref b7, .ref b10, .ref b13, .ref b16, .null, .int 0, .null, .null, .null, .null, .null, .null, .null, .null, .null, .null, .null, .null, .null, .null, .null, .null, .null]))) H := hG
  generalize hV18 : g_set V17 (0, 0, 0) (.inr (9, [.int 0, .int 0, .ref b1, .ref b4, .int 0, .ref b7, .ref b10, .ref b13, .ref b16, .null, .int 0, .null, .null, .null, .null, .null, .null, .null, .null, .null, .null, .null, .null, .null, .null, .null, .null, .null])) = V18 at hG
  have hv_1_2_0 : V18 (1, 2, 0) = .inl (cy 0, 100, .inl (fun _ => 0)) := by rw [← hV18, g_set_ne (by decide)]; exact hv_1_2_0
  have hv_1_3_0 : V18 (1, 3, 0) = .inl (cy 0, 500, .inl (fun _ => 0)) := by rw [← hV18, g_set_ne (by decide)]; exact hv_1_3_0
  have hv_1_5_0 : V18 (1, 5, 0) = .inl (cy 0, 40, .inl (fun _ => 0)) := by rw [← hV18, g_set_ne (by decide)]; exact hv_1_5_0
  have hv_1_6_0 : V18 (1, 6, 0) = .inl (cy 0, 40, .inl (fun _ => 0)) := by rw [← hV18, g_set_ne (by decide)]; exact hv_1_6_0
  have hv_1_7_0 : V18 (1, 7, 0) = .inl (cy 0, 40, .inl (fun _ => 0)) := by rw [← hV18, g_set_ne (by decide)]; exact hv_1_7_0
  have hv_1_8_0 : V18 (1, 8, 0) = .inl (cy 0, 40, .inl (fun _ => 0)) := by rw [← hV18, g_set_ne (by decide)]; exact hv_1_8_0
  have hv_0_0_0 : V18 (0, 0, 0) = .inr (9, [.int 0, .int 0, .ref b1, .ref b4, .int 0, .ref b7, .ref b10, .ref b13, .ref b16, .null, .int 0, .null, .null, .null, .null, .null, .null, .null, .null, .null, .null, .null, .null, .null, .null, .null, .null, .null]) := by rw [← hV18, g_set_self]
  have hVo : ∀ y, y ≠ (0, 0, 0) ∧ y ≠ (1, 2, 0) ∧ y ≠ (1, 3, 0) ∧ y ≠ (1, 5, 0) ∧ y ≠ (1, 6, 0) ∧ y ≠ (1, 7, 0) ∧ y ≠ (1, 8, 0) ∧ y ≠ (2, 9, 0) ∧ y ≠ (1, 11, 0) ∧ y ≠ (1, 12, 0) ∧ y ≠ (2, 13, 0) ∧ y ≠ (1, 14, 0) ∧ y ≠ (1, 15, 0) ∧ y ≠ (1, 16, 0) ∧ y ≠ (1, 17, 0) ∧ y ≠ (1, 18, 0) ∧ y ≠ (1, 19, 0) ∧ y ≠ (1, 20, 0) ∧ y ≠ (1, 21, 0) ∧ y ≠ (1, 22, 0) ∧ y ≠ (1, 23, 0) ∧ y ≠ (1, 24, 0) ∧ y ≠ (1, 25, 0) ∧ y ≠ (1, 26, 0) ∧ y ≠ (1, 27, 0) → V18 y = V y := fun y hy => by rw [← hV18, g_set_ne (fun q => hy.1 q)]; first | done | exact hVo y hy
  refine lv_aload_n hx hb dX7_init_53 rfl (lv_at hl 0 rfl) ?_
  refine lv_bipush (v := 40) hx hb dX7_init_54 (by decide) ?_
  refine h_newa (harr := hts _ ac_boolean) (atype := .boolean) (ty := .boolean) (a0 := (40, .inl (fun _ => 0))) hx hb rfl (fun C h => by cases h) hK 4 rfl hG hS (2, 9, 0) hf_2_9_0 rfl (by decide) rfl (by decide) (Nat.le_of_ble_eq_true rfl) (Nat.le_of_ble_eq_true rfl) dX7_init_56 (fun L19 b19 H hL9 e_2_9_0 ha19 hG hS hz9 o9 => ?_)
  have hs_1_2_0 : s.heap.size ≤ L19 (1, 2, 0) := by rw [hL9 _ hd_1_2_0]; exact hs_1_2_0
  have hs_1_3_0 : s.heap.size ≤ L19 (1, 3, 0) := by rw [hL9 _ hd_1_3_0]; exact hs_1_3_0
  have hs_1_5_0 : s.heap.size ≤ L19 (1, 5, 0) := by rw [hL9 _ hd_1_5_0]; exact hs_1_5_0
  have hs_1_6_0 : s.heap.size ≤ L19 (1, 6, 0) := by rw [hL9 _ hd_1_6_0]; exact hs_1_6_0
  have hs_1_7_0 : s.heap.size ≤ L19 (1, 7, 0) := by rw [hL9 _ hd_1_7_0]; exact hs_1_7_0
  have hs_1_8_0 : s.heap.size ≤ L19 (1, 8, 0) := by rw [hL9 _ hd_1_8_0]; exact hs_1_8_0
  have hs_2_9_0 : s.heap.size ≤ L19 (2, 9, 0) := by rw [e_2_9_0]; exact ha19
  have e_0_0_0 := (hL9 _ hd_0_0_0).trans e_0_0_0
  have e_1_2_0 := (hL9 _ hd_1_2_0).trans e_1_2_0
  have e_1_3_0 := (hL9 _ hd_1_3_0).trans e_1_3_0
  have e_1_5_0 := (hL9 _ hd_1_5_0).trans e_1_5_0
  have e_1_6_0 := (hL9 _ hd_1_6_0).trans e_1_6_0
  have e_1_7_0 := (hL9 _ hd_1_7_0).trans e_1_7_0
  have e_1_8_0 := (hL9 _ hd_1_8_0).trans e_1_8_0
  have hLL := fun y (hy : dom y) => (hL9 y (hdd y hy)).trans (hLL y hy)
  have hdd := fun y (hy : dom y) => hG.inO (hdd y hy)
  have hd_0_0_0 := hG.inO hd_0_0_0
  have hd_1_2_0 := hG.inO hd_1_2_0
  have hd_1_3_0 := hG.inO hd_1_3_0
  have hd_1_5_0 := hG.inO hd_1_5_0
  have hd_1_6_0 := hG.inO hd_1_6_0
  have hd_1_7_0 := hG.inO hd_1_7_0
  have hd_1_8_0 := hG.inO hd_1_8_0
  have hd_2_9_0 := hG.inX
  have hf_1_11_0 := hG.notin hf_1_11_0 (by decide)
  have hf_1_12_0 := hG.notin hf_1_12_0 (by decide)
  have hf_2_13_0 := hG.notin hf_2_13_0 (by decide)
  have hf_1_14_0 := hG.notin hf_1_14_0 (by decide)
  have hf_1_15_0 := hG.notin hf_1_15_0 (by decide)
  have hf_1_16_0 := hG.notin hf_1_16_0 (by decide)
  have hf_1_17_0 := hG.notin hf_1_17_0 (by decide)
  have hf_1_18_0 := hG.notin hf_1_18_0 (by decide)
  have hf_1_19_0 := hG.notin hf_1_19_0 (by decide)
  have hf_1_20_0 := hG.notin hf_1_20_0 (by decide)
  have hf_1_21_0 := hG.notin hf_1_21_0 (by decide)
  have hf_1_22_0 := hG.notin hf_1_22_0 (by decide)
  have hf_1_23_0 := hG.notin hf_1_23_0 (by decide)
  have hf_1_24_0 := hG.notin hf_1_24_0 (by decide)
  have hf_1_25_0 := hG.notin hf_1_25_0 (by decide)
  have hf_1_26_0 := hG.notin hf_1_26_0 (by decide)
  have hf_1_27_0 := hG.notin hf_1_27_0 (by decide)
  generalize hV20 : g_set V18 (2, 9, 0) (.inl (cy 4, 40, .inl (fun _ => 0))) = V20 at hG
  have hv_0_0_0 : V20 (0, 0, 0) = .inr (9, [.int 0, .int 0, .ref b1, .ref b4, .int 0, .ref b7, .ref b10, .ref b13, .ref b16, .null, .int 0, .null, .null, .null, .null, .null, .null, .null, .null, .null, .null, .null, .null, .null, .null, .null, .null, .null]) := by rw [← hV20, g_set_ne (by decide)]; exact hv_0_0_0
  have hv_1_2_0 : V20 (1, 2, 0) = .inl (cy 0, 100, .inl (fun _ => 0)) := by rw [← hV20, g_set_ne (by decide)]; exact hv_1_2_0
  have hv_1_3_0 : V20 (1, 3, 0) = .inl (cy 0, 500, .inl (fun _ => 0)) := by rw [← hV20, g_set_ne (by decide)]; exact hv_1_3_0
  have hv_1_5_0 : V20 (1, 5, 0) = .inl (cy 0, 40, .inl (fun _ => 0)) := by rw [← hV20, g_set_ne (by decide)]; exact hv_1_5_0
  have hv_1_6_0 : V20 (1, 6, 0) = .inl (cy 0, 40, .inl (fun _ => 0)) := by rw [← hV20, g_set_ne (by decide)]; exact hv_1_6_0
  have hv_1_7_0 : V20 (1, 7, 0) = .inl (cy 0, 40, .inl (fun _ => 0)) := by rw [← hV20, g_set_ne (by decide)]; exact hv_1_7_0
  have hv_1_8_0 : V20 (1, 8, 0) = .inl (cy 0, 40, .inl (fun _ => 0)) := by rw [← hV20, g_set_ne (by decide)]; exact hv_1_8_0
  have hv_2_9_0 : V20 (2, 9, 0) = .inl (cy 4, 40, .inl (fun _ => 0)) := by rw [← hV20, g_set_self]
  have hVo : ∀ y, y ≠ (0, 0, 0) ∧ y ≠ (1, 2, 0) ∧ y ≠ (1, 3, 0) ∧ y ≠ (1, 5, 0) ∧ y ≠ (1, 6, 0) ∧ y ≠ (1, 7, 0) ∧ y ≠ (1, 8, 0) ∧ y ≠ (2, 9, 0) ∧ y ≠ (1, 11, 0) ∧ y ≠ (1, 12, 0) ∧ y ≠ (2, 13, 0) ∧ y ≠ (1, 14, 0) ∧ y ≠ (1, 15, 0) ∧ y ≠ (1, 16, 0) ∧ y ≠ (1, 17, 0) ∧ y ≠ (1, 18, 0) ∧ y ≠ (1, 19, 0) ∧ y ≠ (1, 20, 0) ∧ y ≠ (1, 21, 0) ∧ y ≠ (1, 22, 0) ∧ y ≠ (1, 23, 0) ∧ y ≠ (1, 24, 0) ∧ y ≠ (1, 25, 0) ∧ y ≠ (1, 26, 0) ∧ y ≠ (1, 27, 0) → V20 y = V y := fun y hy => by rw [← hV20, g_set_ne (fun q => hy.2.2.2.2.2.2.2.1 q)]; first | done | exact hVo y hy
  refine h_putF (C := RX7) (T := TX7) (N := 28) (ci := 9) (ty := (tyX7 9)) hx hb hts inX7g tyX7_ok nmX7 hown hK hG hS (0, 0, 0) hd_0_0_0 e_0_0_0 hAa hv_0_0_0 rfl 9 (by decide) fl_X7_28 rfl hin2 rfl (by decide +kernel) rfl rfl (Nat.le_of_ble_eq_true rfl) dX7_init_58 (fun H locs hG hS => ?_)
  have hG : g_H D vwCl _ L19 (g_set V20 (0, 0, 0) (.inr (9, [.int 0, .int 0, .ref b1, .ref b4, .int 0, .ref b7, .ref b10, .ref b13, .ref b16, .ref b19, .int 0, .null, .null, .null, .null, .null, .null, .null, .null, .null, .null, .null, .null, .null, .null, .null, .null, .null]))) H := hG
  generalize hV21 : g_set V20 (0, 0, 0) (.inr (9, [.int 0, .int 0, .ref b1, .ref b4, .int 0, .ref b7, .ref b10, .ref b13, .ref b16, .ref b19, .int 0, .null, .null, .null, .null, .null, .null, .null, .null, .null, .null, .null, .null, .null, .null, .null, .null, .null])) = V21 at hG
  have hv_1_2_0 : V21 (1, 2, 0) = .inl (cy 0, 100, .inl (fun _ => 0)) := by rw [← hV21, g_set_ne (by decide)]; exact hv_1_2_0
  have hv_1_3_0 : V21 (1, 3, 0) = .inl (cy 0, 500, .inl (fun _ => 0)) := by rw [← hV21, g_set_ne (by decide)]; exact hv_1_3_0
  have hv_1_5_0 : V21 (1, 5, 0) = .inl (cy 0, 40, .inl (fun _ => 0)) := by rw [← hV21, g_set_ne (by decide)]; exact hv_1_5_0
  have hv_1_6_0 : V21 (1, 6, 0) = .inl (cy 0, 40, .inl (fun _ => 0)) := by rw [← hV21, g_set_ne (by decide)]; exact hv_1_6_0
  have hv_1_7_0 : V21 (1, 7, 0) = .inl (cy 0, 40, .inl (fun _ => 0)) := by rw [← hV21, g_set_ne (by decide)]; exact hv_1_7_0
  have hv_1_8_0 : V21 (1, 8, 0) = .inl (cy 0, 40, .inl (fun _ => 0)) := by rw [← hV21, g_set_ne (by decide)]; exact hv_1_8_0
  have hv_2_9_0 : V21 (2, 9, 0) = .inl (cy 4, 40, .inl (fun _ => 0)) := by rw [← hV21, g_set_ne (by decide)]; exact hv_2_9_0
  have hv_0_0_0 : V21 (0, 0, 0) = .inr (9, [.int 0, .int 0, .ref b1, .ref b4, .int 0, .ref b7, .ref b10, .ref b13, .ref b16, .ref b19, .int 0, .null, .null, .null, .null, .null, .null, .null, .null, .null, .null, .null, .null, .null, .null, .null, .null, .null]) := by rw [← hV21, g_set_self]
  have hVo : ∀ y, y ≠ (0, 0, 0) ∧ y ≠ (1, 2, 0) ∧ y ≠ (1, 3, 0) ∧ y ≠ (1, 5, 0) ∧ y ≠ (1, 6, 0) ∧ y ≠ (1, 7, 0) ∧ y ≠ (1, 8, 0) ∧ y ≠ (2, 9, 0) ∧ y ≠ (1, 11, 0) ∧ y ≠ (1, 12, 0) ∧ y ≠ (2, 13, 0) ∧ y ≠ (1, 14, 0) ∧ y ≠ (1, 15, 0) ∧ y ≠ (1, 16, 0) ∧ y ≠ (1, 17, 0) ∧ y ≠ (1, 18, 0) ∧ y ≠ (1, 19, 0) ∧ y ≠ (1, 20, 0) ∧ y ≠ (1, 21, 0) ∧ y ≠ (1, 22, 0) ∧ y ≠ (1, 23, 0) ∧ y ≠ (1, 24, 0) ∧ y ≠ (1, 25, 0) ∧ y ≠ (1, 26, 0) ∧ y ≠ (1, 27, 0) → V21 y = V y := fun y hy => by rw [← hV21, g_set_ne (fun q => hy.1 q)]; first | done | exact hVo y hy
  refine lv_aload_n hx hb dX7_init_61 rfl (lv_at hl 0 rfl) ?_
  refine lv_bipush (v := 8) hx hb dX7_init_62 (by decide) ?_
  refine h_newa (harr := hts _ ac_int) (atype := .int) (ty := .int) (a0 := (8, .inl (fun _ => 0))) hx hb rfl (fun C h => by cases h) hK 0 rfl hG hS (1, 11, 0) hf_1_11_0 rfl (by decide) rfl (by decide) (Nat.le_of_ble_eq_true rfl) (Nat.le_of_ble_eq_true rfl) dX7_init_64 (fun L22 b22 H hL9 e_1_11_0 ha22 hG hS hz9 o9 => ?_)
  have hs_1_2_0 : s.heap.size ≤ L22 (1, 2, 0) := by rw [hL9 _ hd_1_2_0]; exact hs_1_2_0
  have hs_1_3_0 : s.heap.size ≤ L22 (1, 3, 0) := by rw [hL9 _ hd_1_3_0]; exact hs_1_3_0
  have hs_1_5_0 : s.heap.size ≤ L22 (1, 5, 0) := by rw [hL9 _ hd_1_5_0]; exact hs_1_5_0
  have hs_1_6_0 : s.heap.size ≤ L22 (1, 6, 0) := by rw [hL9 _ hd_1_6_0]; exact hs_1_6_0
  have hs_1_7_0 : s.heap.size ≤ L22 (1, 7, 0) := by rw [hL9 _ hd_1_7_0]; exact hs_1_7_0
  have hs_1_8_0 : s.heap.size ≤ L22 (1, 8, 0) := by rw [hL9 _ hd_1_8_0]; exact hs_1_8_0
  have hs_2_9_0 : s.heap.size ≤ L22 (2, 9, 0) := by rw [hL9 _ hd_2_9_0]; exact hs_2_9_0
  have hs_1_11_0 : s.heap.size ≤ L22 (1, 11, 0) := by rw [e_1_11_0]; exact ha22
  have e_0_0_0 := (hL9 _ hd_0_0_0).trans e_0_0_0
  have e_1_2_0 := (hL9 _ hd_1_2_0).trans e_1_2_0
  have e_1_3_0 := (hL9 _ hd_1_3_0).trans e_1_3_0
  have e_1_5_0 := (hL9 _ hd_1_5_0).trans e_1_5_0
  have e_1_6_0 := (hL9 _ hd_1_6_0).trans e_1_6_0
  have e_1_7_0 := (hL9 _ hd_1_7_0).trans e_1_7_0
  have e_1_8_0 := (hL9 _ hd_1_8_0).trans e_1_8_0
  have e_2_9_0 := (hL9 _ hd_2_9_0).trans e_2_9_0
  have hLL := fun y (hy : dom y) => (hL9 y (hdd y hy)).trans (hLL y hy)
  have hdd := fun y (hy : dom y) => hG.inO (hdd y hy)
  have hd_0_0_0 := hG.inO hd_0_0_0
  have hd_1_2_0 := hG.inO hd_1_2_0
  have hd_1_3_0 := hG.inO hd_1_3_0
  have hd_1_5_0 := hG.inO hd_1_5_0
  have hd_1_6_0 := hG.inO hd_1_6_0
  have hd_1_7_0 := hG.inO hd_1_7_0
  have hd_1_8_0 := hG.inO hd_1_8_0
  have hd_2_9_0 := hG.inO hd_2_9_0
  have hd_1_11_0 := hG.inX
  have hf_1_12_0 := hG.notin hf_1_12_0 (by decide)
  have hf_2_13_0 := hG.notin hf_2_13_0 (by decide)
  have hf_1_14_0 := hG.notin hf_1_14_0 (by decide)
  have hf_1_15_0 := hG.notin hf_1_15_0 (by decide)
  have hf_1_16_0 := hG.notin hf_1_16_0 (by decide)
  have hf_1_17_0 := hG.notin hf_1_17_0 (by decide)
  have hf_1_18_0 := hG.notin hf_1_18_0 (by decide)
  have hf_1_19_0 := hG.notin hf_1_19_0 (by decide)
  have hf_1_20_0 := hG.notin hf_1_20_0 (by decide)
  have hf_1_21_0 := hG.notin hf_1_21_0 (by decide)
  have hf_1_22_0 := hG.notin hf_1_22_0 (by decide)
  have hf_1_23_0 := hG.notin hf_1_23_0 (by decide)
  have hf_1_24_0 := hG.notin hf_1_24_0 (by decide)
  have hf_1_25_0 := hG.notin hf_1_25_0 (by decide)
  have hf_1_26_0 := hG.notin hf_1_26_0 (by decide)
  have hf_1_27_0 := hG.notin hf_1_27_0 (by decide)
  generalize hV23 : g_set V21 (1, 11, 0) (.inl (cy 0, 8, .inl (fun _ => 0))) = V23 at hG
  have hv_0_0_0 : V23 (0, 0, 0) = .inr (9, [.int 0, .int 0, .ref b1, .ref b4, .int 0, .ref b7, .ref b10, .ref b13, .ref b16, .ref b19, .int 0, .null, .null, .null, .null, .null, .null, .null, .null, .null, .null, .null, .null, .null, .null, .null, .null, .null]) := by rw [← hV23, g_set_ne (by decide)]; exact hv_0_0_0
  have hv_1_2_0 : V23 (1, 2, 0) = .inl (cy 0, 100, .inl (fun _ => 0)) := by rw [← hV23, g_set_ne (by decide)]; exact hv_1_2_0
  have hv_1_3_0 : V23 (1, 3, 0) = .inl (cy 0, 500, .inl (fun _ => 0)) := by rw [← hV23, g_set_ne (by decide)]; exact hv_1_3_0
  have hv_1_5_0 : V23 (1, 5, 0) = .inl (cy 0, 40, .inl (fun _ => 0)) := by rw [← hV23, g_set_ne (by decide)]; exact hv_1_5_0
  have hv_1_6_0 : V23 (1, 6, 0) = .inl (cy 0, 40, .inl (fun _ => 0)) := by rw [← hV23, g_set_ne (by decide)]; exact hv_1_6_0
  have hv_1_7_0 : V23 (1, 7, 0) = .inl (cy 0, 40, .inl (fun _ => 0)) := by rw [← hV23, g_set_ne (by decide)]; exact hv_1_7_0
  have hv_1_8_0 : V23 (1, 8, 0) = .inl (cy 0, 40, .inl (fun _ => 0)) := by rw [← hV23, g_set_ne (by decide)]; exact hv_1_8_0
  have hv_2_9_0 : V23 (2, 9, 0) = .inl (cy 4, 40, .inl (fun _ => 0)) := by rw [← hV23, g_set_ne (by decide)]; exact hv_2_9_0
  have hv_1_11_0 : V23 (1, 11, 0) = .inl (cy 0, 8, .inl (fun _ => 0)) := by rw [← hV23, g_set_self]
  have hVo : ∀ y, y ≠ (0, 0, 0) ∧ y ≠ (1, 2, 0) ∧ y ≠ (1, 3, 0) ∧ y ≠ (1, 5, 0) ∧ y ≠ (1, 6, 0) ∧ y ≠ (1, 7, 0) ∧ y ≠ (1, 8, 0) ∧ y ≠ (2, 9, 0) ∧ y ≠ (1, 11, 0) ∧ y ≠ (1, 12, 0) ∧ y ≠ (2, 13, 0) ∧ y ≠ (1, 14, 0) ∧ y ≠ (1, 15, 0) ∧ y ≠ (1, 16, 0) ∧ y ≠ (1, 17, 0) ∧ y ≠ (1, 18, 0) ∧ y ≠ (1, 19, 0) ∧ y ≠ (1, 20, 0) ∧ y ≠ (1, 21, 0) ∧ y ≠ (1, 22, 0) ∧ y ≠ (1, 23, 0) ∧ y ≠ (1, 24, 0) ∧ y ≠ (1, 25, 0) ∧ y ≠ (1, 26, 0) ∧ y ≠ (1, 27, 0) → V23 y = V y := fun y hy => by rw [← hV23, g_set_ne (fun q => hy.2.2.2.2.2.2.2.2.1 q)]; first | done | exact hVo y hy
  refine h_putF (C := RX7) (T := TX7) (N := 28) (ci := 9) (ty := (tyX7 11)) hx hb hts inX7g tyX7_ok nmX7 hown hK hG hS (0, 0, 0) hd_0_0_0 e_0_0_0 hAa hv_0_0_0 rfl 11 (by decide) fl_X7_32 rfl hin2 rfl (by decide +kernel) rfl rfl (Nat.le_of_ble_eq_true rfl) dX7_init_66 (fun H locs hG hS => ?_)
  have hG : g_H D vwCl _ L22 (g_set V23 (0, 0, 0) (.inr (9, [.int 0, .int 0, .ref b1, .ref b4, .int 0, .ref b7, .ref b10, .ref b13, .ref b16, .ref b19, .int 0, .ref b22, .null, .null, .null, .null, .null, .null, .null, .null, .null, .null, .null, .null, .null, .null, .null, .null]))) H := hG
  generalize hV24 : g_set V23 (0, 0, 0) (.inr (9, [.int 0, .int 0, .ref b1, .ref b4, .int 0, .ref b7, .ref b10, .ref b13, .ref b16, .ref b19, .int 0, .ref b22, .null, .null, .null, .null, .null, .null, .null, .null, .null, .null, .null, .null, .null, .null, .null, .null])) = V24 at hG
  have hv_1_2_0 : V24 (1, 2, 0) = .inl (cy 0, 100, .inl (fun _ => 0)) := by rw [← hV24, g_set_ne (by decide)]; exact hv_1_2_0
  have hv_1_3_0 : V24 (1, 3, 0) = .inl (cy 0, 500, .inl (fun _ => 0)) := by rw [← hV24, g_set_ne (by decide)]; exact hv_1_3_0
  have hv_1_5_0 : V24 (1, 5, 0) = .inl (cy 0, 40, .inl (fun _ => 0)) := by rw [← hV24, g_set_ne (by decide)]; exact hv_1_5_0
  have hv_1_6_0 : V24 (1, 6, 0) = .inl (cy 0, 40, .inl (fun _ => 0)) := by rw [← hV24, g_set_ne (by decide)]; exact hv_1_6_0
  have hv_1_7_0 : V24 (1, 7, 0) = .inl (cy 0, 40, .inl (fun _ => 0)) := by rw [← hV24, g_set_ne (by decide)]; exact hv_1_7_0
  have hv_1_8_0 : V24 (1, 8, 0) = .inl (cy 0, 40, .inl (fun _ => 0)) := by rw [← hV24, g_set_ne (by decide)]; exact hv_1_8_0
  have hv_2_9_0 : V24 (2, 9, 0) = .inl (cy 4, 40, .inl (fun _ => 0)) := by rw [← hV24, g_set_ne (by decide)]; exact hv_2_9_0
  have hv_1_11_0 : V24 (1, 11, 0) = .inl (cy 0, 8, .inl (fun _ => 0)) := by rw [← hV24, g_set_ne (by decide)]; exact hv_1_11_0
  have hv_0_0_0 : V24 (0, 0, 0) = .inr (9, [.int 0, .int 0, .ref b1, .ref b4, .int 0, .ref b7, .ref b10, .ref b13, .ref b16, .ref b19, .int 0, .ref b22, .null, .null, .null, .null, .null, .null, .null, .null, .null, .null, .null, .null, .null, .null, .null, .null]) := by rw [← hV24, g_set_self]
  have hVo : ∀ y, y ≠ (0, 0, 0) ∧ y ≠ (1, 2, 0) ∧ y ≠ (1, 3, 0) ∧ y ≠ (1, 5, 0) ∧ y ≠ (1, 6, 0) ∧ y ≠ (1, 7, 0) ∧ y ≠ (1, 8, 0) ∧ y ≠ (2, 9, 0) ∧ y ≠ (1, 11, 0) ∧ y ≠ (1, 12, 0) ∧ y ≠ (2, 13, 0) ∧ y ≠ (1, 14, 0) ∧ y ≠ (1, 15, 0) ∧ y ≠ (1, 16, 0) ∧ y ≠ (1, 17, 0) ∧ y ≠ (1, 18, 0) ∧ y ≠ (1, 19, 0) ∧ y ≠ (1, 20, 0) ∧ y ≠ (1, 21, 0) ∧ y ≠ (1, 22, 0) ∧ y ≠ (1, 23, 0) ∧ y ≠ (1, 24, 0) ∧ y ≠ (1, 25, 0) ∧ y ≠ (1, 26, 0) ∧ y ≠ (1, 27, 0) → V24 y = V y := fun y hy => by rw [← hV24, g_set_ne (fun q => hy.1 q)]; first | done | exact hVo y hy
  refine lv_aload_n hx hb dX7_init_69 rfl (lv_at hl 0 rfl) ?_
  refine lv_bipush (v := 8) hx hb dX7_init_70 (by decide) ?_
  refine h_newa (harr := hts _ ac_int) (atype := .int) (ty := .int) (a0 := (8, .inl (fun _ => 0))) hx hb rfl (fun C h => by cases h) hK 0 rfl hG hS (1, 12, 0) hf_1_12_0 rfl (by decide) rfl (by decide) (Nat.le_of_ble_eq_true rfl) (Nat.le_of_ble_eq_true rfl) dX7_init_72 (fun L25 b25 H hL9 e_1_12_0 ha25 hG hS hz9 o9 => ?_)
  have hs_1_2_0 : s.heap.size ≤ L25 (1, 2, 0) := by rw [hL9 _ hd_1_2_0]; exact hs_1_2_0
  have hs_1_3_0 : s.heap.size ≤ L25 (1, 3, 0) := by rw [hL9 _ hd_1_3_0]; exact hs_1_3_0
  have hs_1_5_0 : s.heap.size ≤ L25 (1, 5, 0) := by rw [hL9 _ hd_1_5_0]; exact hs_1_5_0
  have hs_1_6_0 : s.heap.size ≤ L25 (1, 6, 0) := by rw [hL9 _ hd_1_6_0]; exact hs_1_6_0
  have hs_1_7_0 : s.heap.size ≤ L25 (1, 7, 0) := by rw [hL9 _ hd_1_7_0]; exact hs_1_7_0
  have hs_1_8_0 : s.heap.size ≤ L25 (1, 8, 0) := by rw [hL9 _ hd_1_8_0]; exact hs_1_8_0
  have hs_2_9_0 : s.heap.size ≤ L25 (2, 9, 0) := by rw [hL9 _ hd_2_9_0]; exact hs_2_9_0
  have hs_1_11_0 : s.heap.size ≤ L25 (1, 11, 0) := by rw [hL9 _ hd_1_11_0]; exact hs_1_11_0
  have hs_1_12_0 : s.heap.size ≤ L25 (1, 12, 0) := by rw [e_1_12_0]; exact ha25
  have e_0_0_0 := (hL9 _ hd_0_0_0).trans e_0_0_0
  have e_1_2_0 := (hL9 _ hd_1_2_0).trans e_1_2_0
  have e_1_3_0 := (hL9 _ hd_1_3_0).trans e_1_3_0
  have e_1_5_0 := (hL9 _ hd_1_5_0).trans e_1_5_0
  have e_1_6_0 := (hL9 _ hd_1_6_0).trans e_1_6_0
  have e_1_7_0 := (hL9 _ hd_1_7_0).trans e_1_7_0
  have e_1_8_0 := (hL9 _ hd_1_8_0).trans e_1_8_0
  have e_2_9_0 := (hL9 _ hd_2_9_0).trans e_2_9_0
  have e_1_11_0 := (hL9 _ hd_1_11_0).trans e_1_11_0
  have hLL := fun y (hy : dom y) => (hL9 y (hdd y hy)).trans (hLL y hy)
  have hdd := fun y (hy : dom y) => hG.inO (hdd y hy)
  have hd_0_0_0 := hG.inO hd_0_0_0
  have hd_1_2_0 := hG.inO hd_1_2_0
  have hd_1_3_0 := hG.inO hd_1_3_0
  have hd_1_5_0 := hG.inO hd_1_5_0
  have hd_1_6_0 := hG.inO hd_1_6_0
  have hd_1_7_0 := hG.inO hd_1_7_0
  have hd_1_8_0 := hG.inO hd_1_8_0
  have hd_2_9_0 := hG.inO hd_2_9_0
  have hd_1_11_0 := hG.inO hd_1_11_0
  have hd_1_12_0 := hG.inX
  have hf_2_13_0 := hG.notin hf_2_13_0 (by decide)
  have hf_1_14_0 := hG.notin hf_1_14_0 (by decide)
  have hf_1_15_0 := hG.notin hf_1_15_0 (by decide)
  have hf_1_16_0 := hG.notin hf_1_16_0 (by decide)
  have hf_1_17_0 := hG.notin hf_1_17_0 (by decide)
  have hf_1_18_0 := hG.notin hf_1_18_0 (by decide)
  have hf_1_19_0 := hG.notin hf_1_19_0 (by decide)
  have hf_1_20_0 := hG.notin hf_1_20_0 (by decide)
  have hf_1_21_0 := hG.notin hf_1_21_0 (by decide)
  have hf_1_22_0 := hG.notin hf_1_22_0 (by decide)
  have hf_1_23_0 := hG.notin hf_1_23_0 (by decide)
  have hf_1_24_0 := hG.notin hf_1_24_0 (by decide)
  have hf_1_25_0 := hG.notin hf_1_25_0 (by decide)
  have hf_1_26_0 := hG.notin hf_1_26_0 (by decide)
  have hf_1_27_0 := hG.notin hf_1_27_0 (by decide)
  generalize hV26 : g_set V24 (1, 12, 0) (.inl (cy 0, 8, .inl (fun _ => 0))) = V26 at hG
  have hv_0_0_0 : V26 (0, 0, 0) = .inr (9, [.int 0, .int 0, .ref b1, .ref b4, .int 0, .ref b7, .ref b10, .ref b13, .ref b16, .ref b19, .int 0, .ref b22, .null, .null, .null, .null, .null, .null, .null, .null, .null, .null, .null, .null, .null, .null, .null, .null]) := by rw [← hV26, g_set_ne (by decide)]; exact hv_0_0_0
  have hv_1_2_0 : V26 (1, 2, 0) = .inl (cy 0, 100, .inl (fun _ => 0)) := by rw [← hV26, g_set_ne (by decide)]; exact hv_1_2_0
  have hv_1_3_0 : V26 (1, 3, 0) = .inl (cy 0, 500, .inl (fun _ => 0)) := by rw [← hV26, g_set_ne (by decide)]; exact hv_1_3_0
  have hv_1_5_0 : V26 (1, 5, 0) = .inl (cy 0, 40, .inl (fun _ => 0)) := by rw [← hV26, g_set_ne (by decide)]; exact hv_1_5_0
  have hv_1_6_0 : V26 (1, 6, 0) = .inl (cy 0, 40, .inl (fun _ => 0)) := by rw [← hV26, g_set_ne (by decide)]; exact hv_1_6_0
  have hv_1_7_0 : V26 (1, 7, 0) = .inl (cy 0, 40, .inl (fun _ => 0)) := by rw [← hV26, g_set_ne (by decide)]; exact hv_1_7_0
  have hv_1_8_0 : V26 (1, 8, 0) = .inl (cy 0, 40, .inl (fun _ => 0)) := by rw [← hV26, g_set_ne (by decide)]; exact hv_1_8_0
  have hv_2_9_0 : V26 (2, 9, 0) = .inl (cy 4, 40, .inl (fun _ => 0)) := by rw [← hV26, g_set_ne (by decide)]; exact hv_2_9_0
  have hv_1_11_0 : V26 (1, 11, 0) = .inl (cy 0, 8, .inl (fun _ => 0)) := by rw [← hV26, g_set_ne (by decide)]; exact hv_1_11_0
  have hv_1_12_0 : V26 (1, 12, 0) = .inl (cy 0, 8, .inl (fun _ => 0)) := by rw [← hV26, g_set_self]
  have hVo : ∀ y, y ≠ (0, 0, 0) ∧ y ≠ (1, 2, 0) ∧ y ≠ (1, 3, 0) ∧ y ≠ (1, 5, 0) ∧ y ≠ (1, 6, 0) ∧ y ≠ (1, 7, 0) ∧ y ≠ (1, 8, 0) ∧ y ≠ (2, 9, 0) ∧ y ≠ (1, 11, 0) ∧ y ≠ (1, 12, 0) ∧ y ≠ (2, 13, 0) ∧ y ≠ (1, 14, 0) ∧ y ≠ (1, 15, 0) ∧ y ≠ (1, 16, 0) ∧ y ≠ (1, 17, 0) ∧ y ≠ (1, 18, 0) ∧ y ≠ (1, 19, 0) ∧ y ≠ (1, 20, 0) ∧ y ≠ (1, 21, 0) ∧ y ≠ (1, 22, 0) ∧ y ≠ (1, 23, 0) ∧ y ≠ (1, 24, 0) ∧ y ≠ (1, 25, 0) ∧ y ≠ (1, 26, 0) ∧ y ≠ (1, 27, 0) → V26 y = V y := fun y hy => by rw [← hV26, g_set_ne (fun q => hy.2.2.2.2.2.2.2.2.2.1 q)]; first | done | exact hVo y hy
  refine h_putF (C := RX7) (T := TX7) (N := 28) (ci := 9) (ty := (tyX7 12)) hx hb hts inX7g tyX7_ok nmX7 hown hK hG hS (0, 0, 0) hd_0_0_0 e_0_0_0 hAa hv_0_0_0 rfl 12 (by decide) fl_X7_35 rfl hin2 rfl (by decide +kernel) rfl rfl (Nat.le_of_ble_eq_true rfl) dX7_init_74 (fun H locs hG hS => ?_)
  have hG : g_H D vwCl _ L25 (g_set V26 (0, 0, 0) (.inr (9, [.int 0, .int 0, .ref b1, .ref b4, .int 0, .ref b7, .ref b10, .ref b13, .ref b16, .ref b19, .int 0, .ref b22, .ref b25, .null, .null, .null, .null, .null, .null, .null, .null, .null, .null, .null, .null, .null, .null, .null]))) H := hG
  generalize hV27 : g_set V26 (0, 0, 0) (.inr (9, [.int 0, .int 0, .ref b1, .ref b4, .int 0, .ref b7, .ref b10, .ref b13, .ref b16, .ref b19, .int 0, .ref b22, .ref b25, .null, .null, .null, .null, .null, .null, .null, .null, .null, .null, .null, .null, .null, .null, .null])) = V27 at hG
  have hv_1_2_0 : V27 (1, 2, 0) = .inl (cy 0, 100, .inl (fun _ => 0)) := by rw [← hV27, g_set_ne (by decide)]; exact hv_1_2_0
  have hv_1_3_0 : V27 (1, 3, 0) = .inl (cy 0, 500, .inl (fun _ => 0)) := by rw [← hV27, g_set_ne (by decide)]; exact hv_1_3_0
  have hv_1_5_0 : V27 (1, 5, 0) = .inl (cy 0, 40, .inl (fun _ => 0)) := by rw [← hV27, g_set_ne (by decide)]; exact hv_1_5_0
  have hv_1_6_0 : V27 (1, 6, 0) = .inl (cy 0, 40, .inl (fun _ => 0)) := by rw [← hV27, g_set_ne (by decide)]; exact hv_1_6_0
  have hv_1_7_0 : V27 (1, 7, 0) = .inl (cy 0, 40, .inl (fun _ => 0)) := by rw [← hV27, g_set_ne (by decide)]; exact hv_1_7_0
  have hv_1_8_0 : V27 (1, 8, 0) = .inl (cy 0, 40, .inl (fun _ => 0)) := by rw [← hV27, g_set_ne (by decide)]; exact hv_1_8_0
  have hv_2_9_0 : V27 (2, 9, 0) = .inl (cy 4, 40, .inl (fun _ => 0)) := by rw [← hV27, g_set_ne (by decide)]; exact hv_2_9_0
  have hv_1_11_0 : V27 (1, 11, 0) = .inl (cy 0, 8, .inl (fun _ => 0)) := by rw [← hV27, g_set_ne (by decide)]; exact hv_1_11_0
  have hv_1_12_0 : V27 (1, 12, 0) = .inl (cy 0, 8, .inl (fun _ => 0)) := by rw [← hV27, g_set_ne (by decide)]; exact hv_1_12_0
  have hv_0_0_0 : V27 (0, 0, 0) = .inr (9, [.int 0, .int 0, .ref b1, .ref b4, .int 0, .ref b7, .ref b10, .ref b13, .ref b16, .ref b19, .int 0, .ref b22, .ref b25, .null, .null, .null, .null, .null, .null, .null, .null, .null, .null, .null, .null, .null, .null, .null]) := by rw [← hV27, g_set_self]
  have hVo : ∀ y, y ≠ (0, 0, 0) ∧ y ≠ (1, 2, 0) ∧ y ≠ (1, 3, 0) ∧ y ≠ (1, 5, 0) ∧ y ≠ (1, 6, 0) ∧ y ≠ (1, 7, 0) ∧ y ≠ (1, 8, 0) ∧ y ≠ (2, 9, 0) ∧ y ≠ (1, 11, 0) ∧ y ≠ (1, 12, 0) ∧ y ≠ (2, 13, 0) ∧ y ≠ (1, 14, 0) ∧ y ≠ (1, 15, 0) ∧ y ≠ (1, 16, 0) ∧ y ≠ (1, 17, 0) ∧ y ≠ (1, 18, 0) ∧ y ≠ (1, 19, 0) ∧ y ≠ (1, 20, 0) ∧ y ≠ (1, 21, 0) ∧ y ≠ (1, 22, 0) ∧ y ≠ (1, 23, 0) ∧ y ≠ (1, 24, 0) ∧ y ≠ (1, 25, 0) ∧ y ≠ (1, 26, 0) ∧ y ≠ (1, 27, 0) → V27 y = V y := fun y hy => by rw [← hV27, g_set_ne (fun q => hy.1 q)]; first | done | exact hVo y hy
  refine lv_aload_n hx hb dX7_init_77 rfl (lv_at hl 0 rfl) ?_
  refine lv_bipush (v := 8) hx hb dX7_init_78 (by decide) ?_
  refine h_newa (harr := hts _ ac_boolean) (atype := .boolean) (ty := .boolean) (a0 := (8, .inl (fun _ => 0))) hx hb rfl (fun C h => by cases h) hK 4 rfl hG hS (2, 13, 0) hf_2_13_0 rfl (by decide) rfl (by decide) (Nat.le_of_ble_eq_true rfl) (Nat.le_of_ble_eq_true rfl) dX7_init_80 (fun L28 b28 H hL9 e_2_13_0 ha28 hG hS hz9 o9 => ?_)
  have hs_1_2_0 : s.heap.size ≤ L28 (1, 2, 0) := by rw [hL9 _ hd_1_2_0]; exact hs_1_2_0
  have hs_1_3_0 : s.heap.size ≤ L28 (1, 3, 0) := by rw [hL9 _ hd_1_3_0]; exact hs_1_3_0
  have hs_1_5_0 : s.heap.size ≤ L28 (1, 5, 0) := by rw [hL9 _ hd_1_5_0]; exact hs_1_5_0
  have hs_1_6_0 : s.heap.size ≤ L28 (1, 6, 0) := by rw [hL9 _ hd_1_6_0]; exact hs_1_6_0
  have hs_1_7_0 : s.heap.size ≤ L28 (1, 7, 0) := by rw [hL9 _ hd_1_7_0]; exact hs_1_7_0
  have hs_1_8_0 : s.heap.size ≤ L28 (1, 8, 0) := by rw [hL9 _ hd_1_8_0]; exact hs_1_8_0
  have hs_2_9_0 : s.heap.size ≤ L28 (2, 9, 0) := by rw [hL9 _ hd_2_9_0]; exact hs_2_9_0
  have hs_1_11_0 : s.heap.size ≤ L28 (1, 11, 0) := by rw [hL9 _ hd_1_11_0]; exact hs_1_11_0
  have hs_1_12_0 : s.heap.size ≤ L28 (1, 12, 0) := by rw [hL9 _ hd_1_12_0]; exact hs_1_12_0
  have hs_2_13_0 : s.heap.size ≤ L28 (2, 13, 0) := by rw [e_2_13_0]; exact ha28
  have e_0_0_0 := (hL9 _ hd_0_0_0).trans e_0_0_0
  have e_1_2_0 := (hL9 _ hd_1_2_0).trans e_1_2_0
  have e_1_3_0 := (hL9 _ hd_1_3_0).trans e_1_3_0
  have e_1_5_0 := (hL9 _ hd_1_5_0).trans e_1_5_0
  have e_1_6_0 := (hL9 _ hd_1_6_0).trans e_1_6_0
  have e_1_7_0 := (hL9 _ hd_1_7_0).trans e_1_7_0
  have e_1_8_0 := (hL9 _ hd_1_8_0).trans e_1_8_0
  have e_2_9_0 := (hL9 _ hd_2_9_0).trans e_2_9_0
  have e_1_11_0 := (hL9 _ hd_1_11_0).trans e_1_11_0
  have e_1_12_0 := (hL9 _ hd_1_12_0).trans e_1_12_0
  have hLL := fun y (hy : dom y) => (hL9 y (hdd y hy)).trans (hLL y hy)
  have hdd := fun y (hy : dom y) => hG.inO (hdd y hy)
  have hd_0_0_0 := hG.inO hd_0_0_0
  have hd_1_2_0 := hG.inO hd_1_2_0
  have hd_1_3_0 := hG.inO hd_1_3_0
  have hd_1_5_0 := hG.inO hd_1_5_0
  have hd_1_6_0 := hG.inO hd_1_6_0
  have hd_1_7_0 := hG.inO hd_1_7_0
  have hd_1_8_0 := hG.inO hd_1_8_0
  have hd_2_9_0 := hG.inO hd_2_9_0
  have hd_1_11_0 := hG.inO hd_1_11_0
  have hd_1_12_0 := hG.inO hd_1_12_0
  have hd_2_13_0 := hG.inX
  have hf_1_14_0 := hG.notin hf_1_14_0 (by decide)
  have hf_1_15_0 := hG.notin hf_1_15_0 (by decide)
  have hf_1_16_0 := hG.notin hf_1_16_0 (by decide)
  have hf_1_17_0 := hG.notin hf_1_17_0 (by decide)
  have hf_1_18_0 := hG.notin hf_1_18_0 (by decide)
  have hf_1_19_0 := hG.notin hf_1_19_0 (by decide)
  have hf_1_20_0 := hG.notin hf_1_20_0 (by decide)
  have hf_1_21_0 := hG.notin hf_1_21_0 (by decide)
  have hf_1_22_0 := hG.notin hf_1_22_0 (by decide)
  have hf_1_23_0 := hG.notin hf_1_23_0 (by decide)
  have hf_1_24_0 := hG.notin hf_1_24_0 (by decide)
  have hf_1_25_0 := hG.notin hf_1_25_0 (by decide)
  have hf_1_26_0 := hG.notin hf_1_26_0 (by decide)
  have hf_1_27_0 := hG.notin hf_1_27_0 (by decide)
  generalize hV29 : g_set V27 (2, 13, 0) (.inl (cy 4, 8, .inl (fun _ => 0))) = V29 at hG
  have hv_0_0_0 : V29 (0, 0, 0) = .inr (9, [.int 0, .int 0, .ref b1, .ref b4, .int 0, .ref b7, .ref b10, .ref b13, .ref b16, .ref b19, .int 0, .ref b22, .ref b25, .null, .null, .null, .null, .null, .null, .null, .null, .null, .null, .null, .null, .null, .null, .null]) := by rw [← hV29, g_set_ne (by decide)]; exact hv_0_0_0
  have hv_1_2_0 : V29 (1, 2, 0) = .inl (cy 0, 100, .inl (fun _ => 0)) := by rw [← hV29, g_set_ne (by decide)]; exact hv_1_2_0
  have hv_1_3_0 : V29 (1, 3, 0) = .inl (cy 0, 500, .inl (fun _ => 0)) := by rw [← hV29, g_set_ne (by decide)]; exact hv_1_3_0
  have hv_1_5_0 : V29 (1, 5, 0) = .inl (cy 0, 40, .inl (fun _ => 0)) := by rw [← hV29, g_set_ne (by decide)]; exact hv_1_5_0
  have hv_1_6_0 : V29 (1, 6, 0) = .inl (cy 0, 40, .inl (fun _ => 0)) := by rw [← hV29, g_set_ne (by decide)]; exact hv_1_6_0
  have hv_1_7_0 : V29 (1, 7, 0) = .inl (cy 0, 40, .inl (fun _ => 0)) := by rw [← hV29, g_set_ne (by decide)]; exact hv_1_7_0
  have hv_1_8_0 : V29 (1, 8, 0) = .inl (cy 0, 40, .inl (fun _ => 0)) := by rw [← hV29, g_set_ne (by decide)]; exact hv_1_8_0
  have hv_2_9_0 : V29 (2, 9, 0) = .inl (cy 4, 40, .inl (fun _ => 0)) := by rw [← hV29, g_set_ne (by decide)]; exact hv_2_9_0
  have hv_1_11_0 : V29 (1, 11, 0) = .inl (cy 0, 8, .inl (fun _ => 0)) := by rw [← hV29, g_set_ne (by decide)]; exact hv_1_11_0
  have hv_1_12_0 : V29 (1, 12, 0) = .inl (cy 0, 8, .inl (fun _ => 0)) := by rw [← hV29, g_set_ne (by decide)]; exact hv_1_12_0
  have hv_2_13_0 : V29 (2, 13, 0) = .inl (cy 4, 8, .inl (fun _ => 0)) := by rw [← hV29, g_set_self]
  have hVo : ∀ y, y ≠ (0, 0, 0) ∧ y ≠ (1, 2, 0) ∧ y ≠ (1, 3, 0) ∧ y ≠ (1, 5, 0) ∧ y ≠ (1, 6, 0) ∧ y ≠ (1, 7, 0) ∧ y ≠ (1, 8, 0) ∧ y ≠ (2, 9, 0) ∧ y ≠ (1, 11, 0) ∧ y ≠ (1, 12, 0) ∧ y ≠ (2, 13, 0) ∧ y ≠ (1, 14, 0) ∧ y ≠ (1, 15, 0) ∧ y ≠ (1, 16, 0) ∧ y ≠ (1, 17, 0) ∧ y ≠ (1, 18, 0) ∧ y ≠ (1, 19, 0) ∧ y ≠ (1, 20, 0) ∧ y ≠ (1, 21, 0) ∧ y ≠ (1, 22, 0) ∧ y ≠ (1, 23, 0) ∧ y ≠ (1, 24, 0) ∧ y ≠ (1, 25, 0) ∧ y ≠ (1, 26, 0) ∧ y ≠ (1, 27, 0) → V29 y = V y := fun y hy => by rw [← hV29, g_set_ne (fun q => hy.2.2.2.2.2.2.2.2.2.2.1 q)]; first | done | exact hVo y hy
  refine h_putF (C := RX7) (T := TX7) (N := 28) (ci := 9) (ty := (tyX7 13)) hx hb hts inX7g tyX7_ok nmX7 hown hK hG hS (0, 0, 0) hd_0_0_0 e_0_0_0 hAa hv_0_0_0 rfl 13 (by decide) fl_X7_38 rfl hin2 rfl (by decide +kernel) rfl rfl (Nat.le_of_ble_eq_true rfl) dX7_init_82 (fun H locs hG hS => ?_)
  have hG : g_H D vwCl _ L28 (g_set V29 (0, 0, 0) (.inr (9, [.int 0, .int 0, .ref b1, .ref b4, .int 0, .ref b7, .ref b10, .ref b13, .ref b16, .ref b19, .int 0, .ref b22, .ref b25, .ref b28, .null, .null, .null, .null, .null, .null, .null, .null, .null, .null, .null, .null, .null, .null]))) H := hG
  generalize hV30 : g_set V29 (0, 0, 0) (.inr (9, [.int 0, .int 0, .ref b1, .ref b4, .int 0, .ref b7, .ref b10, .ref b13, .ref b16, .ref b19, .int 0, .ref b22, .ref b25, .ref b28, .null, .null, .null, .null, .null, .null, .null, .null, .null, .null, .null, .null, .null, .null])) = V30 at hG
  have hv_1_2_0 : V30 (1, 2, 0) = .inl (cy 0, 100, .inl (fun _ => 0)) := by rw [← hV30, g_set_ne (by decide)]; exact hv_1_2_0
  have hv_1_3_0 : V30 (1, 3, 0) = .inl (cy 0, 500, .inl (fun _ => 0)) := by rw [← hV30, g_set_ne (by decide)]; exact hv_1_3_0
  have hv_1_5_0 : V30 (1, 5, 0) = .inl (cy 0, 40, .inl (fun _ => 0)) := by rw [← hV30, g_set_ne (by decide)]; exact hv_1_5_0
  have hv_1_6_0 : V30 (1, 6, 0) = .inl (cy 0, 40, .inl (fun _ => 0)) := by rw [← hV30, g_set_ne (by decide)]; exact hv_1_6_0
  have hv_1_7_0 : V30 (1, 7, 0) = .inl (cy 0, 40, .inl (fun _ => 0)) := by rw [← hV30, g_set_ne (by decide)]; exact hv_1_7_0
  have hv_1_8_0 : V30 (1, 8, 0) = .inl (cy 0, 40, .inl (fun _ => 0)) := by rw [← hV30, g_set_ne (by decide)]; exact hv_1_8_0
  have hv_2_9_0 : V30 (2, 9, 0) = .inl (cy 4, 40, .inl (fun _ => 0)) := by rw [← hV30, g_set_ne (by decide)]; exact hv_2_9_0
  have hv_1_11_0 : V30 (1, 11, 0) = .inl (cy 0, 8, .inl (fun _ => 0)) := by rw [← hV30, g_set_ne (by decide)]; exact hv_1_11_0
  have hv_1_12_0 : V30 (1, 12, 0) = .inl (cy 0, 8, .inl (fun _ => 0)) := by rw [← hV30, g_set_ne (by decide)]; exact hv_1_12_0
  have hv_2_13_0 : V30 (2, 13, 0) = .inl (cy 4, 8, .inl (fun _ => 0)) := by rw [← hV30, g_set_ne (by decide)]; exact hv_2_13_0
  have hv_0_0_0 : V30 (0, 0, 0) = .inr (9, [.int 0, .int 0, .ref b1, .ref b4, .int 0, .ref b7, .ref b10, .ref b13, .ref b16, .ref b19, .int 0, .ref b22, .ref b25, .ref b28, .null, .null, .null, .null, .null, .null, .null, .null, .null, .null, .null, .null, .null, .null]) := by rw [← hV30, g_set_self]
  have hVo : ∀ y, y ≠ (0, 0, 0) ∧ y ≠ (1, 2, 0) ∧ y ≠ (1, 3, 0) ∧ y ≠ (1, 5, 0) ∧ y ≠ (1, 6, 0) ∧ y ≠ (1, 7, 0) ∧ y ≠ (1, 8, 0) ∧ y ≠ (2, 9, 0) ∧ y ≠ (1, 11, 0) ∧ y ≠ (1, 12, 0) ∧ y ≠ (2, 13, 0) ∧ y ≠ (1, 14, 0) ∧ y ≠ (1, 15, 0) ∧ y ≠ (1, 16, 0) ∧ y ≠ (1, 17, 0) ∧ y ≠ (1, 18, 0) ∧ y ≠ (1, 19, 0) ∧ y ≠ (1, 20, 0) ∧ y ≠ (1, 21, 0) ∧ y ≠ (1, 22, 0) ∧ y ≠ (1, 23, 0) ∧ y ≠ (1, 24, 0) ∧ y ≠ (1, 25, 0) ∧ y ≠ (1, 26, 0) ∧ y ≠ (1, 27, 0) → V30 y = V y := fun y hy => by rw [← hV30, g_set_ne (fun q => hy.1 q)]; first | done | exact hVo y hy
  refine lv_aload_n hx hb dX7_init_85 rfl (lv_at hl 0 rfl) ?_
  refine lv_bipush (v := 8) hx hb dX7_init_86 (by decide) ?_
  refine h_newa (harr := hts _ ac_int) (atype := .int) (ty := .int) (a0 := (8, .inl (fun _ => 0))) hx hb rfl (fun C h => by cases h) hK 0 rfl hG hS (1, 14, 0) hf_1_14_0 rfl (by decide) rfl (by decide) (Nat.le_of_ble_eq_true rfl) (Nat.le_of_ble_eq_true rfl) dX7_init_88 (fun L31 b31 H hL9 e_1_14_0 ha31 hG hS hz9 o9 => ?_)
  have hs_1_2_0 : s.heap.size ≤ L31 (1, 2, 0) := by rw [hL9 _ hd_1_2_0]; exact hs_1_2_0
  have hs_1_3_0 : s.heap.size ≤ L31 (1, 3, 0) := by rw [hL9 _ hd_1_3_0]; exact hs_1_3_0
  have hs_1_5_0 : s.heap.size ≤ L31 (1, 5, 0) := by rw [hL9 _ hd_1_5_0]; exact hs_1_5_0
  have hs_1_6_0 : s.heap.size ≤ L31 (1, 6, 0) := by rw [hL9 _ hd_1_6_0]; exact hs_1_6_0
  have hs_1_7_0 : s.heap.size ≤ L31 (1, 7, 0) := by rw [hL9 _ hd_1_7_0]; exact hs_1_7_0
  have hs_1_8_0 : s.heap.size ≤ L31 (1, 8, 0) := by rw [hL9 _ hd_1_8_0]; exact hs_1_8_0
  have hs_2_9_0 : s.heap.size ≤ L31 (2, 9, 0) := by rw [hL9 _ hd_2_9_0]; exact hs_2_9_0
  have hs_1_11_0 : s.heap.size ≤ L31 (1, 11, 0) := by rw [hL9 _ hd_1_11_0]; exact hs_1_11_0
  have hs_1_12_0 : s.heap.size ≤ L31 (1, 12, 0) := by rw [hL9 _ hd_1_12_0]; exact hs_1_12_0
  have hs_2_13_0 : s.heap.size ≤ L31 (2, 13, 0) := by rw [hL9 _ hd_2_13_0]; exact hs_2_13_0
  have hs_1_14_0 : s.heap.size ≤ L31 (1, 14, 0) := by rw [e_1_14_0]; exact ha31
  have e_0_0_0 := (hL9 _ hd_0_0_0).trans e_0_0_0
  have e_1_2_0 := (hL9 _ hd_1_2_0).trans e_1_2_0
  have e_1_3_0 := (hL9 _ hd_1_3_0).trans e_1_3_0
  have e_1_5_0 := (hL9 _ hd_1_5_0).trans e_1_5_0
  have e_1_6_0 := (hL9 _ hd_1_6_0).trans e_1_6_0
  have e_1_7_0 := (hL9 _ hd_1_7_0).trans e_1_7_0
  have e_1_8_0 := (hL9 _ hd_1_8_0).trans e_1_8_0
  have e_2_9_0 := (hL9 _ hd_2_9_0).trans e_2_9_0
  have e_1_11_0 := (hL9 _ hd_1_11_0).trans e_1_11_0
  have e_1_12_0 := (hL9 _ hd_1_12_0).trans e_1_12_0
  have e_2_13_0 := (hL9 _ hd_2_13_0).trans e_2_13_0
  have hLL := fun y (hy : dom y) => (hL9 y (hdd y hy)).trans (hLL y hy)
  have hdd := fun y (hy : dom y) => hG.inO (hdd y hy)
  have hd_0_0_0 := hG.inO hd_0_0_0
  have hd_1_2_0 := hG.inO hd_1_2_0
  have hd_1_3_0 := hG.inO hd_1_3_0
  have hd_1_5_0 := hG.inO hd_1_5_0
  have hd_1_6_0 := hG.inO hd_1_6_0
  have hd_1_7_0 := hG.inO hd_1_7_0
  have hd_1_8_0 := hG.inO hd_1_8_0
  have hd_2_9_0 := hG.inO hd_2_9_0
  have hd_1_11_0 := hG.inO hd_1_11_0
  have hd_1_12_0 := hG.inO hd_1_12_0
  have hd_2_13_0 := hG.inO hd_2_13_0
  have hd_1_14_0 := hG.inX
  have hf_1_15_0 := hG.notin hf_1_15_0 (by decide)
  have hf_1_16_0 := hG.notin hf_1_16_0 (by decide)
  have hf_1_17_0 := hG.notin hf_1_17_0 (by decide)
  have hf_1_18_0 := hG.notin hf_1_18_0 (by decide)
  have hf_1_19_0 := hG.notin hf_1_19_0 (by decide)
  have hf_1_20_0 := hG.notin hf_1_20_0 (by decide)
  have hf_1_21_0 := hG.notin hf_1_21_0 (by decide)
  have hf_1_22_0 := hG.notin hf_1_22_0 (by decide)
  have hf_1_23_0 := hG.notin hf_1_23_0 (by decide)
  have hf_1_24_0 := hG.notin hf_1_24_0 (by decide)
  have hf_1_25_0 := hG.notin hf_1_25_0 (by decide)
  have hf_1_26_0 := hG.notin hf_1_26_0 (by decide)
  have hf_1_27_0 := hG.notin hf_1_27_0 (by decide)
  generalize hV32 : g_set V30 (1, 14, 0) (.inl (cy 0, 8, .inl (fun _ => 0))) = V32 at hG
  have hv_0_0_0 : V32 (0, 0, 0) = .inr (9, [.int 0, .int 0, .ref b1, .ref b4, .int 0, .ref b7, .ref b10, .ref b13, .ref b16, .ref b19, .int 0, .ref b22, .ref b25, .ref b28, .null, .null, .null, .null, .null, .null, .null, .null, .null, .null, .null, .null, .null, .null]) := by rw [← hV32, g_set_ne (by decide)]; exact hv_0_0_0
  have hv_1_2_0 : V32 (1, 2, 0) = .inl (cy 0, 100, .inl (fun _ => 0)) := by rw [← hV32, g_set_ne (by decide)]; exact hv_1_2_0
  have hv_1_3_0 : V32 (1, 3, 0) = .inl (cy 0, 500, .inl (fun _ => 0)) := by rw [← hV32, g_set_ne (by decide)]; exact hv_1_3_0
  have hv_1_5_0 : V32 (1, 5, 0) = .inl (cy 0, 40, .inl (fun _ => 0)) := by rw [← hV32, g_set_ne (by decide)]; exact hv_1_5_0
  have hv_1_6_0 : V32 (1, 6, 0) = .inl (cy 0, 40, .inl (fun _ => 0)) := by rw [← hV32, g_set_ne (by decide)]; exact hv_1_6_0
  have hv_1_7_0 : V32 (1, 7, 0) = .inl (cy 0, 40, .inl (fun _ => 0)) := by rw [← hV32, g_set_ne (by decide)]; exact hv_1_7_0
  have hv_1_8_0 : V32 (1, 8, 0) = .inl (cy 0, 40, .inl (fun _ => 0)) := by rw [← hV32, g_set_ne (by decide)]; exact hv_1_8_0
  have hv_2_9_0 : V32 (2, 9, 0) = .inl (cy 4, 40, .inl (fun _ => 0)) := by rw [← hV32, g_set_ne (by decide)]; exact hv_2_9_0
  have hv_1_11_0 : V32 (1, 11, 0) = .inl (cy 0, 8, .inl (fun _ => 0)) := by rw [← hV32, g_set_ne (by decide)]; exact hv_1_11_0
  have hv_1_12_0 : V32 (1, 12, 0) = .inl (cy 0, 8, .inl (fun _ => 0)) := by rw [← hV32, g_set_ne (by decide)]; exact hv_1_12_0
  have hv_2_13_0 : V32 (2, 13, 0) = .inl (cy 4, 8, .inl (fun _ => 0)) := by rw [← hV32, g_set_ne (by decide)]; exact hv_2_13_0
  have hv_1_14_0 : V32 (1, 14, 0) = .inl (cy 0, 8, .inl (fun _ => 0)) := by rw [← hV32, g_set_self]
  have hVo : ∀ y, y ≠ (0, 0, 0) ∧ y ≠ (1, 2, 0) ∧ y ≠ (1, 3, 0) ∧ y ≠ (1, 5, 0) ∧ y ≠ (1, 6, 0) ∧ y ≠ (1, 7, 0) ∧ y ≠ (1, 8, 0) ∧ y ≠ (2, 9, 0) ∧ y ≠ (1, 11, 0) ∧ y ≠ (1, 12, 0) ∧ y ≠ (2, 13, 0) ∧ y ≠ (1, 14, 0) ∧ y ≠ (1, 15, 0) ∧ y ≠ (1, 16, 0) ∧ y ≠ (1, 17, 0) ∧ y ≠ (1, 18, 0) ∧ y ≠ (1, 19, 0) ∧ y ≠ (1, 20, 0) ∧ y ≠ (1, 21, 0) ∧ y ≠ (1, 22, 0) ∧ y ≠ (1, 23, 0) ∧ y ≠ (1, 24, 0) ∧ y ≠ (1, 25, 0) ∧ y ≠ (1, 26, 0) ∧ y ≠ (1, 27, 0) → V32 y = V y := fun y hy => by rw [← hV32, g_set_ne (fun q => hy.2.2.2.2.2.2.2.2.2.2.2.1 q)]; first | done | exact hVo y hy
  refine h_putF (C := RX7) (T := TX7) (N := 28) (ci := 9) (ty := (tyX7 14)) hx hb hts inX7g tyX7_ok nmX7 hown hK hG hS (0, 0, 0) hd_0_0_0 e_0_0_0 hAa hv_0_0_0 rfl 14 (by decide) fl_X7_41 rfl hin2 rfl (by decide +kernel) rfl rfl (Nat.le_of_ble_eq_true rfl) dX7_init_90 (fun H locs hG hS => ?_)
  have hG : g_H D vwCl _ L31 (g_set V32 (0, 0, 0) (.inr (9, [.int 0, .int 0, .ref b1, .ref b4, .int 0, .ref b7, .ref b10, .ref b13, .ref b16, .ref b19, .int 0, .ref b22, .ref b25, .ref b28, .ref b31, .null, .null, .null, .null, .null, .null, .null, .null, .null, .null, .null, .null, .null]))) H := hG
  generalize hV33 : g_set V32 (0, 0, 0) (.inr (9, [.int 0, .int 0, .ref b1, .ref b4, .int 0, .ref b7, .ref b10, .ref b13, .ref b16, .ref b19, .int 0, .ref b22, .ref b25, .ref b28, .ref b31, .null, .null, .null, .null, .null, .null, .null, .null, .null, .null, .null, .null, .null])) = V33 at hG
  have hv_1_2_0 : V33 (1, 2, 0) = .inl (cy 0, 100, .inl (fun _ => 0)) := by rw [← hV33, g_set_ne (by decide)]; exact hv_1_2_0
  have hv_1_3_0 : V33 (1, 3, 0) = .inl (cy 0, 500, .inl (fun _ => 0)) := by rw [← hV33, g_set_ne (by decide)]; exact hv_1_3_0
  have hv_1_5_0 : V33 (1, 5, 0) = .inl (cy 0, 40, .inl (fun _ => 0)) := by rw [← hV33, g_set_ne (by decide)]; exact hv_1_5_0
  have hv_1_6_0 : V33 (1, 6, 0) = .inl (cy 0, 40, .inl (fun _ => 0)) := by rw [← hV33, g_set_ne (by decide)]; exact hv_1_6_0
  have hv_1_7_0 : V33 (1, 7, 0) = .inl (cy 0, 40, .inl (fun _ => 0)) := by rw [← hV33, g_set_ne (by decide)]; exact hv_1_7_0
  have hv_1_8_0 : V33 (1, 8, 0) = .inl (cy 0, 40, .inl (fun _ => 0)) := by rw [← hV33, g_set_ne (by decide)]; exact hv_1_8_0
  have hv_2_9_0 : V33 (2, 9, 0) = .inl (cy 4, 40, .inl (fun _ => 0)) := by rw [← hV33, g_set_ne (by decide)]; exact hv_2_9_0
  have hv_1_11_0 : V33 (1, 11, 0) = .inl (cy 0, 8, .inl (fun _ => 0)) := by rw [← hV33, g_set_ne (by decide)]; exact hv_1_11_0
  have hv_1_12_0 : V33 (1, 12, 0) = .inl (cy 0, 8, .inl (fun _ => 0)) := by rw [← hV33, g_set_ne (by decide)]; exact hv_1_12_0
  have hv_2_13_0 : V33 (2, 13, 0) = .inl (cy 4, 8, .inl (fun _ => 0)) := by rw [← hV33, g_set_ne (by decide)]; exact hv_2_13_0
  have hv_1_14_0 : V33 (1, 14, 0) = .inl (cy 0, 8, .inl (fun _ => 0)) := by rw [← hV33, g_set_ne (by decide)]; exact hv_1_14_0
  have hv_0_0_0 : V33 (0, 0, 0) = .inr (9, [.int 0, .int 0, .ref b1, .ref b4, .int 0, .ref b7, .ref b10, .ref b13, .ref b16, .ref b19, .int 0, .ref b22, .ref b25, .ref b28, .ref b31, .null, .null, .null, .null, .null, .null, .null, .null, .null, .null, .null, .null, .null]) := by rw [← hV33, g_set_self]
  have hVo : ∀ y, y ≠ (0, 0, 0) ∧ y ≠ (1, 2, 0) ∧ y ≠ (1, 3, 0) ∧ y ≠ (1, 5, 0) ∧ y ≠ (1, 6, 0) ∧ y ≠ (1, 7, 0) ∧ y ≠ (1, 8, 0) ∧ y ≠ (2, 9, 0) ∧ y ≠ (1, 11, 0) ∧ y ≠ (1, 12, 0) ∧ y ≠ (2, 13, 0) ∧ y ≠ (1, 14, 0) ∧ y ≠ (1, 15, 0) ∧ y ≠ (1, 16, 0) ∧ y ≠ (1, 17, 0) ∧ y ≠ (1, 18, 0) ∧ y ≠ (1, 19, 0) ∧ y ≠ (1, 20, 0) ∧ y ≠ (1, 21, 0) ∧ y ≠ (1, 22, 0) ∧ y ≠ (1, 23, 0) ∧ y ≠ (1, 24, 0) ∧ y ≠ (1, 25, 0) ∧ y ≠ (1, 26, 0) ∧ y ≠ (1, 27, 0) → V33 y = V y := fun y hy => by rw [← hV33, g_set_ne (fun q => hy.1 q)]; first | done | exact hVo y hy
  refine lv_aload_n hx hb dX7_init_93 rfl (lv_at hl 0 rfl) ?_
  refine lv_bipush (v := 8) hx hb dX7_init_94 (by decide) ?_
  refine h_newa (harr := hts _ ac_int) (atype := .int) (ty := .int) (a0 := (8, .inl (fun _ => 0))) hx hb rfl (fun C h => by cases h) hK 0 rfl hG hS (1, 15, 0) hf_1_15_0 rfl (by decide) rfl (by decide) (Nat.le_of_ble_eq_true rfl) (Nat.le_of_ble_eq_true rfl) dX7_init_96 (fun L34 b34 H hL9 e_1_15_0 ha34 hG hS hz9 o9 => ?_)
  have hs_1_2_0 : s.heap.size ≤ L34 (1, 2, 0) := by rw [hL9 _ hd_1_2_0]; exact hs_1_2_0
  have hs_1_3_0 : s.heap.size ≤ L34 (1, 3, 0) := by rw [hL9 _ hd_1_3_0]; exact hs_1_3_0
  have hs_1_5_0 : s.heap.size ≤ L34 (1, 5, 0) := by rw [hL9 _ hd_1_5_0]; exact hs_1_5_0
  have hs_1_6_0 : s.heap.size ≤ L34 (1, 6, 0) := by rw [hL9 _ hd_1_6_0]; exact hs_1_6_0
  have hs_1_7_0 : s.heap.size ≤ L34 (1, 7, 0) := by rw [hL9 _ hd_1_7_0]; exact hs_1_7_0
  have hs_1_8_0 : s.heap.size ≤ L34 (1, 8, 0) := by rw [hL9 _ hd_1_8_0]; exact hs_1_8_0
  have hs_2_9_0 : s.heap.size ≤ L34 (2, 9, 0) := by rw [hL9 _ hd_2_9_0]; exact hs_2_9_0
  have hs_1_11_0 : s.heap.size ≤ L34 (1, 11, 0) := by rw [hL9 _ hd_1_11_0]; exact hs_1_11_0
  have hs_1_12_0 : s.heap.size ≤ L34 (1, 12, 0) := by rw [hL9 _ hd_1_12_0]; exact hs_1_12_0
  have hs_2_13_0 : s.heap.size ≤ L34 (2, 13, 0) := by rw [hL9 _ hd_2_13_0]; exact hs_2_13_0
  have hs_1_14_0 : s.heap.size ≤ L34 (1, 14, 0) := by rw [hL9 _ hd_1_14_0]; exact hs_1_14_0
  have hs_1_15_0 : s.heap.size ≤ L34 (1, 15, 0) := by rw [e_1_15_0]; exact ha34
  have e_0_0_0 := (hL9 _ hd_0_0_0).trans e_0_0_0
  have e_1_2_0 := (hL9 _ hd_1_2_0).trans e_1_2_0
  have e_1_3_0 := (hL9 _ hd_1_3_0).trans e_1_3_0
  have e_1_5_0 := (hL9 _ hd_1_5_0).trans e_1_5_0
  have e_1_6_0 := (hL9 _ hd_1_6_0).trans e_1_6_0
  have e_1_7_0 := (hL9 _ hd_1_7_0).trans e_1_7_0
  have e_1_8_0 := (hL9 _ hd_1_8_0).trans e_1_8_0
  have e_2_9_0 := (hL9 _ hd_2_9_0).trans e_2_9_0
  have e_1_11_0 := (hL9 _ hd_1_11_0).trans e_1_11_0
  have e_1_12_0 := (hL9 _ hd_1_12_0).trans e_1_12_0
  have e_2_13_0 := (hL9 _ hd_2_13_0).trans e_2_13_0
  have e_1_14_0 := (hL9 _ hd_1_14_0).trans e_1_14_0
  have hLL := fun y (hy : dom y) => (hL9 y (hdd y hy)).trans (hLL y hy)
  have hdd := fun y (hy : dom y) => hG.inO (hdd y hy)
  have hd_0_0_0 := hG.inO hd_0_0_0
  have hd_1_2_0 := hG.inO hd_1_2_0
  have hd_1_3_0 := hG.inO hd_1_3_0
  have hd_1_5_0 := hG.inO hd_1_5_0
  have hd_1_6_0 := hG.inO hd_1_6_0
  have hd_1_7_0 := hG.inO hd_1_7_0
  have hd_1_8_0 := hG.inO hd_1_8_0
  have hd_2_9_0 := hG.inO hd_2_9_0
  have hd_1_11_0 := hG.inO hd_1_11_0
  have hd_1_12_0 := hG.inO hd_1_12_0
  have hd_2_13_0 := hG.inO hd_2_13_0
  have hd_1_14_0 := hG.inO hd_1_14_0
  have hd_1_15_0 := hG.inX
  have hf_1_16_0 := hG.notin hf_1_16_0 (by decide)
  have hf_1_17_0 := hG.notin hf_1_17_0 (by decide)
  have hf_1_18_0 := hG.notin hf_1_18_0 (by decide)
  have hf_1_19_0 := hG.notin hf_1_19_0 (by decide)
  have hf_1_20_0 := hG.notin hf_1_20_0 (by decide)
  have hf_1_21_0 := hG.notin hf_1_21_0 (by decide)
  have hf_1_22_0 := hG.notin hf_1_22_0 (by decide)
  have hf_1_23_0 := hG.notin hf_1_23_0 (by decide)
  have hf_1_24_0 := hG.notin hf_1_24_0 (by decide)
  have hf_1_25_0 := hG.notin hf_1_25_0 (by decide)
  have hf_1_26_0 := hG.notin hf_1_26_0 (by decide)
  have hf_1_27_0 := hG.notin hf_1_27_0 (by decide)
  generalize hV35 : g_set V33 (1, 15, 0) (.inl (cy 0, 8, .inl (fun _ => 0))) = V35 at hG
  have hv_0_0_0 : V35 (0, 0, 0) = .inr (9, [.int 0, .int 0, .ref b1, .ref b4, .int 0, .ref b7, .ref b10, .ref b13, .ref b16, .ref b19, .int 0, .ref b22, .ref b25, .ref b28, .ref b31, .null, .null, .null, .null, .null, .null, .null, .null, .null, .null, .null, .null, .null]) := by rw [← hV35, g_set_ne (by decide)]; exact hv_0_0_0
  have hv_1_2_0 : V35 (1, 2, 0) = .inl (cy 0, 100, .inl (fun _ => 0)) := by rw [← hV35, g_set_ne (by decide)]; exact hv_1_2_0
  have hv_1_3_0 : V35 (1, 3, 0) = .inl (cy 0, 500, .inl (fun _ => 0)) := by rw [← hV35, g_set_ne (by decide)]; exact hv_1_3_0
  have hv_1_5_0 : V35 (1, 5, 0) = .inl (cy 0, 40, .inl (fun _ => 0)) := by rw [← hV35, g_set_ne (by decide)]; exact hv_1_5_0
  have hv_1_6_0 : V35 (1, 6, 0) = .inl (cy 0, 40, .inl (fun _ => 0)) := by rw [← hV35, g_set_ne (by decide)]; exact hv_1_6_0
  have hv_1_7_0 : V35 (1, 7, 0) = .inl (cy 0, 40, .inl (fun _ => 0)) := by rw [← hV35, g_set_ne (by decide)]; exact hv_1_7_0
  have hv_1_8_0 : V35 (1, 8, 0) = .inl (cy 0, 40, .inl (fun _ => 0)) := by rw [← hV35, g_set_ne (by decide)]; exact hv_1_8_0
  have hv_2_9_0 : V35 (2, 9, 0) = .inl (cy 4, 40, .inl (fun _ => 0)) := by rw [← hV35, g_set_ne (by decide)]; exact hv_2_9_0
  have hv_1_11_0 : V35 (1, 11, 0) = .inl (cy 0, 8, .inl (fun _ => 0)) := by rw [← hV35, g_set_ne (by decide)]; exact hv_1_11_0
  have hv_1_12_0 : V35 (1, 12, 0) = .inl (cy 0, 8, .inl (fun _ => 0)) := by rw [← hV35, g_set_ne (by decide)]; exact hv_1_12_0
  have hv_2_13_0 : V35 (2, 13, 0) = .inl (cy 4, 8, .inl (fun _ => 0)) := by rw [← hV35, g_set_ne (by decide)]; exact hv_2_13_0
  have hv_1_14_0 : V35 (1, 14, 0) = .inl (cy 0, 8, .inl (fun _ => 0)) := by rw [← hV35, g_set_ne (by decide)]; exact hv_1_14_0
  have hv_1_15_0 : V35 (1, 15, 0) = .inl (cy 0, 8, .inl (fun _ => 0)) := by rw [← hV35, g_set_self]
  have hVo : ∀ y, y ≠ (0, 0, 0) ∧ y ≠ (1, 2, 0) ∧ y ≠ (1, 3, 0) ∧ y ≠ (1, 5, 0) ∧ y ≠ (1, 6, 0) ∧ y ≠ (1, 7, 0) ∧ y ≠ (1, 8, 0) ∧ y ≠ (2, 9, 0) ∧ y ≠ (1, 11, 0) ∧ y ≠ (1, 12, 0) ∧ y ≠ (2, 13, 0) ∧ y ≠ (1, 14, 0) ∧ y ≠ (1, 15, 0) ∧ y ≠ (1, 16, 0) ∧ y ≠ (1, 17, 0) ∧ y ≠ (1, 18, 0) ∧ y ≠ (1, 19, 0) ∧ y ≠ (1, 20, 0) ∧ y ≠ (1, 21, 0) ∧ y ≠ (1, 22, 0) ∧ y ≠ (1, 23, 0) ∧ y ≠ (1, 24, 0) ∧ y ≠ (1, 25, 0) ∧ y ≠ (1, 26, 0) ∧ y ≠ (1, 27, 0) → V35 y = V y := fun y hy => by rw [← hV35, g_set_ne (fun q => hy.2.2.2.2.2.2.2.2.2.2.2.2.1 q)]; first | done | exact hVo y hy
  refine h_putF (C := RX7) (T := TX7) (N := 28) (ci := 9) (ty := (tyX7 15)) hx hb hts inX7g tyX7_ok nmX7 hown hK hG hS (0, 0, 0) hd_0_0_0 e_0_0_0 hAa hv_0_0_0 rfl 15 (by decide) fl_X7_44 rfl hin2 rfl (by decide +kernel) rfl rfl (Nat.le_of_ble_eq_true rfl) dX7_init_98 (fun H locs hG hS => ?_)
  have hG : g_H D vwCl _ L34 (g_set V35 (0, 0, 0) (.inr (9, [.int 0, .int 0, .ref b1, .ref b4, .int 0, .ref b7, .ref b10, .ref b13, .ref b16, .ref b19, .int 0, .ref b22, .ref b25, .ref b28, .ref b31, .ref b34, .null, .null, .null, .null, .null, .null, .null, .null, .null, .null, .null, .null]))) H := hG
  generalize hV36 : g_set V35 (0, 0, 0) (.inr (9, [.int 0, .int 0, .ref b1, .ref b4, .int 0, .ref b7, .ref b10, .ref b13, .ref b16, .ref b19, .int 0, .ref b22, .ref b25, .ref b28, .ref b31, .ref b34, .null, .null, .null, .null, .null, .null, .null, .null, .null, .null, .null, .null])) = V36 at hG
  have hv_1_2_0 : V36 (1, 2, 0) = .inl (cy 0, 100, .inl (fun _ => 0)) := by rw [← hV36, g_set_ne (by decide)]; exact hv_1_2_0
  have hv_1_3_0 : V36 (1, 3, 0) = .inl (cy 0, 500, .inl (fun _ => 0)) := by rw [← hV36, g_set_ne (by decide)]; exact hv_1_3_0
  have hv_1_5_0 : V36 (1, 5, 0) = .inl (cy 0, 40, .inl (fun _ => 0)) := by rw [← hV36, g_set_ne (by decide)]; exact hv_1_5_0
  have hv_1_6_0 : V36 (1, 6, 0) = .inl (cy 0, 40, .inl (fun _ => 0)) := by rw [← hV36, g_set_ne (by decide)]; exact hv_1_6_0
  have hv_1_7_0 : V36 (1, 7, 0) = .inl (cy 0, 40, .inl (fun _ => 0)) := by rw [← hV36, g_set_ne (by decide)]; exact hv_1_7_0
  have hv_1_8_0 : V36 (1, 8, 0) = .inl (cy 0, 40, .inl (fun _ => 0)) := by rw [← hV36, g_set_ne (by decide)]; exact hv_1_8_0
  have hv_2_9_0 : V36 (2, 9, 0) = .inl (cy 4, 40, .inl (fun _ => 0)) := by rw [← hV36, g_set_ne (by decide)]; exact hv_2_9_0
  have hv_1_11_0 : V36 (1, 11, 0) = .inl (cy 0, 8, .inl (fun _ => 0)) := by rw [← hV36, g_set_ne (by decide)]; exact hv_1_11_0
  have hv_1_12_0 : V36 (1, 12, 0) = .inl (cy 0, 8, .inl (fun _ => 0)) := by rw [← hV36, g_set_ne (by decide)]; exact hv_1_12_0
  have hv_2_13_0 : V36 (2, 13, 0) = .inl (cy 4, 8, .inl (fun _ => 0)) := by rw [← hV36, g_set_ne (by decide)]; exact hv_2_13_0
  have hv_1_14_0 : V36 (1, 14, 0) = .inl (cy 0, 8, .inl (fun _ => 0)) := by rw [← hV36, g_set_ne (by decide)]; exact hv_1_14_0
  have hv_1_15_0 : V36 (1, 15, 0) = .inl (cy 0, 8, .inl (fun _ => 0)) := by rw [← hV36, g_set_ne (by decide)]; exact hv_1_15_0
  have hv_0_0_0 : V36 (0, 0, 0) = .inr (9, [.int 0, .int 0, .ref b1, .ref b4, .int 0, .ref b7, .ref b10, .ref b13, .ref b16, .ref b19, .int 0, .ref b22, .ref b25, .ref b28, .ref b31, .ref b34, .null, .null, .null, .null, .null, .null, .null, .null, .null, .null, .null, .null]) := by rw [← hV36, g_set_self]
  have hVo : ∀ y, y ≠ (0, 0, 0) ∧ y ≠ (1, 2, 0) ∧ y ≠ (1, 3, 0) ∧ y ≠ (1, 5, 0) ∧ y ≠ (1, 6, 0) ∧ y ≠ (1, 7, 0) ∧ y ≠ (1, 8, 0) ∧ y ≠ (2, 9, 0) ∧ y ≠ (1, 11, 0) ∧ y ≠ (1, 12, 0) ∧ y ≠ (2, 13, 0) ∧ y ≠ (1, 14, 0) ∧ y ≠ (1, 15, 0) ∧ y ≠ (1, 16, 0) ∧ y ≠ (1, 17, 0) ∧ y ≠ (1, 18, 0) ∧ y ≠ (1, 19, 0) ∧ y ≠ (1, 20, 0) ∧ y ≠ (1, 21, 0) ∧ y ≠ (1, 22, 0) ∧ y ≠ (1, 23, 0) ∧ y ≠ (1, 24, 0) ∧ y ≠ (1, 25, 0) ∧ y ≠ (1, 26, 0) ∧ y ≠ (1, 27, 0) → V36 y = V y := fun y hy => by rw [← hV36, g_set_ne (fun q => hy.1 q)]; first | done | exact hVo y hy
  refine lv_aload_n hx hb dX7_init_101 rfl (lv_at hl 0 rfl) ?_
  refine lv_bipush (v := 40) hx hb dX7_init_102 (by decide) ?_
  refine h_newa (harr := hts _ ac_int) (atype := .int) (ty := .int) (a0 := (40, .inl (fun _ => 0))) hx hb rfl (fun C h => by cases h) hK 0 rfl hG hS (1, 16, 0) hf_1_16_0 rfl (by decide) rfl (by decide) (Nat.le_of_ble_eq_true rfl) (Nat.le_of_ble_eq_true rfl) dX7_init_104 (fun L37 b37 H hL9 e_1_16_0 ha37 hG hS hz9 o9 => ?_)
  have hs_1_2_0 : s.heap.size ≤ L37 (1, 2, 0) := by rw [hL9 _ hd_1_2_0]; exact hs_1_2_0
  have hs_1_3_0 : s.heap.size ≤ L37 (1, 3, 0) := by rw [hL9 _ hd_1_3_0]; exact hs_1_3_0
  have hs_1_5_0 : s.heap.size ≤ L37 (1, 5, 0) := by rw [hL9 _ hd_1_5_0]; exact hs_1_5_0
  have hs_1_6_0 : s.heap.size ≤ L37 (1, 6, 0) := by rw [hL9 _ hd_1_6_0]; exact hs_1_6_0
  have hs_1_7_0 : s.heap.size ≤ L37 (1, 7, 0) := by rw [hL9 _ hd_1_7_0]; exact hs_1_7_0
  have hs_1_8_0 : s.heap.size ≤ L37 (1, 8, 0) := by rw [hL9 _ hd_1_8_0]; exact hs_1_8_0
  have hs_2_9_0 : s.heap.size ≤ L37 (2, 9, 0) := by rw [hL9 _ hd_2_9_0]; exact hs_2_9_0
  have hs_1_11_0 : s.heap.size ≤ L37 (1, 11, 0) := by rw [hL9 _ hd_1_11_0]; exact hs_1_11_0
  have hs_1_12_0 : s.heap.size ≤ L37 (1, 12, 0) := by rw [hL9 _ hd_1_12_0]; exact hs_1_12_0
  have hs_2_13_0 : s.heap.size ≤ L37 (2, 13, 0) := by rw [hL9 _ hd_2_13_0]; exact hs_2_13_0
  have hs_1_14_0 : s.heap.size ≤ L37 (1, 14, 0) := by rw [hL9 _ hd_1_14_0]; exact hs_1_14_0
  have hs_1_15_0 : s.heap.size ≤ L37 (1, 15, 0) := by rw [hL9 _ hd_1_15_0]; exact hs_1_15_0
  have hs_1_16_0 : s.heap.size ≤ L37 (1, 16, 0) := by rw [e_1_16_0]; exact ha37
  have e_0_0_0 := (hL9 _ hd_0_0_0).trans e_0_0_0
  have e_1_2_0 := (hL9 _ hd_1_2_0).trans e_1_2_0
  have e_1_3_0 := (hL9 _ hd_1_3_0).trans e_1_3_0
  have e_1_5_0 := (hL9 _ hd_1_5_0).trans e_1_5_0
  have e_1_6_0 := (hL9 _ hd_1_6_0).trans e_1_6_0
  have e_1_7_0 := (hL9 _ hd_1_7_0).trans e_1_7_0
  have e_1_8_0 := (hL9 _ hd_1_8_0).trans e_1_8_0
  have e_2_9_0 := (hL9 _ hd_2_9_0).trans e_2_9_0
  have e_1_11_0 := (hL9 _ hd_1_11_0).trans e_1_11_0
  have e_1_12_0 := (hL9 _ hd_1_12_0).trans e_1_12_0
  have e_2_13_0 := (hL9 _ hd_2_13_0).trans e_2_13_0
  have e_1_14_0 := (hL9 _ hd_1_14_0).trans e_1_14_0
  have e_1_15_0 := (hL9 _ hd_1_15_0).trans e_1_15_0
  have hLL := fun y (hy : dom y) => (hL9 y (hdd y hy)).trans (hLL y hy)
  have hdd := fun y (hy : dom y) => hG.inO (hdd y hy)
  have hd_0_0_0 := hG.inO hd_0_0_0
  have hd_1_2_0 := hG.inO hd_1_2_0
  have hd_1_3_0 := hG.inO hd_1_3_0
  have hd_1_5_0 := hG.inO hd_1_5_0
  have hd_1_6_0 := hG.inO hd_1_6_0
  have hd_1_7_0 := hG.inO hd_1_7_0
  have hd_1_8_0 := hG.inO hd_1_8_0
  have hd_2_9_0 := hG.inO hd_2_9_0
  have hd_1_11_0 := hG.inO hd_1_11_0
  have hd_1_12_0 := hG.inO hd_1_12_0
  have hd_2_13_0 := hG.inO hd_2_13_0
  have hd_1_14_0 := hG.inO hd_1_14_0
  have hd_1_15_0 := hG.inO hd_1_15_0
  have hd_1_16_0 := hG.inX
  have hf_1_17_0 := hG.notin hf_1_17_0 (by decide)
  have hf_1_18_0 := hG.notin hf_1_18_0 (by decide)
  have hf_1_19_0 := hG.notin hf_1_19_0 (by decide)
  have hf_1_20_0 := hG.notin hf_1_20_0 (by decide)
  have hf_1_21_0 := hG.notin hf_1_21_0 (by decide)
  have hf_1_22_0 := hG.notin hf_1_22_0 (by decide)
  have hf_1_23_0 := hG.notin hf_1_23_0 (by decide)
  have hf_1_24_0 := hG.notin hf_1_24_0 (by decide)
  have hf_1_25_0 := hG.notin hf_1_25_0 (by decide)
  have hf_1_26_0 := hG.notin hf_1_26_0 (by decide)
  have hf_1_27_0 := hG.notin hf_1_27_0 (by decide)
  generalize hV38 : g_set V36 (1, 16, 0) (.inl (cy 0, 40, .inl (fun _ => 0))) = V38 at hG
  have hv_0_0_0 : V38 (0, 0, 0) = .inr (9, [.int 0, .int 0, .ref b1, .ref b4, .int 0, .ref b7, .ref b10, .ref b13, .ref b16, .ref b19, .int 0, .ref b22, .ref b25, .ref b28, .ref b31, .ref b34, .null, .null, .null, .null, .null, .null, .null, .null, .null, .null, .null, .null]) := by rw [← hV38, g_set_ne (by decide)]; exact hv_0_0_0
  have hv_1_2_0 : V38 (1, 2, 0) = .inl (cy 0, 100, .inl (fun _ => 0)) := by rw [← hV38, g_set_ne (by decide)]; exact hv_1_2_0
  have hv_1_3_0 : V38 (1, 3, 0) = .inl (cy 0, 500, .inl (fun _ => 0)) := by rw [← hV38, g_set_ne (by decide)]; exact hv_1_3_0
  have hv_1_5_0 : V38 (1, 5, 0) = .inl (cy 0, 40, .inl (fun _ => 0)) := by rw [← hV38, g_set_ne (by decide)]; exact hv_1_5_0
  have hv_1_6_0 : V38 (1, 6, 0) = .inl (cy 0, 40, .inl (fun _ => 0)) := by rw [← hV38, g_set_ne (by decide)]; exact hv_1_6_0
  have hv_1_7_0 : V38 (1, 7, 0) = .inl (cy 0, 40, .inl (fun _ => 0)) := by rw [← hV38, g_set_ne (by decide)]; exact hv_1_7_0
  have hv_1_8_0 : V38 (1, 8, 0) = .inl (cy 0, 40, .inl (fun _ => 0)) := by rw [← hV38, g_set_ne (by decide)]; exact hv_1_8_0
  have hv_2_9_0 : V38 (2, 9, 0) = .inl (cy 4, 40, .inl (fun _ => 0)) := by rw [← hV38, g_set_ne (by decide)]; exact hv_2_9_0
  have hv_1_11_0 : V38 (1, 11, 0) = .inl (cy 0, 8, .inl (fun _ => 0)) := by rw [← hV38, g_set_ne (by decide)]; exact hv_1_11_0
  have hv_1_12_0 : V38 (1, 12, 0) = .inl (cy 0, 8, .inl (fun _ => 0)) := by rw [← hV38, g_set_ne (by decide)]; exact hv_1_12_0
  have hv_2_13_0 : V38 (2, 13, 0) = .inl (cy 4, 8, .inl (fun _ => 0)) := by rw [← hV38, g_set_ne (by decide)]; exact hv_2_13_0
  have hv_1_14_0 : V38 (1, 14, 0) = .inl (cy 0, 8, .inl (fun _ => 0)) := by rw [← hV38, g_set_ne (by decide)]; exact hv_1_14_0
  have hv_1_15_0 : V38 (1, 15, 0) = .inl (cy 0, 8, .inl (fun _ => 0)) := by rw [← hV38, g_set_ne (by decide)]; exact hv_1_15_0
  have hv_1_16_0 : V38 (1, 16, 0) = .inl (cy 0, 40, .inl (fun _ => 0)) := by rw [← hV38, g_set_self]
  have hVo : ∀ y, y ≠ (0, 0, 0) ∧ y ≠ (1, 2, 0) ∧ y ≠ (1, 3, 0) ∧ y ≠ (1, 5, 0) ∧ y ≠ (1, 6, 0) ∧ y ≠ (1, 7, 0) ∧ y ≠ (1, 8, 0) ∧ y ≠ (2, 9, 0) ∧ y ≠ (1, 11, 0) ∧ y ≠ (1, 12, 0) ∧ y ≠ (2, 13, 0) ∧ y ≠ (1, 14, 0) ∧ y ≠ (1, 15, 0) ∧ y ≠ (1, 16, 0) ∧ y ≠ (1, 17, 0) ∧ y ≠ (1, 18, 0) ∧ y ≠ (1, 19, 0) ∧ y ≠ (1, 20, 0) ∧ y ≠ (1, 21, 0) ∧ y ≠ (1, 22, 0) ∧ y ≠ (1, 23, 0) ∧ y ≠ (1, 24, 0) ∧ y ≠ (1, 25, 0) ∧ y ≠ (1, 26, 0) ∧ y ≠ (1, 27, 0) → V38 y = V y := fun y hy => by rw [← hV38, g_set_ne (fun q => hy.2.2.2.2.2.2.2.2.2.2.2.2.2.1 q)]; first | done | exact hVo y hy
  refine h_putF (C := RX7) (T := TX7) (N := 28) (ci := 9) (ty := (tyX7 16)) hx hb hts inX7g tyX7_ok nmX7 hown hK hG hS (0, 0, 0) hd_0_0_0 e_0_0_0 hAa hv_0_0_0 rfl 16 (by decide) fl_X7_47 rfl hin2 rfl (by decide +kernel) rfl rfl (Nat.le_of_ble_eq_true rfl) dX7_init_106 (fun H locs hG hS => ?_)
  have hG : g_H D vwCl _ L37 (g_set V38 (0, 0, 0) (.inr (9, [.int 0, .int 0, .ref b1, .ref b4, .int 0, .ref b7, .ref b10, .ref b13, .ref b16, .ref b19, .int 0, .ref b22, .ref b25, .ref b28, .ref b31, .ref b34, .ref b37, .null, .null, .null, .null, .null, .null, .null, .null, .null, .null, .null]))) H := hG
  generalize hV39 : g_set V38 (0, 0, 0) (.inr (9, [.int 0, .int 0, .ref b1, .ref b4, .int 0, .ref b7, .ref b10, .ref b13, .ref b16, .ref b19, .int 0, .ref b22, .ref b25, .ref b28, .ref b31, .ref b34, .ref b37, .null, .null, .null, .null, .null, .null, .null, .null, .null, .null, .null])) = V39 at hG
  have hv_1_2_0 : V39 (1, 2, 0) = .inl (cy 0, 100, .inl (fun _ => 0)) := by rw [← hV39, g_set_ne (by decide)]; exact hv_1_2_0
  have hv_1_3_0 : V39 (1, 3, 0) = .inl (cy 0, 500, .inl (fun _ => 0)) := by rw [← hV39, g_set_ne (by decide)]; exact hv_1_3_0
  have hv_1_5_0 : V39 (1, 5, 0) = .inl (cy 0, 40, .inl (fun _ => 0)) := by rw [← hV39, g_set_ne (by decide)]; exact hv_1_5_0
  have hv_1_6_0 : V39 (1, 6, 0) = .inl (cy 0, 40, .inl (fun _ => 0)) := by rw [← hV39, g_set_ne (by decide)]; exact hv_1_6_0
  have hv_1_7_0 : V39 (1, 7, 0) = .inl (cy 0, 40, .inl (fun _ => 0)) := by rw [← hV39, g_set_ne (by decide)]; exact hv_1_7_0
  have hv_1_8_0 : V39 (1, 8, 0) = .inl (cy 0, 40, .inl (fun _ => 0)) := by rw [← hV39, g_set_ne (by decide)]; exact hv_1_8_0
  have hv_2_9_0 : V39 (2, 9, 0) = .inl (cy 4, 40, .inl (fun _ => 0)) := by rw [← hV39, g_set_ne (by decide)]; exact hv_2_9_0
  have hv_1_11_0 : V39 (1, 11, 0) = .inl (cy 0, 8, .inl (fun _ => 0)) := by rw [← hV39, g_set_ne (by decide)]; exact hv_1_11_0
  have hv_1_12_0 : V39 (1, 12, 0) = .inl (cy 0, 8, .inl (fun _ => 0)) := by rw [← hV39, g_set_ne (by decide)]; exact hv_1_12_0
  have hv_2_13_0 : V39 (2, 13, 0) = .inl (cy 4, 8, .inl (fun _ => 0)) := by rw [← hV39, g_set_ne (by decide)]; exact hv_2_13_0
  have hv_1_14_0 : V39 (1, 14, 0) = .inl (cy 0, 8, .inl (fun _ => 0)) := by rw [← hV39, g_set_ne (by decide)]; exact hv_1_14_0
  have hv_1_15_0 : V39 (1, 15, 0) = .inl (cy 0, 8, .inl (fun _ => 0)) := by rw [← hV39, g_set_ne (by decide)]; exact hv_1_15_0
  have hv_1_16_0 : V39 (1, 16, 0) = .inl (cy 0, 40, .inl (fun _ => 0)) := by rw [← hV39, g_set_ne (by decide)]; exact hv_1_16_0
  have hv_0_0_0 : V39 (0, 0, 0) = .inr (9, [.int 0, .int 0, .ref b1, .ref b4, .int 0, .ref b7, .ref b10, .ref b13, .ref b16, .ref b19, .int 0, .ref b22, .ref b25, .ref b28, .ref b31, .ref b34, .ref b37, .null, .null, .null, .null, .null, .null, .null, .null, .null, .null, .null]) := by rw [← hV39, g_set_self]
  have hVo : ∀ y, y ≠ (0, 0, 0) ∧ y ≠ (1, 2, 0) ∧ y ≠ (1, 3, 0) ∧ y ≠ (1, 5, 0) ∧ y ≠ (1, 6, 0) ∧ y ≠ (1, 7, 0) ∧ y ≠ (1, 8, 0) ∧ y ≠ (2, 9, 0) ∧ y ≠ (1, 11, 0) ∧ y ≠ (1, 12, 0) ∧ y ≠ (2, 13, 0) ∧ y ≠ (1, 14, 0) ∧ y ≠ (1, 15, 0) ∧ y ≠ (1, 16, 0) ∧ y ≠ (1, 17, 0) ∧ y ≠ (1, 18, 0) ∧ y ≠ (1, 19, 0) ∧ y ≠ (1, 20, 0) ∧ y ≠ (1, 21, 0) ∧ y ≠ (1, 22, 0) ∧ y ≠ (1, 23, 0) ∧ y ≠ (1, 24, 0) ∧ y ≠ (1, 25, 0) ∧ y ≠ (1, 26, 0) ∧ y ≠ (1, 27, 0) → V39 y = V y := fun y hy => by rw [← hV39, g_set_ne (fun q => hy.1 q)]; first | done | exact hVo y hy
  refine lv_aload_n hx hb dX7_init_109 rfl (lv_at hl 0 rfl) ?_
  refine lv_sipush (v := 4000) hx hb dX7_init_110 (by decide) ?_
  refine h_newa (harr := hts _ ac_int) (atype := .int) (ty := .int) (a0 := (4000, .inl (fun _ => 0))) hx hb rfl (fun C h => by cases h) hK 0 rfl hG hS (1, 17, 0) hf_1_17_0 rfl (by decide) rfl (by decide) (Nat.le_of_ble_eq_true rfl) (Nat.le_of_ble_eq_true rfl) dX7_init_113 (fun L40 b40 H hL9 e_1_17_0 ha40 hG hS hz9 o9 => ?_)
  have hs_1_2_0 : s.heap.size ≤ L40 (1, 2, 0) := by rw [hL9 _ hd_1_2_0]; exact hs_1_2_0
  have hs_1_3_0 : s.heap.size ≤ L40 (1, 3, 0) := by rw [hL9 _ hd_1_3_0]; exact hs_1_3_0
  have hs_1_5_0 : s.heap.size ≤ L40 (1, 5, 0) := by rw [hL9 _ hd_1_5_0]; exact hs_1_5_0
  have hs_1_6_0 : s.heap.size ≤ L40 (1, 6, 0) := by rw [hL9 _ hd_1_6_0]; exact hs_1_6_0
  have hs_1_7_0 : s.heap.size ≤ L40 (1, 7, 0) := by rw [hL9 _ hd_1_7_0]; exact hs_1_7_0
  have hs_1_8_0 : s.heap.size ≤ L40 (1, 8, 0) := by rw [hL9 _ hd_1_8_0]; exact hs_1_8_0
  have hs_2_9_0 : s.heap.size ≤ L40 (2, 9, 0) := by rw [hL9 _ hd_2_9_0]; exact hs_2_9_0
  have hs_1_11_0 : s.heap.size ≤ L40 (1, 11, 0) := by rw [hL9 _ hd_1_11_0]; exact hs_1_11_0
  have hs_1_12_0 : s.heap.size ≤ L40 (1, 12, 0) := by rw [hL9 _ hd_1_12_0]; exact hs_1_12_0
  have hs_2_13_0 : s.heap.size ≤ L40 (2, 13, 0) := by rw [hL9 _ hd_2_13_0]; exact hs_2_13_0
  have hs_1_14_0 : s.heap.size ≤ L40 (1, 14, 0) := by rw [hL9 _ hd_1_14_0]; exact hs_1_14_0
  have hs_1_15_0 : s.heap.size ≤ L40 (1, 15, 0) := by rw [hL9 _ hd_1_15_0]; exact hs_1_15_0
  have hs_1_16_0 : s.heap.size ≤ L40 (1, 16, 0) := by rw [hL9 _ hd_1_16_0]; exact hs_1_16_0
  have hs_1_17_0 : s.heap.size ≤ L40 (1, 17, 0) := by rw [e_1_17_0]; exact ha40
  have e_0_0_0 := (hL9 _ hd_0_0_0).trans e_0_0_0
  have e_1_2_0 := (hL9 _ hd_1_2_0).trans e_1_2_0
  have e_1_3_0 := (hL9 _ hd_1_3_0).trans e_1_3_0
  have e_1_5_0 := (hL9 _ hd_1_5_0).trans e_1_5_0
  have e_1_6_0 := (hL9 _ hd_1_6_0).trans e_1_6_0
  have e_1_7_0 := (hL9 _ hd_1_7_0).trans e_1_7_0
  have e_1_8_0 := (hL9 _ hd_1_8_0).trans e_1_8_0
  have e_2_9_0 := (hL9 _ hd_2_9_0).trans e_2_9_0
  have e_1_11_0 := (hL9 _ hd_1_11_0).trans e_1_11_0
  have e_1_12_0 := (hL9 _ hd_1_12_0).trans e_1_12_0
  have e_2_13_0 := (hL9 _ hd_2_13_0).trans e_2_13_0
  have e_1_14_0 := (hL9 _ hd_1_14_0).trans e_1_14_0
  have e_1_15_0 := (hL9 _ hd_1_15_0).trans e_1_15_0
  have e_1_16_0 := (hL9 _ hd_1_16_0).trans e_1_16_0
  have hLL := fun y (hy : dom y) => (hL9 y (hdd y hy)).trans (hLL y hy)
  have hdd := fun y (hy : dom y) => hG.inO (hdd y hy)
  have hd_0_0_0 := hG.inO hd_0_0_0
  have hd_1_2_0 := hG.inO hd_1_2_0
  have hd_1_3_0 := hG.inO hd_1_3_0
  have hd_1_5_0 := hG.inO hd_1_5_0
  have hd_1_6_0 := hG.inO hd_1_6_0
  have hd_1_7_0 := hG.inO hd_1_7_0
  have hd_1_8_0 := hG.inO hd_1_8_0
  have hd_2_9_0 := hG.inO hd_2_9_0
  have hd_1_11_0 := hG.inO hd_1_11_0
  have hd_1_12_0 := hG.inO hd_1_12_0
  have hd_2_13_0 := hG.inO hd_2_13_0
  have hd_1_14_0 := hG.inO hd_1_14_0
  have hd_1_15_0 := hG.inO hd_1_15_0
  have hd_1_16_0 := hG.inO hd_1_16_0
  have hd_1_17_0 := hG.inX
  have hf_1_18_0 := hG.notin hf_1_18_0 (by decide)
  have hf_1_19_0 := hG.notin hf_1_19_0 (by decide)
  have hf_1_20_0 := hG.notin hf_1_20_0 (by decide)
  have hf_1_21_0 := hG.notin hf_1_21_0 (by decide)
  have hf_1_22_0 := hG.notin hf_1_22_0 (by decide)
  have hf_1_23_0 := hG.notin hf_1_23_0 (by decide)
  have hf_1_24_0 := hG.notin hf_1_24_0 (by decide)
  have hf_1_25_0 := hG.notin hf_1_25_0 (by decide)
  have hf_1_26_0 := hG.notin hf_1_26_0 (by decide)
  have hf_1_27_0 := hG.notin hf_1_27_0 (by decide)
  generalize hV41 : g_set V39 (1, 17, 0) (.inl (cy 0, 4000, .inl (fun _ => 0))) = V41 at hG
  have hv_0_0_0 : V41 (0, 0, 0) = .inr (9, [.int 0, .int 0, .ref b1, .ref b4, .int 0, .ref b7, .ref b10, .ref b13, .ref b16, .ref b19, .int 0, .ref b22, .ref b25, .ref b28, .ref b31, .ref b34, .ref b37, .null, .null, .null, .null, .null, .null, .null, .null, .null, .null, .null]) := by rw [← hV41, g_set_ne (by decide)]; exact hv_0_0_0
  have hv_1_2_0 : V41 (1, 2, 0) = .inl (cy 0, 100, .inl (fun _ => 0)) := by rw [← hV41, g_set_ne (by decide)]; exact hv_1_2_0
  have hv_1_3_0 : V41 (1, 3, 0) = .inl (cy 0, 500, .inl (fun _ => 0)) := by rw [← hV41, g_set_ne (by decide)]; exact hv_1_3_0
  have hv_1_5_0 : V41 (1, 5, 0) = .inl (cy 0, 40, .inl (fun _ => 0)) := by rw [← hV41, g_set_ne (by decide)]; exact hv_1_5_0
  have hv_1_6_0 : V41 (1, 6, 0) = .inl (cy 0, 40, .inl (fun _ => 0)) := by rw [← hV41, g_set_ne (by decide)]; exact hv_1_6_0
  have hv_1_7_0 : V41 (1, 7, 0) = .inl (cy 0, 40, .inl (fun _ => 0)) := by rw [← hV41, g_set_ne (by decide)]; exact hv_1_7_0
  have hv_1_8_0 : V41 (1, 8, 0) = .inl (cy 0, 40, .inl (fun _ => 0)) := by rw [← hV41, g_set_ne (by decide)]; exact hv_1_8_0
  have hv_2_9_0 : V41 (2, 9, 0) = .inl (cy 4, 40, .inl (fun _ => 0)) := by rw [← hV41, g_set_ne (by decide)]; exact hv_2_9_0
  have hv_1_11_0 : V41 (1, 11, 0) = .inl (cy 0, 8, .inl (fun _ => 0)) := by rw [← hV41, g_set_ne (by decide)]; exact hv_1_11_0
  have hv_1_12_0 : V41 (1, 12, 0) = .inl (cy 0, 8, .inl (fun _ => 0)) := by rw [← hV41, g_set_ne (by decide)]; exact hv_1_12_0
  have hv_2_13_0 : V41 (2, 13, 0) = .inl (cy 4, 8, .inl (fun _ => 0)) := by rw [← hV41, g_set_ne (by decide)]; exact hv_2_13_0
  have hv_1_14_0 : V41 (1, 14, 0) = .inl (cy 0, 8, .inl (fun _ => 0)) := by rw [← hV41, g_set_ne (by decide)]; exact hv_1_14_0
  have hv_1_15_0 : V41 (1, 15, 0) = .inl (cy 0, 8, .inl (fun _ => 0)) := by rw [← hV41, g_set_ne (by decide)]; exact hv_1_15_0
  have hv_1_16_0 : V41 (1, 16, 0) = .inl (cy 0, 40, .inl (fun _ => 0)) := by rw [← hV41, g_set_ne (by decide)]; exact hv_1_16_0
  have hv_1_17_0 : V41 (1, 17, 0) = .inl (cy 0, 4000, .inl (fun _ => 0)) := by rw [← hV41, g_set_self]
  have hVo : ∀ y, y ≠ (0, 0, 0) ∧ y ≠ (1, 2, 0) ∧ y ≠ (1, 3, 0) ∧ y ≠ (1, 5, 0) ∧ y ≠ (1, 6, 0) ∧ y ≠ (1, 7, 0) ∧ y ≠ (1, 8, 0) ∧ y ≠ (2, 9, 0) ∧ y ≠ (1, 11, 0) ∧ y ≠ (1, 12, 0) ∧ y ≠ (2, 13, 0) ∧ y ≠ (1, 14, 0) ∧ y ≠ (1, 15, 0) ∧ y ≠ (1, 16, 0) ∧ y ≠ (1, 17, 0) ∧ y ≠ (1, 18, 0) ∧ y ≠ (1, 19, 0) ∧ y ≠ (1, 20, 0) ∧ y ≠ (1, 21, 0) ∧ y ≠ (1, 22, 0) ∧ y ≠ (1, 23, 0) ∧ y ≠ (1, 24, 0) ∧ y ≠ (1, 25, 0) ∧ y ≠ (1, 26, 0) ∧ y ≠ (1, 27, 0) → V41 y = V y := fun y hy => by rw [← hV41, g_set_ne (fun q => hy.2.2.2.2.2.2.2.2.2.2.2.2.2.2.1 q)]; first | done | exact hVo y hy
  refine h_putF (C := RX7) (T := TX7) (N := 28) (ci := 9) (ty := (tyX7 17)) hx hb hts inX7g tyX7_ok nmX7 hown hK hG hS (0, 0, 0) hd_0_0_0 e_0_0_0 hAa hv_0_0_0 rfl 17 (by decide) fl_X7_50 rfl hin2 rfl (by decide +kernel) rfl rfl (Nat.le_of_ble_eq_true rfl) dX7_init_115 (fun H locs hG hS => ?_)
  have hG : g_H D vwCl _ L40 (g_set V41 (0, 0, 0) (.inr (9, [.int 0, .int 0, .ref b1, .ref b4, .int 0, .ref b7, .ref b10, .ref b13, .ref b16, .ref b19, .int 0, .ref b22, .ref b25, .ref b28, .ref b31, .ref b34, .ref b37, .ref b40, .null, .null, .null, .null, .null, .null, .null, .null, .null, .null]))) H := hG
  generalize hV42 : g_set V41 (0, 0, 0) (.inr (9, [.int 0, .int 0, .ref b1, .ref b4, .int 0, .ref b7, .ref b10, .ref b13, .ref b16, .ref b19, .int 0, .ref b22, .ref b25, .ref b28, .ref b31, .ref b34, .ref b37, .ref b40, .null, .null, .null, .null, .null, .null, .null, .null, .null, .null])) = V42 at hG
  have hv_1_2_0 : V42 (1, 2, 0) = .inl (cy 0, 100, .inl (fun _ => 0)) := by rw [← hV42, g_set_ne (by decide)]; exact hv_1_2_0
  have hv_1_3_0 : V42 (1, 3, 0) = .inl (cy 0, 500, .inl (fun _ => 0)) := by rw [← hV42, g_set_ne (by decide)]; exact hv_1_3_0
  have hv_1_5_0 : V42 (1, 5, 0) = .inl (cy 0, 40, .inl (fun _ => 0)) := by rw [← hV42, g_set_ne (by decide)]; exact hv_1_5_0
  have hv_1_6_0 : V42 (1, 6, 0) = .inl (cy 0, 40, .inl (fun _ => 0)) := by rw [← hV42, g_set_ne (by decide)]; exact hv_1_6_0
  have hv_1_7_0 : V42 (1, 7, 0) = .inl (cy 0, 40, .inl (fun _ => 0)) := by rw [← hV42, g_set_ne (by decide)]; exact hv_1_7_0
  have hv_1_8_0 : V42 (1, 8, 0) = .inl (cy 0, 40, .inl (fun _ => 0)) := by rw [← hV42, g_set_ne (by decide)]; exact hv_1_8_0
  have hv_2_9_0 : V42 (2, 9, 0) = .inl (cy 4, 40, .inl (fun _ => 0)) := by rw [← hV42, g_set_ne (by decide)]; exact hv_2_9_0
  have hv_1_11_0 : V42 (1, 11, 0) = .inl (cy 0, 8, .inl (fun _ => 0)) := by rw [← hV42, g_set_ne (by decide)]; exact hv_1_11_0
  have hv_1_12_0 : V42 (1, 12, 0) = .inl (cy 0, 8, .inl (fun _ => 0)) := by rw [← hV42, g_set_ne (by decide)]; exact hv_1_12_0
  have hv_2_13_0 : V42 (2, 13, 0) = .inl (cy 4, 8, .inl (fun _ => 0)) := by rw [← hV42, g_set_ne (by decide)]; exact hv_2_13_0
  have hv_1_14_0 : V42 (1, 14, 0) = .inl (cy 0, 8, .inl (fun _ => 0)) := by rw [← hV42, g_set_ne (by decide)]; exact hv_1_14_0
  have hv_1_15_0 : V42 (1, 15, 0) = .inl (cy 0, 8, .inl (fun _ => 0)) := by rw [← hV42, g_set_ne (by decide)]; exact hv_1_15_0
  have hv_1_16_0 : V42 (1, 16, 0) = .inl (cy 0, 40, .inl (fun _ => 0)) := by rw [← hV42, g_set_ne (by decide)]; exact hv_1_16_0
  have hv_1_17_0 : V42 (1, 17, 0) = .inl (cy 0, 4000, .inl (fun _ => 0)) := by rw [← hV42, g_set_ne (by decide)]; exact hv_1_17_0
  have hv_0_0_0 : V42 (0, 0, 0) = .inr (9, [.int 0, .int 0, .ref b1, .ref b4, .int 0, .ref b7, .ref b10, .ref b13, .ref b16, .ref b19, .int 0, .ref b22, .ref b25, .ref b28, .ref b31, .ref b34, .ref b37, .ref b40, .null, .null, .null, .null, .null, .null, .null, .null, .null, .null]) := by rw [← hV42, g_set_self]
  have hVo : ∀ y, y ≠ (0, 0, 0) ∧ y ≠ (1, 2, 0) ∧ y ≠ (1, 3, 0) ∧ y ≠ (1, 5, 0) ∧ y ≠ (1, 6, 0) ∧ y ≠ (1, 7, 0) ∧ y ≠ (1, 8, 0) ∧ y ≠ (2, 9, 0) ∧ y ≠ (1, 11, 0) ∧ y ≠ (1, 12, 0) ∧ y ≠ (2, 13, 0) ∧ y ≠ (1, 14, 0) ∧ y ≠ (1, 15, 0) ∧ y ≠ (1, 16, 0) ∧ y ≠ (1, 17, 0) ∧ y ≠ (1, 18, 0) ∧ y ≠ (1, 19, 0) ∧ y ≠ (1, 20, 0) ∧ y ≠ (1, 21, 0) ∧ y ≠ (1, 22, 0) ∧ y ≠ (1, 23, 0) ∧ y ≠ (1, 24, 0) ∧ y ≠ (1, 25, 0) ∧ y ≠ (1, 26, 0) ∧ y ≠ (1, 27, 0) → V42 y = V y := fun y hy => by rw [← hV42, g_set_ne (fun q => hy.1 q)]; first | done | exact hVo y hy
  refine lv_aload_n hx hb dX7_init_118 rfl (lv_at hl 0 rfl) ?_
  refine lv_bipush (v := 8) hx hb dX7_init_119 (by decide) ?_
  refine h_newa (harr := hts _ ac_int) (atype := .int) (ty := .int) (a0 := (8, .inl (fun _ => 0))) hx hb rfl (fun C h => by cases h) hK 0 rfl hG hS (1, 18, 0) hf_1_18_0 rfl (by decide) rfl (by decide) (Nat.le_of_ble_eq_true rfl) (Nat.le_of_ble_eq_true rfl) dX7_init_121 (fun L43 b43 H hL9 e_1_18_0 ha43 hG hS hz9 o9 => ?_)
  have hs_1_2_0 : s.heap.size ≤ L43 (1, 2, 0) := by rw [hL9 _ hd_1_2_0]; exact hs_1_2_0
  have hs_1_3_0 : s.heap.size ≤ L43 (1, 3, 0) := by rw [hL9 _ hd_1_3_0]; exact hs_1_3_0
  have hs_1_5_0 : s.heap.size ≤ L43 (1, 5, 0) := by rw [hL9 _ hd_1_5_0]; exact hs_1_5_0
  have hs_1_6_0 : s.heap.size ≤ L43 (1, 6, 0) := by rw [hL9 _ hd_1_6_0]; exact hs_1_6_0
  have hs_1_7_0 : s.heap.size ≤ L43 (1, 7, 0) := by rw [hL9 _ hd_1_7_0]; exact hs_1_7_0
  have hs_1_8_0 : s.heap.size ≤ L43 (1, 8, 0) := by rw [hL9 _ hd_1_8_0]; exact hs_1_8_0
  have hs_2_9_0 : s.heap.size ≤ L43 (2, 9, 0) := by rw [hL9 _ hd_2_9_0]; exact hs_2_9_0
  have hs_1_11_0 : s.heap.size ≤ L43 (1, 11, 0) := by rw [hL9 _ hd_1_11_0]; exact hs_1_11_0
  have hs_1_12_0 : s.heap.size ≤ L43 (1, 12, 0) := by rw [hL9 _ hd_1_12_0]; exact hs_1_12_0
  have hs_2_13_0 : s.heap.size ≤ L43 (2, 13, 0) := by rw [hL9 _ hd_2_13_0]; exact hs_2_13_0
  have hs_1_14_0 : s.heap.size ≤ L43 (1, 14, 0) := by rw [hL9 _ hd_1_14_0]; exact hs_1_14_0
  have hs_1_15_0 : s.heap.size ≤ L43 (1, 15, 0) := by rw [hL9 _ hd_1_15_0]; exact hs_1_15_0
  have hs_1_16_0 : s.heap.size ≤ L43 (1, 16, 0) := by rw [hL9 _ hd_1_16_0]; exact hs_1_16_0
  have hs_1_17_0 : s.heap.size ≤ L43 (1, 17, 0) := by rw [hL9 _ hd_1_17_0]; exact hs_1_17_0
  have hs_1_18_0 : s.heap.size ≤ L43 (1, 18, 0) := by rw [e_1_18_0]; exact ha43
  have e_0_0_0 := (hL9 _ hd_0_0_0).trans e_0_0_0
  have e_1_2_0 := (hL9 _ hd_1_2_0).trans e_1_2_0
  have e_1_3_0 := (hL9 _ hd_1_3_0).trans e_1_3_0
  have e_1_5_0 := (hL9 _ hd_1_5_0).trans e_1_5_0
  have e_1_6_0 := (hL9 _ hd_1_6_0).trans e_1_6_0
  have e_1_7_0 := (hL9 _ hd_1_7_0).trans e_1_7_0
  have e_1_8_0 := (hL9 _ hd_1_8_0).trans e_1_8_0
  have e_2_9_0 := (hL9 _ hd_2_9_0).trans e_2_9_0
  have e_1_11_0 := (hL9 _ hd_1_11_0).trans e_1_11_0
  have e_1_12_0 := (hL9 _ hd_1_12_0).trans e_1_12_0
  have e_2_13_0 := (hL9 _ hd_2_13_0).trans e_2_13_0
  have e_1_14_0 := (hL9 _ hd_1_14_0).trans e_1_14_0
  have e_1_15_0 := (hL9 _ hd_1_15_0).trans e_1_15_0
  have e_1_16_0 := (hL9 _ hd_1_16_0).trans e_1_16_0
  have e_1_17_0 := (hL9 _ hd_1_17_0).trans e_1_17_0
  have hLL := fun y (hy : dom y) => (hL9 y (hdd y hy)).trans (hLL y hy)
  have hdd := fun y (hy : dom y) => hG.inO (hdd y hy)
  have hd_0_0_0 := hG.inO hd_0_0_0
  have hd_1_2_0 := hG.inO hd_1_2_0
  have hd_1_3_0 := hG.inO hd_1_3_0
  have hd_1_5_0 := hG.inO hd_1_5_0
  have hd_1_6_0 := hG.inO hd_1_6_0
  have hd_1_7_0 := hG.inO hd_1_7_0
  have hd_1_8_0 := hG.inO hd_1_8_0
  have hd_2_9_0 := hG.inO hd_2_9_0
  have hd_1_11_0 := hG.inO hd_1_11_0
  have hd_1_12_0 := hG.inO hd_1_12_0
  have hd_2_13_0 := hG.inO hd_2_13_0
  have hd_1_14_0 := hG.inO hd_1_14_0
  have hd_1_15_0 := hG.inO hd_1_15_0
  have hd_1_16_0 := hG.inO hd_1_16_0
  have hd_1_17_0 := hG.inO hd_1_17_0
  have hd_1_18_0 := hG.inX
  have hf_1_19_0 := hG.notin hf_1_19_0 (by decide)
  have hf_1_20_0 := hG.notin hf_1_20_0 (by decide)
  have hf_1_21_0 := hG.notin hf_1_21_0 (by decide)
  have hf_1_22_0 := hG.notin hf_1_22_0 (by decide)
  have hf_1_23_0 := hG.notin hf_1_23_0 (by decide)
  have hf_1_24_0 := hG.notin hf_1_24_0 (by decide)
  have hf_1_25_0 := hG.notin hf_1_25_0 (by decide)
  have hf_1_26_0 := hG.notin hf_1_26_0 (by decide)
  have hf_1_27_0 := hG.notin hf_1_27_0 (by decide)
  generalize hV44 : g_set V42 (1, 18, 0) (.inl (cy 0, 8, .inl (fun _ => 0))) = V44 at hG
  have hv_0_0_0 : V44 (0, 0, 0) = .inr (9, [.int 0, .int 0, .ref b1, .ref b4, .int 0, .ref b7, .ref b10, .ref b13, .ref b16, .ref b19, .int 0, .ref b22, .ref b25, .ref b28, .ref b31, .ref b34, .ref b37, .ref b40, .null, .null, .null, .null, .null, .null, .null, .null, .null, .null]) := by rw [← hV44, g_set_ne (by decide)]; exact hv_0_0_0
  have hv_1_2_0 : V44 (1, 2, 0) = .inl (cy 0, 100, .inl (fun _ => 0)) := by rw [← hV44, g_set_ne (by decide)]; exact hv_1_2_0
  have hv_1_3_0 : V44 (1, 3, 0) = .inl (cy 0, 500, .inl (fun _ => 0)) := by rw [← hV44, g_set_ne (by decide)]; exact hv_1_3_0
  have hv_1_5_0 : V44 (1, 5, 0) = .inl (cy 0, 40, .inl (fun _ => 0)) := by rw [← hV44, g_set_ne (by decide)]; exact hv_1_5_0
  have hv_1_6_0 : V44 (1, 6, 0) = .inl (cy 0, 40, .inl (fun _ => 0)) := by rw [← hV44, g_set_ne (by decide)]; exact hv_1_6_0
  have hv_1_7_0 : V44 (1, 7, 0) = .inl (cy 0, 40, .inl (fun _ => 0)) := by rw [← hV44, g_set_ne (by decide)]; exact hv_1_7_0
  have hv_1_8_0 : V44 (1, 8, 0) = .inl (cy 0, 40, .inl (fun _ => 0)) := by rw [← hV44, g_set_ne (by decide)]; exact hv_1_8_0
  have hv_2_9_0 : V44 (2, 9, 0) = .inl (cy 4, 40, .inl (fun _ => 0)) := by rw [← hV44, g_set_ne (by decide)]; exact hv_2_9_0
  have hv_1_11_0 : V44 (1, 11, 0) = .inl (cy 0, 8, .inl (fun _ => 0)) := by rw [← hV44, g_set_ne (by decide)]; exact hv_1_11_0
  have hv_1_12_0 : V44 (1, 12, 0) = .inl (cy 0, 8, .inl (fun _ => 0)) := by rw [← hV44, g_set_ne (by decide)]; exact hv_1_12_0
  have hv_2_13_0 : V44 (2, 13, 0) = .inl (cy 4, 8, .inl (fun _ => 0)) := by rw [← hV44, g_set_ne (by decide)]; exact hv_2_13_0
  have hv_1_14_0 : V44 (1, 14, 0) = .inl (cy 0, 8, .inl (fun _ => 0)) := by rw [← hV44, g_set_ne (by decide)]; exact hv_1_14_0
  have hv_1_15_0 : V44 (1, 15, 0) = .inl (cy 0, 8, .inl (fun _ => 0)) := by rw [← hV44, g_set_ne (by decide)]; exact hv_1_15_0
  have hv_1_16_0 : V44 (1, 16, 0) = .inl (cy 0, 40, .inl (fun _ => 0)) := by rw [← hV44, g_set_ne (by decide)]; exact hv_1_16_0
  have hv_1_17_0 : V44 (1, 17, 0) = .inl (cy 0, 4000, .inl (fun _ => 0)) := by rw [← hV44, g_set_ne (by decide)]; exact hv_1_17_0
  have hv_1_18_0 : V44 (1, 18, 0) = .inl (cy 0, 8, .inl (fun _ => 0)) := by rw [← hV44, g_set_self]
  have hVo : ∀ y, y ≠ (0, 0, 0) ∧ y ≠ (1, 2, 0) ∧ y ≠ (1, 3, 0) ∧ y ≠ (1, 5, 0) ∧ y ≠ (1, 6, 0) ∧ y ≠ (1, 7, 0) ∧ y ≠ (1, 8, 0) ∧ y ≠ (2, 9, 0) ∧ y ≠ (1, 11, 0) ∧ y ≠ (1, 12, 0) ∧ y ≠ (2, 13, 0) ∧ y ≠ (1, 14, 0) ∧ y ≠ (1, 15, 0) ∧ y ≠ (1, 16, 0) ∧ y ≠ (1, 17, 0) ∧ y ≠ (1, 18, 0) ∧ y ≠ (1, 19, 0) ∧ y ≠ (1, 20, 0) ∧ y ≠ (1, 21, 0) ∧ y ≠ (1, 22, 0) ∧ y ≠ (1, 23, 0) ∧ y ≠ (1, 24, 0) ∧ y ≠ (1, 25, 0) ∧ y ≠ (1, 26, 0) ∧ y ≠ (1, 27, 0) → V44 y = V y := fun y hy => by rw [← hV44, g_set_ne (fun q => hy.2.2.2.2.2.2.2.2.2.2.2.2.2.2.2.1 q)]; first | done | exact hVo y hy
  refine h_putF (C := RX7) (T := TX7) (N := 28) (ci := 9) (ty := (tyX7 18)) hx hb hts inX7g tyX7_ok nmX7 hown hK hG hS (0, 0, 0) hd_0_0_0 e_0_0_0 hAa hv_0_0_0 rfl 18 (by decide) fl_X7_53 rfl hin2 rfl (by decide +kernel) rfl rfl (Nat.le_of_ble_eq_true rfl) dX7_init_123 (fun H locs hG hS => ?_)
  have hG : g_H D vwCl _ L43 (g_set V44 (0, 0, 0) (.inr (9, [.int 0, .int 0, .ref b1, .ref b4, .int 0, .ref b7, .ref b10, .ref b13, .ref b16, .ref b19, .int 0, .ref b22, .ref b25, .ref b28, .ref b31, .ref b34, .ref b37, .ref b40, .ref b43, .null, .null, .null, .null, .null, .null, .null, .null, .null]))) H := hG
  generalize hV45 : g_set V44 (0, 0, 0) (.inr (9, [.int 0, .int 0, .ref b1, .ref b4, .int 0, .ref b7, .ref b10, .ref b13, .ref b16, .ref b19, .int 0, .ref b22, .ref b25, .ref b28, .ref b31, .ref b34, .ref b37, .ref b40, .ref b43, .null, .null, .null, .null, .null, .null, .null, .null, .null])) = V45 at hG
  have hv_1_2_0 : V45 (1, 2, 0) = .inl (cy 0, 100, .inl (fun _ => 0)) := by rw [← hV45, g_set_ne (by decide)]; exact hv_1_2_0
  have hv_1_3_0 : V45 (1, 3, 0) = .inl (cy 0, 500, .inl (fun _ => 0)) := by rw [← hV45, g_set_ne (by decide)]; exact hv_1_3_0
  have hv_1_5_0 : V45 (1, 5, 0) = .inl (cy 0, 40, .inl (fun _ => 0)) := by rw [← hV45, g_set_ne (by decide)]; exact hv_1_5_0
  have hv_1_6_0 : V45 (1, 6, 0) = .inl (cy 0, 40, .inl (fun _ => 0)) := by rw [← hV45, g_set_ne (by decide)]; exact hv_1_6_0
  have hv_1_7_0 : V45 (1, 7, 0) = .inl (cy 0, 40, .inl (fun _ => 0)) := by rw [← hV45, g_set_ne (by decide)]; exact hv_1_7_0
  have hv_1_8_0 : V45 (1, 8, 0) = .inl (cy 0, 40, .inl (fun _ => 0)) := by rw [← hV45, g_set_ne (by decide)]; exact hv_1_8_0
  have hv_2_9_0 : V45 (2, 9, 0) = .inl (cy 4, 40, .inl (fun _ => 0)) := by rw [← hV45, g_set_ne (by decide)]; exact hv_2_9_0
  have hv_1_11_0 : V45 (1, 11, 0) = .inl (cy 0, 8, .inl (fun _ => 0)) := by rw [← hV45, g_set_ne (by decide)]; exact hv_1_11_0
  have hv_1_12_0 : V45 (1, 12, 0) = .inl (cy 0, 8, .inl (fun _ => 0)) := by rw [← hV45, g_set_ne (by decide)]; exact hv_1_12_0
  have hv_2_13_0 : V45 (2, 13, 0) = .inl (cy 4, 8, .inl (fun _ => 0)) := by rw [← hV45, g_set_ne (by decide)]; exact hv_2_13_0
  have hv_1_14_0 : V45 (1, 14, 0) = .inl (cy 0, 8, .inl (fun _ => 0)) := by rw [← hV45, g_set_ne (by decide)]; exact hv_1_14_0
  have hv_1_15_0 : V45 (1, 15, 0) = .inl (cy 0, 8, .inl (fun _ => 0)) := by rw [← hV45, g_set_ne (by decide)]; exact hv_1_15_0
  have hv_1_16_0 : V45 (1, 16, 0) = .inl (cy 0, 40, .inl (fun _ => 0)) := by rw [← hV45, g_set_ne (by decide)]; exact hv_1_16_0
  have hv_1_17_0 : V45 (1, 17, 0) = .inl (cy 0, 4000, .inl (fun _ => 0)) := by rw [← hV45, g_set_ne (by decide)]; exact hv_1_17_0
  have hv_1_18_0 : V45 (1, 18, 0) = .inl (cy 0, 8, .inl (fun _ => 0)) := by rw [← hV45, g_set_ne (by decide)]; exact hv_1_18_0
  have hv_0_0_0 : V45 (0, 0, 0) = .inr (9, [.int 0, .int 0, .ref b1, .ref b4, .int 0, .ref b7, .ref b10, .ref b13, .ref b16, .ref b19, .int 0, .ref b22, .ref b25, .ref b28, .ref b31, .ref b34, .ref b37, .ref b40, .ref b43, .null, .null, .null, .null, .null, .null, .null, .null, .null]) := by rw [← hV45, g_set_self]
  have hVo : ∀ y, y ≠ (0, 0, 0) ∧ y ≠ (1, 2, 0) ∧ y ≠ (1, 3, 0) ∧ y ≠ (1, 5, 0) ∧ y ≠ (1, 6, 0) ∧ y ≠ (1, 7, 0) ∧ y ≠ (1, 8, 0) ∧ y ≠ (2, 9, 0) ∧ y ≠ (1, 11, 0) ∧ y ≠ (1, 12, 0) ∧ y ≠ (2, 13, 0) ∧ y ≠ (1, 14, 0) ∧ y ≠ (1, 15, 0) ∧ y ≠ (1, 16, 0) ∧ y ≠ (1, 17, 0) ∧ y ≠ (1, 18, 0) ∧ y ≠ (1, 19, 0) ∧ y ≠ (1, 20, 0) ∧ y ≠ (1, 21, 0) ∧ y ≠ (1, 22, 0) ∧ y ≠ (1, 23, 0) ∧ y ≠ (1, 24, 0) ∧ y ≠ (1, 25, 0) ∧ y ≠ (1, 26, 0) ∧ y ≠ (1, 27, 0) → V45 y = V y := fun y hy => by rw [← hV45, g_set_ne (fun q => hy.1 q)]; first | done | exact hVo y hy
  refine lv_aload_n hx hb dX7_init_126 rfl (lv_at hl 0 rfl) ?_
  refine lv_sipush (v := 800) hx hb dX7_init_127 (by decide) ?_
  refine h_newa (harr := hts _ ac_int) (atype := .int) (ty := .int) (a0 := (800, .inl (fun _ => 0))) hx hb rfl (fun C h => by cases h) hK 0 rfl hG hS (1, 19, 0) hf_1_19_0 rfl (by decide) rfl (by decide) (Nat.le_of_ble_eq_true rfl) (Nat.le_of_ble_eq_true rfl) dX7_init_130 (fun L46 b46 H hL9 e_1_19_0 ha46 hG hS hz9 o9 => ?_)
  have hs_1_2_0 : s.heap.size ≤ L46 (1, 2, 0) := by rw [hL9 _ hd_1_2_0]; exact hs_1_2_0
  have hs_1_3_0 : s.heap.size ≤ L46 (1, 3, 0) := by rw [hL9 _ hd_1_3_0]; exact hs_1_3_0
  have hs_1_5_0 : s.heap.size ≤ L46 (1, 5, 0) := by rw [hL9 _ hd_1_5_0]; exact hs_1_5_0
  have hs_1_6_0 : s.heap.size ≤ L46 (1, 6, 0) := by rw [hL9 _ hd_1_6_0]; exact hs_1_6_0
  have hs_1_7_0 : s.heap.size ≤ L46 (1, 7, 0) := by rw [hL9 _ hd_1_7_0]; exact hs_1_7_0
  have hs_1_8_0 : s.heap.size ≤ L46 (1, 8, 0) := by rw [hL9 _ hd_1_8_0]; exact hs_1_8_0
  have hs_2_9_0 : s.heap.size ≤ L46 (2, 9, 0) := by rw [hL9 _ hd_2_9_0]; exact hs_2_9_0
  have hs_1_11_0 : s.heap.size ≤ L46 (1, 11, 0) := by rw [hL9 _ hd_1_11_0]; exact hs_1_11_0
  have hs_1_12_0 : s.heap.size ≤ L46 (1, 12, 0) := by rw [hL9 _ hd_1_12_0]; exact hs_1_12_0
  have hs_2_13_0 : s.heap.size ≤ L46 (2, 13, 0) := by rw [hL9 _ hd_2_13_0]; exact hs_2_13_0
  have hs_1_14_0 : s.heap.size ≤ L46 (1, 14, 0) := by rw [hL9 _ hd_1_14_0]; exact hs_1_14_0
  have hs_1_15_0 : s.heap.size ≤ L46 (1, 15, 0) := by rw [hL9 _ hd_1_15_0]; exact hs_1_15_0
  have hs_1_16_0 : s.heap.size ≤ L46 (1, 16, 0) := by rw [hL9 _ hd_1_16_0]; exact hs_1_16_0
  have hs_1_17_0 : s.heap.size ≤ L46 (1, 17, 0) := by rw [hL9 _ hd_1_17_0]; exact hs_1_17_0
  have hs_1_18_0 : s.heap.size ≤ L46 (1, 18, 0) := by rw [hL9 _ hd_1_18_0]; exact hs_1_18_0
  have hs_1_19_0 : s.heap.size ≤ L46 (1, 19, 0) := by rw [e_1_19_0]; exact ha46
  have e_0_0_0 := (hL9 _ hd_0_0_0).trans e_0_0_0
  have e_1_2_0 := (hL9 _ hd_1_2_0).trans e_1_2_0
  have e_1_3_0 := (hL9 _ hd_1_3_0).trans e_1_3_0
  have e_1_5_0 := (hL9 _ hd_1_5_0).trans e_1_5_0
  have e_1_6_0 := (hL9 _ hd_1_6_0).trans e_1_6_0
  have e_1_7_0 := (hL9 _ hd_1_7_0).trans e_1_7_0
  have e_1_8_0 := (hL9 _ hd_1_8_0).trans e_1_8_0
  have e_2_9_0 := (hL9 _ hd_2_9_0).trans e_2_9_0
  have e_1_11_0 := (hL9 _ hd_1_11_0).trans e_1_11_0
  have e_1_12_0 := (hL9 _ hd_1_12_0).trans e_1_12_0
  have e_2_13_0 := (hL9 _ hd_2_13_0).trans e_2_13_0
  have e_1_14_0 := (hL9 _ hd_1_14_0).trans e_1_14_0
  have e_1_15_0 := (hL9 _ hd_1_15_0).trans e_1_15_0
  have e_1_16_0 := (hL9 _ hd_1_16_0).trans e_1_16_0
  have e_1_17_0 := (hL9 _ hd_1_17_0).trans e_1_17_0
  have e_1_18_0 := (hL9 _ hd_1_18_0).trans e_1_18_0
  have hLL := fun y (hy : dom y) => (hL9 y (hdd y hy)).trans (hLL y hy)
  have hdd := fun y (hy : dom y) => hG.inO (hdd y hy)
  have hd_0_0_0 := hG.inO hd_0_0_0
  have hd_1_2_0 := hG.inO hd_1_2_0
  have hd_1_3_0 := hG.inO hd_1_3_0
  have hd_1_5_0 := hG.inO hd_1_5_0
  have hd_1_6_0 := hG.inO hd_1_6_0
  have hd_1_7_0 := hG.inO hd_1_7_0
  have hd_1_8_0 := hG.inO hd_1_8_0
  have hd_2_9_0 := hG.inO hd_2_9_0
  have hd_1_11_0 := hG.inO hd_1_11_0
  have hd_1_12_0 := hG.inO hd_1_12_0
  have hd_2_13_0 := hG.inO hd_2_13_0
  have hd_1_14_0 := hG.inO hd_1_14_0
  have hd_1_15_0 := hG.inO hd_1_15_0
  have hd_1_16_0 := hG.inO hd_1_16_0
  have hd_1_17_0 := hG.inO hd_1_17_0
  have hd_1_18_0 := hG.inO hd_1_18_0
  have hd_1_19_0 := hG.inX
  have hf_1_20_0 := hG.notin hf_1_20_0 (by decide)
  have hf_1_21_0 := hG.notin hf_1_21_0 (by decide)
  have hf_1_22_0 := hG.notin hf_1_22_0 (by decide)
  have hf_1_23_0 := hG.notin hf_1_23_0 (by decide)
  have hf_1_24_0 := hG.notin hf_1_24_0 (by decide)
  have hf_1_25_0 := hG.notin hf_1_25_0 (by decide)
  have hf_1_26_0 := hG.notin hf_1_26_0 (by decide)
  have hf_1_27_0 := hG.notin hf_1_27_0 (by decide)
  generalize hV47 : g_set V45 (1, 19, 0) (.inl (cy 0, 800, .inl (fun _ => 0))) = V47 at hG
  have hv_0_0_0 : V47 (0, 0, 0) = .inr (9, [.int 0, .int 0, .ref b1, .ref b4, .int 0, .ref b7, .ref b10, .ref b13, .ref b16, .ref b19, .int 0, .ref b22, .ref b25, .ref b28, .ref b31, .ref b34, .ref b37, .ref b40, .ref b43, .null, .null, .null, .null, .null, .null, .null, .null, .null]) := by rw [← hV47, g_set_ne (by decide)]; exact hv_0_0_0
  have hv_1_2_0 : V47 (1, 2, 0) = .inl (cy 0, 100, .inl (fun _ => 0)) := by rw [← hV47, g_set_ne (by decide)]; exact hv_1_2_0
  have hv_1_3_0 : V47 (1, 3, 0) = .inl (cy 0, 500, .inl (fun _ => 0)) := by rw [← hV47, g_set_ne (by decide)]; exact hv_1_3_0
  have hv_1_5_0 : V47 (1, 5, 0) = .inl (cy 0, 40, .inl (fun _ => 0)) := by rw [← hV47, g_set_ne (by decide)]; exact hv_1_5_0
  have hv_1_6_0 : V47 (1, 6, 0) = .inl (cy 0, 40, .inl (fun _ => 0)) := by rw [← hV47, g_set_ne (by decide)]; exact hv_1_6_0
  have hv_1_7_0 : V47 (1, 7, 0) = .inl (cy 0, 40, .inl (fun _ => 0)) := by rw [← hV47, g_set_ne (by decide)]; exact hv_1_7_0
  have hv_1_8_0 : V47 (1, 8, 0) = .inl (cy 0, 40, .inl (fun _ => 0)) := by rw [← hV47, g_set_ne (by decide)]; exact hv_1_8_0
  have hv_2_9_0 : V47 (2, 9, 0) = .inl (cy 4, 40, .inl (fun _ => 0)) := by rw [← hV47, g_set_ne (by decide)]; exact hv_2_9_0
  have hv_1_11_0 : V47 (1, 11, 0) = .inl (cy 0, 8, .inl (fun _ => 0)) := by rw [← hV47, g_set_ne (by decide)]; exact hv_1_11_0
  have hv_1_12_0 : V47 (1, 12, 0) = .inl (cy 0, 8, .inl (fun _ => 0)) := by rw [← hV47, g_set_ne (by decide)]; exact hv_1_12_0
  have hv_2_13_0 : V47 (2, 13, 0) = .inl (cy 4, 8, .inl (fun _ => 0)) := by rw [← hV47, g_set_ne (by decide)]; exact hv_2_13_0
  have hv_1_14_0 : V47 (1, 14, 0) = .inl (cy 0, 8, .inl (fun _ => 0)) := by rw [← hV47, g_set_ne (by decide)]; exact hv_1_14_0
  have hv_1_15_0 : V47 (1, 15, 0) = .inl (cy 0, 8, .inl (fun _ => 0)) := by rw [← hV47, g_set_ne (by decide)]; exact hv_1_15_0
  have hv_1_16_0 : V47 (1, 16, 0) = .inl (cy 0, 40, .inl (fun _ => 0)) := by rw [← hV47, g_set_ne (by decide)]; exact hv_1_16_0
  have hv_1_17_0 : V47 (1, 17, 0) = .inl (cy 0, 4000, .inl (fun _ => 0)) := by rw [← hV47, g_set_ne (by decide)]; exact hv_1_17_0
  have hv_1_18_0 : V47 (1, 18, 0) = .inl (cy 0, 8, .inl (fun _ => 0)) := by rw [← hV47, g_set_ne (by decide)]; exact hv_1_18_0
  have hv_1_19_0 : V47 (1, 19, 0) = .inl (cy 0, 800, .inl (fun _ => 0)) := by rw [← hV47, g_set_self]
  have hVo : ∀ y, y ≠ (0, 0, 0) ∧ y ≠ (1, 2, 0) ∧ y ≠ (1, 3, 0) ∧ y ≠ (1, 5, 0) ∧ y ≠ (1, 6, 0) ∧ y ≠ (1, 7, 0) ∧ y ≠ (1, 8, 0) ∧ y ≠ (2, 9, 0) ∧ y ≠ (1, 11, 0) ∧ y ≠ (1, 12, 0) ∧ y ≠ (2, 13, 0) ∧ y ≠ (1, 14, 0) ∧ y ≠ (1, 15, 0) ∧ y ≠ (1, 16, 0) ∧ y ≠ (1, 17, 0) ∧ y ≠ (1, 18, 0) ∧ y ≠ (1, 19, 0) ∧ y ≠ (1, 20, 0) ∧ y ≠ (1, 21, 0) ∧ y ≠ (1, 22, 0) ∧ y ≠ (1, 23, 0) ∧ y ≠ (1, 24, 0) ∧ y ≠ (1, 25, 0) ∧ y ≠ (1, 26, 0) ∧ y ≠ (1, 27, 0) → V47 y = V y := fun y hy => by rw [← hV47, g_set_ne (fun q => hy.2.2.2.2.2.2.2.2.2.2.2.2.2.2.2.2.1 q)]; first | done | exact hVo y hy
  refine h_putF (C := RX7) (T := TX7) (N := 28) (ci := 9) (ty := (tyX7 19)) hx hb hts inX7g tyX7_ok nmX7 hown hK hG hS (0, 0, 0) hd_0_0_0 e_0_0_0 hAa hv_0_0_0 rfl 19 (by decide) fl_X7_56 rfl hin2 rfl (by decide +kernel) rfl rfl (Nat.le_of_ble_eq_true rfl) dX7_init_132 (fun H locs hG hS => ?_)
  have hG : g_H D vwCl _ L46 (g_set V47 (0, 0, 0) (.inr (9, [.int 0, .int 0, .ref b1, .ref b4, .int 0, .ref b7, .ref b10, .ref b13, .ref b16, .ref b19, .int 0, .ref b22, .ref b25, .ref b28, .ref b31, .ref b34, .ref b37, .ref b40, .ref b43, .ref b46, .null, .null, .null, .null, .null, .null, .null, .null]))) H := hG
  generalize hV48 : g_set V47 (0, 0, 0) (.inr (9, [.int 0, .int 0, .ref b1, .ref b4, .int 0, .ref b7, .ref b10, .ref b13, .ref b16, .ref b19, .int 0, .ref b22, .ref b25, .ref b28, .ref b31, .ref b34, .ref b37, .ref b40, .ref b43, .ref b46, .null, .null, .null, .null, .null, .null, .null, .null])) = V48 at hG
  have hv_1_2_0 : V48 (1, 2, 0) = .inl (cy 0, 100, .inl (fun _ => 0)) := by rw [← hV48, g_set_ne (by decide)]; exact hv_1_2_0
  have hv_1_3_0 : V48 (1, 3, 0) = .inl (cy 0, 500, .inl (fun _ => 0)) := by rw [← hV48, g_set_ne (by decide)]; exact hv_1_3_0
  have hv_1_5_0 : V48 (1, 5, 0) = .inl (cy 0, 40, .inl (fun _ => 0)) := by rw [← hV48, g_set_ne (by decide)]; exact hv_1_5_0
  have hv_1_6_0 : V48 (1, 6, 0) = .inl (cy 0, 40, .inl (fun _ => 0)) := by rw [← hV48, g_set_ne (by decide)]; exact hv_1_6_0
  have hv_1_7_0 : V48 (1, 7, 0) = .inl (cy 0, 40, .inl (fun _ => 0)) := by rw [← hV48, g_set_ne (by decide)]; exact hv_1_7_0
  have hv_1_8_0 : V48 (1, 8, 0) = .inl (cy 0, 40, .inl (fun _ => 0)) := by rw [← hV48, g_set_ne (by decide)]; exact hv_1_8_0
  have hv_2_9_0 : V48 (2, 9, 0) = .inl (cy 4, 40, .inl (fun _ => 0)) := by rw [← hV48, g_set_ne (by decide)]; exact hv_2_9_0
  have hv_1_11_0 : V48 (1, 11, 0) = .inl (cy 0, 8, .inl (fun _ => 0)) := by rw [← hV48, g_set_ne (by decide)]; exact hv_1_11_0
  have hv_1_12_0 : V48 (1, 12, 0) = .inl (cy 0, 8, .inl (fun _ => 0)) := by rw [← hV48, g_set_ne (by decide)]; exact hv_1_12_0
  have hv_2_13_0 : V48 (2, 13, 0) = .inl (cy 4, 8, .inl (fun _ => 0)) := by rw [← hV48, g_set_ne (by decide)]; exact hv_2_13_0
  have hv_1_14_0 : V48 (1, 14, 0) = .inl (cy 0, 8, .inl (fun _ => 0)) := by rw [← hV48, g_set_ne (by decide)]; exact hv_1_14_0
  have hv_1_15_0 : V48 (1, 15, 0) = .inl (cy 0, 8, .inl (fun _ => 0)) := by rw [← hV48, g_set_ne (by decide)]; exact hv_1_15_0
  have hv_1_16_0 : V48 (1, 16, 0) = .inl (cy 0, 40, .inl (fun _ => 0)) := by rw [← hV48, g_set_ne (by decide)]; exact hv_1_16_0
  have hv_1_17_0 : V48 (1, 17, 0) = .inl (cy 0, 4000, .inl (fun _ => 0)) := by rw [← hV48, g_set_ne (by decide)]; exact hv_1_17_0
  have hv_1_18_0 : V48 (1, 18, 0) = .inl (cy 0, 8, .inl (fun _ => 0)) := by rw [← hV48, g_set_ne (by decide)]; exact hv_1_18_0
  have hv_1_19_0 : V48 (1, 19, 0) = .inl (cy 0, 800, .inl (fun _ => 0)) := by rw [← hV48, g_set_ne (by decide)]; exact hv_1_19_0
  have hv_0_0_0 : V48 (0, 0, 0) = .inr (9, [.int 0, .int 0, .ref b1, .ref b4, .int 0, .ref b7, .ref b10, .ref b13, .ref b16, .ref b19, .int 0, .ref b22, .ref b25, .ref b28, .ref b31, .ref b34, .ref b37, .ref b40, .ref b43, .ref b46, .null, .null, .null, .null, .null, .null, .null, .null]) := by rw [← hV48, g_set_self]
  have hVo : ∀ y, y ≠ (0, 0, 0) ∧ y ≠ (1, 2, 0) ∧ y ≠ (1, 3, 0) ∧ y ≠ (1, 5, 0) ∧ y ≠ (1, 6, 0) ∧ y ≠ (1, 7, 0) ∧ y ≠ (1, 8, 0) ∧ y ≠ (2, 9, 0) ∧ y ≠ (1, 11, 0) ∧ y ≠ (1, 12, 0) ∧ y ≠ (2, 13, 0) ∧ y ≠ (1, 14, 0) ∧ y ≠ (1, 15, 0) ∧ y ≠ (1, 16, 0) ∧ y ≠ (1, 17, 0) ∧ y ≠ (1, 18, 0) ∧ y ≠ (1, 19, 0) ∧ y ≠ (1, 20, 0) ∧ y ≠ (1, 21, 0) ∧ y ≠ (1, 22, 0) ∧ y ≠ (1, 23, 0) ∧ y ≠ (1, 24, 0) ∧ y ≠ (1, 25, 0) ∧ y ≠ (1, 26, 0) ∧ y ≠ (1, 27, 0) → V48 y = V y := fun y hy => by rw [← hV48, g_set_ne (fun q => hy.1 q)]; first | done | exact hVo y hy
  refine lv_aload_n hx hb dX7_init_135 rfl (lv_at hl 0 rfl) ?_
  refine lv_bipush (v := 8) hx hb dX7_init_136 (by decide) ?_
  refine h_newa (harr := hts _ ac_int) (atype := .int) (ty := .int) (a0 := (8, .inl (fun _ => 0))) hx hb rfl (fun C h => by cases h) hK 0 rfl hG hS (1, 20, 0) hf_1_20_0 rfl (by decide) rfl (by decide) (Nat.le_of_ble_eq_true rfl) (Nat.le_of_ble_eq_true rfl) dX7_init_138 (fun L49 b49 H hL9 e_1_20_0 ha49 hG hS hz9 o9 => ?_)
  have hs_1_2_0 : s.heap.size ≤ L49 (1, 2, 0) := by rw [hL9 _ hd_1_2_0]; exact hs_1_2_0
  have hs_1_3_0 : s.heap.size ≤ L49 (1, 3, 0) := by rw [hL9 _ hd_1_3_0]; exact hs_1_3_0
  have hs_1_5_0 : s.heap.size ≤ L49 (1, 5, 0) := by rw [hL9 _ hd_1_5_0]; exact hs_1_5_0
  have hs_1_6_0 : s.heap.size ≤ L49 (1, 6, 0) := by rw [hL9 _ hd_1_6_0]; exact hs_1_6_0
  have hs_1_7_0 : s.heap.size ≤ L49 (1, 7, 0) := by rw [hL9 _ hd_1_7_0]; exact hs_1_7_0
  have hs_1_8_0 : s.heap.size ≤ L49 (1, 8, 0) := by rw [hL9 _ hd_1_8_0]; exact hs_1_8_0
  have hs_2_9_0 : s.heap.size ≤ L49 (2, 9, 0) := by rw [hL9 _ hd_2_9_0]; exact hs_2_9_0
  have hs_1_11_0 : s.heap.size ≤ L49 (1, 11, 0) := by rw [hL9 _ hd_1_11_0]; exact hs_1_11_0
  have hs_1_12_0 : s.heap.size ≤ L49 (1, 12, 0) := by rw [hL9 _ hd_1_12_0]; exact hs_1_12_0
  have hs_2_13_0 : s.heap.size ≤ L49 (2, 13, 0) := by rw [hL9 _ hd_2_13_0]; exact hs_2_13_0
  have hs_1_14_0 : s.heap.size ≤ L49 (1, 14, 0) := by rw [hL9 _ hd_1_14_0]; exact hs_1_14_0
  have hs_1_15_0 : s.heap.size ≤ L49 (1, 15, 0) := by rw [hL9 _ hd_1_15_0]; exact hs_1_15_0
  have hs_1_16_0 : s.heap.size ≤ L49 (1, 16, 0) := by rw [hL9 _ hd_1_16_0]; exact hs_1_16_0
  have hs_1_17_0 : s.heap.size ≤ L49 (1, 17, 0) := by rw [hL9 _ hd_1_17_0]; exact hs_1_17_0
  have hs_1_18_0 : s.heap.size ≤ L49 (1, 18, 0) := by rw [hL9 _ hd_1_18_0]; exact hs_1_18_0
  have hs_1_19_0 : s.heap.size ≤ L49 (1, 19, 0) := by rw [hL9 _ hd_1_19_0]; exact hs_1_19_0
  have hs_1_20_0 : s.heap.size ≤ L49 (1, 20, 0) := by rw [e_1_20_0]; exact ha49
  have e_0_0_0 := (hL9 _ hd_0_0_0).trans e_0_0_0
  have e_1_2_0 := (hL9 _ hd_1_2_0).trans e_1_2_0
  have e_1_3_0 := (hL9 _ hd_1_3_0).trans e_1_3_0
  have e_1_5_0 := (hL9 _ hd_1_5_0).trans e_1_5_0
  have e_1_6_0 := (hL9 _ hd_1_6_0).trans e_1_6_0
  have e_1_7_0 := (hL9 _ hd_1_7_0).trans e_1_7_0
  have e_1_8_0 := (hL9 _ hd_1_8_0).trans e_1_8_0
  have e_2_9_0 := (hL9 _ hd_2_9_0).trans e_2_9_0
  have e_1_11_0 := (hL9 _ hd_1_11_0).trans e_1_11_0
  have e_1_12_0 := (hL9 _ hd_1_12_0).trans e_1_12_0
  have e_2_13_0 := (hL9 _ hd_2_13_0).trans e_2_13_0
  have e_1_14_0 := (hL9 _ hd_1_14_0).trans e_1_14_0
  have e_1_15_0 := (hL9 _ hd_1_15_0).trans e_1_15_0
  have e_1_16_0 := (hL9 _ hd_1_16_0).trans e_1_16_0
  have e_1_17_0 := (hL9 _ hd_1_17_0).trans e_1_17_0
  have e_1_18_0 := (hL9 _ hd_1_18_0).trans e_1_18_0
  have e_1_19_0 := (hL9 _ hd_1_19_0).trans e_1_19_0
  have hLL := fun y (hy : dom y) => (hL9 y (hdd y hy)).trans (hLL y hy)
  have hdd := fun y (hy : dom y) => hG.inO (hdd y hy)
  have hd_0_0_0 := hG.inO hd_0_0_0
  have hd_1_2_0 := hG.inO hd_1_2_0
  have hd_1_3_0 := hG.inO hd_1_3_0
  have hd_1_5_0 := hG.inO hd_1_5_0
  have hd_1_6_0 := hG.inO hd_1_6_0
  have hd_1_7_0 := hG.inO hd_1_7_0
  have hd_1_8_0 := hG.inO hd_1_8_0
  have hd_2_9_0 := hG.inO hd_2_9_0
  have hd_1_11_0 := hG.inO hd_1_11_0
  have hd_1_12_0 := hG.inO hd_1_12_0
  have hd_2_13_0 := hG.inO hd_2_13_0
  have hd_1_14_0 := hG.inO hd_1_14_0
  have hd_1_15_0 := hG.inO hd_1_15_0
  have hd_1_16_0 := hG.inO hd_1_16_0
  have hd_1_17_0 := hG.inO hd_1_17_0
  have hd_1_18_0 := hG.inO hd_1_18_0
  have hd_1_19_0 := hG.inO hd_1_19_0
  have hd_1_20_0 := hG.inX
  have hf_1_21_0 := hG.notin hf_1_21_0 (by decide)
  have hf_1_22_0 := hG.notin hf_1_22_0 (by decide)
  have hf_1_23_0 := hG.notin hf_1_23_0 (by decide)
  have hf_1_24_0 := hG.notin hf_1_24_0 (by decide)
  have hf_1_25_0 := hG.notin hf_1_25_0 (by decide)
  have hf_1_26_0 := hG.notin hf_1_26_0 (by decide)
  have hf_1_27_0 := hG.notin hf_1_27_0 (by decide)
  generalize hV50 : g_set V48 (1, 20, 0) (.inl (cy 0, 8, .inl (fun _ => 0))) = V50 at hG
  have hv_0_0_0 : V50 (0, 0, 0) = .inr (9, [.int 0, .int 0, .ref b1, .ref b4, .int 0, .ref b7, .ref b10, .ref b13, .ref b16, .ref b19, .int 0, .ref b22, .ref b25, .ref b28, .ref b31, .ref b34, .ref b37, .ref b40, .ref b43, .ref b46, .null, .null, .null, .null, .null, .null, .null, .null]) := by rw [← hV50, g_set_ne (by decide)]; exact hv_0_0_0
  have hv_1_2_0 : V50 (1, 2, 0) = .inl (cy 0, 100, .inl (fun _ => 0)) := by rw [← hV50, g_set_ne (by decide)]; exact hv_1_2_0
  have hv_1_3_0 : V50 (1, 3, 0) = .inl (cy 0, 500, .inl (fun _ => 0)) := by rw [← hV50, g_set_ne (by decide)]; exact hv_1_3_0
  have hv_1_5_0 : V50 (1, 5, 0) = .inl (cy 0, 40, .inl (fun _ => 0)) := by rw [← hV50, g_set_ne (by decide)]; exact hv_1_5_0
  have hv_1_6_0 : V50 (1, 6, 0) = .inl (cy 0, 40, .inl (fun _ => 0)) := by rw [← hV50, g_set_ne (by decide)]; exact hv_1_6_0
  have hv_1_7_0 : V50 (1, 7, 0) = .inl (cy 0, 40, .inl (fun _ => 0)) := by rw [← hV50, g_set_ne (by decide)]; exact hv_1_7_0
  have hv_1_8_0 : V50 (1, 8, 0) = .inl (cy 0, 40, .inl (fun _ => 0)) := by rw [← hV50, g_set_ne (by decide)]; exact hv_1_8_0
  have hv_2_9_0 : V50 (2, 9, 0) = .inl (cy 4, 40, .inl (fun _ => 0)) := by rw [← hV50, g_set_ne (by decide)]; exact hv_2_9_0
  have hv_1_11_0 : V50 (1, 11, 0) = .inl (cy 0, 8, .inl (fun _ => 0)) := by rw [← hV50, g_set_ne (by decide)]; exact hv_1_11_0
  have hv_1_12_0 : V50 (1, 12, 0) = .inl (cy 0, 8, .inl (fun _ => 0)) := by rw [← hV50, g_set_ne (by decide)]; exact hv_1_12_0
  have hv_2_13_0 : V50 (2, 13, 0) = .inl (cy 4, 8, .inl (fun _ => 0)) := by rw [← hV50, g_set_ne (by decide)]; exact hv_2_13_0
  have hv_1_14_0 : V50 (1, 14, 0) = .inl (cy 0, 8, .inl (fun _ => 0)) := by rw [← hV50, g_set_ne (by decide)]; exact hv_1_14_0
  have hv_1_15_0 : V50 (1, 15, 0) = .inl (cy 0, 8, .inl (fun _ => 0)) := by rw [← hV50, g_set_ne (by decide)]; exact hv_1_15_0
  have hv_1_16_0 : V50 (1, 16, 0) = .inl (cy 0, 40, .inl (fun _ => 0)) := by rw [← hV50, g_set_ne (by decide)]; exact hv_1_16_0
  have hv_1_17_0 : V50 (1, 17, 0) = .inl (cy 0, 4000, .inl (fun _ => 0)) := by rw [← hV50, g_set_ne (by decide)]; exact hv_1_17_0
  have hv_1_18_0 : V50 (1, 18, 0) = .inl (cy 0, 8, .inl (fun _ => 0)) := by rw [← hV50, g_set_ne (by decide)]; exact hv_1_18_0
  have hv_1_19_0 : V50 (1, 19, 0) = .inl (cy 0, 800, .inl (fun _ => 0)) := by rw [← hV50, g_set_ne (by decide)]; exact hv_1_19_0
  have hv_1_20_0 : V50 (1, 20, 0) = .inl (cy 0, 8, .inl (fun _ => 0)) := by rw [← hV50, g_set_self]
  have hVo : ∀ y, y ≠ (0, 0, 0) ∧ y ≠ (1, 2, 0) ∧ y ≠ (1, 3, 0) ∧ y ≠ (1, 5, 0) ∧ y ≠ (1, 6, 0) ∧ y ≠ (1, 7, 0) ∧ y ≠ (1, 8, 0) ∧ y ≠ (2, 9, 0) ∧ y ≠ (1, 11, 0) ∧ y ≠ (1, 12, 0) ∧ y ≠ (2, 13, 0) ∧ y ≠ (1, 14, 0) ∧ y ≠ (1, 15, 0) ∧ y ≠ (1, 16, 0) ∧ y ≠ (1, 17, 0) ∧ y ≠ (1, 18, 0) ∧ y ≠ (1, 19, 0) ∧ y ≠ (1, 20, 0) ∧ y ≠ (1, 21, 0) ∧ y ≠ (1, 22, 0) ∧ y ≠ (1, 23, 0) ∧ y ≠ (1, 24, 0) ∧ y ≠ (1, 25, 0) ∧ y ≠ (1, 26, 0) ∧ y ≠ (1, 27, 0) → V50 y = V y := fun y hy => by rw [← hV50, g_set_ne (fun q => hy.2.2.2.2.2.2.2.2.2.2.2.2.2.2.2.2.2.1 q)]; first | done | exact hVo y hy
  refine h_putF (C := RX7) (T := TX7) (N := 28) (ci := 9) (ty := (tyX7 20)) hx hb hts inX7g tyX7_ok nmX7 hown hK hG hS (0, 0, 0) hd_0_0_0 e_0_0_0 hAa hv_0_0_0 rfl 20 (by decide) fl_X7_59 rfl hin2 rfl (by decide +kernel) rfl rfl (Nat.le_of_ble_eq_true rfl) dX7_init_140 (fun H locs hG hS => ?_)
  have hG : g_H D vwCl _ L49 (g_set V50 (0, 0, 0) (.inr (9, [.int 0, .int 0, .ref b1, .ref b4, .int 0, .ref b7, .ref b10, .ref b13, .ref b16, .ref b19, .int 0, .ref b22, .ref b25, .ref b28, .ref b31, .ref b34, .ref b37, .ref b40, .ref b43, .ref b46, .ref b49, .null, .null, .null, .null, .null, .null, .null]))) H := hG
  generalize hV51 : g_set V50 (0, 0, 0) (.inr (9, [.int 0, .int 0, .ref b1, .ref b4, .int 0, .ref b7, .ref b10, .ref b13, .ref b16, .ref b19, .int 0, .ref b22, .ref b25, .ref b28, .ref b31, .ref b34, .ref b37, .ref b40, .ref b43, .ref b46, .ref b49, .null, .null, .null, .null, .null, .null, .null])) = V51 at hG
  have hv_1_2_0 : V51 (1, 2, 0) = .inl (cy 0, 100, .inl (fun _ => 0)) := by rw [← hV51, g_set_ne (by decide)]; exact hv_1_2_0
  have hv_1_3_0 : V51 (1, 3, 0) = .inl (cy 0, 500, .inl (fun _ => 0)) := by rw [← hV51, g_set_ne (by decide)]; exact hv_1_3_0
  have hv_1_5_0 : V51 (1, 5, 0) = .inl (cy 0, 40, .inl (fun _ => 0)) := by rw [← hV51, g_set_ne (by decide)]; exact hv_1_5_0
  have hv_1_6_0 : V51 (1, 6, 0) = .inl (cy 0, 40, .inl (fun _ => 0)) := by rw [← hV51, g_set_ne (by decide)]; exact hv_1_6_0
  have hv_1_7_0 : V51 (1, 7, 0) = .inl (cy 0, 40, .inl (fun _ => 0)) := by rw [← hV51, g_set_ne (by decide)]; exact hv_1_7_0
  have hv_1_8_0 : V51 (1, 8, 0) = .inl (cy 0, 40, .inl (fun _ => 0)) := by rw [← hV51, g_set_ne (by decide)]; exact hv_1_8_0
  have hv_2_9_0 : V51 (2, 9, 0) = .inl (cy 4, 40, .inl (fun _ => 0)) := by rw [← hV51, g_set_ne (by decide)]; exact hv_2_9_0
  have hv_1_11_0 : V51 (1, 11, 0) = .inl (cy 0, 8, .inl (fun _ => 0)) := by rw [← hV51, g_set_ne (by decide)]; exact hv_1_11_0
  have hv_1_12_0 : V51 (1, 12, 0) = .inl (cy 0, 8, .inl (fun _ => 0)) := by rw [← hV51, g_set_ne (by decide)]; exact hv_1_12_0
  have hv_2_13_0 : V51 (2, 13, 0) = .inl (cy 4, 8, .inl (fun _ => 0)) := by rw [← hV51, g_set_ne (by decide)]; exact hv_2_13_0
  have hv_1_14_0 : V51 (1, 14, 0) = .inl (cy 0, 8, .inl (fun _ => 0)) := by rw [← hV51, g_set_ne (by decide)]; exact hv_1_14_0
  have hv_1_15_0 : V51 (1, 15, 0) = .inl (cy 0, 8, .inl (fun _ => 0)) := by rw [← hV51, g_set_ne (by decide)]; exact hv_1_15_0
  have hv_1_16_0 : V51 (1, 16, 0) = .inl (cy 0, 40, .inl (fun _ => 0)) := by rw [← hV51, g_set_ne (by decide)]; exact hv_1_16_0
  have hv_1_17_0 : V51 (1, 17, 0) = .inl (cy 0, 4000, .inl (fun _ => 0)) := by rw [← hV51, g_set_ne (by decide)]; exact hv_1_17_0
  have hv_1_18_0 : V51 (1, 18, 0) = .inl (cy 0, 8, .inl (fun _ => 0)) := by rw [← hV51, g_set_ne (by decide)]; exact hv_1_18_0
  have hv_1_19_0 : V51 (1, 19, 0) = .inl (cy 0, 800, .inl (fun _ => 0)) := by rw [← hV51, g_set_ne (by decide)]; exact hv_1_19_0
  have hv_1_20_0 : V51 (1, 20, 0) = .inl (cy 0, 8, .inl (fun _ => 0)) := by rw [← hV51, g_set_ne (by decide)]; exact hv_1_20_0
  have hv_0_0_0 : V51 (0, 0, 0) = .inr (9, [.int 0, .int 0, .ref b1, .ref b4, .int 0, .ref b7, .ref b10, .ref b13, .ref b16, .ref b19, .int 0, .ref b22, .ref b25, .ref b28, .ref b31, .ref b34, .ref b37, .ref b40, .ref b43, .ref b46, .ref b49, .null, .null, .null, .null, .null, .null, .null]) := by rw [← hV51, g_set_self]
  have hVo : ∀ y, y ≠ (0, 0, 0) ∧ y ≠ (1, 2, 0) ∧ y ≠ (1, 3, 0) ∧ y ≠ (1, 5, 0) ∧ y ≠ (1, 6, 0) ∧ y ≠ (1, 7, 0) ∧ y ≠ (1, 8, 0) ∧ y ≠ (2, 9, 0) ∧ y ≠ (1, 11, 0) ∧ y ≠ (1, 12, 0) ∧ y ≠ (2, 13, 0) ∧ y ≠ (1, 14, 0) ∧ y ≠ (1, 15, 0) ∧ y ≠ (1, 16, 0) ∧ y ≠ (1, 17, 0) ∧ y ≠ (1, 18, 0) ∧ y ≠ (1, 19, 0) ∧ y ≠ (1, 20, 0) ∧ y ≠ (1, 21, 0) ∧ y ≠ (1, 22, 0) ∧ y ≠ (1, 23, 0) ∧ y ≠ (1, 24, 0) ∧ y ≠ (1, 25, 0) ∧ y ≠ (1, 26, 0) ∧ y ≠ (1, 27, 0) → V51 y = V y := fun y hy => by rw [← hV51, g_set_ne (fun q => hy.1 q)]; first | done | exact hVo y hy
  refine lv_aload_n hx hb dX7_init_143 rfl (lv_at hl 0 rfl) ?_
  refine lv_sipush (v := 800) hx hb dX7_init_144 (by decide) ?_
  refine h_newa (harr := hts _ ac_int) (atype := .int) (ty := .int) (a0 := (800, .inl (fun _ => 0))) hx hb rfl (fun C h => by cases h) hK 0 rfl hG hS (1, 21, 0) hf_1_21_0 rfl (by decide) rfl (by decide) (Nat.le_of_ble_eq_true rfl) (Nat.le_of_ble_eq_true rfl) dX7_init_147 (fun L52 b52 H hL9 e_1_21_0 ha52 hG hS hz9 o9 => ?_)
  have hs_1_2_0 : s.heap.size ≤ L52 (1, 2, 0) := by rw [hL9 _ hd_1_2_0]; exact hs_1_2_0
  have hs_1_3_0 : s.heap.size ≤ L52 (1, 3, 0) := by rw [hL9 _ hd_1_3_0]; exact hs_1_3_0
  have hs_1_5_0 : s.heap.size ≤ L52 (1, 5, 0) := by rw [hL9 _ hd_1_5_0]; exact hs_1_5_0
  have hs_1_6_0 : s.heap.size ≤ L52 (1, 6, 0) := by rw [hL9 _ hd_1_6_0]; exact hs_1_6_0
  have hs_1_7_0 : s.heap.size ≤ L52 (1, 7, 0) := by rw [hL9 _ hd_1_7_0]; exact hs_1_7_0
  have hs_1_8_0 : s.heap.size ≤ L52 (1, 8, 0) := by rw [hL9 _ hd_1_8_0]; exact hs_1_8_0
  have hs_2_9_0 : s.heap.size ≤ L52 (2, 9, 0) := by rw [hL9 _ hd_2_9_0]; exact hs_2_9_0
  have hs_1_11_0 : s.heap.size ≤ L52 (1, 11, 0) := by rw [hL9 _ hd_1_11_0]; exact hs_1_11_0
  have hs_1_12_0 : s.heap.size ≤ L52 (1, 12, 0) := by rw [hL9 _ hd_1_12_0]; exact hs_1_12_0
  have hs_2_13_0 : s.heap.size ≤ L52 (2, 13, 0) := by rw [hL9 _ hd_2_13_0]; exact hs_2_13_0
  have hs_1_14_0 : s.heap.size ≤ L52 (1, 14, 0) := by rw [hL9 _ hd_1_14_0]; exact hs_1_14_0
  have hs_1_15_0 : s.heap.size ≤ L52 (1, 15, 0) := by rw [hL9 _ hd_1_15_0]; exact hs_1_15_0
  have hs_1_16_0 : s.heap.size ≤ L52 (1, 16, 0) := by rw [hL9 _ hd_1_16_0]; exact hs_1_16_0
  have hs_1_17_0 : s.heap.size ≤ L52 (1, 17, 0) := by rw [hL9 _ hd_1_17_0]; exact hs_1_17_0
  have hs_1_18_0 : s.heap.size ≤ L52 (1, 18, 0) := by rw [hL9 _ hd_1_18_0]; exact hs_1_18_0
  have hs_1_19_0 : s.heap.size ≤ L52 (1, 19, 0) := by rw [hL9 _ hd_1_19_0]; exact hs_1_19_0
  have hs_1_20_0 : s.heap.size ≤ L52 (1, 20, 0) := by rw [hL9 _ hd_1_20_0]; exact hs_1_20_0
  have hs_1_21_0 : s.heap.size ≤ L52 (1, 21, 0) := by rw [e_1_21_0]; exact ha52
  have e_0_0_0 := (hL9 _ hd_0_0_0).trans e_0_0_0
  have e_1_2_0 := (hL9 _ hd_1_2_0).trans e_1_2_0
  have e_1_3_0 := (hL9 _ hd_1_3_0).trans e_1_3_0
  have e_1_5_0 := (hL9 _ hd_1_5_0).trans e_1_5_0
  have e_1_6_0 := (hL9 _ hd_1_6_0).trans e_1_6_0
  have e_1_7_0 := (hL9 _ hd_1_7_0).trans e_1_7_0
  have e_1_8_0 := (hL9 _ hd_1_8_0).trans e_1_8_0
  have e_2_9_0 := (hL9 _ hd_2_9_0).trans e_2_9_0
  have e_1_11_0 := (hL9 _ hd_1_11_0).trans e_1_11_0
  have e_1_12_0 := (hL9 _ hd_1_12_0).trans e_1_12_0
  have e_2_13_0 := (hL9 _ hd_2_13_0).trans e_2_13_0
  have e_1_14_0 := (hL9 _ hd_1_14_0).trans e_1_14_0
  have e_1_15_0 := (hL9 _ hd_1_15_0).trans e_1_15_0
  have e_1_16_0 := (hL9 _ hd_1_16_0).trans e_1_16_0
  have e_1_17_0 := (hL9 _ hd_1_17_0).trans e_1_17_0
  have e_1_18_0 := (hL9 _ hd_1_18_0).trans e_1_18_0
  have e_1_19_0 := (hL9 _ hd_1_19_0).trans e_1_19_0
  have e_1_20_0 := (hL9 _ hd_1_20_0).trans e_1_20_0
  have hLL := fun y (hy : dom y) => (hL9 y (hdd y hy)).trans (hLL y hy)
  have hdd := fun y (hy : dom y) => hG.inO (hdd y hy)
  have hd_0_0_0 := hG.inO hd_0_0_0
  have hd_1_2_0 := hG.inO hd_1_2_0
  have hd_1_3_0 := hG.inO hd_1_3_0
  have hd_1_5_0 := hG.inO hd_1_5_0
  have hd_1_6_0 := hG.inO hd_1_6_0
  have hd_1_7_0 := hG.inO hd_1_7_0
  have hd_1_8_0 := hG.inO hd_1_8_0
  have hd_2_9_0 := hG.inO hd_2_9_0
  have hd_1_11_0 := hG.inO hd_1_11_0
  have hd_1_12_0 := hG.inO hd_1_12_0
  have hd_2_13_0 := hG.inO hd_2_13_0
  have hd_1_14_0 := hG.inO hd_1_14_0
  have hd_1_15_0 := hG.inO hd_1_15_0
  have hd_1_16_0 := hG.inO hd_1_16_0
  have hd_1_17_0 := hG.inO hd_1_17_0
  have hd_1_18_0 := hG.inO hd_1_18_0
  have hd_1_19_0 := hG.inO hd_1_19_0
  have hd_1_20_0 := hG.inO hd_1_20_0
  have hd_1_21_0 := hG.inX
  have hf_1_22_0 := hG.notin hf_1_22_0 (by decide)
  have hf_1_23_0 := hG.notin hf_1_23_0 (by decide)
  have hf_1_24_0 := hG.notin hf_1_24_0 (by decide)
  have hf_1_25_0 := hG.notin hf_1_25_0 (by decide)
  have hf_1_26_0 := hG.notin hf_1_26_0 (by decide)
  have hf_1_27_0 := hG.notin hf_1_27_0 (by decide)
  generalize hV53 : g_set V51 (1, 21, 0) (.inl (cy 0, 800, .inl (fun _ => 0))) = V53 at hG
  have hv_0_0_0 : V53 (0, 0, 0) = .inr (9, [.int 0, .int 0, .ref b1, .ref b4, .int 0, .ref b7, .ref b10, .ref b13, .ref b16, .ref b19, .int 0, .ref b22, .ref b25, .ref b28, .ref b31, .ref b34, .ref b37, .ref b40, .ref b43, .ref b46, .ref b49, .null, .null, .null, .null, .null, .null, .null]) := by rw [← hV53, g_set_ne (by decide)]; exact hv_0_0_0
  have hv_1_2_0 : V53 (1, 2, 0) = .inl (cy 0, 100, .inl (fun _ => 0)) := by rw [← hV53, g_set_ne (by decide)]; exact hv_1_2_0
  have hv_1_3_0 : V53 (1, 3, 0) = .inl (cy 0, 500, .inl (fun _ => 0)) := by rw [← hV53, g_set_ne (by decide)]; exact hv_1_3_0
  have hv_1_5_0 : V53 (1, 5, 0) = .inl (cy 0, 40, .inl (fun _ => 0)) := by rw [← hV53, g_set_ne (by decide)]; exact hv_1_5_0
  have hv_1_6_0 : V53 (1, 6, 0) = .inl (cy 0, 40, .inl (fun _ => 0)) := by rw [← hV53, g_set_ne (by decide)]; exact hv_1_6_0
  have hv_1_7_0 : V53 (1, 7, 0) = .inl (cy 0, 40, .inl (fun _ => 0)) := by rw [← hV53, g_set_ne (by decide)]; exact hv_1_7_0
  have hv_1_8_0 : V53 (1, 8, 0) = .inl (cy 0, 40, .inl (fun _ => 0)) := by rw [← hV53, g_set_ne (by decide)]; exact hv_1_8_0
  have hv_2_9_0 : V53 (2, 9, 0) = .inl (cy 4, 40, .inl (fun _ => 0)) := by rw [← hV53, g_set_ne (by decide)]; exact hv_2_9_0
  have hv_1_11_0 : V53 (1, 11, 0) = .inl (cy 0, 8, .inl (fun _ => 0)) := by rw [← hV53, g_set_ne (by decide)]; exact hv_1_11_0
  have hv_1_12_0 : V53 (1, 12, 0) = .inl (cy 0, 8, .inl (fun _ => 0)) := by rw [← hV53, g_set_ne (by decide)]; exact hv_1_12_0
  have hv_2_13_0 : V53 (2, 13, 0) = .inl (cy 4, 8, .inl (fun _ => 0)) := by rw [← hV53, g_set_ne (by decide)]; exact hv_2_13_0
  have hv_1_14_0 : V53 (1, 14, 0) = .inl (cy 0, 8, .inl (fun _ => 0)) := by rw [← hV53, g_set_ne (by decide)]; exact hv_1_14_0
  have hv_1_15_0 : V53 (1, 15, 0) = .inl (cy 0, 8, .inl (fun _ => 0)) := by rw [← hV53, g_set_ne (by decide)]; exact hv_1_15_0
  have hv_1_16_0 : V53 (1, 16, 0) = .inl (cy 0, 40, .inl (fun _ => 0)) := by rw [← hV53, g_set_ne (by decide)]; exact hv_1_16_0
  have hv_1_17_0 : V53 (1, 17, 0) = .inl (cy 0, 4000, .inl (fun _ => 0)) := by rw [← hV53, g_set_ne (by decide)]; exact hv_1_17_0
  have hv_1_18_0 : V53 (1, 18, 0) = .inl (cy 0, 8, .inl (fun _ => 0)) := by rw [← hV53, g_set_ne (by decide)]; exact hv_1_18_0
  have hv_1_19_0 : V53 (1, 19, 0) = .inl (cy 0, 800, .inl (fun _ => 0)) := by rw [← hV53, g_set_ne (by decide)]; exact hv_1_19_0
  have hv_1_20_0 : V53 (1, 20, 0) = .inl (cy 0, 8, .inl (fun _ => 0)) := by rw [← hV53, g_set_ne (by decide)]; exact hv_1_20_0
  have hv_1_21_0 : V53 (1, 21, 0) = .inl (cy 0, 800, .inl (fun _ => 0)) := by rw [← hV53, g_set_self]
  have hVo : ∀ y, y ≠ (0, 0, 0) ∧ y ≠ (1, 2, 0) ∧ y ≠ (1, 3, 0) ∧ y ≠ (1, 5, 0) ∧ y ≠ (1, 6, 0) ∧ y ≠ (1, 7, 0) ∧ y ≠ (1, 8, 0) ∧ y ≠ (2, 9, 0) ∧ y ≠ (1, 11, 0) ∧ y ≠ (1, 12, 0) ∧ y ≠ (2, 13, 0) ∧ y ≠ (1, 14, 0) ∧ y ≠ (1, 15, 0) ∧ y ≠ (1, 16, 0) ∧ y ≠ (1, 17, 0) ∧ y ≠ (1, 18, 0) ∧ y ≠ (1, 19, 0) ∧ y ≠ (1, 20, 0) ∧ y ≠ (1, 21, 0) ∧ y ≠ (1, 22, 0) ∧ y ≠ (1, 23, 0) ∧ y ≠ (1, 24, 0) ∧ y ≠ (1, 25, 0) ∧ y ≠ (1, 26, 0) ∧ y ≠ (1, 27, 0) → V53 y = V y := fun y hy => by rw [← hV53, g_set_ne (fun q => hy.2.2.2.2.2.2.2.2.2.2.2.2.2.2.2.2.2.2.1 q)]; first | done | exact hVo y hy
  refine h_putF (C := RX7) (T := TX7) (N := 28) (ci := 9) (ty := (tyX7 21)) hx hb hts inX7g tyX7_ok nmX7 hown hK hG hS (0, 0, 0) hd_0_0_0 e_0_0_0 hAa hv_0_0_0 rfl 21 (by decide) fl_X7_62 rfl hin2 rfl (by decide +kernel) rfl rfl (Nat.le_of_ble_eq_true rfl) dX7_init_149 (fun H locs hG hS => ?_)
  have hG : g_H D vwCl _ L52 (g_set V53 (0, 0, 0) (.inr (9, [.int 0, .int 0, .ref b1, .ref b4, .int 0, .ref b7, .ref b10, .ref b13, .ref b16, .ref b19, .int 0, .ref b22, .ref b25, .ref b28, .ref b31, .ref b34, .ref b37, .ref b40, .ref b43, .ref b46, .ref b49, .ref b52, .null, .null, .null, .null, .null, .null]))) H := hG
  generalize hV54 : g_set V53 (0, 0, 0) (.inr (9, [.int 0, .int 0, .ref b1, .ref b4, .int 0, .ref b7, .ref b10, .ref b13, .ref b16, .ref b19, .int 0, .ref b22, .ref b25, .ref b28, .ref b31, .ref b34, .ref b37, .ref b40, .ref b43, .ref b46, .ref b49, .ref b52, .null, .null, .null, .null, .null, .null])) = V54 at hG
  have hv_1_2_0 : V54 (1, 2, 0) = .inl (cy 0, 100, .inl (fun _ => 0)) := by rw [← hV54, g_set_ne (by decide)]; exact hv_1_2_0
  have hv_1_3_0 : V54 (1, 3, 0) = .inl (cy 0, 500, .inl (fun _ => 0)) := by rw [← hV54, g_set_ne (by decide)]; exact hv_1_3_0
  have hv_1_5_0 : V54 (1, 5, 0) = .inl (cy 0, 40, .inl (fun _ => 0)) := by rw [← hV54, g_set_ne (by decide)]; exact hv_1_5_0
  have hv_1_6_0 : V54 (1, 6, 0) = .inl (cy 0, 40, .inl (fun _ => 0)) := by rw [← hV54, g_set_ne (by decide)]; exact hv_1_6_0
  have hv_1_7_0 : V54 (1, 7, 0) = .inl (cy 0, 40, .inl (fun _ => 0)) := by rw [← hV54, g_set_ne (by decide)]; exact hv_1_7_0
  have hv_1_8_0 : V54 (1, 8, 0) = .inl (cy 0, 40, .inl (fun _ => 0)) := by rw [← hV54, g_set_ne (by decide)]; exact hv_1_8_0
  have hv_2_9_0 : V54 (2, 9, 0) = .inl (cy 4, 40, .inl (fun _ => 0)) := by rw [← hV54, g_set_ne (by decide)]; exact hv_2_9_0
  have hv_1_11_0 : V54 (1, 11, 0) = .inl (cy 0, 8, .inl (fun _ => 0)) := by rw [← hV54, g_set_ne (by decide)]; exact hv_1_11_0
  have hv_1_12_0 : V54 (1, 12, 0) = .inl (cy 0, 8, .inl (fun _ => 0)) := by rw [← hV54, g_set_ne (by decide)]; exact hv_1_12_0
  have hv_2_13_0 : V54 (2, 13, 0) = .inl (cy 4, 8, .inl (fun _ => 0)) := by rw [← hV54, g_set_ne (by decide)]; exact hv_2_13_0
  have hv_1_14_0 : V54 (1, 14, 0) = .inl (cy 0, 8, .inl (fun _ => 0)) := by rw [← hV54, g_set_ne (by decide)]; exact hv_1_14_0
  have hv_1_15_0 : V54 (1, 15, 0) = .inl (cy 0, 8, .inl (fun _ => 0)) := by rw [← hV54, g_set_ne (by decide)]; exact hv_1_15_0
  have hv_1_16_0 : V54 (1, 16, 0) = .inl (cy 0, 40, .inl (fun _ => 0)) := by rw [← hV54, g_set_ne (by decide)]; exact hv_1_16_0
  have hv_1_17_0 : V54 (1, 17, 0) = .inl (cy 0, 4000, .inl (fun _ => 0)) := by rw [← hV54, g_set_ne (by decide)]; exact hv_1_17_0
  have hv_1_18_0 : V54 (1, 18, 0) = .inl (cy 0, 8, .inl (fun _ => 0)) := by rw [← hV54, g_set_ne (by decide)]; exact hv_1_18_0
  have hv_1_19_0 : V54 (1, 19, 0) = .inl (cy 0, 800, .inl (fun _ => 0)) := by rw [← hV54, g_set_ne (by decide)]; exact hv_1_19_0
  have hv_1_20_0 : V54 (1, 20, 0) = .inl (cy 0, 8, .inl (fun _ => 0)) := by rw [← hV54, g_set_ne (by decide)]; exact hv_1_20_0
  have hv_1_21_0 : V54 (1, 21, 0) = .inl (cy 0, 800, .inl (fun _ => 0)) := by rw [← hV54, g_set_ne (by decide)]; exact hv_1_21_0
  have hv_0_0_0 : V54 (0, 0, 0) = .inr (9, [.int 0, .int 0, .ref b1, .ref b4, .int 0, .ref b7, .ref b10, .ref b13, .ref b16, .ref b19, .int 0, .ref b22, .ref b25, .ref b28, .ref b31, .ref b34, .ref b37, .ref b40, .ref b43, .ref b46, .ref b49, .ref b52, .null, .null, .null, .null, .null, .null]) := by rw [← hV54, g_set_self]
  have hVo : ∀ y, y ≠ (0, 0, 0) ∧ y ≠ (1, 2, 0) ∧ y ≠ (1, 3, 0) ∧ y ≠ (1, 5, 0) ∧ y ≠ (1, 6, 0) ∧ y ≠ (1, 7, 0) ∧ y ≠ (1, 8, 0) ∧ y ≠ (2, 9, 0) ∧ y ≠ (1, 11, 0) ∧ y ≠ (1, 12, 0) ∧ y ≠ (2, 13, 0) ∧ y ≠ (1, 14, 0) ∧ y ≠ (1, 15, 0) ∧ y ≠ (1, 16, 0) ∧ y ≠ (1, 17, 0) ∧ y ≠ (1, 18, 0) ∧ y ≠ (1, 19, 0) ∧ y ≠ (1, 20, 0) ∧ y ≠ (1, 21, 0) ∧ y ≠ (1, 22, 0) ∧ y ≠ (1, 23, 0) ∧ y ≠ (1, 24, 0) ∧ y ≠ (1, 25, 0) ∧ y ≠ (1, 26, 0) ∧ y ≠ (1, 27, 0) → V54 y = V y := fun y hy => by rw [← hV54, g_set_ne (fun q => hy.1 q)]; first | done | exact hVo y hy
  refine lv_aload_n hx hb dX7_init_152 rfl (lv_at hl 0 rfl) ?_
  refine lv_sipush (v := 800) hx hb dX7_init_153 (by decide) ?_
  refine h_newa (harr := hts _ ac_int) (atype := .int) (ty := .int) (a0 := (800, .inl (fun _ => 0))) hx hb rfl (fun C h => by cases h) hK 0 rfl hG hS (1, 22, 0) hf_1_22_0 rfl (by decide) rfl (by decide) (Nat.le_of_ble_eq_true rfl) (Nat.le_of_ble_eq_true rfl) dX7_init_156 (fun L55 b55 H hL9 e_1_22_0 ha55 hG hS hz9 o9 => ?_)
  have hs_1_2_0 : s.heap.size ≤ L55 (1, 2, 0) := by rw [hL9 _ hd_1_2_0]; exact hs_1_2_0
  have hs_1_3_0 : s.heap.size ≤ L55 (1, 3, 0) := by rw [hL9 _ hd_1_3_0]; exact hs_1_3_0
  have hs_1_5_0 : s.heap.size ≤ L55 (1, 5, 0) := by rw [hL9 _ hd_1_5_0]; exact hs_1_5_0
  have hs_1_6_0 : s.heap.size ≤ L55 (1, 6, 0) := by rw [hL9 _ hd_1_6_0]; exact hs_1_6_0
  have hs_1_7_0 : s.heap.size ≤ L55 (1, 7, 0) := by rw [hL9 _ hd_1_7_0]; exact hs_1_7_0
  have hs_1_8_0 : s.heap.size ≤ L55 (1, 8, 0) := by rw [hL9 _ hd_1_8_0]; exact hs_1_8_0
  have hs_2_9_0 : s.heap.size ≤ L55 (2, 9, 0) := by rw [hL9 _ hd_2_9_0]; exact hs_2_9_0
  have hs_1_11_0 : s.heap.size ≤ L55 (1, 11, 0) := by rw [hL9 _ hd_1_11_0]; exact hs_1_11_0
  have hs_1_12_0 : s.heap.size ≤ L55 (1, 12, 0) := by rw [hL9 _ hd_1_12_0]; exact hs_1_12_0
  have hs_2_13_0 : s.heap.size ≤ L55 (2, 13, 0) := by rw [hL9 _ hd_2_13_0]; exact hs_2_13_0
  have hs_1_14_0 : s.heap.size ≤ L55 (1, 14, 0) := by rw [hL9 _ hd_1_14_0]; exact hs_1_14_0
  have hs_1_15_0 : s.heap.size ≤ L55 (1, 15, 0) := by rw [hL9 _ hd_1_15_0]; exact hs_1_15_0
  have hs_1_16_0 : s.heap.size ≤ L55 (1, 16, 0) := by rw [hL9 _ hd_1_16_0]; exact hs_1_16_0
  have hs_1_17_0 : s.heap.size ≤ L55 (1, 17, 0) := by rw [hL9 _ hd_1_17_0]; exact hs_1_17_0
  have hs_1_18_0 : s.heap.size ≤ L55 (1, 18, 0) := by rw [hL9 _ hd_1_18_0]; exact hs_1_18_0
  have hs_1_19_0 : s.heap.size ≤ L55 (1, 19, 0) := by rw [hL9 _ hd_1_19_0]; exact hs_1_19_0
  have hs_1_20_0 : s.heap.size ≤ L55 (1, 20, 0) := by rw [hL9 _ hd_1_20_0]; exact hs_1_20_0
  have hs_1_21_0 : s.heap.size ≤ L55 (1, 21, 0) := by rw [hL9 _ hd_1_21_0]; exact hs_1_21_0
  have hs_1_22_0 : s.heap.size ≤ L55 (1, 22, 0) := by rw [e_1_22_0]; exact ha55
  have e_0_0_0 := (hL9 _ hd_0_0_0).trans e_0_0_0
  have e_1_2_0 := (hL9 _ hd_1_2_0).trans e_1_2_0
  have e_1_3_0 := (hL9 _ hd_1_3_0).trans e_1_3_0
  have e_1_5_0 := (hL9 _ hd_1_5_0).trans e_1_5_0
  have e_1_6_0 := (hL9 _ hd_1_6_0).trans e_1_6_0
  have e_1_7_0 := (hL9 _ hd_1_7_0).trans e_1_7_0
  have e_1_8_0 := (hL9 _ hd_1_8_0).trans e_1_8_0
  have e_2_9_0 := (hL9 _ hd_2_9_0).trans e_2_9_0
  have e_1_11_0 := (hL9 _ hd_1_11_0).trans e_1_11_0
  have e_1_12_0 := (hL9 _ hd_1_12_0).trans e_1_12_0
  have e_2_13_0 := (hL9 _ hd_2_13_0).trans e_2_13_0
  have e_1_14_0 := (hL9 _ hd_1_14_0).trans e_1_14_0
  have e_1_15_0 := (hL9 _ hd_1_15_0).trans e_1_15_0
  have e_1_16_0 := (hL9 _ hd_1_16_0).trans e_1_16_0
  have e_1_17_0 := (hL9 _ hd_1_17_0).trans e_1_17_0
  have e_1_18_0 := (hL9 _ hd_1_18_0).trans e_1_18_0
  have e_1_19_0 := (hL9 _ hd_1_19_0).trans e_1_19_0
  have e_1_20_0 := (hL9 _ hd_1_20_0).trans e_1_20_0
  have e_1_21_0 := (hL9 _ hd_1_21_0).trans e_1_21_0
  have hLL := fun y (hy : dom y) => (hL9 y (hdd y hy)).trans (hLL y hy)
  have hdd := fun y (hy : dom y) => hG.inO (hdd y hy)
  have hd_0_0_0 := hG.inO hd_0_0_0
  have hd_1_2_0 := hG.inO hd_1_2_0
  have hd_1_3_0 := hG.inO hd_1_3_0
  have hd_1_5_0 := hG.inO hd_1_5_0
  have hd_1_6_0 := hG.inO hd_1_6_0
  have hd_1_7_0 := hG.inO hd_1_7_0
  have hd_1_8_0 := hG.inO hd_1_8_0
  have hd_2_9_0 := hG.inO hd_2_9_0
  have hd_1_11_0 := hG.inO hd_1_11_0
  have hd_1_12_0 := hG.inO hd_1_12_0
  have hd_2_13_0 := hG.inO hd_2_13_0
  have hd_1_14_0 := hG.inO hd_1_14_0
  have hd_1_15_0 := hG.inO hd_1_15_0
  have hd_1_16_0 := hG.inO hd_1_16_0
  have hd_1_17_0 := hG.inO hd_1_17_0
  have hd_1_18_0 := hG.inO hd_1_18_0
  have hd_1_19_0 := hG.inO hd_1_19_0
  have hd_1_20_0 := hG.inO hd_1_20_0
  have hd_1_21_0 := hG.inO hd_1_21_0
  have hd_1_22_0 := hG.inX
  have hf_1_23_0 := hG.notin hf_1_23_0 (by decide)
  have hf_1_24_0 := hG.notin hf_1_24_0 (by decide)
  have hf_1_25_0 := hG.notin hf_1_25_0 (by decide)
  have hf_1_26_0 := hG.notin hf_1_26_0 (by decide)
  have hf_1_27_0 := hG.notin hf_1_27_0 (by decide)
  generalize hV56 : g_set V54 (1, 22, 0) (.inl (cy 0, 800, .inl (fun _ => 0))) = V56 at hG
  have hv_0_0_0 : V56 (0, 0, 0) = .inr (9, [.int 0, .int 0, .ref b1, .ref b4, .int 0, .ref b7, .ref b10, .ref b13, .ref b16, .ref b19, .int 0, .ref b22, .ref b25, .ref b28, .ref b31, .ref b34, .ref b37, .ref b40, .ref b43, .ref b46, .ref b49, .ref b52, .null, .null, .null, .null, .null, .null]) := by rw [← hV56, g_set_ne (by decide)]; exact hv_0_0_0
  have hv_1_2_0 : V56 (1, 2, 0) = .inl (cy 0, 100, .inl (fun _ => 0)) := by rw [← hV56, g_set_ne (by decide)]; exact hv_1_2_0
  have hv_1_3_0 : V56 (1, 3, 0) = .inl (cy 0, 500, .inl (fun _ => 0)) := by rw [← hV56, g_set_ne (by decide)]; exact hv_1_3_0
  have hv_1_5_0 : V56 (1, 5, 0) = .inl (cy 0, 40, .inl (fun _ => 0)) := by rw [← hV56, g_set_ne (by decide)]; exact hv_1_5_0
  have hv_1_6_0 : V56 (1, 6, 0) = .inl (cy 0, 40, .inl (fun _ => 0)) := by rw [← hV56, g_set_ne (by decide)]; exact hv_1_6_0
  have hv_1_7_0 : V56 (1, 7, 0) = .inl (cy 0, 40, .inl (fun _ => 0)) := by rw [← hV56, g_set_ne (by decide)]; exact hv_1_7_0
  have hv_1_8_0 : V56 (1, 8, 0) = .inl (cy 0, 40, .inl (fun _ => 0)) := by rw [← hV56, g_set_ne (by decide)]; exact hv_1_8_0
  have hv_2_9_0 : V56 (2, 9, 0) = .inl (cy 4, 40, .inl (fun _ => 0)) := by rw [← hV56, g_set_ne (by decide)]; exact hv_2_9_0
  have hv_1_11_0 : V56 (1, 11, 0) = .inl (cy 0, 8, .inl (fun _ => 0)) := by rw [← hV56, g_set_ne (by decide)]; exact hv_1_11_0
  have hv_1_12_0 : V56 (1, 12, 0) = .inl (cy 0, 8, .inl (fun _ => 0)) := by rw [← hV56, g_set_ne (by decide)]; exact hv_1_12_0
  have hv_2_13_0 : V56 (2, 13, 0) = .inl (cy 4, 8, .inl (fun _ => 0)) := by rw [← hV56, g_set_ne (by decide)]; exact hv_2_13_0
  have hv_1_14_0 : V56 (1, 14, 0) = .inl (cy 0, 8, .inl (fun _ => 0)) := by rw [← hV56, g_set_ne (by decide)]; exact hv_1_14_0
  have hv_1_15_0 : V56 (1, 15, 0) = .inl (cy 0, 8, .inl (fun _ => 0)) := by rw [← hV56, g_set_ne (by decide)]; exact hv_1_15_0
  have hv_1_16_0 : V56 (1, 16, 0) = .inl (cy 0, 40, .inl (fun _ => 0)) := by rw [← hV56, g_set_ne (by decide)]; exact hv_1_16_0
  have hv_1_17_0 : V56 (1, 17, 0) = .inl (cy 0, 4000, .inl (fun _ => 0)) := by rw [← hV56, g_set_ne (by decide)]; exact hv_1_17_0
  have hv_1_18_0 : V56 (1, 18, 0) = .inl (cy 0, 8, .inl (fun _ => 0)) := by rw [← hV56, g_set_ne (by decide)]; exact hv_1_18_0
  have hv_1_19_0 : V56 (1, 19, 0) = .inl (cy 0, 800, .inl (fun _ => 0)) := by rw [← hV56, g_set_ne (by decide)]; exact hv_1_19_0
  have hv_1_20_0 : V56 (1, 20, 0) = .inl (cy 0, 8, .inl (fun _ => 0)) := by rw [← hV56, g_set_ne (by decide)]; exact hv_1_20_0
  have hv_1_21_0 : V56 (1, 21, 0) = .inl (cy 0, 800, .inl (fun _ => 0)) := by rw [← hV56, g_set_ne (by decide)]; exact hv_1_21_0
  have hv_1_22_0 : V56 (1, 22, 0) = .inl (cy 0, 800, .inl (fun _ => 0)) := by rw [← hV56, g_set_self]
  have hVo : ∀ y, y ≠ (0, 0, 0) ∧ y ≠ (1, 2, 0) ∧ y ≠ (1, 3, 0) ∧ y ≠ (1, 5, 0) ∧ y ≠ (1, 6, 0) ∧ y ≠ (1, 7, 0) ∧ y ≠ (1, 8, 0) ∧ y ≠ (2, 9, 0) ∧ y ≠ (1, 11, 0) ∧ y ≠ (1, 12, 0) ∧ y ≠ (2, 13, 0) ∧ y ≠ (1, 14, 0) ∧ y ≠ (1, 15, 0) ∧ y ≠ (1, 16, 0) ∧ y ≠ (1, 17, 0) ∧ y ≠ (1, 18, 0) ∧ y ≠ (1, 19, 0) ∧ y ≠ (1, 20, 0) ∧ y ≠ (1, 21, 0) ∧ y ≠ (1, 22, 0) ∧ y ≠ (1, 23, 0) ∧ y ≠ (1, 24, 0) ∧ y ≠ (1, 25, 0) ∧ y ≠ (1, 26, 0) ∧ y ≠ (1, 27, 0) → V56 y = V y := fun y hy => by rw [← hV56, g_set_ne (fun q => hy.2.2.2.2.2.2.2.2.2.2.2.2.2.2.2.2.2.2.2.1 q)]; first | done | exact hVo y hy
  refine h_putF (C := RX7) (T := TX7) (N := 28) (ci := 9) (ty := (tyX7 22)) hx hb hts inX7g tyX7_ok nmX7 hown hK hG hS (0, 0, 0) hd_0_0_0 e_0_0_0 hAa hv_0_0_0 rfl 22 (by decide) fl_X7_65 rfl hin2 rfl (by decide +kernel) rfl rfl (Nat.le_of_ble_eq_true rfl) dX7_init_158 (fun H locs hG hS => ?_)
  have hG : g_H D vwCl _ L55 (g_set V56 (0, 0, 0) (.inr (9, [.int 0, .int 0, .ref b1, .ref b4, .int 0, .ref b7, .ref b10, .ref b13, .ref b16, .ref b19, .int 0, .ref b22, .ref b25, .ref b28, .ref b31, .ref b34, .ref b37, .ref b40, .ref b43, .ref b46, .ref b49, .ref b52, .ref b55, .null, .null, .null, .null, .null]))) H := hG
  generalize hV57 : g_set V56 (0, 0, 0) (.inr (9, [.int 0, .int 0, .ref b1, .ref b4, .int 0, .ref b7, .ref b10, .ref b13, .ref b16, .ref b19, .int 0, .ref b22, .ref b25, .ref b28, .ref b31, .ref b34, .ref b37, .ref b40, .ref b43, .ref b46, .ref b49, .ref b52, .ref b55, .null, .null, .null, .null, .null])) = V57 at hG
  have hv_1_2_0 : V57 (1, 2, 0) = .inl (cy 0, 100, .inl (fun _ => 0)) := by rw [← hV57, g_set_ne (by decide)]; exact hv_1_2_0
  have hv_1_3_0 : V57 (1, 3, 0) = .inl (cy 0, 500, .inl (fun _ => 0)) := by rw [← hV57, g_set_ne (by decide)]; exact hv_1_3_0
  have hv_1_5_0 : V57 (1, 5, 0) = .inl (cy 0, 40, .inl (fun _ => 0)) := by rw [← hV57, g_set_ne (by decide)]; exact hv_1_5_0
  have hv_1_6_0 : V57 (1, 6, 0) = .inl (cy 0, 40, .inl (fun _ => 0)) := by rw [← hV57, g_set_ne (by decide)]; exact hv_1_6_0
  have hv_1_7_0 : V57 (1, 7, 0) = .inl (cy 0, 40, .inl (fun _ => 0)) := by rw [← hV57, g_set_ne (by decide)]; exact hv_1_7_0
  have hv_1_8_0 : V57 (1, 8, 0) = .inl (cy 0, 40, .inl (fun _ => 0)) := by rw [← hV57, g_set_ne (by decide)]; exact hv_1_8_0
  have hv_2_9_0 : V57 (2, 9, 0) = .inl (cy 4, 40, .inl (fun _ => 0)) := by rw [← hV57, g_set_ne (by decide)]; exact hv_2_9_0
  have hv_1_11_0 : V57 (1, 11, 0) = .inl (cy 0, 8, .inl (fun _ => 0)) := by rw [← hV57, g_set_ne (by decide)]; exact hv_1_11_0
  have hv_1_12_0 : V57 (1, 12, 0) = .inl (cy 0, 8, .inl (fun _ => 0)) := by rw [← hV57, g_set_ne (by decide)]; exact hv_1_12_0
  have hv_2_13_0 : V57 (2, 13, 0) = .inl (cy 4, 8, .inl (fun _ => 0)) := by rw [← hV57, g_set_ne (by decide)]; exact hv_2_13_0
  have hv_1_14_0 : V57 (1, 14, 0) = .inl (cy 0, 8, .inl (fun _ => 0)) := by rw [← hV57, g_set_ne (by decide)]; exact hv_1_14_0
  have hv_1_15_0 : V57 (1, 15, 0) = .inl (cy 0, 8, .inl (fun _ => 0)) := by rw [← hV57, g_set_ne (by decide)]; exact hv_1_15_0
  have hv_1_16_0 : V57 (1, 16, 0) = .inl (cy 0, 40, .inl (fun _ => 0)) := by rw [← hV57, g_set_ne (by decide)]; exact hv_1_16_0
  have hv_1_17_0 : V57 (1, 17, 0) = .inl (cy 0, 4000, .inl (fun _ => 0)) := by rw [← hV57, g_set_ne (by decide)]; exact hv_1_17_0
  have hv_1_18_0 : V57 (1, 18, 0) = .inl (cy 0, 8, .inl (fun _ => 0)) := by rw [← hV57, g_set_ne (by decide)]; exact hv_1_18_0
  have hv_1_19_0 : V57 (1, 19, 0) = .inl (cy 0, 800, .inl (fun _ => 0)) := by rw [← hV57, g_set_ne (by decide)]; exact hv_1_19_0
  have hv_1_20_0 : V57 (1, 20, 0) = .inl (cy 0, 8, .inl (fun _ => 0)) := by rw [← hV57, g_set_ne (by decide)]; exact hv_1_20_0
  have hv_1_21_0 : V57 (1, 21, 0) = .inl (cy 0, 800, .inl (fun _ => 0)) := by rw [← hV57, g_set_ne (by decide)]; exact hv_1_21_0
  have hv_1_22_0 : V57 (1, 22, 0) = .inl (cy 0, 800, .inl (fun _ => 0)) := by rw [← hV57, g_set_ne (by decide)]; exact hv_1_22_0
  have hv_0_0_0 : V57 (0, 0, 0) = .inr (9, [.int 0, .int 0, .ref b1, .ref b4, .int 0, .ref b7, .ref b10, .ref b13, .ref b16, .ref b19, .int 0, .ref b22, .ref b25, .ref b28, .ref b31, .ref b34, .ref b37, .ref b40, .ref b43, .ref b46, .ref b49, .ref b52, .ref b55, .null, .null, .null, .null, .null]) := by rw [← hV57, g_set_self]
  have hVo : ∀ y, y ≠ (0, 0, 0) ∧ y ≠ (1, 2, 0) ∧ y ≠ (1, 3, 0) ∧ y ≠ (1, 5, 0) ∧ y ≠ (1, 6, 0) ∧ y ≠ (1, 7, 0) ∧ y ≠ (1, 8, 0) ∧ y ≠ (2, 9, 0) ∧ y ≠ (1, 11, 0) ∧ y ≠ (1, 12, 0) ∧ y ≠ (2, 13, 0) ∧ y ≠ (1, 14, 0) ∧ y ≠ (1, 15, 0) ∧ y ≠ (1, 16, 0) ∧ y ≠ (1, 17, 0) ∧ y ≠ (1, 18, 0) ∧ y ≠ (1, 19, 0) ∧ y ≠ (1, 20, 0) ∧ y ≠ (1, 21, 0) ∧ y ≠ (1, 22, 0) ∧ y ≠ (1, 23, 0) ∧ y ≠ (1, 24, 0) ∧ y ≠ (1, 25, 0) ∧ y ≠ (1, 26, 0) ∧ y ≠ (1, 27, 0) → V57 y = V y := fun y hy => by rw [← hV57, g_set_ne (fun q => hy.1 q)]; first | done | exact hVo y hy
  refine lv_aload_n hx hb dX7_init_161 rfl (lv_at hl 0 rfl) ?_
  refine lv_sipush (v := 800) hx hb dX7_init_162 (by decide) ?_
  refine h_newa (harr := hts _ ac_int) (atype := .int) (ty := .int) (a0 := (800, .inl (fun _ => 0))) hx hb rfl (fun C h => by cases h) hK 0 rfl hG hS (1, 23, 0) hf_1_23_0 rfl (by decide) rfl (by decide) (Nat.le_of_ble_eq_true rfl) (Nat.le_of_ble_eq_true rfl) dX7_init_165 (fun L58 b58 H hL9 e_1_23_0 ha58 hG hS hz9 o9 => ?_)
  have hs_1_2_0 : s.heap.size ≤ L58 (1, 2, 0) := by rw [hL9 _ hd_1_2_0]; exact hs_1_2_0
  have hs_1_3_0 : s.heap.size ≤ L58 (1, 3, 0) := by rw [hL9 _ hd_1_3_0]; exact hs_1_3_0
  have hs_1_5_0 : s.heap.size ≤ L58 (1, 5, 0) := by rw [hL9 _ hd_1_5_0]; exact hs_1_5_0
  have hs_1_6_0 : s.heap.size ≤ L58 (1, 6, 0) := by rw [hL9 _ hd_1_6_0]; exact hs_1_6_0
  have hs_1_7_0 : s.heap.size ≤ L58 (1, 7, 0) := by rw [hL9 _ hd_1_7_0]; exact hs_1_7_0
  have hs_1_8_0 : s.heap.size ≤ L58 (1, 8, 0) := by rw [hL9 _ hd_1_8_0]; exact hs_1_8_0
  have hs_2_9_0 : s.heap.size ≤ L58 (2, 9, 0) := by rw [hL9 _ hd_2_9_0]; exact hs_2_9_0
  have hs_1_11_0 : s.heap.size ≤ L58 (1, 11, 0) := by rw [hL9 _ hd_1_11_0]; exact hs_1_11_0
  have hs_1_12_0 : s.heap.size ≤ L58 (1, 12, 0) := by rw [hL9 _ hd_1_12_0]; exact hs_1_12_0
  have hs_2_13_0 : s.heap.size ≤ L58 (2, 13, 0) := by rw [hL9 _ hd_2_13_0]; exact hs_2_13_0
  have hs_1_14_0 : s.heap.size ≤ L58 (1, 14, 0) := by rw [hL9 _ hd_1_14_0]; exact hs_1_14_0
  have hs_1_15_0 : s.heap.size ≤ L58 (1, 15, 0) := by rw [hL9 _ hd_1_15_0]; exact hs_1_15_0
  have hs_1_16_0 : s.heap.size ≤ L58 (1, 16, 0) := by rw [hL9 _ hd_1_16_0]; exact hs_1_16_0
  have hs_1_17_0 : s.heap.size ≤ L58 (1, 17, 0) := by rw [hL9 _ hd_1_17_0]; exact hs_1_17_0
  have hs_1_18_0 : s.heap.size ≤ L58 (1, 18, 0) := by rw [hL9 _ hd_1_18_0]; exact hs_1_18_0
  have hs_1_19_0 : s.heap.size ≤ L58 (1, 19, 0) := by rw [hL9 _ hd_1_19_0]; exact hs_1_19_0
  have hs_1_20_0 : s.heap.size ≤ L58 (1, 20, 0) := by rw [hL9 _ hd_1_20_0]; exact hs_1_20_0
  have hs_1_21_0 : s.heap.size ≤ L58 (1, 21, 0) := by rw [hL9 _ hd_1_21_0]; exact hs_1_21_0
  have hs_1_22_0 : s.heap.size ≤ L58 (1, 22, 0) := by rw [hL9 _ hd_1_22_0]; exact hs_1_22_0
  have hs_1_23_0 : s.heap.size ≤ L58 (1, 23, 0) := by rw [e_1_23_0]; exact ha58
  have e_0_0_0 := (hL9 _ hd_0_0_0).trans e_0_0_0
  have e_1_2_0 := (hL9 _ hd_1_2_0).trans e_1_2_0
  have e_1_3_0 := (hL9 _ hd_1_3_0).trans e_1_3_0
  have e_1_5_0 := (hL9 _ hd_1_5_0).trans e_1_5_0
  have e_1_6_0 := (hL9 _ hd_1_6_0).trans e_1_6_0
  have e_1_7_0 := (hL9 _ hd_1_7_0).trans e_1_7_0
  have e_1_8_0 := (hL9 _ hd_1_8_0).trans e_1_8_0
  have e_2_9_0 := (hL9 _ hd_2_9_0).trans e_2_9_0
  have e_1_11_0 := (hL9 _ hd_1_11_0).trans e_1_11_0
  have e_1_12_0 := (hL9 _ hd_1_12_0).trans e_1_12_0
  have e_2_13_0 := (hL9 _ hd_2_13_0).trans e_2_13_0
  have e_1_14_0 := (hL9 _ hd_1_14_0).trans e_1_14_0
  have e_1_15_0 := (hL9 _ hd_1_15_0).trans e_1_15_0
  have e_1_16_0 := (hL9 _ hd_1_16_0).trans e_1_16_0
  have e_1_17_0 := (hL9 _ hd_1_17_0).trans e_1_17_0
  have e_1_18_0 := (hL9 _ hd_1_18_0).trans e_1_18_0
  have e_1_19_0 := (hL9 _ hd_1_19_0).trans e_1_19_0
  have e_1_20_0 := (hL9 _ hd_1_20_0).trans e_1_20_0
  have e_1_21_0 := (hL9 _ hd_1_21_0).trans e_1_21_0
  have e_1_22_0 := (hL9 _ hd_1_22_0).trans e_1_22_0
  have hLL := fun y (hy : dom y) => (hL9 y (hdd y hy)).trans (hLL y hy)
  have hdd := fun y (hy : dom y) => hG.inO (hdd y hy)
  have hd_0_0_0 := hG.inO hd_0_0_0
  have hd_1_2_0 := hG.inO hd_1_2_0
  have hd_1_3_0 := hG.inO hd_1_3_0
  have hd_1_5_0 := hG.inO hd_1_5_0
  have hd_1_6_0 := hG.inO hd_1_6_0
  have hd_1_7_0 := hG.inO hd_1_7_0
  have hd_1_8_0 := hG.inO hd_1_8_0
  have hd_2_9_0 := hG.inO hd_2_9_0
  have hd_1_11_0 := hG.inO hd_1_11_0
  have hd_1_12_0 := hG.inO hd_1_12_0
  have hd_2_13_0 := hG.inO hd_2_13_0
  have hd_1_14_0 := hG.inO hd_1_14_0
  have hd_1_15_0 := hG.inO hd_1_15_0
  have hd_1_16_0 := hG.inO hd_1_16_0
  have hd_1_17_0 := hG.inO hd_1_17_0
  have hd_1_18_0 := hG.inO hd_1_18_0
  have hd_1_19_0 := hG.inO hd_1_19_0
  have hd_1_20_0 := hG.inO hd_1_20_0
  have hd_1_21_0 := hG.inO hd_1_21_0
  have hd_1_22_0 := hG.inO hd_1_22_0
  have hd_1_23_0 := hG.inX
  have hf_1_24_0 := hG.notin hf_1_24_0 (by decide)
  have hf_1_25_0 := hG.notin hf_1_25_0 (by decide)
  have hf_1_26_0 := hG.notin hf_1_26_0 (by decide)
  have hf_1_27_0 := hG.notin hf_1_27_0 (by decide)
  generalize hV59 : g_set V57 (1, 23, 0) (.inl (cy 0, 800, .inl (fun _ => 0))) = V59 at hG
  have hv_0_0_0 : V59 (0, 0, 0) = .inr (9, [.int 0, .int 0, .ref b1, .ref b4, .int 0, .ref b7, .ref b10, .ref b13, .ref b16, .ref b19, .int 0, .ref b22, .ref b25, .ref b28, .ref b31, .ref b34, .ref b37, .ref b40, .ref b43, .ref b46, .ref b49, .ref b52, .ref b55, .null, .null, .null, .null, .null]) := by rw [← hV59, g_set_ne (by decide)]; exact hv_0_0_0
  have hv_1_2_0 : V59 (1, 2, 0) = .inl (cy 0, 100, .inl (fun _ => 0)) := by rw [← hV59, g_set_ne (by decide)]; exact hv_1_2_0
  have hv_1_3_0 : V59 (1, 3, 0) = .inl (cy 0, 500, .inl (fun _ => 0)) := by rw [← hV59, g_set_ne (by decide)]; exact hv_1_3_0
  have hv_1_5_0 : V59 (1, 5, 0) = .inl (cy 0, 40, .inl (fun _ => 0)) := by rw [← hV59, g_set_ne (by decide)]; exact hv_1_5_0
  have hv_1_6_0 : V59 (1, 6, 0) = .inl (cy 0, 40, .inl (fun _ => 0)) := by rw [← hV59, g_set_ne (by decide)]; exact hv_1_6_0
  have hv_1_7_0 : V59 (1, 7, 0) = .inl (cy 0, 40, .inl (fun _ => 0)) := by rw [← hV59, g_set_ne (by decide)]; exact hv_1_7_0
  have hv_1_8_0 : V59 (1, 8, 0) = .inl (cy 0, 40, .inl (fun _ => 0)) := by rw [← hV59, g_set_ne (by decide)]; exact hv_1_8_0
  have hv_2_9_0 : V59 (2, 9, 0) = .inl (cy 4, 40, .inl (fun _ => 0)) := by rw [← hV59, g_set_ne (by decide)]; exact hv_2_9_0
  have hv_1_11_0 : V59 (1, 11, 0) = .inl (cy 0, 8, .inl (fun _ => 0)) := by rw [← hV59, g_set_ne (by decide)]; exact hv_1_11_0
  have hv_1_12_0 : V59 (1, 12, 0) = .inl (cy 0, 8, .inl (fun _ => 0)) := by rw [← hV59, g_set_ne (by decide)]; exact hv_1_12_0
  have hv_2_13_0 : V59 (2, 13, 0) = .inl (cy 4, 8, .inl (fun _ => 0)) := by rw [← hV59, g_set_ne (by decide)]; exact hv_2_13_0
  have hv_1_14_0 : V59 (1, 14, 0) = .inl (cy 0, 8, .inl (fun _ => 0)) := by rw [← hV59, g_set_ne (by decide)]; exact hv_1_14_0
  have hv_1_15_0 : V59 (1, 15, 0) = .inl (cy 0, 8, .inl (fun _ => 0)) := by rw [← hV59, g_set_ne (by decide)]; exact hv_1_15_0
  have hv_1_16_0 : V59 (1, 16, 0) = .inl (cy 0, 40, .inl (fun _ => 0)) := by rw [← hV59, g_set_ne (by decide)]; exact hv_1_16_0
  have hv_1_17_0 : V59 (1, 17, 0) = .inl (cy 0, 4000, .inl (fun _ => 0)) := by rw [← hV59, g_set_ne (by decide)]; exact hv_1_17_0
  have hv_1_18_0 : V59 (1, 18, 0) = .inl (cy 0, 8, .inl (fun _ => 0)) := by rw [← hV59, g_set_ne (by decide)]; exact hv_1_18_0
  have hv_1_19_0 : V59 (1, 19, 0) = .inl (cy 0, 800, .inl (fun _ => 0)) := by rw [← hV59, g_set_ne (by decide)]; exact hv_1_19_0
  have hv_1_20_0 : V59 (1, 20, 0) = .inl (cy 0, 8, .inl (fun _ => 0)) := by rw [← hV59, g_set_ne (by decide)]; exact hv_1_20_0
  have hv_1_21_0 : V59 (1, 21, 0) = .inl (cy 0, 800, .inl (fun _ => 0)) := by rw [← hV59, g_set_ne (by decide)]; exact hv_1_21_0
  have hv_1_22_0 : V59 (1, 22, 0) = .inl (cy 0, 800, .inl (fun _ => 0)) := by rw [← hV59, g_set_ne (by decide)]; exact hv_1_22_0
  have hv_1_23_0 : V59 (1, 23, 0) = .inl (cy 0, 800, .inl (fun _ => 0)) := by rw [← hV59, g_set_self]
  have hVo : ∀ y, y ≠ (0, 0, 0) ∧ y ≠ (1, 2, 0) ∧ y ≠ (1, 3, 0) ∧ y ≠ (1, 5, 0) ∧ y ≠ (1, 6, 0) ∧ y ≠ (1, 7, 0) ∧ y ≠ (1, 8, 0) ∧ y ≠ (2, 9, 0) ∧ y ≠ (1, 11, 0) ∧ y ≠ (1, 12, 0) ∧ y ≠ (2, 13, 0) ∧ y ≠ (1, 14, 0) ∧ y ≠ (1, 15, 0) ∧ y ≠ (1, 16, 0) ∧ y ≠ (1, 17, 0) ∧ y ≠ (1, 18, 0) ∧ y ≠ (1, 19, 0) ∧ y ≠ (1, 20, 0) ∧ y ≠ (1, 21, 0) ∧ y ≠ (1, 22, 0) ∧ y ≠ (1, 23, 0) ∧ y ≠ (1, 24, 0) ∧ y ≠ (1, 25, 0) ∧ y ≠ (1, 26, 0) ∧ y ≠ (1, 27, 0) → V59 y = V y := fun y hy => by rw [← hV59, g_set_ne (fun q => hy.2.2.2.2.2.2.2.2.2.2.2.2.2.2.2.2.2.2.2.2.1 q)]; first | done | exact hVo y hy
  refine h_putF (C := RX7) (T := TX7) (N := 28) (ci := 9) (ty := (tyX7 23)) hx hb hts inX7g tyX7_ok nmX7 hown hK hG hS (0, 0, 0) hd_0_0_0 e_0_0_0 hAa hv_0_0_0 rfl 23 (by decide) fl_X7_68 rfl hin2 rfl (by decide +kernel) rfl rfl (Nat.le_of_ble_eq_true rfl) dX7_init_167 (fun H locs hG hS => ?_)
  have hG : g_H D vwCl _ L58 (g_set V59 (0, 0, 0) (.inr (9, [.int 0, .int 0, .ref b1, .ref b4, .int 0, .ref b7, .ref b10, .ref b13, .ref b16, .ref b19, .int 0, .ref b22, .ref b25, .ref b28, .ref b31, .ref b34, .ref b37, .ref b40, .ref b43, .ref b46, .ref b49, .ref b52, .ref b55, .ref b58, .null, .null, .null, .null]))) H := hG
  generalize hV60 : g_set V59 (0, 0, 0) (.inr (9, [.int 0, .int 0, .ref b1, .ref b4, .int 0, .ref b7, .ref b10, .ref b13, .ref b16, .ref b19, .int 0, .ref b22, .ref b25, .ref b28, .ref b31, .ref b34, .ref b37, .ref b40, .ref b43, .ref b46, .ref b49, .ref b52, .ref b55, .ref b58, .null, .null, .null, .null])) = V60 at hG
  have hv_1_2_0 : V60 (1, 2, 0) = .inl (cy 0, 100, .inl (fun _ => 0)) := by rw [← hV60, g_set_ne (by decide)]; exact hv_1_2_0
  have hv_1_3_0 : V60 (1, 3, 0) = .inl (cy 0, 500, .inl (fun _ => 0)) := by rw [← hV60, g_set_ne (by decide)]; exact hv_1_3_0
  have hv_1_5_0 : V60 (1, 5, 0) = .inl (cy 0, 40, .inl (fun _ => 0)) := by rw [← hV60, g_set_ne (by decide)]; exact hv_1_5_0
  have hv_1_6_0 : V60 (1, 6, 0) = .inl (cy 0, 40, .inl (fun _ => 0)) := by rw [← hV60, g_set_ne (by decide)]; exact hv_1_6_0
  have hv_1_7_0 : V60 (1, 7, 0) = .inl (cy 0, 40, .inl (fun _ => 0)) := by rw [← hV60, g_set_ne (by decide)]; exact hv_1_7_0
  have hv_1_8_0 : V60 (1, 8, 0) = .inl (cy 0, 40, .inl (fun _ => 0)) := by rw [← hV60, g_set_ne (by decide)]; exact hv_1_8_0
  have hv_2_9_0 : V60 (2, 9, 0) = .inl (cy 4, 40, .inl (fun _ => 0)) := by rw [← hV60, g_set_ne (by decide)]; exact hv_2_9_0
  have hv_1_11_0 : V60 (1, 11, 0) = .inl (cy 0, 8, .inl (fun _ => 0)) := by rw [← hV60, g_set_ne (by decide)]; exact hv_1_11_0
  have hv_1_12_0 : V60 (1, 12, 0) = .inl (cy 0, 8, .inl (fun _ => 0)) := by rw [← hV60, g_set_ne (by decide)]; exact hv_1_12_0
  have hv_2_13_0 : V60 (2, 13, 0) = .inl (cy 4, 8, .inl (fun _ => 0)) := by rw [← hV60, g_set_ne (by decide)]; exact hv_2_13_0
  have hv_1_14_0 : V60 (1, 14, 0) = .inl (cy 0, 8, .inl (fun _ => 0)) := by rw [← hV60, g_set_ne (by decide)]; exact hv_1_14_0
  have hv_1_15_0 : V60 (1, 15, 0) = .inl (cy 0, 8, .inl (fun _ => 0)) := by rw [← hV60, g_set_ne (by decide)]; exact hv_1_15_0
  have hv_1_16_0 : V60 (1, 16, 0) = .inl (cy 0, 40, .inl (fun _ => 0)) := by rw [← hV60, g_set_ne (by decide)]; exact hv_1_16_0
  have hv_1_17_0 : V60 (1, 17, 0) = .inl (cy 0, 4000, .inl (fun _ => 0)) := by rw [← hV60, g_set_ne (by decide)]; exact hv_1_17_0
  have hv_1_18_0 : V60 (1, 18, 0) = .inl (cy 0, 8, .inl (fun _ => 0)) := by rw [← hV60, g_set_ne (by decide)]; exact hv_1_18_0
  have hv_1_19_0 : V60 (1, 19, 0) = .inl (cy 0, 800, .inl (fun _ => 0)) := by rw [← hV60, g_set_ne (by decide)]; exact hv_1_19_0
  have hv_1_20_0 : V60 (1, 20, 0) = .inl (cy 0, 8, .inl (fun _ => 0)) := by rw [← hV60, g_set_ne (by decide)]; exact hv_1_20_0
  have hv_1_21_0 : V60 (1, 21, 0) = .inl (cy 0, 800, .inl (fun _ => 0)) := by rw [← hV60, g_set_ne (by decide)]; exact hv_1_21_0
  have hv_1_22_0 : V60 (1, 22, 0) = .inl (cy 0, 800, .inl (fun _ => 0)) := by rw [← hV60, g_set_ne (by decide)]; exact hv_1_22_0
  have hv_1_23_0 : V60 (1, 23, 0) = .inl (cy 0, 800, .inl (fun _ => 0)) := by rw [← hV60, g_set_ne (by decide)]; exact hv_1_23_0
  have hv_0_0_0 : V60 (0, 0, 0) = .inr (9, [.int 0, .int 0, .ref b1, .ref b4, .int 0, .ref b7, .ref b10, .ref b13, .ref b16, .ref b19, .int 0, .ref b22, .ref b25, .ref b28, .ref b31, .ref b34, .ref b37, .ref b40, .ref b43, .ref b46, .ref b49, .ref b52, .ref b55, .ref b58, .null, .null, .null, .null]) := by rw [← hV60, g_set_self]
  have hVo : ∀ y, y ≠ (0, 0, 0) ∧ y ≠ (1, 2, 0) ∧ y ≠ (1, 3, 0) ∧ y ≠ (1, 5, 0) ∧ y ≠ (1, 6, 0) ∧ y ≠ (1, 7, 0) ∧ y ≠ (1, 8, 0) ∧ y ≠ (2, 9, 0) ∧ y ≠ (1, 11, 0) ∧ y ≠ (1, 12, 0) ∧ y ≠ (2, 13, 0) ∧ y ≠ (1, 14, 0) ∧ y ≠ (1, 15, 0) ∧ y ≠ (1, 16, 0) ∧ y ≠ (1, 17, 0) ∧ y ≠ (1, 18, 0) ∧ y ≠ (1, 19, 0) ∧ y ≠ (1, 20, 0) ∧ y ≠ (1, 21, 0) ∧ y ≠ (1, 22, 0) ∧ y ≠ (1, 23, 0) ∧ y ≠ (1, 24, 0) ∧ y ≠ (1, 25, 0) ∧ y ≠ (1, 26, 0) ∧ y ≠ (1, 27, 0) → V60 y = V y := fun y hy => by rw [← hV60, g_set_ne (fun q => hy.1 q)]; first | done | exact hVo y hy
  refine lv_aload_n hx hb dX7_init_170 rfl (lv_at hl 0 rfl) ?_
  refine lv_bipush (v := 8) hx hb dX7_init_171 (by decide) ?_
  refine h_newa (harr := hts _ ac_int) (atype := .int) (ty := .int) (a0 := (8, .inl (fun _ => 0))) hx hb rfl (fun C h => by cases h) hK 0 rfl hG hS (1, 24, 0) hf_1_24_0 rfl (by decide) rfl (by decide) (Nat.le_of_ble_eq_true rfl) (Nat.le_of_ble_eq_true rfl) dX7_init_173 (fun L61 b61 H hL9 e_1_24_0 ha61 hG hS hz9 o9 => ?_)
  have hs_1_2_0 : s.heap.size ≤ L61 (1, 2, 0) := by rw [hL9 _ hd_1_2_0]; exact hs_1_2_0
  have hs_1_3_0 : s.heap.size ≤ L61 (1, 3, 0) := by rw [hL9 _ hd_1_3_0]; exact hs_1_3_0
  have hs_1_5_0 : s.heap.size ≤ L61 (1, 5, 0) := by rw [hL9 _ hd_1_5_0]; exact hs_1_5_0
  have hs_1_6_0 : s.heap.size ≤ L61 (1, 6, 0) := by rw [hL9 _ hd_1_6_0]; exact hs_1_6_0
  have hs_1_7_0 : s.heap.size ≤ L61 (1, 7, 0) := by rw [hL9 _ hd_1_7_0]; exact hs_1_7_0
  have hs_1_8_0 : s.heap.size ≤ L61 (1, 8, 0) := by rw [hL9 _ hd_1_8_0]; exact hs_1_8_0
  have hs_2_9_0 : s.heap.size ≤ L61 (2, 9, 0) := by rw [hL9 _ hd_2_9_0]; exact hs_2_9_0
  have hs_1_11_0 : s.heap.size ≤ L61 (1, 11, 0) := by rw [hL9 _ hd_1_11_0]; exact hs_1_11_0
  have hs_1_12_0 : s.heap.size ≤ L61 (1, 12, 0) := by rw [hL9 _ hd_1_12_0]; exact hs_1_12_0
  have hs_2_13_0 : s.heap.size ≤ L61 (2, 13, 0) := by rw [hL9 _ hd_2_13_0]; exact hs_2_13_0
  have hs_1_14_0 : s.heap.size ≤ L61 (1, 14, 0) := by rw [hL9 _ hd_1_14_0]; exact hs_1_14_0
  have hs_1_15_0 : s.heap.size ≤ L61 (1, 15, 0) := by rw [hL9 _ hd_1_15_0]; exact hs_1_15_0
  have hs_1_16_0 : s.heap.size ≤ L61 (1, 16, 0) := by rw [hL9 _ hd_1_16_0]; exact hs_1_16_0
  have hs_1_17_0 : s.heap.size ≤ L61 (1, 17, 0) := by rw [hL9 _ hd_1_17_0]; exact hs_1_17_0
  have hs_1_18_0 : s.heap.size ≤ L61 (1, 18, 0) := by rw [hL9 _ hd_1_18_0]; exact hs_1_18_0
  have hs_1_19_0 : s.heap.size ≤ L61 (1, 19, 0) := by rw [hL9 _ hd_1_19_0]; exact hs_1_19_0
  have hs_1_20_0 : s.heap.size ≤ L61 (1, 20, 0) := by rw [hL9 _ hd_1_20_0]; exact hs_1_20_0
  have hs_1_21_0 : s.heap.size ≤ L61 (1, 21, 0) := by rw [hL9 _ hd_1_21_0]; exact hs_1_21_0
  have hs_1_22_0 : s.heap.size ≤ L61 (1, 22, 0) := by rw [hL9 _ hd_1_22_0]; exact hs_1_22_0
  have hs_1_23_0 : s.heap.size ≤ L61 (1, 23, 0) := by rw [hL9 _ hd_1_23_0]; exact hs_1_23_0
  have hs_1_24_0 : s.heap.size ≤ L61 (1, 24, 0) := by rw [e_1_24_0]; exact ha61
  have e_0_0_0 := (hL9 _ hd_0_0_0).trans e_0_0_0
  have e_1_2_0 := (hL9 _ hd_1_2_0).trans e_1_2_0
  have e_1_3_0 := (hL9 _ hd_1_3_0).trans e_1_3_0
  have e_1_5_0 := (hL9 _ hd_1_5_0).trans e_1_5_0
  have e_1_6_0 := (hL9 _ hd_1_6_0).trans e_1_6_0
  have e_1_7_0 := (hL9 _ hd_1_7_0).trans e_1_7_0
  have e_1_8_0 := (hL9 _ hd_1_8_0).trans e_1_8_0
  have e_2_9_0 := (hL9 _ hd_2_9_0).trans e_2_9_0
  have e_1_11_0 := (hL9 _ hd_1_11_0).trans e_1_11_0
  have e_1_12_0 := (hL9 _ hd_1_12_0).trans e_1_12_0
  have e_2_13_0 := (hL9 _ hd_2_13_0).trans e_2_13_0
  have e_1_14_0 := (hL9 _ hd_1_14_0).trans e_1_14_0
  have e_1_15_0 := (hL9 _ hd_1_15_0).trans e_1_15_0
  have e_1_16_0 := (hL9 _ hd_1_16_0).trans e_1_16_0
  have e_1_17_0 := (hL9 _ hd_1_17_0).trans e_1_17_0
  have e_1_18_0 := (hL9 _ hd_1_18_0).trans e_1_18_0
  have e_1_19_0 := (hL9 _ hd_1_19_0).trans e_1_19_0
  have e_1_20_0 := (hL9 _ hd_1_20_0).trans e_1_20_0
  have e_1_21_0 := (hL9 _ hd_1_21_0).trans e_1_21_0
  have e_1_22_0 := (hL9 _ hd_1_22_0).trans e_1_22_0
  have e_1_23_0 := (hL9 _ hd_1_23_0).trans e_1_23_0
  have hLL := fun y (hy : dom y) => (hL9 y (hdd y hy)).trans (hLL y hy)
  have hdd := fun y (hy : dom y) => hG.inO (hdd y hy)
  have hd_0_0_0 := hG.inO hd_0_0_0
  have hd_1_2_0 := hG.inO hd_1_2_0
  have hd_1_3_0 := hG.inO hd_1_3_0
  have hd_1_5_0 := hG.inO hd_1_5_0
  have hd_1_6_0 := hG.inO hd_1_6_0
  have hd_1_7_0 := hG.inO hd_1_7_0
  have hd_1_8_0 := hG.inO hd_1_8_0
  have hd_2_9_0 := hG.inO hd_2_9_0
  have hd_1_11_0 := hG.inO hd_1_11_0
  have hd_1_12_0 := hG.inO hd_1_12_0
  have hd_2_13_0 := hG.inO hd_2_13_0
  have hd_1_14_0 := hG.inO hd_1_14_0
  have hd_1_15_0 := hG.inO hd_1_15_0
  have hd_1_16_0 := hG.inO hd_1_16_0
  have hd_1_17_0 := hG.inO hd_1_17_0
  have hd_1_18_0 := hG.inO hd_1_18_0
  have hd_1_19_0 := hG.inO hd_1_19_0
  have hd_1_20_0 := hG.inO hd_1_20_0
  have hd_1_21_0 := hG.inO hd_1_21_0
  have hd_1_22_0 := hG.inO hd_1_22_0
  have hd_1_23_0 := hG.inO hd_1_23_0
  have hd_1_24_0 := hG.inX
  have hf_1_25_0 := hG.notin hf_1_25_0 (by decide)
  have hf_1_26_0 := hG.notin hf_1_26_0 (by decide)
  have hf_1_27_0 := hG.notin hf_1_27_0 (by decide)
  generalize hV62 : g_set V60 (1, 24, 0) (.inl (cy 0, 8, .inl (fun _ => 0))) = V62 at hG
  have hv_0_0_0 : V62 (0, 0, 0) = .inr (9, [.int 0, .int 0, .ref b1, .ref b4, .int 0, .ref b7, .ref b10, .ref b13, .ref b16, .ref b19, .int 0, .ref b22, .ref b25, .ref b28, .ref b31, .ref b34, .ref b37, .ref b40, .ref b43, .ref b46, .ref b49, .ref b52, .ref b55, .ref b58, .null, .null, .null, .null]) := by rw [← hV62, g_set_ne (by decide)]; exact hv_0_0_0
  have hv_1_2_0 : V62 (1, 2, 0) = .inl (cy 0, 100, .inl (fun _ => 0)) := by rw [← hV62, g_set_ne (by decide)]; exact hv_1_2_0
  have hv_1_3_0 : V62 (1, 3, 0) = .inl (cy 0, 500, .inl (fun _ => 0)) := by rw [← hV62, g_set_ne (by decide)]; exact hv_1_3_0
  have hv_1_5_0 : V62 (1, 5, 0) = .inl (cy 0, 40, .inl (fun _ => 0)) := by rw [← hV62, g_set_ne (by decide)]; exact hv_1_5_0
  have hv_1_6_0 : V62 (1, 6, 0) = .inl (cy 0, 40, .inl (fun _ => 0)) := by rw [← hV62, g_set_ne (by decide)]; exact hv_1_6_0
  have hv_1_7_0 : V62 (1, 7, 0) = .inl (cy 0, 40, .inl (fun _ => 0)) := by rw [← hV62, g_set_ne (by decide)]; exact hv_1_7_0
  have hv_1_8_0 : V62 (1, 8, 0) = .inl (cy 0, 40, .inl (fun _ => 0)) := by rw [← hV62, g_set_ne (by decide)]; exact hv_1_8_0
  have hv_2_9_0 : V62 (2, 9, 0) = .inl (cy 4, 40, .inl (fun _ => 0)) := by rw [← hV62, g_set_ne (by decide)]; exact hv_2_9_0
  have hv_1_11_0 : V62 (1, 11, 0) = .inl (cy 0, 8, .inl (fun _ => 0)) := by rw [← hV62, g_set_ne (by decide)]; exact hv_1_11_0
  have hv_1_12_0 : V62 (1, 12, 0) = .inl (cy 0, 8, .inl (fun _ => 0)) := by rw [← hV62, g_set_ne (by decide)]; exact hv_1_12_0
  have hv_2_13_0 : V62 (2, 13, 0) = .inl (cy 4, 8, .inl (fun _ => 0)) := by rw [← hV62, g_set_ne (by decide)]; exact hv_2_13_0
  have hv_1_14_0 : V62 (1, 14, 0) = .inl (cy 0, 8, .inl (fun _ => 0)) := by rw [← hV62, g_set_ne (by decide)]; exact hv_1_14_0
  have hv_1_15_0 : V62 (1, 15, 0) = .inl (cy 0, 8, .inl (fun _ => 0)) := by rw [← hV62, g_set_ne (by decide)]; exact hv_1_15_0
  have hv_1_16_0 : V62 (1, 16, 0) = .inl (cy 0, 40, .inl (fun _ => 0)) := by rw [← hV62, g_set_ne (by decide)]; exact hv_1_16_0
  have hv_1_17_0 : V62 (1, 17, 0) = .inl (cy 0, 4000, .inl (fun _ => 0)) := by rw [← hV62, g_set_ne (by decide)]; exact hv_1_17_0
  have hv_1_18_0 : V62 (1, 18, 0) = .inl (cy 0, 8, .inl (fun _ => 0)) := by rw [← hV62, g_set_ne (by decide)]; exact hv_1_18_0
  have hv_1_19_0 : V62 (1, 19, 0) = .inl (cy 0, 800, .inl (fun _ => 0)) := by rw [← hV62, g_set_ne (by decide)]; exact hv_1_19_0
  have hv_1_20_0 : V62 (1, 20, 0) = .inl (cy 0, 8, .inl (fun _ => 0)) := by rw [← hV62, g_set_ne (by decide)]; exact hv_1_20_0
  have hv_1_21_0 : V62 (1, 21, 0) = .inl (cy 0, 800, .inl (fun _ => 0)) := by rw [← hV62, g_set_ne (by decide)]; exact hv_1_21_0
  have hv_1_22_0 : V62 (1, 22, 0) = .inl (cy 0, 800, .inl (fun _ => 0)) := by rw [← hV62, g_set_ne (by decide)]; exact hv_1_22_0
  have hv_1_23_0 : V62 (1, 23, 0) = .inl (cy 0, 800, .inl (fun _ => 0)) := by rw [← hV62, g_set_ne (by decide)]; exact hv_1_23_0
  have hv_1_24_0 : V62 (1, 24, 0) = .inl (cy 0, 8, .inl (fun _ => 0)) := by rw [← hV62, g_set_self]
  have hVo : ∀ y, y ≠ (0, 0, 0) ∧ y ≠ (1, 2, 0) ∧ y ≠ (1, 3, 0) ∧ y ≠ (1, 5, 0) ∧ y ≠ (1, 6, 0) ∧ y ≠ (1, 7, 0) ∧ y ≠ (1, 8, 0) ∧ y ≠ (2, 9, 0) ∧ y ≠ (1, 11, 0) ∧ y ≠ (1, 12, 0) ∧ y ≠ (2, 13, 0) ∧ y ≠ (1, 14, 0) ∧ y ≠ (1, 15, 0) ∧ y ≠ (1, 16, 0) ∧ y ≠ (1, 17, 0) ∧ y ≠ (1, 18, 0) ∧ y ≠ (1, 19, 0) ∧ y ≠ (1, 20, 0) ∧ y ≠ (1, 21, 0) ∧ y ≠ (1, 22, 0) ∧ y ≠ (1, 23, 0) ∧ y ≠ (1, 24, 0) ∧ y ≠ (1, 25, 0) ∧ y ≠ (1, 26, 0) ∧ y ≠ (1, 27, 0) → V62 y = V y := fun y hy => by rw [← hV62, g_set_ne (fun q => hy.2.2.2.2.2.2.2.2.2.2.2.2.2.2.2.2.2.2.2.2.2.1 q)]; first | done | exact hVo y hy
  refine h_putF (C := RX7) (T := TX7) (N := 28) (ci := 9) (ty := (tyX7 24)) hx hb hts inX7g tyX7_ok nmX7 hown hK hG hS (0, 0, 0) hd_0_0_0 e_0_0_0 hAa hv_0_0_0 rfl 24 (by decide) fl_X7_71 rfl hin2 rfl (by decide +kernel) rfl rfl (Nat.le_of_ble_eq_true rfl) dX7_init_175 (fun H locs hG hS => ?_)
  have hG : g_H D vwCl _ L61 (g_set V62 (0, 0, 0) (.inr (9, [.int 0, .int 0, .ref b1, .ref b4, .int 0, .ref b7, .ref b10, .ref b13, .ref b16, .ref b19, .int 0, .ref b22, .ref b25, .ref b28, .ref b31, .ref b34, .ref b37, .ref b40, .ref b43, .ref b46, .ref b49, .ref b52, .ref b55, .ref b58, .ref b61, .null, .null, .null]))) H := hG
  generalize hV63 : g_set V62 (0, 0, 0) (.inr (9, [.int 0, .int 0, .ref b1, .ref b4, .int 0, .ref b7, .ref b10, .ref b13, .ref b16, .ref b19, .int 0, .ref b22, .ref b25, .ref b28, .ref b31, .ref b34, .ref b37, .ref b40, .ref b43, .ref b46, .ref b49, .ref b52, .ref b55, .ref b58, .ref b61, .null, .null, .null])) = V63 at hG
  have hv_1_2_0 : V63 (1, 2, 0) = .inl (cy 0, 100, .inl (fun _ => 0)) := by rw [← hV63, g_set_ne (by decide)]; exact hv_1_2_0
  have hv_1_3_0 : V63 (1, 3, 0) = .inl (cy 0, 500, .inl (fun _ => 0)) := by rw [← hV63, g_set_ne (by decide)]; exact hv_1_3_0
  have hv_1_5_0 : V63 (1, 5, 0) = .inl (cy 0, 40, .inl (fun _ => 0)) := by rw [← hV63, g_set_ne (by decide)]; exact hv_1_5_0
  have hv_1_6_0 : V63 (1, 6, 0) = .inl (cy 0, 40, .inl (fun _ => 0)) := by rw [← hV63, g_set_ne (by decide)]; exact hv_1_6_0
  have hv_1_7_0 : V63 (1, 7, 0) = .inl (cy 0, 40, .inl (fun _ => 0)) := by rw [← hV63, g_set_ne (by decide)]; exact hv_1_7_0
  have hv_1_8_0 : V63 (1, 8, 0) = .inl (cy 0, 40, .inl (fun _ => 0)) := by rw [← hV63, g_set_ne (by decide)]; exact hv_1_8_0
  have hv_2_9_0 : V63 (2, 9, 0) = .inl (cy 4, 40, .inl (fun _ => 0)) := by rw [← hV63, g_set_ne (by decide)]; exact hv_2_9_0
  have hv_1_11_0 : V63 (1, 11, 0) = .inl (cy 0, 8, .inl (fun _ => 0)) := by rw [← hV63, g_set_ne (by decide)]; exact hv_1_11_0
  have hv_1_12_0 : V63 (1, 12, 0) = .inl (cy 0, 8, .inl (fun _ => 0)) := by rw [← hV63, g_set_ne (by decide)]; exact hv_1_12_0
  have hv_2_13_0 : V63 (2, 13, 0) = .inl (cy 4, 8, .inl (fun _ => 0)) := by rw [← hV63, g_set_ne (by decide)]; exact hv_2_13_0
  have hv_1_14_0 : V63 (1, 14, 0) = .inl (cy 0, 8, .inl (fun _ => 0)) := by rw [← hV63, g_set_ne (by decide)]; exact hv_1_14_0
  have hv_1_15_0 : V63 (1, 15, 0) = .inl (cy 0, 8, .inl (fun _ => 0)) := by rw [← hV63, g_set_ne (by decide)]; exact hv_1_15_0
  have hv_1_16_0 : V63 (1, 16, 0) = .inl (cy 0, 40, .inl (fun _ => 0)) := by rw [← hV63, g_set_ne (by decide)]; exact hv_1_16_0
  have hv_1_17_0 : V63 (1, 17, 0) = .inl (cy 0, 4000, .inl (fun _ => 0)) := by rw [← hV63, g_set_ne (by decide)]; exact hv_1_17_0
  have hv_1_18_0 : V63 (1, 18, 0) = .inl (cy 0, 8, .inl (fun _ => 0)) := by rw [← hV63, g_set_ne (by decide)]; exact hv_1_18_0
  have hv_1_19_0 : V63 (1, 19, 0) = .inl (cy 0, 800, .inl (fun _ => 0)) := by rw [← hV63, g_set_ne (by decide)]; exact hv_1_19_0
  have hv_1_20_0 : V63 (1, 20, 0) = .inl (cy 0, 8, .inl (fun _ => 0)) := by rw [← hV63, g_set_ne (by decide)]; exact hv_1_20_0
  have hv_1_21_0 : V63 (1, 21, 0) = .inl (cy 0, 800, .inl (fun _ => 0)) := by rw [← hV63, g_set_ne (by decide)]; exact hv_1_21_0
  have hv_1_22_0 : V63 (1, 22, 0) = .inl (cy 0, 800, .inl (fun _ => 0)) := by rw [← hV63, g_set_ne (by decide)]; exact hv_1_22_0
  have hv_1_23_0 : V63 (1, 23, 0) = .inl (cy 0, 800, .inl (fun _ => 0)) := by rw [← hV63, g_set_ne (by decide)]; exact hv_1_23_0
  have hv_1_24_0 : V63 (1, 24, 0) = .inl (cy 0, 8, .inl (fun _ => 0)) := by rw [← hV63, g_set_ne (by decide)]; exact hv_1_24_0
  have hv_0_0_0 : V63 (0, 0, 0) = .inr (9, [.int 0, .int 0, .ref b1, .ref b4, .int 0, .ref b7, .ref b10, .ref b13, .ref b16, .ref b19, .int 0, .ref b22, .ref b25, .ref b28, .ref b31, .ref b34, .ref b37, .ref b40, .ref b43, .ref b46, .ref b49, .ref b52, .ref b55, .ref b58, .ref b61, .null, .null, .null]) := by rw [← hV63, g_set_self]
  have hVo : ∀ y, y ≠ (0, 0, 0) ∧ y ≠ (1, 2, 0) ∧ y ≠ (1, 3, 0) ∧ y ≠ (1, 5, 0) ∧ y ≠ (1, 6, 0) ∧ y ≠ (1, 7, 0) ∧ y ≠ (1, 8, 0) ∧ y ≠ (2, 9, 0) ∧ y ≠ (1, 11, 0) ∧ y ≠ (1, 12, 0) ∧ y ≠ (2, 13, 0) ∧ y ≠ (1, 14, 0) ∧ y ≠ (1, 15, 0) ∧ y ≠ (1, 16, 0) ∧ y ≠ (1, 17, 0) ∧ y ≠ (1, 18, 0) ∧ y ≠ (1, 19, 0) ∧ y ≠ (1, 20, 0) ∧ y ≠ (1, 21, 0) ∧ y ≠ (1, 22, 0) ∧ y ≠ (1, 23, 0) ∧ y ≠ (1, 24, 0) ∧ y ≠ (1, 25, 0) ∧ y ≠ (1, 26, 0) ∧ y ≠ (1, 27, 0) → V63 y = V y := fun y hy => by rw [← hV63, g_set_ne (fun q => hy.1 q)]; first | done | exact hVo y hy
  refine lv_aload_n hx hb dX7_init_178 rfl (lv_at hl 0 rfl) ?_
  refine lv_sipush (v := 160) hx hb dX7_init_179 (by decide) ?_
  refine h_newa (harr := hts _ ac_int) (atype := .int) (ty := .int) (a0 := (160, .inl (fun _ => 0))) hx hb rfl (fun C h => by cases h) hK 0 rfl hG hS (1, 25, 0) hf_1_25_0 rfl (by decide) rfl (by decide) (Nat.le_of_ble_eq_true rfl) (Nat.le_of_ble_eq_true rfl) dX7_init_182 (fun L64 b64 H hL9 e_1_25_0 ha64 hG hS hz9 o9 => ?_)
  have hs_1_2_0 : s.heap.size ≤ L64 (1, 2, 0) := by rw [hL9 _ hd_1_2_0]; exact hs_1_2_0
  have hs_1_3_0 : s.heap.size ≤ L64 (1, 3, 0) := by rw [hL9 _ hd_1_3_0]; exact hs_1_3_0
  have hs_1_5_0 : s.heap.size ≤ L64 (1, 5, 0) := by rw [hL9 _ hd_1_5_0]; exact hs_1_5_0
  have hs_1_6_0 : s.heap.size ≤ L64 (1, 6, 0) := by rw [hL9 _ hd_1_6_0]; exact hs_1_6_0
  have hs_1_7_0 : s.heap.size ≤ L64 (1, 7, 0) := by rw [hL9 _ hd_1_7_0]; exact hs_1_7_0
  have hs_1_8_0 : s.heap.size ≤ L64 (1, 8, 0) := by rw [hL9 _ hd_1_8_0]; exact hs_1_8_0
  have hs_2_9_0 : s.heap.size ≤ L64 (2, 9, 0) := by rw [hL9 _ hd_2_9_0]; exact hs_2_9_0
  have hs_1_11_0 : s.heap.size ≤ L64 (1, 11, 0) := by rw [hL9 _ hd_1_11_0]; exact hs_1_11_0
  have hs_1_12_0 : s.heap.size ≤ L64 (1, 12, 0) := by rw [hL9 _ hd_1_12_0]; exact hs_1_12_0
  have hs_2_13_0 : s.heap.size ≤ L64 (2, 13, 0) := by rw [hL9 _ hd_2_13_0]; exact hs_2_13_0
  have hs_1_14_0 : s.heap.size ≤ L64 (1, 14, 0) := by rw [hL9 _ hd_1_14_0]; exact hs_1_14_0
  have hs_1_15_0 : s.heap.size ≤ L64 (1, 15, 0) := by rw [hL9 _ hd_1_15_0]; exact hs_1_15_0
  have hs_1_16_0 : s.heap.size ≤ L64 (1, 16, 0) := by rw [hL9 _ hd_1_16_0]; exact hs_1_16_0
  have hs_1_17_0 : s.heap.size ≤ L64 (1, 17, 0) := by rw [hL9 _ hd_1_17_0]; exact hs_1_17_0
  have hs_1_18_0 : s.heap.size ≤ L64 (1, 18, 0) := by rw [hL9 _ hd_1_18_0]; exact hs_1_18_0
  have hs_1_19_0 : s.heap.size ≤ L64 (1, 19, 0) := by rw [hL9 _ hd_1_19_0]; exact hs_1_19_0
  have hs_1_20_0 : s.heap.size ≤ L64 (1, 20, 0) := by rw [hL9 _ hd_1_20_0]; exact hs_1_20_0
  have hs_1_21_0 : s.heap.size ≤ L64 (1, 21, 0) := by rw [hL9 _ hd_1_21_0]; exact hs_1_21_0
  have hs_1_22_0 : s.heap.size ≤ L64 (1, 22, 0) := by rw [hL9 _ hd_1_22_0]; exact hs_1_22_0
  have hs_1_23_0 : s.heap.size ≤ L64 (1, 23, 0) := by rw [hL9 _ hd_1_23_0]; exact hs_1_23_0
  have hs_1_24_0 : s.heap.size ≤ L64 (1, 24, 0) := by rw [hL9 _ hd_1_24_0]; exact hs_1_24_0
  have hs_1_25_0 : s.heap.size ≤ L64 (1, 25, 0) := by rw [e_1_25_0]; exact ha64
  have e_0_0_0 := (hL9 _ hd_0_0_0).trans e_0_0_0
  have e_1_2_0 := (hL9 _ hd_1_2_0).trans e_1_2_0
  have e_1_3_0 := (hL9 _ hd_1_3_0).trans e_1_3_0
  have e_1_5_0 := (hL9 _ hd_1_5_0).trans e_1_5_0
  have e_1_6_0 := (hL9 _ hd_1_6_0).trans e_1_6_0
  have e_1_7_0 := (hL9 _ hd_1_7_0).trans e_1_7_0
  have e_1_8_0 := (hL9 _ hd_1_8_0).trans e_1_8_0
  have e_2_9_0 := (hL9 _ hd_2_9_0).trans e_2_9_0
  have e_1_11_0 := (hL9 _ hd_1_11_0).trans e_1_11_0
  have e_1_12_0 := (hL9 _ hd_1_12_0).trans e_1_12_0
  have e_2_13_0 := (hL9 _ hd_2_13_0).trans e_2_13_0
  have e_1_14_0 := (hL9 _ hd_1_14_0).trans e_1_14_0
  have e_1_15_0 := (hL9 _ hd_1_15_0).trans e_1_15_0
  have e_1_16_0 := (hL9 _ hd_1_16_0).trans e_1_16_0
  have e_1_17_0 := (hL9 _ hd_1_17_0).trans e_1_17_0
  have e_1_18_0 := (hL9 _ hd_1_18_0).trans e_1_18_0
  have e_1_19_0 := (hL9 _ hd_1_19_0).trans e_1_19_0
  have e_1_20_0 := (hL9 _ hd_1_20_0).trans e_1_20_0
  have e_1_21_0 := (hL9 _ hd_1_21_0).trans e_1_21_0
  have e_1_22_0 := (hL9 _ hd_1_22_0).trans e_1_22_0
  have e_1_23_0 := (hL9 _ hd_1_23_0).trans e_1_23_0
  have e_1_24_0 := (hL9 _ hd_1_24_0).trans e_1_24_0
  have hLL := fun y (hy : dom y) => (hL9 y (hdd y hy)).trans (hLL y hy)
  have hdd := fun y (hy : dom y) => hG.inO (hdd y hy)
  have hd_0_0_0 := hG.inO hd_0_0_0
  have hd_1_2_0 := hG.inO hd_1_2_0
  have hd_1_3_0 := hG.inO hd_1_3_0
  have hd_1_5_0 := hG.inO hd_1_5_0
  have hd_1_6_0 := hG.inO hd_1_6_0
  have hd_1_7_0 := hG.inO hd_1_7_0
  have hd_1_8_0 := hG.inO hd_1_8_0
  have hd_2_9_0 := hG.inO hd_2_9_0
  have hd_1_11_0 := hG.inO hd_1_11_0
  have hd_1_12_0 := hG.inO hd_1_12_0
  have hd_2_13_0 := hG.inO hd_2_13_0
  have hd_1_14_0 := hG.inO hd_1_14_0
  have hd_1_15_0 := hG.inO hd_1_15_0
  have hd_1_16_0 := hG.inO hd_1_16_0
  have hd_1_17_0 := hG.inO hd_1_17_0
  have hd_1_18_0 := hG.inO hd_1_18_0
  have hd_1_19_0 := hG.inO hd_1_19_0
  have hd_1_20_0 := hG.inO hd_1_20_0
  have hd_1_21_0 := hG.inO hd_1_21_0
  have hd_1_22_0 := hG.inO hd_1_22_0
  have hd_1_23_0 := hG.inO hd_1_23_0
  have hd_1_24_0 := hG.inO hd_1_24_0
  have hd_1_25_0 := hG.inX
  have hf_1_26_0 := hG.notin hf_1_26_0 (by decide)
  have hf_1_27_0 := hG.notin hf_1_27_0 (by decide)
  generalize hV65 : g_set V63 (1, 25, 0) (.inl (cy 0, 160, .inl (fun _ => 0))) = V65 at hG
  have hv_0_0_0 : V65 (0, 0, 0) = .inr (9, [.int 0, .int 0, .ref b1, .ref b4, .int 0, .ref b7, .ref b10, .ref b13, .ref b16, .ref b19, .int 0, .ref b22, .ref b25, .ref b28, .ref b31, .ref b34, .ref b37, .ref b40, .ref b43, .ref b46, .ref b49, .ref b52, .ref b55, .ref b58, .ref b61, .null, .null, .null]) := by rw [← hV65, g_set_ne (by decide)]; exact hv_0_0_0
  have hv_1_2_0 : V65 (1, 2, 0) = .inl (cy 0, 100, .inl (fun _ => 0)) := by rw [← hV65, g_set_ne (by decide)]; exact hv_1_2_0
  have hv_1_3_0 : V65 (1, 3, 0) = .inl (cy 0, 500, .inl (fun _ => 0)) := by rw [← hV65, g_set_ne (by decide)]; exact hv_1_3_0
  have hv_1_5_0 : V65 (1, 5, 0) = .inl (cy 0, 40, .inl (fun _ => 0)) := by rw [← hV65, g_set_ne (by decide)]; exact hv_1_5_0
  have hv_1_6_0 : V65 (1, 6, 0) = .inl (cy 0, 40, .inl (fun _ => 0)) := by rw [← hV65, g_set_ne (by decide)]; exact hv_1_6_0
  have hv_1_7_0 : V65 (1, 7, 0) = .inl (cy 0, 40, .inl (fun _ => 0)) := by rw [← hV65, g_set_ne (by decide)]; exact hv_1_7_0
  have hv_1_8_0 : V65 (1, 8, 0) = .inl (cy 0, 40, .inl (fun _ => 0)) := by rw [← hV65, g_set_ne (by decide)]; exact hv_1_8_0
  have hv_2_9_0 : V65 (2, 9, 0) = .inl (cy 4, 40, .inl (fun _ => 0)) := by rw [← hV65, g_set_ne (by decide)]; exact hv_2_9_0
  have hv_1_11_0 : V65 (1, 11, 0) = .inl (cy 0, 8, .inl (fun _ => 0)) := by rw [← hV65, g_set_ne (by decide)]; exact hv_1_11_0
  have hv_1_12_0 : V65 (1, 12, 0) = .inl (cy 0, 8, .inl (fun _ => 0)) := by rw [← hV65, g_set_ne (by decide)]; exact hv_1_12_0
  have hv_2_13_0 : V65 (2, 13, 0) = .inl (cy 4, 8, .inl (fun _ => 0)) := by rw [← hV65, g_set_ne (by decide)]; exact hv_2_13_0
  have hv_1_14_0 : V65 (1, 14, 0) = .inl (cy 0, 8, .inl (fun _ => 0)) := by rw [← hV65, g_set_ne (by decide)]; exact hv_1_14_0
  have hv_1_15_0 : V65 (1, 15, 0) = .inl (cy 0, 8, .inl (fun _ => 0)) := by rw [← hV65, g_set_ne (by decide)]; exact hv_1_15_0
  have hv_1_16_0 : V65 (1, 16, 0) = .inl (cy 0, 40, .inl (fun _ => 0)) := by rw [← hV65, g_set_ne (by decide)]; exact hv_1_16_0
  have hv_1_17_0 : V65 (1, 17, 0) = .inl (cy 0, 4000, .inl (fun _ => 0)) := by rw [← hV65, g_set_ne (by decide)]; exact hv_1_17_0
  have hv_1_18_0 : V65 (1, 18, 0) = .inl (cy 0, 8, .inl (fun _ => 0)) := by rw [← hV65, g_set_ne (by decide)]; exact hv_1_18_0
  have hv_1_19_0 : V65 (1, 19, 0) = .inl (cy 0, 800, .inl (fun _ => 0)) := by rw [← hV65, g_set_ne (by decide)]; exact hv_1_19_0
  have hv_1_20_0 : V65 (1, 20, 0) = .inl (cy 0, 8, .inl (fun _ => 0)) := by rw [← hV65, g_set_ne (by decide)]; exact hv_1_20_0
  have hv_1_21_0 : V65 (1, 21, 0) = .inl (cy 0, 800, .inl (fun _ => 0)) := by rw [← hV65, g_set_ne (by decide)]; exact hv_1_21_0
  have hv_1_22_0 : V65 (1, 22, 0) = .inl (cy 0, 800, .inl (fun _ => 0)) := by rw [← hV65, g_set_ne (by decide)]; exact hv_1_22_0
  have hv_1_23_0 : V65 (1, 23, 0) = .inl (cy 0, 800, .inl (fun _ => 0)) := by rw [← hV65, g_set_ne (by decide)]; exact hv_1_23_0
  have hv_1_24_0 : V65 (1, 24, 0) = .inl (cy 0, 8, .inl (fun _ => 0)) := by rw [← hV65, g_set_ne (by decide)]; exact hv_1_24_0
  have hv_1_25_0 : V65 (1, 25, 0) = .inl (cy 0, 160, .inl (fun _ => 0)) := by rw [← hV65, g_set_self]
  have hVo : ∀ y, y ≠ (0, 0, 0) ∧ y ≠ (1, 2, 0) ∧ y ≠ (1, 3, 0) ∧ y ≠ (1, 5, 0) ∧ y ≠ (1, 6, 0) ∧ y ≠ (1, 7, 0) ∧ y ≠ (1, 8, 0) ∧ y ≠ (2, 9, 0) ∧ y ≠ (1, 11, 0) ∧ y ≠ (1, 12, 0) ∧ y ≠ (2, 13, 0) ∧ y ≠ (1, 14, 0) ∧ y ≠ (1, 15, 0) ∧ y ≠ (1, 16, 0) ∧ y ≠ (1, 17, 0) ∧ y ≠ (1, 18, 0) ∧ y ≠ (1, 19, 0) ∧ y ≠ (1, 20, 0) ∧ y ≠ (1, 21, 0) ∧ y ≠ (1, 22, 0) ∧ y ≠ (1, 23, 0) ∧ y ≠ (1, 24, 0) ∧ y ≠ (1, 25, 0) ∧ y ≠ (1, 26, 0) ∧ y ≠ (1, 27, 0) → V65 y = V y := fun y hy => by rw [← hV65, g_set_ne (fun q => hy.2.2.2.2.2.2.2.2.2.2.2.2.2.2.2.2.2.2.2.2.2.2.1 q)]; first | done | exact hVo y hy
  refine h_putF (C := RX7) (T := TX7) (N := 28) (ci := 9) (ty := (tyX7 25)) hx hb hts inX7g tyX7_ok nmX7 hown hK hG hS (0, 0, 0) hd_0_0_0 e_0_0_0 hAa hv_0_0_0 rfl 25 (by decide) fl_X7_74 rfl hin2 rfl (by decide +kernel) rfl rfl (Nat.le_of_ble_eq_true rfl) dX7_init_184 (fun H locs hG hS => ?_)
  have hG : g_H D vwCl _ L64 (g_set V65 (0, 0, 0) (.inr (9, [.int 0, .int 0, .ref b1, .ref b4, .int 0, .ref b7, .ref b10, .ref b13, .ref b16, .ref b19, .int 0, .ref b22, .ref b25, .ref b28, .ref b31, .ref b34, .ref b37, .ref b40, .ref b43, .ref b46, .ref b49, .ref b52, .ref b55, .ref b58, .ref b61, .ref b64, .null, .null]))) H := hG
  generalize hV66 : g_set V65 (0, 0, 0) (.inr (9, [.int 0, .int 0, .ref b1, .ref b4, .int 0, .ref b7, .ref b10, .ref b13, .ref b16, .ref b19, .int 0, .ref b22, .ref b25, .ref b28, .ref b31, .ref b34, .ref b37, .ref b40, .ref b43, .ref b46, .ref b49, .ref b52, .ref b55, .ref b58, .ref b61, .ref b64, .null, .null])) = V66 at hG
  have hv_1_2_0 : V66 (1, 2, 0) = .inl (cy 0, 100, .inl (fun _ => 0)) := by rw [← hV66, g_set_ne (by decide)]; exact hv_1_2_0
  have hv_1_3_0 : V66 (1, 3, 0) = .inl (cy 0, 500, .inl (fun _ => 0)) := by rw [← hV66, g_set_ne (by decide)]; exact hv_1_3_0
  have hv_1_5_0 : V66 (1, 5, 0) = .inl (cy 0, 40, .inl (fun _ => 0)) := by rw [← hV66, g_set_ne (by decide)]; exact hv_1_5_0
  have hv_1_6_0 : V66 (1, 6, 0) = .inl (cy 0, 40, .inl (fun _ => 0)) := by rw [← hV66, g_set_ne (by decide)]; exact hv_1_6_0
  have hv_1_7_0 : V66 (1, 7, 0) = .inl (cy 0, 40, .inl (fun _ => 0)) := by rw [← hV66, g_set_ne (by decide)]; exact hv_1_7_0
  have hv_1_8_0 : V66 (1, 8, 0) = .inl (cy 0, 40, .inl (fun _ => 0)) := by rw [← hV66, g_set_ne (by decide)]; exact hv_1_8_0
  have hv_2_9_0 : V66 (2, 9, 0) = .inl (cy 4, 40, .inl (fun _ => 0)) := by rw [← hV66, g_set_ne (by decide)]; exact hv_2_9_0
  have hv_1_11_0 : V66 (1, 11, 0) = .inl (cy 0, 8, .inl (fun _ => 0)) := by rw [← hV66, g_set_ne (by decide)]; exact hv_1_11_0
  have hv_1_12_0 : V66 (1, 12, 0) = .inl (cy 0, 8, .inl (fun _ => 0)) := by rw [← hV66, g_set_ne (by decide)]; exact hv_1_12_0
  have hv_2_13_0 : V66 (2, 13, 0) = .inl (cy 4, 8, .inl (fun _ => 0)) := by rw [← hV66, g_set_ne (by decide)]; exact hv_2_13_0
  have hv_1_14_0 : V66 (1, 14, 0) = .inl (cy 0, 8, .inl (fun _ => 0)) := by rw [← hV66, g_set_ne (by decide)]; exact hv_1_14_0
  have hv_1_15_0 : V66 (1, 15, 0) = .inl (cy 0, 8, .inl (fun _ => 0)) := by rw [← hV66, g_set_ne (by decide)]; exact hv_1_15_0
  have hv_1_16_0 : V66 (1, 16, 0) = .inl (cy 0, 40, .inl (fun _ => 0)) := by rw [← hV66, g_set_ne (by decide)]; exact hv_1_16_0
  have hv_1_17_0 : V66 (1, 17, 0) = .inl (cy 0, 4000, .inl (fun _ => 0)) := by rw [← hV66, g_set_ne (by decide)]; exact hv_1_17_0
  have hv_1_18_0 : V66 (1, 18, 0) = .inl (cy 0, 8, .inl (fun _ => 0)) := by rw [← hV66, g_set_ne (by decide)]; exact hv_1_18_0
  have hv_1_19_0 : V66 (1, 19, 0) = .inl (cy 0, 800, .inl (fun _ => 0)) := by rw [← hV66, g_set_ne (by decide)]; exact hv_1_19_0
  have hv_1_20_0 : V66 (1, 20, 0) = .inl (cy 0, 8, .inl (fun _ => 0)) := by rw [← hV66, g_set_ne (by decide)]; exact hv_1_20_0
  have hv_1_21_0 : V66 (1, 21, 0) = .inl (cy 0, 800, .inl (fun _ => 0)) := by rw [← hV66, g_set_ne (by decide)]; exact hv_1_21_0
  have hv_1_22_0 : V66 (1, 22, 0) = .inl (cy 0, 800, .inl (fun _ => 0)) := by rw [← hV66, g_set_ne (by decide)]; exact hv_1_22_0
  have hv_1_23_0 : V66 (1, 23, 0) = .inl (cy 0, 800, .inl (fun _ => 0)) := by rw [← hV66, g_set_ne (by decide)]; exact hv_1_23_0
  have hv_1_24_0 : V66 (1, 24, 0) = .inl (cy 0, 8, .inl (fun _ => 0)) := by rw [← hV66, g_set_ne (by decide)]; exact hv_1_24_0
  have hv_1_25_0 : V66 (1, 25, 0) = .inl (cy 0, 160, .inl (fun _ => 0)) := by rw [← hV66, g_set_ne (by decide)]; exact hv_1_25_0
  have hv_0_0_0 : V66 (0, 0, 0) = .inr (9, [.int 0, .int 0, .ref b1, .ref b4, .int 0, .ref b7, .ref b10, .ref b13, .ref b16, .ref b19, .int 0, .ref b22, .ref b25, .ref b28, .ref b31, .ref b34, .ref b37, .ref b40, .ref b43, .ref b46, .ref b49, .ref b52, .ref b55, .ref b58, .ref b61, .ref b64, .null, .null]) := by rw [← hV66, g_set_self]
  have hVo : ∀ y, y ≠ (0, 0, 0) ∧ y ≠ (1, 2, 0) ∧ y ≠ (1, 3, 0) ∧ y ≠ (1, 5, 0) ∧ y ≠ (1, 6, 0) ∧ y ≠ (1, 7, 0) ∧ y ≠ (1, 8, 0) ∧ y ≠ (2, 9, 0) ∧ y ≠ (1, 11, 0) ∧ y ≠ (1, 12, 0) ∧ y ≠ (2, 13, 0) ∧ y ≠ (1, 14, 0) ∧ y ≠ (1, 15, 0) ∧ y ≠ (1, 16, 0) ∧ y ≠ (1, 17, 0) ∧ y ≠ (1, 18, 0) ∧ y ≠ (1, 19, 0) ∧ y ≠ (1, 20, 0) ∧ y ≠ (1, 21, 0) ∧ y ≠ (1, 22, 0) ∧ y ≠ (1, 23, 0) ∧ y ≠ (1, 24, 0) ∧ y ≠ (1, 25, 0) ∧ y ≠ (1, 26, 0) ∧ y ≠ (1, 27, 0) → V66 y = V y := fun y hy => by rw [← hV66, g_set_ne (fun q => hy.1 q)]; first | done | exact hVo y hy
  refine lv_aload_n hx hb dX7_init_187 rfl (lv_at hl 0 rfl) ?_
  refine lv_sipush (v := 160) hx hb dX7_init_188 (by decide) ?_
  refine h_newa (harr := hts _ ac_int) (atype := .int) (ty := .int) (a0 := (160, .inl (fun _ => 0))) hx hb rfl (fun C h => by cases h) hK 0 rfl hG hS (1, 26, 0) hf_1_26_0 rfl (by decide) rfl (by decide) (Nat.le_of_ble_eq_true rfl) (Nat.le_of_ble_eq_true rfl) dX7_init_191 (fun L67 b67 H hL9 e_1_26_0 ha67 hG hS hz9 o9 => ?_)
  have hs_1_2_0 : s.heap.size ≤ L67 (1, 2, 0) := by rw [hL9 _ hd_1_2_0]; exact hs_1_2_0
  have hs_1_3_0 : s.heap.size ≤ L67 (1, 3, 0) := by rw [hL9 _ hd_1_3_0]; exact hs_1_3_0
  have hs_1_5_0 : s.heap.size ≤ L67 (1, 5, 0) := by rw [hL9 _ hd_1_5_0]; exact hs_1_5_0
  have hs_1_6_0 : s.heap.size ≤ L67 (1, 6, 0) := by rw [hL9 _ hd_1_6_0]; exact hs_1_6_0
  have hs_1_7_0 : s.heap.size ≤ L67 (1, 7, 0) := by rw [hL9 _ hd_1_7_0]; exact hs_1_7_0
  have hs_1_8_0 : s.heap.size ≤ L67 (1, 8, 0) := by rw [hL9 _ hd_1_8_0]; exact hs_1_8_0
  have hs_2_9_0 : s.heap.size ≤ L67 (2, 9, 0) := by rw [hL9 _ hd_2_9_0]; exact hs_2_9_0
  have hs_1_11_0 : s.heap.size ≤ L67 (1, 11, 0) := by rw [hL9 _ hd_1_11_0]; exact hs_1_11_0
  have hs_1_12_0 : s.heap.size ≤ L67 (1, 12, 0) := by rw [hL9 _ hd_1_12_0]; exact hs_1_12_0
  have hs_2_13_0 : s.heap.size ≤ L67 (2, 13, 0) := by rw [hL9 _ hd_2_13_0]; exact hs_2_13_0
  have hs_1_14_0 : s.heap.size ≤ L67 (1, 14, 0) := by rw [hL9 _ hd_1_14_0]; exact hs_1_14_0
  have hs_1_15_0 : s.heap.size ≤ L67 (1, 15, 0) := by rw [hL9 _ hd_1_15_0]; exact hs_1_15_0
  have hs_1_16_0 : s.heap.size ≤ L67 (1, 16, 0) := by rw [hL9 _ hd_1_16_0]; exact hs_1_16_0
  have hs_1_17_0 : s.heap.size ≤ L67 (1, 17, 0) := by rw [hL9 _ hd_1_17_0]; exact hs_1_17_0
  have hs_1_18_0 : s.heap.size ≤ L67 (1, 18, 0) := by rw [hL9 _ hd_1_18_0]; exact hs_1_18_0
  have hs_1_19_0 : s.heap.size ≤ L67 (1, 19, 0) := by rw [hL9 _ hd_1_19_0]; exact hs_1_19_0
  have hs_1_20_0 : s.heap.size ≤ L67 (1, 20, 0) := by rw [hL9 _ hd_1_20_0]; exact hs_1_20_0
  have hs_1_21_0 : s.heap.size ≤ L67 (1, 21, 0) := by rw [hL9 _ hd_1_21_0]; exact hs_1_21_0
  have hs_1_22_0 : s.heap.size ≤ L67 (1, 22, 0) := by rw [hL9 _ hd_1_22_0]; exact hs_1_22_0
  have hs_1_23_0 : s.heap.size ≤ L67 (1, 23, 0) := by rw [hL9 _ hd_1_23_0]; exact hs_1_23_0
  have hs_1_24_0 : s.heap.size ≤ L67 (1, 24, 0) := by rw [hL9 _ hd_1_24_0]; exact hs_1_24_0
  have hs_1_25_0 : s.heap.size ≤ L67 (1, 25, 0) := by rw [hL9 _ hd_1_25_0]; exact hs_1_25_0
  have hs_1_26_0 : s.heap.size ≤ L67 (1, 26, 0) := by rw [e_1_26_0]; exact ha67
  have e_0_0_0 := (hL9 _ hd_0_0_0).trans e_0_0_0
  have e_1_2_0 := (hL9 _ hd_1_2_0).trans e_1_2_0
  have e_1_3_0 := (hL9 _ hd_1_3_0).trans e_1_3_0
  have e_1_5_0 := (hL9 _ hd_1_5_0).trans e_1_5_0
  have e_1_6_0 := (hL9 _ hd_1_6_0).trans e_1_6_0
  have e_1_7_0 := (hL9 _ hd_1_7_0).trans e_1_7_0
  have e_1_8_0 := (hL9 _ hd_1_8_0).trans e_1_8_0
  have e_2_9_0 := (hL9 _ hd_2_9_0).trans e_2_9_0
  have e_1_11_0 := (hL9 _ hd_1_11_0).trans e_1_11_0
  have e_1_12_0 := (hL9 _ hd_1_12_0).trans e_1_12_0
  have e_2_13_0 := (hL9 _ hd_2_13_0).trans e_2_13_0
  have e_1_14_0 := (hL9 _ hd_1_14_0).trans e_1_14_0
  have e_1_15_0 := (hL9 _ hd_1_15_0).trans e_1_15_0
  have e_1_16_0 := (hL9 _ hd_1_16_0).trans e_1_16_0
  have e_1_17_0 := (hL9 _ hd_1_17_0).trans e_1_17_0
  have e_1_18_0 := (hL9 _ hd_1_18_0).trans e_1_18_0
  have e_1_19_0 := (hL9 _ hd_1_19_0).trans e_1_19_0
  have e_1_20_0 := (hL9 _ hd_1_20_0).trans e_1_20_0
  have e_1_21_0 := (hL9 _ hd_1_21_0).trans e_1_21_0
  have e_1_22_0 := (hL9 _ hd_1_22_0).trans e_1_22_0
  have e_1_23_0 := (hL9 _ hd_1_23_0).trans e_1_23_0
  have e_1_24_0 := (hL9 _ hd_1_24_0).trans e_1_24_0
  have e_1_25_0 := (hL9 _ hd_1_25_0).trans e_1_25_0
  have hLL := fun y (hy : dom y) => (hL9 y (hdd y hy)).trans (hLL y hy)
  have hdd := fun y (hy : dom y) => hG.inO (hdd y hy)
  have hd_0_0_0 := hG.inO hd_0_0_0
  have hd_1_2_0 := hG.inO hd_1_2_0
  have hd_1_3_0 := hG.inO hd_1_3_0
  have hd_1_5_0 := hG.inO hd_1_5_0
  have hd_1_6_0 := hG.inO hd_1_6_0
  have hd_1_7_0 := hG.inO hd_1_7_0
  have hd_1_8_0 := hG.inO hd_1_8_0
  have hd_2_9_0 := hG.inO hd_2_9_0
  have hd_1_11_0 := hG.inO hd_1_11_0
  have hd_1_12_0 := hG.inO hd_1_12_0
  have hd_2_13_0 := hG.inO hd_2_13_0
  have hd_1_14_0 := hG.inO hd_1_14_0
  have hd_1_15_0 := hG.inO hd_1_15_0
  have hd_1_16_0 := hG.inO hd_1_16_0
  have hd_1_17_0 := hG.inO hd_1_17_0
  have hd_1_18_0 := hG.inO hd_1_18_0
  have hd_1_19_0 := hG.inO hd_1_19_0
  have hd_1_20_0 := hG.inO hd_1_20_0
  have hd_1_21_0 := hG.inO hd_1_21_0
  have hd_1_22_0 := hG.inO hd_1_22_0
  have hd_1_23_0 := hG.inO hd_1_23_0
  have hd_1_24_0 := hG.inO hd_1_24_0
  have hd_1_25_0 := hG.inO hd_1_25_0
  have hd_1_26_0 := hG.inX
  have hf_1_27_0 := hG.notin hf_1_27_0 (by decide)
  generalize hV68 : g_set V66 (1, 26, 0) (.inl (cy 0, 160, .inl (fun _ => 0))) = V68 at hG
  have hv_0_0_0 : V68 (0, 0, 0) = .inr (9, [.int 0, .int 0, .ref b1, .ref b4, .int 0, .ref b7, .ref b10, .ref b13, .ref b16, .ref b19, .int 0, .ref b22, .ref b25, .ref b28, .ref b31, .ref b34, .ref b37, .ref b40, .ref b43, .ref b46, .ref b49, .ref b52, .ref b55, .ref b58, .ref b61, .ref b64, .null, .null]) := by rw [← hV68, g_set_ne (by decide)]; exact hv_0_0_0
  have hv_1_2_0 : V68 (1, 2, 0) = .inl (cy 0, 100, .inl (fun _ => 0)) := by rw [← hV68, g_set_ne (by decide)]; exact hv_1_2_0
  have hv_1_3_0 : V68 (1, 3, 0) = .inl (cy 0, 500, .inl (fun _ => 0)) := by rw [← hV68, g_set_ne (by decide)]; exact hv_1_3_0
  have hv_1_5_0 : V68 (1, 5, 0) = .inl (cy 0, 40, .inl (fun _ => 0)) := by rw [← hV68, g_set_ne (by decide)]; exact hv_1_5_0
  have hv_1_6_0 : V68 (1, 6, 0) = .inl (cy 0, 40, .inl (fun _ => 0)) := by rw [← hV68, g_set_ne (by decide)]; exact hv_1_6_0
  have hv_1_7_0 : V68 (1, 7, 0) = .inl (cy 0, 40, .inl (fun _ => 0)) := by rw [← hV68, g_set_ne (by decide)]; exact hv_1_7_0
  have hv_1_8_0 : V68 (1, 8, 0) = .inl (cy 0, 40, .inl (fun _ => 0)) := by rw [← hV68, g_set_ne (by decide)]; exact hv_1_8_0
  have hv_2_9_0 : V68 (2, 9, 0) = .inl (cy 4, 40, .inl (fun _ => 0)) := by rw [← hV68, g_set_ne (by decide)]; exact hv_2_9_0
  have hv_1_11_0 : V68 (1, 11, 0) = .inl (cy 0, 8, .inl (fun _ => 0)) := by rw [← hV68, g_set_ne (by decide)]; exact hv_1_11_0
  have hv_1_12_0 : V68 (1, 12, 0) = .inl (cy 0, 8, .inl (fun _ => 0)) := by rw [← hV68, g_set_ne (by decide)]; exact hv_1_12_0
  have hv_2_13_0 : V68 (2, 13, 0) = .inl (cy 4, 8, .inl (fun _ => 0)) := by rw [← hV68, g_set_ne (by decide)]; exact hv_2_13_0
  have hv_1_14_0 : V68 (1, 14, 0) = .inl (cy 0, 8, .inl (fun _ => 0)) := by rw [← hV68, g_set_ne (by decide)]; exact hv_1_14_0
  have hv_1_15_0 : V68 (1, 15, 0) = .inl (cy 0, 8, .inl (fun _ => 0)) := by rw [← hV68, g_set_ne (by decide)]; exact hv_1_15_0
  have hv_1_16_0 : V68 (1, 16, 0) = .inl (cy 0, 40, .inl (fun _ => 0)) := by rw [← hV68, g_set_ne (by decide)]; exact hv_1_16_0
  have hv_1_17_0 : V68 (1, 17, 0) = .inl (cy 0, 4000, .inl (fun _ => 0)) := by rw [← hV68, g_set_ne (by decide)]; exact hv_1_17_0
  have hv_1_18_0 : V68 (1, 18, 0) = .inl (cy 0, 8, .inl (fun _ => 0)) := by rw [← hV68, g_set_ne (by decide)]; exact hv_1_18_0
  have hv_1_19_0 : V68 (1, 19, 0) = .inl (cy 0, 800, .inl (fun _ => 0)) := by rw [← hV68, g_set_ne (by decide)]; exact hv_1_19_0
  have hv_1_20_0 : V68 (1, 20, 0) = .inl (cy 0, 8, .inl (fun _ => 0)) := by rw [← hV68, g_set_ne (by decide)]; exact hv_1_20_0
  have hv_1_21_0 : V68 (1, 21, 0) = .inl (cy 0, 800, .inl (fun _ => 0)) := by rw [← hV68, g_set_ne (by decide)]; exact hv_1_21_0
  have hv_1_22_0 : V68 (1, 22, 0) = .inl (cy 0, 800, .inl (fun _ => 0)) := by rw [← hV68, g_set_ne (by decide)]; exact hv_1_22_0
  have hv_1_23_0 : V68 (1, 23, 0) = .inl (cy 0, 800, .inl (fun _ => 0)) := by rw [← hV68, g_set_ne (by decide)]; exact hv_1_23_0
  have hv_1_24_0 : V68 (1, 24, 0) = .inl (cy 0, 8, .inl (fun _ => 0)) := by rw [← hV68, g_set_ne (by decide)]; exact hv_1_24_0
  have hv_1_25_0 : V68 (1, 25, 0) = .inl (cy 0, 160, .inl (fun _ => 0)) := by rw [← hV68, g_set_ne (by decide)]; exact hv_1_25_0
  have hv_1_26_0 : V68 (1, 26, 0) = .inl (cy 0, 160, .inl (fun _ => 0)) := by rw [← hV68, g_set_self]
  have hVo : ∀ y, y ≠ (0, 0, 0) ∧ y ≠ (1, 2, 0) ∧ y ≠ (1, 3, 0) ∧ y ≠ (1, 5, 0) ∧ y ≠ (1, 6, 0) ∧ y ≠ (1, 7, 0) ∧ y ≠ (1, 8, 0) ∧ y ≠ (2, 9, 0) ∧ y ≠ (1, 11, 0) ∧ y ≠ (1, 12, 0) ∧ y ≠ (2, 13, 0) ∧ y ≠ (1, 14, 0) ∧ y ≠ (1, 15, 0) ∧ y ≠ (1, 16, 0) ∧ y ≠ (1, 17, 0) ∧ y ≠ (1, 18, 0) ∧ y ≠ (1, 19, 0) ∧ y ≠ (1, 20, 0) ∧ y ≠ (1, 21, 0) ∧ y ≠ (1, 22, 0) ∧ y ≠ (1, 23, 0) ∧ y ≠ (1, 24, 0) ∧ y ≠ (1, 25, 0) ∧ y ≠ (1, 26, 0) ∧ y ≠ (1, 27, 0) → V68 y = V y := fun y hy => by rw [← hV68, g_set_ne (fun q => hy.2.2.2.2.2.2.2.2.2.2.2.2.2.2.2.2.2.2.2.2.2.2.2.1 q)]; first | done | exact hVo y hy
  refine h_putF (C := RX7) (T := TX7) (N := 28) (ci := 9) (ty := (tyX7 26)) hx hb hts inX7g tyX7_ok nmX7 hown hK hG hS (0, 0, 0) hd_0_0_0 e_0_0_0 hAa hv_0_0_0 rfl 26 (by decide) fl_X7_77 rfl hin2 rfl (by decide +kernel) rfl rfl (Nat.le_of_ble_eq_true rfl) dX7_init_193 (fun H locs hG hS => ?_)
  have hG : g_H D vwCl _ L67 (g_set V68 (0, 0, 0) (.inr (9, [.int 0, .int 0, .ref b1, .ref b4, .int 0, .ref b7, .ref b10, .ref b13, .ref b16, .ref b19, .int 0, .ref b22, .ref b25, .ref b28, .ref b31, .ref b34, .ref b37, .ref b40, .ref b43, .ref b46, .ref b49, .ref b52, .ref b55, .ref b58, .ref b61, .ref b64, .ref b67, .null]))) H := hG
  generalize hV69 : g_set V68 (0, 0, 0) (.inr (9, [.int 0, .int 0, .ref b1, .ref b4, .int 0, .ref b7, .ref b10, .ref b13, .ref b16, .ref b19, .int 0, .ref b22, .ref b25, .ref b28, .ref b31, .ref b34, .ref b37, .ref b40, .ref b43, .ref b46, .ref b49, .ref b52, .ref b55, .ref b58, .ref b61, .ref b64, .ref b67, .null])) = V69 at hG
  have hv_1_2_0 : V69 (1, 2, 0) = .inl (cy 0, 100, .inl (fun _ => 0)) := by rw [← hV69, g_set_ne (by decide)]; exact hv_1_2_0
  have hv_1_3_0 : V69 (1, 3, 0) = .inl (cy 0, 500, .inl (fun _ => 0)) := by rw [← hV69, g_set_ne (by decide)]; exact hv_1_3_0
  have hv_1_5_0 : V69 (1, 5, 0) = .inl (cy 0, 40, .inl (fun _ => 0)) := by rw [← hV69, g_set_ne (by decide)]; exact hv_1_5_0
  have hv_1_6_0 : V69 (1, 6, 0) = .inl (cy 0, 40, .inl (fun _ => 0)) := by rw [← hV69, g_set_ne (by decide)]; exact hv_1_6_0
  have hv_1_7_0 : V69 (1, 7, 0) = .inl (cy 0, 40, .inl (fun _ => 0)) := by rw [← hV69, g_set_ne (by decide)]; exact hv_1_7_0
  have hv_1_8_0 : V69 (1, 8, 0) = .inl (cy 0, 40, .inl (fun _ => 0)) := by rw [← hV69, g_set_ne (by decide)]; exact hv_1_8_0
  have hv_2_9_0 : V69 (2, 9, 0) = .inl (cy 4, 40, .inl (fun _ => 0)) := by rw [← hV69, g_set_ne (by decide)]; exact hv_2_9_0
  have hv_1_11_0 : V69 (1, 11, 0) = .inl (cy 0, 8, .inl (fun _ => 0)) := by rw [← hV69, g_set_ne (by decide)]; exact hv_1_11_0
  have hv_1_12_0 : V69 (1, 12, 0) = .inl (cy 0, 8, .inl (fun _ => 0)) := by rw [← hV69, g_set_ne (by decide)]; exact hv_1_12_0
  have hv_2_13_0 : V69 (2, 13, 0) = .inl (cy 4, 8, .inl (fun _ => 0)) := by rw [← hV69, g_set_ne (by decide)]; exact hv_2_13_0
  have hv_1_14_0 : V69 (1, 14, 0) = .inl (cy 0, 8, .inl (fun _ => 0)) := by rw [← hV69, g_set_ne (by decide)]; exact hv_1_14_0
  have hv_1_15_0 : V69 (1, 15, 0) = .inl (cy 0, 8, .inl (fun _ => 0)) := by rw [← hV69, g_set_ne (by decide)]; exact hv_1_15_0
  have hv_1_16_0 : V69 (1, 16, 0) = .inl (cy 0, 40, .inl (fun _ => 0)) := by rw [← hV69, g_set_ne (by decide)]; exact hv_1_16_0
  have hv_1_17_0 : V69 (1, 17, 0) = .inl (cy 0, 4000, .inl (fun _ => 0)) := by rw [← hV69, g_set_ne (by decide)]; exact hv_1_17_0
  have hv_1_18_0 : V69 (1, 18, 0) = .inl (cy 0, 8, .inl (fun _ => 0)) := by rw [← hV69, g_set_ne (by decide)]; exact hv_1_18_0
  have hv_1_19_0 : V69 (1, 19, 0) = .inl (cy 0, 800, .inl (fun _ => 0)) := by rw [← hV69, g_set_ne (by decide)]; exact hv_1_19_0
  have hv_1_20_0 : V69 (1, 20, 0) = .inl (cy 0, 8, .inl (fun _ => 0)) := by rw [← hV69, g_set_ne (by decide)]; exact hv_1_20_0
  have hv_1_21_0 : V69 (1, 21, 0) = .inl (cy 0, 800, .inl (fun _ => 0)) := by rw [← hV69, g_set_ne (by decide)]; exact hv_1_21_0
  have hv_1_22_0 : V69 (1, 22, 0) = .inl (cy 0, 800, .inl (fun _ => 0)) := by rw [← hV69, g_set_ne (by decide)]; exact hv_1_22_0
  have hv_1_23_0 : V69 (1, 23, 0) = .inl (cy 0, 800, .inl (fun _ => 0)) := by rw [← hV69, g_set_ne (by decide)]; exact hv_1_23_0
  have hv_1_24_0 : V69 (1, 24, 0) = .inl (cy 0, 8, .inl (fun _ => 0)) := by rw [← hV69, g_set_ne (by decide)]; exact hv_1_24_0
  have hv_1_25_0 : V69 (1, 25, 0) = .inl (cy 0, 160, .inl (fun _ => 0)) := by rw [← hV69, g_set_ne (by decide)]; exact hv_1_25_0
  have hv_1_26_0 : V69 (1, 26, 0) = .inl (cy 0, 160, .inl (fun _ => 0)) := by rw [← hV69, g_set_ne (by decide)]; exact hv_1_26_0
  have hv_0_0_0 : V69 (0, 0, 0) = .inr (9, [.int 0, .int 0, .ref b1, .ref b4, .int 0, .ref b7, .ref b10, .ref b13, .ref b16, .ref b19, .int 0, .ref b22, .ref b25, .ref b28, .ref b31, .ref b34, .ref b37, .ref b40, .ref b43, .ref b46, .ref b49, .ref b52, .ref b55, .ref b58, .ref b61, .ref b64, .ref b67, .null]) := by rw [← hV69, g_set_self]
  have hVo : ∀ y, y ≠ (0, 0, 0) ∧ y ≠ (1, 2, 0) ∧ y ≠ (1, 3, 0) ∧ y ≠ (1, 5, 0) ∧ y ≠ (1, 6, 0) ∧ y ≠ (1, 7, 0) ∧ y ≠ (1, 8, 0) ∧ y ≠ (2, 9, 0) ∧ y ≠ (1, 11, 0) ∧ y ≠ (1, 12, 0) ∧ y ≠ (2, 13, 0) ∧ y ≠ (1, 14, 0) ∧ y ≠ (1, 15, 0) ∧ y ≠ (1, 16, 0) ∧ y ≠ (1, 17, 0) ∧ y ≠ (1, 18, 0) ∧ y ≠ (1, 19, 0) ∧ y ≠ (1, 20, 0) ∧ y ≠ (1, 21, 0) ∧ y ≠ (1, 22, 0) ∧ y ≠ (1, 23, 0) ∧ y ≠ (1, 24, 0) ∧ y ≠ (1, 25, 0) ∧ y ≠ (1, 26, 0) ∧ y ≠ (1, 27, 0) → V69 y = V y := fun y hy => by rw [← hV69, g_set_ne (fun q => hy.1 q)]; first | done | exact hVo y hy
  refine lv_aload_n hx hb dX7_init_196 rfl (lv_at hl 0 rfl) ?_
  refine lv_sipush (v := 1000) hx hb dX7_init_197 (by decide) ?_
  refine h_newa (harr := hts _ ac_int) (atype := .int) (ty := .int) (a0 := (1000, .inl (fun _ => 0))) hx hb rfl (fun C h => by cases h) hK 0 rfl hG hS (1, 27, 0) hf_1_27_0 rfl (by decide) rfl (by decide) (Nat.le_of_ble_eq_true rfl) (Nat.le_of_ble_eq_true rfl) dX7_init_200 (fun L70 b70 H hL9 e_1_27_0 ha70 hG hS hz9 o9 => ?_)
  have hs_1_2_0 : s.heap.size ≤ L70 (1, 2, 0) := by rw [hL9 _ hd_1_2_0]; exact hs_1_2_0
  have hs_1_3_0 : s.heap.size ≤ L70 (1, 3, 0) := by rw [hL9 _ hd_1_3_0]; exact hs_1_3_0
  have hs_1_5_0 : s.heap.size ≤ L70 (1, 5, 0) := by rw [hL9 _ hd_1_5_0]; exact hs_1_5_0
  have hs_1_6_0 : s.heap.size ≤ L70 (1, 6, 0) := by rw [hL9 _ hd_1_6_0]; exact hs_1_6_0
  have hs_1_7_0 : s.heap.size ≤ L70 (1, 7, 0) := by rw [hL9 _ hd_1_7_0]; exact hs_1_7_0
  have hs_1_8_0 : s.heap.size ≤ L70 (1, 8, 0) := by rw [hL9 _ hd_1_8_0]; exact hs_1_8_0
  have hs_2_9_0 : s.heap.size ≤ L70 (2, 9, 0) := by rw [hL9 _ hd_2_9_0]; exact hs_2_9_0
  have hs_1_11_0 : s.heap.size ≤ L70 (1, 11, 0) := by rw [hL9 _ hd_1_11_0]; exact hs_1_11_0
  have hs_1_12_0 : s.heap.size ≤ L70 (1, 12, 0) := by rw [hL9 _ hd_1_12_0]; exact hs_1_12_0
  have hs_2_13_0 : s.heap.size ≤ L70 (2, 13, 0) := by rw [hL9 _ hd_2_13_0]; exact hs_2_13_0
  have hs_1_14_0 : s.heap.size ≤ L70 (1, 14, 0) := by rw [hL9 _ hd_1_14_0]; exact hs_1_14_0
  have hs_1_15_0 : s.heap.size ≤ L70 (1, 15, 0) := by rw [hL9 _ hd_1_15_0]; exact hs_1_15_0
  have hs_1_16_0 : s.heap.size ≤ L70 (1, 16, 0) := by rw [hL9 _ hd_1_16_0]; exact hs_1_16_0
  have hs_1_17_0 : s.heap.size ≤ L70 (1, 17, 0) := by rw [hL9 _ hd_1_17_0]; exact hs_1_17_0
  have hs_1_18_0 : s.heap.size ≤ L70 (1, 18, 0) := by rw [hL9 _ hd_1_18_0]; exact hs_1_18_0
  have hs_1_19_0 : s.heap.size ≤ L70 (1, 19, 0) := by rw [hL9 _ hd_1_19_0]; exact hs_1_19_0
  have hs_1_20_0 : s.heap.size ≤ L70 (1, 20, 0) := by rw [hL9 _ hd_1_20_0]; exact hs_1_20_0
  have hs_1_21_0 : s.heap.size ≤ L70 (1, 21, 0) := by rw [hL9 _ hd_1_21_0]; exact hs_1_21_0
  have hs_1_22_0 : s.heap.size ≤ L70 (1, 22, 0) := by rw [hL9 _ hd_1_22_0]; exact hs_1_22_0
  have hs_1_23_0 : s.heap.size ≤ L70 (1, 23, 0) := by rw [hL9 _ hd_1_23_0]; exact hs_1_23_0
  have hs_1_24_0 : s.heap.size ≤ L70 (1, 24, 0) := by rw [hL9 _ hd_1_24_0]; exact hs_1_24_0
  have hs_1_25_0 : s.heap.size ≤ L70 (1, 25, 0) := by rw [hL9 _ hd_1_25_0]; exact hs_1_25_0
  have hs_1_26_0 : s.heap.size ≤ L70 (1, 26, 0) := by rw [hL9 _ hd_1_26_0]; exact hs_1_26_0
  have hs_1_27_0 : s.heap.size ≤ L70 (1, 27, 0) := by rw [e_1_27_0]; exact ha70
  have e_0_0_0 := (hL9 _ hd_0_0_0).trans e_0_0_0
  have e_1_2_0 := (hL9 _ hd_1_2_0).trans e_1_2_0
  have e_1_3_0 := (hL9 _ hd_1_3_0).trans e_1_3_0
  have e_1_5_0 := (hL9 _ hd_1_5_0).trans e_1_5_0
  have e_1_6_0 := (hL9 _ hd_1_6_0).trans e_1_6_0
  have e_1_7_0 := (hL9 _ hd_1_7_0).trans e_1_7_0
  have e_1_8_0 := (hL9 _ hd_1_8_0).trans e_1_8_0
  have e_2_9_0 := (hL9 _ hd_2_9_0).trans e_2_9_0
  have e_1_11_0 := (hL9 _ hd_1_11_0).trans e_1_11_0
  have e_1_12_0 := (hL9 _ hd_1_12_0).trans e_1_12_0
  have e_2_13_0 := (hL9 _ hd_2_13_0).trans e_2_13_0
  have e_1_14_0 := (hL9 _ hd_1_14_0).trans e_1_14_0
  have e_1_15_0 := (hL9 _ hd_1_15_0).trans e_1_15_0
  have e_1_16_0 := (hL9 _ hd_1_16_0).trans e_1_16_0
  have e_1_17_0 := (hL9 _ hd_1_17_0).trans e_1_17_0
  have e_1_18_0 := (hL9 _ hd_1_18_0).trans e_1_18_0
  have e_1_19_0 := (hL9 _ hd_1_19_0).trans e_1_19_0
  have e_1_20_0 := (hL9 _ hd_1_20_0).trans e_1_20_0
  have e_1_21_0 := (hL9 _ hd_1_21_0).trans e_1_21_0
  have e_1_22_0 := (hL9 _ hd_1_22_0).trans e_1_22_0
  have e_1_23_0 := (hL9 _ hd_1_23_0).trans e_1_23_0
  have e_1_24_0 := (hL9 _ hd_1_24_0).trans e_1_24_0
  have e_1_25_0 := (hL9 _ hd_1_25_0).trans e_1_25_0
  have e_1_26_0 := (hL9 _ hd_1_26_0).trans e_1_26_0
  have hLL := fun y (hy : dom y) => (hL9 y (hdd y hy)).trans (hLL y hy)
  have hdd := fun y (hy : dom y) => hG.inO (hdd y hy)
  have hd_0_0_0 := hG.inO hd_0_0_0
  have hd_1_2_0 := hG.inO hd_1_2_0
  have hd_1_3_0 := hG.inO hd_1_3_0
  have hd_1_5_0 := hG.inO hd_1_5_0
  have hd_1_6_0 := hG.inO hd_1_6_0
  have hd_1_7_0 := hG.inO hd_1_7_0
  have hd_1_8_0 := hG.inO hd_1_8_0
  have hd_2_9_0 := hG.inO hd_2_9_0
  have hd_1_11_0 := hG.inO hd_1_11_0
  have hd_1_12_0 := hG.inO hd_1_12_0
  have hd_2_13_0 := hG.inO hd_2_13_0
  have hd_1_14_0 := hG.inO hd_1_14_0
  have hd_1_15_0 := hG.inO hd_1_15_0
  have hd_1_16_0 := hG.inO hd_1_16_0
  have hd_1_17_0 := hG.inO hd_1_17_0
  have hd_1_18_0 := hG.inO hd_1_18_0
  have hd_1_19_0 := hG.inO hd_1_19_0
  have hd_1_20_0 := hG.inO hd_1_20_0
  have hd_1_21_0 := hG.inO hd_1_21_0
  have hd_1_22_0 := hG.inO hd_1_22_0
  have hd_1_23_0 := hG.inO hd_1_23_0
  have hd_1_24_0 := hG.inO hd_1_24_0
  have hd_1_25_0 := hG.inO hd_1_25_0
  have hd_1_26_0 := hG.inO hd_1_26_0
  have hd_1_27_0 := hG.inX
  generalize hV71 : g_set V69 (1, 27, 0) (.inl (cy 0, 1000, .inl (fun _ => 0))) = V71 at hG
  have hv_0_0_0 : V71 (0, 0, 0) = .inr (9, [.int 0, .int 0, .ref b1, .ref b4, .int 0, .ref b7, .ref b10, .ref b13, .ref b16, .ref b19, .int 0, .ref b22, .ref b25, .ref b28, .ref b31, .ref b34, .ref b37, .ref b40, .ref b43, .ref b46, .ref b49, .ref b52, .ref b55, .ref b58, .ref b61, .ref b64, .ref b67, .null]) := by rw [← hV71, g_set_ne (by decide)]; exact hv_0_0_0
  have hv_1_2_0 : V71 (1, 2, 0) = .inl (cy 0, 100, .inl (fun _ => 0)) := by rw [← hV71, g_set_ne (by decide)]; exact hv_1_2_0
  have hv_1_3_0 : V71 (1, 3, 0) = .inl (cy 0, 500, .inl (fun _ => 0)) := by rw [← hV71, g_set_ne (by decide)]; exact hv_1_3_0
  have hv_1_5_0 : V71 (1, 5, 0) = .inl (cy 0, 40, .inl (fun _ => 0)) := by rw [← hV71, g_set_ne (by decide)]; exact hv_1_5_0
  have hv_1_6_0 : V71 (1, 6, 0) = .inl (cy 0, 40, .inl (fun _ => 0)) := by rw [← hV71, g_set_ne (by decide)]; exact hv_1_6_0
  have hv_1_7_0 : V71 (1, 7, 0) = .inl (cy 0, 40, .inl (fun _ => 0)) := by rw [← hV71, g_set_ne (by decide)]; exact hv_1_7_0
  have hv_1_8_0 : V71 (1, 8, 0) = .inl (cy 0, 40, .inl (fun _ => 0)) := by rw [← hV71, g_set_ne (by decide)]; exact hv_1_8_0
  have hv_2_9_0 : V71 (2, 9, 0) = .inl (cy 4, 40, .inl (fun _ => 0)) := by rw [← hV71, g_set_ne (by decide)]; exact hv_2_9_0
  have hv_1_11_0 : V71 (1, 11, 0) = .inl (cy 0, 8, .inl (fun _ => 0)) := by rw [← hV71, g_set_ne (by decide)]; exact hv_1_11_0
  have hv_1_12_0 : V71 (1, 12, 0) = .inl (cy 0, 8, .inl (fun _ => 0)) := by rw [← hV71, g_set_ne (by decide)]; exact hv_1_12_0
  have hv_2_13_0 : V71 (2, 13, 0) = .inl (cy 4, 8, .inl (fun _ => 0)) := by rw [← hV71, g_set_ne (by decide)]; exact hv_2_13_0
  have hv_1_14_0 : V71 (1, 14, 0) = .inl (cy 0, 8, .inl (fun _ => 0)) := by rw [← hV71, g_set_ne (by decide)]; exact hv_1_14_0
  have hv_1_15_0 : V71 (1, 15, 0) = .inl (cy 0, 8, .inl (fun _ => 0)) := by rw [← hV71, g_set_ne (by decide)]; exact hv_1_15_0
  have hv_1_16_0 : V71 (1, 16, 0) = .inl (cy 0, 40, .inl (fun _ => 0)) := by rw [← hV71, g_set_ne (by decide)]; exact hv_1_16_0
  have hv_1_17_0 : V71 (1, 17, 0) = .inl (cy 0, 4000, .inl (fun _ => 0)) := by rw [← hV71, g_set_ne (by decide)]; exact hv_1_17_0
  have hv_1_18_0 : V71 (1, 18, 0) = .inl (cy 0, 8, .inl (fun _ => 0)) := by rw [← hV71, g_set_ne (by decide)]; exact hv_1_18_0
  have hv_1_19_0 : V71 (1, 19, 0) = .inl (cy 0, 800, .inl (fun _ => 0)) := by rw [← hV71, g_set_ne (by decide)]; exact hv_1_19_0
  have hv_1_20_0 : V71 (1, 20, 0) = .inl (cy 0, 8, .inl (fun _ => 0)) := by rw [← hV71, g_set_ne (by decide)]; exact hv_1_20_0
  have hv_1_21_0 : V71 (1, 21, 0) = .inl (cy 0, 800, .inl (fun _ => 0)) := by rw [← hV71, g_set_ne (by decide)]; exact hv_1_21_0
  have hv_1_22_0 : V71 (1, 22, 0) = .inl (cy 0, 800, .inl (fun _ => 0)) := by rw [← hV71, g_set_ne (by decide)]; exact hv_1_22_0
  have hv_1_23_0 : V71 (1, 23, 0) = .inl (cy 0, 800, .inl (fun _ => 0)) := by rw [← hV71, g_set_ne (by decide)]; exact hv_1_23_0
  have hv_1_24_0 : V71 (1, 24, 0) = .inl (cy 0, 8, .inl (fun _ => 0)) := by rw [← hV71, g_set_ne (by decide)]; exact hv_1_24_0
  have hv_1_25_0 : V71 (1, 25, 0) = .inl (cy 0, 160, .inl (fun _ => 0)) := by rw [← hV71, g_set_ne (by decide)]; exact hv_1_25_0
  have hv_1_26_0 : V71 (1, 26, 0) = .inl (cy 0, 160, .inl (fun _ => 0)) := by rw [← hV71, g_set_ne (by decide)]; exact hv_1_26_0
  have hv_1_27_0 : V71 (1, 27, 0) = .inl (cy 0, 1000, .inl (fun _ => 0)) := by rw [← hV71, g_set_self]
  have hVo : ∀ y, y ≠ (0, 0, 0) ∧ y ≠ (1, 2, 0) ∧ y ≠ (1, 3, 0) ∧ y ≠ (1, 5, 0) ∧ y ≠ (1, 6, 0) ∧ y ≠ (1, 7, 0) ∧ y ≠ (1, 8, 0) ∧ y ≠ (2, 9, 0) ∧ y ≠ (1, 11, 0) ∧ y ≠ (1, 12, 0) ∧ y ≠ (2, 13, 0) ∧ y ≠ (1, 14, 0) ∧ y ≠ (1, 15, 0) ∧ y ≠ (1, 16, 0) ∧ y ≠ (1, 17, 0) ∧ y ≠ (1, 18, 0) ∧ y ≠ (1, 19, 0) ∧ y ≠ (1, 20, 0) ∧ y ≠ (1, 21, 0) ∧ y ≠ (1, 22, 0) ∧ y ≠ (1, 23, 0) ∧ y ≠ (1, 24, 0) ∧ y ≠ (1, 25, 0) ∧ y ≠ (1, 26, 0) ∧ y ≠ (1, 27, 0) → V71 y = V y := fun y hy => by rw [← hV71, g_set_ne (fun q => hy.2.2.2.2.2.2.2.2.2.2.2.2.2.2.2.2.2.2.2.2.2.2.2.2 q)]; first | done | exact hVo y hy
  refine h_putF (C := RX7) (T := TX7) (N := 28) (ci := 9) (ty := (tyX7 27)) hx hb hts inX7g tyX7_ok nmX7 hown hK hG hS (0, 0, 0) hd_0_0_0 e_0_0_0 hAa hv_0_0_0 rfl 27 (by decide) fl_X7_80 rfl hin2 rfl (by decide +kernel) rfl rfl (Nat.le_of_ble_eq_true rfl) dX7_init_202 (fun H locs hG hS => ?_)
  have hG : g_H D vwCl _ L70 (g_set V71 (0, 0, 0) (.inr (9, [.int 0, .int 0, .ref b1, .ref b4, .int 0, .ref b7, .ref b10, .ref b13, .ref b16, .ref b19, .int 0, .ref b22, .ref b25, .ref b28, .ref b31, .ref b34, .ref b37, .ref b40, .ref b43, .ref b46, .ref b49, .ref b52, .ref b55, .ref b58, .ref b61, .ref b64, .ref b67, .ref b70]))) H := hG
  generalize hV72 : g_set V71 (0, 0, 0) (.inr (9, [.int 0, .int 0, .ref b1, .ref b4, .int 0, .ref b7, .ref b10, .ref b13, .ref b16, .ref b19, .int 0, .ref b22, .ref b25, .ref b28, .ref b31, .ref b34, .ref b37, .ref b40, .ref b43, .ref b46, .ref b49, .ref b52, .ref b55, .ref b58, .ref b61, .ref b64, .ref b67, .ref b70])) = V72 at hG
  have hv_1_2_0 : V72 (1, 2, 0) = .inl (cy 0, 100, .inl (fun _ => 0)) := by rw [← hV72, g_set_ne (by decide)]; exact hv_1_2_0
  have hv_1_3_0 : V72 (1, 3, 0) = .inl (cy 0, 500, .inl (fun _ => 0)) := by rw [← hV72, g_set_ne (by decide)]; exact hv_1_3_0
  have hv_1_5_0 : V72 (1, 5, 0) = .inl (cy 0, 40, .inl (fun _ => 0)) := by rw [← hV72, g_set_ne (by decide)]; exact hv_1_5_0
  have hv_1_6_0 : V72 (1, 6, 0) = .inl (cy 0, 40, .inl (fun _ => 0)) := by rw [← hV72, g_set_ne (by decide)]; exact hv_1_6_0
  have hv_1_7_0 : V72 (1, 7, 0) = .inl (cy 0, 40, .inl (fun _ => 0)) := by rw [← hV72, g_set_ne (by decide)]; exact hv_1_7_0
  have hv_1_8_0 : V72 (1, 8, 0) = .inl (cy 0, 40, .inl (fun _ => 0)) := by rw [← hV72, g_set_ne (by decide)]; exact hv_1_8_0
  have hv_2_9_0 : V72 (2, 9, 0) = .inl (cy 4, 40, .inl (fun _ => 0)) := by rw [← hV72, g_set_ne (by decide)]; exact hv_2_9_0
  have hv_1_11_0 : V72 (1, 11, 0) = .inl (cy 0, 8, .inl (fun _ => 0)) := by rw [← hV72, g_set_ne (by decide)]; exact hv_1_11_0
  have hv_1_12_0 : V72 (1, 12, 0) = .inl (cy 0, 8, .inl (fun _ => 0)) := by rw [← hV72, g_set_ne (by decide)]; exact hv_1_12_0
  have hv_2_13_0 : V72 (2, 13, 0) = .inl (cy 4, 8, .inl (fun _ => 0)) := by rw [← hV72, g_set_ne (by decide)]; exact hv_2_13_0
  have hv_1_14_0 : V72 (1, 14, 0) = .inl (cy 0, 8, .inl (fun _ => 0)) := by rw [← hV72, g_set_ne (by decide)]; exact hv_1_14_0
  have hv_1_15_0 : V72 (1, 15, 0) = .inl (cy 0, 8, .inl (fun _ => 0)) := by rw [← hV72, g_set_ne (by decide)]; exact hv_1_15_0
  have hv_1_16_0 : V72 (1, 16, 0) = .inl (cy 0, 40, .inl (fun _ => 0)) := by rw [← hV72, g_set_ne (by decide)]; exact hv_1_16_0
  have hv_1_17_0 : V72 (1, 17, 0) = .inl (cy 0, 4000, .inl (fun _ => 0)) := by rw [← hV72, g_set_ne (by decide)]; exact hv_1_17_0
  have hv_1_18_0 : V72 (1, 18, 0) = .inl (cy 0, 8, .inl (fun _ => 0)) := by rw [← hV72, g_set_ne (by decide)]; exact hv_1_18_0
  have hv_1_19_0 : V72 (1, 19, 0) = .inl (cy 0, 800, .inl (fun _ => 0)) := by rw [← hV72, g_set_ne (by decide)]; exact hv_1_19_0
  have hv_1_20_0 : V72 (1, 20, 0) = .inl (cy 0, 8, .inl (fun _ => 0)) := by rw [← hV72, g_set_ne (by decide)]; exact hv_1_20_0
  have hv_1_21_0 : V72 (1, 21, 0) = .inl (cy 0, 800, .inl (fun _ => 0)) := by rw [← hV72, g_set_ne (by decide)]; exact hv_1_21_0
  have hv_1_22_0 : V72 (1, 22, 0) = .inl (cy 0, 800, .inl (fun _ => 0)) := by rw [← hV72, g_set_ne (by decide)]; exact hv_1_22_0
  have hv_1_23_0 : V72 (1, 23, 0) = .inl (cy 0, 800, .inl (fun _ => 0)) := by rw [← hV72, g_set_ne (by decide)]; exact hv_1_23_0
  have hv_1_24_0 : V72 (1, 24, 0) = .inl (cy 0, 8, .inl (fun _ => 0)) := by rw [← hV72, g_set_ne (by decide)]; exact hv_1_24_0
  have hv_1_25_0 : V72 (1, 25, 0) = .inl (cy 0, 160, .inl (fun _ => 0)) := by rw [← hV72, g_set_ne (by decide)]; exact hv_1_25_0
  have hv_1_26_0 : V72 (1, 26, 0) = .inl (cy 0, 160, .inl (fun _ => 0)) := by rw [← hV72, g_set_ne (by decide)]; exact hv_1_26_0
  have hv_1_27_0 : V72 (1, 27, 0) = .inl (cy 0, 1000, .inl (fun _ => 0)) := by rw [← hV72, g_set_ne (by decide)]; exact hv_1_27_0
  have hv_0_0_0 : V72 (0, 0, 0) = .inr (9, [.int 0, .int 0, .ref b1, .ref b4, .int 0, .ref b7, .ref b10, .ref b13, .ref b16, .ref b19, .int 0, .ref b22, .ref b25, .ref b28, .ref b31, .ref b34, .ref b37, .ref b40, .ref b43, .ref b46, .ref b49, .ref b52, .ref b55, .ref b58, .ref b61, .ref b64, .ref b67, .ref b70]) := by rw [← hV72, g_set_self]
  have hVo : ∀ y, y ≠ (0, 0, 0) ∧ y ≠ (1, 2, 0) ∧ y ≠ (1, 3, 0) ∧ y ≠ (1, 5, 0) ∧ y ≠ (1, 6, 0) ∧ y ≠ (1, 7, 0) ∧ y ≠ (1, 8, 0) ∧ y ≠ (2, 9, 0) ∧ y ≠ (1, 11, 0) ∧ y ≠ (1, 12, 0) ∧ y ≠ (2, 13, 0) ∧ y ≠ (1, 14, 0) ∧ y ≠ (1, 15, 0) ∧ y ≠ (1, 16, 0) ∧ y ≠ (1, 17, 0) ∧ y ≠ (1, 18, 0) ∧ y ≠ (1, 19, 0) ∧ y ≠ (1, 20, 0) ∧ y ≠ (1, 21, 0) ∧ y ≠ (1, 22, 0) ∧ y ≠ (1, 23, 0) ∧ y ≠ (1, 24, 0) ∧ y ≠ (1, 25, 0) ∧ y ≠ (1, 26, 0) ∧ y ≠ (1, 27, 0) → V72 y = V y := fun y hy => by rw [← hV72, g_set_ne (fun q => hy.1 q)]; first | done | exact hVo y hy
  refine lv_iconst (v := 0) hx hb dX7_init_205 (by decide) ?_
  refine lv_istore_n (lv' := [(1, .int 0), (0, .ref a0)]) hx hb dX7_init_206 rfl hl (by decide) rfl (fun ls hl => ?_)
  have hv_1_16_0 : V72 (1, 16, 0) = .inl (cy 0, 40, .inl (m_f0 0)) := hv_1_16_0
  refine lp_minit hx hb hts hown hK hd_0_0_0 e_0_0_0 hd_1_16_0 e_1_16_0 (hAn _ ha37) rfl 40 0 V72 H locs ls (by omega) hG hS hv_0_0_0 hv_1_16_0 hl (fun V99 H locs ls hG hS hv16 hVr => ?_)
  have hv_0_0_0 := (hVr (0, 0, 0) (by decide)).trans hv_0_0_0
  have hv_1_2_0 := (hVr (1, 2, 0) (by decide)).trans hv_1_2_0
  have hv_1_3_0 := (hVr (1, 3, 0) (by decide)).trans hv_1_3_0
  have hv_1_5_0 := (hVr (1, 5, 0) (by decide)).trans hv_1_5_0
  have hv_1_6_0 := (hVr (1, 6, 0) (by decide)).trans hv_1_6_0
  have hv_1_7_0 := (hVr (1, 7, 0) (by decide)).trans hv_1_7_0
  have hv_1_8_0 := (hVr (1, 8, 0) (by decide)).trans hv_1_8_0
  have hv_2_9_0 := (hVr (2, 9, 0) (by decide)).trans hv_2_9_0
  have hv_1_11_0 := (hVr (1, 11, 0) (by decide)).trans hv_1_11_0
  have hv_1_12_0 := (hVr (1, 12, 0) (by decide)).trans hv_1_12_0
  have hv_2_13_0 := (hVr (2, 13, 0) (by decide)).trans hv_2_13_0
  have hv_1_14_0 := (hVr (1, 14, 0) (by decide)).trans hv_1_14_0
  have hv_1_15_0 := (hVr (1, 15, 0) (by decide)).trans hv_1_15_0
  have hv_1_17_0 := (hVr (1, 17, 0) (by decide)).trans hv_1_17_0
  have hv_1_18_0 := (hVr (1, 18, 0) (by decide)).trans hv_1_18_0
  have hv_1_19_0 := (hVr (1, 19, 0) (by decide)).trans hv_1_19_0
  have hv_1_20_0 := (hVr (1, 20, 0) (by decide)).trans hv_1_20_0
  have hv_1_21_0 := (hVr (1, 21, 0) (by decide)).trans hv_1_21_0
  have hv_1_22_0 := (hVr (1, 22, 0) (by decide)).trans hv_1_22_0
  have hv_1_23_0 := (hVr (1, 23, 0) (by decide)).trans hv_1_23_0
  have hv_1_24_0 := (hVr (1, 24, 0) (by decide)).trans hv_1_24_0
  have hv_1_25_0 := (hVr (1, 25, 0) (by decide)).trans hv_1_25_0
  have hv_1_26_0 := (hVr (1, 26, 0) (by decide)).trans hv_1_26_0
  have hv_1_27_0 := (hVr (1, 27, 0) (by decide)).trans hv_1_27_0
  have hv_1_16_0 := hv16
  have hVo : ∀ y, y ≠ (0, 0, 0) ∧ y ≠ (1, 2, 0) ∧ y ≠ (1, 3, 0) ∧ y ≠ (1, 5, 0) ∧ y ≠ (1, 6, 0) ∧ y ≠ (1, 7, 0) ∧ y ≠ (1, 8, 0) ∧ y ≠ (2, 9, 0) ∧ y ≠ (1, 11, 0) ∧ y ≠ (1, 12, 0) ∧ y ≠ (2, 13, 0) ∧ y ≠ (1, 14, 0) ∧ y ≠ (1, 15, 0) ∧ y ≠ (1, 16, 0) ∧ y ≠ (1, 17, 0) ∧ y ≠ (1, 18, 0) ∧ y ≠ (1, 19, 0) ∧ y ≠ (1, 20, 0) ∧ y ≠ (1, 21, 0) ∧ y ≠ (1, 22, 0) ∧ y ≠ (1, 23, 0) ∧ y ≠ (1, 24, 0) ∧ y ≠ (1, 25, 0) ∧ y ≠ (1, 26, 0) ∧ y ≠ (1, 27, 0) → V99 y = V y := fun y hy => (hVr y (fun q => hy.2.2.2.2.2.2.2.2.2.2.2.2.2.1 q)).trans (hVo y hy)
  have hnw : ∀ y, (dom y ∨ y = (1, 2, 0) ∨ y = (1, 3, 0) ∨ y = (1, 5, 0) ∨ y = (1, 6, 0) ∨ y = (1, 7, 0) ∨ y = (1, 8, 0) ∨ y = (2, 9, 0) ∨ y = (1, 11, 0) ∨ y = (1, 12, 0) ∨ y = (2, 13, 0) ∨ y = (1, 14, 0) ∨ y = (1, 15, 0) ∨ y = (1, 16, 0) ∨ y = (1, 17, 0) ∨ y = (1, 18, 0) ∨ y = (1, 19, 0) ∨ y = (1, 20, 0) ∨ y = (1, 21, 0) ∨ y = (1, 22, 0) ∨ y = (1, 23, 0) ∨ y = (1, 24, 0) ∨ y = (1, 25, 0) ∨ y = (1, 26, 0) ∨ y = (1, 27, 0)) → dom y ∨ s.heap.size ≤ L70 y := by
    intro y h
    rcases h with h | rfl | rfl | rfl | rfl | rfl | rfl | rfl | rfl | rfl | rfl | rfl | rfl | rfl | rfl | rfl | rfl | rfl | rfl | rfl | rfl | rfl | rfl | rfl | rfl
    · exact Or.inl h
    · exact Or.inr hs_1_2_0
    · exact Or.inr hs_1_3_0
    · exact Or.inr hs_1_5_0
    · exact Or.inr hs_1_6_0
    · exact Or.inr hs_1_7_0
    · exact Or.inr hs_1_8_0
    · exact Or.inr hs_2_9_0
    · exact Or.inr hs_1_11_0
    · exact Or.inr hs_1_12_0
    · exact Or.inr hs_2_13_0
    · exact Or.inr hs_1_14_0
    · exact Or.inr hs_1_15_0
    · exact Or.inr hs_1_16_0
    · exact Or.inr hs_1_17_0
    · exact Or.inr hs_1_18_0
    · exact Or.inr hs_1_19_0
    · exact Or.inr hs_1_20_0
    · exact Or.inr hs_1_21_0
    · exact Or.inr hs_1_22_0
    · exact Or.inr hs_1_23_0
    · exact Or.inr hs_1_24_0
    · exact Or.inr hs_1_25_0
    · exact Or.inr hs_1_26_0
    · exact Or.inr hs_1_27_0
  refine h_vret hx hb hr hlk hLL hnw (hG.congr (fun x h => ?_) (fun x h => ?_)) hS dX7_init_226
  · rcases h with h | rfl | rfl | rfl | rfl | rfl | rfl | rfl | rfl | rfl | rfl | rfl | rfl | rfl | rfl | rfl | rfl | rfl | rfl | rfl | rfl | rfl | rfl | rfl | rfl
    · exact hdd x h
    · exact hd_1_2_0
    · exact hd_1_3_0
    · exact hd_1_5_0
    · exact hd_1_6_0
    · exact hd_1_7_0
    · exact hd_1_8_0
    · exact hd_2_9_0
    · exact hd_1_11_0
    · exact hd_1_12_0
    · exact hd_2_13_0
    · exact hd_1_14_0
    · exact hd_1_15_0
    · exact hd_1_16_0
    · exact hd_1_17_0
    · exact hd_1_18_0
    · exact hd_1_19_0
    · exact hd_1_20_0
    · exact hd_1_21_0
    · exact hd_1_22_0
    · exact hd_1_23_0
    · exact hd_1_24_0
    · exact hd_1_25_0
    · exact hd_1_26_0
    · exact hd_1_27_0
  · by_cases q_0_0_0 : x = (0, 0, 0)
    · rw [if_pos q_0_0_0, q_0_0_0, hv_0_0_0, e_1_2_0, e_1_3_0, e_1_5_0, e_1_6_0, e_1_7_0, e_1_8_0, e_2_9_0, e_1_11_0, e_1_12_0, e_2_13_0, e_1_14_0, e_1_15_0, e_1_16_0, e_1_17_0, e_1_18_0, e_1_19_0, e_1_20_0, e_1_21_0, e_1_22_0, e_1_23_0, e_1_24_0, e_1_25_0, e_1_26_0, e_1_27_0]
    · rw [if_neg q_0_0_0]
      by_cases q_1_2_0 : x = (1, 2, 0)
      · rw [if_pos q_1_2_0, q_1_2_0, hv_1_2_0]
      · rw [if_neg q_1_2_0]
        by_cases q_1_3_0 : x = (1, 3, 0)
        · rw [if_pos q_1_3_0, q_1_3_0, hv_1_3_0]
        · rw [if_neg q_1_3_0]
          by_cases q_1_5_0 : x = (1, 5, 0)
          · rw [if_pos q_1_5_0, q_1_5_0, hv_1_5_0]
          · rw [if_neg q_1_5_0]
            by_cases q_1_6_0 : x = (1, 6, 0)
            · rw [if_pos q_1_6_0, q_1_6_0, hv_1_6_0]
            · rw [if_neg q_1_6_0]
              by_cases q_1_7_0 : x = (1, 7, 0)
              · rw [if_pos q_1_7_0, q_1_7_0, hv_1_7_0]
              · rw [if_neg q_1_7_0]
                by_cases q_1_8_0 : x = (1, 8, 0)
                · rw [if_pos q_1_8_0, q_1_8_0, hv_1_8_0]
                · rw [if_neg q_1_8_0]
                  by_cases q_2_9_0 : x = (2, 9, 0)
                  · rw [if_pos q_2_9_0, q_2_9_0, hv_2_9_0]
                  · rw [if_neg q_2_9_0]
                    by_cases q_1_11_0 : x = (1, 11, 0)
                    · rw [if_pos q_1_11_0, q_1_11_0, hv_1_11_0]
                    · rw [if_neg q_1_11_0]
                      by_cases q_1_12_0 : x = (1, 12, 0)
                      · rw [if_pos q_1_12_0, q_1_12_0, hv_1_12_0]
                      · rw [if_neg q_1_12_0]
                        by_cases q_2_13_0 : x = (2, 13, 0)
                        · rw [if_pos q_2_13_0, q_2_13_0, hv_2_13_0]
                        · rw [if_neg q_2_13_0]
                          by_cases q_1_14_0 : x = (1, 14, 0)
                          · rw [if_pos q_1_14_0, q_1_14_0, hv_1_14_0]
                          · rw [if_neg q_1_14_0]
                            by_cases q_1_15_0 : x = (1, 15, 0)
                            · rw [if_pos q_1_15_0, q_1_15_0, hv_1_15_0]
                            · rw [if_neg q_1_15_0]
                              by_cases q_1_16_0 : x = (1, 16, 0)
                              · rw [if_pos q_1_16_0, q_1_16_0, hv_1_16_0]
                              · rw [if_neg q_1_16_0]
                                by_cases q_1_17_0 : x = (1, 17, 0)
                                · rw [if_pos q_1_17_0, q_1_17_0, hv_1_17_0]
                                · rw [if_neg q_1_17_0]
                                  by_cases q_1_18_0 : x = (1, 18, 0)
                                  · rw [if_pos q_1_18_0, q_1_18_0, hv_1_18_0]
                                  · rw [if_neg q_1_18_0]
                                    by_cases q_1_19_0 : x = (1, 19, 0)
                                    · rw [if_pos q_1_19_0, q_1_19_0, hv_1_19_0]
                                    · rw [if_neg q_1_19_0]
                                      by_cases q_1_20_0 : x = (1, 20, 0)
                                      · rw [if_pos q_1_20_0, q_1_20_0, hv_1_20_0]
                                      · rw [if_neg q_1_20_0]
                                        by_cases q_1_21_0 : x = (1, 21, 0)
                                        · rw [if_pos q_1_21_0, q_1_21_0, hv_1_21_0]
                                        · rw [if_neg q_1_21_0]
                                          by_cases q_1_22_0 : x = (1, 22, 0)
                                          · rw [if_pos q_1_22_0, q_1_22_0, hv_1_22_0]
                                          · rw [if_neg q_1_22_0]
                                            by_cases q_1_23_0 : x = (1, 23, 0)
                                            · rw [if_pos q_1_23_0, q_1_23_0, hv_1_23_0]
                                            · rw [if_neg q_1_23_0]
                                              by_cases q_1_24_0 : x = (1, 24, 0)
                                              · rw [if_pos q_1_24_0, q_1_24_0, hv_1_24_0]
                                              · rw [if_neg q_1_24_0]
                                                by_cases q_1_25_0 : x = (1, 25, 0)
                                                · rw [if_pos q_1_25_0, q_1_25_0, hv_1_25_0]
                                                · rw [if_neg q_1_25_0]
                                                  by_cases q_1_26_0 : x = (1, 26, 0)
                                                  · rw [if_pos q_1_26_0, q_1_26_0, hv_1_26_0]
                                                  · rw [if_neg q_1_26_0]
                                                    by_cases q_1_27_0 : x = (1, 27, 0)
                                                    · rw [if_pos q_1_27_0, q_1_27_0, hv_1_27_0]
                                                    · rw [if_neg q_1_27_0]
                                                      exact (hVo x ⟨q_0_0_0, q_1_2_0, q_1_3_0, q_1_5_0, q_1_6_0, q_1_7_0, q_1_8_0, q_2_9_0, q_1_11_0, q_1_12_0, q_2_13_0, q_1_14_0, q_1_15_0, q_1_16_0, q_1_17_0, q_1_18_0, q_1_19_0, q_1_20_0, q_1_21_0, q_1_22_0, q_1_23_0, q_1_24_0, q_1_25_0, q_1_26_0, q_1_27_0⟩).symm
