/-! SearchWire.scanned: it answers, or it throws -/
def e_ai : String := "java/lang/ArrayIndexOutOfBoundsException"
def e_aiN : List String := ["java/lang/IndexOutOfBoundsException", "java/lang/RuntimeException", "java/lang/Exception"]
def e_dc (w : Cond) : Bool := match w with
  | .declares _ => true
  | .castable _ _ => true
  | _ => false
theorem e_dcs : ∀ w ∈ (vx_atS RX6 152 e_ai e_aiN).filter (fun w => !goodWord w), e_dc w = true := by decide +kernel
theorem e_all : ∀ w ∈ vx_atS RX6 152 e_ai e_aiN, w ∈ lw_tbl := by decide +kernel
theorem e_ot : ∀ w ∈ Cond.classLink RX6 148 e_ai :: Cond.initialized e_ai :: vx_atS RX6 152 e_ai e_aiN, vx_ot w = true := by decide +kernel
theorem e_ini : Cond.initialized e_ai ∈ g_T := List.mem_filter.mpr ⟨by decide +kernel, rfl⟩
theorem e_good : ∀ w ∈ (vx_atS RX6 152 e_ai e_aiN).filter goodWord, w ∈ g_T := fun w hw => List.mem_filter.mpr ⟨e_all w (List.mem_filter.mp hw).1, (List.mem_filter.mp hw).2⟩
theorem e_dc_ot {w : Cond} (h : e_dc w = true) : w.onTables = true := by
  cases w <;> first | rfl | cases h
theorem e_dc_warm {w : Cond} {s U : State} (h : e_dc w = true) (hW : s.WarmedH U.vm) (hZ : va_Nw w s) : va_Nw w U := by
  cases w <;> first | (cases h; done) | exact hZ.warmD hW | exact hZ.warmC hW | cases h
def e_W (U : State) : Prop := ∀ w ∈ (vx_atS RX6 152 e_ai e_aiN).filter (fun w => !goodWord w), va_Nw w U
def e_N (A : Nat → Prop) (sa : Nat) (U : State) (H : Heap) : Prop := vk_R RX6 150 "no such term was scanned" sa U ∧ vx_Zq Bundle.tN "UNASSIGNED_STACK" Bundle.steD A U H ∧ vx_Zq Bundle.tN "SUPPRESSED_SENTINEL" Bundle.listD A U H ∧ e_W U
theorem e_N.warm {A : Nat → Prop} {sa : Nat} {s U : State} {H : Heap} (hW : s.WarmedH U.vm) (h : e_N A sa s H) : e_N A sa U H := ⟨vk_R.warm hW h.1, vx_Zq.moved hW.alike h.2.1, vx_Zq.moved hW.alike h.2.2.1, fun w hw => e_dc_warm (e_dcs w hw) hW (h.2.2.2 w hw)⟩
theorem e_N.same {A : Nat → Prop} {sa : Nat} {s U : State} {H : Heap} (hv : s.vm = U.vm) (h : e_N A sa s H) : e_N A sa U H := by
  have hal : s.vm.Alike U.vm := by rw [hv]; exact Vm.Alike.refl _
  exact ⟨vk_R.same hv.symm h.1, vx_Zq.moved hal h.2.1, vx_Zq.moved hal h.2.2.1, fun w hw => (h.2.2.2 w hw).same (e_dc_ot (e_dcs w hw)) hv⟩
theorem e_N.kept {A : Nat → Prop} {sa : Nat} {U : State} {H H1 : Heap} (h : e_N A sa U H) (hq : ∀ a : Nat, a < H.size → ¬ A a → H1[a]? = H[a]?) : e_N A sa U H1 := ⟨h.1, vx_Zq.kept h.2.1 hq, vx_Zq.kept h.2.2.1 hq, h.2.2.2⟩
theorem e_N.narrow {A B : Nat → Prop} {sa : Nat} {U : State} {H : Heap} (h : e_N A sa U H) (hAB : ∀ q, B q → A q) : e_N B sa U H := ⟨h.1, vx_Zq.narrow h.2.1 hAB, vx_Zq.narrow h.2.2.1 hAB, h.2.2.2⟩
def e_Pc (D : va_G) (cl : List vw_C) (tys : List (ClassId × FieldType)) (dom : g_S → Prop) (L : g_S → Nat) (V : g_S → va_E) (sa : Nat) (av : List Value) : Array Value → State → Prop := fun a U => a = av.toArray ∧ g_H D cl dom L V U.heap ∧ va_K D cl tys U ∧ g_N U ∧ e_N (g_A dom L) sa U U.heap
theorem e_Pc.blind {D : va_G} {cl : List vw_C} {tys : List (ClassId × FieldType)} {dom : g_S → Prop} {L : g_S → Nat} {V : g_S → va_E} {sa : Nat} {av : List Value} : FrameBlind (e_Pc D cl tys dom L V sa av) := by
  intro a U g mk h
  obtain ⟨h1, h2, h3, h4, h5⟩ := h
  exact ⟨h1, h2, va_K.moved (u := U) (U := U.calling g mk a) (Vm.Alike.refl U.vm) h3, h4.same rfl, e_N.same (s := U) (U := U.calling g mk a) (H := U.heap) rfl h5⟩
theorem e_preV {s : State} {H : Heap} {D : va_G} {cl : List vw_C} {tys : List (ClassId × FieldType)} {dom : g_S → Prop} {L : g_S → Nat} {V : g_S → va_E} {sa : Nat} {As : List Value} {q : vw_C} (hK : va_K D cl tys s) (hN : g_N s) (hE : e_N (g_A dom L) sa s H) (hG : g_H D cl dom L V H) {x : g_S} (hx : dom x) {ci : Nat} {fs : List Value} (he : V x = .inr (ci, fs)) (hc : cl[ci]? = some q) : PreV s H q.1 (L x) (e_Pc D cl tys dom L V sa (.ref (L x) :: As)) As :=
  ⟨e_Pc.blind, va_recv hK (hG.one hx he) hc (q0 := 0) rfl, fun U hU hW => ⟨rfl, by rw [hU]; exact hG, va_K.moved hW.alike hK, hN.warm hW, by rw [hU]; exact hE.warm hW⟩⟩
/-- what a throw leaves -/
def e_XC (D : va_G) (cl : List vw_C) (dom : g_S → Prop) (L : g_S → Nat) (V : g_S → va_E) : String → State → State → Prop := fun E st t => E = e_ai ∧ g_H D cl dom L V t.heap ∧ va_F (g_A dom L) st t
set_option maxHeartbeats 4000000 in
set_option maxRecDepth 100000 in
theorem c_X6_scannedG (l : Launch) (D : va_G) (cy : Nat → ClassId) (L : g_S → Nat) (ns : Nat) (kk : Nat → Nat) (σ : g_S → Nat → Int32) (u p w : Int32) (hI : x_I ns kk σ) (hP : (0 ≤ u.toInt ∧ u.toInt < (ns : Int)) ∧ (0 ≤ p.toInt ∧ p.toInt < (σ (17, (u).toNatClampNeg, 0) 2).toInt)) : x_Met l D cy L ns kk yX6_scanned (.code yX6_scanned cX6_scanned 5 (some .int)) 2 σ [.ref (L (0, 0, 0)), .int (u), .int (p), .int (w)] (some (.int (x_scTell σ (u).toNatClampNeg p w))) σ := by
  refine g_Met.of (by decide) (Nat.le_of_ble_eq_true rfl) ?_
  intro pg e s m below meth c hx hb hr hlk hml hown hts hK hN H locs hG hS ls hl
  have hown : s.vm.findClass RX6 = some m.cls := hown
  have hl : lv_has ls 5 [(0, .ref (L (0, 0, 0))), (1, .int (u)), (2, .int (p)), (3, .int (w))] := hl
  obtain ⟨⟨h0, hn⟩, ⟨q0, q40⟩, ⟨hs, h8⟩, hkA, hz4, hzA, hcA, hpA, htA⟩ := hI
  refine lv_aload_n hx hb dX6_scanned_0 rfl (lv_at hl 0 rfl) ?_
  refine lv_iload_n hx hb dX6_scanned_1 rfl (lv_at hl 1 rfl) ?_
  refine g_cont (va_runV (As := [.int (u)]) (rest := []) ⟨hx, hb, hml, hown, hts⟩ (c_X6_everOpened l D cy L ns kk σ (u) hs h8) (cwV 1 hts gV_X6_106 rfl rfl rfl (by decide +kernel) ⟨Nat.le_of_ble_eq_true rfl, Nat.le_of_ble_eq_true rfl⟩) (g_preV hK hN hG (x := (0, 0, 0)) ⟨rfl, rfl⟩ (q := (RX6, TX6, 4)) (x_at_0 cy L ns kk (0) (0) (σ (0, 0, 0))) rfl) rfl rfl hl.1 rfl (lv_room (Nat.le_of_ble_eq_true rfl)) dX6_scanned_2 ⟨Nat.zero_le _, Nat.zero_le _⟩) hS (fun H locs hG hS => ?_)
  refine W.eq (g2 := F0 m 5 ls [(if 0 ≤ (u).toInt ∧ (u).toInt < (ns : Int) then .ref (L (11, (u).toNatClampNeg, 0)) else .null)]) rfl ?_
  by_cases c_2_1 : 0 ≤ (u).toInt ∧ (u).toInt < (ns : Int)
  · rw [if_pos c_2_1]
    refine lv_astore (lv' := [(4, .ref (L (11, (u).toNatClampNeg, 0))), (0, .ref (L (0, 0, 0))), (1, .int (u)), (2, .int (p)), (3, .int (w))]) hx hb dX6_scanned_5 hl (by decide) rfl (fun ls hl => ?_)
    refine lv_aload hx hb dX6_scanned_7 (lv_at hl 0 rfl) ?_
    refine lv_ifnull hx hb dX6_scanned_9 ?_
    refine lv_aload hx hb dX6_scanned_12 (lv_at hl 0 rfl) ?_
    refine g_cont (va_runV (As := []) (rest := []) ⟨hx, hb, hml, hown, hts⟩ (c_X5_scannedTerms l D cy L ns kk σ ((u).toNatClampNeg) (by rw [g_cl]; omega)) (cwV 0 hts gV_X6_134 rfl rfl rfl (by decide +kernel) ⟨Nat.le_of_ble_eq_true rfl, Nat.le_of_ble_eq_true rfl⟩) (g_preV hK hN hG (x := (11, (u).toNatClampNeg, 0)) ⟨(by rw [g_cl]; omega), rfl⟩ (q := (RX5, TX5, 7)) (x_at_11 cy L ns kk ((u).toNatClampNeg) (0) (σ (11, (u).toNatClampNeg, 0))) rfl) rfl rfl hl.1 rfl (lv_room (Nat.le_of_ble_eq_true rfl)) dX6_scanned_14 ⟨Nat.zero_le _, Nat.zero_le _⟩) hS (fun H locs hG hS => ?_)
    refine W.eq (g2 := F0 m 17 ls [.ref (L (17, (u).toNatClampNeg, 0))]) rfl ?_
    refine lv_iload_n hx hb dX6_scanned_17 rfl (lv_at hl 3 rfl) ?_
    refine g_cont (va_runV (As := [.int (p)]) (rest := []) ⟨hx, hb, hml, hown, hts⟩ (c_X4_has l D cy L ns kk σ ((u).toNatClampNeg) (by rw [g_cl]; omega) (p)) (cwV 1 hts gV_X6_147 rfl rfl rfl (by decide +kernel) ⟨Nat.le_of_ble_eq_true rfl, Nat.le_of_ble_eq_true rfl⟩) (g_preV hK hN hG (x := (17, (u).toNatClampNeg, 0)) ⟨(by rw [g_cl]; omega), rfl⟩ (q := (RX4, TX4, 3)) (x_at_17 cy L ns kk ((u).toNatClampNeg) (0) (σ (17, (u).toNatClampNeg, 0))) rfl) rfl rfl hl.1 rfl (lv_room (Nat.le_of_ble_eq_true rfl)) dX6_scanned_18 ⟨Nat.zero_le _, Nat.zero_le _⟩) hS (fun H locs hG hS => ?_)
    refine W.eq (g2 := F0 m 21 ls [.int (g_b (0 ≤ (p).toInt ∧ (p).toInt < (σ (17, (u).toNatClampNeg, 0) 2).toInt))]) rfl ?_
    refine kz_b_ne (tgt := 34) hx hb dX6_scanned_21 (by decide) (fun c_21_2 => ?_) (fun c_21_2 => ?_)
    · refine lv_aload hx hb dX6_scanned_34 (lv_at hl 0 rfl) ?_
      refine g_cont (va_runV (As := []) (rest := []) ⟨hx, hb, hml, hown, hts⟩ (c_X5_scannedTerms l D cy L ns kk σ ((u).toNatClampNeg) (by rw [g_cl]; omega)) (cwV 0 hts gV_X6_134 rfl rfl rfl (by decide +kernel) ⟨Nat.le_of_ble_eq_true rfl, Nat.le_of_ble_eq_true rfl⟩) (g_preV hK hN hG (x := (11, (u).toNatClampNeg, 0)) ⟨(by rw [g_cl]; omega), rfl⟩ (q := (RX5, TX5, 7)) (x_at_11 cy L ns kk ((u).toNatClampNeg) (0) (σ (11, (u).toNatClampNeg, 0))) rfl) rfl rfl hl.1 rfl (lv_room (Nat.le_of_ble_eq_true rfl)) dX6_scanned_36 ⟨Nat.zero_le _, Nat.zero_le _⟩) hS (fun H locs hG hS => ?_)
      refine W.eq (g2 := F0 m 39 ls [.ref (L (17, (u).toNatClampNeg, 0))]) rfl ?_
      refine lv_iload_n hx hb dX6_scanned_39 rfl (lv_at hl 3 rfl) ?_
      refine lv_iload_n hx hb dX6_scanned_40 rfl (lv_at hl 4 rfl) ?_
      refine g_cont (va_runV (As := [.int (p), .int (w)]) (rest := []) ⟨hx, hb, hml, hown, hts⟩ (c_X4_tell l D cy L ns kk σ ((u).toNatClampNeg) (by rw [g_cl]; omega) (p) (w) (htA _ (by rw [g_cl]; omega)).2) (cwV 2 hts gV_X6_155 rfl rfl rfl (by decide +kernel) ⟨Nat.le_of_ble_eq_true rfl, Nat.le_of_ble_eq_true rfl⟩) (g_preV hK hN hG (x := (17, (u).toNatClampNeg, 0)) ⟨(by rw [g_cl]; omega), rfl⟩ (q := (RX4, TX4, 3)) (x_at_17 cy L ns kk ((u).toNatClampNeg) (0) (σ (17, (u).toNatClampNeg, 0))) rfl) rfl rfl hl.1 rfl (lv_room (Nat.le_of_ble_eq_true rfl)) dX6_scanned_41 ⟨Nat.zero_le _, Nat.zero_le _⟩) hS (fun H locs hG hS => ?_)
      refine W.eq (g2 := F0 m 44 ls [.int (x_scTell σ ((u).toNatClampNeg) (p) (w))]) rfl ?_
      exact s_iret hx hb hr hlk hG hS dX6_scanned_44 rfl rfl
    · exfalso
      omega
  · rw [if_neg c_2_1]
    refine lv_astoreN (lv' := [(4, .null), (0, .ref (L (0, 0, 0))), (1, .int (u)), (2, .int (p)), (3, .int (w))]) hx hb dX6_scanned_5 hl (by decide) rfl (fun ls hl => ?_)
    refine lv_aloadN hx hb dX6_scanned_7 (lv_at hl 0 rfl) ?_
    refine lv_ifnullN (tgt := 24) hx hb dX6_scanned_9 (by decide) ?_
    exfalso
    omega
set_option maxHeartbeats 4000000 in
set_option maxRecDepth 100000 in
theorem c_X6_scannedT (l : Launch) (hl0 : l.stackTraces = false) (D : va_G) (cy : Nat → ClassId) (L : g_S → Nat) (ns : Nat) (kk : Nat → Nat) (σ : g_S → Nat → Int32) (sa : Nat) (u p w : Int32) (hI : x_I ns kk σ) (hP : ¬ ((0 ≤ u.toInt ∧ u.toInt < (ns : Int)) ∧ (0 ≤ p.toInt ∧ p.toInt < (σ (17, (u).toNatClampNeg, 0) 2).toInt))) : vx_Met l yX6_scanned (.code yX6_scanned cX6_scanned 5 (some .int) :: g_T) (h_R 7 1 6) (e_Pc D vwCl (x_tys cy) (x_dom ns kk) L (fun z => x_K cy L ns kk z (σ z)) sa [.ref (L (0, 0, 0)), .int (u), .int (p), .int (w)]) (fun _ _ _ _ => False) (e_XC D vwCl (x_dom ns kk) L (fun z => x_K cy L ns kk z (σ z))) 1 6 (g_A (x_dom ns kk) L) := by
  refine vx_ofW (cc := cX6_scanned) (maxL := 5) (ret := some .int) (by decide) rfl ?_
  intro pg e s m args below meth c s₁ B hml htab hv
  obtain ⟨rfl, hG, hK, hN, hE⟩ := hv
  have hl := lv_entry [.ref (L (0, 0, 0)), .int (u), .int (p), .int (w)] (n := 5) (Nat.le_of_ble_eq_true rfl)
  rw [lg_entry_eq]
  generalize (lg_sl [.ref (L (0, 0, 0)), .int (u), .int (p), .int (w)] ++ List.replicate (5 - (lg_sl [.ref (L (0, 0, 0)), .int (u), .int (p), .int (w)]).length) Slot.unset).toArray = ls at hl ⊢
  have hx := B.exec
  have hb := B.bytes
  have hr := B.returns
  have hlk := B.notSynchronized
  have hown : s.vm.findClass RX6 = some m.cls := findClass_of_methodNamed B.named
  have hts : ∀ w0 ∈ g_T, w0.before [.ref (L (0, 0, 0)), .int (u), .int (p), .int (w)].toArray s = true := fun w hw => atoms_spec (ws := .code yX6_scanned cX6_scanned 5 (some .int) :: g_T) B.pre w (List.mem_cons_of_mem _ hw)
  have hS : va_S (g_A (x_dom ns kk) L) s.heap s.heap [] := va_S.rf
  have hl : lv_has ls 5 [(0, .ref (L (0, 0, 0))), (1, .int (u)), (2, .int (p)), (3, .int (w))] := hl
  show W pg l e (h_R 7 1 6) s m _ below meth c s.heap [] 0 0 _ (F0 m 0 ls [])
  obtain ⟨⟨h0, hn⟩, ⟨q0, q40⟩, ⟨hs, h8⟩, hkA, hz4, hzA, hcA, hpA, htA⟩ := hI
  refine lv_aload_n hx hb dX6_scanned_0 rfl (lv_at hl 0 rfl) ?_
  refine lv_iload_n hx hb dX6_scanned_1 rfl (lv_at hl 1 rfl) ?_
  refine g_cont (va_runV (As := [.int (u)]) (rest := []) ⟨hx, hb, hml, hown, hts⟩ (c_X6_everOpened l D cy L ns kk σ (u) hs h8) (cwV 1 hts gV_X6_106 rfl rfl rfl (by decide +kernel) ⟨Nat.le_of_ble_eq_true rfl, Nat.le_of_ble_eq_true rfl⟩) (g_preV hK hN hG (x := (0, 0, 0)) ⟨rfl, rfl⟩ (q := (RX6, TX6, 4)) (x_at_0 cy L ns kk (0) (0) (σ (0, 0, 0))) rfl) rfl rfl hl.1 rfl (lv_room (Nat.le_of_ble_eq_true rfl)) dX6_scanned_2 ⟨Nat.zero_le _, Nat.zero_le _⟩) hS (fun H locs hG hS => ?_)
  refine W.eq (g2 := F0 m 5 ls [(if 0 ≤ (u).toInt ∧ (u).toInt < (ns : Int) then .ref (L (11, (u).toNatClampNeg, 0)) else .null)]) rfl ?_
  by_cases c_2_1 : 0 ≤ (u).toInt ∧ (u).toInt < (ns : Int)
  · rw [if_pos c_2_1]
    refine lv_astore (lv' := [(4, .ref (L (11, (u).toNatClampNeg, 0))), (0, .ref (L (0, 0, 0))), (1, .int (u)), (2, .int (p)), (3, .int (w))]) hx hb dX6_scanned_5 hl (by decide) rfl (fun ls hl => ?_)
    refine lv_aload hx hb dX6_scanned_7 (lv_at hl 0 rfl) ?_
    refine lv_ifnull hx hb dX6_scanned_9 ?_
    refine lv_aload hx hb dX6_scanned_12 (lv_at hl 0 rfl) ?_
    refine g_cont (va_runV (As := []) (rest := []) ⟨hx, hb, hml, hown, hts⟩ (c_X5_scannedTerms l D cy L ns kk σ ((u).toNatClampNeg) (by rw [g_cl]; omega)) (cwV 0 hts gV_X6_134 rfl rfl rfl (by decide +kernel) ⟨Nat.le_of_ble_eq_true rfl, Nat.le_of_ble_eq_true rfl⟩) (g_preV hK hN hG (x := (11, (u).toNatClampNeg, 0)) ⟨(by rw [g_cl]; omega), rfl⟩ (q := (RX5, TX5, 7)) (x_at_11 cy L ns kk ((u).toNatClampNeg) (0) (σ (11, (u).toNatClampNeg, 0))) rfl) rfl rfl hl.1 rfl (lv_room (Nat.le_of_ble_eq_true rfl)) dX6_scanned_14 ⟨Nat.zero_le _, Nat.zero_le _⟩) hS (fun H locs hG hS => ?_)
    refine W.eq (g2 := F0 m 17 ls [.ref (L (17, (u).toNatClampNeg, 0))]) rfl ?_
    refine lv_iload_n hx hb dX6_scanned_17 rfl (lv_at hl 3 rfl) ?_
    refine g_cont (va_runV (As := [.int (p)]) (rest := []) ⟨hx, hb, hml, hown, hts⟩ (c_X4_has l D cy L ns kk σ ((u).toNatClampNeg) (by rw [g_cl]; omega) (p)) (cwV 1 hts gV_X6_147 rfl rfl rfl (by decide +kernel) ⟨Nat.le_of_ble_eq_true rfl, Nat.le_of_ble_eq_true rfl⟩) (g_preV hK hN hG (x := (17, (u).toNatClampNeg, 0)) ⟨(by rw [g_cl]; omega), rfl⟩ (q := (RX4, TX4, 3)) (x_at_17 cy L ns kk ((u).toNatClampNeg) (0) (σ (17, (u).toNatClampNeg, 0))) rfl) rfl rfl hl.1 rfl (lv_room (Nat.le_of_ble_eq_true rfl)) dX6_scanned_18 ⟨Nat.zero_le _, Nat.zero_le _⟩) hS (fun H locs hG hS => ?_)
    refine W.eq (g2 := F0 m 21 ls [.int (g_b (0 ≤ (p).toInt ∧ (p).toInt < (σ (17, (u).toNatClampNeg, 0) 2).toInt))]) rfl ?_
    refine kz_b_ne (tgt := 34) hx hb dX6_scanned_21 (by decide) (fun c_21_2 => ?_) (fun c_21_2 => ?_)
    · exfalso
      omega
    · refine vx_throwS (own := RX6) (cls := e_ai) (text := "no such term was scanned") (names := e_aiN) (A := g_A (x_dom ns kk) L) hx hb hl0 hown (by decide) (by decide) (hts _ cl_X6_148) (hts _ e_ini) hE.1 (vx_hat (fun w hw => hts _ (e_good w hw)) (fun w hw => hw) (fun w hw => (hE.2.2.2 w hw).use (e_dc_ot (e_dcs w hw)))) e_ot hE.2.1 hE.2.2.1 hS (by rw [hml]; exact hl.1) dX6_scanned_24 dX6_scanned_27 dX6_scanned_28 dX6_scanned_30 dX6_scanned_33 (fun x h => (htab x h).elim) (Nat.le_of_ble_eq_true rfl) (Nat.le_of_ble_eq_true rfl) (Nat.le_of_ble_eq_true rfl) (Nat.le_of_ble_eq_true rfl) hlk (fun t h1 h2 h3 => ⟨rfl, hG.kept (fun x hx => h3 _ (hG.lt hx)), Nat.le_trans hS.1 h2, fun q hq hn => (h3 q (Nat.lt_of_lt_of_le hq hS.1)).trans (hS.2.1 q hq hn)⟩) hS.2.2 (Nat.le_refl _) (Nat.le_refl _)
  · rw [if_neg c_2_1]
    refine lv_astoreN (lv' := [(4, .null), (0, .ref (L (0, 0, 0))), (1, .int (u)), (2, .int (p)), (3, .int (w))]) hx hb dX6_scanned_5 hl (by decide) rfl (fun ls hl => ?_)
    refine lv_aloadN hx hb dX6_scanned_7 (lv_at hl 0 rfl) ?_
    refine lv_ifnullN (tgt := 24) hx hb dX6_scanned_9 (by decide) ?_
    refine vx_throwS (own := RX6) (cls := e_ai) (text := "no such term was scanned") (names := e_aiN) (A := g_A (x_dom ns kk) L) hx hb hl0 hown (by decide) (by decide) (hts _ cl_X6_148) (hts _ e_ini) hE.1 (vx_hat (fun w hw => hts _ (e_good w hw)) (fun w hw => hw) (fun w hw => (hE.2.2.2 w hw).use (e_dc_ot (e_dcs w hw)))) e_ot hE.2.1 hE.2.2.1 hS (by rw [hml]; exact hl.1) dX6_scanned_24 dX6_scanned_27 dX6_scanned_28 dX6_scanned_30 dX6_scanned_33 (fun x h => (htab x h).elim) (Nat.le_of_ble_eq_true rfl) (Nat.le_of_ble_eq_true rfl) (Nat.le_of_ble_eq_true rfl) (Nat.le_of_ble_eq_true rfl) hlk (fun t h1 h2 h3 => ⟨rfl, hG.kept (fun x hx => h3 _ (hG.lt hx)), Nat.le_trans hS.1 h2, fun q hq hn => (h3 q (Nat.lt_of_lt_of_le hq hS.1)).trans (hS.2.1 q hq hn)⟩) hS.2.2 (Nat.le_refl _) (Nat.le_refl _)
