/-! the law's own scanned: it catches -/
def w_O (cy : Nat → ClassId) (bo : Nat) (w : Int64) (H : Heap) : Prop := H[bo]? = some (vp_cell (cy 5) (1, .inr (.inl (fun _ => w))))
def w_A (ns : Nat) (kk : Nat → Nat) (L : g_S → Nat) (bo : Nat) : Nat → Prop := fun q => g_A (x_dom ns kk) L q ∨ q = bo
def w_Pc (D : va_G) (cy : Nat → ClassId) (L : g_S → Nat) (ns : Nat) (kk : Nat → Nat) (σ : g_S → Nat → Int32) (sa bo : Nat) (w0 : Int64) (av : List Value) : Array Value → State → Prop := fun a U => a = av.toArray ∧ g_H D vwCl (x_dom ns kk) L (fun z => x_K cy L ns kk z (σ z)) U.heap ∧ w_O cy bo w0 U.heap ∧ va_K D vwCl (x_tys cy) U ∧ g_N U ∧ e_N (w_A ns kk L bo) sa U U.heap
def w_Qc (D : va_G) (cy : Nat → ClassId) (L : g_S → Nat) (ns : Nat) (kk : Nat → Nat) (σ : g_S → Nat → Int32) (bo : Nat) (v : Int32) (w1 : Int64) : Array Value → State → Outcome → State → Prop := fun _ st o t => o = .returned (some (.int v)) ∧ g_H D vwCl (x_dom ns kk) L (fun z => x_K cy L ns kk z (σ z)) t.heap ∧ w_O cy bo w1 t.heap ∧ va_F (w_A ns kk L bo) st t
theorem w_Pc.blind {D : va_G} {cy : Nat → ClassId} {L : g_S → Nat} {ns : Nat} {kk : Nat → Nat} {σ : g_S → Nat → Int32} {sa bo : Nat} {w0 : Int64} {av : List Value} : FrameBlind (w_Pc D cy L ns kk σ sa bo w0 av) := by
  intro a U g mk h
  obtain ⟨h1, h2, h3, h4, h5, h6⟩ := h
  exact ⟨h1, h2, h3, va_K.moved (u := U) (U := U.calling g mk a) (Vm.Alike.refl U.vm) h4, h5.same rfl, e_N.same (s := U) (U := U.calling g mk a) (H := U.heap) rfl h6⟩
theorem h_ofWH {l : Launch} {y : MethodName} {ws ws' : List Cond} {rm : Room} {Pc : Array Value → State → Prop} {Qc : Array Value → State → Outcome → State → Prop} {mc ms : Nat} {free : Addr → Prop} {cc : ByteArray} {maxL : Nat} {ret : Option FieldType} {hh : List (Nat × Nat × Nat × Nat)}
    (hy : plainName y.cls = true) (hw : ws = Cond.codeWith y cc maxL ret hh :: ws')
    (body : ∀ p e s m args below meth c s₁, BodyLoose p l y (headSpec ws rm) cc maxL ret e s m args below meth c s₁ → c.maxLocals = maxL → c.exceptionTable.toList = tableOf hh → Pc args s →
      W p l e (headSpec ws rm).room s m args below meth c s.heap [] 0 0 (MQ below Qc args s mc ms free) (entryFrame m args maxL)) : Met l y ws rm Pc Qc mc ms free := by
  refine MetFree.of_bodyS (code := cc) (maxLocals := maxL) (ret := ret) hy ?_ ?_
  · intro args s m h hn
    obtain ⟨m9, meth, c, hn9, h1, h2, h3, h4, -, h5, h6, -⟩ := Cond.codeWith_spec (atoms_spec (ws := ws) h _ (by rw [hw]; exact List.mem_cons_self))
    cases hn.symm.trans hn9
    exact ⟨meth, c, h1, h2, h3, h4, h5, h6⟩
  · intro p e s m args below meth c s₁ B hml hP _
    have hh0 : s₁.heap = s.heap := by rw [B.state]; rfl
    have ht := vx_table (x := y) B (atoms_spec (ws := ws) B.pre _ (by rw [hw]; exact List.mem_cons_self))
    obtain ⟨t, a1, o, b1, b2, b3⟩ := body p e s m args below meth c s₁ B hml ht hP s₁ hh0 (Stand.of_body B)
    exact ⟨t, o, a1, b1, b2, ⟨b3.1, b3.2⟩⟩
theorem e_contX {p : Program} {l : Launch} {e : Env} {R : Room} {s : State} {m : MethodId} {args : Array Value} {below : List Frame} {meth : Method} {c : Code} {H H0 : Heap} {locs : List Loc} {cells slots mc ms pc : Nat} {Q : State → Prop} {ls : Array Slot} {rest st0 : List Value} {D : va_G} {cl : List vw_C} {A : Nat → Prop} {dom : g_S → Prop} {L : g_S → Nat} {V : g_S → va_E}
    (hr : vx_Run p l e R s m args below meth c H locs cells slots mc ms (F0 m pc ls st0) rest (fun _ _ _ => False) (e_XC D cl dom L V) (g_A dom L)) (hS : va_S A H0 H locs) (hA : ∀ q, g_A dom L q → A q)
    (kk : ∀ (q : Addr) (ce : Cell) (H1 : Heap) (locs1 : List Loc), H1[q]? = some ce → ce.vm = .none → s.vm.findClass e_ai = some ce.cls → g_H D cl dom L V H1 → va_S A H0 H1 locs1 → H.size ≤ H1.size → (∀ z : Nat, z < H.size → ¬ g_A dom L z → H1[z]? = H[z]?) → vx_W p l e R s m args below meth c H1 locs1 (cells + mc) (slots + ms) Q (F0 m pc ls rest) q) : W p l e R s m args below meth c H locs cells slots Q (F0 m pc ls st0) := by
  intro T hT X
  rcases hr T hT X with ⟨v, st₀, t, T', L2, h0, X', hL, e1, e2, hF, st⟩ | ⟨q, st₀, t, T', L2, E, ce, h0, X', hL, e1, e2, ⟨hEe, hg, hz, hk⟩, hce, hcv, hcl, st⟩
  · exact hF.elim
  · subst hEe
    rw [h0] at hz hk
    obtain ⟨t2, a1, b1⟩ := kk q ce T'.heap (locs ++ L2) (by rw [e1]; exact hce) hcv hcl (by rw [e1]; exact hg)
      ⟨Nat.le_trans hS.1 (by rw [e1]; exact hz), fun q h1 h2 => by rw [e1, hk q (Nat.lt_of_lt_of_le h1 hS.1) (fun z => h2 (hA q z))]; exact hS.2.1 q h1 h2, fun q hq => by
        rcases List.mem_append.mp hq with h | h
        · exact hS.2.2 q h
        · exact hA _ (hL q h)⟩ (by rw [e1]; exact hz) (fun q h1 h2 => by rw [e1]; exact hk q h1 h2) T' rfl X'
    exact ⟨t2, st.trans a1, b1⟩
theorem e_cast : Cond.castable e_ai e_ai ∈ (vx_atS RX6 152 e_ai e_aiN).filter (fun w => !goodWord w) := by decide +kernel
def x_scP2 (σ : g_S → Nat → Int32) (ns : Nat) (u p : Int32) : Prop := (0 ≤ u.toInt ∧ u.toInt < (ns : Int)) ∧ (0 ≤ p.toInt ∧ p.toInt < (σ (17, (u).toNatClampNeg, 0) 2).toInt)
abbrev w_cS : Cond := .codeWith yL_scanned cL_scanned 6 (some .int) [(0, 12, 15, 13)]
set_option maxHeartbeats 4000000 in
theorem k_L_scannedG (l : Launch) (D : va_G) (cy : Nat → ClassId) (L : g_S → Nat) (ns : Nat) (kk : Nat → Nat) (σ : g_S → Nat → Int32) (sa bo : Nat) (w0 : Int64) (u p w : Int32) (hI : x_I ns kk σ) (hbo : ∀ x, x_dom ns kk x → L x ≠ bo) (hP : x_scP2 σ ns u p) : Met l yL_scanned (w_cS :: g_T) (h_R 9 1 6) (w_Pc D cy L ns kk σ sa bo w0 [.ref (L (0, 0, 0)), .int u, .int p, .int w, .ref bo]) (w_Qc D cy L ns kk σ bo 0 (x_scTell σ u.toNatClampNeg p w).toInt64) 1 6 (w_A ns kk L bo) := by
  refine h_ofWH (cc := cL_scanned) (maxL := 6) (ret := some .int) (hh := [(0, 12, 15, 13)]) (by decide) rfl ?_
  intro pg e s m args below meth c s₁ B hml htab hv
  obtain ⟨rfl, hG, hO, hK, hN, hE⟩ := hv
  have hl := lv_entry [.ref (L (0, 0, 0)), .int u, .int p, .int w, .ref bo] (n := 6) (Nat.le_of_ble_eq_true rfl)
  rw [lg_entry_eq]
  generalize (lg_sl [.ref (L (0, 0, 0)), .int u, .int p, .int w, .ref bo] ++ List.replicate (6 - (lg_sl [.ref (L (0, 0, 0)), .int u, .int p, .int w, .ref bo]).length) Slot.unset).toArray = ls at hl ⊢
  have hx := B.exec
  have hb := B.bytes
  have hr := B.returns
  have hlk := B.notSynchronized
  have hown : s.vm.findClass RL = some m.cls := findClass_of_methodNamed B.named
  have hts : ∀ w9 ∈ g_T, w9.before [.ref (L (0, 0, 0)), .int u, .int p, .int w, .ref bo].toArray s = true := fun w9 hw => atoms_spec (ws := w_cS :: g_T) B.pre w9 (List.mem_cons_of_mem _ hw)
  have hS : va_S (w_A ns kk L bo) s.heap s.heap [] := va_S.rf
  have hl : lv_has ls 6 [(0, .ref (L (0, 0, 0))), (1, .int u), (2, .int p), (3, .int w), (4, .ref bo)] := hl
  have hnb : ¬ g_A (x_dom ns kk) L bo := fun ⟨x, h1, h2⟩ => hbo x h1 h2
  show W pg l e (h_R 9 1 6) s m _ below meth c s.heap [] 0 0 _ (F0 m 0 ls [])
  refine lv_aload hx hb dL_scanned_0 (lv_at hl 4 rfl) ?_
  refine lv_iconst (v := 0) hx hb dL_scanned_2 (by decide) ?_
  refine lv_aload_n hx hb dL_scanned_3 rfl (lv_at hl 0 rfl) ?_
  refine lv_iload_n hx hb dL_scanned_4 rfl (lv_at hl 1 rfl) ?_
  refine lv_iload_n hx hb dL_scanned_5 rfl (lv_at hl 2 rfl) ?_
  refine lv_iload_n hx hb dL_scanned_6 rfl (lv_at hl 3 rfl) ?_
  refine g_cont0 (va_runV (As := [.int u, .int p, .int w]) (rest := [.int 0, .ref bo]) ⟨hx, hb, hml, hown, hts⟩ (c_X6_scannedG l D cy L ns kk σ u p w hI hP) (cwV 3 hts gV_L_7 rfl rfl rfl (by decide +kernel) ⟨Nat.le_of_ble_eq_true rfl, Nat.le_of_ble_eq_true rfl⟩) (g_preV hK hN hG (x := (0, 0, 0)) ⟨rfl, rfl⟩ (q := (RX6, TX6, 4)) (x_at_0 cy L ns kk 0 0 (σ (0, 0, 0))) rfl) rfl rfl hl.1 rfl (lv_room (Nat.le_of_ble_eq_true rfl)) dL_scanned_7 ⟨Nat.zero_le _, Nat.zero_le _⟩) hS (fun q h => Or.inl h) (fun H locs hG hS hz hk => ?_)
  have hO : w_O cy bo w0 H := (hk bo (Array.getElem?_eq_some_iff.mp hO).1 hnb).trans hO
  refine lv_i2l hx hb dL_scanned_10 rfl ?_
  refine W.last hx hb hO ((hK.2 5 _ rfl).1 1 (fun j => .long w0)) (fun q => by cases q) (by show ¬ ((0 : Int32) < 0 ∨ (arrV _ _ _).slots.size ≤ _); rw [arrV_size]; exact (by decide : ¬ ((0 : Int32) < 0 ∨ 1 ≤ Int32.toNatClampNeg 0))) rfl rfl dL_scanned_11 (fun H1 e1 z1 oq => ?_)
  have hG : g_H D vwCl (x_dom ns kk) L (fun z => x_K cy L ns kk z (σ z)) H1 := hG.kept (fun x hx => oq _ (hbo x hx))
  have hO : w_O cy bo (x_scTell σ u.toNatClampNeg p w).toInt64 H1 := by
    show H1[bo]? = _
    rw [e1, vp_cell_l, vp_cell_l, arrV_store]
    refine congrArg some (h_arrV fun j hj => ?_)
    rw [show j = 0 by omega]
    rfl
  have hS := hS.put (k := (0 : Int32).toNatClampNeg) z1 oq (Or.inr rfl)
  refine W.eq (g2 := F0 m 12 ls []) rfl ?_
  refine lv_goto (tgt := 19) hx hb dL_scanned_12 (by decide) ?_
  refine lv_iconst (v := 0) hx hb dL_scanned_19 (by decide) ?_
  refine W.widen (k := 1) (n := 6) (by omega) (by omega) ?_
  exact W.iret hx hb hr (fun t ht _ => ⟨rfl, by rw [ht]; exact hG, by rw [ht]; exact hO, hS.F ht⟩) hS.2.2 dL_scanned_20 hlk
set_option maxHeartbeats 4000000 in
theorem k_L_scannedT (l : Launch) (hl0 : l.stackTraces = false) (D : va_G) (cy : Nat → ClassId) (L : g_S → Nat) (ns : Nat) (kk : Nat → Nat) (σ : g_S → Nat → Int32) (sa bo : Nat) (w0 : Int64) (u p w : Int32) (hI : x_I ns kk σ) (hbo : ∀ x, x_dom ns kk x → L x ≠ bo) (hP : ¬ x_scP2 σ ns u p) : Met l yL_scanned (w_cS :: g_T) (h_R 9 1 6) (w_Pc D cy L ns kk σ sa bo w0 [.ref (L (0, 0, 0)), .int u, .int p, .int w, .ref bo]) (w_Qc D cy L ns kk σ bo 1 w0) 1 6 (w_A ns kk L bo) := by
  refine h_ofWH (cc := cL_scanned) (maxL := 6) (ret := some .int) (hh := [(0, 12, 15, 13)]) (by decide) rfl ?_
  intro pg e s m args below meth c s₁ B hml htab hv
  obtain ⟨rfl, hG, hO, hK, hN, hE⟩ := hv
  have hl := lv_entry [.ref (L (0, 0, 0)), .int u, .int p, .int w, .ref bo] (n := 6) (Nat.le_of_ble_eq_true rfl)
  rw [lg_entry_eq]
  generalize (lg_sl [.ref (L (0, 0, 0)), .int u, .int p, .int w, .ref bo] ++ List.replicate (6 - (lg_sl [.ref (L (0, 0, 0)), .int u, .int p, .int w, .ref bo]).length) Slot.unset).toArray = ls at hl ⊢
  have hx := B.exec
  have hb := B.bytes
  have hr := B.returns
  have hlk := B.notSynchronized
  have hown : s.vm.findClass RL = some m.cls := findClass_of_methodNamed B.named
  have hts : ∀ w9 ∈ g_T, w9.before [.ref (L (0, 0, 0)), .int u, .int p, .int w, .ref bo].toArray s = true := fun w9 hw => atoms_spec (ws := w_cS :: g_T) B.pre w9 (List.mem_cons_of_mem _ hw)
  have hS : va_S (w_A ns kk L bo) s.heap s.heap [] := va_S.rf
  have hl : lv_has ls 6 [(0, .ref (L (0, 0, 0))), (1, .int u), (2, .int p), (3, .int w), (4, .ref bo)] := hl
  have hnb : ¬ g_A (x_dom ns kk) L bo := fun ⟨x, h1, h2⟩ => hbo x h1 h2
  show W pg l e (h_R 9 1 6) s m _ below meth c s.heap [] 0 0 _ (F0 m 0 ls [])
  refine lv_aload hx hb dL_scanned_0 (lv_at hl 4 rfl) ?_
  refine lv_iconst (v := 0) hx hb dL_scanned_2 (by decide) ?_
  refine lv_aload_n hx hb dL_scanned_3 rfl (lv_at hl 0 rfl) ?_
  refine lv_iload_n hx hb dL_scanned_4 rfl (lv_at hl 1 rfl) ?_
  refine lv_iload_n hx hb dL_scanned_5 rfl (lv_at hl 2 rfl) ?_
  refine lv_iload_n hx hb dL_scanned_6 rfl (lv_at hl 3 rfl) ?_
  refine e_contX (vx_runV (As := [.int u, .int p, .int w]) (rest := [.int 0, .ref bo]) ⟨hx, hb, hml, hown, hts⟩ (c_X6_scannedT l hl0 D cy L ns kk σ sa u p w hI hP) (cwV 3 hts gV_L_7 rfl rfl rfl (by decide +kernel) ⟨Nat.le_of_ble_eq_true rfl, Nat.le_of_ble_eq_true rfl⟩) (e_preV hK hN (hE.narrow (fun q h => Or.inl h)) hG (x := (0, 0, 0)) ⟨rfl, rfl⟩ (q := (RX6, TX6, 4)) (x_at_0 cy L ns kk 0 0 (σ (0, 0, 0))) rfl) rfl rfl hl.1 rfl (lv_room (Nat.le_of_ble_eq_true rfl)) dL_scanned_7 ⟨Nat.le_of_ble_eq_true rfl, Nat.le_of_ble_eq_true rfl⟩) hS (fun q h => Or.inl h) (fun q ce H locs hce hcv hcl hG hS hz hk => ?_)
  have hO : w_O cy bo w0 H := (hk bo (Array.getElem?_eq_some_iff.mp hO).1 hnb).trans hO
  refine h_catch (x := ⟨0, 12, 15, 13⟩) (own := RL) (name := e_ai) (E := e_ai) hown htab (by decide) (by decide) (hts _ cl_L_13) ((hE.2.2.2 _ e_cast).use rfl) hce hcv hcl ?_
  refine lv_astore (lv' := [(5, .ref q), (0, .ref (L (0, 0, 0))), (1, .int u), (2, .int p), (3, .int w), (4, .ref bo)]) hx hb dL_scanned_15 hl (by decide) rfl (fun ls hl => ?_)
  refine lv_iconst (v := 1) hx hb dL_scanned_17 (by decide) ?_
  refine W.widen (k := 1) (n := 6) (by omega) (by omega) ?_
  exact W.iret hx hb hr (fun t ht _ => ⟨rfl, by rw [ht]; exact hG, by rw [ht]; exact hO, hS.F ht⟩) hS.2.2 dL_scanned_18 hlk
