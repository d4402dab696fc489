/-! worlds that grow: constructors -/
def g_add (dom : g_S → Prop) (x : g_S) : g_S → Prop := fun y => dom y ∨ y = x
theorem g_set_self {V : g_S → va_E} {x : g_S} {e : va_E} : g_set V x e x = e := by simp [g_set]
theorem g_set_ne {V : g_S → va_E} {x y : g_S} {e : va_E} (h : y ≠ x) : g_set V x e y = V y := by simp [g_set, h]
theorem g_H.grow {D : va_G} {cl : List vw_C} {dom : g_S → Prop} {L : g_S → Nat} {V : g_S → va_E} {H H1 : Heap} (h : g_H D cl dom L V H) {x : g_S} (hx : ¬ dom x) {e : va_E} (he : va_at D cl (H.size, e) H1) (o1 : ∀ q : Nat, q < H.size → H1[q]? = H[q]?) :
    ∃ L' : g_S → Nat, (∀ y, dom y → L' y = L y) ∧ L' x = H.size ∧ g_H D cl (g_add dom x) L' (g_set V x e) H1 := by
  refine ⟨fun y => if y = x then H.size else L y, fun y hy => if_neg (fun (q : y = x) => hx (by rw [← q]; exact hy)), if_pos rfl, fun y hy => ?_, fun y z hy hz hyz => ?_⟩
  · by_cases hyx : y = x
    · subst hyx
      simp only [if_true, g_set_self]
      exact he
    · have hd : dom y := hy.resolve_right hyx
      simp only [if_neg hyx, g_set_ne hyx]
      exact (h.1 y hd).kept (o1 _ (h.lt hd))
  · by_cases hyx : y = x
    · by_cases hzx : z = x
      · rw [hyx, hzx]
      · have hd : dom z := hz.resolve_right hzx
        have := h.lt hd
        simp only [if_pos hyx, if_neg hzx] at hyz
        omega
    · have hd : dom y := hy.resolve_right hyx
      by_cases hzx : z = x
      · have := h.lt hd
        simp only [if_neg hyx, if_pos hzx] at hyz
        omega
      · simp only [if_neg hyx, if_neg hzx] at hyz
        exact h.2 y z hd (hz.resolve_right hzx) hyz
theorem g_H.congr {D : va_G} {cl : List vw_C} {dom dom' : g_S → Prop} {L : g_S → Nat} {V V' : g_S → va_E} {H : Heap} (h : g_H D cl dom L V H) (hd : ∀ x, dom' x → dom x) (hV : ∀ x, dom' x → V' x = V x) : g_H D cl dom' L V' H := ⟨fun x hx => by rw [hV x hx]; exact h.1 x (hd x hx), fun x y hx hy => h.2 x y (hd x hx) (hd y hy)⟩
theorem h_aoa {u U : State} (hvm : u.vm.Alike U.vm) (h : (Cond.arrayOver (.array .int)).before #[] u = true) : (Cond.arrayOver (.array .int)).before #[] U = true := by
  obtain ⟨comp, c, k, h1, h2, h3, h4, h5⟩ := arrayOverA_spec h
  obtain ⟨k', hk', he⟩ := hvm.2.2 _ _ h3
  have hi : (U.vm.classes.findIdx? fun (x : Class) => match x.kind with | .array component _ => component == comp | _ => false) = some c := by
    rw [hvm.findIdx?_eq _ (fun _ => rfl)]
    exact h2
  have hkind : k'.kind = .array comp (.array .int) := by rw [he]; exact h4
  have f1 : U.vm.findClass (FieldType.array .int).toString = some comp := by rw [hvm.findClass]; exact h1
  have f2 : U.vm.findClass ("[" ++ (FieldType.array .int).toString) = some c := by rw [hvm.findClass]; exact h5
  unfold Cond.before Cond.holds
  simp only [Cond.value]
  rw [f1, Option.bind_some]
  refine (congrArg (fun o : Option Nat => (o.bind (fun c => (U.vm.classes[c]?).map fun (k : Class) => match k.kind with | .array _ ty => decide (ty = FieldType.array .int) && decide (U.vm.findClass ("[" ++ (FieldType.array .int).toString) = some c) | _ => false) == some true)) hi).trans ?_
  simp [hk', hkind, f2]
def h_N (U : State) : Prop := g_N U ∧ ((va_Nw (.methodLinkNest RX6 9 yX2_init RX6) U ∧ va_Nw (.methodLinkNest RX6 18 yX1_init RX6) U) ∧ (va_Nw (.methodLinkNest RX5 31 yX3_init RX6) U ∧ va_Nw (.methodLinkNest RX5 43 yX4_init RX6) U)) ∧ (va_AO "SearchWire$Session" U ∧ va_AO "SearchWire$ResultSet" U ∧ (Cond.arrayOver (.array .int)).before #[] U = true)
theorem h_N.warm {s U : State} (hW : s.WarmedH U.vm) (h : h_N s) : h_N U := ⟨h.1.warm hW, ⟨⟨h.2.1.1.1.warmM hW, h.2.1.1.2.warmM hW⟩, ⟨h.2.1.2.1.warmM hW, h.2.1.2.2.warmM hW⟩⟩, ⟨h.2.2.1.moved hW.alike, h.2.2.2.1.moved hW.alike, h_aoa hW.alike h.2.2.2.2⟩⟩
theorem h_N.same {s U : State} (hv : s.vm = U.vm) (h : h_N s) : h_N U := by
  have hal : s.vm.Alike U.vm := by rw [hv]; exact Vm.Alike.refl _
  exact ⟨h.1.same hv, ⟨⟨h.2.1.1.1.same rfl hv, h.2.1.1.2.same rfl hv⟩, ⟨h.2.1.2.1.same rfl hv, h.2.1.2.2.same rfl hv⟩⟩, ⟨h.2.2.1.moved hal, h.2.2.2.1.moved hal, h_aoa hal h.2.2.2.2⟩⟩
/-- a constructor's start: any world; its end: the world has grown, what was there lies where it lay -/
def h_Pc (D : va_G) (cl : List vw_C) (tys : List (ClassId × FieldType)) (dom : g_S → Prop) (L : g_S → Nat) (V : g_S → va_E) (sz : Nat) (av : List Value) : Array Value → State → Prop := fun a U => a = av.toArray ∧ U.heap.size = sz ∧ g_H D cl dom L V U.heap ∧ va_K D cl tys U ∧ h_N U
def h_Qc (D : va_G) (cl : List vw_C) (dom : g_S → Prop) (L : g_S → Nat) (dom' : g_S → Prop) (V' : (g_S → Nat) → g_S → va_E) (A : Nat → Prop) (v : Option Value) : Array Value → State → Outcome → State → Prop := fun _ st oc t => oc = .returned v ∧ (∃ L' : g_S → Nat, (∀ y, dom y → L' y = L y) ∧ (∀ y, dom' y → dom y ∨ st.heap.size ≤ L' y) ∧ g_H D cl dom' L' (V' L') t.heap) ∧ va_F A st t
def h_R (k mc ms : Nat) : Room := { frames := k, cells := mc, slots := ms, locals := 40 * k }
def h_A (a sz : Nat) : Nat → Prop := fun q => q = a ∨ sz ≤ q
theorem h_Pc.blind {D : va_G} {cl : List vw_C} {tys : List (ClassId × FieldType)} {dom : g_S → Prop} {L : g_S → Nat} {V : g_S → va_E} {sz : Nat} {av : List Value} : FrameBlind (h_Pc D cl tys dom L V sz av) := by
  intro a U g mk h
  obtain ⟨h1, h0, h2, h3, h4⟩ := h
  exact ⟨h1, h0, h2, va_K.moved (u := U) (U := U.calling g mk a) (Vm.Alike.refl U.vm) h3, h4.same rfl⟩
section HB
variable {p : Program} {l : Launch} {e : Env} {R : Room} {s : State} {m : MethodId} {args : Array Value} {below : List Frame} {meth : Method} {c : Code} {H : Heap} {locs : List Loc} {cells slots : Nat} {Q : State → Prop}
variable {cc : ByteArray} {pc : Nat} {ls : Array Slot} {rest st0 : List Value} {D : va_G} {cl : List vw_C} {A : Nat → Prop} {tys : List (ClassId × FieldType)} {H0 : Heap}
variable {dom dom' : g_S → Prop} {L : g_S → Nat} {V : g_S → va_E} {V' : (g_S → Nat) → g_S → va_E}
theorem h_pre {As : List Value} (hK : va_K D cl tys s) (hN : h_N s) (hG : g_H D cl dom L V H) : PreS s H (h_Pc D cl tys dom L V H.size As) As :=
  ⟨h_Pc.blind, fun U hU hW => ⟨rfl, by rw [hU], by rw [hU]; exact hG, va_K.moved hW.alike hK, hN.warm hW⟩⟩
/-- behind a constructor's call -/
theorem h_cont {mc ms : Nat} {v : Option Value} {a : Array Value} {A1 : Nat → Prop} (hr : va_Run p l e R s m args below meth c H locs cells slots mc ms (F0 m pc ls st0) rest (h_Qc D cl dom L dom' V' A1 v a) A1) (hS : va_S A H0 H locs) (hA : ∀ q, A1 q → A q)
    (kk : ∀ (L' : g_S → Nat) (H1 : Heap) (locs1 : List Loc), (∀ y, dom y → L' y = L y) → (∀ y, dom' y → dom y ∨ H.size ≤ L' y) → g_H D cl dom' L' (V' L') H1 → va_S A H0 H1 locs1 → H.size ≤ H1.size → (∀ q : Nat, q < H.size → ¬ A1 q → H1[q]? = H[q]?) → W p l e R s m args below meth c H1 locs1 (cells + mc) (slots + ms) Q (F0 m (pc + 3) ls (v.toList ++ rest))) : W p l e R s m args below meth c H locs cells slots Q (F0 m pc ls st0) := by
  intro T hT X
  obtain ⟨v2, st₀, t, T', L2, h0, X', hL, e1, e2, ⟨hv, ⟨L', hL', hnw, hg⟩, hz, hk⟩, st⟩ := hr T hT X
  cases hv
  rw [h0] at hz hk hnw
  obtain ⟨t2, a1, b1⟩ := kk L' T'.heap (locs ++ L2) hL' hnw (by rw [e1]; exact hg)
    ⟨Nat.le_trans hS.1 (by rw [e1]; exact hz), fun q h1 h2 => by rw [e1, hk q (Nat.lt_of_lt_of_le h1 hS.1) (fun z => h2 (hA q z))]; exact hS.2.1 q h1 h2, fun q hq => by
      rcases List.mem_append.mp hq with h | h
      · exact hS.2.2 q h
      · exact hA _ (hL q h)⟩ (by rw [e1]; exact hz) (fun q h1 h2 => by rw [e1]; exact hk q h1 h2) T' rfl X'
  exact ⟨t2, st t2 a1, b1⟩
theorem h_newo (hexec : p.tables.exec = Jvm.exec) (hb : c.code = cc) {own C : String} {T : u_T} {N ci index : Nat} {Ts : List Cond} (hts : ∀ w ∈ Ts, w.before args s = true) (hin : ∀ w ∈ u_ws C T N, w ∈ Ts) {ty : Nat → FieldType} (hty : ∀ k, k < N → parseFieldDescriptor (T k).2.2.1 = some (ty k)) (hown : s.vm.findClass own = some m.cls) (hcl : Cond.classLink own index C ∈ Ts) (hinst : Cond.instantiable C N ∈ Ts) (hini : Cond.initialized C ∈ Ts)
    (hK : va_K D cl tys s) (hG : g_H D cl dom L V H) (hS : va_S A H0 H locs) (x : g_S) (hx : ¬ dom x) (hc : cl[ci]? = some (C, T, N)) {fs : List Value} (hfs : ∀ j, j < N → defaultValue (ty j) = vp_V fs j) (hcells : cells + 1 ≤ R.cells) (hslots : slots + N ≤ R.slots) (hdg : decode cc pc = .ok (.new index, 3))
    (kk : ∀ (L' : g_S → Nat) (a : Nat) (H1 : Heap), (∀ y, dom y → L' y = L y) → L' x = a → H0.size ≤ a → g_H D cl (g_add dom x) L' (g_set V x (.inr (ci, fs))) H1 → va_S A H0 H1 locs → H.size ≤ a → (∀ q : Nat, q < H.size → H1[q]? = H[q]?) → W p l e R s m args below meth c H1 locs (cells + 1) (slots + N) Q (F0 m (pc + 3) ls (.ref a :: rest))) : W p l e R s m args below meth c H locs cells slots Q (F0 m pc ls rest) := by
  have hKn := hK.1 ci _ hc
  refine W.newcK hexec hb hown (hts _ hcl) (hts _ hinst) (hts _ hini) rfl hdg hcells hslots hKn.2.1 rfl fun H1 kC hkC e1 z1 o1 => ?_
  obtain ⟨L', h1, h2, h3⟩ := hG.grow hx (e := .inr (ci, fs)) ⟨_, hc, (u_born ty hts hin hKn hkC e1 hty).to hfs⟩ o1
  exact kk L' H.size H1 h1 h2 hS.1 h3 ⟨Nat.le_trans hS.1 (by omega), fun x h1 h2 => (o1 x (Nat.lt_of_lt_of_le h1 hS.1)).trans (hS.2.1 x h1 h2), hS.2.2⟩ (Nat.le_refl _) o1
theorem h_newa (hexec : p.tables.exec = Jvm.exec) (hb : c.code = cc) {atype : ArrayType} (harr : (Cond.arrayClass (newarray.typeOf atype)).before args s = true) {ty : FieldType} (hty : newarray.typeOf atype = ty) (hnr : ∀ C, ty ≠ .object C) (hK : va_K D cl tys s) (t0 : Nat) {cA : ClassId} (ht : tys[t0]? = some (cA, ty)) (hG : g_H D cl dom L V H) (hS : va_S A H0 H locs) (x : g_S) (hx : ¬ dom x)
    {n : Int32} {N' : Nat} {a0 : vp_A} (ha : vp_cell cA a0 = arrV cA N' (fun _ => defaultValue ty)) (hn : ¬ n < 0) (hN : n.toNatClampNeg = N') (hbytes : N' * componentBytes ty ≤ 536870912) (hcells : cells + 1 ≤ R.cells) (hslots : slots + N' ≤ R.slots) (hdg : decode cc pc = .ok (.newarray atype, 2))
    (kk : ∀ (L' : g_S → Nat) (a : Nat) (H1 : Heap), (∀ y, dom y → L' y = L y) → L' x = a → H0.size ≤ a → g_H D cl (g_add dom x) L' (g_set V x (.inl (cA, a0))) H1 → va_S A H0 H1 locs → H.size ≤ a → (∀ q : Nat, q < H.size → H1[q]? = H[q]?) → W p l e R s m args below meth c H1 locs (cells + 1) (slots + N') Q (F0 m (pc + 2) ls (.ref a :: rest))) : W p l e R s m args below meth c H locs cells slots Q (F0 m pc ls (.int n :: rest)) := by
  subst hty
  refine va_newaK hexec hb harr rfl hdg rfl hn hN hbytes hcells hslots rfl fun H1 cB e1 z1 o1 hAr hNm => ?_
  have hcB : cB = cA := by
    have h2 := (hK.2 t0 _ ht).2
    have h3 : s.vm.findClass ("[" ++ (newarray.typeOf atype).toString) = some cA := by
      cases atype <;> exact h2
    exact Option.some.inj (hNm.symm.trans h3)
  subst hcB
  obtain ⟨L', h1, h2, h3⟩ := hG.grow hx (e := .inl (cB, a0)) (by show H1[H.size]? = some (vp_cell _ _); rw [ha]; exact e1) o1
  exact kk L' H.size H1 h1 h2 hS.1 h3 ⟨Nat.le_trans hS.1 (by omega), fun x h1 h2 => (o1 x (Nat.lt_of_lt_of_le h1 hS.1)).trans (hS.2.1 x h1 h2), hS.2.2⟩ (Nat.le_refl _) o1
theorem h_newq (hexec : p.tables.exec = Jvm.exec) (hb : c.code = cc) {own C : String} {index : Nat} (hown : s.vm.findClass own = some m.cls) (hclink : (Cond.classLink own index C).before args s = true) (hover : va_AO C s) (hK : va_K D cl tys s) (t0 : Nat) {cA : ClassId} (ht : tys[t0]? = some (cA, .object C)) (hG : g_H D cl dom L V H) (hS : va_S A H0 H locs) (x : g_S) (hx : ¬ dom x)
    {n : Int32} {N' : Nat} (hn : ¬ n < 0) (hN : n.toNatClampNeg = N') (hbytes : N' * 4 ≤ 536870912) (hcells : cells + 1 ≤ R.cells) (hslots : slots + N' ≤ R.slots) (hdg : decode cc pc = .ok (.anewarray index, 3))
    (kk : ∀ (L' : g_S → Nat) (a : Nat) (H1 : Heap), (∀ y, dom y → L' y = L y) → L' x = a → H0.size ≤ a → g_H D cl (g_add dom x) L' (g_set V x (.inl (cA, N', .inr (.inr (.inr (.inr (fun _ => none))))))) H1 → va_S A H0 H1 locs → H.size ≤ a → (∀ q : Nat, q < H.size → H1[q]? = H[q]?) → W p l e R s m args below meth c H1 locs (cells + 1) (slots + N') Q (F0 m (pc + 3) ls (.ref a :: rest))) : W p l e R s m args below meth c H locs cells slots Q (F0 m pc ls (.int n :: rest)) := by
  subst hN
  refine W.anew hexec hb hown hclink (va_AO.use hover) rfl hdg rfl hn hbytes hcells hslots fun cB kA comp f1 f2 f3 f4 => ?_
  have hcB : cB = cA := by
    obtain ⟨_, _, _, _, _, g4⟩ := (hK.2 t0 _ ht).2
    exact Option.some.inj (f1.symm.trans g4)
  subst hcB
  generalize hH1 : H.push ({ cls := cB, slots := Array.replicate n.toNatClampNeg .null, vm := .none } : Cell) = H1
  have z1 : H1.size = H.size + 1 := by rw [← hH1, Array.size_push]
  have e1 : H1[H.size]? = some (arrV cB n.toNatClampNeg (fun _ => .null)) := by rw [← hH1, Array.getElem?_push_size, ← arrV_new]
  have o1 : ∀ q : Nat, q < H.size → H1[q]? = H[q]? := fun q hq => by rw [← hH1, Array.getElem?_push, if_neg (Nat.ne_of_lt hq)]
  obtain ⟨L', h1, h2, h3⟩ := hG.grow hx (e := .inl (cB, n.toNatClampNeg, .inr (.inr (.inr (.inr (fun _ => none)))))) (by show H1[H.size]? = some (vp_cell _ _); rw [vp_cell_q]; exact e1) o1
  exact kk L' H.size H1 h1 h2 hS.1 h3 ⟨Nat.le_trans hS.1 (by omega), fun x h1 h2 => (o1 x (Nat.lt_of_lt_of_le h1 hS.1)).trans (hS.2.1 x h1 h2), hS.2.2⟩ (Nat.le_refl _) o1
theorem h_get (hexec : p.tables.exec = Jvm.exec) (hb : c.code = cc) {own C : String} {T : u_T} {N ci index : Nat} {Ts : List Cond} (hts : ∀ w ∈ Ts, w.before args s = true) (hin : ∀ w ∈ u_ws C T N, w ∈ Ts) (hown : s.vm.findClass own = some m.cls) (hK : va_K D cl tys s) (hG : g_H D cl dom L V H) (x : g_S) (hx : dom x) {a : Nat} (hLa : L x = a) {fs : List Value} (he : V x = .inr (ci, fs)) (hc : cl[ci]? = some (C, T, N)) (k : Nat) (hk : k < N) (hlink : Cond.fieldLink own index (T k).1 (T k).2.1 (T k).2.2.1 ∈ Ts) {v : Value} (hv : fs[k]? = some v) (hdg : decode cc pc = .ok (.getfield index, 3))
    (kk : W p l e R s m args below meth c H locs cells slots Q (F0 m (pc + 3) ls (v :: rest))) : W p l e R s m args below meth c H locs cells slots Q (F0 m pc ls (.ref a :: rest)) := by
  subst hLa
  exact g_get hexec hb hts hin hown hK hG x hx he hc k hk hlink hv hdg kk
theorem h_put (hexec : p.tables.exec = Jvm.exec) (hb : c.code = cc) {own C : String} {T : u_T} {N ci index : Nat} {Ts : List Cond} (hts : ∀ w ∈ Ts, w.before args s = true) (hin : ∀ w ∈ u_ws C T N, w ∈ Ts) {ty0 : Nat → FieldType} (hty : ∀ k, k < N → parseFieldDescriptor (T k).2.2.1 = some (ty0 k)) (hnm : ∀ a, a < N → ∀ b, b < N → a ≠ b → (T a).2.1 ≠ (T b).2.1) (hown : s.vm.findClass own = some m.cls) (hK : va_K D cl tys s) (hG : g_H D cl dom L V H) (hS0 : va_S A H0 H locs) (x : g_S) (hx : dom x) {a : Nat} (hLa : L x = a) (hA : A a) {fs : List Value} (he : V x = .inr (ci, fs)) (hc : cl[ci]? = some (C, T, N)) (k : Nat) (hk : k < N) (hlink : Cond.fieldLink own index (T k).1 (T k).2.1 (T k).2.2.1 ∈ Ts) (hfin : (T k).2.2.2 = false) {ty : FieldType} {v : Value} (hd : parseFieldDescriptor (T k).2.2.1 = some ty) (hn : narrow ty v = v) (hfit : fits ty v = true) (hl : k < fs.length)
    (hdg : decode cc pc = .ok (.putfield index, 3)) (kk : ∀ (H1 : Heap) (locs : List Loc), g_H D cl dom L (g_set V x (.inr (ci, fs.set k v))) H1 → va_S A H0 H1 locs → W p l e R s m args below meth c H1 locs cells slots Q (F0 m (pc + 3) ls rest)) : W p l e R s m args below meth c H locs cells slots Q (F0 m pc ls (v :: .ref a :: rest)) := by
  subst hLa
  exact g_put hexec hb hts hin hty hnm hown hK hG hS0 x hx hA he hc k hk hlink hfin hd hn hfit hl hdg kk
/-- a final field, in its constructor -/
theorem h_putF (hexec : p.tables.exec = Jvm.exec) (hb : c.code = cc) {own C : String} {T : u_T} {N ci index : Nat} {Ts : List Cond} (hts : ∀ w ∈ Ts, w.before args s = true) (hin : ∀ w ∈ u_ws C T N, w ∈ Ts) {ty0 : Nat → FieldType} (hty : ∀ k, k < N → parseFieldDescriptor (T k).2.2.1 = some (ty0 k)) (hnm : ∀ a, a < N → ∀ b, b < N → a ≠ b → (T a).2.1 ≠ (T b).2.1) (hown : s.vm.findClass own = some m.cls) (hK : va_K D cl tys s) (hG : g_H D cl dom L V H) (hS0 : va_S A H0 H locs) (x : g_S) (hx : dom x) {a : Nat} (hLa : L x = a) (hA : A a) {fs : List Value} (he : V x = .inr (ci, fs)) (hc : cl[ci]? = some (C, T, N)) (k : Nat) (hk : k < N) (hlink : Cond.fieldLink own index (T k).1 (T k).2.1 (T k).2.2.1 ∈ Ts) (hfin : (T k).2.2.2 = true) (hin2 : meth.name = "<init>") (hdecl : (T k).1 = own) {ty : FieldType} {v : Value} (hd : parseFieldDescriptor (T k).2.2.1 = some ty) (hn : narrow ty v = v) (hfit : fits ty v = true) (hl : k < fs.length)
    (hdg : decode cc pc = .ok (.putfield index, 3)) (kk : ∀ (H1 : Heap) (locs : List Loc), g_H D cl dom L (g_set V x (.inr (ci, fs.set k v))) H1 → va_S A H0 H1 locs → W p l e R s m args below meth c H1 locs cells slots Q (F0 m (pc + 3) ls rest)) : W p l e R s m args below meth c H locs cells slots Q (F0 m pc ls (v :: .ref a :: rest)) := by
  subst hLa
  have hap := va_apart (own := own) hts hin ty0 hty hnm hK hc
  have hP := hG.one hx he
  obtain ⟨r, h1, cell, q1, q2, q3, q4⟩ := hP 0 _ rfl
  have hr : r = (C, T, N) := Option.some.inj (h1.symm.trans hc)
  subst hr
  obtain ⟨hS, hfc, kC, hkC, hkind⟩ := hK.1 ci _ hc
  obtain ⟨cf, kf, fi, f, hi, hsl⟩ := hS k hk
  have hlay := hts _ (hin _ (u_in_lay hk))
  unfold u_lay at hlay
  rw [if_pos hfin] at hlay
  have hst := (u_facts hfc hkC (u_lays hts hin hk) hi).1
  have hcf : m.cls = cf := by
    obtain ⟨_, _, c', _, _, _, -, -, hf', -, -, -, hown2, -⟩ := Cond.laysFinal_spec hlay
    have e1 : c' = cf := by have := hi.symm.trans hf'; simp at this; exact this.1.symm
    rw [hdecl] at hown2
    rw [← e1]; exact Option.some.inj (hown.symm.trans hown2)
  have h6 := u_fits hfc hkC hkind (Or.inr hlay) hi hd hn hfit
  refine W.putFinK hexec hb hown (hts _ hlink) hi hst hcf hin2 (by rw [q2]; exact h6) q1 q3 (by rw [hsl]; exact k2_hasslot (q4 k hk)) rfl rfl hdg fun H' e1 e2 e3 => ?_
  rw [hsl] at e1 ⊢
  exact kk H' _ (hG.set hx ⟨_, hc, t_OB.to (V := updV (vp_V fs) k v) ⟨_, e1, q2, q3, t_set q4 hap hk v⟩ (fun j _ => vp_updV_set hl v j)⟩ e3) (hS0.put e2 e3 hA)
theorem h_alen (hexec : p.tables.exec = Jvm.exec) (hb : c.code = cc) (hK : va_K D cl tys s) (hG : g_H D cl dom L V H) (x : g_S) (hx : dom x) {a : Nat} (hLa : L x = a) (t0 : Nat) {cA : ClassId} {z : vp_A} (ha : V x = .inl (cA, z)) {ty : FieldType} (ht : tys[t0]? = some (cA, ty)) {v : Int32} (hv : Int32.ofNat z.1 = v) (hdg : decode cc pc = .ok (.arraylength, 1))
    (kk : W p l e R s m args below meth c H locs cells slots Q (F0 m (pc + 1) ls (.int v :: rest))) : W p l e R s m args below meth c H locs cells slots Q (F0 m pc ls (.ref a :: rest)) := by
  subst hLa
  exact g_alen hexec hb hK hG x hx t0 ha ht hv hdg kk
/-- a reference goes into an array of its class -/
theorem h_astq (hexec : p.tables.exec = Jvm.exec) (hb : c.code = cc) (hK : va_K D cl tys s) (hG : g_H D cl dom L V H) (hS : va_S A H0 H locs) (x : g_S) (hx : dom x) {a : Nat} (hLa : L x = a) (hA : A a) (t0 ci : Nat) {cA : ClassId} {r : vw_C} {n : Nat} {f : Nat → Option Nat} (ha : V x = .inl (cA, n, .inr (.inr (.inr (.inr f))))) (ht : tys[t0]? = some (cA, .object r.1)) (y : g_S) (hy : dom y) {b : Nat} (hLb : L y = b) {vs : List Value} (hv : V y = .inr (ci, vs)) (hc : cl[ci]? = some r) {i : Int32} (hin : vp_in i n) (hdg : decode cc pc = .ok (.aastore, 1))
    (kk : ∀ (H1 : Heap) (locs : List Loc), g_H D cl dom L (g_set V x (.inl (cA, n, .inr (.inr (.inr (.inr (va_up f i.toNatClampNeg (some b)))))))) H1 → va_S A H0 H1 locs → W p l e R s m args below meth c H1 locs cells slots Q (F0 m (pc + 1) ls rest)) : W p l e R s m args below meth c H locs cells slots Q (F0 m pc ls (.ref b :: .int i :: .ref a :: rest)) := by
  subst hLa
  subst hLb
  have hlt := g_ix hin
  have h0 : ¬ i < 0 := fun q => hin (Or.inl q)
  obtain ⟨r', hr', cellV, g1, g2, g3, -⟩ := (hG.one hy hv) 0 _ rfl
  have hcls := (hK.1 ci r hc).2
  obtain ⟨kA, comp, k1, k2, k3, -⟩ := (hK.2 t0 _ ht).2
  have hcomp : comp = D.1 ci := Option.some.inj (k3.symm.trans hcls.1)
  subst hcomp
  obtain ⟨kC, hkC, -⟩ := hcls.2
  refine W.aast hexec hb ((hG.one hx ha) 0 _ rfl) (fun q h => by cases h) (fun h => by cases h) k1 k2 rfl hkC ⟨h0, by show _ < (arrV _ _ _).slots.size; rw [arrV_size]; exact hlt⟩ g1 (fun q h => by rw [g3] at h; cases h) (by rw [g2]; exact hkC) (by rw [g2]; exact va_assign hcls) rfl rfl hdg fun H1 e z oq => ?_
  refine kk H1 _ (hG.set hx ?_ oq) (hS.put z oq hA)
  show H1[L x]? = some (vp_cell _ _)
  rw [e]
  rw [vp_cell_q, vp_cell_q, arrV_store]
  congr 2
  funext q
  by_cases hq : q = i.toNatClampNeg
  · subst hq
    simp [updV, va_up, va_rf]
  · simp [updV, va_up, hq]
theorem h_vret {mc ms : Nat} {L0 : g_S → Nat} {dom0 : g_S → Prop} {A1 : Nat → Prop} (hexec : p.tables.exec = Jvm.exec) (hb : c.code = cc) (hr : meth.sig.returnType = none) (hlk : meth.locks = false) (hL : ∀ y, dom0 y → L y = L0 y) (hnw : ∀ y, dom' y → dom0 y ∨ s.heap.size ≤ L y) (hG : g_H D cl dom' L (V' L) H) (hS : va_S A1 s.heap H locs) (hdg : decode cc pc = .ok (.return_, 1)) : W p l e R s m args below meth c H locs mc ms (MQ below (h_Qc D cl dom0 L0 dom' V' A1 none) args s mc ms A1) (F0 m pc ls []) :=
  W.vret hexec hb hr (fun t ht _ => ⟨rfl, ⟨L, hL, hnw, by rw [ht]; exact hG⟩, hS.F ht⟩) hS.2.2 hdg hlk
theorem h_iret {mc ms : Nat} {L0 : g_S → Nat} {dom0 : g_S → Prop} {A1 : Nat → Prop} {v : Int32} {v' : Option Value} (hexec : p.tables.exec = Jvm.exec) (hb : c.code = cc) (hr : meth.sig.returnType = some .int) (hlk : meth.locks = false) (hL : ∀ y, dom0 y → L y = L0 y) (hnw : ∀ y, dom' y → dom0 y ∨ s.heap.size ≤ L y) (hG : g_H D cl dom' L (V' L) H) (hS : va_S A1 s.heap H locs) (hdg : decode cc pc = .ok (.ireturn, 1)) (hv : v' = some (.int v)) : W p l e R s m args below meth c H locs mc ms (MQ below (h_Qc D cl dom0 L0 dom' V' A1 v') args s mc ms A1) (F0 m pc ls [.int v]) := by
  subst hv
  exact W.iret hexec hb hr (fun t ht _ => ⟨rfl, ⟨L, hL, hnw, by rw [ht]; exact hG⟩, hS.F ht⟩) hS.2.2 hdg hlk
end HB
def h_Met (l : Launch) (y : MethodName) (c1 : Cond) (k mc ms : Nat) (D : va_G) (cl : List vw_C) (tys : List (ClassId × FieldType)) (dom : g_S → Prop) (L : g_S → Nat) (V : g_S → va_E) (sz : Nat) (av : List Value) (A : Nat → Prop) (v : Option Value) (dom' : g_S → Prop) (V' : (g_S → Nat) → g_S → va_E) : Prop :=
  Met l y (c1 :: g_T) (h_R k mc ms) (h_Pc D cl tys dom L V sz av) (h_Qc D cl dom L dom' V' A v) mc ms A
theorem h_Met.of {l : Launch} {y : MethodName} {cc : ByteArray} {maxL : Nat} {ret : Option FieldType} {k mc ms : Nat} {D : va_G} {cl : List vw_C} {tys : List (ClassId × FieldType)} {dom dom' : g_S → Prop} {L : g_S → Nat} {V : g_S → va_E} {V' : (g_S → Nat) → g_S → va_E} {sz : Nat} {av : List Value} {v : Option Value} {A : Nat → Prop} (hy : plainName y.cls = true) (hn : (lg_sl av).length ≤ maxL)
    (body : ∀ (p : Program) (e : Env) (s : State) (m : MethodId) (below : List Frame) (meth : Method) (c : Code), p.tables.exec = Jvm.exec → c.code = cc → meth.sig.returnType = ret → meth.locks = false → c.maxLocals = maxL → s.vm.findClass y.cls = some m.cls → meth.name = y.name → s.heap.size = sz → (∀ w ∈ g_T, w.before av.toArray s = true) → va_K D cl tys s → h_N s →
      g_H D cl dom L V s.heap → ∀ (ls : Array Slot), lv_has ls maxL (lv_args 0 av) → W p l e (h_R k mc ms) s m av.toArray below meth c s.heap [] 0 0 (MQ below (h_Qc D cl dom L dom' V' A v) av.toArray s mc ms A) (F0 m 0 ls [])) : h_Met l y (.code y cc maxL ret) k mc ms D cl tys dom L V sz av A v dom' V' := by
  refine Met.ofW (cc := cc) (maxL := maxL) (ret := ret) hy rfl ?_
  intro p e s m args below meth c s₁ B hml hv
  obtain ⟨rfl, hsz, hG, hK, hN⟩ := hv
  have hl := lv_entry av (n := maxL) hn
  rw [lg_entry_eq]
  generalize (lg_sl av ++ List.replicate (maxL - (lg_sl av).length) Slot.unset).toArray = ls at hl ⊢
  exact body p e s m below meth c B.exec B.bytes B.returns B.notSynchronized hml (findClass_of_methodNamed B.named) (name_of_methodNamed B.named B.method).1 hsz (fun w hw => atoms_spec (ws := .code y cc maxL ret :: g_T) B.pre w (List.mem_cons_of_mem _ hw)) hK hN hG ls hl
