/-! memory pictures: a system's cells by slots (kind, i, j); L: where each lies; V: what each is -/
abbrev g_S : Type := Nat × Nat × Nat
def g_set (V : g_S → va_E) (x : g_S) (e : va_E) : g_S → va_E := fun y => if y = x then e else V y
def g_up (σ : g_S → Nat → Int32) (x : g_S) (k : Nat) (v : Int32) : g_S → Nat → Int32 := fun y => if y = x then upd (σ y) k v else σ y
theorem g_up_at (σ : g_S → Nat → Int32) (x : g_S) (k : Nat) (v : Int32) (y : g_S) (j : Nat) : g_up σ x k v y j = if y = x then (if j = k then v else σ y j) else σ y j := by
  unfold g_up upd
  by_cases h : y = x <;> simp [h]
theorem g_up_row {σ : g_S → Nat → Int32} {x : g_S} {k : Nat} {v : Int32} {y : g_S} (h : y ≠ x) : g_up σ x k v y = σ y := by simp [g_up, h]
theorem g_up_self {σ : g_S → Nat → Int32} {x : g_S} {k : Nat} {v : Int32} : g_up σ x k v x = upd (σ x) k v := by simp [g_up]
theorem g_up_same {σ : g_S → Nat → Int32} {x : g_S} {k : Nat} {v : Int32} : g_up σ x k v x k = v := by simp [g_up, upd]
theorem g_set_up {K : g_S → (Nat → Int32) → va_E} {σ : g_S → Nat → Int32} {x : g_S} {k : Nat} {v : Int32} {e : va_E} (h : K x (upd (σ x) k v) = e) : g_set (fun y => K y (σ y)) x e = fun y => K y (g_up σ x k v y) := by
  funext y
  unfold g_set g_up
  by_cases hy : y = x
  · subst hy; simp [h]
  · simp [hy]
def g_H (D : va_G) (cl : List vw_C) (dom : g_S → Prop) (L : g_S → Nat) (V : g_S → va_E) (H : Heap) : Prop := (∀ x, dom x → va_at D cl (L x, V x) H) ∧ ∀ x y, dom x → dom y → L x = L y → x = y
def g_A (dom : g_S → Prop) (L : g_S → Nat) : Nat → Prop := fun q => ∃ x, dom x ∧ L x = q
theorem g_A.in {dom : g_S → Prop} {L : g_S → Nat} {x : g_S} (h : dom x) : g_A dom L (L x) := ⟨x, h, rfl⟩
theorem g_H.one {D : va_G} {cl : List vw_C} {dom : g_S → Prop} {L : g_S → Nat} {V : g_S → va_E} {H : Heap} (h : g_H D cl dom L V H) {x : g_S} (hx : dom x) {e : va_E} (he : V x = e) : va_P D cl [(L x, e)] H := by
  intro k q hk
  have h0 : k < 1 := (List.getElem?_eq_some_iff.mp hk).1
  rw [show k = 0 by omega] at hk
  cases hk
  rw [← he]
  exact h.1 x hx
theorem g_H.set {D : va_G} {cl : List vw_C} {dom : g_S → Prop} {L : g_S → Nat} {V : g_S → va_E} {H H1 : Heap} (h : g_H D cl dom L V H) {x : g_S} (hx : dom x) {e : va_E} (he : va_at D cl (L x, e) H1) (oq : ∀ q : Nat, q ≠ L x → H1[q]? = H[q]?) : g_H D cl dom L (g_set V x e) H1 := by
  refine ⟨fun y hy => ?_, h.2⟩
  unfold g_set
  by_cases hxy : y = x
  · subst hxy; simpa using he
  · rw [if_neg hxy]
    exact (h.1 y hy).kept (oq _ (fun z => hxy (h.2 y x hy hx z)))
/-- kept by whatever writes elsewhere -/
theorem g_H.kept {D : va_G} {cl : List vw_C} {dom : g_S → Prop} {L : g_S → Nat} {V : g_S → va_E} {H H1 : Heap} (h : g_H D cl dom L V H) (hq : ∀ x, dom x → H1[L x]? = H[L x]?) : g_H D cl dom L V H1 := ⟨fun x hx => (h.1 x hx).kept (hq x hx), h.2⟩
theorem g_H.lt {D : va_G} {cl : List vw_C} {dom : g_S → Prop} {L : g_S → Nat} {V : g_S → va_E} {H : Heap} (h : g_H D cl dom L V H) {x : g_S} (hx : dom x) : L x < H.size := (h.1 x hx).lt
/-- the words that every method here takes: the tables' good ones -/
def g_T : List Cond := lw_tbl.filter goodWord
theorem g_T_good : ∀ w ∈ g_T, goodWord w = true := fun w h => (List.mem_filter.mp h).2
theorem g_T_in {w : Cond} (h : w ∈ g_T) : w ∈ lw_tbl := (List.mem_filter.mp h).1
theorem g_good {c1 : Cond} (h : c1 ∈ g_T) : GoodIn g_T (c1 :: g_T) := fun w hw => (List.mem_cons.mp hw).elim (fun e => by subst e; exact ⟨h, good_of_word (g_T_good _ h)⟩) (fun h2 => ⟨h2, good_of_word (g_T_good _ h2)⟩)
theorem g_goodV {own : String} {idx : Nat} {C : String} {y : MethodName} {c1 : Cond} (h1 : c1 ∈ g_T) (h2 : Cond.methodLink own idx y ∈ g_T) (h3 : Cond.instanceMethod y ∈ g_T) (h4 : Cond.selects C y y ∈ g_T) (h5 : Cond.initialized C ∈ g_T) : GoodIn g_T (wsV own idx C y (c1 :: g_T)) := by
  intro w hw
  unfold wsV at hw
  rcases List.mem_append.mp hw with h | h
  · simp only [List.mem_cons, List.not_mem_nil, or_false] at h
    rcases h with rfl | rfl | rfl | rfl
    · exact ⟨h2, good_of_word (g_T_good _ h2)⟩
    · exact ⟨h3, good_of_word (g_T_good _ h3)⟩
    · exact ⟨h4, good_of_word (g_T_good _ h4)⟩
    · exact ⟨h5, good_of_word (g_T_good _ h5)⟩
  · exact g_good h1 w h
theorem g_goodS {own : String} {idx : Nat} {y : MethodName} {c1 : Cond} (h1 : c1 ∈ g_T) (h2 : Cond.methodLink own idx y ∈ g_T) (h3 : Cond.static y ∈ g_T) (h5 : Cond.initialized own ∈ g_T) : GoodIn g_T (wsS own idx y (c1 :: g_T)) := by
  intro w hw
  unfold wsS at hw
  rcases List.mem_append.mp hw with h | h
  · simp only [List.mem_cons, List.not_mem_nil, or_false] at h
    rcases h with rfl | rfl | rfl
    · exact ⟨h2, good_of_word (g_T_good _ h2)⟩
    · exact ⟨h3, good_of_word (g_T_good _ h3)⟩
    · exact ⟨h5, good_of_word (g_T_good _ h5)⟩
  · exact g_good h1 w h
/-- the nest's links, which are no good words -/
def g_N (U : State) : Prop := (va_Nw (.methodLinkNest RX2 28 yX6_isIndex RX6) U ∧ va_Nw (.methodLinkNest RX2 31 yX6_isTerm RX6) U) ∧ (va_Nw (.methodLinkNest RX1 28 yX6_isIndex RX6) U ∧ va_Nw (.methodLinkNest RX1 32 yX6_isTerm RX6) U)
theorem g_N.warm {s U : State} (hW : s.WarmedH U.vm) (h : g_N s) : g_N U := ⟨⟨h.1.1.warmM hW, h.1.2.warmM hW⟩, ⟨h.2.1.warmM hW, h.2.2.warmM hW⟩⟩
theorem g_N.same {s U : State} (hv : s.vm = U.vm) (h : g_N s) : g_N U := ⟨⟨h.1.1.same rfl hv, h.1.2.same rfl hv⟩, ⟨h.2.1.same rfl hv, h.2.2.same rfl hv⟩⟩
def g_Pc (D : va_G) (cl : List vw_C) (tys : List (ClassId × FieldType)) (dom : g_S → Prop) (L : g_S → Nat) (V : g_S → va_E) (av : List Value) : Array Value → State → Prop := fun a U => a = av.toArray ∧ g_H D cl dom L V U.heap ∧ va_K D cl tys U ∧ g_N U
def g_Qc (D : va_G) (cl : List vw_C) (dom : g_S → Prop) (L : g_S → Nat) (V : g_S → va_E) (v : Option Value) : Array Value → State → Outcome → State → Prop := fun _ st oc t => oc = .returned v ∧ g_H D cl dom L V t.heap ∧ va_F (g_A dom L) st t
def g_R (k : Nat) : Room := { frames := k, cells := 0, slots := 0, locals := 40 * k }
theorem g_Pc.blind {D : va_G} {cl : List vw_C} {tys : List (ClassId × FieldType)} {dom : g_S → Prop} {L : g_S → Nat} {V : g_S → va_E} {av : List Value} : FrameBlind (g_Pc D cl tys dom L V av) := by
  intro a U g mk h
  obtain ⟨h1, h2, h3, h4⟩ := h
  exact ⟨h1, h2, va_K.moved (u := U) (U := U.calling g mk a) (Vm.Alike.refl U.vm) h3, h4.same rfl⟩
section GB
variable {p : Program} {l : Launch} {e : Env} {R : Room} {s : State} {m : MethodId} {args : Array Value} {below : List Frame} {meth : Method} {c : Code} {H : Heap} {locs : List Loc} {cells slots : Nat} {Q : State → Prop}
variable {cc : ByteArray} {pc : Nat} {ls : Array Slot} {rest st0 : List Value} {D : va_G} {cl : List vw_C} {A : Nat → Prop} {tys : List (ClassId × FieldType)} {H0 : Heap}
variable {dom : g_S → Prop} {L : g_S → Nat} {V V' : g_S → va_E} {K : g_S → (Nat → Int32) → va_E} {σ : g_S → Nat → Int32}
theorem g_preV {As : List Value} {q : vw_C} (hK : va_K D cl tys s) (hN : g_N s) (hG : g_H D cl dom L V H) {x : g_S} (hx : dom x) {ci : Nat} {fs : List Value} (he : V x = .inr (ci, fs)) (hc : cl[ci]? = some q) : PreV s H q.1 (L x) (g_Pc D cl tys dom L V (.ref (L x) :: As)) As :=
  ⟨g_Pc.blind, va_recv hK (hG.one hx he) hc (q0 := 0) rfl, fun U hU hW => ⟨rfl, by rw [hU]; exact hG, va_K.moved hW.alike hK, hN.warm hW⟩⟩
theorem g_preS {As : List Value} (hK : va_K D cl tys s) (hN : g_N s) (hG : g_H D cl dom L V H) : PreS s H (g_Pc D cl tys dom L V As) As :=
  ⟨g_Pc.blind, fun U hU hW => ⟨rfl, by rw [hU]; exact hG, va_K.moved hW.alike hK, hN.warm hW⟩⟩
/-- behind a call, in general -/
theorem g_cont0 {v : Option Value} {a : Array Value} (hr : va_Run p l e R s m args below meth c H locs cells slots 0 0 (F0 m pc ls st0) rest (g_Qc D cl dom L V' v a) (g_A dom L)) (hS : va_S A H0 H locs) (hA : ∀ q, g_A dom L q → A q)
    (kk : ∀ (H1 : Heap) (locs1 : List Loc), g_H D cl dom L V' H1 → va_S A H0 H1 locs1 → H.size ≤ H1.size → (∀ q : Nat, q < H.size → ¬ g_A dom L q → H1[q]? = H[q]?) → W p l e R s m args below meth c H1 locs1 cells slots Q (F0 m (pc + 3) ls (v.toList ++ rest))) : W p l e R s m args below meth c H locs cells slots Q (F0 m pc ls st0) := by
  intro T hT X
  obtain ⟨v2, st₀, t, T', L2, h0, X', hL, e1, e2, ⟨hv, hg, hz, hk⟩, st⟩ := hr T hT X
  cases hv
  rw [h0] at hz hk
  obtain ⟨t2, a1, b1⟩ := kk T'.heap (locs ++ L2) (by rw [e1]; exact hg)
    ⟨Nat.le_trans hS.1 (by rw [e1]; exact hz), fun q h1 h2 => by rw [e1, hk q (Nat.lt_of_lt_of_le h1 hS.1) (fun z => h2 (hA q z))]; exact hS.2.1 q h1 h2, fun q hq => by
      rcases List.mem_append.mp hq with h | h
      · exact hS.2.2 q h
      · exact hA _ (hL q h)⟩ (by rw [e1]; exact hz) (fun q h1 h2 => by rw [e1]; exact hk q h1 h2) T' rfl X'
  exact ⟨t2, st t2 a1, b1⟩
theorem g_cont {v : Option Value} {a : Array Value} (hr : va_Run p l e R s m args below meth c H locs cells slots 0 0 (F0 m pc ls st0) rest (g_Qc D cl dom L V' v a) (g_A dom L)) (hS : va_S (g_A dom L) H0 H locs)
    (kk : ∀ (H : Heap) (locs : List Loc), g_H D cl dom L V' H → va_S (g_A dom L) H0 H locs → W p l e R s m args below meth c H locs cells slots Q (F0 m (pc + 3) ls (v.toList ++ rest))) : W p l e R s m args below meth c H locs cells slots Q (F0 m pc ls st0) :=
  g_cont0 hr hS (fun _ h => h) (fun H1 l1 h1 h2 _ _ => kk H1 l1 h1 h2)
theorem g_get (hexec : p.tables.exec = Jvm.exec) (hb : c.code = cc) {own C : String} {T : u_T} {N ci index : Nat} {Ts : List Cond} (hts : ∀ w ∈ Ts, w.before args s = true) (hin : ∀ w ∈ u_ws C T N, w ∈ Ts) (hown : s.vm.findClass own = some m.cls) (hK : va_K D cl tys s) (hG : g_H D cl dom L V H) (x : g_S) (hx : dom x) {fs : List Value} (he : V x = .inr (ci, fs)) (hc : cl[ci]? = some (C, T, N)) (k : Nat) (hk : k < N) (hlink : Cond.fieldLink own index (T k).1 (T k).2.1 (T k).2.2.1 ∈ Ts) {v : Value} (hv : fs[k]? = some v) (hdg : decode cc pc = .ok (.getfield index, 3))
    (kk : W p l e R s m args below meth c H locs cells slots Q (F0 m (pc + 3) ls (v :: rest))) : W p l e R s m args below meth c H locs cells slots Q (F0 m pc ls (.ref (L x) :: rest)) :=
  va_get hexec hb hts hin hown hK (hG.one hx he) 0 rfl hc k hk (hts _ hlink) (fun _ h => h) hv hdg kk
theorem g_put (hexec : p.tables.exec = Jvm.exec) (hb : c.code = cc) {own C : String} {T : u_T} {N ci index : Nat} {Ts : List Cond} (hts : ∀ w ∈ Ts, w.before args s = true) (hin : ∀ w ∈ u_ws C T N, w ∈ Ts) {ty0 : Nat → FieldType} (hty : ∀ k, k < N → parseFieldDescriptor (T k).2.2.1 = some (ty0 k)) (hnm : ∀ a, a < N → ∀ b, b < N → a ≠ b → (T a).2.1 ≠ (T b).2.1) (hown : s.vm.findClass own = some m.cls) (hK : va_K D cl tys s) (hG : g_H D cl dom L V H) (hS0 : va_S A H0 H locs) (x : g_S) (hx : dom x) (hA : A (L x)) {fs : List Value} (he : V x = .inr (ci, fs)) (hc : cl[ci]? = some (C, T, N)) (k : Nat) (hk : k < N) (hlink : Cond.fieldLink own index (T k).1 (T k).2.1 (T k).2.2.1 ∈ Ts) (hfin : (T k).2.2.2 = false) {ty : FieldType} {v : Value} (hd : parseFieldDescriptor (T k).2.2.1 = some ty) (hn : narrow ty v = v) (hfit : fits ty v = true) (hl : k < fs.length)
    (hdg : decode cc pc = .ok (.putfield index, 3)) (kk : ∀ (H : Heap) (locs : List Loc), g_H D cl dom L (g_set V x (.inr (ci, fs.set k v))) H → va_S A H0 H locs → W p l e R s m args below meth c H locs cells slots Q (F0 m (pc + 3) ls rest)) : W p l e R s m args below meth c H locs cells slots Q (F0 m pc ls (v :: .ref (L x) :: rest)) := by
  have hap := va_apart (own := own) hts hin ty0 hty hnm hK hc
  have hP := hG.one hx he
  obtain ⟨r, h1, cell, q1, q2, q3, q4⟩ := hP 0 _ rfl
  have hr : r = (C, T, N) := Option.some.inj (h1.symm.trans hc)
  subst hr
  obtain ⟨hS, hfc, kC, hkC, hkind⟩ := hK.1 ci _ hc
  obtain ⟨cf, kf, fi, f, hi, hsl⟩ := hS k hk
  have hlay := hts _ (hin _ (u_in_lay hk))
  unfold u_lay at hlay
  rw [if_neg (by rw [hfin]; decide)] at hlay
  have hst := (u_facts hfc hkC (u_lays hts hin hk) hi).1
  have h6 := u_store hfc hkC hkind hlay hi hd hn hfit
  refine W.putK hexec hb (f := f) ⟨hown, hts _ hlink, ⟨_, _, _, hi⟩, hst⟩ (by rw [q2]; exact h6) q1 q3 (by rw [hsl]; exact k2_hasslot (q4 k hk)) rfl rfl hdg fun H' e1 e2 e3 => ?_
  rw [hsl] at e1 ⊢
  exact kk H' _ (hG.set hx ⟨_, hc, t_OB.to (V := updV (vp_V fs) k v) ⟨_, e1, q2, q3, t_set q4 hap hk v⟩ (fun j _ => vp_updV_set hl v j)⟩ e3) (hS0.put e2 e3 hA)
/-- an int (or boolean) field, by the memory -/
theorem g_puti (hexec : p.tables.exec = Jvm.exec) (hb : c.code = cc) {own C : String} {T : u_T} {N ci index : Nat} {Ts : List Cond} (hts : ∀ w ∈ Ts, w.before args s = true) (hin : ∀ w ∈ u_ws C T N, w ∈ Ts) {ty0 : Nat → FieldType} (hty : ∀ k, k < N → parseFieldDescriptor (T k).2.2.1 = some (ty0 k)) (hnm : ∀ a, a < N → ∀ b, b < N → a ≠ b → (T a).2.1 ≠ (T b).2.1) (hown : s.vm.findClass own = some m.cls) (hK : va_K D cl tys s) (hG : g_H D cl dom L (fun y => K y (σ y)) H) (hS0 : va_S (g_A dom L) H0 H locs) (x : g_S) (hx : dom x) {fs : List Value} (he : K x (σ x) = .inr (ci, fs)) (hc : cl[ci]? = some (C, T, N)) (k : Nat) (hk : k < N) {v : Int32} (he2 : K x (upd (σ x) k v) = .inr (ci, fs.set k (.int v))) (hlink : Cond.fieldLink own index (T k).1 (T k).2.1 (T k).2.2.1 ∈ Ts) (hfin : (T k).2.2.2 = false) {ty : FieldType} (hd : parseFieldDescriptor (T k).2.2.1 = some ty) (hn : narrow ty (.int v) = .int v) (hfit : fits ty (.int v) = true) (hl : k < fs.length)
    (hdg : decode cc pc = .ok (.putfield index, 3)) (kk : ∀ (H : Heap) (locs : List Loc), g_H D cl dom L (fun y => K y (g_up σ x k v y)) H → va_S (g_A dom L) H0 H locs → W p l e R s m args below meth c H locs cells slots Q (F0 m (pc + 3) ls rest)) : W p l e R s m args below meth c H locs cells slots Q (F0 m pc ls (.int v :: .ref (L x) :: rest)) := by
  refine g_put hexec hb hts hin hty hnm hown hK hG hS0 x hx (g_A.in hx) he hc k hk hlink hfin hd hn hfit hl hdg (fun H locs hG hS => ?_)
  rw [g_set_up he2] at hG
  exact kk H locs hG hS
theorem g_iald (hexec : p.tables.exec = Jvm.exec) (hb : c.code = cc) (hK : va_K D cl tys s) (hG : g_H D cl dom L V H) (x : g_S) (hx : dom x) (t0 : Nat) {cA : ClassId} {n : Nat} {f : Nat → Int32} (ha : V x = .inl (cA, n, .inl f)) (ht : tys[t0]? = some (cA, .int)) {i : Int32} (hin : vp_in i n) (hdg : decode cc pc = .ok (.iaload, 1))
    (kk : W p l e R s m args below meth c H locs cells slots Q (F0 m (pc + 1) ls (.int (f i.toNatClampNeg) :: rest))) : W p l e R s m args below meth c H locs cells slots Q (F0 m pc ls (.int i :: .ref (L x) :: rest)) :=
  va_iald hexec hb hK (hG.one hx ha) 0 t0 rfl ht hin hdg kk
theorem g_zald (hexec : p.tables.exec = Jvm.exec) (hb : c.code = cc) (hK : va_K D cl tys s) (hG : g_H D cl dom L V H) (x : g_S) (hx : dom x) (t0 : Nat) {cA : ClassId} {n : Nat} {f : Nat → Int32} (ha : V x = .inl (cA, n, .inl f)) (ht : tys[t0]? = some (cA, .boolean)) {i : Int32} (hin : vp_in i n) (hdg : decode cc pc = .ok (.baload, 1))
    (kk : W p l e R s m args below meth c H locs cells slots Q (F0 m (pc + 1) ls (.int (f i.toNatClampNeg) :: rest))) : W p l e R s m args below meth c H locs cells slots Q (F0 m pc ls (.int i :: .ref (L x) :: rest)) :=
  va_zald hexec hb hK (hG.one hx ha) 0 t0 rfl ht hin hdg kk
theorem g_ix {i : Int32} {n : Nat} (h : vp_in i n) : i.toNatClampNeg < n := Nat.not_le.mp fun q => h (Or.inr q)
theorem g_iast (hexec : p.tables.exec = Jvm.exec) (hb : c.code = cc) (hK : va_K D cl tys s) (hG : g_H D cl dom L (fun y => K y (σ y)) H) (hS : va_S (g_A dom L) H0 H locs) (x : g_S) (hx : dom x) (t0 : Nat) {cA : ClassId} {n : Nat} (ha : ∀ f, K x f = .inl (cA, n, .inl f)) (ht : tys[t0]? = some (cA, .int)) {i v : Int32} (hin : vp_in i n) (hdg : decode cc pc = .ok (.iastore, 1))
    (kk : ∀ (H : Heap) (locs : List Loc), g_H D cl dom L (fun y => K y (g_up σ x i.toNatClampNeg v y)) H → va_S (g_A dom L) H0 H locs → W p l e R s m args below meth c H locs cells slots Q (F0 m (pc + 1) ls rest)) : W p l e R s m args below meth c H locs cells slots Q (F0 m pc ls (.int v :: .int i :: .ref (L x) :: rest)) := by
  refine W.iast hexec hb ((hG.one hx (ha (σ x))) 0 _ rfl) ((hK.2 t0 _ ht).1 n (fun j => .int (σ x j))) (fun q => by cases q) (by show ¬ (i < 0 ∨ (arrV _ _ _).slots.size ≤ _); rw [arrV_size]; exact hin) rfl rfl hdg fun H1 e z oq => ?_
  have h1 := hG.set (H1 := H1) hx (e := .inl (cA, n, .inl (upd (σ x) i.toNatClampNeg v))) (by
    show H1[L x]? = some (vp_cell _ _)
    rw [e, vp_cell_i, vp_cell_i, arrV_store]
    congr 2
    funext q
    by_cases hq : q = i.toNatClampNeg
    · subst hq; simp [updV, upd]
    · simp [updV, upd, hq]) oq
  rw [g_set_up (ha _)] at h1
  exact kk H1 _ h1 (hS.put z oq (g_A.in hx))
theorem g_zast (hexec : p.tables.exec = Jvm.exec) (hb : c.code = cc) (hK : va_K D cl tys s) (hG : g_H D cl dom L (fun y => K y (σ y)) H) (hS : va_S (g_A dom L) H0 H locs) (x : g_S) (hx : dom x) (t0 : Nat) {cA : ClassId} {n : Nat} (ha : ∀ f, K x f = .inl (cA, n, .inl f)) (ht : tys[t0]? = some (cA, .boolean)) {i v : Int32} (hin : vp_in i n) (hn : narrow .boolean (.int v) = .int v) (hdg : decode cc pc = .ok (.bastore, 1))
    (kk : ∀ (H : Heap) (locs : List Loc), g_H D cl dom L (fun y => K y (g_up σ x i.toNatClampNeg v y)) H → va_S (g_A dom L) H0 H locs → W p l e R s m args below meth c H locs cells slots Q (F0 m (pc + 1) ls rest)) : W p l e R s m args below meth c H locs cells slots Q (F0 m pc ls (.int v :: .int i :: .ref (L x) :: rest)) := by
  refine W.zast hexec hb ((hG.one hx (ha (σ x))) 0 _ rfl) ((hK.2 t0 _ ht).1 n (fun j => .int (σ x j))) (fun q => by cases q) (by show ¬ (i < 0 ∨ (arrV _ _ _).slots.size ≤ _); rw [arrV_size]; exact hin) rfl rfl hdg fun H1 e z oq => ?_
  have h1 := hG.set (H1 := H1) hx (e := .inl (cA, n, .inl (upd (σ x) i.toNatClampNeg v))) (by
    show H1[L x]? = some (vp_cell _ _)
    rw [e, hn, vp_cell_i, vp_cell_i, arrV_store]
    congr 2
    funext q
    by_cases hq : q = i.toNatClampNeg
    · subst hq; simp [updV, upd]
    · simp [updV, upd, hq]) oq
  rw [g_set_up (ha _)] at h1
  exact kk H1 _ h1 (hS.put z oq (g_A.in hx))
theorem g_aald (hexec : p.tables.exec = Jvm.exec) (hb : c.code = cc) (hK : va_K D cl tys s) (hG : g_H D cl dom L V H) (x : g_S) (hx : dom x) (t0 : Nat) {cA : ClassId} {ty : FieldType} {n : Nat} {f : Nat → Option Nat} (ha : V x = .inl (cA, n, .inr (.inr (.inr (.inr f))))) (ht : tys[t0]? = some (cA, ty)) (hty : ty.isReference = true) {i : Int32} (hin : vp_in i n) {v : Value} (hv : va_rf (f i.toNatClampNeg) = v) (hdg : decode cc pc = .ok (.aaload, 1))
    (kk : W p l e R s m args below meth c H locs cells slots Q (F0 m (pc + 1) ls (v :: rest))) : W p l e R s m args below meth c H locs cells slots Q (F0 m pc ls (.int i :: .ref (L x) :: rest)) := by
  subst hv
  have hlt := g_ix hin
  exact W.aald (v := va_rf (f i.toNatClampNeg)) (ty := ty) hexec hb ((hG.one hx ha) 0 _ rfl) ((hK.2 t0 _ ht).1 n (fun j => va_rf (f j))) hty (fun q => by cases q) (by show ¬ (i < 0 ∨ (arrV _ _ _).slots.size ≤ _); rw [arrV_size]; exact hin) (by show (arrV _ _ _).slots[_]? = _; rw [arrV_read _ _ hlt]) rfl rfl hdg kk
theorem g_alen (hexec : p.tables.exec = Jvm.exec) (hb : c.code = cc) (hK : va_K D cl tys s) (hG : g_H D cl dom L V H) (x : g_S) (hx : dom x) (t0 : Nat) {cA : ClassId} {z : vp_A} (ha : V x = .inl (cA, z)) {ty : FieldType} (ht : tys[t0]? = some (cA, ty)) {v : Int32} (hv : Int32.ofNat z.1 = v) (hdg : decode cc pc = .ok (.arraylength, 1))
    (kk : W p l e R s m args below meth c H locs cells slots Q (F0 m (pc + 1) ls (.int v :: rest))) : W p l e R s m args below meth c H locs cells slots Q (F0 m pc ls (.ref (L x) :: rest)) :=
  va_alen hexec hb hK (hG.one hx ha) 0 t0 rfl ht hv hdg kk
theorem g_iret {v : Int32} {v' : Option Value} (hexec : p.tables.exec = Jvm.exec) (hb : c.code = cc) (hr : meth.sig.returnType = some .int) (hlk : meth.locks = false) (hG : g_H D cl dom L V H) (hS : va_S (g_A dom L) s.heap H locs) (hdg : decode cc pc = .ok (.ireturn, 1)) (hv : v' = some (.int v)) (hV : V' = V) : W p l e R s m args below meth c H locs 0 0 (MQ below (g_Qc D cl dom L V' v') args s 0 0 (g_A dom L)) (F0 m pc ls [.int v]) := by
  subst hv
  subst hV
  exact W.iret hexec hb hr (fun t ht _ => ⟨rfl, by rw [ht]; exact hG, hS.F ht⟩) hS.2.2 hdg hlk
theorem g_zret {v : Int32} {v' : Option Value} (hexec : p.tables.exec = Jvm.exec) (hb : c.code = cc) (hr : meth.sig.returnType = some .boolean) (hlk : meth.locks = false) (hG : g_H D cl dom L V H) (hS : va_S (g_A dom L) s.heap H locs) (hdg : decode cc pc = .ok (.ireturn, 1)) (hn : narrow .boolean (.int v) = .int v) (hv : v' = some (.int v)) (hV : V' = V) : W p l e R s m args below meth c H locs 0 0 (MQ below (g_Qc D cl dom L V' v') args s 0 0 (g_A dom L)) (F0 m pc ls [.int v]) := by
  subst hv
  subst hV
  exact W.zret hexec hb hr hn (fun t ht _ => ⟨rfl, by rw [ht]; exact hG, hS.F ht⟩) hS.2.2 hdg hlk
theorem g_vret {v' : Option Value} (hexec : p.tables.exec = Jvm.exec) (hb : c.code = cc) (hr : meth.sig.returnType = none) (hlk : meth.locks = false) (hG : g_H D cl dom L V H) (hS : va_S (g_A dom L) s.heap H locs) (hdg : decode cc pc = .ok (.return_, 1)) (hv : v' = none) (hV : V' = V) : W p l e R s m args below meth c H locs 0 0 (MQ below (g_Qc D cl dom L V' v') args s 0 0 (g_A dom L)) (F0 m pc ls []) := by
  subst hv
  subst hV
  exact W.vret hexec hb hr (fun t ht _ => ⟨rfl, by rw [ht]; exact hG, hS.F ht⟩) hS.2.2 hdg hlk
theorem g_aret {v : Value} {n : String} {v' : Option Value} (hexec : p.tables.exec = Jvm.exec) (hb : c.code = cc) (hr : meth.sig.returnType = some (.object n)) (hlk : meth.locks = false) (hG : g_H D cl dom L V H) (hS : va_S (g_A dom L) s.heap H locs) (hdg : decode cc pc = .ok (.areturn, 1)) (ha : v = .null ∨ ∃ a, v = .ref a) (hv : v' = some v) (hV : V' = V) : W p l e R s m args below meth c H locs 0 0 (MQ below (g_Qc D cl dom L V' v') args s 0 0 (g_A dom L)) (F0 m pc ls [v]) := by
  subst hv
  subst hV
  exact W.aret hexec hb hr (Or.inl ⟨n, rfl⟩) ha (fun t ht _ => ⟨rfl, by rw [ht]; exact hG, hS.F ht⟩) hS.2.2 hdg hlk
end GB
/-- a contract: from the memory V with the arguments av the method answers v, the memory is V' -/
def g_Met (l : Launch) (y : MethodName) (c1 : Cond) (k : Nat) (D : va_G) (cl : List vw_C) (tys : List (ClassId × FieldType)) (dom : g_S → Prop) (L : g_S → Nat) (V : g_S → va_E) (av : List Value) (v : Option Value) (V' : g_S → va_E) : Prop :=
  Met l y (c1 :: g_T) (g_R k) (g_Pc D cl tys dom L V av) (g_Qc D cl dom L V' v) 0 0 (g_A dom L)
theorem g_Met.of {l : Launch} {y : MethodName} {cc : ByteArray} {maxL : Nat} {ret : Option FieldType} {k : Nat} {D : va_G} {cl : List vw_C} {tys : List (ClassId × FieldType)} {dom : g_S → Prop} {L : g_S → Nat} {V V' : g_S → va_E} {av : List Value} {v : Option Value} (hy : plainName y.cls = true) (hn : (lg_sl av).length ≤ maxL)
    (body : ∀ (p : Program) (e : Env) (s : State) (m : MethodId) (below : List Frame) (meth : Method) (c : Code), p.tables.exec = Jvm.exec → c.code = cc → meth.sig.returnType = ret → meth.locks = false → c.maxLocals = maxL → s.vm.findClass y.cls = some m.cls → (∀ w ∈ g_T, w.before av.toArray s = true) → va_K D cl tys s → g_N s →
      ∀ (H : Heap) (locs : List Loc), g_H D cl dom L V H → va_S (g_A dom L) s.heap H locs → ∀ (ls : Array Slot), lv_has ls maxL (lv_args 0 av) → W p l e (g_R k) s m av.toArray below meth c H locs 0 0 (MQ below (g_Qc D cl dom L V' v) av.toArray s 0 0 (g_A dom L)) (F0 m 0 ls [])) : g_Met l y (.code y cc maxL ret) k D cl tys dom L V av v V' := by
  refine Met.ofW (cc := cc) (maxL := maxL) (ret := ret) hy rfl ?_
  intro p e s m args below meth c s₁ B hml hv
  obtain ⟨rfl, hG, hK, hN⟩ := hv
  have hl := lv_entry av (n := maxL) hn
  rw [lg_entry_eq]
  generalize (lg_sl av ++ List.replicate (maxL - (lg_sl av).length) Slot.unset).toArray = ls at hl ⊢
  exact body p e s m below meth c B.exec B.bytes B.returns B.notSynchronized hml (findClass_of_methodNamed B.named) (fun w hw => atoms_spec (ws := .code y cc maxL ret :: g_T) B.pre w (List.mem_cons_of_mem _ hw)) hK hN s.heap [] hG va_S.rf ls hl
