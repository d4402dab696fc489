/-! int[5][100] -/
def h_mO (cA : ClassId) (b i : Nat) : Cell := arrV cA 5 (fun j => if j < i then .ref (b + 1 + j) else .null)
def h_mI (cB : ClassId) : Cell := arrV cB 100 (fun _ => .int 0)
def h_ms (s : State) (cA cB : ClassId) : Nat → State
  | 0 => s.pushCell (h_mO cA s.heap.size 0)
  | i + 1 => ((h_ms s cA cB i).pushCell (h_mI cB)).setCell s.heap.size (h_mO cA s.heap.size (i + 1))
theorem h_mO_next (cA : ClassId) (b i : Nat) : (h_mO cA b i).setSlot i (.ref (b + 1 + i)) = h_mO cA b (i + 1) := by
  unfold h_mO
  rw [arrV_store]
  congr 1
  funext j
  unfold updV
  by_cases h : j = i
  · subst h; simp
  · by_cases h2 : j < i
    · simp only [if_neg h, if_pos h2, if_pos (show j < i + 1 by omega)]
    · simp only [if_neg h, if_neg h2, if_neg (show ¬ j < i + 1 by omega)]
theorem h_ms_ok (s : State) (cA cB : ClassId) : ∀ i, ((h_ms s cA cB i).heap.size = s.heap.size + 1 + i ∧ (h_ms s cA cB i).heap[s.heap.size]? = some (h_mO cA s.heap.size i)) ∧ ((h_ms s cA cB i).vm = s.vm ∧ (h_ms s cA cB i).slotsUsed = s.slotsUsed + 5 + i * 100) ∧ (∀ q : Nat, q < s.heap.size → (h_ms s cA cB i).heap[q]? = s.heap[q]?) ∧ (∀ j, j < i → (h_ms s cA cB i).heap[s.heap.size + 1 + j]? = some (h_mI cB))
  | 0 => ⟨⟨by simp [h_ms], by simp [h_ms]⟩, ⟨rfl, by simp [h_ms, h_mO, arrV_size]⟩, fun q hq => State.heap_pushCell_of_lt _ _ hq, fun j hj => absurd hj (Nat.not_lt_zero _)⟩
  | i + 1 => by
    obtain ⟨⟨a1, a2⟩, ⟨b1, b2⟩, c1, d1⟩ := h_ms_ok s cA cB i
    have hold : ∀ q : Nat, q < (h_ms s cA cB i).heap.size → q ≠ s.heap.size → (h_ms s cA cB (i + 1)).heap[q]? = (h_ms s cA cB i).heap[q]? := fun q h1 h2 => by
      show (((h_ms s cA cB i).pushCell (h_mI cB)).setCell s.heap.size _).heap[q]? = _
      rw [State.heap_setCell_other (Ne.symm h2), State.heap_pushCell_of_lt (h := h1)]
    refine ⟨⟨?_, ?_⟩, ⟨?_, ?_⟩, fun q hq => ?_, fun j hj => ?_⟩
    · simp [h_ms, State.setCell, a1]; omega
    · refine State.heap_setCell_self (c := h_mO cA s.heap.size i) ?_
      have hlt : s.heap.size < (h_ms s cA cB i).heap.size := by rw [a1]; omega
      rw [State.heap_pushCell_of_lt (h := hlt)]
      exact a2
    · simp [h_ms, b1]
    · have : (h_mI cB).slots.size = 100 := arrV_size _ _ _
      simp [h_ms, b2, this]; omega
    · exact (hold q (by rw [a1]; omega) (Nat.ne_of_lt hq)).trans (c1 q hq)
    · by_cases h : j < i
      · exact (hold _ (by rw [a1]; omega) (by omega)).trans (d1 j h)
      · have hj2 : j = i := by omega
        subst hj2
        show (((h_ms s cA cB j).pushCell (h_mI cB)).setCell s.heap.size _).heap[_]? = _
        rw [State.heap_setCell_other (show s.heap.size ≠ s.heap.size + 1 + j by omega), ← a1]
        exact State.heap_pushCell_size _ _
theorem h_ms_top (s : State) (f : JFrame) (cA cB : ClassId) : ∀ i, h_ms (s.setTop f) cA cB i = (h_ms s cA cB i).setTop f
  | 0 => rfl
  | i + 1 => by
    show ((h_ms (s.setTop f) cA cB i).pushCell _).setCell _ _ = _
    rw [h_ms_top s f cA cB i]
    simp only [h_ms, State.heap_setTop, State.pushCell_setTop, State.setCell_setTop]
section HM
variable {p : Program} {l : Launch} {e : Env} {R : Room} {s : State} {m : MethodId} {args : Array Value} {below : List Frame} {meth : Method} {c : Code} {H : Heap} {locs : List Loc} {cells slots : Nat} {Q : State → Prop}
theorem h_ms_st {T : State} (X : Stand p l e R s m args below meth c T locs cells slots) (cA cB : ClassId) : ∀ i, Stand p l e R s m args below meth c (h_ms T cA cB i) (locs ++ (List.range i).map (fun j => ⟨T.heap.size, j⟩)) (cells + 1 + i) (slots + 5 + i * 100)
  | 0 => by
    have h := X.pushed (h_mO cA T.heap.size 0)
    rw [show (h_mO cA T.heap.size 0).slots.size = 5 from arrV_size _ _ _] at h
    simpa [h_ms] using h
  | i + 1 => by
    obtain ⟨⟨a1, a2⟩, -, -, -⟩ := h_ms_ok T cA cB i
    have hlt : T.heap.size < (h_ms T cA cB i).heap.size := by rw [a1]; omega
    have h := ((h_ms_st X cA cB i).pushed (h_mI cB)).stored (a := T.heap.size) (cell := h_mO cA T.heap.size i) (by rw [State.heap_pushCell_of_lt (h := hlt)]; exact a2) i (.ref (T.heap.size + 1 + i))
    rw [show (h_mI cB).slots.size = 100 from arrV_size _ _ _, h_mO_next] at h
    rw [List.range_succ, List.map_append, ← List.append_assoc, show slots + 5 + (i + 1) * 100 = slots + 5 + i * 100 + 100 by omega]
    exact h
end HM
section HQ
variable {E : CtlPost} {e : Env} {d : Bool} {acts : List Action} {s : State}
/-- one array of N default values -/
theorem h_wna {cA comp : ClassId} {k : Class} {ty : FieldType} {N : Nat} {v : Value} (hk : s.vm.classes[cA]? = some k) (hkind : k.kind = .array comp ty) (h1 : ¬ N > e.platform.arrayLengthLimit) (h2 : ¬ N * componentBytes ty > e.platform.maxHeapBytes) (hf : fits ty v = true) (hd : v.isDefault = true) {Q : Addr → Pre}
    (h3 : s.heap.size < e.platform.maxCells) (h4 : s.slotsUsed + N ≤ e.platform.maxSlots) (hq : Q s.heap.size d acts (s.pushCell (arrV cA N (fun _ => v)))) : wp (Jvm.newArray cA N v) Q E e d acts s := by
  rw [← arrV_new] at hq
  have h5 : allocActs (Array.replicate N v) s.heap.size acts = acts := by
    unfold allocActs
    rw [if_pos]
    rw [Array.all_replicate]
    by_cases hN : N = 0 <;> simp [hN, hd]
  simp only [Jvm.newArray, Jvm.arrayFits, wp_bind', _root_.Jvm.W.ask, _root_.Jvm.W.ite, h1, if_false, wp_pure', _root_.Jvm.W.theClass, hk, hkind, h2, _root_.Jvm.W.alloc, _root_.Jvm.W.stop, Option.some.injEq, exists_eq_left', Array.size_replicate, h5]
  rw [if_neg (by omega)]
  refine ⟨h3, h4, fun i w hw => ?_, hq⟩
  rw [Array.getElem?_replicate] at hw
  split at hw
  · cases hw
    simp [State.fitsSlot, State.slotType?, hk, hkind, hf]
  · cases hw
theorem h_wmk {cA cB cI : ClassId} {kA kB : Class} (hkA : s.vm.classes[cA]? = some kA) (hA : kA.kind = .array cB (.array .int)) (hkB : s.vm.classes[cB]? = some kB) (hB : kB.kind = .array cI .int) (hl : 100 ≤ e.platform.arrayLengthLimit) (hh : 400 ≤ e.platform.maxHeapBytes) (hc : s.heap.size + 6 ≤ e.platform.maxCells) (hs : s.slotsUsed + 505 ≤ e.platform.maxSlots) {Q : Addr → Pre}
    (hq : ∀ d' acts', Q s.heap.size d' acts' (h_ms s cA cB 5)) : wp (multianewarray.make cA [5, 100]) Q E e d acts s := by
  rw [multianewarray.make]
  simp only [wp_bind', _root_.Jvm.W.ite, show ¬ (5 : Int32) < 0 by decide, if_false, wp_pure', _root_.Jvm.W.theClass, hkA, hA, Option.some.injEq, exists_eq_left']
  refine h_wna (N := 5) hkA hA (by omega) (by show ¬ 5 * 4 > _; omega) rfl rfl (by omega) (by omega) ?_
  rw [if_neg (by decide)]
  simp only [wp_pure', wp_bind']
  rw [Std.Legacy.Range.forIn_eq_forIn_range']
  show wp (forIn (List.range' 0 5 1) PUnit.unit _) _ E e d acts _
  refine wp_forIn_inv (fun rest s' => ∃ i, i ≤ 5 ∧ rest = List.range' i (5 - i) ∧ s' = h_ms s cA cB i) _ _ ⟨0, by omega, rfl, ?_⟩ ?_ ?_
  · show _ = s.pushCell (h_mO cA s.heap.size 0)
    congr 1
  · rintro x rest s' d' acts' Q' ⟨i, hi, hl2, rfl⟩ hn
    have h5 : i < 5 := by
      rcases Nat.lt_or_ge i 5 with h | h
      · exact h
      · rw [show 5 - i = 0 by omega] at hl2; cases hl2
    rw [show 5 - i = (5 - (i + 1)) + 1 by omega, List.range'_succ] at hl2
    obtain ⟨rfl, hr⟩ := List.cons.inj hl2
    obtain ⟨⟨a1, a2⟩, ⟨b1, b2⟩, -, -⟩ := h_ms_ok s cA cB x
    simp only [wp_bind']
    rw [multianewarray.make]
    simp only [wp_bind', _root_.Jvm.W.ite, show ¬ (100 : Int32) < 0 by decide, if_false, wp_pure', _root_.Jvm.W.theClass, b1, hkB, hB, Option.some.injEq, exists_eq_left']
    refine h_wna (N := 100) (by rw [b1]; exact hkB) hB (by omega) (by show ¬ 100 * 4 > _; omega) rfl rfl (by rw [a1]; omega) (by rw [b2]; omega) ?_
    simp only [_root_.Jvm.W.writeLoc, wp_pure', wp_bind']
    have hlt : s.heap.size < (h_ms s cA cB x).heap.size := by rw [a1]; omega
    refine ⟨h_mO cA s.heap.size x, by rw [State.heap_pushCell_of_lt (h := hlt)]; exact a2, (fun (q : VmData.none = VmData.unknown) => by cases q), by rw [show (h_mO cA s.heap.size x).slots.size = 5 from arrV_size _ _ _]; exact h5, ?_, hn _ _ _ ⟨x + 1, h5, hr, ?_⟩⟩
    · show State.fitsSlot _ cA .none x _ = true
      simp [State.fitsSlot, State.slotType?, b1, hkA, hA, fits]
    · rw [a1, h_mO_next]
      rfl
  · rintro s' d' acts' ⟨i, hi, hl2, rfl⟩
    have h5 : i = 5 := by
      rcases Nat.lt_or_ge i 5 with h | h
      · rw [show 5 - i = (5 - (i + 1)) + 1 by omega, List.range'_succ] at hl2; cases hl2
      · omega
    subst h5
    simp only [wp_pure']
    exact hq _ _
end HQ
theorem h_arrV {cA : ClassId} {N : Nat} {f g : Nat → Value} (h : ∀ j, j < N → f j = g j) : arrV cA N f = arrV cA N g := by
  have e : (fun j : Fin N => f j.val) = fun j : Fin N => g j.val := funext fun j => h j.val j.isLt
  unfold arrV
  rw [e]
section HW
variable {p : Program} {l : Launch} {e : Env} {R : Room} {s : State} {m : MethodId} {args : Array Value} {below : List Frame} {meth : Method} {c : Code} {H : Heap} {locs : List Loc} {cells slots : Nat} {Q : State → Prop}
variable {cc : ByteArray} {pc : Nat} {ls : Array Slot} {rest st0 : List Value} {D : va_G} {cl : List vw_C} {A : Nat → Prop} {tys : List (ClassId × FieldType)} {H0 : Heap}
variable {dom dom' : g_S → Prop} {L : g_S → Nat} {V : g_S → va_E}
theorem h_mna0 (hexec : p.tables.exec = Jvm.exec) (hb : c.code = cc) {own : String} {index : Nat} (hown : s.vm.findClass own = some m.cls) (hclink : (Cond.classLink own index "[[I").before args s = true) (hover : (Cond.arrayOver (.array .int)).before args s = true) (harr : (Cond.arrayClass .int).before args s = true)
    {g : JFrame} (hg : g.method = m) (hdg : decode cc g.pc = .ok (.multianewarray index 2, 4)) (hstack : g.stack = .int 100 :: .int 5 :: rest) (hcells : cells + 6 ≤ R.cells) (hslots : slots + 505 ≤ R.slots)
    (kk : ∀ (cA cB : ClassId) (H1 : Heap), s.vm.findClass "[[I" = some cA → s.vm.findClass "[I" = some cB → H1.size = H.size + 6 → H1[H.size]? = some (h_mO cA H.size 5) → (∀ q : Nat, q < H.size → H1[q]? = H[q]?) → (∀ j, j < 5 → H1[H.size + 1 + j]? = some (h_mI cB)) →
      W p l e R s m args below meth c H1 (locs ++ (List.range 5).map (fun j => ⟨H.size, j⟩)) (cells + 6) (slots + 505) Q { g with pc := g.pc + 4, stack := .ref H.size :: rest }) : W p l e R s m args below meth c H locs cells slots Q g := by
  intro T hT X
  subst hT; subst hb; subst hg
  have hpl : e.platform.magicAccessors = ({} : Platform).magicAccessors := by rw [X.admits.platform]
  obtain ⟨comp, cA, kA, hcomp, -, hkA, hkindA, hnameA⟩ := arrayOverA_spec hover
  obtain ⟨comp2, kB, cI, hcomp2, hkB, hkindB⟩ := Cond.arrayClass_spec harr
  have e1 : comp2 = comp := Option.some.inj (hcomp2.symm.trans hcomp)
  subst e1
  obtain ⟨c0, hf0, hcl⟩ := Cond.classLink_spec hown hclink e.platform hpl
  have e2 : c0 = cA := Option.some.inj (hf0.symm.trans hnameA)
  subst e2
  obtain ⟨g1, w1, r1⟩ := State.classEntry (e := e) X.warmed hcl
  generalize T.vm.noted g.method.cls index (.cls c0) = vm1 at g1 w1 r1
  have hal : s.vm.Alike vm1 := w1.alike
  obtain ⟨kA1, hkA1, heA⟩ := hal.2.2 _ _ hkA
  obtain ⟨kB1, hkB1, heB⟩ := hal.2.2 _ _ hkB
  have X1 := X.noted w1
  have X2 := h_ms_st X1 c0 comp2 5
  obtain ⟨hr1, hr2⟩ := X.roomAbove hcells hslots
  obtain ⟨⟨a1, a2⟩, ⟨-, -⟩, a3, a4⟩ := h_ms_ok (T.setVm vm1) c0 comp2 5
  obtain ⟨t, q1, q2⟩ := kk c0 comp2 (h_ms (T.setVm vm1) c0 comp2 5).heap hnameA hcomp a1 a2 a3 a4 (h_ms (T.setVm vm1) c0 comp2 5) rfl X2
  refine ⟨t, ?_, q2⟩
  have hlim : 100 ≤ e.platform.arrayLengthLimit := by rw [Launch.admits_arrayLengthLimit X.admits]; omega
  have hmem : 400 ≤ e.platform.maxHeapBytes := by rw [Launch.admits_maxHeapBytes X.admits]; omega
  jvm_step X.here [hexec, hdg]
  simp only [multianewarray.sem, wp_bind', _root_.Jvm.W.resolveClassAt_links (State.method?_setTop g X.here.top) g1]
  rw [_root_.Jvm.W.popN, if_neg (by decide)]
  refine ⟨g, State.topJava?_setTop' (s := T.setVm vm1) g X.here.top, [.int 5, .int 100], rest, rfl, hstack, ?_⟩
  simp only [List.mapM_cons, List.mapM_nil, wp_bind', wp_pure']
  refine h_wmk (kA := kA1) (kB := kB1) (cB := comp2) (cI := cI) hkA1 (by rw [heA]; exact hkindA) hkB1 (by rw [heB]; exact hkindB) hlim hmem (by show T.heap.size + 6 ≤ _; exact hr1) (by show T.slotsUsed + 505 ≤ _; exact hr2) (fun d' acts' => ?_)
  have eS : ((T.setTop g).setVm vm1).setTop { g with stack := rest } = (T.setVm vm1).setTop { g with stack := rest } := by
    show ((T.setVm vm1).setTop g).setTop _ = _
    rw [State.setTop_setTop]
  rw [eS, h_ms_top]
  simp only [wp_bind', _root_.Jvm.W.mark, _root_.Jvm.W.pushRef, State.topJava?_setTop' _ X2.here.top, Option.some.injEq, exists_eq_left', State.setTop_setTop, State.heap_setTop]
  intro acts
  simp [jvm, X2.here.top]
  exact q1
end HW
theorem h_mrow {y : g_S} (h : y = (10, 0, 0) ∨ y = (10, 1, 0) ∨ y = (10, 2, 0) ∨ y = (10, 3, 0) ∨ y = (10, 4, 0)) : ∃ k, k < 5 ∧ y = (10, k, 0) := by
  rcases h with h | h | h | h | h
  · exact ⟨0, by omega, h⟩
  · exact ⟨1, by omega, h⟩
  · exact ⟨2, by omega, h⟩
  · exact ⟨3, by omega, h⟩
  · exact ⟨4, by omega, h⟩
theorem h_mna {p : Program} {l : Launch} {e : Env} {R : Room} {s : State} {m : MethodId} {args : Array Value} {below : List Frame} {meth : Method} {c : Code} {H : Heap} {locs : List Loc} {cells slots : Nat} {Q : State → Prop}
    {cc : ByteArray} {pc : Nat} {ls : Array Slot} {rest : List Value} {D : va_G} {cl : List vw_C} {A : Nat → Prop} {tys : List (ClassId × FieldType)} {H0 : Heap} {dom : g_S → Prop} {L : g_S → Nat} {V : g_S → va_E}
    (hexec : p.tables.exec = Jvm.exec) (hb : c.code = cc) {own : String} {index : Nat} (hown : s.vm.findClass own = some m.cls) (hclink : (Cond.classLink own index "[[I").before args s = true) (hover : (Cond.arrayOver (.array .int)).before args s = true) (harr : (Cond.arrayClass .int).before args s = true) (hK : va_K D cl tys s) {cA cB : ClassId} (hA1 : tys[1]? = some (cA, .array .int)) (hB1 : tys[0]? = some (cB, .int))
    (hG : g_H D cl dom L V H) (hS : va_S A H0 H locs) (hAn : ∀ q, H0.size ≤ q → A q) (h4 : ¬ dom (4, 0, 0)) (h10 : ∀ k, k < 5 → ¬ dom (10, k, 0)) (hdg : decode cc pc = .ok (.multianewarray index 2, 4)) (hcells : cells + 6 ≤ R.cells) (hslots : slots + 505 ≤ R.slots)
    (kk : ∀ (L' : g_S → Nat) (H1 : Heap) (locs1 : List Loc), (∀ y, dom y → L' y = L y) → (∀ x, (x = (4, 0, 0) ∨ x = (10, 0, 0) ∨ x = (10, 1, 0) ∨ x = (10, 2, 0) ∨ x = (10, 3, 0) ∨ x = (10, 4, 0)) → H.size ≤ L' x) → g_H D cl (fun x => dom x ∨ x = (4, 0, 0) ∨ x = (10, 0, 0) ∨ x = (10, 1, 0) ∨ x = (10, 2, 0) ∨ x = (10, 3, 0) ∨ x = (10, 4, 0)) L' (fun x => if x = (4, 0, 0) then .inl (cA, 5, .inr (.inr (.inr (.inr (va_up (va_up (va_up (va_up (va_up (fun _ => none) 0 (some (L' (10, 0, 0)))) 1 (some (L' (10, 1, 0)))) 2 (some (L' (10, 2, 0)))) 3 (some (L' (10, 3, 0)))) 4 (some (L' (10, 4, 0)))))))) else if x = (10, 0, 0) then .inl (cB, 100, .inl (fun _ => 0)) else if x = (10, 1, 0) then .inl (cB, 100, .inl (fun _ => 0)) else if x = (10, 2, 0) then .inl (cB, 100, .inl (fun _ => 0)) else if x = (10, 3, 0) then .inl (cB, 100, .inl (fun _ => 0)) else if x = (10, 4, 0) then .inl (cB, 100, .inl (fun _ => 0)) else V x) H1 → va_S A H0 H1 locs1 → H.size ≤ H1.size → (∀ q : Nat, q < H.size → H1[q]? = H[q]?) →
      W p l e R s m args below meth c H1 locs1 (cells + 6) (slots + 505) Q (F0 m (pc + 4) ls (.ref (L' (4, 0, 0)) :: rest))) : W p l e R s m args below meth c H locs cells slots Q (F0 m pc ls (.int 100 :: .int 5 :: rest)) := by
  refine h_mna0 hexec hb hown hclink hover harr rfl hdg rfl hcells hslots (fun cA' cB' H1 f1 f2 z1 a1 o1 r1 => ?_)
  have e1 : cA' = cA := Option.some.inj (f1.symm.trans (hK.2 1 _ hA1).2)
  have e2 : cB' = cB := Option.some.inj (f2.symm.trans (hK.2 0 _ hB1).2)
  subst e1
  subst e2
  let L' : g_S → Nat := fun y => if y = (4, 0, 0) then H.size else if y.1 = 10 ∧ y.2.1 < 5 ∧ y.2.2 = 0 then H.size + 1 + y.2.1 else L y
  have hL4 : L' (4, 0, 0) = H.size := by simp [L']
  have hL10 : ∀ k, k < 5 → L' (10, k, 0) = H.size + 1 + k := fun k hk => by simp [L', hk]
  have hLo : ∀ y, dom y → L' y = L y := fun y hy => by
    have n1 : y ≠ (4, 0, 0) := fun q => h4 (q ▸ hy)
    have n2 : ¬ (y.1 = 10 ∧ y.2.1 < 5 ∧ y.2.2 = 0) := fun ⟨q1, q2, q3⟩ => h10 y.2.1 q2 (by rw [← q1, ← q3]; exact hy)
    simp [L', n1, n2]
  have hcls : ∀ y, (dom y ∨ y = (4, 0, 0) ∨ y = (10, 0, 0) ∨ y = (10, 1, 0) ∨ y = (10, 2, 0) ∨ y = (10, 3, 0) ∨ y = (10, 4, 0)) → (dom y ∧ L' y = L y ∧ L y < H.size) ∨ (y = (4, 0, 0) ∧ L' y = H.size) ∨ ∃ k, k < 5 ∧ y = (10, k, 0) ∧ L' y = H.size + 1 + k := fun y hy => by
    rcases hy with h | h | h
    · exact Or.inl ⟨h, hLo y h, hG.lt h⟩
    · exact Or.inr (Or.inl ⟨h, by rw [h]; exact hL4⟩)
    · obtain ⟨k, hk, rfl⟩ := h_mrow h
      exact Or.inr (Or.inr ⟨k, hk, rfl, hL10 k hk⟩)
  have hHo : H.size ≤ H1.size := by rw [z1]; omega
  have hnw : ∀ x, (x = (4, 0, 0) ∨ x = (10, 0, 0) ∨ x = (10, 1, 0) ∨ x = (10, 2, 0) ∨ x = (10, 3, 0) ∨ x = (10, 4, 0)) → H.size ≤ L' x := fun x h => by
    rcases h with h | h
    · rw [h, hL4]; exact Nat.le_refl _
    · obtain ⟨k, hk, rfl⟩ := h_mrow h
      rw [hL10 k hk]; omega
  have key := kk L' H1 (locs ++ (List.range 5).map (fun j => ⟨H.size, j⟩)) hLo hnw ⟨fun y hy => ?_, fun y z hy hz hyz => ?_⟩ ⟨Nat.le_trans hS.1 hHo, fun q hq hn => (o1 q (Nat.lt_of_lt_of_le hq hS.1)).trans (hS.2.1 q hq hn), fun q hq => ?_⟩ hHo o1
  · rw [hL4] at key
    exact key
  · rcases hcls y hy with ⟨h, h2, h3⟩ | ⟨rfl, h2⟩ | ⟨k, hk, rfl, h2⟩
    · have n1 : y ≠ (4, 0, 0) := fun q => h4 (q ▸ h)
      have n2 : ∀ k, k < 5 → y ≠ (10, k, 0) := fun k hk q => h10 k hk (q ▸ h)
      simp only [n1, n2 0 (by omega), n2 1 (by omega), n2 2 (by omega), n2 3 (by omega), n2 4 (by omega), if_false]
      rw [h2]
      exact (hG.1 y h).kept (o1 _ h3)
    · simp only [if_true]
      show H1[L' (4, 0, 0)]? = some (vp_cell _ _)
      rw [h2, a1, vp_cell_q]
      refine congrArg some (h_arrV fun j hj => ?_)
      rcases (show j = 0 ∨ j = 1 ∨ j = 2 ∨ j = 3 ∨ j = 4 by omega) with rfl | rfl | rfl | rfl | rfl <;> rw [if_pos hj, ← hL10 _ hj] <;> rfl
    · have hv : (if ((10, k, 0) : g_S) = (4, 0, 0) then (.inl (cA', 5, .inr (.inr (.inr (.inr (va_up (va_up (va_up (va_up (va_up (fun _ => none) 0 (some (L' (10, 0, 0)))) 1 (some (L' (10, 1, 0)))) 2 (some (L' (10, 2, 0)))) 3 (some (L' (10, 3, 0)))) 4 (some (L' (10, 4, 0)))))))) : va_E) else if ((10, k, 0) : g_S) = (10, 0, 0) then .inl (cB', 100, .inl (fun _ => 0)) else if ((10, k, 0) : g_S) = (10, 1, 0) then .inl (cB', 100, .inl (fun _ => 0)) else if ((10, k, 0) : g_S) = (10, 2, 0) then .inl (cB', 100, .inl (fun _ => 0)) else if ((10, k, 0) : g_S) = (10, 3, 0) then .inl (cB', 100, .inl (fun _ => 0)) else if ((10, k, 0) : g_S) = (10, 4, 0) then .inl (cB', 100, .inl (fun _ => 0)) else V (10, k, 0)) = .inl (cB', 100, .inl (fun _ => 0)) := by
        rcases (show k = 0 ∨ k = 1 ∨ k = 2 ∨ k = 3 ∨ k = 4 by omega) with rfl | rfl | rfl | rfl | rfl <;> rfl
      refine Eq.mpr (congrArg (fun q => va_at D cl (L' (10, k, 0), q) H1) hv) ?_
      show H1[L' (10, k, 0)]? = some (vp_cell _ _)
      rw [h2, r1 k hk, vp_cell_i]
      rfl
  · rcases hcls y hy with ⟨h, h2, h3⟩ | ⟨rfl, h2⟩ | ⟨k, hk, rfl, h2⟩ <;> rcases hcls z hz with ⟨g, g2, g3⟩ | ⟨rfl, g2⟩ | ⟨j, hj, rfl, g2⟩
    · exact hG.2 y z h g (by omega)
    · omega
    · omega
    · omega
    · rfl
    · omega
    · omega
    · omega
    · rw [show k = j by omega]
  · rcases List.mem_append.mp hq with h | h
    · exact hS.2.2 q h
    · obtain ⟨j, -, rfl⟩ := List.mem_map.mp h
      exact hAn _ hS.1
