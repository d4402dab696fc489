/-! THE CLAIM OUT OF ONE WALK OF THE LAW'S BODY. Your part is whole_start (and what it stands on); all else here is the same for every law, but numbers. -/
def R_law : String := "SearchWireLaw"
def lw_P (b : Addr) (xs : List Int32) (args : Array Value) (s : State) : Prop := args = #[.ref b] ∧ s.IntsAt b xs ∧ xs.length ≤ 3072 ∧ (Jvm.Cond.and given_1 narrow_1).before args s = true
def lw_Q (_ : Array Value) (s : State) (o : Outcome) (t : State) : Prop := o = .returned (some (.int 1)) ∧ Framed s o t [] 603072 7194730
def lw_Z (below : List Frame) (a : Array Value) (s : State) : State → Prop := fun t => ∃ o, t.status = .running ∧ Ended t below o ∧ lw_Q a s o t
/-- the law's own end, with 1 on the stack, nothing written that was there before, its room as the claim has it -/
theorem lw_ret {p : Program} {l : Launch} {e : Env} {s : State} {m : MethodId} {below : List Frame} {meth : Method} {c : Code} {b : Nat} (hx : p.tables.exec = Jvm.exec) (hb : c.code = code) (hr : meth.sig.returnType = ret) (hlocks : meth.locks = false) {pc : Nat} {H : Heap} {ls : Array Slot} (hdg : decode code pc = .ok (.ireturn, 1)) : W p l e room_1 s m #[Value.ref b] below meth c H [] 603072 7194730 (lw_Z below #[Value.ref b] s) (F0 m pc ls [.int 1]) := by
  intro T hT X
  obtain ⟨fs, hret, hrun, hended, hW, hframe⟩ := X.leave (v := some (.int 1)) (hlocks := hlocks) (fun h => by rw [hr] at h; cases h)
  have hmeth' : T.vm.method? m = some meth := X.method'
  refine ⟨T.setFrames fs, ?_, .returned (some (.int 1)), hrun, hended, rfl, ⟨_, rfl⟩, hW, hframe⟩
  jvm_step X.here [X.here.top, hx, hb, hdg, hmeth', hr, ret, narrow_b1]
  (try refine ⟨rfl, ?_⟩); (try refine ⟨rfl, ?_⟩)
  first | (intro acts; rw [hret _ acts rfl rfl rfl]) | rw [hret _ _ rfl rfl rfl]
  exact Steps.refl _
/-- what holds at the law's entry: the machine, the code, the tables' words (any of lw_tbl by 'hts w (by decide +kernel)'), the script of L ints xs at the cell b, what the Statement gives of the start (any of its parts by flat_of_before) -/
def lw_At (p : Program) (s : State) (m : MethodId) (meth : Method) (c : Code) (b L : Nat) (xs : Nat → Int32) : Prop :=
  p.tables.exec = Jvm.exec ∧ c.code = code ∧ meth.sig.returnType = ret ∧ c.maxLocals = 7 ∧ s.vm.findClass R_law = some m.cls ∧ (∀ w ∈ lw_tbl, w.before #[Value.ref b] s = true) ∧ va_X b L xs s s.heap ∧ b < s.heap.size ∧ meth.locks = false ∧ (Jvm.Cond.and given_1 narrow_1).before #[Value.ref b] s = true
theorem w_and15 (x : Int32) : ∃ t : Nat, t < 16 ∧ x &&& 15 = nI t := by
  refine ⟨x.toBitVec.toNat % 16, Nat.mod_lt _ (by decide), ?_⟩
  apply Int32.toBitVec_inj.mp
  rw [Int32.toBitVec_and]
  apply BitVec.eq_of_toNat_eq
  rw [BitVec.toNat_and]
  show x.toBitVec.toNat &&& 15 = _
  rw [show (15 : Nat) = 2 ^ 4 - 1 from rfl, Nat.and_two_pow_sub_one_eq_mod]
  unfold nI
  rw [Int32.toBitVec_ofNat', BitVec.toNat_ofNat]
  omega
set_option maxHeartbeats 4000000 in
set_option maxRecDepth 100000 in
theorem law_loop {p : Program} {l : Launch} {e : Env} {s : State} {m : MethodId} {below : List Frame} {meth : Method} {c : Code} {b L : Nat} {xs : Nat → Int32} {D : va_G} {cy : Nat → ClassId} {sa bo : Nat} {LM : g_S → Nat} (C0 : w_C p l s m meth c b L xs D cy sa) (hr : meth.sig.returnType = ret) (hlk : meth.locks = false) :
    ∀ (n k : Nat) (LX : g_S → Nat) (ns : Nat) (kk : Nat → Nat) (σ μ : r_M) (w0 : Int64) (H : Heap) (locs : List Loc) (ls : Array Slot), k + n = L / 6 → w_I s D cy bo LM LX ns kk σ μ w0 H → va_S (fun q => s.heap.size ≤ q) s.heap H locs → lv_has ls 7 [(0, .ref b), (1, .ref (LX (0, 0, 0))), (2, .ref (LM (0, 0, 0))), (3, .ref bo), (4, .int (nI (6 * k)))] → W p l e room_1 s m #[Value.ref b] below meth c H locs (100 + 20 * k) (20000 + 900 * k) (lw_Z below #[Value.ref b] s) (F0 m 23 ls []) := by
  obtain ⟨⟨hx, hb, hml, hown, hts⟩, ⟨hK, hN, hE⟩, ⟨hXs, hbl⟩, ⟨hl0, hL⟩⟩ := id C0
  have hbA : ¬ (fun q : Nat => s.heap.size ≤ q) b := Nat.not_le.mpr hbl
  have hLI : (nI L - 6 : Int32).toInt = (L : Int) - 6 := by
    have z6 : (6 : Int32).toInt = 6 := rfl
    rw [g_subI (by rw [g_nIT (by omega), z6]; omega) (by rw [g_nIT (by omega), z6]; omega), g_nIT (by omega), z6]
  intro n
  induction n with
  | zero =>
    intro k LX ns kk σ μ w0 H locs ls hkn hI hS hl
    refine lv_iload hx hb dL_law_23 (lv_at hl 4 rfl) ?_
    refine lv_aload_n hx hb dL_law_25 rfl (lv_at hl 0 rfl) ?_
    refine va_slen hx hb hXs hbl hbA hS dL_law_26 ?_
    refine lv_bipush (v := 6) hx hb dL_law_27 (by decide) ?_
    refine lv_isub hx hb dL_law_29 ?_
    refine kz_icmp_gt (X := ((6 * k : Nat) : Int)) (Y := (L : Int) - 6) hx hb (g_nIT (by omega)) hLI dL_law_30 (tgt := 856) (by decide) (fun c9 => ?_) (fun c9 => absurd c9 (by omega))
    refine lv_iconst (v := 1) hx hb dL_law_856 (by decide) ?_
    refine va_forget (fun q hq => hS.2.2 q hq) ?_
    refine W.widen (k := 603072) (n := 7194730) (by omega) (by omega) ?_
    exact lw_ret hx hb hr hlk dL_law_857
  | succ n ih =>
    intro k LX ns kk σ μ w0 H locs ls hkn hI hS hl
    have hk : 6 * k + 6 ≤ L := by omega
    have kk9 : ∀ (LX : g_S → Nat) (ns : Nat) (kk : Nat → Nat) (σ μ : r_M) (w0 : Int64) (H : Heap) (locs : List Loc) (ls : Array Slot), w_I s D cy bo LM LX ns kk σ μ w0 H → va_S (fun q => s.heap.size ≤ q) s.heap H locs → lv_has ls 7 [(0, .ref b), (1, .ref (LX (0, 0, 0))), (2, .ref (LM (0, 0, 0))), (3, .ref bo), (4, .int (nI (6 * k)))] → W p l e room_1 s m #[Value.ref b] below meth c H locs (120 + 20 * k) (20900 + 900 * k) (lw_Z below #[Value.ref b] s) (F0 m 850 ls []) := by
      intro LX ns kk σ μ w0 H locs ls hI hS hl
      have e6 : nI (6 * k) + Int32.ofInt 6 = nI (6 * (k + 1)) := nI_add (6 * k) 6
      refine lv_iinc (v := nI (6 * (k + 1))) (lv' := [(4, .int (nI (6 * (k + 1)))), (0, .ref b), (1, .ref (LX (0, 0, 0))), (2, .ref (LM (0, 0, 0))), (3, .ref bo)]) hx hb dL_law_850 hl (k := 4) rfl e6 (by decide) rfl (fun ls hl => ?_)
      refine lv_goto (tgt := 23) hx hb dL_law_853 (by decide) ?_
      refine W.widen (k := 100 + 20 * (k + 1)) (n := 20000 + 900 * (k + 1)) (by omega) (by omega) ?_
      exact ih (k + 1) LX ns kk σ μ w0 H locs ls (by omega) hI hS (lv_sub hl [1, 2, 3, 4, 0] rfl)
    refine lv_iload hx hb dL_law_23 (lv_at hl 4 rfl) ?_
    refine lv_aload_n hx hb dL_law_25 rfl (lv_at hl 0 rfl) ?_
    refine va_slen hx hb hXs hbl hbA hS dL_law_26 ?_
    refine lv_bipush (v := 6) hx hb dL_law_27 (by decide) ?_
    refine lv_isub hx hb dL_law_29 ?_
    refine kz_icmp_gt (X := ((6 * k : Nat) : Int)) (Y := (L : Int) - 6) hx hb (g_nIT (by omega)) hLI dL_law_30 (tgt := 856) (by decide) (fun c9 => absurd c9 (by omega)) (fun c9 => ?_)
    refine lv_aload_n hx hb dL_law_33 rfl (lv_at hl 0 rfl) ?_
    refine lv_iload hx hb dL_law_34 (lv_at hl 4 rfl) ?_
    refine va_sld hx hb hXs hbl hbA hS (vp_in_nI (by omega) (by omega)) dL_law_36 ?_
    refine lv_bipush (v := 15) hx hb dL_law_37 (by decide) ?_
    refine lv_iand hx hb dL_law_39 ?_
    obtain ⟨t, ht, ev⟩ := w_and15 (xs (nI (6 * k)).toNatClampNeg)
    rw [ev]
    rcases (show t = 0 ∨ t = 1 ∨ t = 2 ∨ t = 3 ∨ t = 4 ∨ t = 5 ∨ t = 6 ∨ t = 7 ∨ t = 8 ∨ t = 9 ∨ t = 10 ∨ t = 11 ∨ t = 12 ∨ t = 13 ∨ t = 14 ∨ t = 15 by omega) with rfl | rfl | rfl | rfl | rfl | rfl | rfl | rfl | rfl | rfl | rfl | rfl | rfl | rfl | rfl | rfl
    · refine lv_tableIn (off := 76) (tgt := 116) hx hb dL_law_40 (by decide) (by decide) (by decide) (by decide) ?_
      exact lc_record C0 k hk kk9 LX ns kk σ μ w0 H locs ls hI hS hl
    · refine lv_tableIn (off := 101) (tgt := 141) hx hb dL_law_40 (by decide) (by decide) (by decide) (by decide) ?_
      exact lc_term C0 k hk kk9 LX ns kk σ μ w0 H locs ls hI hS hl
    · refine lv_tableIn (off := 150) (tgt := 190) hx hb dL_law_40 (by decide) (by decide) (by decide) (by decide) ?_
      exact lc_question C0 k hk kk9 LX ns kk σ μ w0 H locs ls hI hS hl
    · refine lv_tableIn (off := 211) (tgt := 251) hx hb dL_law_40 (by decide) (by decide) (by decide) (by decide) ?_
      by_cases hC : 0 ≤ (xs (6 * k + 1)).toInt ∧ (xs (6 * k + 1)).toInt ≤ 7 ∧ 1 ≤ (xs (6 * k + 2)).toInt ∧ (xs (6 * k + 2)).toInt ≤ 1000 ∧ ns < 8
      · by_cases h8 : ((xs (6 * k + 1)) &&& 4).toInt = 0
        · exact lc_session1 C0 k hk kk9 LX ns kk σ μ w0 H locs ls hI hS hl hC h8
        · exact lc_session5 C0 k hk kk9 LX ns kk σ μ w0 H locs ls hI hS hl hC h8
      · exact lc_session0 C0 k hk kk9 LX ns kk σ μ w0 H locs ls hI hS hl hC
    · refine lv_tableIn (off := 248) (tgt := 288) hx hb dL_law_40 (by decide) (by decide) (by decide) (by decide) ?_
      exact lc_search C0 k hk kk9 LX ns kk σ μ w0 H locs ls hI hS hl
    · refine lv_tableIn (off := 297) (tgt := 337) hx hb dL_law_40 (by decide) (by decide) (by decide) (by decide) ?_
      exact lc_size C0 k hk kk9 LX ns kk σ μ w0 H locs ls hI hS hl
    · refine lv_tableIn (off := 334) (tgt := 374) hx hb dL_law_40 (by decide) (by decide) (by decide) (by decide) ?_
      exact lc_present C0 k hk kk9 LX ns kk σ μ w0 H locs ls hI hS hl
    · refine lv_tableIn (off := 395) (tgt := 435) hx hb dL_law_40 (by decide) (by decide) (by decide) (by decide) ?_
      exact lc_segment C0 k hk kk9 LX ns kk σ μ w0 H locs ls hI hS hl
    · refine lv_tableIn (off := 444) (tgt := 484) hx hb dL_law_40 (by decide) (by decide) (by decide) (by decide) ?_
      exact lc_at C0 k hk kk9 LX ns kk σ μ w0 H locs ls hI hS hl
    · refine lv_tableIn (off := 481) (tgt := 521) hx hb dL_law_40 (by decide) (by decide) (by decide) (by decide) ?_
      by_cases hz : (xs (6 * k + 4)).toInt = 0
      · exact lc_sort0 C0 k hk kk9 LX ns kk σ μ w0 H locs ls hI hS hl hz
      · exact lc_sort1 C0 k hk kk9 LX ns kk σ μ w0 H locs ls hI hS hl hz
    · refine lv_tableIn (off := 558) (tgt := 598) hx hb dL_law_40 (by decide) (by decide) (by decide) (by decide) ?_
      exact lc_scan C0 k hk kk9 LX ns kk σ μ w0 H locs ls hI hS hl
    · refine lv_tableIn (off := 631) (tgt := 671) hx hb dL_law_40 (by decide) (by decide) (by decide) (by decide) ?_
      by_cases hP : x_scP2 σ ns (xs (6 * k + 1)) (xs (6 * k + 2))
      · exact lc_scannedY C0 k hk kk9 LX ns kk σ μ w0 H locs ls hI hS hl hP
      · exact lc_scannedN C0 k hk kk9 LX ns kk σ μ w0 H locs ls hI hS hl hP
    · refine lv_tableIn (off := 711) (tgt := 751) hx hb dL_law_40 (by decide) (by decide) (by decide) (by decide) ?_
      exact lc_drop C0 k hk kk9 LX ns kk σ μ w0 H locs ls hI hS hl
    · refine lv_tableIn (off := 748) (tgt := 788) hx hb dL_law_40 (by decide) (by decide) (by decide) (by decide) ?_
      exact lc_close C0 k hk kk9 LX ns kk σ μ w0 H locs ls hI hS hl
    · refine lv_tableIn (off := 773) (tgt := 813) hx hb dL_law_40 (by decide) (by decide) (by decide) (by decide) ?_
      exact lc_state C0 k hk kk9 LX ns kk σ μ w0 H locs ls hI hS hl
    · refine lv_tableOut (tgt := 850) hx hb dL_law_40 (Or.inr (by decide)) (by decide) ?_
      refine W.widen (k := 120 + 20 * k) (n := 20900 + 900 * k) (by omega) (by omega) ?_
      exact kk9 LX ns kk σ μ w0 H locs ls hI hS hl
theorem in_J0 : ∀ w ∈ u_ws RJ0 TJ0 2, w ∈ lw_tbl := by decide +kernel
theorem in_J1 : ∀ w ∈ u_ws RJx00060 TJx00060 6, w ∈ lw_tbl := by decide +kernel
theorem w_ty {A : Array Value} {s : State} {ty : FieldType} (hnr : ∀ C, ty ≠ .object C) (h : (Cond.arrayClass ty).before A s = true) : ∃ cA, ArrOfT s cA ty ∧ va_RA s cA ty := by
  obtain ⟨cA, kA, comp, h1, h2, h3⟩ := Cond.arrayClass_spec h
  refine ⟨cA, fun n z => ⟨(fun k q => by cases q), kA, h2, comp, h3⟩, ?_⟩
  cases ty with
  | object C => exact absurd rfl (hnr C)
  | _ => exact h1
theorem w_tyO {A : Array Value} {s : State} {C : String} (h : (Cond.arrayOver (.object C)).before A s = true) : ∃ cA, ArrOfT s cA (.object C) ∧ va_RA s cA (.object C) := by
  obtain ⟨comp, cA, kA, h1, -, h2, h3, h4⟩ := Cond.arrayOver_spec h
  exact ⟨cA, fun n z => ⟨(fun k q => by cases q), kA, h2, comp, h3⟩, kA, comp, h2, h3, h1, h4⟩
theorem w_tyA {A : Array Value} {s : State} (h : (Cond.arrayOver (.array .int)).before A s = true) : ∃ cA, ArrOfT s cA (.array .int) ∧ va_RA s cA (.array .int) := by
  obtain ⟨comp, cA, kA, h1, -, h2, h3, h4⟩ := arrayOverA_spec h
  exact ⟨cA, fun n z => ⟨(fun k q => by cases q), kA, h2, comp, h3⟩, h4⟩
theorem w_known {s : State} {A : Array Value} (hts : ∀ w ∈ lw_tbl, w.before A s = true) : ∃ (D : va_G) (cy : Nat → ClassId), va_K D vwCl (x_tys cy) s := by
  obtain ⟨c0, i0, k0⟩ := u_known (C := RJ0) (T := TJ0) (N := 2) (n := 4) hts in_J0 (hts _ (by decide +kernel))
  obtain ⟨c1, i1, k1⟩ := u_known (C := RJx00060) (T := TJx00060) (N := 6) (n := 6) hts in_J1 (hts _ (by decide +kernel))
  obtain ⟨c2, i2, k2⟩ := u_known (C := RX0) (T := TX0) (N := 6) (n := 6) hts (fun w hw => g_T_in (inX0g w hw)) (hts _ (g_T_in ins_X0))
  obtain ⟨c3, i3, k3⟩ := u_known (C := RX1) (T := TX1) (N := 5) (n := 5) hts (fun w hw => g_T_in (inX1g w hw)) (hts _ (g_T_in ins_X1))
  obtain ⟨c4, i4, k4⟩ := u_known (C := RX2) (T := TX2) (N := 3) (n := 3) hts (fun w hw => g_T_in (inX2g w hw)) (hts _ (g_T_in ins_X2))
  obtain ⟨c5, i5, k5⟩ := u_known (C := RX3) (T := TX3) (N := 3) (n := 3) hts (fun w hw => g_T_in (inX3g w hw)) (hts _ (g_T_in ins_X3))
  obtain ⟨c6, i6, k6⟩ := u_known (C := RX4) (T := TX4) (N := 3) (n := 3) hts (fun w hw => g_T_in (inX4g w hw)) (hts _ (g_T_in ins_X4))
  obtain ⟨c7, i7, k7⟩ := u_known (C := RX5) (T := TX5) (N := 7) (n := 7) hts (fun w hw => g_T_in (inX5g w hw)) (hts _ (g_T_in ins_X5))
  obtain ⟨c8, i8, k8⟩ := u_known (C := RX6) (T := TX6) (N := 4) (n := 4) hts (fun w hw => g_T_in (inX6g w hw)) (hts _ (g_T_in ins_X6))
  obtain ⟨c9, i9, k9⟩ := u_known (C := RX7) (T := TX7) (N := 28) (n := 28) hts (fun w hw => g_T_in (inX7g w hw)) (hts _ (g_T_in ins_X7))
  obtain ⟨y0, a0⟩ := w_ty (ty := .int) (fun C h => by cases h) (hts _ (g_T_in ac_int))
  obtain ⟨y4, a4⟩ := w_ty (ty := .boolean) (fun C h => by cases h) (hts _ (g_T_in ac_boolean))
  obtain ⟨y5, a5⟩ := w_ty (ty := .long) (fun C h => by cases h) (hts _ (g_T_in ac_long))
  obtain ⟨y1, a1⟩ := w_tyA (hts (.arrayOver (.array .int)) (by decide +kernel))
  obtain ⟨y2, a2⟩ := w_tyO (hts (.arrayOver (.object "SearchWire$Session")) (by decide +kernel))
  obtain ⟨y3, a3⟩ := w_tyO (hts (.arrayOver (.object "SearchWire$ResultSet")) (by decide +kernel))
  refine ⟨(fun k => if k = 0 then c0 else if k = 1 then c1 else if k = 2 then c2 else if k = 3 then c3 else if k = 4 then c4 else if k = 5 then c5 else if k = 6 then c6 else if k = 7 then c7 else if k = 8 then c8 else c9, fun k => if k = 0 then i0 else if k = 1 then i1 else if k = 2 then i2 else if k = 3 then i3 else if k = 4 then i4 else if k = 5 then i5 else if k = 6 then i6 else if k = 7 then i7 else if k = 8 then i8 else i9), fun k => if k = 0 then y0 else if k = 1 then y1 else if k = 2 then y2 else if k = 3 then y3 else if k = 4 then y4 else y5, ?_, ?_⟩
  · intro k q hq
    match k, hq with
    | 0, hq => cases hq; exact k0
    | 1, hq => cases hq; exact k1
    | 2, hq => cases hq; exact k2
    | 3, hq => cases hq; exact k3
    | 4, hq => cases hq; exact k4
    | 5, hq => cases hq; exact k5
    | 6, hq => cases hq; exact k6
    | 7, hq => cases hq; exact k7
    | 8, hq => cases hq; exact k8
    | 9, hq => cases hq; exact k9
    | k + 10, hq => simp [vwCl] at hq
  · intro k q hq
    match k, hq with
    | 0, hq => cases hq; exact a0
    | 1, hq => cases hq; exact a1
    | 2, hq => cases hq; exact a2
    | 3, hq => cases hq; exact a3
    | 4, hq => cases hq; exact a4
    | 5, hq => cases hq; exact a5
    | k + 6, hq => simp [x_tys] at hq
theorem w_nest {s : State} {A : Array Value} (hts : ∀ w ∈ lw_tbl, w.before A s = true) : h_N s :=
  ⟨⟨⟨(va_Nw.of rfl (hts (.methodLinkNest RX2 28 yX6_isIndex RX6) (by decide +kernel))), (va_Nw.of rfl (hts (.methodLinkNest RX2 31 yX6_isTerm RX6) (by decide +kernel)))⟩, ⟨(va_Nw.of rfl (hts (.methodLinkNest RX1 28 yX6_isIndex RX6) (by decide +kernel))), (va_Nw.of rfl (hts (.methodLinkNest RX1 32 yX6_isTerm RX6) (by decide +kernel)))⟩⟩, ⟨⟨(va_Nw.of rfl (hts (.methodLinkNest RX6 9 yX2_init RX6) (by decide +kernel))), (va_Nw.of rfl (hts (.methodLinkNest RX6 18 yX1_init RX6) (by decide +kernel)))⟩, ⟨(va_Nw.of rfl (hts (.methodLinkNest RX5 31 yX3_init RX6) (by decide +kernel))), (va_Nw.of rfl (hts (.methodLinkNest RX5 43 yX4_init RX6) (by decide +kernel)))⟩⟩, ⟨va_AO.of (hts _ (by decide +kernel)), va_AO.of (hts _ (by decide +kernel)), hts (.arrayOver (.array .int)) (by decide +kernel)⟩⟩
theorem w_thr {s : State} {b : Nat} (hts : ∀ w ∈ lw_tbl, w.before #[Value.ref b] s = true) (hg : (Jvm.Cond.and given_1 narrow_1).before #[Value.ref b] s = true) : ∃ sa, e_N (fun q => s.heap.size ≤ q) sa s s.heap := by
  have hf := flat_of_before _ hg
  have hS : (Cond.stringRef RX6 150 "no such term was scanned").before #[Value.ref b] s = true := hts _ (by decide +kernel)
  obtain ⟨cC, kC, hfc, -⟩ := Cond.instantiable_spec (hts _ (g_T_in ins_X6))
  obtain ⟨k, cf, i, a, -, -, -, -, -, hev⟩ := Cond.stringRef_spec hfc hS
  refine ⟨a, vk_R.of hS hev, vx_Zqof (hts _ (by decide +kernel)) (hts _ (by decide +kernel)) (hf _ (by decide +kernel)) (fun a h => Nat.not_le.mpr h), vx_Zqof (hts _ (by decide +kernel)) (hts _ (by decide +kernel)) (hf _ (by decide +kernel)) (fun a h => Nat.not_le.mpr h), fun w hw => ?_⟩
  exact va_Nw.of (e_dc_ot (e_dcs w hw)) (hts w (e_all w (List.mem_filter.mp hw).1))
set_option maxHeartbeats 4000000 in
set_option maxRecDepth 100000 in
theorem w_X0 {D : va_G} {cy : Nat → ClassId} {dom : g_S → Prop} {L : g_S → Nat} {V : g_S → va_E} {H : Heap} (h : g_H D vwCl (fun x => g_add dom (0, 0, 0) x ∨ x = (1, 0, 0) ∨ x = (3, 0, 0) ∨ x = (4, 0, 0) ∨ x = (10, 0, 0) ∨ x = (10, 1, 0) ∨ x = (10, 2, 0) ∨ x = (10, 3, 0) ∨ x = (10, 4, 0) ∨ x = (2, 0, 0) ∨ x = (5, 0, 0) ∨ x = (6, 0, 0) ∨ x = (7, 0, 0) ∨ x = (8, 0, 0) ∨ x = (9, 0, 0)) L (fun x => if x = (0, 0, 0) then .inr (8, [.ref (L (1, 0, 0)), .ref (L (2, 0, 0)), .ref (L (9, 0, 0)), .int 0]) else if x = (1, 0, 0) then .inr (4, [.ref (L (3, 0, 0)), .ref (L (4, 0, 0)), .int 0]) else if x = (3, 0, 0) then .inl (cy 0, 100, .inl (fun _ => 0)) else if x = (4, 0, 0) then .inl (cy 1, 5, .inr (.inr (.inr (.inr (va_up (va_up (va_up (va_up (va_up (fun _ => none) 0 (some (L (10, 0, 0)))) 1 (some (L (10, 1, 0)))) 2 (some (L (10, 2, 0)))) 3 (some (L (10, 3, 0)))) 4 (some (L (10, 4, 0)))))))) else if x = (10, 0, 0) then .inl (cy 0, 100, .inl (fun _ => 0)) else if x = (10, 1, 0) then .inl (cy 0, 100, .inl (fun _ => 0)) else if x = (10, 2, 0) then .inl (cy 0, 100, .inl (fun _ => 0)) else if x = (10, 3, 0) then .inl (cy 0, 100, .inl (fun _ => 0)) else if x = (10, 4, 0) then .inl (cy 0, 100, .inl (fun _ => 0)) else if x = (2, 0, 0) then .inr (3, [.ref (L (5, 0, 0)), .ref (L (6, 0, 0)), .ref (L (7, 0, 0)), .ref (L (8, 0, 0)), .int 0]) else if x = (5, 0, 0) then .inl (cy 0, 40, .inl (fun _ => 0)) else if x = (6, 0, 0) then .inl (cy 0, 40, .inl (fun _ => 0)) else if x = (7, 0, 0) then .inl (cy 0, 40, .inl (fun _ => 0)) else if x = (8, 0, 0) then .inl (cy 0, 40, .inl (fun _ => 0)) else if x = (9, 0, 0) then .inl (cy 2, 8, .inr (.inr (.inr (.inr (fun _ => none))))) else V x) H) : g_H D vwCl (x_dom 0 (fun _ => 0)) L (fun z => x_K cy L 0 (fun _ => 0) z ((fun _ _ => 0 : r_M) z)) H := by
  refine h.congrA (fun x hx => ?_) (fun x hx => ?_)
  · match x, hx with
    | (0, i, j), ⟨h1, h2⟩ => subst h1; subst h2; exact Or.inl (Or.inr rfl)
    | (1, i, j), ⟨h1, h2⟩ => subst h1; subst h2; exact Or.inr (by simp)
    | (2, i, j), ⟨h1, h2⟩ => subst h1; subst h2; exact Or.inr (by simp)
    | (3, i, j), ⟨h1, h2⟩ => subst h1; subst h2; exact Or.inr (by simp)
    | (4, i, j), ⟨h1, h2⟩ => subst h1; subst h2; exact Or.inr (by simp)
    | (5, i, j), ⟨h1, h2⟩ => subst h1; subst h2; exact Or.inr (by simp)
    | (6, i, j), ⟨h1, h2⟩ => subst h1; subst h2; exact Or.inr (by simp)
    | (7, i, j), ⟨h1, h2⟩ => subst h1; subst h2; exact Or.inr (by simp)
    | (8, i, j), ⟨h1, h2⟩ => subst h1; subst h2; exact Or.inr (by simp)
    | (9, i, j), ⟨h1, h2⟩ => subst h1; subst h2; exact Or.inr (by simp)
    | (10, i, j), ⟨h1, h2⟩ =>
      subst h2
      rcases (show i = 0 ∨ i = 1 ∨ i = 2 ∨ i = 3 ∨ i = 4 by omega) with rfl | rfl | rfl | rfl | rfl
      · exact Or.inr (by simp)
      · exact Or.inr (by simp)
      · exact Or.inr (by simp)
      · exact Or.inr (by simp)
      · exact Or.inr (by simp)
    | (11, i, j), ⟨h1, h2⟩ => exact absurd h1 (Nat.not_lt_zero _)
    | (12, i, j), ⟨h1, h2⟩ => exact absurd h1 (Nat.not_lt_zero _)
    | (13, i, j), ⟨h1, h2⟩ => exact absurd h1 (Nat.not_lt_zero _)
    | (14, i, j), ⟨h1, h2⟩ => exact absurd h1 (Nat.not_lt_zero _)
    | (15, i, j), ⟨h1, h2⟩ => exact absurd h1 (Nat.not_lt_zero _)
    | (16, i, j), ⟨h1, h2⟩ => exact absurd h1 (Nat.not_lt_zero _)
    | (17, i, j), ⟨h1, h2⟩ => exact absurd h1 (Nat.not_lt_zero _)
    | (18, i, j), ⟨h1, h2⟩ => exact absurd h1 (Nat.not_lt_zero _)
    | (19, i, j), ⟨h1, h2⟩ => exact absurd h1 (Nat.not_lt_zero _)
    | (20, i, j), ⟨h1, h2⟩ => exact absurd h1 (Nat.not_lt_zero _)
    | (21, i, j), ⟨h1, h2⟩ => exact absurd h1 (Nat.not_lt_zero _)
  · match x, hx with
    | (0, i, j), ⟨h1, h2⟩ => subst h1; subst h2; exact Or.inl rfl
    | (1, i, j), ⟨h1, h2⟩ => subst h1; subst h2; exact Or.inl rfl
    | (2, i, j), ⟨h1, h2⟩ => subst h1; subst h2; exact Or.inl rfl
    | (3, i, j), ⟨h1, h2⟩ => subst h1; subst h2; exact Or.inl rfl
    | (4, i, j), ⟨h1, h2⟩ => subst h1; subst h2; refine g_same.refs fun j hj => ?_; rcases (show j = 0 ∨ j = 1 ∨ j = 2 ∨ j = 3 ∨ j = 4 by omega) with rfl | rfl | rfl | rfl | rfl <;> rfl
    | (5, i, j), ⟨h1, h2⟩ => subst h1; subst h2; exact Or.inl rfl
    | (6, i, j), ⟨h1, h2⟩ => subst h1; subst h2; exact Or.inl rfl
    | (7, i, j), ⟨h1, h2⟩ => subst h1; subst h2; exact Or.inl rfl
    | (8, i, j), ⟨h1, h2⟩ => subst h1; subst h2; exact Or.inl rfl
    | (9, i, j), ⟨h1, h2⟩ => subst h1; subst h2; exact g_same.refs fun j hj => rfl
    | (10, i, j), ⟨h1, h2⟩ =>
      subst h2
      rcases (show i = 0 ∨ i = 1 ∨ i = 2 ∨ i = 3 ∨ i = 4 by omega) with rfl | rfl | rfl | rfl | rfl
      · exact Or.inl rfl
      · exact Or.inl rfl
      · exact Or.inl rfl
      · exact Or.inl rfl
      · exact Or.inl rfl
    | (11, i, j), ⟨h1, h2⟩ => exact absurd h1 (Nat.not_lt_zero _)
    | (12, i, j), ⟨h1, h2⟩ => exact absurd h1 (Nat.not_lt_zero _)
    | (13, i, j), ⟨h1, h2⟩ => exact absurd h1 (Nat.not_lt_zero _)
    | (14, i, j), ⟨h1, h2⟩ => exact absurd h1 (Nat.not_lt_zero _)
    | (15, i, j), ⟨h1, h2⟩ => exact absurd h1 (Nat.not_lt_zero _)
    | (16, i, j), ⟨h1, h2⟩ => exact absurd h1 (Nat.not_lt_zero _)
    | (17, i, j), ⟨h1, h2⟩ => exact absurd h1 (Nat.not_lt_zero _)
    | (18, i, j), ⟨h1, h2⟩ => exact absurd h1 (Nat.not_lt_zero _)
    | (19, i, j), ⟨h1, h2⟩ => exact absurd h1 (Nat.not_lt_zero _)
    | (20, i, j), ⟨h1, h2⟩ => exact absurd h1 (Nat.not_lt_zero _)
    | (21, i, j), ⟨h1, h2⟩ => exact absurd h1 (Nat.not_lt_zero _)
set_option maxHeartbeats 4000000 in
set_option maxRecDepth 100000 in
theorem w_M0 {D : va_G} {cy : Nat → ClassId} {dom : g_S → Prop} {L : g_S → Nat} {V : g_S → va_E} {H : Heap} (h : g_H D vwCl (fun x => g_add dom (0, 0, 0) x ∨ x = (1, 2, 0) ∨ x = (1, 3, 0) ∨ x = (1, 5, 0) ∨ x = (1, 6, 0) ∨ x = (1, 7, 0) ∨ x = (1, 8, 0) ∨ x = (2, 9, 0) ∨ x = (1, 11, 0) ∨ x = (1, 12, 0) ∨ x = (2, 13, 0) ∨ x = (1, 14, 0) ∨ x = (1, 15, 0) ∨ x = (1, 16, 0) ∨ x = (1, 17, 0) ∨ x = (1, 18, 0) ∨ x = (1, 19, 0) ∨ x = (1, 20, 0) ∨ x = (1, 21, 0) ∨ x = (1, 22, 0) ∨ x = (1, 23, 0) ∨ x = (1, 24, 0) ∨ x = (1, 25, 0) ∨ x = (1, 26, 0) ∨ x = (1, 27, 0)) L (fun x => if x = (0, 0, 0) then .inr (9, [.int 0, .int 0, .ref (L (1, 2, 0)), .ref (L (1, 3, 0)), .int 0, .ref (L (1, 5, 0)), .ref (L (1, 6, 0)), .ref (L (1, 7, 0)), .ref (L (1, 8, 0)), .ref (L (2, 9, 0)), .int 0, .ref (L (1, 11, 0)), .ref (L (1, 12, 0)), .ref (L (2, 13, 0)), .ref (L (1, 14, 0)), .ref (L (1, 15, 0)), .ref (L (1, 16, 0)), .ref (L (1, 17, 0)), .ref (L (1, 18, 0)), .ref (L (1, 19, 0)), .ref (L (1, 20, 0)), .ref (L (1, 21, 0)), .ref (L (1, 22, 0)), .ref (L (1, 23, 0)), .ref (L (1, 24, 0)), .ref (L (1, 25, 0)), .ref (L (1, 26, 0)), .ref (L (1, 27, 0))]) else if x = (1, 2, 0) then .inl (cy 0, 100, .inl (fun _ => 0)) else if x = (1, 3, 0) then .inl (cy 0, 500, .inl (fun _ => 0)) else if x = (1, 5, 0) then .inl (cy 0, 40, .inl (fun _ => 0)) else if x = (1, 6, 0) then .inl (cy 0, 40, .inl (fun _ => 0)) else if x = (1, 7, 0) then .inl (cy 0, 40, .inl (fun _ => 0)) else if x = (1, 8, 0) then .inl (cy 0, 40, .inl (fun _ => 0)) else if x = (2, 9, 0) then .inl (cy 4, 40, .inl (fun _ => 0)) else if x = (1, 11, 0) then .inl (cy 0, 8, .inl (fun _ => 0)) else if x = (1, 12, 0) then .inl (cy 0, 8, .inl (fun _ => 0)) else if x = (2, 13, 0) then .inl (cy 4, 8, .inl (fun _ => 0)) else if x = (1, 14, 0) then .inl (cy 0, 8, .inl (fun _ => 0)) else if x = (1, 15, 0) then .inl (cy 0, 8, .inl (fun _ => 0)) else if x = (1, 16, 0) then .inl (cy 0, 40, .inl (m_f0 40)) else if x = (1, 17, 0) then .inl (cy 0, 4000, .inl (fun _ => 0)) else if x = (1, 18, 0) then .inl (cy 0, 8, .inl (fun _ => 0)) else if x = (1, 19, 0) then .inl (cy 0, 800, .inl (fun _ => 0)) else if x = (1, 20, 0) then .inl (cy 0, 8, .inl (fun _ => 0)) else if x = (1, 21, 0) then .inl (cy 0, 800, .inl (fun _ => 0)) else if x = (1, 22, 0) then .inl (cy 0, 800, .inl (fun _ => 0)) else if x = (1, 23, 0) then .inl (cy 0, 800, .inl (fun _ => 0)) else if x = (1, 24, 0) then .inl (cy 0, 8, .inl (fun _ => 0)) else if x = (1, 25, 0) then .inl (cy 0, 160, .inl (fun _ => 0)) else if x = (1, 26, 0) then .inl (cy 0, 160, .inl (fun _ => 0)) else if x = (1, 27, 0) then .inl (cy 0, 1000, .inl (fun _ => 0)) else V x) H) : g_H D vwCl m_dom L (fun z => m_K cy L z ((fun z => if z = (1, 16, 0) then m_f0 40 else fun _ => 0) z)) H := by
  refine h.congrA (fun x hx => ?_) (fun x hx => ?_)
  · match x, hx with
    | (0, i, j), ⟨h1, h2⟩ => subst h1; subst h2; exact Or.inl (Or.inr rfl)
    | (1, i, j), ⟨h1, h2⟩ =>
      subst h2
      rcases h1 with rfl | rfl | rfl | rfl | rfl | rfl | rfl | rfl | rfl | rfl | rfl | rfl | rfl | rfl | rfl | rfl | rfl | rfl | rfl | rfl | rfl | rfl
      · exact Or.inr (by simp)
      · exact Or.inr (by simp)
      · exact Or.inr (by simp)
      · exact Or.inr (by simp)
      · exact Or.inr (by simp)
      · exact Or.inr (by simp)
      · exact Or.inr (by simp)
      · exact Or.inr (by simp)
      · exact Or.inr (by simp)
      · exact Or.inr (by simp)
      · exact Or.inr (by simp)
      · exact Or.inr (by simp)
      · exact Or.inr (by simp)
      · exact Or.inr (by simp)
      · exact Or.inr (by simp)
      · exact Or.inr (by simp)
      · exact Or.inr (by simp)
      · exact Or.inr (by simp)
      · exact Or.inr (by simp)
      · exact Or.inr (by simp)
      · exact Or.inr (by simp)
      · exact Or.inr (by simp)
    | (2, i, j), ⟨h1, h2⟩ =>
      subst h2
      rcases h1 with rfl | rfl
      · exact Or.inr (by simp)
      · exact Or.inr (by simp)
  · match x, hx with
    | (0, i, j), ⟨h1, h2⟩ => subst h1; subst h2; exact Or.inl rfl
    | (1, i, j), ⟨h1, h2⟩ =>
      subst h2
      rcases h1 with rfl | rfl | rfl | rfl | rfl | rfl | rfl | rfl | rfl | rfl | rfl | rfl | rfl | rfl | rfl | rfl | rfl | rfl | rfl | rfl | rfl | rfl
      · exact Or.inl rfl
      · exact Or.inl rfl
      · exact Or.inl rfl
      · exact Or.inl rfl
      · exact Or.inl rfl
      · exact Or.inl rfl
      · exact Or.inl rfl
      · exact Or.inl rfl
      · exact Or.inl rfl
      · exact Or.inl rfl
      · exact Or.inl rfl
      · exact Or.inl rfl
      · exact Or.inl rfl
      · exact Or.inl rfl
      · exact Or.inl rfl
      · exact Or.inl rfl
      · exact Or.inl rfl
      · exact Or.inl rfl
      · exact Or.inl rfl
      · exact Or.inl rfl
      · exact Or.inl rfl
      · exact Or.inl rfl
    | (2, i, j), ⟨h1, h2⟩ =>
      subst h2
      rcases h1 with rfl | rfl
      · exact Or.inl rfl
      · exact Or.inl rfl
set_option maxHeartbeats 4000000 in
set_option maxRecDepth 100000 in
theorem w_X0d {dom : g_S → Prop} {x : g_S} (hx : x_dom 0 (fun _ => 0) x) : (fun x => g_add dom (0, 0, 0) x ∨ x = (1, 0, 0) ∨ x = (3, 0, 0) ∨ x = (4, 0, 0) ∨ x = (10, 0, 0) ∨ x = (10, 1, 0) ∨ x = (10, 2, 0) ∨ x = (10, 3, 0) ∨ x = (10, 4, 0) ∨ x = (2, 0, 0) ∨ x = (5, 0, 0) ∨ x = (6, 0, 0) ∨ x = (7, 0, 0) ∨ x = (8, 0, 0) ∨ x = (9, 0, 0)) x := by
  match x, hx with
  | (0, i, j), ⟨h1, h2⟩ => subst h1; subst h2; exact Or.inl (Or.inr rfl)
  | (1, i, j), ⟨h1, h2⟩ => subst h1; subst h2; exact Or.inr (by simp)
  | (2, i, j), ⟨h1, h2⟩ => subst h1; subst h2; exact Or.inr (by simp)
  | (3, i, j), ⟨h1, h2⟩ => subst h1; subst h2; exact Or.inr (by simp)
  | (4, i, j), ⟨h1, h2⟩ => subst h1; subst h2; exact Or.inr (by simp)
  | (5, i, j), ⟨h1, h2⟩ => subst h1; subst h2; exact Or.inr (by simp)
  | (6, i, j), ⟨h1, h2⟩ => subst h1; subst h2; exact Or.inr (by simp)
  | (7, i, j), ⟨h1, h2⟩ => subst h1; subst h2; exact Or.inr (by simp)
  | (8, i, j), ⟨h1, h2⟩ => subst h1; subst h2; exact Or.inr (by simp)
  | (9, i, j), ⟨h1, h2⟩ => subst h1; subst h2; exact Or.inr (by simp)
  | (10, i, j), ⟨h1, h2⟩ =>
    subst h2
    rcases (show i = 0 ∨ i = 1 ∨ i = 2 ∨ i = 3 ∨ i = 4 by omega) with rfl | rfl | rfl | rfl | rfl
    · exact Or.inr (by simp)
    · exact Or.inr (by simp)
    · exact Or.inr (by simp)
    · exact Or.inr (by simp)
    · exact Or.inr (by simp)
  | (11, i, j), ⟨h1, h2⟩ => exact absurd h1 (Nat.not_lt_zero _)
  | (12, i, j), ⟨h1, h2⟩ => exact absurd h1 (Nat.not_lt_zero _)
  | (13, i, j), ⟨h1, h2⟩ => exact absurd h1 (Nat.not_lt_zero _)
  | (14, i, j), ⟨h1, h2⟩ => exact absurd h1 (Nat.not_lt_zero _)
  | (15, i, j), ⟨h1, h2⟩ => exact absurd h1 (Nat.not_lt_zero _)
  | (16, i, j), ⟨h1, h2⟩ => exact absurd h1 (Nat.not_lt_zero _)
  | (17, i, j), ⟨h1, h2⟩ => exact absurd h1 (Nat.not_lt_zero _)
  | (18, i, j), ⟨h1, h2⟩ => exact absurd h1 (Nat.not_lt_zero _)
  | (19, i, j), ⟨h1, h2⟩ => exact absurd h1 (Nat.not_lt_zero _)
  | (20, i, j), ⟨h1, h2⟩ => exact absurd h1 (Nat.not_lt_zero _)
  | (21, i, j), ⟨h1, h2⟩ => exact absurd h1 (Nat.not_lt_zero _)
set_option maxHeartbeats 4000000 in
set_option maxRecDepth 100000 in
theorem w_M0d {dom : g_S → Prop} {x : g_S} (hx : m_dom x) : (fun x => g_add dom (0, 0, 0) x ∨ x = (1, 2, 0) ∨ x = (1, 3, 0) ∨ x = (1, 5, 0) ∨ x = (1, 6, 0) ∨ x = (1, 7, 0) ∨ x = (1, 8, 0) ∨ x = (2, 9, 0) ∨ x = (1, 11, 0) ∨ x = (1, 12, 0) ∨ x = (2, 13, 0) ∨ x = (1, 14, 0) ∨ x = (1, 15, 0) ∨ x = (1, 16, 0) ∨ x = (1, 17, 0) ∨ x = (1, 18, 0) ∨ x = (1, 19, 0) ∨ x = (1, 20, 0) ∨ x = (1, 21, 0) ∨ x = (1, 22, 0) ∨ x = (1, 23, 0) ∨ x = (1, 24, 0) ∨ x = (1, 25, 0) ∨ x = (1, 26, 0) ∨ x = (1, 27, 0)) x := by
  match x, hx with
  | (0, i, j), ⟨h1, h2⟩ => subst h1; subst h2; exact Or.inl (Or.inr rfl)
  | (1, i, j), ⟨h1, h2⟩ =>
    subst h2
    rcases h1 with rfl | rfl | rfl | rfl | rfl | rfl | rfl | rfl | rfl | rfl | rfl | rfl | rfl | rfl | rfl | rfl | rfl | rfl | rfl | rfl | rfl | rfl
    · exact Or.inr (by simp)
    · exact Or.inr (by simp)
    · exact Or.inr (by simp)
    · exact Or.inr (by simp)
    · exact Or.inr (by simp)
    · exact Or.inr (by simp)
    · exact Or.inr (by simp)
    · exact Or.inr (by simp)
    · exact Or.inr (by simp)
    · exact Or.inr (by simp)
    · exact Or.inr (by simp)
    · exact Or.inr (by simp)
    · exact Or.inr (by simp)
    · exact Or.inr (by simp)
    · exact Or.inr (by simp)
    · exact Or.inr (by simp)
    · exact Or.inr (by simp)
    · exact Or.inr (by simp)
    · exact Or.inr (by simp)
    · exact Or.inr (by simp)
    · exact Or.inr (by simp)
    · exact Or.inr (by simp)
  | (2, i, j), ⟨h1, h2⟩ =>
    subst h2
    rcases h1 with rfl | rfl
    · exact Or.inr (by simp)
    · exact Or.inr (by simp)
set_option maxHeartbeats 4000000 in
theorem whole_start {p : Program} {e : Env} {s : State} {m : MethodId} {below : List Frame} {meth : Method} {c : Code} (l : Launch) (hl0 : l.stackTraces = false) {b L : Nat} {xs : Nat → Int32} (hL : L ≤ 3072) (C0 : lw_At p s m meth c b L xs) : W p l e room_1 s m #[Value.ref b] below meth c s.heap [] 0 0 (lw_Z below #[Value.ref b] s) (entryFrame m ([Value.ref b] : List Value).toArray 7) := by
  obtain ⟨hx, hb, hr, hml, hown, hts, hXs, hbl, hlk, hgv⟩ := C0
  have hb : c.code = cL_law := hb
  have htg : ∀ w ∈ g_T, w.before #[Value.ref b] s = true := fun w hw => hts w (g_T_in hw)
  obtain ⟨D, cy, hK⟩ := w_known hts
  have hN := w_nest hts
  obtain ⟨sa, hE⟩ := w_thr hts hgv
  have hl := lv_entry ([.ref b]) (n := 7) (Nat.le_of_ble_eq_true rfl)
  rw [lg_entry_eq]
  generalize (lg_sl ([.ref b]) ++ List.replicate (7 - (lg_sl ([.ref b])).length) Slot.unset).toArray = ls at hl ⊢
  have hl : lv_has ls 7 [(0, .ref b)] := hl
  have hown : s.vm.findClass RL = some m.cls := hown
  have hS : va_S (fun q => s.heap.size ≤ q) s.heap s.heap [] := va_S.rf
  have hG : g_H D vwCl (fun _ => False) (fun _ => 0) (fun _ : g_S => (Sum.inl (0, 0, .inl (fun _ => 0)) : va_E)) s.heap := ⟨fun x h => h.elim, fun x y h => h.elim⟩
  show W p l e room_1 s m #[Value.ref b] below meth c s.heap [] 0 0 _ (F0 m 0 ls [])
  refine h_newo (C := RX6) (T := TX6) (N := 4) (ci := 8) (fs := [.null, .null, .null, .int 0]) hx hb htg inX6g tyX6_ok hown cl_L_8 ins_X6 ini_X6 hK hG hS (0, 0, 0) (fun h => h) rfl (fun j hj => by rcases (show j = 0 ∨ j = 1 ∨ j = 2 ∨ j = 3 by omega) with rfl | rfl | rfl | rfl <;> rfl) (Nat.le_of_ble_eq_true rfl) (Nat.le_of_ble_eq_true rfl) dL_law_0 (fun L1 a1 H1 hL1 ea ha hG hS hz1 o1 => ?_)
  refine lv_dup hx hb dL_law_3 rfl ?_
  have hn1 := hS.1
  refine h_cont (va_runI (As := []) (rest := [.ref a1]) ⟨hx, hb, hml, hown, htg⟩ (k_X6_init l D cy _ L1 _ H1.size a1 ea (Or.inr rfl) g_set_self (fun h => by rcases h with h | h; exact h; simp at h) (fun h => by rcases h with h | h; exact h; simp at h) (fun h => by rcases h with h | h; exact h; simp at h) (fun h => by rcases h with h | h; exact h; simp at h) (fun h => by rcases h with h | h; exact h; simp at h) (fun h => by rcases h with h | h; exact h; simp at h) (fun h => by rcases h with h | h; exact h; simp at h) (fun h => by rcases h with h | h; exact h; simp at h) (fun h => by rcases h with h | h; exact h; simp at h) (fun h => by rcases h with h | h; exact h; simp at h) (fun h => by rcases h with h | h; exact h; simp at h) (fun h => by rcases h with h | h; exact h; simp at h) (fun h => by rcases h with h | h; exact h; simp at h) (fun h => by rcases h with h | h; exact h; simp at h)) (cwI 0 htg (g_good cwd_X6_init) rfl rfl rfl (htg _ ini_X6) (htg _ ml_L_15) (htg _ im_X6_init) rfl (by decide +kernel) ⟨Nat.le_of_ble_eq_true rfl, Nat.le_of_ble_eq_true rfl⟩) (h_pre hK hN hG) rfl rfl hl.1 rfl (lv_room (Nat.le_of_ble_eq_true rfl)) dL_law_4 ⟨Nat.le_of_ble_eq_true rfl, Nat.le_of_ble_eq_true rfl⟩) hS (fun q hq => hq.elim (fun e9 => by rw [e9]; exact ha) (fun h9 => Nat.le_trans hS.1 h9)) (fun LX HX locsX hL2 hn2 hG hS hz2 o2 => ?_)
  refine W.eq (g2 := F0 m 7 ls [.ref a1]) rfl ?_
  have hLa : LX (0, 0, 0) = a1 := (hL2 (0, 0, 0) (Or.inr rfl)).trans ea
  have lX : ∀ x, x_dom 0 (fun _ => 0) x → s.heap.size ≤ LX x := fun x h => by
    have h9 := hn2 x (w_X0d h)
    rcases h9 with (h | h) | h
    · exact h.elim
    · rw [h, hLa]; exact ha
    · exact Nat.le_trans hn1 h
  have hX := w_X0 (cy := cy) hG
  refine lv_astore_n (lv' := [(1, .ref a1), (0, .ref b)]) hx hb dL_law_7 rfl hl (by decide) rfl (fun ls hl => ?_)
  have hG : g_H D vwCl (fun _ => False) (fun _ => 0) (fun _ : g_S => (Sum.inl (0, 0, .inl (fun _ => 0)) : va_E)) HX := ⟨fun x h => h.elim, fun x y h => h.elim⟩
  refine h_newo (C := RX7) (T := TX7) (N := 28) (ci := 9) (fs := [.int 0, .int 0, .null, .null, .int 0, .null, .null, .null, .null, .null, .int 0, .null, .null, .null, .null, .null, .null, .null, .null, .null, .null, .null, .null, .null, .null, .null, .null, .null]) hx hb htg inX7g tyX7_ok hown cl_L_16 ins_X7 ini_X7 hK hG hS (0, 0, 0) (fun h => h) rfl (fun j hj => by rcases (show j = 0 ∨ j = 1 ∨ j = 2 ∨ j = 3 ∨ j = 4 ∨ j = 5 ∨ j = 6 ∨ j = 7 ∨ j = 8 ∨ j = 9 ∨ j = 10 ∨ j = 11 ∨ j = 12 ∨ j = 13 ∨ j = 14 ∨ j = 15 ∨ j = 16 ∨ j = 17 ∨ j = 18 ∨ j = 19 ∨ j = 20 ∨ j = 21 ∨ j = 22 ∨ j = 23 ∨ j = 24 ∨ j = 25 ∨ j = 26 ∨ j = 27 by omega) with rfl | rfl | rfl | rfl | rfl | rfl | rfl | rfl | rfl | rfl | rfl | rfl | rfl | rfl | rfl | rfl | rfl | rfl | rfl | rfl | rfl | rfl | rfl | rfl | rfl | rfl | rfl | rfl <;> rfl) (Nat.le_of_ble_eq_true rfl) (Nat.le_of_ble_eq_true rfl) dL_law_8 (fun L3 a3 H3 hL3 ea3 ha3 hG hS hz3 o3 => ?_)
  have ltX : ∀ x, x_dom 0 (fun _ => 0) x → LX x < HX.size := fun x h => hX.lt h
  have hX := hX.kept (fun x hx => o3 _ (hX.lt hx))
  have h33 : a3 < H3.size := by rw [← ea3]; exact hG.lt (Or.inr rfl)
  refine lv_dup hx hb dL_law_11 rfl ?_
  refine h_cont (va_runI (As := []) (rest := [.ref a3]) ⟨hx, hb, hml, hown, htg⟩ (k_X7_init l D cy _ L3 _ H3.size a3 ea3 (Or.inr rfl) g_set_self (fun h => by rcases h with h | h; exact h; simp at h) (fun h => by rcases h with h | h; exact h; simp at h) (fun h => by rcases h with h | h; exact h; simp at h) (fun h => by rcases h with h | h; exact h; simp at h) (fun h => by rcases h with h | h; exact h; simp at h) (fun h => by rcases h with h | h; exact h; simp at h) (fun h => by rcases h with h | h; exact h; simp at h) (fun h => by rcases h with h | h; exact h; simp at h) (fun h => by rcases h with h | h; exact h; simp at h) (fun h => by rcases h with h | h; exact h; simp at h) (fun h => by rcases h with h | h; exact h; simp at h) (fun h => by rcases h with h | h; exact h; simp at h) (fun h => by rcases h with h | h; exact h; simp at h) (fun h => by rcases h with h | h; exact h; simp at h) (fun h => by rcases h with h | h; exact h; simp at h) (fun h => by rcases h with h | h; exact h; simp at h) (fun h => by rcases h with h | h; exact h; simp at h) (fun h => by rcases h with h | h; exact h; simp at h) (fun h => by rcases h with h | h; exact h; simp at h) (fun h => by rcases h with h | h; exact h; simp at h) (fun h => by rcases h with h | h; exact h; simp at h) (fun h => by rcases h with h | h; exact h; simp at h) (fun h => by rcases h with h | h; exact h; simp at h) (fun h => by rcases h with h | h; exact h; simp at h)) (cwI 0 htg (g_good cwd_X7_init) rfl rfl rfl (htg _ ini_X7) (htg _ ml_L_18) (htg _ im_X7_init) rfl (by decide +kernel) ⟨Nat.le_of_ble_eq_true rfl, Nat.le_of_ble_eq_true rfl⟩) (h_pre hK hN hG) rfl rfl hl.1 rfl (lv_room (Nat.le_of_ble_eq_true rfl)) dL_law_12 ⟨Nat.le_of_ble_eq_true rfl, Nat.le_of_ble_eq_true rfl⟩) hS (fun q hq => hq.elim (fun e9 => by rw [e9]; exact ha3) (fun h9 => Nat.le_trans hS.1 h9)) (fun LM HM locsM hL4 hn4 hG hS hz4 o4 => ?_)
  refine W.eq (g2 := F0 m 15 ls [.ref a3]) rfl ?_
  have hMa : LM (0, 0, 0) = a3 := (hL4 (0, 0, 0) (Or.inr rfl)).trans ea3
  have hX := hX.kept (fun x hx => o4 _ (hX.lt hx) (fun h => by
    have h1 := ltX x hx
    have h2 := hX.lt hx
    rcases h with h | h <;> omega))
  have hM := w_M0 (cy := cy) hG
  have lM0 : ∀ y, m_dom y → HX.size ≤ LM y := fun y h => by
    rcases hn4 y (w_M0d h) with (h | h) | h
    · exact h.elim
    · rw [h, hMa]; exact hz3
    · omega
  have hXs0 : s.heap.size ≤ HX.size := Nat.le_trans hn1 hz2
  refine lv_astore_n (lv' := [(2, .ref a3), (1, .ref a1), (0, .ref b)]) hx hb dL_law_15 rfl hl (by decide) rfl (fun ls hl => ?_)
  refine lv_iconst (v := 1) hx hb dL_law_16 (by decide) ?_
  have hG : g_H D vwCl (fun _ => False) (fun _ => 0) (fun _ : g_S => (Sum.inl (0, 0, .inl (fun _ => 0)) : va_E)) HM := ⟨fun x h => h.elim, fun x y h => h.elim⟩
  refine h_newa (harr := htg _ ac_long) (atype := .long) (ty := .long) (a0 := (1, .inr (.inl (fun _ => 0)))) hx hb rfl (fun C h => by cases h) hK 5 rfl hG hS (0, 0, 0) (fun h => h) rfl (by decide) rfl (by decide) (Nat.le_of_ble_eq_true rfl) (Nat.le_of_ble_eq_true rfl) dL_law_17 (fun L5 bo H5 hL5 ebo hbo hG hS hz5 o5 => ?_)
  have hO : w_O cy bo 0 H5 := by
    have h9 := hG.1 (0, 0, 0) (Or.inr rfl)
    rw [g_set_self, ebo] at h9
    exact h9
  have ltX5 : ∀ x, x_dom 0 (fun _ => 0) x → LX x < HM.size := fun x h => hX.lt h
  have ltM5 : ∀ y, m_dom y → LM y < HM.size := fun y h => hM.lt h
  have hX := hX.kept (fun x hx => o5 _ (hX.lt hx))
  have hM := hM.kept (fun x hx => o5 _ (hM.lt hx))
  refine lv_astore_n (lv' := [(3, .ref bo), (2, .ref a3), (1, .ref a1), (0, .ref b)]) hx hb dL_law_19 rfl hl (by decide) rfl (fun ls hl => ?_)
  refine lv_iconst (v := 0) hx hb dL_law_20 (by decide) ?_
  refine lv_istore (lv' := [(4, .int 0), (3, .ref bo), (2, .ref a3), (1, .ref a1), (0, .ref b)]) hx hb dL_law_21 hl (by decide) rfl (fun ls hl => ?_)
  refine W.widen (k := 100 + 20 * 0) (n := 20000 + 900 * 0) (Nat.le_of_ble_eq_true rfl) (Nat.le_of_ble_eq_true rfl) ?_
  exact law_loop (sa := sa) ⟨⟨hx, hb, hml, hown, htg⟩, ⟨hK, hN, hE⟩, ⟨hXs, hbl⟩, ⟨hl0, hL⟩⟩ hr hlk (L / 6) 0 LX 0 (fun _ => 0) (fun _ _ => 0) (fun z => if z = (1, 16, 0) then m_f0 40 else fun _ => 0) 0 H5 _ ls (by omega) ⟨⟨hX, hM, hO⟩, ⟨fun x y h1 h2 => by have := ltX x h1; have := lM0 y h2; omega, fun x h => by have := ltX5 x h; omega, fun y h => by have := ltM5 y h; omega⟩, ⟨lX, fun y h => Nat.le_trans hXs0 (lM0 y h), by omega⟩, r_start⟩ hS (by rw [hLa, hMa, show nI (6 * 0) = 0 from nI_0]; exact lv_sub hl [4, 3, 2, 1, 0] rfl)
set_option maxHeartbeats 4000000 in
theorem lw_walk (l : Launch) (hl0 : l.stackTraces = false) (b : Addr) (xs : List Int32) : MetFree l x (headSpec (Jvm.Cond.code x code maxLocals ret :: tables_1) room_1) (lw_P b xs) (fun _ _ _ _ _ => True) lw_Q := by
  refine MetFree.of_bodyS (code := code) (maxLocals := maxLocals) (ret := ret) (by decide) ?_ ?_
  · intro args s m h hn
    obtain ⟨meth, c, h1, h2, h3, h4, h5, h6, -, -⟩ := Cond.code_spec hn (atoms_spec (ws := Jvm.Cond.code x code maxLocals ret :: tables_1) h _ List.mem_cons_self)
    exact ⟨meth, c, h1, h2, h3, h4, h5, h6⟩
  · intro p e s m args below meth c s₁ B hml0 hP _
    obtain ⟨rfl, hx, hbd, hgv⟩ := hP
    obtain ⟨scr, harrAt, hlist, hof, hsmall⟩ := hx
    obtain ⟨hcb, hkn, -, -⟩ := State.arrayAt?_spec harrAt
    have hown : s.vm.findClass R_law = some m.cls := findClass_of_methodNamed B.named
    have hts0 : ∀ c ∈ (Jvm.Cond.code x code maxLocals ret :: tables_1), c.before #[Value.ref b] s = true := atoms_spec (ws := Jvm.Cond.code x code maxLocals ret :: tables_1) B.pre
    have hts : ∀ w ∈ lw_tbl, w.before #[Value.ref b] s = true := k2_hts_sels lw_privs (fun w hw => hts0 w (List.mem_cons_of_mem _ hw)) lw_privs_ok
    have hml : c.maxLocals = 7 := B.maxLocals_eq (hts0 _ List.mem_cons_self)
    have X₀ : Stand p l e room_1 s m #[Value.ref b] below meth c s₁ [] 0 0 := Stand.of_body B
    have hh0 : s₁.heap = s.heap := by rw [B.state]; rfl
    have hsz : scr.slots.size = xs.length := by rw [← Array.length_toList, hlist, List.length_map]
    have hval : ∀ j : Nat, j < xs.length → scr.slots[j]? = some (.int (xs.getD j 0)) := fun j hj => by
      rw [← Array.getElem?_toList, hlist]
      simp [hj]
    have hbl : b < s.heap.size := (Array.getElem?_eq_some_iff.mp hcb).1
    have hX : va_X b xs.length (fun j => xs.getD j 0) s s.heap := ⟨scr, hcb, hof, hkn, hsz, hval⟩
    have K : W p l e room_1 s m #[Value.ref b] below meth c s₁.heap [] 0 0 (lw_Z below #[Value.ref b] s) (entryFrame m ([Value.ref b] : List Value).toArray 7) := by
      rw [hh0]
      exact whole_start l hl0 hbd ⟨B.exec, B.bytes, B.returns, hml, hown, hts, hX, hbl, B.notSynchronized, hgv⟩
    obtain ⟨t, a1, o, b1, b2, b3⟩ := K s₁ rfl X₀
    exact ⟨t, o, a1, b1, b2, b3⟩
theorem lw_pre_spec {args : Array Value} {s : State} (h : (Jvm.Cond.and given_1 narrow_1).before args s = true) (hr : rest_1_c.before args s = true) : ∃ (b : Addr) (xs : List Int32), lw_P b xs args s := by
  have hs := flat_of_before _ h
  have hq := flat_of_before _ hr
  have hc : (Cond.count 1).before args s = true := hs _ (by decide +kernel)
  have harr : (Cond.arrayOf (.arg 0) .int).before args s = true := hs _ (by decide +kernel)
  have hle : (Cond.le (.length (.arg 0)) (.int 3072)).before args s = true := hs _ (by decide +kernel)
  have hlen : (Cond.isInt (.length (.arg 0))).before args s = true := hq _ (by decide +kernel)
  have hall : (Cond.all (.arg 0) (.isInt (.elem (.arg 0) (.index 0)))).before args s = true := hq _ (by decide +kernel)
  obtain ⟨b, xs, hb, hx⟩ := State.ints_of_pre rfl harr hlen hall
  have hsm : xs.length < 2 ^ 31 := hx.choose_spec.2.2.2
  have hev : (Term.length (.arg 0)).eval args s none [] s = some (.int xs.length.toInt32) := hx.length_eval hb
  have hv := Cond.le_ints hev (show (Term.int 3072).eval args s none [] s = some (.int 3072) from rfl)
  have hd : xs.length.toInt32 ≤ 3072 := by
    simpa [Cond.before, Cond.holds, hv] using hle
  have hN : xs.length ≤ 3072 := (Int32.ofNat_le_ofNat hsm (by decide)).mp (show Int32.ofNat xs.length ≤ Int32.ofNat 3072 from hd)
  exact ⟨b, xs, Cond.one_arg hc (show args[0]? = some (.ref b) from hb), hx, hN, h⟩
theorem lw_comes (l : Launch) (hl0 : l.stackTraces = false) : Comes l x (Jvm.Cond.code x code maxLocals ret :: tables_1) room_1 (fun tb e args s => Calls_1 tb e args s ∧ rest_1 tb e args s ∧ Pre_1 tb e args s)
    (fun _ _ args s o t => lw_Q args s o t) := by
  intro p e ha hc hk s m args below hf hfit hheap happ hpre
  obtain ⟨b, xs, hP⟩ := lw_pre_spec hpre.2.2 hpre.2.1
  obtain ⟨k, o, h1, h2, h3, hQ⟩ := lw_walk l hl0 b xs p e ha hc hk s m args below hf ((Spec.applies_iff_loose hf).mp happ).1 hP trivial
  exact ⟨k, o, h1, h2, h3, hQ⟩
theorem lw_frame {s t : State} {o : Outcome} {args : Array Value} (h : Framed s o t [] 603072 7194730) :
    Framed s o t (fieldLocs frame_1_writes args s ++ arrayLocs frame_1_arrays args s ++ staticLocs frame_1_statics s) 603072 7194730 := h
theorem lw_limb (L : Cond) (hL : ∀ (args : Array Value) (s t : State), L.after args s (.returned (some (.int 1))) t = true) :
    ArmFor flags0 classFile x code maxLocals ret World_1 tables_1 room_1 Calls_1 rest_1 Pre_1
      (fun tb e a s o t => postC L tb e a s o t ∧ Framed s o t (fieldLocs frame_1_writes a s ++ arrayLocs frame_1_arrays a s ++ staticLocs frame_1_statics s) 603072 7194730) := by
  intro l hfl _ _ p e ha hc hk s m args below hf hfit hheap happ hpre
  obtain ⟨k, o, h1, h2, h3, rfl, hF⟩ := lw_comes l (by unfold Launch.stackTraces; rw [hfl]; decide +kernel) p e ha hc hk s m args below hf hfit hheap happ hpre
  exact ⟨k, _, h1, h2, h3, hL args s _, lw_frame hF⟩
theorem i_vc : Claimed_1_1 ∧ Claimed_1_2 := ⟨lw_limb limb_1_1 (fun args s t => by simp [limb_1_1, Cond.after, Cond.holds, Cond.value]), lw_limb limb_1_2 (fun args s t => Cond.after_iff.mpr (by
  first | (rw [show limb_1_2 = Cond.eq .result (.int 1) from rfl, Cond.eq_ints (x := 1) (y := 1) rfl rfl]; simp; done) | (simp [limb_1_2, Cond.value, Term.eval]; done)))⟩

