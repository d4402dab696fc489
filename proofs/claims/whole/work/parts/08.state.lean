/-! the two systems' memories -/
abbrev x_tys (cy : Nat → ClassId) : List (ClassId × FieldType) := [(cy 0, .int), (cy 1, .array .int), (cy 2, .object "SearchWire$Session"), (cy 3, .object "SearchWire$ResultSet"), (cy 4, .boolean), (cy 5, .long)]
def x_K (cy : Nat → ClassId) (L : g_S → Nat) (ns : Nat) (kk : Nat → Nat) (x : g_S) (r : Nat → Int32) : va_E := match x with
  | (0, _, _) => .inr (8, [.ref (L (1, 0, 0)), .ref (L (2, 0, 0)), .ref (L (9, 0, 0)), .int (r 3)])
  | (1, _, _) => .inr (4, [.ref (L (3, 0, 0)), .ref (L (4, 0, 0)), .int (r 2)])
  | (2, _, _) => .inr (3, [.ref (L (5, 0, 0)), .ref (L (6, 0, 0)), .ref (L (7, 0, 0)), .ref (L (8, 0, 0)), .int (r 4)])
  | (3, _, _) => .inl (cy 0, 100, .inl r)
  | (4, _, _) => .inl (cy 1, 5, .inr (.inr (.inr (.inr (fun k => some (L (10, k, 0)))))))
  | (5, _, _) => .inl (cy 0, 40, .inl r)
  | (6, _, _) => .inl (cy 0, 40, .inl r)
  | (7, _, _) => .inl (cy 0, 40, .inl r)
  | (8, _, _) => .inl (cy 0, 40, .inl r)
  | (9, _, _) => .inl (cy 2, 8, .inr (.inr (.inr (.inr (fun k => if k < ns then some (L (11, k, 0)) else none)))))
  | (10, _, _) => .inl (cy 0, 100, .inl r)
  | (11, i, _) => .inr (7, [.int (r 0), .ref (L (12, i, 0)), .ref (L (13, i, 0)), .ref (L (17, i, 0)), .int (r 4), .int (r 5), .int (r 6)])
  | (12, i, _) => .inl (cy 3, kk i, .inr (.inr (.inr (.inr (fun k => some (L (18, i, k)))))))
  | (13, i, _) => .inr (2, [.int (r 0), .ref (L (14, i, 0)), .ref (L (15, i, 0)), .ref (L (16, i, 0)), .int (r 4), .int (r 5)])
  | (14, _, _) => .inl (cy 0, 100, .inl r)
  | (15, _, _) => .inl (cy 0, 100, .inl r)
  | (16, _, _) => .inl (cy 0, 100, .inl r)
  | (17, i, _) => .inr (6, [.ref (L (20, i, 0)), .ref (L (21, i, 0)), .int (r 2)])
  | (18, i, j) => .inr (5, [.ref (L (19, i, j)), .int (r 1), .int (r 2)])
  | (19, _, _) => .inl (cy 0, 100, .inl r)
  | (20, _, _) => .inl (cy 0, 20, .inl r)
  | _ => .inl (cy 0, 20, .inl r)
def x_dom (ns : Nat) (kk : Nat → Nat) (x : g_S) : Prop := match x with
  | (0, i, j) => i = 0 ∧ j = 0
  | (1, i, j) => i = 0 ∧ j = 0
  | (2, i, j) => i = 0 ∧ j = 0
  | (3, i, j) => i = 0 ∧ j = 0
  | (4, i, j) => i = 0 ∧ j = 0
  | (5, i, j) => i = 0 ∧ j = 0
  | (6, i, j) => i = 0 ∧ j = 0
  | (7, i, j) => i = 0 ∧ j = 0
  | (8, i, j) => i = 0 ∧ j = 0
  | (9, i, j) => i = 0 ∧ j = 0
  | (10, i, j) => i < 5 ∧ j = 0
  | (11, i, j) => i < ns ∧ j = 0
  | (12, i, j) => i < ns ∧ j = 0
  | (13, i, j) => i < ns ∧ j = 0
  | (14, i, j) => i < ns ∧ j = 0
  | (15, i, j) => i < ns ∧ j = 0
  | (16, i, j) => i < ns ∧ j = 0
  | (17, i, j) => i < ns ∧ j = 0
  | (18, i, j) => i < ns ∧ j < kk i
  | (19, i, j) => i < ns ∧ j < kk i
  | (20, i, j) => i < ns ∧ j = 0
  | (21, i, j) => i < ns ∧ j = 0
  | _ => False
/-- the reference: one object, its arrays by the numbers of their fields -/
def m_len (k : Nat) : Nat := match k with
  | 2 => 100
  | 3 => 500
  | 5 => 40
  | 6 => 40
  | 7 => 40
  | 8 => 40
  | 9 => 40
  | 11 => 8
  | 12 => 8
  | 13 => 8
  | 14 => 8
  | 15 => 8
  | 16 => 40
  | 17 => 4000
  | 18 => 8
  | 19 => 800
  | 20 => 8
  | 21 => 800
  | 22 => 800
  | 23 => 800
  | 24 => 8
  | 25 => 160
  | 26 => 160
  | 27 => 1000
  | _ => 0
def m_K (cy : Nat → ClassId) (L : g_S → Nat) (x : g_S) (r : Nat → Int32) : va_E := match x with
  | (0, _, _) => .inr (9, [.int (r 0), .int (r 1), .ref (L (1, 2, 0)), .ref (L (1, 3, 0)), .int (r 4), .ref (L (1, 5, 0)), .ref (L (1, 6, 0)), .ref (L (1, 7, 0)), .ref (L (1, 8, 0)), .ref (L (2, 9, 0)), .int (r 10), .ref (L (1, 11, 0)), .ref (L (1, 12, 0)), .ref (L (2, 13, 0)), .ref (L (1, 14, 0)), .ref (L (1, 15, 0)), .ref (L (1, 16, 0)), .ref (L (1, 17, 0)), .ref (L (1, 18, 0)), .ref (L (1, 19, 0)), .ref (L (1, 20, 0)), .ref (L (1, 21, 0)), .ref (L (1, 22, 0)), .ref (L (1, 23, 0)), .ref (L (1, 24, 0)), .ref (L (1, 25, 0)), .ref (L (1, 26, 0)), .ref (L (1, 27, 0))])
  | (1, k, _) => .inl (cy 0, m_len k, .inl r)
  | (_, k, _) => .inl (cy 4, m_len k, .inl r)
def m_dom (x : g_S) : Prop := match x with
  | (0, i, j) => i = 0 ∧ j = 0
  | (1, i, j) => (i = 2 ∨ i = 3 ∨ i = 5 ∨ i = 6 ∨ i = 7 ∨ i = 8 ∨ i = 11 ∨ i = 12 ∨ i = 14 ∨ i = 15 ∨ i = 16 ∨ i = 17 ∨ i = 18 ∨ i = 19 ∨ i = 20 ∨ i = 21 ∨ i = 22 ∨ i = 23 ∨ i = 24 ∨ i = 25 ∨ i = 26 ∨ i = 27) ∧ j = 0
  | (2, i, j) => (i = 9 ∨ i = 13) ∧ j = 0
  | _ => False
/-- a boolean as an int -/
def g_b (P : Prop) [Decidable P] : Int32 := if P then 1 else 0
theorem g_b_eq0 {P : Prop} [Decidable P] : g_b P = 0 ↔ ¬ P := by unfold g_b; by_cases h : P <;> simp [h]
theorem g_b_ne0 {P : Prop} [Decidable P] : ¬ g_b P = 0 ↔ P := by unfold g_b; by_cases h : P <;> simp [h]
theorem g_b_nar {P : Prop} [Decidable P] : narrow .boolean (.int (g_b P)) = .int (g_b P) := by unfold g_b; by_cases h : P <;> simp [h] <;> rfl
theorem g_b_fit {P : Prop} [Decidable P] : fits .boolean (.int (g_b P)) = true := by unfold g_b; by_cases h : P <;> simp [h] <;> rfl
theorem g_b_t {P : Prop} [Decidable P] (h : P) : g_b P = 1 := by simp [g_b, h]
theorem g_b_f {P : Prop} [Decidable P] (h : ¬ P) : g_b P = 0 := by simp [g_b, h]
abbrev x_Met (l : Launch) (D : va_G) (cy : Nat → ClassId) (L : g_S → Nat) (ns : Nat) (kk : Nat → Nat) (y : MethodName) (c1 : Cond) (k : Nat) (σ : g_S → Nat → Int32) (av : List Value) (v : Option Value) (σ' : g_S → Nat → Int32) : Prop := g_Met l y c1 k D vwCl (x_tys cy) (x_dom ns kk) L (fun z => x_K cy L ns kk z (σ z)) av v (fun z => x_K cy L ns kk z (σ' z))
abbrev m_Met (l : Launch) (D : va_G) (cy : Nat → ClassId) (L : g_S → Nat) (y : MethodName) (c1 : Cond) (k : Nat) (σ : g_S → Nat → Int32) (av : List Value) (v : Option Value) (σ' : g_S → Nat → Int32) : Prop := g_Met l y c1 k D vwCl (x_tys cy) m_dom L (fun z => m_K cy L z (σ z)) av v (fun z => m_K cy L z (σ' z))
/-- what stands fast in a method's walk -/
def g_C (p : Program) (s : State) (m : MethodId) (meth : Method) (c : Code) (args : Array Value) (cc : ByteArray) (ret : Option FieldType) (maxL : Nat) (own : String) (D : va_G) (tys : List (ClassId × FieldType)) : Prop := p.tables.exec = Jvm.exec ∧ c.code = cc ∧ meth.sig.returnType = ret ∧ meth.locks = false ∧ c.maxLocals = maxL ∧ s.vm.findClass own = some m.cls ∧ (∀ w ∈ g_T, w.before args s = true) ∧ va_K D vwCl tys s ∧ g_N s
theorem g_vp {i : Int32} {n : Nat} (h0 : 0 ≤ i.toInt) (h1 : i.toInt < n) : vp_in i n := vp_in_iff.mpr ⟨h0, h1⟩
theorem g_lt {a b : Int32} : a < b ↔ a.toInt < b.toInt := Int32.lt_iff_toInt_lt
theorem g_le {a b : Int32} : a ≤ b ↔ a.toInt ≤ b.toInt := Int32.le_iff_toInt_le
theorem g_eqI {a b : Int32} : a = b ↔ a.toInt = b.toInt := Int32.toInt_inj.symm
theorem g_cl {a : Int32} : a.toNatClampNeg = a.toInt.toNat := rfl
theorem g_rng (a : Int32) : -2147483648 ≤ a.toInt ∧ a.toInt ≤ 2147483647 := ⟨Int32.minValue_le_toInt a, Int32.toInt_le a⟩
theorem g_addI {a b : Int32} (h1 : -2147483648 ≤ a.toInt + b.toInt) (h2 : a.toInt + b.toInt ≤ 2147483647) : (a + b).toInt = a.toInt + b.toInt := by
  rw [Int32.toInt_add]
  exact Int.bmod_eq_of_le (by omega) (by omega)
theorem g_subI {a b : Int32} (h1 : -2147483648 ≤ a.toInt - b.toInt) (h2 : a.toInt - b.toInt ≤ 2147483647) : (a - b).toInt = a.toInt - b.toInt := by
  rw [Int32.toInt_sub]
  exact Int.bmod_eq_of_le (by omega) (by omega)
theorem g_mulI {a b : Int32} (h1 : -2147483648 ≤ a.toInt * b.toInt) (h2 : a.toInt * b.toInt ≤ 2147483647) : (a * b).toInt = a.toInt * b.toInt := by
  rw [Int32.toInt_mul]
  exact Int.bmod_eq_of_le (by omega) (by omega)
theorem g_nIT {n : Nat} (h : n < 2147483648) : (nI n).toInt = (n : Int) := nI_toInt h
theorem g_nIc {n : Nat} (h : n < 2147483648) : (nI n).toNatClampNeg = n := nI_clamp h
