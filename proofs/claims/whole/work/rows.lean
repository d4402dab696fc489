section
-- ===== PART A: goes FIRST, ahead of the names: the tables' words, and 'selects' of the private methods out of them =====
/-- a private method of a class that the tables say can be made, by its rows of tables_1 -/
def lw_okq (q : MethodName × Nat) : Prop := (q.1.cls ≠ "java/lang/invoke/MethodHandle" ∧ q.1.cls ≠ "java/lang/invoke/VarHandle") ∧ Cond.instantiable q.1.cls q.2 ∈ tables_1 ∧ Cond.privateMethod q.1 ∈ tables_1 ∧ Cond.instanceMethod q.1 ∈ tables_1
theorem lw_p0 : lw_okq (⟨"SearchWire$Questions", "add", "(IIII)I"⟩, 5) := ⟨⟨by decide +kernel, by decide +kernel⟩, List.mem_of_getElem? (i := 43) (by decide +kernel), List.mem_of_getElem? (i := 116) (by decide +kernel), List.mem_of_getElem? (i := 117) (by decide +kernel)⟩
theorem lw_p1 : lw_okq (⟨"SearchWire", "openSession", "(I)LSearchWire$Session;"⟩, 4) := ⟨⟨by decide +kernel, by decide +kernel⟩, List.mem_of_getElem? (i := 16) (by decide +kernel), List.mem_of_getElem? (i := 221) (by decide +kernel), List.mem_of_getElem? (i := 222) (by decide +kernel)⟩
theorem lw_p2 : lw_okq (⟨"SearchWire", "everOpened", "(I)LSearchWire$Session;"⟩, 4) := ⟨⟨by decide +kernel, by decide +kernel⟩, List.mem_of_getElem? (i := 16) (by decide +kernel), List.mem_of_getElem? (i := 225) (by decide +kernel), List.mem_of_getElem? (i := 226) (by decide +kernel)⟩
theorem lw_p3 : lw_okq (⟨"SearchWire$Questions", "holds", "(ILSearchWire$Records;IJ)Z"⟩, 5) := ⟨⟨by decide +kernel, by decide +kernel⟩, List.mem_of_getElem? (i := 43) (by decide +kernel), List.mem_of_getElem? (i := 262) (by decide +kernel), List.mem_of_getElem? (i := 263) (by decide +kernel)⟩
theorem lw_p4 : lw_okq (⟨"SearchWire$Presented", "endOfSegment", "(I)I"⟩, 6) := ⟨⟨by decide +kernel, by decide +kernel⟩, List.mem_of_getElem? (i := 154) (by decide +kernel), List.mem_of_getElem? (i := 330) (by decide +kernel), List.mem_of_getElem? (i := 331) (by decide +kernel)⟩
theorem lw_p5 : lw_okq (⟨"SearchWire", "stepBack", "(III)I"⟩, 4) := ⟨⟨by decide +kernel, by decide +kernel⟩, List.mem_of_getElem? (i := 16) (by decide +kernel), List.mem_of_getElem? (i := 377) (by decide +kernel), List.mem_of_getElem? (i := 378) (by decide +kernel)⟩
theorem lw_p6 : lw_okq (⟨"java/lang/Throwable", "fillInStackTrace", "(I)Ljava/lang/Throwable;"⟩, 6) := ⟨⟨by decide +kernel, by decide +kernel⟩, List.mem_of_getElem? (i := 448) (by decide +kernel), List.mem_of_getElem? (i := 446) (by decide +kernel), List.mem_of_getElem? (i := 447) (by decide +kernel)⟩
theorem lw_p7 : lw_okq (⟨"SearchWireModel", "isQuestion", "(I)Z"⟩, 28) := ⟨⟨by decide +kernel, by decide +kernel⟩, List.mem_of_getElem? (i := 510) (by decide +kernel), List.mem_of_getElem? (i := 627) (by decide +kernel), List.mem_of_getElem? (i := 628) (by decide +kernel)⟩
theorem lw_p8 : lw_okq (⟨"SearchWireModel", "isOpen", "(I)Z"⟩, 28) := ⟨⟨by decide +kernel, by decide +kernel⟩, List.mem_of_getElem? (i := 510) (by decide +kernel), List.mem_of_getElem? (i := 639) (by decide +kernel), List.mem_of_getElem? (i := 640) (by decide +kernel)⟩
theorem lw_p9 : lw_okq (⟨"SearchWireModel", "tell", "(II)I"⟩, 28) := ⟨⟨by decide +kernel, by decide +kernel⟩, List.mem_of_getElem? (i := 510) (by decide +kernel), List.mem_of_getElem? (i := 643) (by decide +kernel), List.mem_of_getElem? (i := 644) (by decide +kernel)⟩
theorem lw_p10 : lw_okq (⟨"SearchWireModel", "end", "(I)V"⟩, 28) := ⟨⟨by decide +kernel, by decide +kernel⟩, List.mem_of_getElem? (i := 510) (by decide +kernel), List.mem_of_getElem? (i := 647) (by decide +kernel), List.mem_of_getElem? (i := 648) (by decide +kernel)⟩
theorem lw_p11 : lw_okq (⟨"SearchWireModel", "isName", "(II)Z"⟩, 28) := ⟨⟨by decide +kernel, by decide +kernel⟩, List.mem_of_getElem? (i := 510) (by decide +kernel), List.mem_of_getElem? (i := 651) (by decide +kernel), List.mem_of_getElem? (i := 652) (by decide +kernel)⟩
theorem lw_p12 : lw_okq (⟨"SearchWireModel", "meets", "(II)Z"⟩, 28) := ⟨⟨by decide +kernel, by decide +kernel⟩, List.mem_of_getElem? (i := 510) (by decide +kernel), List.mem_of_getElem? (i := 655) (by decide +kernel), List.mem_of_getElem? (i := 656) (by decide +kernel)⟩
theorem lw_p13 : lw_okq (⟨"SearchWireModel", "isSet", "(II)Z"⟩, 28) := ⟨⟨by decide +kernel, by decide +kernel⟩, List.mem_of_getElem? (i := 510) (by decide +kernel), List.mem_of_getElem? (i := 663) (by decide +kernel), List.mem_of_getElem? (i := 664) (by decide +kernel)⟩
theorem lw_p14 : lw_okq (⟨"SearchWireModel", "isBehind", "(IIIZ)Z"⟩, 28) := ⟨⟨by decide +kernel, by decide +kernel⟩, List.mem_of_getElem? (i := 510) (by decide +kernel), List.mem_of_getElem? (i := 683) (by decide +kernel), List.mem_of_getElem? (i := 684) (by decide +kernel)⟩
theorem lw_p15 : lw_okq (⟨"SearchWireModel", "reckon", "(I)V"⟩, 28) := ⟨⟨by decide +kernel, by decide +kernel⟩, List.mem_of_getElem? (i := 510) (by decide +kernel), List.mem_of_getElem? (i := 691) (by decide +kernel), List.mem_of_getElem? (i := 692) (by decide +kernel)⟩
def lw_privs_1 : List (MethodName × Nat) := [(⟨"SearchWire$Questions", "add", "(IIII)I"⟩, 5), (⟨"SearchWire", "openSession", "(I)LSearchWire$Session;"⟩, 4), (⟨"SearchWire", "everOpened", "(I)LSearchWire$Session;"⟩, 4), (⟨"SearchWire$Questions", "holds", "(ILSearchWire$Records;IJ)Z"⟩, 5), (⟨"SearchWire$Presented", "endOfSegment", "(I)I"⟩, 6), (⟨"SearchWire", "stepBack", "(III)I"⟩, 4), (⟨"java/lang/Throwable", "fillInStackTrace", "(I)Ljava/lang/Throwable;"⟩, 6), (⟨"SearchWireModel", "isQuestion", "(I)Z"⟩, 28), (⟨"SearchWireModel", "isOpen", "(I)Z"⟩, 28), (⟨"SearchWireModel", "tell", "(II)I"⟩, 28), (⟨"SearchWireModel", "end", "(I)V"⟩, 28), (⟨"SearchWireModel", "isName", "(II)Z"⟩, 28), (⟨"SearchWireModel", "meets", "(II)Z"⟩, 28), (⟨"SearchWireModel", "isSet", "(II)Z"⟩, 28), (⟨"SearchWireModel", "isBehind", "(IIIZ)Z"⟩, 28), (⟨"SearchWireModel", "reckon", "(I)V"⟩, 28)]
theorem lw_r1 : ∀ q ∈ lw_privs_1, lw_okq q := List.forall_mem_cons.mpr ⟨lw_p0, List.forall_mem_cons.mpr ⟨lw_p1, List.forall_mem_cons.mpr ⟨lw_p2, List.forall_mem_cons.mpr ⟨lw_p3, List.forall_mem_cons.mpr ⟨lw_p4, List.forall_mem_cons.mpr ⟨lw_p5, List.forall_mem_cons.mpr ⟨lw_p6, List.forall_mem_cons.mpr ⟨lw_p7, List.forall_mem_cons.mpr ⟨lw_p8, List.forall_mem_cons.mpr ⟨lw_p9, List.forall_mem_cons.mpr ⟨lw_p10, List.forall_mem_cons.mpr ⟨lw_p11, List.forall_mem_cons.mpr ⟨lw_p12, List.forall_mem_cons.mpr ⟨lw_p13, List.forall_mem_cons.mpr ⟨lw_p14, List.forall_mem_cons.mpr ⟨lw_p15, fun _ h => absurd h List.not_mem_nil⟩⟩⟩⟩⟩⟩⟩⟩⟩⟩⟩⟩⟩⟩⟩⟩
theorem lw_p16 : lw_okq (⟨"SearchWireModel", "sets", "(I)I"⟩, 28) := ⟨⟨by decide +kernel, by decide +kernel⟩, List.mem_of_getElem? (i := 510) (by decide +kernel), List.mem_of_getElem? (i := 707) (by decide +kernel), List.mem_of_getElem? (i := 708) (by decide +kernel)⟩
def lw_privs_2 : List (MethodName × Nat) := [(⟨"SearchWireModel", "sets", "(I)I"⟩, 28)]
theorem lw_r2 : ∀ q ∈ lw_privs_2, lw_okq q := List.forall_mem_cons.mpr ⟨lw_p16, fun _ h => absurd h List.not_mem_nil⟩
def lw_privs : List (MethodName × Nat) := lw_privs_1 ++ (lw_privs_2)
def lw_tbl : List Cond := k2_sels lw_privs ++ tables_1
theorem lw_privs_ok : ∀ q ∈ lw_privs, lw_okq q := by
  show ∀ q ∈ lw_privs_1 ++ (lw_privs_2), lw_okq q
  exact List.forall_mem_append.mpr ⟨lw_r1, lw_r2⟩

/-! ===== BEGIN words of one list among another's, by their places ===== -/
theorem goodIn_r {big : List Cond} (ws : List Cond) (ps : List Nat) (hp : ws = ps.filterMap (fun i => big[i]?)) (h : ws.all goodWord = true) : GoodIn big ws := by
  intro w hw
  have h1 := List.all_eq_true.mp h w hw
  rw [hp] at hw
  obtain ⟨i, -, hi⟩ := List.mem_filterMap.mp hw
  have hm : w ∈ big := by first | exact List.mem_of_getElem? hi | exact List.getElem?_mem hi
  exact ⟨hm, good_of_word h1⟩
theorem goodIn_app {big a b : List Cond} (ha : GoodIn big a) (hb : GoodIn big b) : GoodIn big (a ++ b) := fun w h => (List.mem_append.mp h).elim (ha w) (hb w)
theorem goodIn_ca {big a b : List Cond} {c : Cond} (ha : GoodIn big (c :: a)) (hb : GoodIn big b) : GoodIn big (c :: (a ++ b)) := fun w h => (List.mem_cons.mp h).elim (fun e => ha w (List.mem_cons.mpr (Or.inl e))) (fun h => (List.mem_append.mp h).elim (fun h => ha w (List.mem_cons.mpr (Or.inr h))) (hb w))
theorem goodIn_sub {big ws : List Cond} (hm : ∀ w ∈ ws, w ∈ big) (h : ws.all goodWord = true) : GoodIn big ws := fun w hw => ⟨hm w hw, good_of_word (List.all_eq_true.mp h w hw)⟩
/-! ===== END ===== -/
def RX0 : String := "SearchWire$Presented"
def TX0 : u_T := fun k => match k with
  | 0 => ("SearchWire$Presented", "limit", "I", true)
  | 1 => ("SearchWire$Presented", "row", "[I", true)
  | 2 => ("SearchWire$Presented", "starts", "[I", true)
  | 3 => ("SearchWire$Presented", "bytes", "[I", true)
  | 4 => ("SearchWire$Presented", "count", "I", false)
  | _ => ("SearchWire$Presented", "segmentCount", "I", false)
def tyX0 : Nat → FieldType := fun k => match k with
  | 0 => .int
  | 1 => .array .int
  | 2 => .array .int
  | 3 => .array .int
  | 4 => .int
  | _ => .int
abbrev wsX00 : List Cond := u_ws RX0 TX0 6
theorem nmX0 : ∀ a, a < 6 → ∀ b, b < 6 → a ≠ b → (TX0 a).2.1 ≠ (TX0 b).2.1 := by decide +kernel
theorem tyX0_ok : ∀ k, k < 6 → parseFieldDescriptor (TX0 k).2.2.1 = some (tyX0 k) := by decide +kernel
abbrev cX0_init : ByteArray := prog_2_method_1_code
def yX0_init : MethodName := ⟨RX0, "<init>", "(I)V"⟩
abbrev cX0_clear : ByteArray := prog_2_method_2_code
def yX0_clear : MethodName := ⟨RX0, "clear", "()V"⟩
abbrev cX0_segmentCount : ByteArray := prog_2_method_3_code
def yX0_segmentCount : MethodName := ⟨RX0, "segmentCount", "()I"⟩
abbrev cX0_add : ByteArray := prog_2_method_4_code
def yX0_add : MethodName := ⟨RX0, "add", "(II)V"⟩
abbrev cX0_recordAt : ByteArray := prog_2_method_5_code
def yX0_recordAt : MethodName := ⟨RX0, "recordAt", "(I)I"⟩
abbrev cX0_tellSegment : ByteArray := prog_2_method_6_code
def yX0_tellSegment : MethodName := ⟨RX0, "tellSegment", "(II)I"⟩
abbrev cX0_endOfSegment : ByteArray := prog_2_method_7_code
def yX0_endOfSegment : MethodName := ⟨RX0, "endOfSegment", "(I)I"⟩
def RX1 : String := "SearchWire$Questions"
def TX1 : u_T := fun k => match k with
  | 0 => ("SearchWire$Questions", "kinds", "[I", true)
  | 1 => ("SearchWire$Questions", "firsts", "[I", true)
  | 2 => ("SearchWire$Questions", "seconds", "[I", true)
  | 3 => ("SearchWire$Questions", "thirds", "[I", true)
  | _ => ("SearchWire$Questions", "count", "I", false)
def tyX1 : Nat → FieldType := fun k => match k with
  | 0 => .array .int
  | 1 => .array .int
  | 2 => .array .int
  | 3 => .array .int
  | _ => .int
abbrev wsX10 : List Cond := u_ws RX1 TX1 5
theorem nmX1 : ∀ a, a < 5 → ∀ b, b < 5 → a ≠ b → (TX1 a).2.1 ≠ (TX1 b).2.1 := by decide +kernel
theorem tyX1_ok : ∀ k, k < 5 → parseFieldDescriptor (TX1 k).2.2.1 = some (tyX1 k) := by decide +kernel
abbrev cX1_init : ByteArray := prog_3_method_1_code
def yX1_init : MethodName := ⟨RX1, "<init>", "()V"⟩
abbrev cX1_has : ByteArray := prog_3_method_2_code
def yX1_has : MethodName := ⟨RX1, "has", "(I)Z"⟩
abbrev cX1_addRange : ByteArray := prog_3_method_3_code
def yX1_addRange : MethodName := ⟨RX1, "addRange", "(III)I"⟩
abbrev cX1_addPair : ByteArray := prog_3_method_4_code
def yX1_addPair : MethodName := ⟨RX1, "addPair", "(III)I"⟩
abbrev cX1_add : ByteArray := prog_3_method_5_code
def yX1_add : MethodName := ⟨RX1, "add", "(IIII)I"⟩
abbrev cX1_finds : ByteArray := prog_3_method_6_code
def yX1_finds : MethodName := ⟨RX1, "finds", "(ILSearchWire$Records;I)Z"⟩
abbrev cX1_holds : ByteArray := prog_3_method_7_code
def yX1_holds : MethodName := ⟨RX1, "holds", "(ILSearchWire$Records;IJ)Z"⟩
abbrev cX1_isYes : ByteArray := prog_3_method_8_code
def yX1_isYes : MethodName := ⟨RX1, "isYes", "(JI)Z"⟩
def RX2 : String := "SearchWire$Records"
def TX2 : u_T := fun k => match k with
  | 0 => ("SearchWire$Records", "bytes", "[I", true)
  | 1 => ("SearchWire$Records", "terms", "[[I", true)
  | _ => ("SearchWire$Records", "count", "I", false)
def tyX2 : Nat → FieldType := fun k => match k with
  | 0 => .array .int
  | 1 => .array (.array .int)
  | _ => .int
abbrev wsX20 : List Cond := u_ws RX2 TX2 3
theorem nmX2 : ∀ a, a < 3 → ∀ b, b < 3 → a ≠ b → (TX2 a).2.1 ≠ (TX2 b).2.1 := by decide +kernel
theorem tyX2_ok : ∀ k, k < 3 → parseFieldDescriptor (TX2 k).2.2.1 = some (tyX2 k) := by decide +kernel
abbrev cX2_init : ByteArray := prog_4_method_1_code
def yX2_init : MethodName := ⟨RX2, "<init>", "()V"⟩
abbrev cX2_count : ByteArray := prog_4_method_2_code
def yX2_count : MethodName := ⟨RX2, "count", "()I"⟩
abbrev cX2_add : ByteArray := prog_4_method_3_code
def yX2_add : MethodName := ⟨RX2, "add", "(I)I"⟩
abbrev cX2_has : ByteArray := prog_4_method_4_code
def yX2_has : MethodName := ⟨RX2, "has", "(I)Z"⟩
abbrev cX2_putTerm : ByteArray := prog_4_method_5_code
def yX2_putTerm : MethodName := ⟨RX2, "putTerm", "(III)Z"⟩
abbrev cX2_bytesOf : ByteArray := prog_4_method_6_code
def yX2_bytesOf : MethodName := ⟨RX2, "bytesOf", "(I)I"⟩
abbrev cX2_termOf : ByteArray := prog_4_method_7_code
def yX2_termOf : MethodName := ⟨RX2, "termOf", "(II)I"⟩
abbrev cX2_leastTermFrom : ByteArray := prog_4_method_8_code
def yX2_leastTermFrom : MethodName := ⟨RX2, "leastTermFrom", "(II)I"⟩
abbrev cX2_greatestTermBelow : ByteArray := prog_4_method_9_code
def yX2_greatestTermBelow : MethodName := ⟨RX2, "greatestTermBelow", "(II)I"⟩
abbrev cX2_countOfTerm : ByteArray := prog_4_method_10_code
def yX2_countOfTerm : MethodName := ⟨RX2, "countOfTerm", "(II)I"⟩
def RX3 : String := "SearchWire$ResultSet"
def TX3 : u_T := fun k => match k with
  | 0 => ("SearchWire$ResultSet", "row", "[I", true)
  | 1 => ("SearchWire$ResultSet", "count", "I", false)
  | _ => ("SearchWire$ResultSet", "made", "Z", false)
def tyX3 : Nat → FieldType := fun k => match k with
  | 0 => .array .int
  | 1 => .int
  | _ => .boolean
abbrev wsX30 : List Cond := u_ws RX3 TX3 3
theorem nmX3 : ∀ a, a < 3 → ∀ b, b < 3 → a ≠ b → (TX3 a).2.1 ≠ (TX3 b).2.1 := by decide +kernel
theorem tyX3_ok : ∀ k, k < 3 → parseFieldDescriptor (TX3 k).2.2.1 = some (tyX3 k) := by decide +kernel
abbrev cX3_init : ByteArray := prog_5_method_1_code
def yX3_init : MethodName := ⟨RX3, "<init>", "()V"⟩
abbrev cX3_make : ByteArray := prog_5_method_2_code
def yX3_make : MethodName := ⟨RX3, "make", "()V"⟩
abbrev cX3_forget : ByteArray := prog_5_method_3_code
def yX3_forget : MethodName := ⟨RX3, "forget", "()V"⟩
abbrev cX3_isMade : ByteArray := prog_5_method_4_code
def yX3_isMade : MethodName := ⟨RX3, "isMade", "()Z"⟩
abbrev cX3_count : ByteArray := prog_5_method_5_code
def yX3_count : MethodName := ⟨RX3, "count", "()I"⟩
abbrev cX3_add : ByteArray := prog_5_method_6_code
def yX3_add : MethodName := ⟨RX3, "add", "(I)V"⟩
abbrev cX3_recordAt : ByteArray := prog_5_method_7_code
def yX3_recordAt : MethodName := ⟨RX3, "recordAt", "(I)I"⟩
abbrev cX3_putInOrder : ByteArray := prog_5_method_8_code
def yX3_putInOrder : MethodName := ⟨RX3, "putInOrder", "(LSearchWire$Records;IZ)V"⟩
abbrev cX3_keyOf : ByteArray := prog_5_method_9_code
def yX3_keyOf : MethodName := ⟨RX3, "keyOf", "(IZ)I"⟩
abbrev cX3_countWithoutTerm : ByteArray := prog_5_method_10_code
def yX3_countWithoutTerm : MethodName := ⟨RX3, "countWithoutTerm", "(LSearchWire$Records;I)I"⟩
def RX4 : String := "SearchWire$ScannedTerms"
def TX4 : u_T := fun k => match k with
  | 0 => ("SearchWire$ScannedTerms", "terms", "[I", true)
  | 1 => ("SearchWire$ScannedTerms", "havers", "[I", true)
  | _ => ("SearchWire$ScannedTerms", "count", "I", false)
def tyX4 : Nat → FieldType := fun k => match k with
  | 0 => .array .int
  | 1 => .array .int
  | _ => .int
abbrev wsX40 : List Cond := u_ws RX4 TX4 3
theorem nmX4 : ∀ a, a < 3 → ∀ b, b < 3 → a ≠ b → (TX4 a).2.1 ≠ (TX4 b).2.1 := by decide +kernel
theorem tyX4_ok : ∀ k, k < 3 → parseFieldDescriptor (TX4 k).2.2.1 = some (tyX4 k) := by decide +kernel
abbrev cX4_init : ByteArray := prog_6_method_1_code
def yX4_init : MethodName := ⟨RX4, "<init>", "()V"⟩
abbrev cX4_fill : ByteArray := prog_6_method_2_code
def yX4_fill : MethodName := ⟨RX4, "fill", "(LSearchWire$Records;III)I"⟩
abbrev cX4_has : ByteArray := prog_6_method_3_code
def yX4_has : MethodName := ⟨RX4, "has", "(I)Z"⟩
abbrev cX4_tell : ByteArray := prog_6_method_4_code
def yX4_tell : MethodName := ⟨RX4, "tell", "(II)I"⟩
def RX5 : String := "SearchWire$Session"
def TX5 : u_T := fun k => match k with
  | 0 => ("SearchWire$Session", "options", "I", true)
  | 1 => ("SearchWire$Session", "sets", "[LSearchWire$ResultSet;", true)
  | 2 => ("SearchWire$Session", "presented", "LSearchWire$Presented;", true)
  | 3 => ("SearchWire$Session", "scannedTerms", "LSearchWire$ScannedTerms;", true)
  | 4 => ("SearchWire$Session", "open", "Z", false)
  | 5 => ("SearchWire$Session", "diagnostics", "I", false)
  | _ => ("SearchWire$Session", "latestCode", "I", false)
def tyX5 : Nat → FieldType := fun k => match k with
  | 0 => .int
  | 1 => .array (.object "SearchWire$ResultSet")
  | 2 => .object "SearchWire$Presented"
  | 3 => .object "SearchWire$ScannedTerms"
  | 4 => .boolean
  | 5 => .int
  | _ => .int
abbrev wsX50 : List Cond := u_ws RX5 TX5 7
theorem nmX5 : ∀ a, a < 7 → ∀ b, b < 7 → a ≠ b → (TX5 a).2.1 ≠ (TX5 b).2.1 := by decide +kernel
theorem tyX5_ok : ∀ k, k < 7 → parseFieldDescriptor (TX5 k).2.2.1 = some (tyX5 k) := by decide +kernel
abbrev cX5_init : ByteArray := prog_7_method_1_code
def yX5_init : MethodName := ⟨RX5, "<init>", "(II)V"⟩
abbrev cX5_isOpen : ByteArray := prog_7_method_2_code
def yX5_isOpen : MethodName := ⟨RX5, "isOpen", "()Z"⟩
abbrev cX5_may : ByteArray := prog_7_method_3_code
def yX5_may : MethodName := ⟨RX5, "may", "(I)Z"⟩
abbrev cX5_presented : ByteArray := prog_7_method_4_code
def yX5_presented : MethodName := ⟨RX5, "presented", "()LSearchWire$Presented;"⟩
abbrev cX5_scannedTerms : ByteArray := prog_7_method_5_code
def yX5_scannedTerms : MethodName := ⟨RX5, "scannedTerms", "()LSearchWire$ScannedTerms;"⟩
abbrev cX5_setOfName : ByteArray := prog_7_method_6_code
def yX5_setOfName : MethodName := ⟨RX5, "setOfName", "(I)LSearchWire$ResultSet;"⟩
abbrev cX5_madeSet : ByteArray := prog_7_method_7_code
def yX5_madeSet : MethodName := ⟨RX5, "madeSet", "(I)LSearchWire$ResultSet;"⟩
abbrev cX5_setCount : ByteArray := prog_7_method_8_code
def yX5_setCount : MethodName := ⟨RX5, "setCount", "()I"⟩
abbrev cX5_diagnose : ByteArray := prog_7_method_9_code
def yX5_diagnose : MethodName := ⟨RX5, "diagnose", "(I)I"⟩
abbrev cX5_shut : ByteArray := prog_7_method_10_code
def yX5_shut : MethodName := ⟨RX5, "shut", "()V"⟩
abbrev cX5_tell : ByteArray := prog_7_method_11_code
def yX5_tell : MethodName := ⟨RX5, "tell", "(I)I"⟩
def RX6 : String := "SearchWire"
def TX6 : u_T := fun k => match k with
  | 0 => ("SearchWire", "records", "LSearchWire$Records;", true)
  | 1 => ("SearchWire", "questions", "LSearchWire$Questions;", true)
  | 2 => ("SearchWire", "sessions", "[LSearchWire$Session;", true)
  | _ => ("SearchWire", "sessionCount", "I", false)
def tyX6 : Nat → FieldType := fun k => match k with
  | 0 => .object "SearchWire$Records"
  | 1 => .object "SearchWire$Questions"
  | 2 => .array (.object "SearchWire$Session")
  | _ => .int
abbrev wsX60 : List Cond := u_ws RX6 TX6 4
theorem nmX6 : ∀ a, a < 4 → ∀ b, b < 4 → a ≠ b → (TX6 a).2.1 ≠ (TX6 b).2.1 := by decide +kernel
theorem tyX6_ok : ∀ k, k < 4 → parseFieldDescriptor (TX6 k).2.2.1 = some (tyX6 k) := by decide +kernel
abbrev cX6_init : ByteArray := prog_1_method_1_code
def yX6_init : MethodName := ⟨RX6, "<init>", "()V"⟩
abbrev cX6_record : ByteArray := prog_1_method_2_code
def yX6_record : MethodName := ⟨RX6, "record", "(I)I"⟩
abbrev cX6_term : ByteArray := prog_1_method_3_code
def yX6_term : MethodName := ⟨RX6, "term", "(III)I"⟩
abbrev cX6_question : ByteArray := prog_1_method_4_code
def yX6_question : MethodName := ⟨RX6, "question", "(IIII)I"⟩
abbrev cX6_session : ByteArray := prog_1_method_5_code
def yX6_session : MethodName := ⟨RX6, "session", "(II)I"⟩
abbrev cX6_search : ByteArray := prog_1_method_6_code
def yX6_search : MethodName := ⟨RX6, "search", "(III)I"⟩
abbrev cX6_size : ByteArray := prog_1_method_7_code
def yX6_size : MethodName := ⟨RX6, "size", "(II)I"⟩
abbrev cX6_present : ByteArray := prog_1_method_8_code
def yX6_present : MethodName := ⟨RX6, "present", "(IIII)I"⟩
abbrev cX6_segment : ByteArray := prog_1_method_9_code
def yX6_segment : MethodName := ⟨RX6, "segment", "(III)I"⟩
abbrev cX6_at : ByteArray := prog_1_method_10_code
def yX6_at : MethodName := ⟨RX6, "at", "(II)I"⟩
abbrev cX6_sort : ByteArray := prog_1_method_11_code
def yX6_sort : MethodName := ⟨RX6, "sort", "(IIIZ)I"⟩
abbrev cX6_scan : ByteArray := prog_1_method_12_code
def yX6_scan : MethodName := ⟨RX6, "scan", "(IIIII)I"⟩
abbrev cX6_scanned : ByteArray := prog_1_method_13_code
def yX6_scanned : MethodName := ⟨RX6, "scanned", "(III)I"⟩
abbrev cX6_drop : ByteArray := prog_1_method_14_code
def yX6_drop : MethodName := ⟨RX6, "drop", "(II)I"⟩
abbrev cX6_close : ByteArray := prog_1_method_15_code
def yX6_close : MethodName := ⟨RX6, "close", "(I)I"⟩
abbrev cX6_state : ByteArray := prog_1_method_16_code
def yX6_state : MethodName := ⟨RX6, "state", "(II)I"⟩
abbrev cX6_everOpened : ByteArray := prog_1_method_17_code
def yX6_everOpened : MethodName := ⟨RX6, "everOpened", "(I)LSearchWire$Session;"⟩
abbrev cX6_openSession : ByteArray := prog_1_method_18_code
def yX6_openSession : MethodName := ⟨RX6, "openSession", "(I)LSearchWire$Session;"⟩
abbrev cX6_stepBack : ByteArray := prog_1_method_19_code
def yX6_stepBack : MethodName := ⟨RX6, "stepBack", "(III)I"⟩
abbrev cX6_isIndex : ByteArray := prog_1_method_20_code
def yX6_isIndex : MethodName := ⟨RX6, "isIndex", "(I)Z"⟩
abbrev cX6_isTerm : ByteArray := prog_1_method_21_code
def yX6_isTerm : MethodName := ⟨RX6, "isTerm", "(I)Z"⟩
def RX7 : String := "SearchWireModel"
def TX7 : u_T := fun k => match k with
  | 0 => ("SearchWireModel", "thrown", "I", false)
  | 1 => ("SearchWireModel", "records", "I", false)
  | 2 => ("SearchWireModel", "sizes", "[I", true)
  | 3 => ("SearchWireModel", "terms", "[I", true)
  | 4 => ("SearchWireModel", "questions", "I", false)
  | 5 => ("SearchWireModel", "kind", "[I", true)
  | 6 => ("SearchWireModel", "first", "[I", true)
  | 7 => ("SearchWireModel", "second", "[I", true)
  | 8 => ("SearchWireModel", "third", "[I", true)
  | 9 => ("SearchWireModel", "holds", "[Z", true)
  | 10 => ("SearchWireModel", "sessions", "I", false)
  | 11 => ("SearchWireModel", "options", "[I", true)
  | 12 => ("SearchWireModel", "limit", "[I", true)
  | 13 => ("SearchWireModel", "closed", "[Z", true)
  | 14 => ("SearchWireModel", "faults", "[I", true)
  | 15 => ("SearchWireModel", "fault", "[I", true)
  | 16 => ("SearchWireModel", "many", "[I", true)
  | 17 => ("SearchWireModel", "members", "[I", true)
  | 18 => ("SearchWireModel", "presented", "[I", true)
  | 19 => ("SearchWireModel", "shown", "[I", true)
  | 20 => ("SearchWireModel", "segments", "[I", true)
  | 21 => ("SearchWireModel", "segmentFrom", "[I", true)
  | 22 => ("SearchWireModel", "segmentMany", "[I", true)
  | 23 => ("SearchWireModel", "segmentBytes", "[I", true)
  | 24 => ("SearchWireModel", "scanned", "[I", true)
  | 25 => ("SearchWireModel", "scanTerm", "[I", true)
  | 26 => ("SearchWireModel", "scanMany", "[I", true)
  | _ => ("SearchWireModel", "row", "[I", true)
def tyX7 : Nat → FieldType := fun k => match k with
  | 0 => .int
  | 1 => .int
  | 2 => .array .int
  | 3 => .array .int
  | 4 => .int
  | 5 => .array .int
  | 6 => .array .int
  | 7 => .array .int
  | 8 => .array .int
  | 9 => .array .boolean
  | 10 => .int
  | 11 => .array .int
  | 12 => .array .int
  | 13 => .array .boolean
  | 14 => .array .int
  | 15 => .array .int
  | 16 => .array .int
  | 17 => .array .int
  | 18 => .array .int
  | 19 => .array .int
  | 20 => .array .int
  | 21 => .array .int
  | 22 => .array .int
  | 23 => .array .int
  | 24 => .array .int
  | 25 => .array .int
  | 26 => .array .int
  | _ => .array .int
abbrev wsX70 : List Cond := u_ws RX7 TX7 28
theorem nmX7 : ∀ a, a < 28 → ∀ b, b < 28 → a ≠ b → (TX7 a).2.1 ≠ (TX7 b).2.1 := by decide +kernel
theorem tyX7_ok : ∀ k, k < 28 → parseFieldDescriptor (TX7 k).2.2.1 = some (tyX7 k) := by decide +kernel
abbrev cX7_init : ByteArray := prog_9_method_1_code
def yX7_init : MethodName := ⟨RX7, "<init>", "()V"⟩
abbrev cX7_thrown : ByteArray := prog_9_method_2_code
def yX7_thrown : MethodName := ⟨RX7, "thrown", "()I"⟩
abbrev cX7_in : ByteArray := prog_9_method_3_code
def yX7_in : MethodName := ⟨RX7, "in", "(III)Z"⟩
abbrev cX7_isIndex : ByteArray := prog_9_method_4_code
def yX7_isIndex : MethodName := ⟨RX7, "isIndex", "(I)Z"⟩
abbrev cX7_isValue : ByteArray := prog_9_method_5_code
def yX7_isValue : MethodName := ⟨RX7, "isValue", "(I)Z"⟩
abbrev cX7_record : ByteArray := prog_9_method_6_code
def yX7_record : MethodName := ⟨RX7, "record", "(I)I"⟩
abbrev cX7_term : ByteArray := prog_9_method_7_code
def yX7_term : MethodName := ⟨RX7, "term", "(III)I"⟩
abbrev cX7_isQuestion : ByteArray := prog_9_method_8_code
def yX7_isQuestion : MethodName := ⟨RX7, "isQuestion", "(I)Z"⟩
abbrev cX7_question : ByteArray := prog_9_method_9_code
def yX7_question : MethodName := ⟨RX7, "question", "(IIII)I"⟩
abbrev cX7_session : ByteArray := prog_9_method_10_code
def yX7_session : MethodName := ⟨RX7, "session", "(II)I"⟩
abbrev cX7_isOpen : ByteArray := prog_9_method_11_code
def yX7_isOpen : MethodName := ⟨RX7, "isOpen", "(I)Z"⟩
abbrev cX7_end : ByteArray := prog_9_method_12_code
def yX7_end : MethodName := ⟨RX7, "end", "(I)V"⟩
abbrev cX7_tell : ByteArray := prog_9_method_13_code
def yX7_tell : MethodName := ⟨RX7, "tell", "(II)I"⟩
abbrev cX7_isName : ByteArray := prog_9_method_14_code
def yX7_isName : MethodName := ⟨RX7, "isName", "(II)Z"⟩
abbrev cX7_isSet : ByteArray := prog_9_method_15_code
def yX7_isSet : MethodName := ⟨RX7, "isSet", "(II)Z"⟩
abbrev cX7_meets : ByteArray := prog_9_method_16_code
def yX7_meets : MethodName := ⟨RX7, "meets", "(II)Z"⟩
abbrev cX7_search : ByteArray := prog_9_method_17_code
def yX7_search : MethodName := ⟨RX7, "search", "(III)I"⟩
abbrev cX7_size : ByteArray := prog_9_method_18_code
def yX7_size : MethodName := ⟨RX7, "size", "(II)I"⟩
abbrev cX7_present : ByteArray := prog_9_method_19_code
def yX7_present : MethodName := ⟨RX7, "present", "(IIII)I"⟩
abbrev cX7_segment : ByteArray := prog_9_method_20_code
def yX7_segment : MethodName := ⟨RX7, "segment", "(III)I"⟩
abbrev cX7_at : ByteArray := prog_9_method_21_code
def yX7_at : MethodName := ⟨RX7, "at", "(II)I"⟩
abbrev cX7_isBehind : ByteArray := prog_9_method_22_code
def yX7_isBehind : MethodName := ⟨RX7, "isBehind", "(IIIZ)Z"⟩
abbrev cX7_sort : ByteArray := prog_9_method_23_code
def yX7_sort : MethodName := ⟨RX7, "sort", "(IIIZ)I"⟩
abbrev cX7_reckon : ByteArray := prog_9_method_24_code
def yX7_reckon : MethodName := ⟨RX7, "reckon", "(I)V"⟩
abbrev cX7_scan : ByteArray := prog_9_method_25_code
def yX7_scan : MethodName := ⟨RX7, "scan", "(IIIII)I"⟩
abbrev cX7_scanned : ByteArray := prog_9_method_26_code
def yX7_scanned : MethodName := ⟨RX7, "scanned", "(III)I"⟩
abbrev cX7_drop : ByteArray := prog_9_method_27_code
def yX7_drop : MethodName := ⟨RX7, "drop", "(II)I"⟩
abbrev cX7_sets : ByteArray := prog_9_method_28_code
def yX7_sets : MethodName := ⟨RX7, "sets", "(I)I"⟩
abbrev cX7_close : ByteArray := prog_9_method_29_code
def yX7_close : MethodName := ⟨RX7, "close", "(I)I"⟩
abbrev cX7_state : ByteArray := prog_9_method_30_code
def yX7_state : MethodName := ⟨RX7, "state", "(II)I"⟩
def RJx00060 : String := "java/lang/ArrayIndexOutOfBoundsException"
def TJx00060 : u_T := fun k => match k with
  | 0 => ("java/lang/Throwable", "backtrace", "Ljava/lang/Object;", false)
  | 1 => ("java/lang/Throwable", "detailMessage", "Ljava/lang/String;", false)
  | 2 => ("java/lang/Throwable", "cause", "Ljava/lang/Throwable;", false)
  | 3 => ("java/lang/Throwable", "stackTrace", "[Ljava/lang/StackTraceElement;", false)
  | 4 => ("java/lang/Throwable", "depth", "I", false)
  | _ => ("java/lang/Throwable", "suppressedExceptions", "Ljava/util/List;", false)
def tyJx00060 : Nat → FieldType := fun k => match k with
  | 0 => .object "java/lang/Object"
  | 1 => .object "java/lang/String"
  | 2 => .object "java/lang/Throwable"
  | 3 => .array (.object "java/lang/StackTraceElement")
  | 4 => .int
  | _ => .object "java/util/List"
abbrev wsJx000600 : List Cond := u_ws RJx00060 TJx00060 6
theorem nmJx00060 : ∀ a, a < 6 → ∀ b, b < 6 → a ≠ b → (TJx00060 a).2.1 ≠ (TJx00060 b).2.1 := by decide +kernel
theorem tyJx00060_ok : ∀ k, k < 6 → parseFieldDescriptor (TJx00060 k).2.2.1 = some (tyJx00060 k) := by decide +kernel
abbrev cJx00060_init_a7421 : ByteArray := prog_10_method_2_code
def yJx00060_init_a7421 : MethodName := ⟨RJx00060, "<init>", "(Ljava/lang/String;)V"⟩
def RJ0 : String := "java/lang/String"
def TJ0 : u_T := fun k => match k with
  | 0 => ("java/lang/String", "value", "[B", true)
  | _ => ("java/lang/String", "coder", "B", true)
def tyJ0 : Nat → FieldType := fun k => match k with
  | 0 => .array .byte
  | _ => .byte
abbrev wsJ00 : List Cond := u_ws RJ0 TJ0 2
theorem nmJ0 : ∀ a, a < 2 → ∀ b, b < 2 → a ≠ b → (TJ0 a).2.1 ≠ (TJ0 b).2.1 := by decide +kernel
theorem tyJ0_ok : ∀ k, k < 2 → parseFieldDescriptor (TJ0 k).2.2.1 = some (tyJ0 k) := by decide +kernel
def RL : String := "SearchWireLaw"
abbrev cL_scanned : ByteArray := method_3_code
def yL_scanned : MethodName := ⟨RL, "scanned", "(LSearchWire;III[J)I"⟩
abbrev cL_law : ByteArray := code
def yL_law : MethodName := ⟨RL, "law", "([I)Z"⟩
abbrev vwCl : List vw_C := [(RJ0, TJ0, 2), (RJx00060, TJx00060, 6), (RX0, TX0, 6), (RX1, TX1, 5), (RX2, TX2, 3), (RX3, TX3, 3), (RX4, TX4, 3), (RX5, TX5, 7), (RX6, TX6, 4), (RX7, TX7, 28)]
end
section
theorem dX0_init_0 : decode cX0_init 0 = .ok (.aload_n 0, 1) := by decide +kernel
theorem dX0_init_1 : decode cX0_init 1 = .ok (.invokespecial 3, 3) := by decide +kernel
theorem dX0_init_4 : decode cX0_init 4 = .ok (.aload_n 0, 1) := by decide +kernel
theorem dX0_init_5 : decode cX0_init 5 = .ok (.bipush 100, 2) := by decide +kernel
theorem dX0_init_7 : decode cX0_init 7 = .ok (.newarray .int, 2) := by decide +kernel
theorem dX0_init_9 : decode cX0_init 9 = .ok (.putfield 9, 3) := by decide +kernel
theorem dX0_init_12 : decode cX0_init 12 = .ok (.aload_n 0, 1) := by decide +kernel
theorem dX0_init_13 : decode cX0_init 13 = .ok (.bipush 100, 2) := by decide +kernel
theorem dX0_init_15 : decode cX0_init 15 = .ok (.newarray .int, 2) := by decide +kernel
theorem dX0_init_17 : decode cX0_init 17 = .ok (.putfield 15, 3) := by decide +kernel
theorem dX0_init_20 : decode cX0_init 20 = .ok (.aload_n 0, 1) := by decide +kernel
theorem dX0_init_21 : decode cX0_init 21 = .ok (.bipush 100, 2) := by decide +kernel
theorem dX0_init_23 : decode cX0_init 23 = .ok (.newarray .int, 2) := by decide +kernel
theorem dX0_init_25 : decode cX0_init 25 = .ok (.putfield 18, 3) := by decide +kernel
theorem dX0_init_28 : decode cX0_init 28 = .ok (.aload_n 0, 1) := by decide +kernel
theorem dX0_init_29 : decode cX0_init 29 = .ok (.iconst 0, 1) := by decide +kernel
theorem dX0_init_30 : decode cX0_init 30 = .ok (.putfield 21, 3) := by decide +kernel
theorem dX0_init_33 : decode cX0_init 33 = .ok (.aload_n 0, 1) := by decide +kernel
theorem dX0_init_34 : decode cX0_init 34 = .ok (.iconst 0, 1) := by decide +kernel
theorem dX0_init_35 : decode cX0_init 35 = .ok (.putfield 25, 3) := by decide +kernel
theorem dX0_init_38 : decode cX0_init 38 = .ok (.aload_n 0, 1) := by decide +kernel
theorem dX0_init_39 : decode cX0_init 39 = .ok (.iload_n 1, 1) := by decide +kernel
theorem dX0_init_40 : decode cX0_init 40 = .ok (.putfield 28, 3) := by decide +kernel
theorem dX0_init_43 : decode cX0_init 43 = .ok (.return_, 1) := by decide +kernel
theorem dX0_clear_0 : decode cX0_clear 0 = .ok (.aload_n 0, 1) := by decide +kernel
theorem dX0_clear_1 : decode cX0_clear 1 = .ok (.iconst 0, 1) := by decide +kernel
theorem dX0_clear_2 : decode cX0_clear 2 = .ok (.putfield 21, 3) := by decide +kernel
theorem dX0_clear_5 : decode cX0_clear 5 = .ok (.aload_n 0, 1) := by decide +kernel
theorem dX0_clear_6 : decode cX0_clear 6 = .ok (.iconst 0, 1) := by decide +kernel
theorem dX0_clear_7 : decode cX0_clear 7 = .ok (.putfield 25, 3) := by decide +kernel
theorem dX0_clear_10 : decode cX0_clear 10 = .ok (.return_, 1) := by decide +kernel
theorem dX0_segmentCount_0 : decode cX0_segmentCount 0 = .ok (.aload_n 0, 1) := by decide +kernel
theorem dX0_segmentCount_1 : decode cX0_segmentCount 1 = .ok (.getfield 25, 3) := by decide +kernel
theorem dX0_segmentCount_4 : decode cX0_segmentCount 4 = .ok (.ireturn, 1) := by decide +kernel
theorem dX0_add_0 : decode cX0_add 0 = .ok (.aload_n 0, 1) := by decide +kernel
theorem dX0_add_1 : decode cX0_add 1 = .ok (.getfield 21, 3) := by decide +kernel
theorem dX0_add_4 : decode cX0_add 4 = .ok (.bipush 100, 2) := by decide +kernel
theorem dX0_add_6 : decode cX0_add 6 = .ok (.if_icmp .lt 4, 3) := by decide +kernel
theorem dX0_add_9 : decode cX0_add 9 = .ok (.return_, 1) := by decide +kernel
theorem dX0_add_10 : decode cX0_add 10 = .ok (.aload_n 0, 1) := by decide +kernel
theorem dX0_add_11 : decode cX0_add 11 = .ok (.getfield 25, 3) := by decide +kernel
theorem dX0_add_14 : decode cX0_add 14 = .ok (.ifCond .eq 23, 3) := by decide +kernel
theorem dX0_add_17 : decode cX0_add 17 = .ok (.aload_n 0, 1) := by decide +kernel
theorem dX0_add_18 : decode cX0_add 18 = .ok (.getfield 18, 3) := by decide +kernel
theorem dX0_add_21 : decode cX0_add 21 = .ok (.aload_n 0, 1) := by decide +kernel
theorem dX0_add_22 : decode cX0_add 22 = .ok (.getfield 25, 3) := by decide +kernel
theorem dX0_add_25 : decode cX0_add 25 = .ok (.iconst 1, 1) := by decide +kernel
theorem dX0_add_26 : decode cX0_add 26 = .ok (.isub, 1) := by decide +kernel
theorem dX0_add_27 : decode cX0_add 27 = .ok (.iaload, 1) := by decide +kernel
theorem dX0_add_28 : decode cX0_add 28 = .ok (.iload_n 2, 1) := by decide +kernel
theorem dX0_add_29 : decode cX0_add 29 = .ok (.iadd, 1) := by decide +kernel
theorem dX0_add_30 : decode cX0_add 30 = .ok (.aload_n 0, 1) := by decide +kernel
theorem dX0_add_31 : decode cX0_add 31 = .ok (.getfield 28, 3) := by decide +kernel
theorem dX0_add_34 : decode cX0_add 34 = .ok (.if_icmp .le 36, 3) := by decide +kernel
theorem dX0_add_37 : decode cX0_add 37 = .ok (.aload_n 0, 1) := by decide +kernel
theorem dX0_add_38 : decode cX0_add 38 = .ok (.getfield 15, 3) := by decide +kernel
theorem dX0_add_41 : decode cX0_add 41 = .ok (.aload_n 0, 1) := by decide +kernel
theorem dX0_add_42 : decode cX0_add 42 = .ok (.getfield 25, 3) := by decide +kernel
theorem dX0_add_45 : decode cX0_add 45 = .ok (.aload_n 0, 1) := by decide +kernel
theorem dX0_add_46 : decode cX0_add 46 = .ok (.getfield 21, 3) := by decide +kernel
theorem dX0_add_49 : decode cX0_add 49 = .ok (.iastore, 1) := by decide +kernel
theorem dX0_add_50 : decode cX0_add 50 = .ok (.aload_n 0, 1) := by decide +kernel
theorem dX0_add_51 : decode cX0_add 51 = .ok (.getfield 18, 3) := by decide +kernel
theorem dX0_add_54 : decode cX0_add 54 = .ok (.aload_n 0, 1) := by decide +kernel
theorem dX0_add_55 : decode cX0_add 55 = .ok (.getfield 25, 3) := by decide +kernel
theorem dX0_add_58 : decode cX0_add 58 = .ok (.iconst 0, 1) := by decide +kernel
theorem dX0_add_59 : decode cX0_add 59 = .ok (.iastore, 1) := by decide +kernel
theorem dX0_add_60 : decode cX0_add 60 = .ok (.aload_n 0, 1) := by decide +kernel
theorem dX0_add_61 : decode cX0_add 61 = .ok (.dup, 1) := by decide +kernel
theorem dX0_add_62 : decode cX0_add 62 = .ok (.getfield 25, 3) := by decide +kernel
theorem dX0_add_65 : decode cX0_add 65 = .ok (.iconst 1, 1) := by decide +kernel
theorem dX0_add_66 : decode cX0_add 66 = .ok (.iadd, 1) := by decide +kernel
theorem dX0_add_67 : decode cX0_add 67 = .ok (.putfield 25, 3) := by decide +kernel
theorem dX0_add_70 : decode cX0_add 70 = .ok (.aload_n 0, 1) := by decide +kernel
theorem dX0_add_71 : decode cX0_add 71 = .ok (.getfield 18, 3) := by decide +kernel
theorem dX0_add_74 : decode cX0_add 74 = .ok (.aload_n 0, 1) := by decide +kernel
theorem dX0_add_75 : decode cX0_add 75 = .ok (.getfield 25, 3) := by decide +kernel
theorem dX0_add_78 : decode cX0_add 78 = .ok (.iconst 1, 1) := by decide +kernel
theorem dX0_add_79 : decode cX0_add 79 = .ok (.isub, 1) := by decide +kernel
theorem dX0_add_80 : decode cX0_add 80 = .ok (.dup2, 1) := by decide +kernel
theorem dX0_add_81 : decode cX0_add 81 = .ok (.iaload, 1) := by decide +kernel
theorem dX0_add_82 : decode cX0_add 82 = .ok (.iload_n 2, 1) := by decide +kernel
theorem dX0_add_83 : decode cX0_add 83 = .ok (.iadd, 1) := by decide +kernel
theorem dX0_add_84 : decode cX0_add 84 = .ok (.iastore, 1) := by decide +kernel
theorem dX0_add_85 : decode cX0_add 85 = .ok (.aload_n 0, 1) := by decide +kernel
theorem dX0_add_86 : decode cX0_add 86 = .ok (.getfield 9, 3) := by decide +kernel
theorem dX0_add_89 : decode cX0_add 89 = .ok (.aload_n 0, 1) := by decide +kernel
theorem dX0_add_90 : decode cX0_add 90 = .ok (.getfield 21, 3) := by decide +kernel
theorem dX0_add_93 : decode cX0_add 93 = .ok (.iload_n 1, 1) := by decide +kernel
theorem dX0_add_94 : decode cX0_add 94 = .ok (.iastore, 1) := by decide +kernel
theorem dX0_add_95 : decode cX0_add 95 = .ok (.aload_n 0, 1) := by decide +kernel
theorem dX0_add_96 : decode cX0_add 96 = .ok (.dup, 1) := by decide +kernel
theorem dX0_add_97 : decode cX0_add 97 = .ok (.getfield 21, 3) := by decide +kernel
theorem dX0_add_100 : decode cX0_add 100 = .ok (.iconst 1, 1) := by decide +kernel
theorem dX0_add_101 : decode cX0_add 101 = .ok (.iadd, 1) := by decide +kernel
theorem dX0_add_102 : decode cX0_add 102 = .ok (.putfield 21, 3) := by decide +kernel
theorem dX0_add_105 : decode cX0_add 105 = .ok (.return_, 1) := by decide +kernel
theorem dX0_recordAt_0 : decode cX0_recordAt 0 = .ok (.iload_n 1, 1) := by decide +kernel
theorem dX0_recordAt_1 : decode cX0_recordAt 1 = .ok (.ifCond .lt 20, 3) := by decide +kernel
theorem dX0_recordAt_4 : decode cX0_recordAt 4 = .ok (.iload_n 1, 1) := by decide +kernel
theorem dX0_recordAt_5 : decode cX0_recordAt 5 = .ok (.aload_n 0, 1) := by decide +kernel
theorem dX0_recordAt_6 : decode cX0_recordAt 6 = .ok (.getfield 21, 3) := by decide +kernel
theorem dX0_recordAt_9 : decode cX0_recordAt 9 = .ok (.if_icmp .ge 12, 3) := by decide +kernel
theorem dX0_recordAt_12 : decode cX0_recordAt 12 = .ok (.aload_n 0, 1) := by decide +kernel
theorem dX0_recordAt_13 : decode cX0_recordAt 13 = .ok (.getfield 9, 3) := by decide +kernel
theorem dX0_recordAt_16 : decode cX0_recordAt 16 = .ok (.iload_n 1, 1) := by decide +kernel
theorem dX0_recordAt_17 : decode cX0_recordAt 17 = .ok (.iaload, 1) := by decide +kernel
theorem dX0_recordAt_18 : decode cX0_recordAt 18 = .ok (.goto 4, 3) := by decide +kernel
theorem dX0_recordAt_21 : decode cX0_recordAt 21 = .ok (.iconst (-1), 1) := by decide +kernel
theorem dX0_recordAt_22 : decode cX0_recordAt 22 = .ok (.ireturn, 1) := by decide +kernel
theorem dX0_tellSegment_0 : decode cX0_tellSegment 0 = .ok (.iload_n 1, 1) := by decide +kernel
theorem dX0_tellSegment_1 : decode cX0_tellSegment 1 = .ok (.ifCond .lt 11, 3) := by decide +kernel
theorem dX0_tellSegment_4 : decode cX0_tellSegment 4 = .ok (.iload_n 1, 1) := by decide +kernel
theorem dX0_tellSegment_5 : decode cX0_tellSegment 5 = .ok (.aload_n 0, 1) := by decide +kernel
theorem dX0_tellSegment_6 : decode cX0_tellSegment 6 = .ok (.getfield 25, 3) := by decide +kernel
theorem dX0_tellSegment_9 : decode cX0_tellSegment 9 = .ok (.if_icmp .lt 5, 3) := by decide +kernel
theorem dX0_tellSegment_12 : decode cX0_tellSegment 12 = .ok (.iconst (-1), 1) := by decide +kernel
theorem dX0_tellSegment_13 : decode cX0_tellSegment 13 = .ok (.ireturn, 1) := by decide +kernel
theorem dX0_tellSegment_14 : decode cX0_tellSegment 14 = .ok (.iload_n 2, 1) := by decide +kernel
theorem dX0_tellSegment_15 : decode cX0_tellSegment 15 = .ok (.tableswitch 75 0 3 #[29, 36, 49, 56], 29) := by decide +kernel
theorem dX0_tellSegment_44 : decode cX0_tellSegment 44 = .ok (.aload_n 0, 1) := by decide +kernel
theorem dX0_tellSegment_45 : decode cX0_tellSegment 45 = .ok (.getfield 15, 3) := by decide +kernel
theorem dX0_tellSegment_48 : decode cX0_tellSegment 48 = .ok (.iload_n 1, 1) := by decide +kernel
theorem dX0_tellSegment_49 : decode cX0_tellSegment 49 = .ok (.iaload, 1) := by decide +kernel
theorem dX0_tellSegment_50 : decode cX0_tellSegment 50 = .ok (.ireturn, 1) := by decide +kernel
theorem dX0_tellSegment_51 : decode cX0_tellSegment 51 = .ok (.aload_n 0, 1) := by decide +kernel
theorem dX0_tellSegment_52 : decode cX0_tellSegment 52 = .ok (.iload_n 1, 1) := by decide +kernel
theorem dX0_tellSegment_53 : decode cX0_tellSegment 53 = .ok (.invokevirtual 31, 3) := by decide +kernel
theorem dX0_tellSegment_56 : decode cX0_tellSegment 56 = .ok (.aload_n 0, 1) := by decide +kernel
theorem dX0_tellSegment_57 : decode cX0_tellSegment 57 = .ok (.getfield 15, 3) := by decide +kernel
theorem dX0_tellSegment_60 : decode cX0_tellSegment 60 = .ok (.iload_n 1, 1) := by decide +kernel
theorem dX0_tellSegment_61 : decode cX0_tellSegment 61 = .ok (.iaload, 1) := by decide +kernel
theorem dX0_tellSegment_62 : decode cX0_tellSegment 62 = .ok (.isub, 1) := by decide +kernel
theorem dX0_tellSegment_63 : decode cX0_tellSegment 63 = .ok (.ireturn, 1) := by decide +kernel
theorem dX0_tellSegment_64 : decode cX0_tellSegment 64 = .ok (.aload_n 0, 1) := by decide +kernel
theorem dX0_tellSegment_65 : decode cX0_tellSegment 65 = .ok (.getfield 18, 3) := by decide +kernel
theorem dX0_tellSegment_68 : decode cX0_tellSegment 68 = .ok (.iload_n 1, 1) := by decide +kernel
theorem dX0_tellSegment_69 : decode cX0_tellSegment 69 = .ok (.iaload, 1) := by decide +kernel
theorem dX0_tellSegment_70 : decode cX0_tellSegment 70 = .ok (.ireturn, 1) := by decide +kernel
theorem dX0_tellSegment_71 : decode cX0_tellSegment 71 = .ok (.aload_n 0, 1) := by decide +kernel
theorem dX0_tellSegment_72 : decode cX0_tellSegment 72 = .ok (.getfield 18, 3) := by decide +kernel
theorem dX0_tellSegment_75 : decode cX0_tellSegment 75 = .ok (.iload_n 1, 1) := by decide +kernel
theorem dX0_tellSegment_76 : decode cX0_tellSegment 76 = .ok (.iaload, 1) := by decide +kernel
theorem dX0_tellSegment_77 : decode cX0_tellSegment 77 = .ok (.aload_n 0, 1) := by decide +kernel
theorem dX0_tellSegment_78 : decode cX0_tellSegment 78 = .ok (.getfield 28, 3) := by decide +kernel
theorem dX0_tellSegment_81 : decode cX0_tellSegment 81 = .ok (.if_icmp .le 7, 3) := by decide +kernel
theorem dX0_tellSegment_84 : decode cX0_tellSegment 84 = .ok (.iconst 1, 1) := by decide +kernel
theorem dX0_tellSegment_85 : decode cX0_tellSegment 85 = .ok (.goto 4, 3) := by decide +kernel
theorem dX0_tellSegment_88 : decode cX0_tellSegment 88 = .ok (.iconst 0, 1) := by decide +kernel
theorem dX0_tellSegment_89 : decode cX0_tellSegment 89 = .ok (.ireturn, 1) := by decide +kernel
theorem dX0_tellSegment_90 : decode cX0_tellSegment 90 = .ok (.iconst (-1), 1) := by decide +kernel
theorem dX0_tellSegment_91 : decode cX0_tellSegment 91 = .ok (.ireturn, 1) := by decide +kernel
theorem dX0_endOfSegment_0 : decode cX0_endOfSegment 0 = .ok (.iload_n 1, 1) := by decide +kernel
theorem dX0_endOfSegment_1 : decode cX0_endOfSegment 1 = .ok (.iconst 1, 1) := by decide +kernel
theorem dX0_endOfSegment_2 : decode cX0_endOfSegment 2 = .ok (.iadd, 1) := by decide +kernel
theorem dX0_endOfSegment_3 : decode cX0_endOfSegment 3 = .ok (.aload_n 0, 1) := by decide +kernel
theorem dX0_endOfSegment_4 : decode cX0_endOfSegment 4 = .ok (.getfield 25, 3) := by decide +kernel
theorem dX0_endOfSegment_7 : decode cX0_endOfSegment 7 = .ok (.if_icmp .ge 14, 3) := by decide +kernel
theorem dX0_endOfSegment_10 : decode cX0_endOfSegment 10 = .ok (.aload_n 0, 1) := by decide +kernel
theorem dX0_endOfSegment_11 : decode cX0_endOfSegment 11 = .ok (.getfield 15, 3) := by decide +kernel
theorem dX0_endOfSegment_14 : decode cX0_endOfSegment 14 = .ok (.iload_n 1, 1) := by decide +kernel
theorem dX0_endOfSegment_15 : decode cX0_endOfSegment 15 = .ok (.iconst 1, 1) := by decide +kernel
theorem dX0_endOfSegment_16 : decode cX0_endOfSegment 16 = .ok (.iadd, 1) := by decide +kernel
theorem dX0_endOfSegment_17 : decode cX0_endOfSegment 17 = .ok (.iaload, 1) := by decide +kernel
theorem dX0_endOfSegment_18 : decode cX0_endOfSegment 18 = .ok (.goto 7, 3) := by decide +kernel
theorem dX0_endOfSegment_21 : decode cX0_endOfSegment 21 = .ok (.aload_n 0, 1) := by decide +kernel
theorem dX0_endOfSegment_22 : decode cX0_endOfSegment 22 = .ok (.getfield 21, 3) := by decide +kernel
theorem dX0_endOfSegment_25 : decode cX0_endOfSegment 25 = .ok (.ireturn, 1) := by decide +kernel
theorem dX1_init_0 : decode cX1_init 0 = .ok (.aload_n 0, 1) := by decide +kernel
theorem dX1_init_1 : decode cX1_init 1 = .ok (.invokespecial 3, 3) := by decide +kernel
theorem dX1_init_4 : decode cX1_init 4 = .ok (.aload_n 0, 1) := by decide +kernel
theorem dX1_init_5 : decode cX1_init 5 = .ok (.bipush 40, 2) := by decide +kernel
theorem dX1_init_7 : decode cX1_init 7 = .ok (.newarray .int, 2) := by decide +kernel
theorem dX1_init_9 : decode cX1_init 9 = .ok (.putfield 9, 3) := by decide +kernel
theorem dX1_init_12 : decode cX1_init 12 = .ok (.aload_n 0, 1) := by decide +kernel
theorem dX1_init_13 : decode cX1_init 13 = .ok (.bipush 40, 2) := by decide +kernel
theorem dX1_init_15 : decode cX1_init 15 = .ok (.newarray .int, 2) := by decide +kernel
theorem dX1_init_17 : decode cX1_init 17 = .ok (.putfield 15, 3) := by decide +kernel
theorem dX1_init_20 : decode cX1_init 20 = .ok (.aload_n 0, 1) := by decide +kernel
theorem dX1_init_21 : decode cX1_init 21 = .ok (.bipush 40, 2) := by decide +kernel
theorem dX1_init_23 : decode cX1_init 23 = .ok (.newarray .int, 2) := by decide +kernel
theorem dX1_init_25 : decode cX1_init 25 = .ok (.putfield 18, 3) := by decide +kernel
theorem dX1_init_28 : decode cX1_init 28 = .ok (.aload_n 0, 1) := by decide +kernel
theorem dX1_init_29 : decode cX1_init 29 = .ok (.bipush 40, 2) := by decide +kernel
theorem dX1_init_31 : decode cX1_init 31 = .ok (.newarray .int, 2) := by decide +kernel
theorem dX1_init_33 : decode cX1_init 33 = .ok (.putfield 21, 3) := by decide +kernel
theorem dX1_init_36 : decode cX1_init 36 = .ok (.aload_n 0, 1) := by decide +kernel
theorem dX1_init_37 : decode cX1_init 37 = .ok (.iconst 0, 1) := by decide +kernel
theorem dX1_init_38 : decode cX1_init 38 = .ok (.putfield 24, 3) := by decide +kernel
theorem dX1_init_41 : decode cX1_init 41 = .ok (.return_, 1) := by decide +kernel
theorem dX1_has_0 : decode cX1_has 0 = .ok (.iload_n 1, 1) := by decide +kernel
theorem dX1_has_1 : decode cX1_has 1 = .ok (.ifCond .lt 15, 3) := by decide +kernel
theorem dX1_has_4 : decode cX1_has 4 = .ok (.iload_n 1, 1) := by decide +kernel
theorem dX1_has_5 : decode cX1_has 5 = .ok (.aload_n 0, 1) := by decide +kernel
theorem dX1_has_6 : decode cX1_has 6 = .ok (.getfield 24, 3) := by decide +kernel
theorem dX1_has_9 : decode cX1_has 9 = .ok (.if_icmp .ge 7, 3) := by decide +kernel
theorem dX1_has_12 : decode cX1_has 12 = .ok (.iconst 1, 1) := by decide +kernel
theorem dX1_has_13 : decode cX1_has 13 = .ok (.goto 4, 3) := by decide +kernel
theorem dX1_has_16 : decode cX1_has 16 = .ok (.iconst 0, 1) := by decide +kernel
theorem dX1_has_17 : decode cX1_has 17 = .ok (.ireturn, 1) := by decide +kernel
theorem dX1_addRange_0 : decode cX1_addRange 0 = .ok (.iload_n 1, 1) := by decide +kernel
theorem dX1_addRange_1 : decode cX1_addRange 1 = .ok (.invokestatic 28, 3) := by decide +kernel
theorem dX1_addRange_4 : decode cX1_addRange 4 = .ok (.ifCond .eq 22, 3) := by decide +kernel
theorem dX1_addRange_7 : decode cX1_addRange 7 = .ok (.iload_n 2, 1) := by decide +kernel
theorem dX1_addRange_8 : decode cX1_addRange 8 = .ok (.invokestatic 32, 3) := by decide +kernel
theorem dX1_addRange_11 : decode cX1_addRange 11 = .ok (.ifCond .eq 15, 3) := by decide +kernel
theorem dX1_addRange_14 : decode cX1_addRange 14 = .ok (.iload_n 3, 1) := by decide +kernel
theorem dX1_addRange_15 : decode cX1_addRange 15 = .ok (.invokestatic 32, 3) := by decide +kernel
theorem dX1_addRange_18 : decode cX1_addRange 18 = .ok (.ifCond .eq 8, 3) := by decide +kernel
theorem dX1_addRange_21 : decode cX1_addRange 21 = .ok (.iload_n 2, 1) := by decide +kernel
theorem dX1_addRange_22 : decode cX1_addRange 22 = .ok (.iload_n 3, 1) := by decide +kernel
theorem dX1_addRange_23 : decode cX1_addRange 23 = .ok (.if_icmp .le 5, 3) := by decide +kernel
theorem dX1_addRange_26 : decode cX1_addRange 26 = .ok (.iconst (-1), 1) := by decide +kernel
theorem dX1_addRange_27 : decode cX1_addRange 27 = .ok (.ireturn, 1) := by decide +kernel
theorem dX1_addRange_28 : decode cX1_addRange 28 = .ok (.aload_n 0, 1) := by decide +kernel
theorem dX1_addRange_29 : decode cX1_addRange 29 = .ok (.iconst 1, 1) := by decide +kernel
theorem dX1_addRange_30 : decode cX1_addRange 30 = .ok (.iload_n 1, 1) := by decide +kernel
theorem dX1_addRange_31 : decode cX1_addRange 31 = .ok (.iload_n 2, 1) := by decide +kernel
theorem dX1_addRange_32 : decode cX1_addRange 32 = .ok (.iload_n 3, 1) := by decide +kernel
theorem dX1_addRange_33 : decode cX1_addRange 33 = .ok (.invokevirtual 35, 3) := by decide +kernel
theorem dX1_addRange_36 : decode cX1_addRange 36 = .ok (.ireturn, 1) := by decide +kernel
theorem dX1_addPair_0 : decode cX1_addPair 0 = .ok (.iload_n 1, 1) := by decide +kernel
theorem dX1_addPair_1 : decode cX1_addPair 1 = .ok (.iconst 2, 1) := by decide +kernel
theorem dX1_addPair_2 : decode cX1_addPair 2 = .ok (.if_icmp .lt 24, 3) := by decide +kernel
theorem dX1_addPair_5 : decode cX1_addPair 5 = .ok (.iload_n 1, 1) := by decide +kernel
theorem dX1_addPair_6 : decode cX1_addPair 6 = .ok (.iconst 4, 1) := by decide +kernel
theorem dX1_addPair_7 : decode cX1_addPair 7 = .ok (.if_icmp .gt 19, 3) := by decide +kernel
theorem dX1_addPair_10 : decode cX1_addPair 10 = .ok (.aload_n 0, 1) := by decide +kernel
theorem dX1_addPair_11 : decode cX1_addPair 11 = .ok (.iload_n 2, 1) := by decide +kernel
theorem dX1_addPair_12 : decode cX1_addPair 12 = .ok (.invokevirtual 39, 3) := by decide +kernel
theorem dX1_addPair_15 : decode cX1_addPair 15 = .ok (.ifCond .eq 11, 3) := by decide +kernel
theorem dX1_addPair_18 : decode cX1_addPair 18 = .ok (.aload_n 0, 1) := by decide +kernel
theorem dX1_addPair_19 : decode cX1_addPair 19 = .ok (.iload_n 3, 1) := by decide +kernel
theorem dX1_addPair_20 : decode cX1_addPair 20 = .ok (.invokevirtual 39, 3) := by decide +kernel
theorem dX1_addPair_23 : decode cX1_addPair 23 = .ok (.ifCond .ne 5, 3) := by decide +kernel
theorem dX1_addPair_26 : decode cX1_addPair 26 = .ok (.iconst (-1), 1) := by decide +kernel
theorem dX1_addPair_27 : decode cX1_addPair 27 = .ok (.ireturn, 1) := by decide +kernel
theorem dX1_addPair_28 : decode cX1_addPair 28 = .ok (.aload_n 0, 1) := by decide +kernel
theorem dX1_addPair_29 : decode cX1_addPair 29 = .ok (.iload_n 1, 1) := by decide +kernel
theorem dX1_addPair_30 : decode cX1_addPair 30 = .ok (.iload_n 2, 1) := by decide +kernel
theorem dX1_addPair_31 : decode cX1_addPair 31 = .ok (.iload_n 3, 1) := by decide +kernel
theorem dX1_addPair_32 : decode cX1_addPair 32 = .ok (.iconst 0, 1) := by decide +kernel
theorem dX1_addPair_33 : decode cX1_addPair 33 = .ok (.invokevirtual 35, 3) := by decide +kernel
theorem dX1_addPair_36 : decode cX1_addPair 36 = .ok (.ireturn, 1) := by decide +kernel
theorem dX1_add_0 : decode cX1_add 0 = .ok (.aload_n 0, 1) := by decide +kernel
theorem dX1_add_1 : decode cX1_add 1 = .ok (.getfield 24, 3) := by decide +kernel
theorem dX1_add_4 : decode cX1_add 4 = .ok (.bipush 40, 2) := by decide +kernel
theorem dX1_add_6 : decode cX1_add 6 = .ok (.if_icmp .lt 5, 3) := by decide +kernel
theorem dX1_add_9 : decode cX1_add 9 = .ok (.iconst (-1), 1) := by decide +kernel
theorem dX1_add_10 : decode cX1_add 10 = .ok (.ireturn, 1) := by decide +kernel
theorem dX1_add_11 : decode cX1_add 11 = .ok (.aload_n 0, 1) := by decide +kernel
theorem dX1_add_12 : decode cX1_add 12 = .ok (.getfield 9, 3) := by decide +kernel
theorem dX1_add_15 : decode cX1_add 15 = .ok (.aload_n 0, 1) := by decide +kernel
theorem dX1_add_16 : decode cX1_add 16 = .ok (.getfield 24, 3) := by decide +kernel
theorem dX1_add_19 : decode cX1_add 19 = .ok (.iload_n 1, 1) := by decide +kernel
theorem dX1_add_20 : decode cX1_add 20 = .ok (.iastore, 1) := by decide +kernel
theorem dX1_add_21 : decode cX1_add 21 = .ok (.aload_n 0, 1) := by decide +kernel
theorem dX1_add_22 : decode cX1_add 22 = .ok (.getfield 15, 3) := by decide +kernel
theorem dX1_add_25 : decode cX1_add 25 = .ok (.aload_n 0, 1) := by decide +kernel
theorem dX1_add_26 : decode cX1_add 26 = .ok (.getfield 24, 3) := by decide +kernel
theorem dX1_add_29 : decode cX1_add 29 = .ok (.iload_n 2, 1) := by decide +kernel
theorem dX1_add_30 : decode cX1_add 30 = .ok (.iastore, 1) := by decide +kernel
theorem dX1_add_31 : decode cX1_add 31 = .ok (.aload_n 0, 1) := by decide +kernel
theorem dX1_add_32 : decode cX1_add 32 = .ok (.getfield 18, 3) := by decide +kernel
theorem dX1_add_35 : decode cX1_add 35 = .ok (.aload_n 0, 1) := by decide +kernel
theorem dX1_add_36 : decode cX1_add 36 = .ok (.getfield 24, 3) := by decide +kernel
theorem dX1_add_39 : decode cX1_add 39 = .ok (.iload_n 3, 1) := by decide +kernel
theorem dX1_add_40 : decode cX1_add 40 = .ok (.iastore, 1) := by decide +kernel
theorem dX1_add_41 : decode cX1_add 41 = .ok (.aload_n 0, 1) := by decide +kernel
theorem dX1_add_42 : decode cX1_add 42 = .ok (.getfield 21, 3) := by decide +kernel
theorem dX1_add_45 : decode cX1_add 45 = .ok (.aload_n 0, 1) := by decide +kernel
theorem dX1_add_46 : decode cX1_add 46 = .ok (.getfield 24, 3) := by decide +kernel
theorem dX1_add_49 : decode cX1_add 49 = .ok (.iload 4, 2) := by decide +kernel
theorem dX1_add_51 : decode cX1_add 51 = .ok (.iastore, 1) := by decide +kernel
theorem dX1_add_52 : decode cX1_add 52 = .ok (.aload_n 0, 1) := by decide +kernel
theorem dX1_add_53 : decode cX1_add 53 = .ok (.dup, 1) := by decide +kernel
theorem dX1_add_54 : decode cX1_add 54 = .ok (.getfield 24, 3) := by decide +kernel
theorem dX1_add_57 : decode cX1_add 57 = .ok (.iconst 1, 1) := by decide +kernel
theorem dX1_add_58 : decode cX1_add 58 = .ok (.iadd, 1) := by decide +kernel
theorem dX1_add_59 : decode cX1_add 59 = .ok (.putfield 24, 3) := by decide +kernel
theorem dX1_add_62 : decode cX1_add 62 = .ok (.aload_n 0, 1) := by decide +kernel
theorem dX1_add_63 : decode cX1_add 63 = .ok (.getfield 24, 3) := by decide +kernel
theorem dX1_add_66 : decode cX1_add 66 = .ok (.iconst 1, 1) := by decide +kernel
theorem dX1_add_67 : decode cX1_add 67 = .ok (.isub, 1) := by decide +kernel
theorem dX1_add_68 : decode cX1_add 68 = .ok (.ireturn, 1) := by decide +kernel
theorem dX1_finds_0 : decode cX1_finds 0 = .ok (.aload_n 0, 1) := by decide +kernel
theorem dX1_finds_1 : decode cX1_finds 1 = .ok (.iload_n 1, 1) := by decide +kernel
theorem dX1_finds_2 : decode cX1_finds 2 = .ok (.invokevirtual 39, 3) := by decide +kernel
theorem dX1_finds_5 : decode cX1_finds 5 = .ok (.ifCond .ne 5, 3) := by decide +kernel
theorem dX1_finds_8 : decode cX1_finds 8 = .ok (.iconst 0, 1) := by decide +kernel
theorem dX1_finds_9 : decode cX1_finds 9 = .ok (.ireturn, 1) := by decide +kernel
theorem dX1_finds_10 : decode cX1_finds 10 = .ok (.lconst 0, 1) := by decide +kernel
theorem dX1_finds_11 : decode cX1_finds 11 = .ok (.lstore 4, 2) := by decide +kernel
theorem dX1_finds_13 : decode cX1_finds 13 = .ok (.iconst 0, 1) := by decide +kernel
theorem dX1_finds_14 : decode cX1_finds 14 = .ok (.istore 6, 2) := by decide +kernel
theorem dX1_finds_16 : decode cX1_finds 16 = .ok (.iload 6, 2) := by decide +kernel
theorem dX1_finds_18 : decode cX1_finds 18 = .ok (.iload_n 1, 1) := by decide +kernel
theorem dX1_finds_19 : decode cX1_finds 19 = .ok (.if_icmp .gt 31, 3) := by decide +kernel
theorem dX1_finds_22 : decode cX1_finds 22 = .ok (.aload_n 0, 1) := by decide +kernel
theorem dX1_finds_23 : decode cX1_finds 23 = .ok (.iload 6, 2) := by decide +kernel
theorem dX1_finds_25 : decode cX1_finds 25 = .ok (.aload_n 2, 1) := by decide +kernel
theorem dX1_finds_26 : decode cX1_finds 26 = .ok (.iload_n 3, 1) := by decide +kernel
theorem dX1_finds_27 : decode cX1_finds 27 = .ok (.lload 4, 2) := by decide +kernel
theorem dX1_finds_29 : decode cX1_finds 29 = .ok (.invokevirtual 42, 3) := by decide +kernel
theorem dX1_finds_32 : decode cX1_finds 32 = .ok (.ifCond .eq 12, 3) := by decide +kernel
theorem dX1_finds_35 : decode cX1_finds 35 = .ok (.lload 4, 2) := by decide +kernel
theorem dX1_finds_37 : decode cX1_finds 37 = .ok (.lconst 1, 1) := by decide +kernel
theorem dX1_finds_38 : decode cX1_finds 38 = .ok (.iload 6, 2) := by decide +kernel
theorem dX1_finds_40 : decode cX1_finds 40 = .ok (.lshl, 1) := by decide +kernel
theorem dX1_finds_41 : decode cX1_finds 41 = .ok (.lor, 1) := by decide +kernel
theorem dX1_finds_42 : decode cX1_finds 42 = .ok (.lstore 4, 2) := by decide +kernel
theorem dX1_finds_44 : decode cX1_finds 44 = .ok (.iinc 6 1, 3) := by decide +kernel
theorem dX1_finds_47 : decode cX1_finds 47 = .ok (.goto (-31), 3) := by decide +kernel
theorem dX1_finds_50 : decode cX1_finds 50 = .ok (.lload 4, 2) := by decide +kernel
theorem dX1_finds_52 : decode cX1_finds 52 = .ok (.iload_n 1, 1) := by decide +kernel
theorem dX1_finds_53 : decode cX1_finds 53 = .ok (.invokestatic 46, 3) := by decide +kernel
theorem dX1_finds_56 : decode cX1_finds 56 = .ok (.ireturn, 1) := by decide +kernel
theorem dX1_holds_0 : decode cX1_holds 0 = .ok (.aload_n 0, 1) := by decide +kernel
theorem dX1_holds_1 : decode cX1_holds 1 = .ok (.getfield 15, 3) := by decide +kernel
theorem dX1_holds_4 : decode cX1_holds 4 = .ok (.iload_n 1, 1) := by decide +kernel
theorem dX1_holds_5 : decode cX1_holds 5 = .ok (.iaload, 1) := by decide +kernel
theorem dX1_holds_6 : decode cX1_holds 6 = .ok (.istore 6, 2) := by decide +kernel
theorem dX1_holds_8 : decode cX1_holds 8 = .ok (.aload_n 0, 1) := by decide +kernel
theorem dX1_holds_9 : decode cX1_holds 9 = .ok (.getfield 18, 3) := by decide +kernel
theorem dX1_holds_12 : decode cX1_holds 12 = .ok (.iload_n 1, 1) := by decide +kernel
theorem dX1_holds_13 : decode cX1_holds 13 = .ok (.iaload, 1) := by decide +kernel
theorem dX1_holds_14 : decode cX1_holds 14 = .ok (.istore 7, 2) := by decide +kernel
theorem dX1_holds_16 : decode cX1_holds 16 = .ok (.aload_n 0, 1) := by decide +kernel
theorem dX1_holds_17 : decode cX1_holds 17 = .ok (.getfield 9, 3) := by decide +kernel
theorem dX1_holds_20 : decode cX1_holds 20 = .ok (.iload_n 1, 1) := by decide +kernel
theorem dX1_holds_21 : decode cX1_holds 21 = .ok (.iaload, 1) := by decide +kernel
theorem dX1_holds_22 : decode cX1_holds 22 = .ok (.tableswitch 104 2 4 #[26, 52, 78], 26) := by decide +kernel
theorem dX1_holds_48 : decode cX1_holds 48 = .ok (.lload 4, 2) := by decide +kernel
theorem dX1_holds_50 : decode cX1_holds 50 = .ok (.iload 6, 2) := by decide +kernel
theorem dX1_holds_52 : decode cX1_holds 52 = .ok (.invokestatic 46, 3) := by decide +kernel
theorem dX1_holds_55 : decode cX1_holds 55 = .ok (.ifCond .eq 17, 3) := by decide +kernel
theorem dX1_holds_58 : decode cX1_holds 58 = .ok (.lload 4, 2) := by decide +kernel
theorem dX1_holds_60 : decode cX1_holds 60 = .ok (.iload 7, 2) := by decide +kernel
theorem dX1_holds_62 : decode cX1_holds 62 = .ok (.invokestatic 46, 3) := by decide +kernel
theorem dX1_holds_65 : decode cX1_holds 65 = .ok (.ifCond .eq 7, 3) := by decide +kernel
theorem dX1_holds_68 : decode cX1_holds 68 = .ok (.iconst 1, 1) := by decide +kernel
theorem dX1_holds_69 : decode cX1_holds 69 = .ok (.goto 4, 3) := by decide +kernel
theorem dX1_holds_72 : decode cX1_holds 72 = .ok (.iconst 0, 1) := by decide +kernel
theorem dX1_holds_73 : decode cX1_holds 73 = .ok (.ireturn, 1) := by decide +kernel
theorem dX1_holds_74 : decode cX1_holds 74 = .ok (.lload 4, 2) := by decide +kernel
theorem dX1_holds_76 : decode cX1_holds 76 = .ok (.iload 6, 2) := by decide +kernel
theorem dX1_holds_78 : decode cX1_holds 78 = .ok (.invokestatic 46, 3) := by decide +kernel
theorem dX1_holds_81 : decode cX1_holds 81 = .ok (.ifCond .ne 13, 3) := by decide +kernel
theorem dX1_holds_84 : decode cX1_holds 84 = .ok (.lload 4, 2) := by decide +kernel
theorem dX1_holds_86 : decode cX1_holds 86 = .ok (.iload 7, 2) := by decide +kernel
theorem dX1_holds_88 : decode cX1_holds 88 = .ok (.invokestatic 46, 3) := by decide +kernel
theorem dX1_holds_91 : decode cX1_holds 91 = .ok (.ifCond .eq 7, 3) := by decide +kernel
theorem dX1_holds_94 : decode cX1_holds 94 = .ok (.iconst 1, 1) := by decide +kernel
theorem dX1_holds_95 : decode cX1_holds 95 = .ok (.goto 4, 3) := by decide +kernel
theorem dX1_holds_98 : decode cX1_holds 98 = .ok (.iconst 0, 1) := by decide +kernel
theorem dX1_holds_99 : decode cX1_holds 99 = .ok (.ireturn, 1) := by decide +kernel
theorem dX1_holds_100 : decode cX1_holds 100 = .ok (.lload 4, 2) := by decide +kernel
theorem dX1_holds_102 : decode cX1_holds 102 = .ok (.iload 6, 2) := by decide +kernel
theorem dX1_holds_104 : decode cX1_holds 104 = .ok (.invokestatic 46, 3) := by decide +kernel
theorem dX1_holds_107 : decode cX1_holds 107 = .ok (.ifCond .eq 17, 3) := by decide +kernel
theorem dX1_holds_110 : decode cX1_holds 110 = .ok (.lload 4, 2) := by decide +kernel
theorem dX1_holds_112 : decode cX1_holds 112 = .ok (.iload 7, 2) := by decide +kernel
theorem dX1_holds_114 : decode cX1_holds 114 = .ok (.invokestatic 46, 3) := by decide +kernel
theorem dX1_holds_117 : decode cX1_holds 117 = .ok (.ifCond .ne 7, 3) := by decide +kernel
theorem dX1_holds_120 : decode cX1_holds 120 = .ok (.iconst 1, 1) := by decide +kernel
theorem dX1_holds_121 : decode cX1_holds 121 = .ok (.goto 4, 3) := by decide +kernel
theorem dX1_holds_124 : decode cX1_holds 124 = .ok (.iconst 0, 1) := by decide +kernel
theorem dX1_holds_125 : decode cX1_holds 125 = .ok (.ireturn, 1) := by decide +kernel
theorem dX1_holds_126 : decode cX1_holds 126 = .ok (.aload_n 2, 1) := by decide +kernel
theorem dX1_holds_127 : decode cX1_holds 127 = .ok (.iload_n 3, 1) := by decide +kernel
theorem dX1_holds_128 : decode cX1_holds 128 = .ok (.iload 6, 2) := by decide +kernel
theorem dX1_holds_130 : decode cX1_holds 130 = .ok (.invokevirtual 50, 3) := by decide +kernel
theorem dX1_holds_133 : decode cX1_holds 133 = .ok (.istore 8, 2) := by decide +kernel
theorem dX1_holds_135 : decode cX1_holds 135 = .ok (.iload 8, 2) := by decide +kernel
theorem dX1_holds_137 : decode cX1_holds 137 = .ok (.iload 7, 2) := by decide +kernel
theorem dX1_holds_139 : decode cX1_holds 139 = .ok (.if_icmp .lt 18, 3) := by decide +kernel
theorem dX1_holds_142 : decode cX1_holds 142 = .ok (.iload 8, 2) := by decide +kernel
theorem dX1_holds_144 : decode cX1_holds 144 = .ok (.aload_n 0, 1) := by decide +kernel
theorem dX1_holds_145 : decode cX1_holds 145 = .ok (.getfield 21, 3) := by decide +kernel
theorem dX1_holds_148 : decode cX1_holds 148 = .ok (.iload_n 1, 1) := by decide +kernel
theorem dX1_holds_149 : decode cX1_holds 149 = .ok (.iaload, 1) := by decide +kernel
theorem dX1_holds_150 : decode cX1_holds 150 = .ok (.if_icmp .gt 7, 3) := by decide +kernel
theorem dX1_holds_153 : decode cX1_holds 153 = .ok (.iconst 1, 1) := by decide +kernel
theorem dX1_holds_154 : decode cX1_holds 154 = .ok (.goto 4, 3) := by decide +kernel
theorem dX1_holds_157 : decode cX1_holds 157 = .ok (.iconst 0, 1) := by decide +kernel
theorem dX1_holds_158 : decode cX1_holds 158 = .ok (.ireturn, 1) := by decide +kernel
theorem dX1_isYes_0 : decode cX1_isYes 0 = .ok (.lload_n 0, 1) := by decide +kernel
theorem dX1_isYes_1 : decode cX1_isYes 1 = .ok (.iload_n 2, 1) := by decide +kernel
theorem dX1_isYes_2 : decode cX1_isYes 2 = .ok (.lshr, 1) := by decide +kernel
theorem dX1_isYes_3 : decode cX1_isYes 3 = .ok (.lconst 1, 1) := by decide +kernel
theorem dX1_isYes_4 : decode cX1_isYes 4 = .ok (.land, 1) := by decide +kernel
theorem dX1_isYes_5 : decode cX1_isYes 5 = .ok (.lconst 0, 1) := by decide +kernel
theorem dX1_isYes_6 : decode cX1_isYes 6 = .ok (.lcmp, 1) := by decide +kernel
theorem dX1_isYes_7 : decode cX1_isYes 7 = .ok (.ifCond .eq 7, 3) := by decide +kernel
theorem dX1_isYes_10 : decode cX1_isYes 10 = .ok (.iconst 1, 1) := by decide +kernel
theorem dX1_isYes_11 : decode cX1_isYes 11 = .ok (.goto 4, 3) := by decide +kernel
theorem dX1_isYes_14 : decode cX1_isYes 14 = .ok (.iconst 0, 1) := by decide +kernel
theorem dX1_isYes_15 : decode cX1_isYes 15 = .ok (.ireturn, 1) := by decide +kernel
theorem dX2_init_0 : decode cX2_init 0 = .ok (.aload_n 0, 1) := by decide +kernel
theorem dX2_init_1 : decode cX2_init 1 = .ok (.invokespecial 3, 3) := by decide +kernel
theorem dX2_init_4 : decode cX2_init 4 = .ok (.aload_n 0, 1) := by decide +kernel
theorem dX2_init_5 : decode cX2_init 5 = .ok (.bipush 100, 2) := by decide +kernel
theorem dX2_init_7 : decode cX2_init 7 = .ok (.newarray .int, 2) := by decide +kernel
theorem dX2_init_9 : decode cX2_init 9 = .ok (.putfield 9, 3) := by decide +kernel
theorem dX2_init_12 : decode cX2_init 12 = .ok (.aload_n 0, 1) := by decide +kernel
theorem dX2_init_13 : decode cX2_init 13 = .ok (.iconst 5, 1) := by decide +kernel
theorem dX2_init_14 : decode cX2_init 14 = .ok (.bipush 100, 2) := by decide +kernel
theorem dX2_init_16 : decode cX2_init 16 = .ok (.multianewarray 15 2, 4) := by decide +kernel
theorem dX2_init_20 : decode cX2_init 20 = .ok (.putfield 17, 3) := by decide +kernel
theorem dX2_init_23 : decode cX2_init 23 = .ok (.aload_n 0, 1) := by decide +kernel
theorem dX2_init_24 : decode cX2_init 24 = .ok (.iconst 0, 1) := by decide +kernel
theorem dX2_init_25 : decode cX2_init 25 = .ok (.putfield 20, 3) := by decide +kernel
theorem dX2_init_28 : decode cX2_init 28 = .ok (.return_, 1) := by decide +kernel
theorem dX2_count_0 : decode cX2_count 0 = .ok (.aload_n 0, 1) := by decide +kernel
theorem dX2_count_1 : decode cX2_count 1 = .ok (.getfield 20, 3) := by decide +kernel
theorem dX2_count_4 : decode cX2_count 4 = .ok (.ireturn, 1) := by decide +kernel
theorem dX2_add_0 : decode cX2_add 0 = .ok (.iload_n 1, 1) := by decide +kernel
theorem dX2_add_1 : decode cX2_add 1 = .ok (.iconst 1, 1) := by decide +kernel
theorem dX2_add_2 : decode cX2_add 2 = .ok (.if_icmp .lt 19, 3) := by decide +kernel
theorem dX2_add_5 : decode cX2_add 5 = .ok (.iload_n 1, 1) := by decide +kernel
theorem dX2_add_6 : decode cX2_add 6 = .ok (.sipush 200, 3) := by decide +kernel
theorem dX2_add_9 : decode cX2_add 9 = .ok (.if_icmp .gt 12, 3) := by decide +kernel
theorem dX2_add_12 : decode cX2_add 12 = .ok (.aload_n 0, 1) := by decide +kernel
theorem dX2_add_13 : decode cX2_add 13 = .ok (.getfield 20, 3) := by decide +kernel
theorem dX2_add_16 : decode cX2_add 16 = .ok (.bipush 100, 2) := by decide +kernel
theorem dX2_add_18 : decode cX2_add 18 = .ok (.if_icmp .lt 5, 3) := by decide +kernel
theorem dX2_add_21 : decode cX2_add 21 = .ok (.iconst (-1), 1) := by decide +kernel
theorem dX2_add_22 : decode cX2_add 22 = .ok (.ireturn, 1) := by decide +kernel
theorem dX2_add_23 : decode cX2_add 23 = .ok (.aload_n 0, 1) := by decide +kernel
theorem dX2_add_24 : decode cX2_add 24 = .ok (.getfield 9, 3) := by decide +kernel
theorem dX2_add_27 : decode cX2_add 27 = .ok (.aload_n 0, 1) := by decide +kernel
theorem dX2_add_28 : decode cX2_add 28 = .ok (.getfield 20, 3) := by decide +kernel
theorem dX2_add_31 : decode cX2_add 31 = .ok (.iload_n 1, 1) := by decide +kernel
theorem dX2_add_32 : decode cX2_add 32 = .ok (.iastore, 1) := by decide +kernel
theorem dX2_add_33 : decode cX2_add 33 = .ok (.iconst 0, 1) := by decide +kernel
theorem dX2_add_34 : decode cX2_add 34 = .ok (.istore_n 2, 1) := by decide +kernel
theorem dX2_add_35 : decode cX2_add 35 = .ok (.iload_n 2, 1) := by decide +kernel
theorem dX2_add_36 : decode cX2_add 36 = .ok (.iconst 5, 1) := by decide +kernel
theorem dX2_add_37 : decode cX2_add 37 = .ok (.if_icmp .ge 21, 3) := by decide +kernel
theorem dX2_add_40 : decode cX2_add 40 = .ok (.aload_n 0, 1) := by decide +kernel
theorem dX2_add_41 : decode cX2_add 41 = .ok (.getfield 17, 3) := by decide +kernel
theorem dX2_add_44 : decode cX2_add 44 = .ok (.iload_n 2, 1) := by decide +kernel
theorem dX2_add_45 : decode cX2_add 45 = .ok (.aaload, 1) := by decide +kernel
theorem dX2_add_46 : decode cX2_add 46 = .ok (.aload_n 0, 1) := by decide +kernel
theorem dX2_add_47 : decode cX2_add 47 = .ok (.getfield 20, 3) := by decide +kernel
theorem dX2_add_50 : decode cX2_add 50 = .ok (.iconst (-1), 1) := by decide +kernel
theorem dX2_add_51 : decode cX2_add 51 = .ok (.iastore, 1) := by decide +kernel
theorem dX2_add_52 : decode cX2_add 52 = .ok (.iinc 2 1, 3) := by decide +kernel
theorem dX2_add_55 : decode cX2_add 55 = .ok (.goto (-20), 3) := by decide +kernel
theorem dX2_add_58 : decode cX2_add 58 = .ok (.aload_n 0, 1) := by decide +kernel
theorem dX2_add_59 : decode cX2_add 59 = .ok (.dup, 1) := by decide +kernel
theorem dX2_add_60 : decode cX2_add 60 = .ok (.getfield 20, 3) := by decide +kernel
theorem dX2_add_63 : decode cX2_add 63 = .ok (.iconst 1, 1) := by decide +kernel
theorem dX2_add_64 : decode cX2_add 64 = .ok (.iadd, 1) := by decide +kernel
theorem dX2_add_65 : decode cX2_add 65 = .ok (.putfield 20, 3) := by decide +kernel
theorem dX2_add_68 : decode cX2_add 68 = .ok (.aload_n 0, 1) := by decide +kernel
theorem dX2_add_69 : decode cX2_add 69 = .ok (.getfield 20, 3) := by decide +kernel
theorem dX2_add_72 : decode cX2_add 72 = .ok (.iconst 1, 1) := by decide +kernel
theorem dX2_add_73 : decode cX2_add 73 = .ok (.isub, 1) := by decide +kernel
theorem dX2_add_74 : decode cX2_add 74 = .ok (.ireturn, 1) := by decide +kernel
theorem dX2_has_0 : decode cX2_has 0 = .ok (.iload_n 1, 1) := by decide +kernel
theorem dX2_has_1 : decode cX2_has 1 = .ok (.ifCond .lt 15, 3) := by decide +kernel
theorem dX2_has_4 : decode cX2_has 4 = .ok (.iload_n 1, 1) := by decide +kernel
theorem dX2_has_5 : decode cX2_has 5 = .ok (.aload_n 0, 1) := by decide +kernel
theorem dX2_has_6 : decode cX2_has 6 = .ok (.getfield 20, 3) := by decide +kernel
theorem dX2_has_9 : decode cX2_has 9 = .ok (.if_icmp .ge 7, 3) := by decide +kernel
theorem dX2_has_12 : decode cX2_has 12 = .ok (.iconst 1, 1) := by decide +kernel
theorem dX2_has_13 : decode cX2_has 13 = .ok (.goto 4, 3) := by decide +kernel
theorem dX2_has_16 : decode cX2_has 16 = .ok (.iconst 0, 1) := by decide +kernel
theorem dX2_has_17 : decode cX2_has 17 = .ok (.ireturn, 1) := by decide +kernel
theorem dX2_putTerm_0 : decode cX2_putTerm 0 = .ok (.aload_n 0, 1) := by decide +kernel
theorem dX2_putTerm_1 : decode cX2_putTerm 1 = .ok (.iload_n 1, 1) := by decide +kernel
theorem dX2_putTerm_2 : decode cX2_putTerm 2 = .ok (.invokevirtual 24, 3) := by decide +kernel
theorem dX2_putTerm_5 : decode cX2_putTerm 5 = .ok (.ifCond .eq 22, 3) := by decide +kernel
theorem dX2_putTerm_8 : decode cX2_putTerm 8 = .ok (.iload_n 2, 1) := by decide +kernel
theorem dX2_putTerm_9 : decode cX2_putTerm 9 = .ok (.invokestatic 28, 3) := by decide +kernel
theorem dX2_putTerm_12 : decode cX2_putTerm 12 = .ok (.ifCond .eq 15, 3) := by decide +kernel
theorem dX2_putTerm_15 : decode cX2_putTerm 15 = .ok (.iload_n 3, 1) := by decide +kernel
theorem dX2_putTerm_16 : decode cX2_putTerm 16 = .ok (.iconst (-1), 1) := by decide +kernel
theorem dX2_putTerm_17 : decode cX2_putTerm 17 = .ok (.if_icmp .eq 12, 3) := by decide +kernel
theorem dX2_putTerm_20 : decode cX2_putTerm 20 = .ok (.iload_n 3, 1) := by decide +kernel
theorem dX2_putTerm_21 : decode cX2_putTerm 21 = .ok (.invokestatic 31, 3) := by decide +kernel
theorem dX2_putTerm_24 : decode cX2_putTerm 24 = .ok (.ifCond .ne 5, 3) := by decide +kernel
theorem dX2_putTerm_27 : decode cX2_putTerm 27 = .ok (.iconst 0, 1) := by decide +kernel
theorem dX2_putTerm_28 : decode cX2_putTerm 28 = .ok (.ireturn, 1) := by decide +kernel
theorem dX2_putTerm_29 : decode cX2_putTerm 29 = .ok (.aload_n 0, 1) := by decide +kernel
theorem dX2_putTerm_30 : decode cX2_putTerm 30 = .ok (.getfield 17, 3) := by decide +kernel
theorem dX2_putTerm_33 : decode cX2_putTerm 33 = .ok (.iload_n 2, 1) := by decide +kernel
theorem dX2_putTerm_34 : decode cX2_putTerm 34 = .ok (.aaload, 1) := by decide +kernel
theorem dX2_putTerm_35 : decode cX2_putTerm 35 = .ok (.iload_n 1, 1) := by decide +kernel
theorem dX2_putTerm_36 : decode cX2_putTerm 36 = .ok (.iload_n 3, 1) := by decide +kernel
theorem dX2_putTerm_37 : decode cX2_putTerm 37 = .ok (.iastore, 1) := by decide +kernel
theorem dX2_putTerm_38 : decode cX2_putTerm 38 = .ok (.iconst 1, 1) := by decide +kernel
theorem dX2_putTerm_39 : decode cX2_putTerm 39 = .ok (.ireturn, 1) := by decide +kernel
theorem dX2_bytesOf_0 : decode cX2_bytesOf 0 = .ok (.aload_n 0, 1) := by decide +kernel
theorem dX2_bytesOf_1 : decode cX2_bytesOf 1 = .ok (.iload_n 1, 1) := by decide +kernel
theorem dX2_bytesOf_2 : decode cX2_bytesOf 2 = .ok (.invokevirtual 24, 3) := by decide +kernel
theorem dX2_bytesOf_5 : decode cX2_bytesOf 5 = .ok (.ifCond .eq 12, 3) := by decide +kernel
theorem dX2_bytesOf_8 : decode cX2_bytesOf 8 = .ok (.aload_n 0, 1) := by decide +kernel
theorem dX2_bytesOf_9 : decode cX2_bytesOf 9 = .ok (.getfield 9, 3) := by decide +kernel
theorem dX2_bytesOf_12 : decode cX2_bytesOf 12 = .ok (.iload_n 1, 1) := by decide +kernel
theorem dX2_bytesOf_13 : decode cX2_bytesOf 13 = .ok (.iaload, 1) := by decide +kernel
theorem dX2_bytesOf_14 : decode cX2_bytesOf 14 = .ok (.goto 4, 3) := by decide +kernel
theorem dX2_bytesOf_17 : decode cX2_bytesOf 17 = .ok (.iconst 0, 1) := by decide +kernel
theorem dX2_bytesOf_18 : decode cX2_bytesOf 18 = .ok (.ireturn, 1) := by decide +kernel
theorem dX2_termOf_0 : decode cX2_termOf 0 = .ok (.aload_n 0, 1) := by decide +kernel
theorem dX2_termOf_1 : decode cX2_termOf 1 = .ok (.iload_n 1, 1) := by decide +kernel
theorem dX2_termOf_2 : decode cX2_termOf 2 = .ok (.invokevirtual 24, 3) := by decide +kernel
theorem dX2_termOf_5 : decode cX2_termOf 5 = .ok (.ifCond .eq 21, 3) := by decide +kernel
theorem dX2_termOf_8 : decode cX2_termOf 8 = .ok (.iload_n 2, 1) := by decide +kernel
theorem dX2_termOf_9 : decode cX2_termOf 9 = .ok (.invokestatic 28, 3) := by decide +kernel
theorem dX2_termOf_12 : decode cX2_termOf 12 = .ok (.ifCond .eq 14, 3) := by decide +kernel
theorem dX2_termOf_15 : decode cX2_termOf 15 = .ok (.aload_n 0, 1) := by decide +kernel
theorem dX2_termOf_16 : decode cX2_termOf 16 = .ok (.getfield 17, 3) := by decide +kernel
theorem dX2_termOf_19 : decode cX2_termOf 19 = .ok (.iload_n 2, 1) := by decide +kernel
theorem dX2_termOf_20 : decode cX2_termOf 20 = .ok (.aaload, 1) := by decide +kernel
theorem dX2_termOf_21 : decode cX2_termOf 21 = .ok (.iload_n 1, 1) := by decide +kernel
theorem dX2_termOf_22 : decode cX2_termOf 22 = .ok (.iaload, 1) := by decide +kernel
theorem dX2_termOf_23 : decode cX2_termOf 23 = .ok (.goto 4, 3) := by decide +kernel
theorem dX2_termOf_26 : decode cX2_termOf 26 = .ok (.iconst (-1), 1) := by decide +kernel
theorem dX2_termOf_27 : decode cX2_termOf 27 = .ok (.ireturn, 1) := by decide +kernel
theorem dX2_leastTermFrom_0 : decode cX2_leastTermFrom 0 = .ok (.iconst (-1), 1) := by decide +kernel
theorem dX2_leastTermFrom_1 : decode cX2_leastTermFrom 1 = .ok (.istore_n 3, 1) := by decide +kernel
theorem dX2_leastTermFrom_2 : decode cX2_leastTermFrom 2 = .ok (.iconst 0, 1) := by decide +kernel
theorem dX2_leastTermFrom_3 : decode cX2_leastTermFrom 3 = .ok (.istore 4, 2) := by decide +kernel
theorem dX2_leastTermFrom_5 : decode cX2_leastTermFrom 5 = .ok (.iload 4, 2) := by decide +kernel
theorem dX2_leastTermFrom_7 : decode cX2_leastTermFrom 7 = .ok (.aload_n 0, 1) := by decide +kernel
theorem dX2_leastTermFrom_8 : decode cX2_leastTermFrom 8 = .ok (.getfield 20, 3) := by decide +kernel
theorem dX2_leastTermFrom_11 : decode cX2_leastTermFrom 11 = .ok (.if_icmp .ge 38, 3) := by decide +kernel
theorem dX2_leastTermFrom_14 : decode cX2_leastTermFrom 14 = .ok (.aload_n 0, 1) := by decide +kernel
theorem dX2_leastTermFrom_15 : decode cX2_leastTermFrom 15 = .ok (.iload 4, 2) := by decide +kernel
theorem dX2_leastTermFrom_17 : decode cX2_leastTermFrom 17 = .ok (.iload_n 1, 1) := by decide +kernel
theorem dX2_leastTermFrom_18 : decode cX2_leastTermFrom 18 = .ok (.invokevirtual 34, 3) := by decide +kernel
theorem dX2_leastTermFrom_21 : decode cX2_leastTermFrom 21 = .ok (.istore 5, 2) := by decide +kernel
theorem dX2_leastTermFrom_23 : decode cX2_leastTermFrom 23 = .ok (.iload 5, 2) := by decide +kernel
theorem dX2_leastTermFrom_25 : decode cX2_leastTermFrom 25 = .ok (.iload_n 2, 1) := by decide +kernel
theorem dX2_leastTermFrom_26 : decode cX2_leastTermFrom 26 = .ok (.if_icmp .lt 17, 3) := by decide +kernel
theorem dX2_leastTermFrom_29 : decode cX2_leastTermFrom 29 = .ok (.iload_n 3, 1) := by decide +kernel
theorem dX2_leastTermFrom_30 : decode cX2_leastTermFrom 30 = .ok (.iconst (-1), 1) := by decide +kernel
theorem dX2_leastTermFrom_31 : decode cX2_leastTermFrom 31 = .ok (.if_icmp .eq 9, 3) := by decide +kernel
theorem dX2_leastTermFrom_34 : decode cX2_leastTermFrom 34 = .ok (.iload 5, 2) := by decide +kernel
theorem dX2_leastTermFrom_36 : decode cX2_leastTermFrom 36 = .ok (.iload_n 3, 1) := by decide +kernel
theorem dX2_leastTermFrom_37 : decode cX2_leastTermFrom 37 = .ok (.if_icmp .ge 6, 3) := by decide +kernel
theorem dX2_leastTermFrom_40 : decode cX2_leastTermFrom 40 = .ok (.iload 5, 2) := by decide +kernel
theorem dX2_leastTermFrom_42 : decode cX2_leastTermFrom 42 = .ok (.istore_n 3, 1) := by decide +kernel
theorem dX2_leastTermFrom_43 : decode cX2_leastTermFrom 43 = .ok (.iinc 4 1, 3) := by decide +kernel
theorem dX2_leastTermFrom_46 : decode cX2_leastTermFrom 46 = .ok (.goto (-41), 3) := by decide +kernel
theorem dX2_leastTermFrom_49 : decode cX2_leastTermFrom 49 = .ok (.iload_n 3, 1) := by decide +kernel
theorem dX2_leastTermFrom_50 : decode cX2_leastTermFrom 50 = .ok (.ireturn, 1) := by decide +kernel
theorem dX2_greatestTermBelow_0 : decode cX2_greatestTermBelow 0 = .ok (.iconst (-1), 1) := by decide +kernel
theorem dX2_greatestTermBelow_1 : decode cX2_greatestTermBelow 1 = .ok (.istore_n 3, 1) := by decide +kernel
theorem dX2_greatestTermBelow_2 : decode cX2_greatestTermBelow 2 = .ok (.iconst 0, 1) := by decide +kernel
theorem dX2_greatestTermBelow_3 : decode cX2_greatestTermBelow 3 = .ok (.istore 4, 2) := by decide +kernel
theorem dX2_greatestTermBelow_5 : decode cX2_greatestTermBelow 5 = .ok (.iload 4, 2) := by decide +kernel
theorem dX2_greatestTermBelow_7 : decode cX2_greatestTermBelow 7 = .ok (.aload_n 0, 1) := by decide +kernel
theorem dX2_greatestTermBelow_8 : decode cX2_greatestTermBelow 8 = .ok (.getfield 20, 3) := by decide +kernel
theorem dX2_greatestTermBelow_11 : decode cX2_greatestTermBelow 11 = .ok (.if_icmp .ge 33, 3) := by decide +kernel
theorem dX2_greatestTermBelow_14 : decode cX2_greatestTermBelow 14 = .ok (.aload_n 0, 1) := by decide +kernel
theorem dX2_greatestTermBelow_15 : decode cX2_greatestTermBelow 15 = .ok (.iload 4, 2) := by decide +kernel
theorem dX2_greatestTermBelow_17 : decode cX2_greatestTermBelow 17 = .ok (.iload_n 1, 1) := by decide +kernel
theorem dX2_greatestTermBelow_18 : decode cX2_greatestTermBelow 18 = .ok (.invokevirtual 34, 3) := by decide +kernel
theorem dX2_greatestTermBelow_21 : decode cX2_greatestTermBelow 21 = .ok (.istore 5, 2) := by decide +kernel
theorem dX2_greatestTermBelow_23 : decode cX2_greatestTermBelow 23 = .ok (.iload 5, 2) := by decide +kernel
theorem dX2_greatestTermBelow_25 : decode cX2_greatestTermBelow 25 = .ok (.iload_n 2, 1) := by decide +kernel
theorem dX2_greatestTermBelow_26 : decode cX2_greatestTermBelow 26 = .ok (.if_icmp .ge 12, 3) := by decide +kernel
theorem dX2_greatestTermBelow_29 : decode cX2_greatestTermBelow 29 = .ok (.iload 5, 2) := by decide +kernel
theorem dX2_greatestTermBelow_31 : decode cX2_greatestTermBelow 31 = .ok (.iload_n 3, 1) := by decide +kernel
theorem dX2_greatestTermBelow_32 : decode cX2_greatestTermBelow 32 = .ok (.if_icmp .le 6, 3) := by decide +kernel
theorem dX2_greatestTermBelow_35 : decode cX2_greatestTermBelow 35 = .ok (.iload 5, 2) := by decide +kernel
theorem dX2_greatestTermBelow_37 : decode cX2_greatestTermBelow 37 = .ok (.istore_n 3, 1) := by decide +kernel
theorem dX2_greatestTermBelow_38 : decode cX2_greatestTermBelow 38 = .ok (.iinc 4 1, 3) := by decide +kernel
theorem dX2_greatestTermBelow_41 : decode cX2_greatestTermBelow 41 = .ok (.goto (-36), 3) := by decide +kernel
theorem dX2_greatestTermBelow_44 : decode cX2_greatestTermBelow 44 = .ok (.iload_n 3, 1) := by decide +kernel
theorem dX2_greatestTermBelow_45 : decode cX2_greatestTermBelow 45 = .ok (.ireturn, 1) := by decide +kernel
theorem dX2_countOfTerm_0 : decode cX2_countOfTerm 0 = .ok (.iconst 0, 1) := by decide +kernel
theorem dX2_countOfTerm_1 : decode cX2_countOfTerm 1 = .ok (.istore_n 3, 1) := by decide +kernel
theorem dX2_countOfTerm_2 : decode cX2_countOfTerm 2 = .ok (.iconst 0, 1) := by decide +kernel
theorem dX2_countOfTerm_3 : decode cX2_countOfTerm 3 = .ok (.istore 4, 2) := by decide +kernel
theorem dX2_countOfTerm_5 : decode cX2_countOfTerm 5 = .ok (.iload 4, 2) := by decide +kernel
theorem dX2_countOfTerm_7 : decode cX2_countOfTerm 7 = .ok (.aload_n 0, 1) := by decide +kernel
theorem dX2_countOfTerm_8 : decode cX2_countOfTerm 8 = .ok (.getfield 20, 3) := by decide +kernel
theorem dX2_countOfTerm_11 : decode cX2_countOfTerm 11 = .ok (.if_icmp .ge 23, 3) := by decide +kernel
theorem dX2_countOfTerm_14 : decode cX2_countOfTerm 14 = .ok (.aload_n 0, 1) := by decide +kernel
theorem dX2_countOfTerm_15 : decode cX2_countOfTerm 15 = .ok (.iload 4, 2) := by decide +kernel
theorem dX2_countOfTerm_17 : decode cX2_countOfTerm 17 = .ok (.iload_n 1, 1) := by decide +kernel
theorem dX2_countOfTerm_18 : decode cX2_countOfTerm 18 = .ok (.invokevirtual 34, 3) := by decide +kernel
theorem dX2_countOfTerm_21 : decode cX2_countOfTerm 21 = .ok (.iload_n 2, 1) := by decide +kernel
theorem dX2_countOfTerm_22 : decode cX2_countOfTerm 22 = .ok (.if_icmp .ne 6, 3) := by decide +kernel
theorem dX2_countOfTerm_25 : decode cX2_countOfTerm 25 = .ok (.iinc 3 1, 3) := by decide +kernel
theorem dX2_countOfTerm_28 : decode cX2_countOfTerm 28 = .ok (.iinc 4 1, 3) := by decide +kernel
theorem dX2_countOfTerm_31 : decode cX2_countOfTerm 31 = .ok (.goto (-26), 3) := by decide +kernel
theorem dX2_countOfTerm_34 : decode cX2_countOfTerm 34 = .ok (.iload_n 3, 1) := by decide +kernel
theorem dX2_countOfTerm_35 : decode cX2_countOfTerm 35 = .ok (.ireturn, 1) := by decide +kernel
theorem dX3_init_0 : decode cX3_init 0 = .ok (.aload_n 0, 1) := by decide +kernel
theorem dX3_init_1 : decode cX3_init 1 = .ok (.invokespecial 3, 3) := by decide +kernel
theorem dX3_init_4 : decode cX3_init 4 = .ok (.aload_n 0, 1) := by decide +kernel
theorem dX3_init_5 : decode cX3_init 5 = .ok (.bipush 100, 2) := by decide +kernel
theorem dX3_init_7 : decode cX3_init 7 = .ok (.newarray .int, 2) := by decide +kernel
theorem dX3_init_9 : decode cX3_init 9 = .ok (.putfield 9, 3) := by decide +kernel
theorem dX3_init_12 : decode cX3_init 12 = .ok (.aload_n 0, 1) := by decide +kernel
theorem dX3_init_13 : decode cX3_init 13 = .ok (.iconst 0, 1) := by decide +kernel
theorem dX3_init_14 : decode cX3_init 14 = .ok (.putfield 15, 3) := by decide +kernel
theorem dX3_init_17 : decode cX3_init 17 = .ok (.aload_n 0, 1) := by decide +kernel
theorem dX3_init_18 : decode cX3_init 18 = .ok (.iconst 0, 1) := by decide +kernel
theorem dX3_init_19 : decode cX3_init 19 = .ok (.putfield 19, 3) := by decide +kernel
theorem dX3_init_22 : decode cX3_init 22 = .ok (.return_, 1) := by decide +kernel
theorem dX3_make_0 : decode cX3_make 0 = .ok (.aload_n 0, 1) := by decide +kernel
theorem dX3_make_1 : decode cX3_make 1 = .ok (.iconst 1, 1) := by decide +kernel
theorem dX3_make_2 : decode cX3_make 2 = .ok (.putfield 19, 3) := by decide +kernel
theorem dX3_make_5 : decode cX3_make 5 = .ok (.aload_n 0, 1) := by decide +kernel
theorem dX3_make_6 : decode cX3_make 6 = .ok (.iconst 0, 1) := by decide +kernel
theorem dX3_make_7 : decode cX3_make 7 = .ok (.putfield 15, 3) := by decide +kernel
theorem dX3_make_10 : decode cX3_make 10 = .ok (.return_, 1) := by decide +kernel
theorem dX3_forget_0 : decode cX3_forget 0 = .ok (.aload_n 0, 1) := by decide +kernel
theorem dX3_forget_1 : decode cX3_forget 1 = .ok (.iconst 0, 1) := by decide +kernel
theorem dX3_forget_2 : decode cX3_forget 2 = .ok (.putfield 19, 3) := by decide +kernel
theorem dX3_forget_5 : decode cX3_forget 5 = .ok (.aload_n 0, 1) := by decide +kernel
theorem dX3_forget_6 : decode cX3_forget 6 = .ok (.iconst 0, 1) := by decide +kernel
theorem dX3_forget_7 : decode cX3_forget 7 = .ok (.putfield 15, 3) := by decide +kernel
theorem dX3_forget_10 : decode cX3_forget 10 = .ok (.return_, 1) := by decide +kernel
theorem dX3_isMade_0 : decode cX3_isMade 0 = .ok (.aload_n 0, 1) := by decide +kernel
theorem dX3_isMade_1 : decode cX3_isMade 1 = .ok (.getfield 19, 3) := by decide +kernel
theorem dX3_isMade_4 : decode cX3_isMade 4 = .ok (.ireturn, 1) := by decide +kernel
theorem dX3_count_0 : decode cX3_count 0 = .ok (.aload_n 0, 1) := by decide +kernel
theorem dX3_count_1 : decode cX3_count 1 = .ok (.getfield 15, 3) := by decide +kernel
theorem dX3_count_4 : decode cX3_count 4 = .ok (.ireturn, 1) := by decide +kernel
theorem dX3_add_0 : decode cX3_add 0 = .ok (.aload_n 0, 1) := by decide +kernel
theorem dX3_add_1 : decode cX3_add 1 = .ok (.getfield 15, 3) := by decide +kernel
theorem dX3_add_4 : decode cX3_add 4 = .ok (.bipush 100, 2) := by decide +kernel
theorem dX3_add_6 : decode cX3_add 6 = .ok (.if_icmp .ge 23, 3) := by decide +kernel
theorem dX3_add_9 : decode cX3_add 9 = .ok (.aload_n 0, 1) := by decide +kernel
theorem dX3_add_10 : decode cX3_add 10 = .ok (.getfield 9, 3) := by decide +kernel
theorem dX3_add_13 : decode cX3_add 13 = .ok (.aload_n 0, 1) := by decide +kernel
theorem dX3_add_14 : decode cX3_add 14 = .ok (.getfield 15, 3) := by decide +kernel
theorem dX3_add_17 : decode cX3_add 17 = .ok (.iload_n 1, 1) := by decide +kernel
theorem dX3_add_18 : decode cX3_add 18 = .ok (.iastore, 1) := by decide +kernel
theorem dX3_add_19 : decode cX3_add 19 = .ok (.aload_n 0, 1) := by decide +kernel
theorem dX3_add_20 : decode cX3_add 20 = .ok (.dup, 1) := by decide +kernel
theorem dX3_add_21 : decode cX3_add 21 = .ok (.getfield 15, 3) := by decide +kernel
theorem dX3_add_24 : decode cX3_add 24 = .ok (.iconst 1, 1) := by decide +kernel
theorem dX3_add_25 : decode cX3_add 25 = .ok (.iadd, 1) := by decide +kernel
theorem dX3_add_26 : decode cX3_add 26 = .ok (.putfield 15, 3) := by decide +kernel
theorem dX3_add_29 : decode cX3_add 29 = .ok (.return_, 1) := by decide +kernel
theorem dX3_recordAt_0 : decode cX3_recordAt 0 = .ok (.iload_n 1, 1) := by decide +kernel
theorem dX3_recordAt_1 : decode cX3_recordAt 1 = .ok (.ifCond .lt 20, 3) := by decide +kernel
theorem dX3_recordAt_4 : decode cX3_recordAt 4 = .ok (.iload_n 1, 1) := by decide +kernel
theorem dX3_recordAt_5 : decode cX3_recordAt 5 = .ok (.aload_n 0, 1) := by decide +kernel
theorem dX3_recordAt_6 : decode cX3_recordAt 6 = .ok (.getfield 15, 3) := by decide +kernel
theorem dX3_recordAt_9 : decode cX3_recordAt 9 = .ok (.if_icmp .ge 12, 3) := by decide +kernel
theorem dX3_recordAt_12 : decode cX3_recordAt 12 = .ok (.aload_n 0, 1) := by decide +kernel
theorem dX3_recordAt_13 : decode cX3_recordAt 13 = .ok (.getfield 9, 3) := by decide +kernel
theorem dX3_recordAt_16 : decode cX3_recordAt 16 = .ok (.iload_n 1, 1) := by decide +kernel
theorem dX3_recordAt_17 : decode cX3_recordAt 17 = .ok (.iaload, 1) := by decide +kernel
theorem dX3_recordAt_18 : decode cX3_recordAt 18 = .ok (.goto 4, 3) := by decide +kernel
theorem dX3_recordAt_21 : decode cX3_recordAt 21 = .ok (.iconst (-1), 1) := by decide +kernel
theorem dX3_recordAt_22 : decode cX3_recordAt 22 = .ok (.ireturn, 1) := by decide +kernel
theorem dX3_putInOrder_0 : decode cX3_putInOrder 0 = .ok (.iconst 1, 1) := by decide +kernel
theorem dX3_putInOrder_1 : decode cX3_putInOrder 1 = .ok (.istore 4, 2) := by decide +kernel
theorem dX3_putInOrder_3 : decode cX3_putInOrder 3 = .ok (.iload 4, 2) := by decide +kernel
theorem dX3_putInOrder_5 : decode cX3_putInOrder 5 = .ok (.aload_n 0, 1) := by decide +kernel
theorem dX3_putInOrder_6 : decode cX3_putInOrder 6 = .ok (.getfield 15, 3) := by decide +kernel
theorem dX3_putInOrder_9 : decode cX3_putInOrder 9 = .ok (.if_icmp .ge 94, 3) := by decide +kernel
theorem dX3_putInOrder_12 : decode cX3_putInOrder 12 = .ok (.aload_n 0, 1) := by decide +kernel
theorem dX3_putInOrder_13 : decode cX3_putInOrder 13 = .ok (.getfield 9, 3) := by decide +kernel
theorem dX3_putInOrder_16 : decode cX3_putInOrder 16 = .ok (.iload 4, 2) := by decide +kernel
theorem dX3_putInOrder_18 : decode cX3_putInOrder 18 = .ok (.iaload, 1) := by decide +kernel
theorem dX3_putInOrder_19 : decode cX3_putInOrder 19 = .ok (.istore 5, 2) := by decide +kernel
theorem dX3_putInOrder_21 : decode cX3_putInOrder 21 = .ok (.aload_n 1, 1) := by decide +kernel
theorem dX3_putInOrder_22 : decode cX3_putInOrder 22 = .ok (.iload 5, 2) := by decide +kernel
theorem dX3_putInOrder_24 : decode cX3_putInOrder 24 = .ok (.iload_n 2, 1) := by decide +kernel
theorem dX3_putInOrder_25 : decode cX3_putInOrder 25 = .ok (.invokevirtual 23, 3) := by decide +kernel
theorem dX3_putInOrder_28 : decode cX3_putInOrder 28 = .ok (.iload_n 3, 1) := by decide +kernel
theorem dX3_putInOrder_29 : decode cX3_putInOrder 29 = .ok (.invokestatic 29, 3) := by decide +kernel
theorem dX3_putInOrder_32 : decode cX3_putInOrder 32 = .ok (.istore 6, 2) := by decide +kernel
theorem dX3_putInOrder_34 : decode cX3_putInOrder 34 = .ok (.iload 4, 2) := by decide +kernel
theorem dX3_putInOrder_36 : decode cX3_putInOrder 36 = .ok (.istore 7, 2) := by decide +kernel
theorem dX3_putInOrder_38 : decode cX3_putInOrder 38 = .ok (.iload 7, 2) := by decide +kernel
theorem dX3_putInOrder_40 : decode cX3_putInOrder 40 = .ok (.ifCond .le 48, 3) := by decide +kernel
theorem dX3_putInOrder_43 : decode cX3_putInOrder 43 = .ok (.aload_n 1, 1) := by decide +kernel
theorem dX3_putInOrder_44 : decode cX3_putInOrder 44 = .ok (.aload_n 0, 1) := by decide +kernel
theorem dX3_putInOrder_45 : decode cX3_putInOrder 45 = .ok (.getfield 9, 3) := by decide +kernel
theorem dX3_putInOrder_48 : decode cX3_putInOrder 48 = .ok (.iload 7, 2) := by decide +kernel
theorem dX3_putInOrder_50 : decode cX3_putInOrder 50 = .ok (.iconst 1, 1) := by decide +kernel
theorem dX3_putInOrder_51 : decode cX3_putInOrder 51 = .ok (.isub, 1) := by decide +kernel
theorem dX3_putInOrder_52 : decode cX3_putInOrder 52 = .ok (.iaload, 1) := by decide +kernel
theorem dX3_putInOrder_53 : decode cX3_putInOrder 53 = .ok (.iload_n 2, 1) := by decide +kernel
theorem dX3_putInOrder_54 : decode cX3_putInOrder 54 = .ok (.invokevirtual 23, 3) := by decide +kernel
theorem dX3_putInOrder_57 : decode cX3_putInOrder 57 = .ok (.iload_n 3, 1) := by decide +kernel
theorem dX3_putInOrder_58 : decode cX3_putInOrder 58 = .ok (.invokestatic 29, 3) := by decide +kernel
theorem dX3_putInOrder_61 : decode cX3_putInOrder 61 = .ok (.iload 6, 2) := by decide +kernel
theorem dX3_putInOrder_63 : decode cX3_putInOrder 63 = .ok (.if_icmp .le 25, 3) := by decide +kernel
theorem dX3_putInOrder_66 : decode cX3_putInOrder 66 = .ok (.aload_n 0, 1) := by decide +kernel
theorem dX3_putInOrder_67 : decode cX3_putInOrder 67 = .ok (.getfield 9, 3) := by decide +kernel
theorem dX3_putInOrder_70 : decode cX3_putInOrder 70 = .ok (.iload 7, 2) := by decide +kernel
theorem dX3_putInOrder_72 : decode cX3_putInOrder 72 = .ok (.aload_n 0, 1) := by decide +kernel
theorem dX3_putInOrder_73 : decode cX3_putInOrder 73 = .ok (.getfield 9, 3) := by decide +kernel
theorem dX3_putInOrder_76 : decode cX3_putInOrder 76 = .ok (.iload 7, 2) := by decide +kernel
theorem dX3_putInOrder_78 : decode cX3_putInOrder 78 = .ok (.iconst 1, 1) := by decide +kernel
theorem dX3_putInOrder_79 : decode cX3_putInOrder 79 = .ok (.isub, 1) := by decide +kernel
theorem dX3_putInOrder_80 : decode cX3_putInOrder 80 = .ok (.iaload, 1) := by decide +kernel
theorem dX3_putInOrder_81 : decode cX3_putInOrder 81 = .ok (.iastore, 1) := by decide +kernel
theorem dX3_putInOrder_82 : decode cX3_putInOrder 82 = .ok (.iinc 7 (-1), 3) := by decide +kernel
theorem dX3_putInOrder_85 : decode cX3_putInOrder 85 = .ok (.goto (-47), 3) := by decide +kernel
theorem dX3_putInOrder_88 : decode cX3_putInOrder 88 = .ok (.aload_n 0, 1) := by decide +kernel
theorem dX3_putInOrder_89 : decode cX3_putInOrder 89 = .ok (.getfield 9, 3) := by decide +kernel
theorem dX3_putInOrder_92 : decode cX3_putInOrder 92 = .ok (.iload 7, 2) := by decide +kernel
theorem dX3_putInOrder_94 : decode cX3_putInOrder 94 = .ok (.iload 5, 2) := by decide +kernel
theorem dX3_putInOrder_96 : decode cX3_putInOrder 96 = .ok (.iastore, 1) := by decide +kernel
theorem dX3_putInOrder_97 : decode cX3_putInOrder 97 = .ok (.iinc 4 1, 3) := by decide +kernel
theorem dX3_putInOrder_100 : decode cX3_putInOrder 100 = .ok (.goto (-97), 3) := by decide +kernel
theorem dX3_putInOrder_103 : decode cX3_putInOrder 103 = .ok (.return_, 1) := by decide +kernel
theorem dX3_keyOf_0 : decode cX3_keyOf 0 = .ok (.iload_n 0, 1) := by decide +kernel
theorem dX3_keyOf_1 : decode cX3_keyOf 1 = .ok (.iconst (-1), 1) := by decide +kernel
theorem dX3_keyOf_2 : decode cX3_keyOf 2 = .ok (.if_icmp .ne 7, 3) := by decide +kernel
theorem dX3_keyOf_5 : decode cX3_keyOf 5 = .ok (.sipush 1000, 3) := by decide +kernel
theorem dX3_keyOf_8 : decode cX3_keyOf 8 = .ok (.ireturn, 1) := by decide +kernel
theorem dX3_keyOf_9 : decode cX3_keyOf 9 = .ok (.iload_n 1, 1) := by decide +kernel
theorem dX3_keyOf_10 : decode cX3_keyOf 10 = .ok (.ifCond .eq 11, 3) := by decide +kernel
theorem dX3_keyOf_13 : decode cX3_keyOf 13 = .ok (.sipush 999, 3) := by decide +kernel
theorem dX3_keyOf_16 : decode cX3_keyOf 16 = .ok (.iload_n 0, 1) := by decide +kernel
theorem dX3_keyOf_17 : decode cX3_keyOf 17 = .ok (.isub, 1) := by decide +kernel
theorem dX3_keyOf_18 : decode cX3_keyOf 18 = .ok (.goto 4, 3) := by decide +kernel
theorem dX3_keyOf_21 : decode cX3_keyOf 21 = .ok (.iload_n 0, 1) := by decide +kernel
theorem dX3_keyOf_22 : decode cX3_keyOf 22 = .ok (.ireturn, 1) := by decide +kernel
theorem dX3_countWithoutTerm_0 : decode cX3_countWithoutTerm 0 = .ok (.iconst 0, 1) := by decide +kernel
theorem dX3_countWithoutTerm_1 : decode cX3_countWithoutTerm 1 = .ok (.istore_n 3, 1) := by decide +kernel
theorem dX3_countWithoutTerm_2 : decode cX3_countWithoutTerm 2 = .ok (.iconst 0, 1) := by decide +kernel
theorem dX3_countWithoutTerm_3 : decode cX3_countWithoutTerm 3 = .ok (.istore 4, 2) := by decide +kernel
theorem dX3_countWithoutTerm_5 : decode cX3_countWithoutTerm 5 = .ok (.iload 4, 2) := by decide +kernel
theorem dX3_countWithoutTerm_7 : decode cX3_countWithoutTerm 7 = .ok (.aload_n 0, 1) := by decide +kernel
theorem dX3_countWithoutTerm_8 : decode cX3_countWithoutTerm 8 = .ok (.getfield 15, 3) := by decide +kernel
theorem dX3_countWithoutTerm_11 : decode cX3_countWithoutTerm 11 = .ok (.if_icmp .ge 28, 3) := by decide +kernel
theorem dX3_countWithoutTerm_14 : decode cX3_countWithoutTerm 14 = .ok (.aload_n 1, 1) := by decide +kernel
theorem dX3_countWithoutTerm_15 : decode cX3_countWithoutTerm 15 = .ok (.aload_n 0, 1) := by decide +kernel
theorem dX3_countWithoutTerm_16 : decode cX3_countWithoutTerm 16 = .ok (.getfield 9, 3) := by decide +kernel
theorem dX3_countWithoutTerm_19 : decode cX3_countWithoutTerm 19 = .ok (.iload 4, 2) := by decide +kernel
theorem dX3_countWithoutTerm_21 : decode cX3_countWithoutTerm 21 = .ok (.iaload, 1) := by decide +kernel
theorem dX3_countWithoutTerm_22 : decode cX3_countWithoutTerm 22 = .ok (.iload_n 2, 1) := by decide +kernel
theorem dX3_countWithoutTerm_23 : decode cX3_countWithoutTerm 23 = .ok (.invokevirtual 23, 3) := by decide +kernel
theorem dX3_countWithoutTerm_26 : decode cX3_countWithoutTerm 26 = .ok (.iconst (-1), 1) := by decide +kernel
theorem dX3_countWithoutTerm_27 : decode cX3_countWithoutTerm 27 = .ok (.if_icmp .ne 6, 3) := by decide +kernel
theorem dX3_countWithoutTerm_30 : decode cX3_countWithoutTerm 30 = .ok (.iinc 3 1, 3) := by decide +kernel
theorem dX3_countWithoutTerm_33 : decode cX3_countWithoutTerm 33 = .ok (.iinc 4 1, 3) := by decide +kernel
theorem dX3_countWithoutTerm_36 : decode cX3_countWithoutTerm 36 = .ok (.goto (-31), 3) := by decide +kernel
theorem dX3_countWithoutTerm_39 : decode cX3_countWithoutTerm 39 = .ok (.iload_n 3, 1) := by decide +kernel
theorem dX3_countWithoutTerm_40 : decode cX3_countWithoutTerm 40 = .ok (.ireturn, 1) := by decide +kernel
theorem dX4_init_0 : decode cX4_init 0 = .ok (.aload_n 0, 1) := by decide +kernel
theorem dX4_init_1 : decode cX4_init 1 = .ok (.invokespecial 3, 3) := by decide +kernel
theorem dX4_init_4 : decode cX4_init 4 = .ok (.aload_n 0, 1) := by decide +kernel
theorem dX4_init_5 : decode cX4_init 5 = .ok (.bipush 20, 2) := by decide +kernel
theorem dX4_init_7 : decode cX4_init 7 = .ok (.newarray .int, 2) := by decide +kernel
theorem dX4_init_9 : decode cX4_init 9 = .ok (.putfield 9, 3) := by decide +kernel
theorem dX4_init_12 : decode cX4_init 12 = .ok (.aload_n 0, 1) := by decide +kernel
theorem dX4_init_13 : decode cX4_init 13 = .ok (.bipush 20, 2) := by decide +kernel
theorem dX4_init_15 : decode cX4_init 15 = .ok (.newarray .int, 2) := by decide +kernel
theorem dX4_init_17 : decode cX4_init 17 = .ok (.putfield 15, 3) := by decide +kernel
theorem dX4_init_20 : decode cX4_init 20 = .ok (.aload_n 0, 1) := by decide +kernel
theorem dX4_init_21 : decode cX4_init 21 = .ok (.iconst 0, 1) := by decide +kernel
theorem dX4_init_22 : decode cX4_init 22 = .ok (.putfield 18, 3) := by decide +kernel
theorem dX4_init_25 : decode cX4_init 25 = .ok (.return_, 1) := by decide +kernel
theorem dX4_fill_0 : decode cX4_fill 0 = .ok (.aload_n 0, 1) := by decide +kernel
theorem dX4_fill_1 : decode cX4_fill 1 = .ok (.iconst 0, 1) := by decide +kernel
theorem dX4_fill_2 : decode cX4_fill 2 = .ok (.putfield 18, 3) := by decide +kernel
theorem dX4_fill_5 : decode cX4_fill 5 = .ok (.aload_n 1, 1) := by decide +kernel
theorem dX4_fill_6 : decode cX4_fill 6 = .ok (.iload_n 2, 1) := by decide +kernel
theorem dX4_fill_7 : decode cX4_fill 7 = .ok (.iload_n 3, 1) := by decide +kernel
theorem dX4_fill_8 : decode cX4_fill 8 = .ok (.invokevirtual 22, 3) := by decide +kernel
theorem dX4_fill_11 : decode cX4_fill 11 = .ok (.istore 5, 2) := by decide +kernel
theorem dX4_fill_13 : decode cX4_fill 13 = .ok (.aload_n 0, 1) := by decide +kernel
theorem dX4_fill_14 : decode cX4_fill 14 = .ok (.getfield 18, 3) := by decide +kernel
theorem dX4_fill_17 : decode cX4_fill 17 = .ok (.iload 4, 2) := by decide +kernel
theorem dX4_fill_19 : decode cX4_fill 19 = .ok (.if_icmp .ge 69, 3) := by decide +kernel
theorem dX4_fill_22 : decode cX4_fill 22 = .ok (.aload_n 0, 1) := by decide +kernel
theorem dX4_fill_23 : decode cX4_fill 23 = .ok (.getfield 18, 3) := by decide +kernel
theorem dX4_fill_26 : decode cX4_fill 26 = .ok (.bipush 20, 2) := by decide +kernel
theorem dX4_fill_28 : decode cX4_fill 28 = .ok (.if_icmp .ge 60, 3) := by decide +kernel
theorem dX4_fill_31 : decode cX4_fill 31 = .ok (.iload 5, 2) := by decide +kernel
theorem dX4_fill_33 : decode cX4_fill 33 = .ok (.iconst (-1), 1) := by decide +kernel
theorem dX4_fill_34 : decode cX4_fill 34 = .ok (.if_icmp .eq 54, 3) := by decide +kernel
theorem dX4_fill_37 : decode cX4_fill 37 = .ok (.aload_n 0, 1) := by decide +kernel
theorem dX4_fill_38 : decode cX4_fill 38 = .ok (.getfield 9, 3) := by decide +kernel
theorem dX4_fill_41 : decode cX4_fill 41 = .ok (.aload_n 0, 1) := by decide +kernel
theorem dX4_fill_42 : decode cX4_fill 42 = .ok (.getfield 18, 3) := by decide +kernel
theorem dX4_fill_45 : decode cX4_fill 45 = .ok (.iload 5, 2) := by decide +kernel
theorem dX4_fill_47 : decode cX4_fill 47 = .ok (.iastore, 1) := by decide +kernel
theorem dX4_fill_48 : decode cX4_fill 48 = .ok (.aload_n 0, 1) := by decide +kernel
theorem dX4_fill_49 : decode cX4_fill 49 = .ok (.getfield 15, 3) := by decide +kernel
theorem dX4_fill_52 : decode cX4_fill 52 = .ok (.aload_n 0, 1) := by decide +kernel
theorem dX4_fill_53 : decode cX4_fill 53 = .ok (.getfield 18, 3) := by decide +kernel
theorem dX4_fill_56 : decode cX4_fill 56 = .ok (.aload_n 1, 1) := by decide +kernel
theorem dX4_fill_57 : decode cX4_fill 57 = .ok (.iload_n 2, 1) := by decide +kernel
theorem dX4_fill_58 : decode cX4_fill 58 = .ok (.iload 5, 2) := by decide +kernel
theorem dX4_fill_60 : decode cX4_fill 60 = .ok (.invokevirtual 28, 3) := by decide +kernel
theorem dX4_fill_63 : decode cX4_fill 63 = .ok (.iastore, 1) := by decide +kernel
theorem dX4_fill_64 : decode cX4_fill 64 = .ok (.aload_n 0, 1) := by decide +kernel
theorem dX4_fill_65 : decode cX4_fill 65 = .ok (.dup, 1) := by decide +kernel
theorem dX4_fill_66 : decode cX4_fill 66 = .ok (.getfield 18, 3) := by decide +kernel
theorem dX4_fill_69 : decode cX4_fill 69 = .ok (.iconst 1, 1) := by decide +kernel
theorem dX4_fill_70 : decode cX4_fill 70 = .ok (.iadd, 1) := by decide +kernel
theorem dX4_fill_71 : decode cX4_fill 71 = .ok (.putfield 18, 3) := by decide +kernel
theorem dX4_fill_74 : decode cX4_fill 74 = .ok (.aload_n 1, 1) := by decide +kernel
theorem dX4_fill_75 : decode cX4_fill 75 = .ok (.iload_n 2, 1) := by decide +kernel
theorem dX4_fill_76 : decode cX4_fill 76 = .ok (.iload 5, 2) := by decide +kernel
theorem dX4_fill_78 : decode cX4_fill 78 = .ok (.iconst 1, 1) := by decide +kernel
theorem dX4_fill_79 : decode cX4_fill 79 = .ok (.iadd, 1) := by decide +kernel
theorem dX4_fill_80 : decode cX4_fill 80 = .ok (.invokevirtual 22, 3) := by decide +kernel
theorem dX4_fill_83 : decode cX4_fill 83 = .ok (.istore 5, 2) := by decide +kernel
theorem dX4_fill_85 : decode cX4_fill 85 = .ok (.goto (-72), 3) := by decide +kernel
theorem dX4_fill_88 : decode cX4_fill 88 = .ok (.aload_n 0, 1) := by decide +kernel
theorem dX4_fill_89 : decode cX4_fill 89 = .ok (.getfield 18, 3) := by decide +kernel
theorem dX4_fill_92 : decode cX4_fill 92 = .ok (.ireturn, 1) := by decide +kernel
theorem dX4_has_0 : decode cX4_has 0 = .ok (.iload_n 1, 1) := by decide +kernel
theorem dX4_has_1 : decode cX4_has 1 = .ok (.ifCond .lt 15, 3) := by decide +kernel
theorem dX4_has_4 : decode cX4_has 4 = .ok (.iload_n 1, 1) := by decide +kernel
theorem dX4_has_5 : decode cX4_has 5 = .ok (.aload_n 0, 1) := by decide +kernel
theorem dX4_has_6 : decode cX4_has 6 = .ok (.getfield 18, 3) := by decide +kernel
theorem dX4_has_9 : decode cX4_has 9 = .ok (.if_icmp .ge 7, 3) := by decide +kernel
theorem dX4_has_12 : decode cX4_has 12 = .ok (.iconst 1, 1) := by decide +kernel
theorem dX4_has_13 : decode cX4_has 13 = .ok (.goto 4, 3) := by decide +kernel
theorem dX4_has_16 : decode cX4_has 16 = .ok (.iconst 0, 1) := by decide +kernel
theorem dX4_has_17 : decode cX4_has 17 = .ok (.ireturn, 1) := by decide +kernel
theorem dX4_tell_0 : decode cX4_tell 0 = .ok (.aload_n 0, 1) := by decide +kernel
theorem dX4_tell_1 : decode cX4_tell 1 = .ok (.iload_n 1, 1) := by decide +kernel
theorem dX4_tell_2 : decode cX4_tell 2 = .ok (.invokevirtual 31, 3) := by decide +kernel
theorem dX4_tell_5 : decode cX4_tell 5 = .ok (.ifCond .ne 5, 3) := by decide +kernel
theorem dX4_tell_8 : decode cX4_tell 8 = .ok (.iconst (-1), 1) := by decide +kernel
theorem dX4_tell_9 : decode cX4_tell 9 = .ok (.ireturn, 1) := by decide +kernel
theorem dX4_tell_10 : decode cX4_tell 10 = .ok (.iload_n 2, 1) := by decide +kernel
theorem dX4_tell_11 : decode cX4_tell 11 = .ok (.lookupswitch 39 #[(0, 25), (1, 32)], 25) := by decide +kernel
theorem dX4_tell_36 : decode cX4_tell 36 = .ok (.aload_n 0, 1) := by decide +kernel
theorem dX4_tell_37 : decode cX4_tell 37 = .ok (.getfield 9, 3) := by decide +kernel
theorem dX4_tell_40 : decode cX4_tell 40 = .ok (.iload_n 1, 1) := by decide +kernel
theorem dX4_tell_41 : decode cX4_tell 41 = .ok (.iaload, 1) := by decide +kernel
theorem dX4_tell_42 : decode cX4_tell 42 = .ok (.ireturn, 1) := by decide +kernel
theorem dX4_tell_43 : decode cX4_tell 43 = .ok (.aload_n 0, 1) := by decide +kernel
theorem dX4_tell_44 : decode cX4_tell 44 = .ok (.getfield 15, 3) := by decide +kernel
theorem dX4_tell_47 : decode cX4_tell 47 = .ok (.iload_n 1, 1) := by decide +kernel
theorem dX4_tell_48 : decode cX4_tell 48 = .ok (.iaload, 1) := by decide +kernel
theorem dX4_tell_49 : decode cX4_tell 49 = .ok (.ireturn, 1) := by decide +kernel
theorem dX4_tell_50 : decode cX4_tell 50 = .ok (.iconst (-1), 1) := by decide +kernel
theorem dX4_tell_51 : decode cX4_tell 51 = .ok (.ireturn, 1) := by decide +kernel
theorem dX5_init_0 : decode cX5_init 0 = .ok (.aload_n 0, 1) := by decide +kernel
theorem dX5_init_1 : decode cX5_init 1 = .ok (.invokespecial 3, 3) := by decide +kernel
theorem dX5_init_4 : decode cX5_init 4 = .ok (.aload_n 0, 1) := by decide +kernel
theorem dX5_init_5 : decode cX5_init 5 = .ok (.iconst 1, 1) := by decide +kernel
theorem dX5_init_6 : decode cX5_init 6 = .ok (.putfield 9, 3) := by decide +kernel
theorem dX5_init_9 : decode cX5_init 9 = .ok (.aload_n 0, 1) := by decide +kernel
theorem dX5_init_10 : decode cX5_init 10 = .ok (.iconst 0, 1) := by decide +kernel
theorem dX5_init_11 : decode cX5_init 11 = .ok (.putfield 15, 3) := by decide +kernel
theorem dX5_init_14 : decode cX5_init 14 = .ok (.aload_n 0, 1) := by decide +kernel
theorem dX5_init_15 : decode cX5_init 15 = .ok (.iconst 0, 1) := by decide +kernel
theorem dX5_init_16 : decode cX5_init 16 = .ok (.putfield 19, 3) := by decide +kernel
theorem dX5_init_19 : decode cX5_init 19 = .ok (.aload_n 0, 1) := by decide +kernel
theorem dX5_init_20 : decode cX5_init 20 = .ok (.iload_n 1, 1) := by decide +kernel
theorem dX5_init_21 : decode cX5_init 21 = .ok (.putfield 22, 3) := by decide +kernel
theorem dX5_init_24 : decode cX5_init 24 = .ok (.aload_n 0, 1) := by decide +kernel
theorem dX5_init_25 : decode cX5_init 25 = .ok (.iload_n 1, 1) := by decide +kernel
theorem dX5_init_26 : decode cX5_init 26 = .ok (.iconst 4, 1) := by decide +kernel
theorem dX5_init_27 : decode cX5_init 27 = .ok (.iand, 1) := by decide +kernel
theorem dX5_init_28 : decode cX5_init 28 = .ok (.ifCond .eq 7, 3) := by decide +kernel
theorem dX5_init_31 : decode cX5_init 31 = .ok (.iconst 5, 1) := by decide +kernel
theorem dX5_init_32 : decode cX5_init 32 = .ok (.goto 4, 3) := by decide +kernel
theorem dX5_init_35 : decode cX5_init 35 = .ok (.iconst 1, 1) := by decide +kernel
theorem dX5_init_36 : decode cX5_init 36 = .ok (.anewarray 25, 3) := by decide +kernel
theorem dX5_init_39 : decode cX5_init 39 = .ok (.putfield 27, 3) := by decide +kernel
theorem dX5_init_42 : decode cX5_init 42 = .ok (.iconst 0, 1) := by decide +kernel
theorem dX5_init_43 : decode cX5_init 43 = .ok (.istore_n 3, 1) := by decide +kernel
theorem dX5_init_44 : decode cX5_init 44 = .ok (.iload_n 3, 1) := by decide +kernel
theorem dX5_init_45 : decode cX5_init 45 = .ok (.aload_n 0, 1) := by decide +kernel
theorem dX5_init_46 : decode cX5_init 46 = .ok (.getfield 27, 3) := by decide +kernel
theorem dX5_init_49 : decode cX5_init 49 = .ok (.arraylength, 1) := by decide +kernel
theorem dX5_init_50 : decode cX5_init 50 = .ok (.if_icmp .ge 22, 3) := by decide +kernel
theorem dX5_init_53 : decode cX5_init 53 = .ok (.aload_n 0, 1) := by decide +kernel
theorem dX5_init_54 : decode cX5_init 54 = .ok (.getfield 27, 3) := by decide +kernel
theorem dX5_init_57 : decode cX5_init 57 = .ok (.iload_n 3, 1) := by decide +kernel
theorem dX5_init_58 : decode cX5_init 58 = .ok (.new 25, 3) := by decide +kernel
theorem dX5_init_61 : decode cX5_init 61 = .ok (.dup, 1) := by decide +kernel
theorem dX5_init_62 : decode cX5_init 62 = .ok (.invokespecial 31, 3) := by decide +kernel
theorem dX5_init_65 : decode cX5_init 65 = .ok (.aastore, 1) := by decide +kernel
theorem dX5_init_66 : decode cX5_init 66 = .ok (.iinc 3 1, 3) := by decide +kernel
theorem dX5_init_69 : decode cX5_init 69 = .ok (.goto (-25), 3) := by decide +kernel
theorem dX5_init_72 : decode cX5_init 72 = .ok (.aload_n 0, 1) := by decide +kernel
theorem dX5_init_73 : decode cX5_init 73 = .ok (.new 32, 3) := by decide +kernel
theorem dX5_init_76 : decode cX5_init 76 = .ok (.dup, 1) := by decide +kernel
theorem dX5_init_77 : decode cX5_init 77 = .ok (.iload_n 2, 1) := by decide +kernel
theorem dX5_init_78 : decode cX5_init 78 = .ok (.invokespecial 34, 3) := by decide +kernel
theorem dX5_init_81 : decode cX5_init 81 = .ok (.putfield 37, 3) := by decide +kernel
theorem dX5_init_84 : decode cX5_init 84 = .ok (.aload_n 0, 1) := by decide +kernel
theorem dX5_init_85 : decode cX5_init 85 = .ok (.new 41, 3) := by decide +kernel
theorem dX5_init_88 : decode cX5_init 88 = .ok (.dup, 1) := by decide +kernel
theorem dX5_init_89 : decode cX5_init 89 = .ok (.invokespecial 43, 3) := by decide +kernel
theorem dX5_init_92 : decode cX5_init 92 = .ok (.putfield 44, 3) := by decide +kernel
theorem dX5_init_95 : decode cX5_init 95 = .ok (.return_, 1) := by decide +kernel
theorem dX5_isOpen_0 : decode cX5_isOpen 0 = .ok (.aload_n 0, 1) := by decide +kernel
theorem dX5_isOpen_1 : decode cX5_isOpen 1 = .ok (.getfield 9, 3) := by decide +kernel
theorem dX5_isOpen_4 : decode cX5_isOpen 4 = .ok (.ireturn, 1) := by decide +kernel
theorem dX5_may_0 : decode cX5_may 0 = .ok (.aload_n 0, 1) := by decide +kernel
theorem dX5_may_1 : decode cX5_may 1 = .ok (.getfield 22, 3) := by decide +kernel
theorem dX5_may_4 : decode cX5_may 4 = .ok (.iload_n 1, 1) := by decide +kernel
theorem dX5_may_5 : decode cX5_may 5 = .ok (.iand, 1) := by decide +kernel
theorem dX5_may_6 : decode cX5_may 6 = .ok (.ifCond .eq 7, 3) := by decide +kernel
theorem dX5_may_9 : decode cX5_may 9 = .ok (.iconst 1, 1) := by decide +kernel
theorem dX5_may_10 : decode cX5_may 10 = .ok (.goto 4, 3) := by decide +kernel
theorem dX5_may_13 : decode cX5_may 13 = .ok (.iconst 0, 1) := by decide +kernel
theorem dX5_may_14 : decode cX5_may 14 = .ok (.ireturn, 1) := by decide +kernel
theorem dX5_presented_0 : decode cX5_presented 0 = .ok (.aload_n 0, 1) := by decide +kernel
theorem dX5_presented_1 : decode cX5_presented 1 = .ok (.getfield 37, 3) := by decide +kernel
theorem dX5_presented_4 : decode cX5_presented 4 = .ok (.areturn, 1) := by decide +kernel
theorem dX5_scannedTerms_0 : decode cX5_scannedTerms 0 = .ok (.aload_n 0, 1) := by decide +kernel
theorem dX5_scannedTerms_1 : decode cX5_scannedTerms 1 = .ok (.getfield 44, 3) := by decide +kernel
theorem dX5_scannedTerms_4 : decode cX5_scannedTerms 4 = .ok (.areturn, 1) := by decide +kernel
theorem dX5_setOfName_0 : decode cX5_setOfName 0 = .ok (.iload_n 1, 1) := by decide +kernel
theorem dX5_setOfName_1 : decode cX5_setOfName 1 = .ok (.ifCond .lt 21, 3) := by decide +kernel
theorem dX5_setOfName_4 : decode cX5_setOfName 4 = .ok (.iload_n 1, 1) := by decide +kernel
theorem dX5_setOfName_5 : decode cX5_setOfName 5 = .ok (.aload_n 0, 1) := by decide +kernel
theorem dX5_setOfName_6 : decode cX5_setOfName 6 = .ok (.getfield 27, 3) := by decide +kernel
theorem dX5_setOfName_9 : decode cX5_setOfName 9 = .ok (.arraylength, 1) := by decide +kernel
theorem dX5_setOfName_10 : decode cX5_setOfName 10 = .ok (.if_icmp .ge 12, 3) := by decide +kernel
theorem dX5_setOfName_13 : decode cX5_setOfName 13 = .ok (.aload_n 0, 1) := by decide +kernel
theorem dX5_setOfName_14 : decode cX5_setOfName 14 = .ok (.getfield 27, 3) := by decide +kernel
theorem dX5_setOfName_17 : decode cX5_setOfName 17 = .ok (.iload_n 1, 1) := by decide +kernel
theorem dX5_setOfName_18 : decode cX5_setOfName 18 = .ok (.aaload, 1) := by decide +kernel
theorem dX5_setOfName_19 : decode cX5_setOfName 19 = .ok (.goto 4, 3) := by decide +kernel
theorem dX5_setOfName_22 : decode cX5_setOfName 22 = .ok (.aconst_null, 1) := by decide +kernel
theorem dX5_setOfName_23 : decode cX5_setOfName 23 = .ok (.areturn, 1) := by decide +kernel
theorem dX5_madeSet_0 : decode cX5_madeSet 0 = .ok (.aload_n 0, 1) := by decide +kernel
theorem dX5_madeSet_1 : decode cX5_madeSet 1 = .ok (.iload_n 1, 1) := by decide +kernel
theorem dX5_madeSet_2 : decode cX5_madeSet 2 = .ok (.invokevirtual 48, 3) := by decide +kernel
theorem dX5_madeSet_5 : decode cX5_madeSet 5 = .ok (.astore_n 2, 1) := by decide +kernel
theorem dX5_madeSet_6 : decode cX5_madeSet 6 = .ok (.aload_n 2, 1) := by decide +kernel
theorem dX5_madeSet_7 : decode cX5_madeSet 7 = .ok (.ifnull 14, 3) := by decide +kernel
theorem dX5_madeSet_10 : decode cX5_madeSet 10 = .ok (.aload_n 2, 1) := by decide +kernel
theorem dX5_madeSet_11 : decode cX5_madeSet 11 = .ok (.invokevirtual 52, 3) := by decide +kernel
theorem dX5_madeSet_14 : decode cX5_madeSet 14 = .ok (.ifCond .eq 7, 3) := by decide +kernel
theorem dX5_madeSet_17 : decode cX5_madeSet 17 = .ok (.aload_n 2, 1) := by decide +kernel
theorem dX5_madeSet_18 : decode cX5_madeSet 18 = .ok (.goto 4, 3) := by decide +kernel
theorem dX5_madeSet_21 : decode cX5_madeSet 21 = .ok (.aconst_null, 1) := by decide +kernel
theorem dX5_madeSet_22 : decode cX5_madeSet 22 = .ok (.areturn, 1) := by decide +kernel
theorem dX5_setCount_0 : decode cX5_setCount 0 = .ok (.iconst 0, 1) := by decide +kernel
theorem dX5_setCount_1 : decode cX5_setCount 1 = .ok (.istore_n 1, 1) := by decide +kernel
theorem dX5_setCount_2 : decode cX5_setCount 2 = .ok (.iconst 0, 1) := by decide +kernel
theorem dX5_setCount_3 : decode cX5_setCount 3 = .ok (.istore_n 2, 1) := by decide +kernel
theorem dX5_setCount_4 : decode cX5_setCount 4 = .ok (.iload_n 2, 1) := by decide +kernel
theorem dX5_setCount_5 : decode cX5_setCount 5 = .ok (.aload_n 0, 1) := by decide +kernel
theorem dX5_setCount_6 : decode cX5_setCount 6 = .ok (.getfield 27, 3) := by decide +kernel
theorem dX5_setCount_9 : decode cX5_setCount 9 = .ok (.arraylength, 1) := by decide +kernel
theorem dX5_setCount_10 : decode cX5_setCount 10 = .ok (.if_icmp .ge 24, 3) := by decide +kernel
theorem dX5_setCount_13 : decode cX5_setCount 13 = .ok (.aload_n 0, 1) := by decide +kernel
theorem dX5_setCount_14 : decode cX5_setCount 14 = .ok (.getfield 27, 3) := by decide +kernel
theorem dX5_setCount_17 : decode cX5_setCount 17 = .ok (.iload_n 2, 1) := by decide +kernel
theorem dX5_setCount_18 : decode cX5_setCount 18 = .ok (.aaload, 1) := by decide +kernel
theorem dX5_setCount_19 : decode cX5_setCount 19 = .ok (.invokevirtual 52, 3) := by decide +kernel
theorem dX5_setCount_22 : decode cX5_setCount 22 = .ok (.ifCond .eq 6, 3) := by decide +kernel
theorem dX5_setCount_25 : decode cX5_setCount 25 = .ok (.iinc 1 1, 3) := by decide +kernel
theorem dX5_setCount_28 : decode cX5_setCount 28 = .ok (.iinc 2 1, 3) := by decide +kernel
theorem dX5_setCount_31 : decode cX5_setCount 31 = .ok (.goto (-27), 3) := by decide +kernel
theorem dX5_setCount_34 : decode cX5_setCount 34 = .ok (.iload_n 1, 1) := by decide +kernel
theorem dX5_setCount_35 : decode cX5_setCount 35 = .ok (.ireturn, 1) := by decide +kernel
theorem dX5_diagnose_0 : decode cX5_diagnose 0 = .ok (.aload_n 0, 1) := by decide +kernel
theorem dX5_diagnose_1 : decode cX5_diagnose 1 = .ok (.dup, 1) := by decide +kernel
theorem dX5_diagnose_2 : decode cX5_diagnose 2 = .ok (.getfield 15, 3) := by decide +kernel
theorem dX5_diagnose_5 : decode cX5_diagnose 5 = .ok (.iconst 1, 1) := by decide +kernel
theorem dX5_diagnose_6 : decode cX5_diagnose 6 = .ok (.iadd, 1) := by decide +kernel
theorem dX5_diagnose_7 : decode cX5_diagnose 7 = .ok (.putfield 15, 3) := by decide +kernel
theorem dX5_diagnose_10 : decode cX5_diagnose 10 = .ok (.aload_n 0, 1) := by decide +kernel
theorem dX5_diagnose_11 : decode cX5_diagnose 11 = .ok (.iload_n 1, 1) := by decide +kernel
theorem dX5_diagnose_12 : decode cX5_diagnose 12 = .ok (.putfield 19, 3) := by decide +kernel
theorem dX5_diagnose_15 : decode cX5_diagnose 15 = .ok (.aload_n 0, 1) := by decide +kernel
theorem dX5_diagnose_16 : decode cX5_diagnose 16 = .ok (.getfield 15, 3) := by decide +kernel
theorem dX5_diagnose_19 : decode cX5_diagnose 19 = .ok (.iconst 3, 1) := by decide +kernel
theorem dX5_diagnose_20 : decode cX5_diagnose 20 = .ok (.if_icmp .lt 7, 3) := by decide +kernel
theorem dX5_diagnose_23 : decode cX5_diagnose 23 = .ok (.aload_n 0, 1) := by decide +kernel
theorem dX5_diagnose_24 : decode cX5_diagnose 24 = .ok (.invokevirtual 56, 3) := by decide +kernel
theorem dX5_diagnose_27 : decode cX5_diagnose 27 = .ok (.iload_n 1, 1) := by decide +kernel
theorem dX5_diagnose_28 : decode cX5_diagnose 28 = .ok (.ineg, 1) := by decide +kernel
theorem dX5_diagnose_29 : decode cX5_diagnose 29 = .ok (.ireturn, 1) := by decide +kernel
theorem dX5_shut_0 : decode cX5_shut 0 = .ok (.aload_n 0, 1) := by decide +kernel
theorem dX5_shut_1 : decode cX5_shut 1 = .ok (.iconst 0, 1) := by decide +kernel
theorem dX5_shut_2 : decode cX5_shut 2 = .ok (.putfield 9, 3) := by decide +kernel
theorem dX5_shut_5 : decode cX5_shut 5 = .ok (.iconst 0, 1) := by decide +kernel
theorem dX5_shut_6 : decode cX5_shut 6 = .ok (.istore_n 1, 1) := by decide +kernel
theorem dX5_shut_7 : decode cX5_shut 7 = .ok (.iload_n 1, 1) := by decide +kernel
theorem dX5_shut_8 : decode cX5_shut 8 = .ok (.aload_n 0, 1) := by decide +kernel
theorem dX5_shut_9 : decode cX5_shut 9 = .ok (.getfield 27, 3) := by decide +kernel
theorem dX5_shut_12 : decode cX5_shut 12 = .ok (.arraylength, 1) := by decide +kernel
theorem dX5_shut_13 : decode cX5_shut 13 = .ok (.if_icmp .ge 18, 3) := by decide +kernel
theorem dX5_shut_16 : decode cX5_shut 16 = .ok (.aload_n 0, 1) := by decide +kernel
theorem dX5_shut_17 : decode cX5_shut 17 = .ok (.getfield 27, 3) := by decide +kernel
theorem dX5_shut_20 : decode cX5_shut 20 = .ok (.iload_n 1, 1) := by decide +kernel
theorem dX5_shut_21 : decode cX5_shut 21 = .ok (.aaload, 1) := by decide +kernel
theorem dX5_shut_22 : decode cX5_shut 22 = .ok (.invokevirtual 59, 3) := by decide +kernel
theorem dX5_shut_25 : decode cX5_shut 25 = .ok (.iinc 1 1, 3) := by decide +kernel
theorem dX5_shut_28 : decode cX5_shut 28 = .ok (.goto (-21), 3) := by decide +kernel
theorem dX5_shut_31 : decode cX5_shut 31 = .ok (.return_, 1) := by decide +kernel
theorem dX5_tell_0 : decode cX5_tell 0 = .ok (.iload_n 1, 1) := by decide +kernel
theorem dX5_tell_1 : decode cX5_tell 1 = .ok (.tableswitch 59 0 3 #[31, 44, 49, 54], 31) := by decide +kernel
theorem dX5_tell_32 : decode cX5_tell 32 = .ok (.aload_n 0, 1) := by decide +kernel
theorem dX5_tell_33 : decode cX5_tell 33 = .ok (.getfield 9, 3) := by decide +kernel
theorem dX5_tell_36 : decode cX5_tell 36 = .ok (.ifCond .eq 7, 3) := by decide +kernel
theorem dX5_tell_39 : decode cX5_tell 39 = .ok (.iconst 1, 1) := by decide +kernel
theorem dX5_tell_40 : decode cX5_tell 40 = .ok (.goto 4, 3) := by decide +kernel
theorem dX5_tell_43 : decode cX5_tell 43 = .ok (.iconst 2, 1) := by decide +kernel
theorem dX5_tell_44 : decode cX5_tell 44 = .ok (.ireturn, 1) := by decide +kernel
theorem dX5_tell_45 : decode cX5_tell 45 = .ok (.aload_n 0, 1) := by decide +kernel
theorem dX5_tell_46 : decode cX5_tell 46 = .ok (.getfield 15, 3) := by decide +kernel
theorem dX5_tell_49 : decode cX5_tell 49 = .ok (.ireturn, 1) := by decide +kernel
theorem dX5_tell_50 : decode cX5_tell 50 = .ok (.aload_n 0, 1) := by decide +kernel
theorem dX5_tell_51 : decode cX5_tell 51 = .ok (.getfield 19, 3) := by decide +kernel
theorem dX5_tell_54 : decode cX5_tell 54 = .ok (.ireturn, 1) := by decide +kernel
theorem dX5_tell_55 : decode cX5_tell 55 = .ok (.aload_n 0, 1) := by decide +kernel
theorem dX5_tell_56 : decode cX5_tell 56 = .ok (.invokevirtual 62, 3) := by decide +kernel
theorem dX5_tell_59 : decode cX5_tell 59 = .ok (.ireturn, 1) := by decide +kernel
theorem dX5_tell_60 : decode cX5_tell 60 = .ok (.iconst (-1), 1) := by decide +kernel
theorem dX5_tell_61 : decode cX5_tell 61 = .ok (.ireturn, 1) := by decide +kernel
end
section
theorem dX6_init_0 : decode cX6_init 0 = .ok (.aload_n 0, 1) := by decide +kernel
theorem dX6_init_1 : decode cX6_init 1 = .ok (.invokespecial 1, 3) := by decide +kernel
theorem dX6_init_4 : decode cX6_init 4 = .ok (.aload_n 0, 1) := by decide +kernel
theorem dX6_init_5 : decode cX6_init 5 = .ok (.new 7, 3) := by decide +kernel
theorem dX6_init_8 : decode cX6_init 8 = .ok (.dup, 1) := by decide +kernel
theorem dX6_init_9 : decode cX6_init 9 = .ok (.invokespecial 9, 3) := by decide +kernel
theorem dX6_init_12 : decode cX6_init 12 = .ok (.putfield 10, 3) := by decide +kernel
theorem dX6_init_15 : decode cX6_init 15 = .ok (.aload_n 0, 1) := by decide +kernel
theorem dX6_init_16 : decode cX6_init 16 = .ok (.new 16, 3) := by decide +kernel
theorem dX6_init_19 : decode cX6_init 19 = .ok (.dup, 1) := by decide +kernel
theorem dX6_init_20 : decode cX6_init 20 = .ok (.invokespecial 18, 3) := by decide +kernel
theorem dX6_init_23 : decode cX6_init 23 = .ok (.putfield 19, 3) := by decide +kernel
theorem dX6_init_26 : decode cX6_init 26 = .ok (.aload_n 0, 1) := by decide +kernel
theorem dX6_init_27 : decode cX6_init 27 = .ok (.bipush 8, 2) := by decide +kernel
theorem dX6_init_29 : decode cX6_init 29 = .ok (.anewarray 23, 3) := by decide +kernel
theorem dX6_init_32 : decode cX6_init 32 = .ok (.putfield 25, 3) := by decide +kernel
theorem dX6_init_35 : decode cX6_init 35 = .ok (.aload_n 0, 1) := by decide +kernel
theorem dX6_init_36 : decode cX6_init 36 = .ok (.iconst 0, 1) := by decide +kernel
theorem dX6_init_37 : decode cX6_init 37 = .ok (.putfield 29, 3) := by decide +kernel
theorem dX6_init_40 : decode cX6_init 40 = .ok (.return_, 1) := by decide +kernel
theorem dX6_record_0 : decode cX6_record 0 = .ok (.aload_n 0, 1) := by decide +kernel
theorem dX6_record_1 : decode cX6_record 1 = .ok (.getfield 10, 3) := by decide +kernel
theorem dX6_record_4 : decode cX6_record 4 = .ok (.iload_n 1, 1) := by decide +kernel
theorem dX6_record_5 : decode cX6_record 5 = .ok (.invokevirtual 33, 3) := by decide +kernel
theorem dX6_record_8 : decode cX6_record 8 = .ok (.ireturn, 1) := by decide +kernel
theorem dX6_term_0 : decode cX6_term 0 = .ok (.aload_n 0, 1) := by decide +kernel
theorem dX6_term_1 : decode cX6_term 1 = .ok (.getfield 10, 3) := by decide +kernel
theorem dX6_term_4 : decode cX6_term 4 = .ok (.iload_n 1, 1) := by decide +kernel
theorem dX6_term_5 : decode cX6_term 5 = .ok (.iload_n 2, 1) := by decide +kernel
theorem dX6_term_6 : decode cX6_term 6 = .ok (.iload_n 3, 1) := by decide +kernel
theorem dX6_term_7 : decode cX6_term 7 = .ok (.invokevirtual 37, 3) := by decide +kernel
theorem dX6_term_10 : decode cX6_term 10 = .ok (.ifCond .eq 7, 3) := by decide +kernel
theorem dX6_term_13 : decode cX6_term 13 = .ok (.iconst 1, 1) := by decide +kernel
theorem dX6_term_14 : decode cX6_term 14 = .ok (.goto 4, 3) := by decide +kernel
theorem dX6_term_17 : decode cX6_term 17 = .ok (.iconst (-1), 1) := by decide +kernel
theorem dX6_term_18 : decode cX6_term 18 = .ok (.ireturn, 1) := by decide +kernel
theorem dX6_question_0 : decode cX6_question 0 = .ok (.iload_n 1, 1) := by decide +kernel
theorem dX6_question_1 : decode cX6_question 1 = .ok (.ifCond .ne 14, 3) := by decide +kernel
theorem dX6_question_4 : decode cX6_question 4 = .ok (.aload_n 0, 1) := by decide +kernel
theorem dX6_question_5 : decode cX6_question 5 = .ok (.getfield 19, 3) := by decide +kernel
theorem dX6_question_8 : decode cX6_question 8 = .ok (.iload_n 2, 1) := by decide +kernel
theorem dX6_question_9 : decode cX6_question 9 = .ok (.iload_n 3, 1) := by decide +kernel
theorem dX6_question_10 : decode cX6_question 10 = .ok (.iload_n 3, 1) := by decide +kernel
theorem dX6_question_11 : decode cX6_question 11 = .ok (.invokevirtual 41, 3) := by decide +kernel
theorem dX6_question_14 : decode cX6_question 14 = .ok (.ireturn, 1) := by decide +kernel
theorem dX6_question_15 : decode cX6_question 15 = .ok (.iload_n 1, 1) := by decide +kernel
theorem dX6_question_16 : decode cX6_question 16 = .ok (.iconst 1, 1) := by decide +kernel
theorem dX6_question_17 : decode cX6_question 17 = .ok (.if_icmp .ne 15, 3) := by decide +kernel
theorem dX6_question_20 : decode cX6_question 20 = .ok (.aload_n 0, 1) := by decide +kernel
theorem dX6_question_21 : decode cX6_question 21 = .ok (.getfield 19, 3) := by decide +kernel
theorem dX6_question_24 : decode cX6_question 24 = .ok (.iload_n 2, 1) := by decide +kernel
theorem dX6_question_25 : decode cX6_question 25 = .ok (.iload_n 3, 1) := by decide +kernel
theorem dX6_question_26 : decode cX6_question 26 = .ok (.iload 4, 2) := by decide +kernel
theorem dX6_question_28 : decode cX6_question 28 = .ok (.invokevirtual 41, 3) := by decide +kernel
theorem dX6_question_31 : decode cX6_question 31 = .ok (.ireturn, 1) := by decide +kernel
theorem dX6_question_32 : decode cX6_question 32 = .ok (.aload_n 0, 1) := by decide +kernel
theorem dX6_question_33 : decode cX6_question 33 = .ok (.getfield 19, 3) := by decide +kernel
theorem dX6_question_36 : decode cX6_question 36 = .ok (.iload_n 1, 1) := by decide +kernel
theorem dX6_question_37 : decode cX6_question 37 = .ok (.iload_n 2, 1) := by decide +kernel
theorem dX6_question_38 : decode cX6_question 38 = .ok (.iload_n 3, 1) := by decide +kernel
theorem dX6_question_39 : decode cX6_question 39 = .ok (.invokevirtual 45, 3) := by decide +kernel
theorem dX6_question_42 : decode cX6_question 42 = .ok (.ireturn, 1) := by decide +kernel
theorem dX6_session_0 : decode cX6_session 0 = .ok (.iload_n 1, 1) := by decide +kernel
theorem dX6_session_1 : decode cX6_session 1 = .ok (.ifCond .lt 21, 3) := by decide +kernel
theorem dX6_session_4 : decode cX6_session 4 = .ok (.iload_n 1, 1) := by decide +kernel
theorem dX6_session_5 : decode cX6_session 5 = .ok (.bipush 7, 2) := by decide +kernel
theorem dX6_session_7 : decode cX6_session 7 = .ok (.if_icmp .gt 15, 3) := by decide +kernel
theorem dX6_session_10 : decode cX6_session 10 = .ok (.iload_n 2, 1) := by decide +kernel
theorem dX6_session_11 : decode cX6_session 11 = .ok (.iconst 1, 1) := by decide +kernel
theorem dX6_session_12 : decode cX6_session 12 = .ok (.if_icmp .lt 10, 3) := by decide +kernel
theorem dX6_session_15 : decode cX6_session 15 = .ok (.iload_n 2, 1) := by decide +kernel
theorem dX6_session_16 : decode cX6_session 16 = .ok (.sipush 1000, 3) := by decide +kernel
theorem dX6_session_19 : decode cX6_session 19 = .ok (.if_icmp .le 5, 3) := by decide +kernel
theorem dX6_session_22 : decode cX6_session 22 = .ok (.iconst (-1), 1) := by decide +kernel
theorem dX6_session_23 : decode cX6_session 23 = .ok (.ireturn, 1) := by decide +kernel
theorem dX6_session_24 : decode cX6_session 24 = .ok (.aload_n 0, 1) := by decide +kernel
theorem dX6_session_25 : decode cX6_session 25 = .ok (.getfield 29, 3) := by decide +kernel
theorem dX6_session_28 : decode cX6_session 28 = .ok (.bipush 8, 2) := by decide +kernel
theorem dX6_session_30 : decode cX6_session 30 = .ok (.if_icmp .lt 5, 3) := by decide +kernel
theorem dX6_session_33 : decode cX6_session 33 = .ok (.iconst (-1), 1) := by decide +kernel
theorem dX6_session_34 : decode cX6_session 34 = .ok (.ireturn, 1) := by decide +kernel
theorem dX6_session_35 : decode cX6_session 35 = .ok (.aload_n 0, 1) := by decide +kernel
theorem dX6_session_36 : decode cX6_session 36 = .ok (.getfield 25, 3) := by decide +kernel
theorem dX6_session_39 : decode cX6_session 39 = .ok (.aload_n 0, 1) := by decide +kernel
theorem dX6_session_40 : decode cX6_session 40 = .ok (.getfield 29, 3) := by decide +kernel
theorem dX6_session_43 : decode cX6_session 43 = .ok (.new 23, 3) := by decide +kernel
theorem dX6_session_46 : decode cX6_session 46 = .ok (.dup, 1) := by decide +kernel
theorem dX6_session_47 : decode cX6_session 47 = .ok (.iload_n 1, 1) := by decide +kernel
theorem dX6_session_48 : decode cX6_session 48 = .ok (.iload_n 2, 1) := by decide +kernel
theorem dX6_session_49 : decode cX6_session 49 = .ok (.invokespecial 48, 3) := by decide +kernel
theorem dX6_session_52 : decode cX6_session 52 = .ok (.aastore, 1) := by decide +kernel
theorem dX6_session_53 : decode cX6_session 53 = .ok (.aload_n 0, 1) := by decide +kernel
theorem dX6_session_54 : decode cX6_session 54 = .ok (.dup, 1) := by decide +kernel
theorem dX6_session_55 : decode cX6_session 55 = .ok (.getfield 29, 3) := by decide +kernel
theorem dX6_session_58 : decode cX6_session 58 = .ok (.iconst 1, 1) := by decide +kernel
theorem dX6_session_59 : decode cX6_session 59 = .ok (.iadd, 1) := by decide +kernel
theorem dX6_session_60 : decode cX6_session 60 = .ok (.putfield 29, 3) := by decide +kernel
theorem dX6_session_63 : decode cX6_session 63 = .ok (.aload_n 0, 1) := by decide +kernel
theorem dX6_session_64 : decode cX6_session 64 = .ok (.getfield 29, 3) := by decide +kernel
theorem dX6_session_67 : decode cX6_session 67 = .ok (.iconst 1, 1) := by decide +kernel
theorem dX6_session_68 : decode cX6_session 68 = .ok (.isub, 1) := by decide +kernel
theorem dX6_session_69 : decode cX6_session 69 = .ok (.ireturn, 1) := by decide +kernel
theorem dX6_search_0 : decode cX6_search 0 = .ok (.aload_n 0, 1) := by decide +kernel
theorem dX6_search_1 : decode cX6_search 1 = .ok (.iload_n 1, 1) := by decide +kernel
theorem dX6_search_2 : decode cX6_search 2 = .ok (.invokevirtual 51, 3) := by decide +kernel
theorem dX6_search_5 : decode cX6_search 5 = .ok (.astore 4, 2) := by decide +kernel
theorem dX6_search_7 : decode cX6_search 7 = .ok (.aload 4, 2) := by decide +kernel
theorem dX6_search_9 : decode cX6_search 9 = .ok (.ifnonnull 6, 3) := by decide +kernel
theorem dX6_search_12 : decode cX6_search 12 = .ok (.bipush (-101), 2) := by decide +kernel
theorem dX6_search_14 : decode cX6_search 14 = .ok (.ireturn, 1) := by decide +kernel
theorem dX6_search_15 : decode cX6_search 15 = .ok (.aload_n 0, 1) := by decide +kernel
theorem dX6_search_16 : decode cX6_search 16 = .ok (.getfield 19, 3) := by decide +kernel
theorem dX6_search_19 : decode cX6_search 19 = .ok (.iload_n 2, 1) := by decide +kernel
theorem dX6_search_20 : decode cX6_search 20 = .ok (.invokevirtual 55, 3) := by decide +kernel
theorem dX6_search_23 : decode cX6_search 23 = .ok (.ifCond .ne 11, 3) := by decide +kernel
theorem dX6_search_26 : decode cX6_search 26 = .ok (.aload 4, 2) := by decide +kernel
theorem dX6_search_28 : decode cX6_search 28 = .ok (.bipush 103, 2) := by decide +kernel
theorem dX6_search_30 : decode cX6_search 30 = .ok (.invokevirtual 59, 3) := by decide +kernel
theorem dX6_search_33 : decode cX6_search 33 = .ok (.ireturn, 1) := by decide +kernel
theorem dX6_search_34 : decode cX6_search 34 = .ok (.aload 4, 2) := by decide +kernel
theorem dX6_search_36 : decode cX6_search 36 = .ok (.iload_n 3, 1) := by decide +kernel
theorem dX6_search_37 : decode cX6_search 37 = .ok (.invokevirtual 62, 3) := by decide +kernel
theorem dX6_search_40 : decode cX6_search 40 = .ok (.astore 5, 2) := by decide +kernel
theorem dX6_search_42 : decode cX6_search 42 = .ok (.aload 5, 2) := by decide +kernel
theorem dX6_search_44 : decode cX6_search 44 = .ok (.ifnonnull 11, 3) := by decide +kernel
theorem dX6_search_47 : decode cX6_search 47 = .ok (.aload 4, 2) := by decide +kernel
theorem dX6_search_49 : decode cX6_search 49 = .ok (.bipush 104, 2) := by decide +kernel
theorem dX6_search_51 : decode cX6_search 51 = .ok (.invokevirtual 59, 3) := by decide +kernel
theorem dX6_search_54 : decode cX6_search 54 = .ok (.ireturn, 1) := by decide +kernel
theorem dX6_search_55 : decode cX6_search 55 = .ok (.aload 5, 2) := by decide +kernel
theorem dX6_search_57 : decode cX6_search 57 = .ok (.invokevirtual 66, 3) := by decide +kernel
theorem dX6_search_60 : decode cX6_search 60 = .ok (.iconst 0, 1) := by decide +kernel
theorem dX6_search_61 : decode cX6_search 61 = .ok (.istore 6, 2) := by decide +kernel
theorem dX6_search_63 : decode cX6_search 63 = .ok (.iload 6, 2) := by decide +kernel
theorem dX6_search_65 : decode cX6_search 65 = .ok (.aload_n 0, 1) := by decide +kernel
theorem dX6_search_66 : decode cX6_search 66 = .ok (.getfield 10, 3) := by decide +kernel
theorem dX6_search_69 : decode cX6_search 69 = .ok (.invokevirtual 71, 3) := by decide +kernel
theorem dX6_search_72 : decode cX6_search 72 = .ok (.if_icmp .ge 33, 3) := by decide +kernel
theorem dX6_search_75 : decode cX6_search 75 = .ok (.aload_n 0, 1) := by decide +kernel
theorem dX6_search_76 : decode cX6_search 76 = .ok (.getfield 19, 3) := by decide +kernel
theorem dX6_search_79 : decode cX6_search 79 = .ok (.iload_n 2, 1) := by decide +kernel
theorem dX6_search_80 : decode cX6_search 80 = .ok (.aload_n 0, 1) := by decide +kernel
theorem dX6_search_81 : decode cX6_search 81 = .ok (.getfield 10, 3) := by decide +kernel
theorem dX6_search_84 : decode cX6_search 84 = .ok (.iload 6, 2) := by decide +kernel
theorem dX6_search_86 : decode cX6_search 86 = .ok (.invokevirtual 75, 3) := by decide +kernel
theorem dX6_search_89 : decode cX6_search 89 = .ok (.ifCond .eq 10, 3) := by decide +kernel
theorem dX6_search_92 : decode cX6_search 92 = .ok (.aload 5, 2) := by decide +kernel
theorem dX6_search_94 : decode cX6_search 94 = .ok (.iload 6, 2) := by decide +kernel
theorem dX6_search_96 : decode cX6_search 96 = .ok (.invokevirtual 79, 3) := by decide +kernel
theorem dX6_search_99 : decode cX6_search 99 = .ok (.iinc 6 1, 3) := by decide +kernel
theorem dX6_search_102 : decode cX6_search 102 = .ok (.goto (-39), 3) := by decide +kernel
theorem dX6_search_105 : decode cX6_search 105 = .ok (.aload 5, 2) := by decide +kernel
theorem dX6_search_107 : decode cX6_search 107 = .ok (.invokevirtual 82, 3) := by decide +kernel
theorem dX6_search_110 : decode cX6_search 110 = .ok (.ifCond .ne 13, 3) := by decide +kernel
theorem dX6_search_113 : decode cX6_search 113 = .ok (.aload 4, 2) := by decide +kernel
theorem dX6_search_115 : decode cX6_search 115 = .ok (.bipush 108, 2) := by decide +kernel
theorem dX6_search_117 : decode cX6_search 117 = .ok (.invokevirtual 59, 3) := by decide +kernel
theorem dX6_search_120 : decode cX6_search 120 = .ok (.goto 8, 3) := by decide +kernel
theorem dX6_search_123 : decode cX6_search 123 = .ok (.aload 5, 2) := by decide +kernel
theorem dX6_search_125 : decode cX6_search 125 = .ok (.invokevirtual 82, 3) := by decide +kernel
theorem dX6_search_128 : decode cX6_search 128 = .ok (.ireturn, 1) := by decide +kernel
theorem dX6_size_0 : decode cX6_size 0 = .ok (.aload_n 0, 1) := by decide +kernel
theorem dX6_size_1 : decode cX6_size 1 = .ok (.iload_n 1, 1) := by decide +kernel
theorem dX6_size_2 : decode cX6_size 2 = .ok (.invokevirtual 51, 3) := by decide +kernel
theorem dX6_size_5 : decode cX6_size 5 = .ok (.astore_n 3, 1) := by decide +kernel
theorem dX6_size_6 : decode cX6_size 6 = .ok (.aload_n 3, 1) := by decide +kernel
theorem dX6_size_7 : decode cX6_size 7 = .ok (.ifnonnull 6, 3) := by decide +kernel
theorem dX6_size_10 : decode cX6_size 10 = .ok (.bipush (-101), 2) := by decide +kernel
theorem dX6_size_12 : decode cX6_size 12 = .ok (.ireturn, 1) := by decide +kernel
theorem dX6_size_13 : decode cX6_size 13 = .ok (.aload_n 3, 1) := by decide +kernel
theorem dX6_size_14 : decode cX6_size 14 = .ok (.iload_n 2, 1) := by decide +kernel
theorem dX6_size_15 : decode cX6_size 15 = .ok (.invokevirtual 83, 3) := by decide +kernel
theorem dX6_size_18 : decode cX6_size 18 = .ok (.astore 4, 2) := by decide +kernel
theorem dX6_size_20 : decode cX6_size 20 = .ok (.aload 4, 2) := by decide +kernel
theorem dX6_size_22 : decode cX6_size 22 = .ok (.ifnonnull 8, 3) := by decide +kernel
theorem dX6_size_25 : decode cX6_size 25 = .ok (.bipush (-104), 2) := by decide +kernel
theorem dX6_size_27 : decode cX6_size 27 = .ok (.goto 8, 3) := by decide +kernel
theorem dX6_size_30 : decode cX6_size 30 = .ok (.aload 4, 2) := by decide +kernel
theorem dX6_size_32 : decode cX6_size 32 = .ok (.invokevirtual 82, 3) := by decide +kernel
theorem dX6_size_35 : decode cX6_size 35 = .ok (.ireturn, 1) := by decide +kernel
theorem dX6_present_0 : decode cX6_present 0 = .ok (.aload_n 0, 1) := by decide +kernel
theorem dX6_present_1 : decode cX6_present 1 = .ok (.iload_n 1, 1) := by decide +kernel
theorem dX6_present_2 : decode cX6_present 2 = .ok (.invokevirtual 51, 3) := by decide +kernel
theorem dX6_present_5 : decode cX6_present 5 = .ok (.astore 5, 2) := by decide +kernel
theorem dX6_present_7 : decode cX6_present 7 = .ok (.aload 5, 2) := by decide +kernel
theorem dX6_present_9 : decode cX6_present 9 = .ok (.ifnonnull 6, 3) := by decide +kernel
theorem dX6_present_12 : decode cX6_present 12 = .ok (.bipush (-101), 2) := by decide +kernel
theorem dX6_present_14 : decode cX6_present 14 = .ok (.ireturn, 1) := by decide +kernel
theorem dX6_present_15 : decode cX6_present 15 = .ok (.aload 5, 2) := by decide +kernel
theorem dX6_present_17 : decode cX6_present 17 = .ok (.iload_n 2, 1) := by decide +kernel
theorem dX6_present_18 : decode cX6_present 18 = .ok (.invokevirtual 83, 3) := by decide +kernel
theorem dX6_present_21 : decode cX6_present 21 = .ok (.astore 6, 2) := by decide +kernel
theorem dX6_present_23 : decode cX6_present 23 = .ok (.aload 6, 2) := by decide +kernel
theorem dX6_present_25 : decode cX6_present 25 = .ok (.ifnonnull 11, 3) := by decide +kernel
theorem dX6_present_28 : decode cX6_present 28 = .ok (.aload 5, 2) := by decide +kernel
theorem dX6_present_30 : decode cX6_present 30 = .ok (.bipush 104, 2) := by decide +kernel
theorem dX6_present_32 : decode cX6_present 32 = .ok (.invokevirtual 59, 3) := by decide +kernel
theorem dX6_present_35 : decode cX6_present 35 = .ok (.ireturn, 1) := by decide +kernel
theorem dX6_present_36 : decode cX6_present 36 = .ok (.iload 4, 2) := by decide +kernel
theorem dX6_present_38 : decode cX6_present 38 = .ok (.iconst 1, 1) := by decide +kernel
theorem dX6_present_39 : decode cX6_present 39 = .ok (.if_icmp .ge 11, 3) := by decide +kernel
theorem dX6_present_42 : decode cX6_present 42 = .ok (.aload 5, 2) := by decide +kernel
theorem dX6_present_44 : decode cX6_present 44 = .ok (.bipush 107, 2) := by decide +kernel
theorem dX6_present_46 : decode cX6_present 46 = .ok (.invokevirtual 59, 3) := by decide +kernel
theorem dX6_present_49 : decode cX6_present 49 = .ok (.ireturn, 1) := by decide +kernel
theorem dX6_present_50 : decode cX6_present 50 = .ok (.iload_n 3, 1) := by decide +kernel
theorem dX6_present_51 : decode cX6_present 51 = .ok (.ifCond .lt 15, 3) := by decide +kernel
theorem dX6_present_54 : decode cX6_present 54 = .ok (.iload_n 3, 1) := by decide +kernel
theorem dX6_present_55 : decode cX6_present 55 = .ok (.aload 6, 2) := by decide +kernel
theorem dX6_present_57 : decode cX6_present 57 = .ok (.invokevirtual 82, 3) := by decide +kernel
theorem dX6_present_60 : decode cX6_present 60 = .ok (.iload 4, 2) := by decide +kernel
theorem dX6_present_62 : decode cX6_present 62 = .ok (.isub, 1) := by decide +kernel
theorem dX6_present_63 : decode cX6_present 63 = .ok (.if_icmp .le 11, 3) := by decide +kernel
theorem dX6_present_66 : decode cX6_present 66 = .ok (.aload 5, 2) := by decide +kernel
theorem dX6_present_68 : decode cX6_present 68 = .ok (.bipush 105, 2) := by decide +kernel
theorem dX6_present_70 : decode cX6_present 70 = .ok (.invokevirtual 59, 3) := by decide +kernel
theorem dX6_present_73 : decode cX6_present 73 = .ok (.ireturn, 1) := by decide +kernel
theorem dX6_present_74 : decode cX6_present 74 = .ok (.aload 5, 2) := by decide +kernel
theorem dX6_present_76 : decode cX6_present 76 = .ok (.invokevirtual 86, 3) := by decide +kernel
theorem dX6_present_79 : decode cX6_present 79 = .ok (.astore 7, 2) := by decide +kernel
theorem dX6_present_81 : decode cX6_present 81 = .ok (.aload 7, 2) := by decide +kernel
theorem dX6_present_83 : decode cX6_present 83 = .ok (.invokevirtual 90, 3) := by decide +kernel
theorem dX6_present_86 : decode cX6_present 86 = .ok (.iconst 0, 1) := by decide +kernel
theorem dX6_present_87 : decode cX6_present 87 = .ok (.istore 8, 2) := by decide +kernel
theorem dX6_present_89 : decode cX6_present 89 = .ok (.iload 8, 2) := by decide +kernel
theorem dX6_present_91 : decode cX6_present 91 = .ok (.iload 4, 2) := by decide +kernel
theorem dX6_present_93 : decode cX6_present 93 = .ok (.if_icmp .ge 36, 3) := by decide +kernel
theorem dX6_present_96 : decode cX6_present 96 = .ok (.aload 6, 2) := by decide +kernel
theorem dX6_present_98 : decode cX6_present 98 = .ok (.iload_n 3, 1) := by decide +kernel
theorem dX6_present_99 : decode cX6_present 99 = .ok (.iload 8, 2) := by decide +kernel
theorem dX6_present_101 : decode cX6_present 101 = .ok (.iadd, 1) := by decide +kernel
theorem dX6_present_102 : decode cX6_present 102 = .ok (.invokevirtual 95, 3) := by decide +kernel
theorem dX6_present_105 : decode cX6_present 105 = .ok (.istore 9, 2) := by decide +kernel
theorem dX6_present_107 : decode cX6_present 107 = .ok (.aload 7, 2) := by decide +kernel
theorem dX6_present_109 : decode cX6_present 109 = .ok (.iload 9, 2) := by decide +kernel
theorem dX6_present_111 : decode cX6_present 111 = .ok (.aload_n 0, 1) := by decide +kernel
theorem dX6_present_112 : decode cX6_present 112 = .ok (.getfield 10, 3) := by decide +kernel
theorem dX6_present_115 : decode cX6_present 115 = .ok (.iload 9, 2) := by decide +kernel
theorem dX6_present_117 : decode cX6_present 117 = .ok (.invokevirtual 98, 3) := by decide +kernel
theorem dX6_present_120 : decode cX6_present 120 = .ok (.invokevirtual 101, 3) := by decide +kernel
theorem dX6_present_123 : decode cX6_present 123 = .ok (.iinc 8 1, 3) := by decide +kernel
theorem dX6_present_126 : decode cX6_present 126 = .ok (.goto (-37), 3) := by decide +kernel
theorem dX6_present_129 : decode cX6_present 129 = .ok (.aload 7, 2) := by decide +kernel
theorem dX6_present_131 : decode cX6_present 131 = .ok (.invokevirtual 103, 3) := by decide +kernel
theorem dX6_present_134 : decode cX6_present 134 = .ok (.ireturn, 1) := by decide +kernel
theorem dX6_segment_0 : decode cX6_segment 0 = .ok (.aload_n 0, 1) := by decide +kernel
theorem dX6_segment_1 : decode cX6_segment 1 = .ok (.iload_n 1, 1) := by decide +kernel
theorem dX6_segment_2 : decode cX6_segment 2 = .ok (.invokevirtual 106, 3) := by decide +kernel
theorem dX6_segment_5 : decode cX6_segment 5 = .ok (.astore 4, 2) := by decide +kernel
theorem dX6_segment_7 : decode cX6_segment 7 = .ok (.aload 4, 2) := by decide +kernel
theorem dX6_segment_9 : decode cX6_segment 9 = .ok (.ifnonnull 7, 3) := by decide +kernel
theorem dX6_segment_12 : decode cX6_segment 12 = .ok (.iconst (-1), 1) := by decide +kernel
theorem dX6_segment_13 : decode cX6_segment 13 = .ok (.goto 13, 3) := by decide +kernel
theorem dX6_segment_16 : decode cX6_segment 16 = .ok (.aload 4, 2) := by decide +kernel
theorem dX6_segment_18 : decode cX6_segment 18 = .ok (.invokevirtual 86, 3) := by decide +kernel
theorem dX6_segment_21 : decode cX6_segment 21 = .ok (.iload_n 2, 1) := by decide +kernel
theorem dX6_segment_22 : decode cX6_segment 22 = .ok (.iload_n 3, 1) := by decide +kernel
theorem dX6_segment_23 : decode cX6_segment 23 = .ok (.invokevirtual 109, 3) := by decide +kernel
theorem dX6_segment_26 : decode cX6_segment 26 = .ok (.ireturn, 1) := by decide +kernel
theorem dX6_at_0 : decode cX6_at 0 = .ok (.aload_n 0, 1) := by decide +kernel
theorem dX6_at_1 : decode cX6_at 1 = .ok (.iload_n 1, 1) := by decide +kernel
theorem dX6_at_2 : decode cX6_at 2 = .ok (.invokevirtual 106, 3) := by decide +kernel
theorem dX6_at_5 : decode cX6_at 5 = .ok (.astore_n 3, 1) := by decide +kernel
theorem dX6_at_6 : decode cX6_at 6 = .ok (.aload_n 3, 1) := by decide +kernel
theorem dX6_at_7 : decode cX6_at 7 = .ok (.ifnonnull 7, 3) := by decide +kernel
theorem dX6_at_10 : decode cX6_at 10 = .ok (.iconst (-1), 1) := by decide +kernel
theorem dX6_at_11 : decode cX6_at 11 = .ok (.goto 11, 3) := by decide +kernel
theorem dX6_at_14 : decode cX6_at 14 = .ok (.aload_n 3, 1) := by decide +kernel
theorem dX6_at_15 : decode cX6_at 15 = .ok (.invokevirtual 86, 3) := by decide +kernel
theorem dX6_at_18 : decode cX6_at 18 = .ok (.iload_n 2, 1) := by decide +kernel
theorem dX6_at_19 : decode cX6_at 19 = .ok (.invokevirtual 113, 3) := by decide +kernel
theorem dX6_at_22 : decode cX6_at 22 = .ok (.ireturn, 1) := by decide +kernel
theorem dX6_sort_0 : decode cX6_sort 0 = .ok (.aload_n 0, 1) := by decide +kernel
theorem dX6_sort_1 : decode cX6_sort 1 = .ok (.iload_n 1, 1) := by decide +kernel
theorem dX6_sort_2 : decode cX6_sort 2 = .ok (.invokevirtual 51, 3) := by decide +kernel
theorem dX6_sort_5 : decode cX6_sort 5 = .ok (.astore 5, 2) := by decide +kernel
theorem dX6_sort_7 : decode cX6_sort 7 = .ok (.aload 5, 2) := by decide +kernel
theorem dX6_sort_9 : decode cX6_sort 9 = .ok (.ifnonnull 6, 3) := by decide +kernel
theorem dX6_sort_12 : decode cX6_sort 12 = .ok (.bipush (-101), 2) := by decide +kernel
theorem dX6_sort_14 : decode cX6_sort 14 = .ok (.ireturn, 1) := by decide +kernel
theorem dX6_sort_15 : decode cX6_sort 15 = .ok (.aload 5, 2) := by decide +kernel
theorem dX6_sort_17 : decode cX6_sort 17 = .ok (.iconst 1, 1) := by decide +kernel
theorem dX6_sort_18 : decode cX6_sort 18 = .ok (.invokevirtual 114, 3) := by decide +kernel
theorem dX6_sort_21 : decode cX6_sort 21 = .ok (.ifCond .ne 11, 3) := by decide +kernel
theorem dX6_sort_24 : decode cX6_sort 24 = .ok (.aload 5, 2) := by decide +kernel
theorem dX6_sort_26 : decode cX6_sort 26 = .ok (.bipush 102, 2) := by decide +kernel
theorem dX6_sort_28 : decode cX6_sort 28 = .ok (.invokevirtual 59, 3) := by decide +kernel
theorem dX6_sort_31 : decode cX6_sort 31 = .ok (.ireturn, 1) := by decide +kernel
theorem dX6_sort_32 : decode cX6_sort 32 = .ok (.aload 5, 2) := by decide +kernel
theorem dX6_sort_34 : decode cX6_sort 34 = .ok (.iload_n 2, 1) := by decide +kernel
theorem dX6_sort_35 : decode cX6_sort 35 = .ok (.invokevirtual 83, 3) := by decide +kernel
theorem dX6_sort_38 : decode cX6_sort 38 = .ok (.astore 6, 2) := by decide +kernel
theorem dX6_sort_40 : decode cX6_sort 40 = .ok (.aload 6, 2) := by decide +kernel
theorem dX6_sort_42 : decode cX6_sort 42 = .ok (.ifnonnull 11, 3) := by decide +kernel
theorem dX6_sort_45 : decode cX6_sort 45 = .ok (.aload 5, 2) := by decide +kernel
theorem dX6_sort_47 : decode cX6_sort 47 = .ok (.bipush 104, 2) := by decide +kernel
theorem dX6_sort_49 : decode cX6_sort 49 = .ok (.invokevirtual 59, 3) := by decide +kernel
theorem dX6_sort_52 : decode cX6_sort 52 = .ok (.ireturn, 1) := by decide +kernel
theorem dX6_sort_53 : decode cX6_sort 53 = .ok (.iload_n 3, 1) := by decide +kernel
theorem dX6_sort_54 : decode cX6_sort 54 = .ok (.invokestatic 117, 3) := by decide +kernel
theorem dX6_sort_57 : decode cX6_sort 57 = .ok (.ifCond .ne 11, 3) := by decide +kernel
theorem dX6_sort_60 : decode cX6_sort 60 = .ok (.aload 5, 2) := by decide +kernel
theorem dX6_sort_62 : decode cX6_sort 62 = .ok (.bipush 106, 2) := by decide +kernel
theorem dX6_sort_64 : decode cX6_sort 64 = .ok (.invokevirtual 59, 3) := by decide +kernel
theorem dX6_sort_67 : decode cX6_sort 67 = .ok (.ireturn, 1) := by decide +kernel
theorem dX6_sort_68 : decode cX6_sort 68 = .ok (.aload 6, 2) := by decide +kernel
theorem dX6_sort_70 : decode cX6_sort 70 = .ok (.aload_n 0, 1) := by decide +kernel
theorem dX6_sort_71 : decode cX6_sort 71 = .ok (.getfield 10, 3) := by decide +kernel
theorem dX6_sort_74 : decode cX6_sort 74 = .ok (.iload_n 3, 1) := by decide +kernel
theorem dX6_sort_75 : decode cX6_sort 75 = .ok (.iload 4, 2) := by decide +kernel
theorem dX6_sort_77 : decode cX6_sort 77 = .ok (.invokevirtual 120, 3) := by decide +kernel
theorem dX6_sort_80 : decode cX6_sort 80 = .ok (.aload 6, 2) := by decide +kernel
theorem dX6_sort_82 : decode cX6_sort 82 = .ok (.aload_n 0, 1) := by decide +kernel
theorem dX6_sort_83 : decode cX6_sort 83 = .ok (.getfield 10, 3) := by decide +kernel
theorem dX6_sort_86 : decode cX6_sort 86 = .ok (.iload_n 3, 1) := by decide +kernel
theorem dX6_sort_87 : decode cX6_sort 87 = .ok (.invokevirtual 124, 3) := by decide +kernel
theorem dX6_sort_90 : decode cX6_sort 90 = .ok (.ireturn, 1) := by decide +kernel
theorem dX6_scan_0 : decode cX6_scan 0 = .ok (.aload_n 0, 1) := by decide +kernel
theorem dX6_scan_1 : decode cX6_scan 1 = .ok (.iload_n 1, 1) := by decide +kernel
theorem dX6_scan_2 : decode cX6_scan 2 = .ok (.invokevirtual 51, 3) := by decide +kernel
theorem dX6_scan_5 : decode cX6_scan 5 = .ok (.astore 6, 2) := by decide +kernel
theorem dX6_scan_7 : decode cX6_scan 7 = .ok (.aload 6, 2) := by decide +kernel
theorem dX6_scan_9 : decode cX6_scan 9 = .ok (.ifnonnull 6, 3) := by decide +kernel
theorem dX6_scan_12 : decode cX6_scan 12 = .ok (.bipush (-101), 2) := by decide +kernel
theorem dX6_scan_14 : decode cX6_scan 14 = .ok (.ireturn, 1) := by decide +kernel
theorem dX6_scan_15 : decode cX6_scan 15 = .ok (.aload 6, 2) := by decide +kernel
theorem dX6_scan_17 : decode cX6_scan 17 = .ok (.iconst 2, 1) := by decide +kernel
theorem dX6_scan_18 : decode cX6_scan 18 = .ok (.invokevirtual 114, 3) := by decide +kernel
theorem dX6_scan_21 : decode cX6_scan 21 = .ok (.ifCond .ne 11, 3) := by decide +kernel
theorem dX6_scan_24 : decode cX6_scan 24 = .ok (.aload 6, 2) := by decide +kernel
theorem dX6_scan_26 : decode cX6_scan 26 = .ok (.bipush 102, 2) := by decide +kernel
theorem dX6_scan_28 : decode cX6_scan 28 = .ok (.invokevirtual 59, 3) := by decide +kernel
theorem dX6_scan_31 : decode cX6_scan 31 = .ok (.ireturn, 1) := by decide +kernel
theorem dX6_scan_32 : decode cX6_scan 32 = .ok (.iload_n 2, 1) := by decide +kernel
theorem dX6_scan_33 : decode cX6_scan 33 = .ok (.invokestatic 117, 3) := by decide +kernel
theorem dX6_scan_36 : decode cX6_scan 36 = .ok (.ifCond .ne 11, 3) := by decide +kernel
theorem dX6_scan_39 : decode cX6_scan 39 = .ok (.aload 6, 2) := by decide +kernel
theorem dX6_scan_41 : decode cX6_scan 41 = .ok (.bipush 106, 2) := by decide +kernel
theorem dX6_scan_43 : decode cX6_scan 43 = .ok (.invokevirtual 59, 3) := by decide +kernel
theorem dX6_scan_46 : decode cX6_scan 46 = .ok (.ireturn, 1) := by decide +kernel
theorem dX6_scan_47 : decode cX6_scan 47 = .ok (.iload_n 3, 1) := by decide +kernel
theorem dX6_scan_48 : decode cX6_scan 48 = .ok (.invokestatic 128, 3) := by decide +kernel
theorem dX6_scan_51 : decode cX6_scan 51 = .ok (.ifCond .eq 28, 3) := by decide +kernel
theorem dX6_scan_54 : decode cX6_scan 54 = .ok (.iload 4, 2) := by decide +kernel
theorem dX6_scan_56 : decode cX6_scan 56 = .ok (.iconst 1, 1) := by decide +kernel
theorem dX6_scan_57 : decode cX6_scan 57 = .ok (.if_icmp .lt 22, 3) := by decide +kernel
theorem dX6_scan_60 : decode cX6_scan 60 = .ok (.iload 4, 2) := by decide +kernel
theorem dX6_scan_62 : decode cX6_scan 62 = .ok (.bipush 20, 2) := by decide +kernel
theorem dX6_scan_64 : decode cX6_scan 64 = .ok (.if_icmp .gt 15, 3) := by decide +kernel
theorem dX6_scan_67 : decode cX6_scan 67 = .ok (.iload 5, 2) := by decide +kernel
theorem dX6_scan_69 : decode cX6_scan 69 = .ok (.ifCond .lt 10, 3) := by decide +kernel
theorem dX6_scan_72 : decode cX6_scan 72 = .ok (.iload 5, 2) := by decide +kernel
theorem dX6_scan_74 : decode cX6_scan 74 = .ok (.bipush 9, 2) := by decide +kernel
theorem dX6_scan_76 : decode cX6_scan 76 = .ok (.if_icmp .le 11, 3) := by decide +kernel
theorem dX6_scan_79 : decode cX6_scan 79 = .ok (.aload 6, 2) := by decide +kernel
theorem dX6_scan_81 : decode cX6_scan 81 = .ok (.bipush 107, 2) := by decide +kernel
theorem dX6_scan_83 : decode cX6_scan 83 = .ok (.invokevirtual 59, 3) := by decide +kernel
theorem dX6_scan_86 : decode cX6_scan 86 = .ok (.ireturn, 1) := by decide +kernel
theorem dX6_scan_87 : decode cX6_scan 87 = .ok (.aload_n 0, 1) := by decide +kernel
theorem dX6_scan_88 : decode cX6_scan 88 = .ok (.getfield 10, 3) := by decide +kernel
theorem dX6_scan_91 : decode cX6_scan 91 = .ok (.iload_n 2, 1) := by decide +kernel
theorem dX6_scan_92 : decode cX6_scan 92 = .ok (.iconst 0, 1) := by decide +kernel
theorem dX6_scan_93 : decode cX6_scan 93 = .ok (.invokevirtual 131, 3) := by decide +kernel
theorem dX6_scan_96 : decode cX6_scan 96 = .ok (.iconst (-1), 1) := by decide +kernel
theorem dX6_scan_97 : decode cX6_scan 97 = .ok (.if_icmp .ne 11, 3) := by decide +kernel
theorem dX6_scan_100 : decode cX6_scan 100 = .ok (.aload 6, 2) := by decide +kernel
theorem dX6_scan_102 : decode cX6_scan 102 = .ok (.bipush 108, 2) := by decide +kernel
theorem dX6_scan_104 : decode cX6_scan 104 = .ok (.invokevirtual 59, 3) := by decide +kernel
theorem dX6_scan_107 : decode cX6_scan 107 = .ok (.ireturn, 1) := by decide +kernel
theorem dX6_scan_108 : decode cX6_scan 108 = .ok (.aload 6, 2) := by decide +kernel
theorem dX6_scan_110 : decode cX6_scan 110 = .ok (.invokevirtual 134, 3) := by decide +kernel
theorem dX6_scan_113 : decode cX6_scan 113 = .ok (.aload_n 0, 1) := by decide +kernel
theorem dX6_scan_114 : decode cX6_scan 114 = .ok (.getfield 10, 3) := by decide +kernel
theorem dX6_scan_117 : decode cX6_scan 117 = .ok (.iload_n 2, 1) := by decide +kernel
theorem dX6_scan_118 : decode cX6_scan 118 = .ok (.aload_n 0, 1) := by decide +kernel
theorem dX6_scan_119 : decode cX6_scan 119 = .ok (.iload_n 2, 1) := by decide +kernel
theorem dX6_scan_120 : decode cX6_scan 120 = .ok (.iload_n 3, 1) := by decide +kernel
theorem dX6_scan_121 : decode cX6_scan 121 = .ok (.iload 5, 2) := by decide +kernel
theorem dX6_scan_123 : decode cX6_scan 123 = .ok (.invokevirtual 138, 3) := by decide +kernel
theorem dX6_scan_126 : decode cX6_scan 126 = .ok (.iload 4, 2) := by decide +kernel
theorem dX6_scan_128 : decode cX6_scan 128 = .ok (.invokevirtual 141, 3) := by decide +kernel
theorem dX6_scan_131 : decode cX6_scan 131 = .ok (.ireturn, 1) := by decide +kernel
theorem dX6_scanned_0 : decode cX6_scanned 0 = .ok (.aload_n 0, 1) := by decide +kernel
theorem dX6_scanned_1 : decode cX6_scanned 1 = .ok (.iload_n 1, 1) := by decide +kernel
theorem dX6_scanned_2 : decode cX6_scanned 2 = .ok (.invokevirtual 106, 3) := by decide +kernel
theorem dX6_scanned_5 : decode cX6_scanned 5 = .ok (.astore 4, 2) := by decide +kernel
theorem dX6_scanned_7 : decode cX6_scanned 7 = .ok (.aload 4, 2) := by decide +kernel
theorem dX6_scanned_9 : decode cX6_scanned 9 = .ok (.ifnull 15, 3) := by decide +kernel
theorem dX6_scanned_12 : decode cX6_scanned 12 = .ok (.aload 4, 2) := by decide +kernel
theorem dX6_scanned_14 : decode cX6_scanned 14 = .ok (.invokevirtual 134, 3) := by decide +kernel
theorem dX6_scanned_17 : decode cX6_scanned 17 = .ok (.iload_n 2, 1) := by decide +kernel
theorem dX6_scanned_18 : decode cX6_scanned 18 = .ok (.invokevirtual 147, 3) := by decide +kernel
theorem dX6_scanned_21 : decode cX6_scanned 21 = .ok (.ifCond .ne 13, 3) := by decide +kernel
theorem dX6_scanned_24 : decode cX6_scanned 24 = .ok (.new 148, 3) := by decide +kernel
theorem dX6_scanned_27 : decode cX6_scanned 27 = .ok (.dup, 1) := by decide +kernel
theorem dX6_scanned_28 : decode cX6_scanned 28 = .ok (.ldc 150, 2) := by decide +kernel
theorem dX6_scanned_30 : decode cX6_scanned 30 = .ok (.invokespecial 152, 3) := by decide +kernel
theorem dX6_scanned_33 : decode cX6_scanned 33 = .ok (.athrow, 1) := by decide +kernel
theorem dX6_scanned_34 : decode cX6_scanned 34 = .ok (.aload 4, 2) := by decide +kernel
theorem dX6_scanned_36 : decode cX6_scanned 36 = .ok (.invokevirtual 134, 3) := by decide +kernel
theorem dX6_scanned_39 : decode cX6_scanned 39 = .ok (.iload_n 2, 1) := by decide +kernel
theorem dX6_scanned_40 : decode cX6_scanned 40 = .ok (.iload_n 3, 1) := by decide +kernel
theorem dX6_scanned_41 : decode cX6_scanned 41 = .ok (.invokevirtual 155, 3) := by decide +kernel
theorem dX6_scanned_44 : decode cX6_scanned 44 = .ok (.ireturn, 1) := by decide +kernel
theorem dX6_drop_0 : decode cX6_drop 0 = .ok (.aload_n 0, 1) := by decide +kernel
theorem dX6_drop_1 : decode cX6_drop 1 = .ok (.iload_n 1, 1) := by decide +kernel
theorem dX6_drop_2 : decode cX6_drop 2 = .ok (.invokevirtual 51, 3) := by decide +kernel
theorem dX6_drop_5 : decode cX6_drop 5 = .ok (.astore_n 3, 1) := by decide +kernel
theorem dX6_drop_6 : decode cX6_drop 6 = .ok (.aload_n 3, 1) := by decide +kernel
theorem dX6_drop_7 : decode cX6_drop 7 = .ok (.ifnonnull 6, 3) := by decide +kernel
theorem dX6_drop_10 : decode cX6_drop 10 = .ok (.bipush (-101), 2) := by decide +kernel
theorem dX6_drop_12 : decode cX6_drop 12 = .ok (.ireturn, 1) := by decide +kernel
theorem dX6_drop_13 : decode cX6_drop 13 = .ok (.aload_n 3, 1) := by decide +kernel
theorem dX6_drop_14 : decode cX6_drop 14 = .ok (.iload_n 2, 1) := by decide +kernel
theorem dX6_drop_15 : decode cX6_drop 15 = .ok (.invokevirtual 83, 3) := by decide +kernel
theorem dX6_drop_18 : decode cX6_drop 18 = .ok (.astore 4, 2) := by decide +kernel
theorem dX6_drop_20 : decode cX6_drop 20 = .ok (.aload 4, 2) := by decide +kernel
theorem dX6_drop_22 : decode cX6_drop 22 = .ok (.ifnonnull 10, 3) := by decide +kernel
theorem dX6_drop_25 : decode cX6_drop 25 = .ok (.aload_n 3, 1) := by decide +kernel
theorem dX6_drop_26 : decode cX6_drop 26 = .ok (.bipush 104, 2) := by decide +kernel
theorem dX6_drop_28 : decode cX6_drop 28 = .ok (.invokevirtual 59, 3) := by decide +kernel
theorem dX6_drop_31 : decode cX6_drop 31 = .ok (.ireturn, 1) := by decide +kernel
theorem dX6_drop_32 : decode cX6_drop 32 = .ok (.aload 4, 2) := by decide +kernel
theorem dX6_drop_34 : decode cX6_drop 34 = .ok (.invokevirtual 158, 3) := by decide +kernel
theorem dX6_drop_37 : decode cX6_drop 37 = .ok (.iconst 1, 1) := by decide +kernel
theorem dX6_drop_38 : decode cX6_drop 38 = .ok (.ireturn, 1) := by decide +kernel
theorem dX6_close_0 : decode cX6_close 0 = .ok (.aload_n 0, 1) := by decide +kernel
theorem dX6_close_1 : decode cX6_close 1 = .ok (.iload_n 1, 1) := by decide +kernel
theorem dX6_close_2 : decode cX6_close 2 = .ok (.invokevirtual 51, 3) := by decide +kernel
theorem dX6_close_5 : decode cX6_close 5 = .ok (.astore_n 2, 1) := by decide +kernel
theorem dX6_close_6 : decode cX6_close 6 = .ok (.aload_n 2, 1) := by decide +kernel
theorem dX6_close_7 : decode cX6_close 7 = .ok (.ifnonnull 6, 3) := by decide +kernel
theorem dX6_close_10 : decode cX6_close 10 = .ok (.bipush (-101), 2) := by decide +kernel
theorem dX6_close_12 : decode cX6_close 12 = .ok (.ireturn, 1) := by decide +kernel
theorem dX6_close_13 : decode cX6_close 13 = .ok (.aload_n 2, 1) := by decide +kernel
theorem dX6_close_14 : decode cX6_close 14 = .ok (.invokevirtual 161, 3) := by decide +kernel
theorem dX6_close_17 : decode cX6_close 17 = .ok (.istore_n 3, 1) := by decide +kernel
theorem dX6_close_18 : decode cX6_close 18 = .ok (.aload_n 2, 1) := by decide +kernel
theorem dX6_close_19 : decode cX6_close 19 = .ok (.invokevirtual 164, 3) := by decide +kernel
theorem dX6_close_22 : decode cX6_close 22 = .ok (.iload_n 3, 1) := by decide +kernel
theorem dX6_close_23 : decode cX6_close 23 = .ok (.ireturn, 1) := by decide +kernel
theorem dX6_state_0 : decode cX6_state 0 = .ok (.iload_n 1, 1) := by decide +kernel
theorem dX6_state_1 : decode cX6_state 1 = .ok (.ifCond .lt 18, 3) := by decide +kernel
theorem dX6_state_4 : decode cX6_state 4 = .ok (.iload_n 1, 1) := by decide +kernel
theorem dX6_state_5 : decode cX6_state 5 = .ok (.bipush 8, 2) := by decide +kernel
theorem dX6_state_7 : decode cX6_state 7 = .ok (.if_icmp .ge 12, 3) := by decide +kernel
theorem dX6_state_10 : decode cX6_state 10 = .ok (.iload_n 2, 1) := by decide +kernel
theorem dX6_state_11 : decode cX6_state 11 = .ok (.ifCond .lt 8, 3) := by decide +kernel
theorem dX6_state_14 : decode cX6_state 14 = .ok (.iload_n 2, 1) := by decide +kernel
theorem dX6_state_15 : decode cX6_state 15 = .ok (.iconst 3, 1) := by decide +kernel
theorem dX6_state_16 : decode cX6_state 16 = .ok (.if_icmp .le 5, 3) := by decide +kernel
theorem dX6_state_19 : decode cX6_state 19 = .ok (.iconst (-1), 1) := by decide +kernel
theorem dX6_state_20 : decode cX6_state 20 = .ok (.ireturn, 1) := by decide +kernel
theorem dX6_state_21 : decode cX6_state 21 = .ok (.aload_n 0, 1) := by decide +kernel
theorem dX6_state_22 : decode cX6_state 22 = .ok (.iload_n 1, 1) := by decide +kernel
theorem dX6_state_23 : decode cX6_state 23 = .ok (.invokevirtual 106, 3) := by decide +kernel
theorem dX6_state_26 : decode cX6_state 26 = .ok (.astore_n 3, 1) := by decide +kernel
theorem dX6_state_27 : decode cX6_state 27 = .ok (.aload_n 3, 1) := by decide +kernel
theorem dX6_state_28 : decode cX6_state 28 = .ok (.ifnonnull 7, 3) := by decide +kernel
theorem dX6_state_31 : decode cX6_state 31 = .ok (.iconst 0, 1) := by decide +kernel
theorem dX6_state_32 : decode cX6_state 32 = .ok (.goto 8, 3) := by decide +kernel
theorem dX6_state_35 : decode cX6_state 35 = .ok (.aload_n 3, 1) := by decide +kernel
theorem dX6_state_36 : decode cX6_state 36 = .ok (.iload_n 2, 1) := by decide +kernel
theorem dX6_state_37 : decode cX6_state 37 = .ok (.invokevirtual 167, 3) := by decide +kernel
theorem dX6_state_40 : decode cX6_state 40 = .ok (.ireturn, 1) := by decide +kernel
theorem dX6_everOpened_0 : decode cX6_everOpened 0 = .ok (.iload_n 1, 1) := by decide +kernel
theorem dX6_everOpened_1 : decode cX6_everOpened 1 = .ok (.ifCond .lt 20, 3) := by decide +kernel
theorem dX6_everOpened_4 : decode cX6_everOpened 4 = .ok (.iload_n 1, 1) := by decide +kernel
theorem dX6_everOpened_5 : decode cX6_everOpened 5 = .ok (.aload_n 0, 1) := by decide +kernel
theorem dX6_everOpened_6 : decode cX6_everOpened 6 = .ok (.getfield 29, 3) := by decide +kernel
theorem dX6_everOpened_9 : decode cX6_everOpened 9 = .ok (.if_icmp .ge 12, 3) := by decide +kernel
theorem dX6_everOpened_12 : decode cX6_everOpened 12 = .ok (.aload_n 0, 1) := by decide +kernel
theorem dX6_everOpened_13 : decode cX6_everOpened 13 = .ok (.getfield 25, 3) := by decide +kernel
theorem dX6_everOpened_16 : decode cX6_everOpened 16 = .ok (.iload_n 1, 1) := by decide +kernel
theorem dX6_everOpened_17 : decode cX6_everOpened 17 = .ok (.aaload, 1) := by decide +kernel
theorem dX6_everOpened_18 : decode cX6_everOpened 18 = .ok (.goto 4, 3) := by decide +kernel
theorem dX6_everOpened_21 : decode cX6_everOpened 21 = .ok (.aconst_null, 1) := by decide +kernel
theorem dX6_everOpened_22 : decode cX6_everOpened 22 = .ok (.areturn, 1) := by decide +kernel
theorem dX6_openSession_0 : decode cX6_openSession 0 = .ok (.aload_n 0, 1) := by decide +kernel
theorem dX6_openSession_1 : decode cX6_openSession 1 = .ok (.iload_n 1, 1) := by decide +kernel
theorem dX6_openSession_2 : decode cX6_openSession 2 = .ok (.invokevirtual 106, 3) := by decide +kernel
theorem dX6_openSession_5 : decode cX6_openSession 5 = .ok (.astore_n 2, 1) := by decide +kernel
theorem dX6_openSession_6 : decode cX6_openSession 6 = .ok (.aload_n 2, 1) := by decide +kernel
theorem dX6_openSession_7 : decode cX6_openSession 7 = .ok (.ifnull 14, 3) := by decide +kernel
theorem dX6_openSession_10 : decode cX6_openSession 10 = .ok (.aload_n 2, 1) := by decide +kernel
theorem dX6_openSession_11 : decode cX6_openSession 11 = .ok (.invokevirtual 169, 3) := by decide +kernel
theorem dX6_openSession_14 : decode cX6_openSession 14 = .ok (.ifCond .eq 7, 3) := by decide +kernel
theorem dX6_openSession_17 : decode cX6_openSession 17 = .ok (.aload_n 2, 1) := by decide +kernel
theorem dX6_openSession_18 : decode cX6_openSession 18 = .ok (.goto 4, 3) := by decide +kernel
theorem dX6_openSession_21 : decode cX6_openSession 21 = .ok (.aconst_null, 1) := by decide +kernel
theorem dX6_openSession_22 : decode cX6_openSession 22 = .ok (.areturn, 1) := by decide +kernel
theorem dX6_stepBack_0 : decode cX6_stepBack 0 = .ok (.iload_n 2, 1) := by decide +kernel
theorem dX6_stepBack_1 : decode cX6_stepBack 1 = .ok (.istore 4, 2) := by decide +kernel
theorem dX6_stepBack_3 : decode cX6_stepBack 3 = .ok (.iconst 0, 1) := by decide +kernel
theorem dX6_stepBack_4 : decode cX6_stepBack 4 = .ok (.istore 5, 2) := by decide +kernel
theorem dX6_stepBack_6 : decode cX6_stepBack 6 = .ok (.iload 5, 2) := by decide +kernel
theorem dX6_stepBack_8 : decode cX6_stepBack 8 = .ok (.iload_n 3, 1) := by decide +kernel
theorem dX6_stepBack_9 : decode cX6_stepBack 9 = .ok (.if_icmp .ge 34, 3) := by decide +kernel
theorem dX6_stepBack_12 : decode cX6_stepBack 12 = .ok (.aload_n 0, 1) := by decide +kernel
theorem dX6_stepBack_13 : decode cX6_stepBack 13 = .ok (.getfield 10, 3) := by decide +kernel
theorem dX6_stepBack_16 : decode cX6_stepBack 16 = .ok (.iload_n 1, 1) := by decide +kernel
theorem dX6_stepBack_17 : decode cX6_stepBack 17 = .ok (.iload 4, 2) := by decide +kernel
theorem dX6_stepBack_19 : decode cX6_stepBack 19 = .ok (.invokevirtual 173, 3) := by decide +kernel
theorem dX6_stepBack_22 : decode cX6_stepBack 22 = .ok (.istore 6, 2) := by decide +kernel
theorem dX6_stepBack_24 : decode cX6_stepBack 24 = .ok (.iload 6, 2) := by decide +kernel
theorem dX6_stepBack_26 : decode cX6_stepBack 26 = .ok (.iconst (-1), 1) := by decide +kernel
theorem dX6_stepBack_27 : decode cX6_stepBack 27 = .ok (.if_icmp .ne 6, 3) := by decide +kernel
theorem dX6_stepBack_30 : decode cX6_stepBack 30 = .ok (.iload 4, 2) := by decide +kernel
theorem dX6_stepBack_32 : decode cX6_stepBack 32 = .ok (.ireturn, 1) := by decide +kernel
theorem dX6_stepBack_33 : decode cX6_stepBack 33 = .ok (.iload 6, 2) := by decide +kernel
theorem dX6_stepBack_35 : decode cX6_stepBack 35 = .ok (.istore 4, 2) := by decide +kernel
theorem dX6_stepBack_37 : decode cX6_stepBack 37 = .ok (.iinc 5 1, 3) := by decide +kernel
theorem dX6_stepBack_40 : decode cX6_stepBack 40 = .ok (.goto (-34), 3) := by decide +kernel
theorem dX6_stepBack_43 : decode cX6_stepBack 43 = .ok (.iload 4, 2) := by decide +kernel
theorem dX6_stepBack_45 : decode cX6_stepBack 45 = .ok (.ireturn, 1) := by decide +kernel
theorem dX6_isIndex_0 : decode cX6_isIndex 0 = .ok (.iload_n 0, 1) := by decide +kernel
theorem dX6_isIndex_1 : decode cX6_isIndex 1 = .ok (.ifCond .lt 12, 3) := by decide +kernel
theorem dX6_isIndex_4 : decode cX6_isIndex 4 = .ok (.iload_n 0, 1) := by decide +kernel
theorem dX6_isIndex_5 : decode cX6_isIndex 5 = .ok (.iconst 5, 1) := by decide +kernel
theorem dX6_isIndex_6 : decode cX6_isIndex 6 = .ok (.if_icmp .ge 7, 3) := by decide +kernel
theorem dX6_isIndex_9 : decode cX6_isIndex 9 = .ok (.iconst 1, 1) := by decide +kernel
theorem dX6_isIndex_10 : decode cX6_isIndex 10 = .ok (.goto 4, 3) := by decide +kernel
theorem dX6_isIndex_13 : decode cX6_isIndex 13 = .ok (.iconst 0, 1) := by decide +kernel
theorem dX6_isIndex_14 : decode cX6_isIndex 14 = .ok (.ireturn, 1) := by decide +kernel
theorem dX6_isTerm_0 : decode cX6_isTerm 0 = .ok (.iload_n 0, 1) := by decide +kernel
theorem dX6_isTerm_1 : decode cX6_isTerm 1 = .ok (.ifCond .lt 14, 3) := by decide +kernel
theorem dX6_isTerm_4 : decode cX6_isTerm 4 = .ok (.iload_n 0, 1) := by decide +kernel
theorem dX6_isTerm_5 : decode cX6_isTerm 5 = .ok (.sipush 999, 3) := by decide +kernel
theorem dX6_isTerm_8 : decode cX6_isTerm 8 = .ok (.if_icmp .gt 7, 3) := by decide +kernel
theorem dX6_isTerm_11 : decode cX6_isTerm 11 = .ok (.iconst 1, 1) := by decide +kernel
theorem dX6_isTerm_12 : decode cX6_isTerm 12 = .ok (.goto 4, 3) := by decide +kernel
theorem dX6_isTerm_15 : decode cX6_isTerm 15 = .ok (.iconst 0, 1) := by decide +kernel
theorem dX6_isTerm_16 : decode cX6_isTerm 16 = .ok (.ireturn, 1) := by decide +kernel
end
section
theorem dX7_init_0 : decode cX7_init 0 = .ok (.aload_n 0, 1) := by decide +kernel
theorem dX7_init_1 : decode cX7_init 1 = .ok (.invokespecial 1, 3) := by decide +kernel
theorem dX7_init_4 : decode cX7_init 4 = .ok (.aload_n 0, 1) := by decide +kernel
theorem dX7_init_5 : decode cX7_init 5 = .ok (.bipush 100, 2) := by decide +kernel
theorem dX7_init_7 : decode cX7_init 7 = .ok (.newarray .int, 2) := by decide +kernel
theorem dX7_init_9 : decode cX7_init 9 = .ok (.putfield 7, 3) := by decide +kernel
theorem dX7_init_12 : decode cX7_init 12 = .ok (.aload_n 0, 1) := by decide +kernel
theorem dX7_init_13 : decode cX7_init 13 = .ok (.sipush 500, 3) := by decide +kernel
theorem dX7_init_16 : decode cX7_init 16 = .ok (.newarray .int, 2) := by decide +kernel
theorem dX7_init_18 : decode cX7_init 18 = .ok (.putfield 13, 3) := by decide +kernel
theorem dX7_init_21 : decode cX7_init 21 = .ok (.aload_n 0, 1) := by decide +kernel
theorem dX7_init_22 : decode cX7_init 22 = .ok (.bipush 40, 2) := by decide +kernel
theorem dX7_init_24 : decode cX7_init 24 = .ok (.newarray .int, 2) := by decide +kernel
theorem dX7_init_26 : decode cX7_init 26 = .ok (.putfield 16, 3) := by decide +kernel
theorem dX7_init_29 : decode cX7_init 29 = .ok (.aload_n 0, 1) := by decide +kernel
theorem dX7_init_30 : decode cX7_init 30 = .ok (.bipush 40, 2) := by decide +kernel
theorem dX7_init_32 : decode cX7_init 32 = .ok (.newarray .int, 2) := by decide +kernel
theorem dX7_init_34 : decode cX7_init 34 = .ok (.putfield 19, 3) := by decide +kernel
theorem dX7_init_37 : decode cX7_init 37 = .ok (.aload_n 0, 1) := by decide +kernel
theorem dX7_init_38 : decode cX7_init 38 = .ok (.bipush 40, 2) := by decide +kernel
theorem dX7_init_40 : decode cX7_init 40 = .ok (.newarray .int, 2) := by decide +kernel
theorem dX7_init_42 : decode cX7_init 42 = .ok (.putfield 22, 3) := by decide +kernel
theorem dX7_init_45 : decode cX7_init 45 = .ok (.aload_n 0, 1) := by decide +kernel
theorem dX7_init_46 : decode cX7_init 46 = .ok (.bipush 40, 2) := by decide +kernel
theorem dX7_init_48 : decode cX7_init 48 = .ok (.newarray .int, 2) := by decide +kernel
theorem dX7_init_50 : decode cX7_init 50 = .ok (.putfield 25, 3) := by decide +kernel
theorem dX7_init_53 : decode cX7_init 53 = .ok (.aload_n 0, 1) := by decide +kernel
theorem dX7_init_54 : decode cX7_init 54 = .ok (.bipush 40, 2) := by decide +kernel
theorem dX7_init_56 : decode cX7_init 56 = .ok (.newarray .boolean, 2) := by decide +kernel
theorem dX7_init_58 : decode cX7_init 58 = .ok (.putfield 28, 3) := by decide +kernel
theorem dX7_init_61 : decode cX7_init 61 = .ok (.aload_n 0, 1) := by decide +kernel
theorem dX7_init_62 : decode cX7_init 62 = .ok (.bipush 8, 2) := by decide +kernel
theorem dX7_init_64 : decode cX7_init 64 = .ok (.newarray .int, 2) := by decide +kernel
theorem dX7_init_66 : decode cX7_init 66 = .ok (.putfield 32, 3) := by decide +kernel
theorem dX7_init_69 : decode cX7_init 69 = .ok (.aload_n 0, 1) := by decide +kernel
theorem dX7_init_70 : decode cX7_init 70 = .ok (.bipush 8, 2) := by decide +kernel
theorem dX7_init_72 : decode cX7_init 72 = .ok (.newarray .int, 2) := by decide +kernel
theorem dX7_init_74 : decode cX7_init 74 = .ok (.putfield 35, 3) := by decide +kernel
theorem dX7_init_77 : decode cX7_init 77 = .ok (.aload_n 0, 1) := by decide +kernel
theorem dX7_init_78 : decode cX7_init 78 = .ok (.bipush 8, 2) := by decide +kernel
theorem dX7_init_80 : decode cX7_init 80 = .ok (.newarray .boolean, 2) := by decide +kernel
theorem dX7_init_82 : decode cX7_init 82 = .ok (.putfield 38, 3) := by decide +kernel
theorem dX7_init_85 : decode cX7_init 85 = .ok (.aload_n 0, 1) := by decide +kernel
theorem dX7_init_86 : decode cX7_init 86 = .ok (.bipush 8, 2) := by decide +kernel
theorem dX7_init_88 : decode cX7_init 88 = .ok (.newarray .int, 2) := by decide +kernel
theorem dX7_init_90 : decode cX7_init 90 = .ok (.putfield 41, 3) := by decide +kernel
theorem dX7_init_93 : decode cX7_init 93 = .ok (.aload_n 0, 1) := by decide +kernel
theorem dX7_init_94 : decode cX7_init 94 = .ok (.bipush 8, 2) := by decide +kernel
theorem dX7_init_96 : decode cX7_init 96 = .ok (.newarray .int, 2) := by decide +kernel
theorem dX7_init_98 : decode cX7_init 98 = .ok (.putfield 44, 3) := by decide +kernel
theorem dX7_init_101 : decode cX7_init 101 = .ok (.aload_n 0, 1) := by decide +kernel
theorem dX7_init_102 : decode cX7_init 102 = .ok (.bipush 40, 2) := by decide +kernel
theorem dX7_init_104 : decode cX7_init 104 = .ok (.newarray .int, 2) := by decide +kernel
theorem dX7_init_106 : decode cX7_init 106 = .ok (.putfield 47, 3) := by decide +kernel
theorem dX7_init_109 : decode cX7_init 109 = .ok (.aload_n 0, 1) := by decide +kernel
theorem dX7_init_110 : decode cX7_init 110 = .ok (.sipush 4000, 3) := by decide +kernel
theorem dX7_init_113 : decode cX7_init 113 = .ok (.newarray .int, 2) := by decide +kernel
theorem dX7_init_115 : decode cX7_init 115 = .ok (.putfield 50, 3) := by decide +kernel
theorem dX7_init_118 : decode cX7_init 118 = .ok (.aload_n 0, 1) := by decide +kernel
theorem dX7_init_119 : decode cX7_init 119 = .ok (.bipush 8, 2) := by decide +kernel
theorem dX7_init_121 : decode cX7_init 121 = .ok (.newarray .int, 2) := by decide +kernel
theorem dX7_init_123 : decode cX7_init 123 = .ok (.putfield 53, 3) := by decide +kernel
theorem dX7_init_126 : decode cX7_init 126 = .ok (.aload_n 0, 1) := by decide +kernel
theorem dX7_init_127 : decode cX7_init 127 = .ok (.sipush 800, 3) := by decide +kernel
theorem dX7_init_130 : decode cX7_init 130 = .ok (.newarray .int, 2) := by decide +kernel
theorem dX7_init_132 : decode cX7_init 132 = .ok (.putfield 56, 3) := by decide +kernel
theorem dX7_init_135 : decode cX7_init 135 = .ok (.aload_n 0, 1) := by decide +kernel
theorem dX7_init_136 : decode cX7_init 136 = .ok (.bipush 8, 2) := by decide +kernel
theorem dX7_init_138 : decode cX7_init 138 = .ok (.newarray .int, 2) := by decide +kernel
theorem dX7_init_140 : decode cX7_init 140 = .ok (.putfield 59, 3) := by decide +kernel
theorem dX7_init_143 : decode cX7_init 143 = .ok (.aload_n 0, 1) := by decide +kernel
theorem dX7_init_144 : decode cX7_init 144 = .ok (.sipush 800, 3) := by decide +kernel
theorem dX7_init_147 : decode cX7_init 147 = .ok (.newarray .int, 2) := by decide +kernel
theorem dX7_init_149 : decode cX7_init 149 = .ok (.putfield 62, 3) := by decide +kernel
theorem dX7_init_152 : decode cX7_init 152 = .ok (.aload_n 0, 1) := by decide +kernel
theorem dX7_init_153 : decode cX7_init 153 = .ok (.sipush 800, 3) := by decide +kernel
theorem dX7_init_156 : decode cX7_init 156 = .ok (.newarray .int, 2) := by decide +kernel
theorem dX7_init_158 : decode cX7_init 158 = .ok (.putfield 65, 3) := by decide +kernel
theorem dX7_init_161 : decode cX7_init 161 = .ok (.aload_n 0, 1) := by decide +kernel
theorem dX7_init_162 : decode cX7_init 162 = .ok (.sipush 800, 3) := by decide +kernel
theorem dX7_init_165 : decode cX7_init 165 = .ok (.newarray .int, 2) := by decide +kernel
theorem dX7_init_167 : decode cX7_init 167 = .ok (.putfield 68, 3) := by decide +kernel
theorem dX7_init_170 : decode cX7_init 170 = .ok (.aload_n 0, 1) := by decide +kernel
theorem dX7_init_171 : decode cX7_init 171 = .ok (.bipush 8, 2) := by decide +kernel
theorem dX7_init_173 : decode cX7_init 173 = .ok (.newarray .int, 2) := by decide +kernel
theorem dX7_init_175 : decode cX7_init 175 = .ok (.putfield 71, 3) := by decide +kernel
theorem dX7_init_178 : decode cX7_init 178 = .ok (.aload_n 0, 1) := by decide +kernel
theorem dX7_init_179 : decode cX7_init 179 = .ok (.sipush 160, 3) := by decide +kernel
theorem dX7_init_182 : decode cX7_init 182 = .ok (.newarray .int, 2) := by decide +kernel
theorem dX7_init_184 : decode cX7_init 184 = .ok (.putfield 74, 3) := by decide +kernel
theorem dX7_init_187 : decode cX7_init 187 = .ok (.aload_n 0, 1) := by decide +kernel
theorem dX7_init_188 : decode cX7_init 188 = .ok (.sipush 160, 3) := by decide +kernel
theorem dX7_init_191 : decode cX7_init 191 = .ok (.newarray .int, 2) := by decide +kernel
theorem dX7_init_193 : decode cX7_init 193 = .ok (.putfield 77, 3) := by decide +kernel
theorem dX7_init_196 : decode cX7_init 196 = .ok (.aload_n 0, 1) := by decide +kernel
theorem dX7_init_197 : decode cX7_init 197 = .ok (.sipush 1000, 3) := by decide +kernel
theorem dX7_init_200 : decode cX7_init 200 = .ok (.newarray .int, 2) := by decide +kernel
theorem dX7_init_202 : decode cX7_init 202 = .ok (.putfield 80, 3) := by decide +kernel
theorem dX7_init_205 : decode cX7_init 205 = .ok (.iconst 0, 1) := by decide +kernel
theorem dX7_init_206 : decode cX7_init 206 = .ok (.istore_n 1, 1) := by decide +kernel
theorem dX7_init_207 : decode cX7_init 207 = .ok (.iload_n 1, 1) := by decide +kernel
theorem dX7_init_208 : decode cX7_init 208 = .ok (.bipush 40, 2) := by decide +kernel
theorem dX7_init_210 : decode cX7_init 210 = .ok (.if_icmp .ge 16, 3) := by decide +kernel
theorem dX7_init_213 : decode cX7_init 213 = .ok (.aload_n 0, 1) := by decide +kernel
theorem dX7_init_214 : decode cX7_init 214 = .ok (.getfield 47, 3) := by decide +kernel
theorem dX7_init_217 : decode cX7_init 217 = .ok (.iload_n 1, 1) := by decide +kernel
theorem dX7_init_218 : decode cX7_init 218 = .ok (.iconst (-1), 1) := by decide +kernel
theorem dX7_init_219 : decode cX7_init 219 = .ok (.iastore, 1) := by decide +kernel
theorem dX7_init_220 : decode cX7_init 220 = .ok (.iinc 1 1, 3) := by decide +kernel
theorem dX7_init_223 : decode cX7_init 223 = .ok (.goto (-16), 3) := by decide +kernel
theorem dX7_init_226 : decode cX7_init 226 = .ok (.return_, 1) := by decide +kernel
theorem dX7_thrown_0 : decode cX7_thrown 0 = .ok (.aload_n 0, 1) := by decide +kernel
theorem dX7_thrown_1 : decode cX7_thrown 1 = .ok (.getfield 83, 3) := by decide +kernel
theorem dX7_thrown_4 : decode cX7_thrown 4 = .ok (.ireturn, 1) := by decide +kernel
theorem dX7_in_0 : decode cX7_in 0 = .ok (.iload_n 0, 1) := by decide +kernel
theorem dX7_in_1 : decode cX7_in 1 = .ok (.iload_n 1, 1) := by decide +kernel
theorem dX7_in_2 : decode cX7_in 2 = .ok (.if_icmp .lt 12, 3) := by decide +kernel
theorem dX7_in_5 : decode cX7_in 5 = .ok (.iload_n 0, 1) := by decide +kernel
theorem dX7_in_6 : decode cX7_in 6 = .ok (.iload_n 2, 1) := by decide +kernel
theorem dX7_in_7 : decode cX7_in 7 = .ok (.if_icmp .gt 7, 3) := by decide +kernel
theorem dX7_in_10 : decode cX7_in 10 = .ok (.iconst 1, 1) := by decide +kernel
theorem dX7_in_11 : decode cX7_in 11 = .ok (.goto 4, 3) := by decide +kernel
theorem dX7_in_14 : decode cX7_in 14 = .ok (.iconst 0, 1) := by decide +kernel
theorem dX7_in_15 : decode cX7_in 15 = .ok (.ireturn, 1) := by decide +kernel
theorem dX7_isIndex_0 : decode cX7_isIndex 0 = .ok (.iload_n 0, 1) := by decide +kernel
theorem dX7_isIndex_1 : decode cX7_isIndex 1 = .ok (.iconst 0, 1) := by decide +kernel
theorem dX7_isIndex_2 : decode cX7_isIndex 2 = .ok (.iconst 4, 1) := by decide +kernel
theorem dX7_isIndex_3 : decode cX7_isIndex 3 = .ok (.invokestatic 87, 3) := by decide +kernel
theorem dX7_isIndex_6 : decode cX7_isIndex 6 = .ok (.ireturn, 1) := by decide +kernel
theorem dX7_isValue_0 : decode cX7_isValue 0 = .ok (.iload_n 0, 1) := by decide +kernel
theorem dX7_isValue_1 : decode cX7_isValue 1 = .ok (.iconst 0, 1) := by decide +kernel
theorem dX7_isValue_2 : decode cX7_isValue 2 = .ok (.sipush 999, 3) := by decide +kernel
theorem dX7_isValue_5 : decode cX7_isValue 5 = .ok (.invokestatic 87, 3) := by decide +kernel
theorem dX7_isValue_8 : decode cX7_isValue 8 = .ok (.ireturn, 1) := by decide +kernel
theorem dX7_record_0 : decode cX7_record 0 = .ok (.aload_n 0, 1) := by decide +kernel
theorem dX7_record_1 : decode cX7_record 1 = .ok (.iconst 0, 1) := by decide +kernel
theorem dX7_record_2 : decode cX7_record 2 = .ok (.putfield 83, 3) := by decide +kernel
theorem dX7_record_5 : decode cX7_record 5 = .ok (.iload_n 1, 1) := by decide +kernel
theorem dX7_record_6 : decode cX7_record 6 = .ok (.iconst 1, 1) := by decide +kernel
theorem dX7_record_7 : decode cX7_record 7 = .ok (.sipush 200, 3) := by decide +kernel
theorem dX7_record_10 : decode cX7_record 10 = .ok (.invokestatic 87, 3) := by decide +kernel
theorem dX7_record_13 : decode cX7_record 13 = .ok (.ifCond .eq 12, 3) := by decide +kernel
theorem dX7_record_16 : decode cX7_record 16 = .ok (.aload_n 0, 1) := by decide +kernel
theorem dX7_record_17 : decode cX7_record 17 = .ok (.getfield 91, 3) := by decide +kernel
theorem dX7_record_20 : decode cX7_record 20 = .ok (.bipush 100, 2) := by decide +kernel
theorem dX7_record_22 : decode cX7_record 22 = .ok (.if_icmp .ne 5, 3) := by decide +kernel
theorem dX7_record_25 : decode cX7_record 25 = .ok (.iconst (-1), 1) := by decide +kernel
theorem dX7_record_26 : decode cX7_record 26 = .ok (.ireturn, 1) := by decide +kernel
theorem dX7_record_27 : decode cX7_record 27 = .ok (.aload_n 0, 1) := by decide +kernel
theorem dX7_record_28 : decode cX7_record 28 = .ok (.getfield 7, 3) := by decide +kernel
theorem dX7_record_31 : decode cX7_record 31 = .ok (.aload_n 0, 1) := by decide +kernel
theorem dX7_record_32 : decode cX7_record 32 = .ok (.getfield 91, 3) := by decide +kernel
theorem dX7_record_35 : decode cX7_record 35 = .ok (.iload_n 1, 1) := by decide +kernel
theorem dX7_record_36 : decode cX7_record 36 = .ok (.iastore, 1) := by decide +kernel
theorem dX7_record_37 : decode cX7_record 37 = .ok (.iconst 0, 1) := by decide +kernel
theorem dX7_record_38 : decode cX7_record 38 = .ok (.istore_n 2, 1) := by decide +kernel
theorem dX7_record_39 : decode cX7_record 39 = .ok (.iload_n 2, 1) := by decide +kernel
theorem dX7_record_40 : decode cX7_record 40 = .ok (.iconst 5, 1) := by decide +kernel
theorem dX7_record_41 : decode cX7_record 41 = .ok (.if_icmp .ge 23, 3) := by decide +kernel
theorem dX7_record_44 : decode cX7_record 44 = .ok (.aload_n 0, 1) := by decide +kernel
theorem dX7_record_45 : decode cX7_record 45 = .ok (.getfield 13, 3) := by decide +kernel
theorem dX7_record_48 : decode cX7_record 48 = .ok (.iconst 5, 1) := by decide +kernel
theorem dX7_record_49 : decode cX7_record 49 = .ok (.aload_n 0, 1) := by decide +kernel
theorem dX7_record_50 : decode cX7_record 50 = .ok (.getfield 91, 3) := by decide +kernel
theorem dX7_record_53 : decode cX7_record 53 = .ok (.imul, 1) := by decide +kernel
theorem dX7_record_54 : decode cX7_record 54 = .ok (.iload_n 2, 1) := by decide +kernel
theorem dX7_record_55 : decode cX7_record 55 = .ok (.iadd, 1) := by decide +kernel
theorem dX7_record_56 : decode cX7_record 56 = .ok (.iconst (-1), 1) := by decide +kernel
theorem dX7_record_57 : decode cX7_record 57 = .ok (.iastore, 1) := by decide +kernel
theorem dX7_record_58 : decode cX7_record 58 = .ok (.iinc 2 1, 3) := by decide +kernel
theorem dX7_record_61 : decode cX7_record 61 = .ok (.goto (-22), 3) := by decide +kernel
theorem dX7_record_64 : decode cX7_record 64 = .ok (.aload_n 0, 1) := by decide +kernel
theorem dX7_record_65 : decode cX7_record 65 = .ok (.dup, 1) := by decide +kernel
theorem dX7_record_66 : decode cX7_record 66 = .ok (.getfield 91, 3) := by decide +kernel
theorem dX7_record_69 : decode cX7_record 69 = .ok (.iconst 1, 1) := by decide +kernel
theorem dX7_record_70 : decode cX7_record 70 = .ok (.iadd, 1) := by decide +kernel
theorem dX7_record_71 : decode cX7_record 71 = .ok (.putfield 91, 3) := by decide +kernel
theorem dX7_record_74 : decode cX7_record 74 = .ok (.aload_n 0, 1) := by decide +kernel
theorem dX7_record_75 : decode cX7_record 75 = .ok (.getfield 91, 3) := by decide +kernel
theorem dX7_record_78 : decode cX7_record 78 = .ok (.iconst 1, 1) := by decide +kernel
theorem dX7_record_79 : decode cX7_record 79 = .ok (.isub, 1) := by decide +kernel
theorem dX7_record_80 : decode cX7_record 80 = .ok (.ireturn, 1) := by decide +kernel
theorem dX7_term_0 : decode cX7_term 0 = .ok (.aload_n 0, 1) := by decide +kernel
theorem dX7_term_1 : decode cX7_term 1 = .ok (.iconst 0, 1) := by decide +kernel
theorem dX7_term_2 : decode cX7_term 2 = .ok (.putfield 83, 3) := by decide +kernel
theorem dX7_term_5 : decode cX7_term 5 = .ok (.iload_n 1, 1) := by decide +kernel
theorem dX7_term_6 : decode cX7_term 6 = .ok (.iconst 0, 1) := by decide +kernel
theorem dX7_term_7 : decode cX7_term 7 = .ok (.aload_n 0, 1) := by decide +kernel
theorem dX7_term_8 : decode cX7_term 8 = .ok (.getfield 91, 3) := by decide +kernel
theorem dX7_term_11 : decode cX7_term 11 = .ok (.iconst 1, 1) := by decide +kernel
theorem dX7_term_12 : decode cX7_term 12 = .ok (.isub, 1) := by decide +kernel
theorem dX7_term_13 : decode cX7_term 13 = .ok (.invokestatic 87, 3) := by decide +kernel
theorem dX7_term_16 : decode cX7_term 16 = .ok (.ifCond .eq 21, 3) := by decide +kernel
theorem dX7_term_19 : decode cX7_term 19 = .ok (.iload_n 2, 1) := by decide +kernel
theorem dX7_term_20 : decode cX7_term 20 = .ok (.invokestatic 94, 3) := by decide +kernel
theorem dX7_term_23 : decode cX7_term 23 = .ok (.ifCond .eq 14, 3) := by decide +kernel
theorem dX7_term_26 : decode cX7_term 26 = .ok (.iload_n 3, 1) := by decide +kernel
theorem dX7_term_27 : decode cX7_term 27 = .ok (.iconst (-1), 1) := by decide +kernel
theorem dX7_term_28 : decode cX7_term 28 = .ok (.sipush 999, 3) := by decide +kernel
theorem dX7_term_31 : decode cX7_term 31 = .ok (.invokestatic 87, 3) := by decide +kernel
theorem dX7_term_34 : decode cX7_term 34 = .ok (.ifCond .ne 5, 3) := by decide +kernel
theorem dX7_term_37 : decode cX7_term 37 = .ok (.iconst (-1), 1) := by decide +kernel
theorem dX7_term_38 : decode cX7_term 38 = .ok (.ireturn, 1) := by decide +kernel
theorem dX7_term_39 : decode cX7_term 39 = .ok (.aload_n 0, 1) := by decide +kernel
theorem dX7_term_40 : decode cX7_term 40 = .ok (.getfield 13, 3) := by decide +kernel
theorem dX7_term_43 : decode cX7_term 43 = .ok (.iconst 5, 1) := by decide +kernel
theorem dX7_term_44 : decode cX7_term 44 = .ok (.iload_n 1, 1) := by decide +kernel
theorem dX7_term_45 : decode cX7_term 45 = .ok (.imul, 1) := by decide +kernel
theorem dX7_term_46 : decode cX7_term 46 = .ok (.iload_n 2, 1) := by decide +kernel
theorem dX7_term_47 : decode cX7_term 47 = .ok (.iadd, 1) := by decide +kernel
theorem dX7_term_48 : decode cX7_term 48 = .ok (.iload_n 3, 1) := by decide +kernel
theorem dX7_term_49 : decode cX7_term 49 = .ok (.iastore, 1) := by decide +kernel
theorem dX7_term_50 : decode cX7_term 50 = .ok (.iconst 1, 1) := by decide +kernel
theorem dX7_term_51 : decode cX7_term 51 = .ok (.ireturn, 1) := by decide +kernel
theorem dX7_isQuestion_0 : decode cX7_isQuestion 0 = .ok (.iload_n 1, 1) := by decide +kernel
theorem dX7_isQuestion_1 : decode cX7_isQuestion 1 = .ok (.iconst 0, 1) := by decide +kernel
theorem dX7_isQuestion_2 : decode cX7_isQuestion 2 = .ok (.aload_n 0, 1) := by decide +kernel
theorem dX7_isQuestion_3 : decode cX7_isQuestion 3 = .ok (.getfield 98, 3) := by decide +kernel
theorem dX7_isQuestion_6 : decode cX7_isQuestion 6 = .ok (.iconst 1, 1) := by decide +kernel
theorem dX7_isQuestion_7 : decode cX7_isQuestion 7 = .ok (.isub, 1) := by decide +kernel
theorem dX7_isQuestion_8 : decode cX7_isQuestion 8 = .ok (.invokestatic 87, 3) := by decide +kernel
theorem dX7_isQuestion_11 : decode cX7_isQuestion 11 = .ok (.ireturn, 1) := by decide +kernel
theorem dX7_question_0 : decode cX7_question 0 = .ok (.aload_n 0, 1) := by decide +kernel
theorem dX7_question_1 : decode cX7_question 1 = .ok (.iconst 0, 1) := by decide +kernel
theorem dX7_question_2 : decode cX7_question 2 = .ok (.putfield 83, 3) := by decide +kernel
theorem dX7_question_5 : decode cX7_question 5 = .ok (.iload_n 1, 1) := by decide +kernel
theorem dX7_question_6 : decode cX7_question 6 = .ok (.ifCond .ne 25, 3) := by decide +kernel
theorem dX7_question_9 : decode cX7_question 9 = .ok (.iload_n 2, 1) := by decide +kernel
theorem dX7_question_10 : decode cX7_question 10 = .ok (.invokestatic 94, 3) := by decide +kernel
theorem dX7_question_13 : decode cX7_question 13 = .ok (.ifCond .eq 14, 3) := by decide +kernel
theorem dX7_question_16 : decode cX7_question 16 = .ok (.iload_n 3, 1) := by decide +kernel
theorem dX7_question_17 : decode cX7_question 17 = .ok (.invokestatic 101, 3) := by decide +kernel
theorem dX7_question_20 : decode cX7_question 20 = .ok (.ifCond .eq 7, 3) := by decide +kernel
theorem dX7_question_23 : decode cX7_question 23 = .ok (.iconst 1, 1) := by decide +kernel
theorem dX7_question_24 : decode cX7_question 24 = .ok (.goto 45, 3) := by decide +kernel
theorem dX7_question_27 : decode cX7_question 27 = .ok (.iconst 0, 1) := by decide +kernel
theorem dX7_question_28 : decode cX7_question 28 = .ok (.goto 41, 3) := by decide +kernel
theorem dX7_question_31 : decode cX7_question 31 = .ok (.iload_n 1, 1) := by decide +kernel
theorem dX7_question_32 : decode cX7_question 32 = .ok (.iconst 1, 1) := by decide +kernel
theorem dX7_question_33 : decode cX7_question 33 = .ok (.if_icmp .ne 35, 3) := by decide +kernel
theorem dX7_question_36 : decode cX7_question 36 = .ok (.iload_n 2, 1) := by decide +kernel
theorem dX7_question_37 : decode cX7_question 37 = .ok (.invokestatic 94, 3) := by decide +kernel
theorem dX7_question_40 : decode cX7_question 40 = .ok (.ifCond .eq 28, 3) := by decide +kernel
theorem dX7_question_43 : decode cX7_question 43 = .ok (.iload_n 3, 1) := by decide +kernel
theorem dX7_question_44 : decode cX7_question 44 = .ok (.invokestatic 101, 3) := by decide +kernel
theorem dX7_question_47 : decode cX7_question 47 = .ok (.ifCond .eq 21, 3) := by decide +kernel
theorem dX7_question_50 : decode cX7_question 50 = .ok (.iload 4, 2) := by decide +kernel
theorem dX7_question_52 : decode cX7_question 52 = .ok (.invokestatic 101, 3) := by decide +kernel
theorem dX7_question_55 : decode cX7_question 55 = .ok (.ifCond .eq 13, 3) := by decide +kernel
theorem dX7_question_58 : decode cX7_question 58 = .ok (.iload_n 3, 1) := by decide +kernel
theorem dX7_question_59 : decode cX7_question 59 = .ok (.iload 4, 2) := by decide +kernel
theorem dX7_question_61 : decode cX7_question 61 = .ok (.if_icmp .gt 7, 3) := by decide +kernel
theorem dX7_question_64 : decode cX7_question 64 = .ok (.iconst 1, 1) := by decide +kernel
theorem dX7_question_65 : decode cX7_question 65 = .ok (.goto 4, 3) := by decide +kernel
theorem dX7_question_68 : decode cX7_question 68 = .ok (.iconst 0, 1) := by decide +kernel
theorem dX7_question_69 : decode cX7_question 69 = .ok (.istore 5, 2) := by decide +kernel
theorem dX7_question_71 : decode cX7_question 71 = .ok (.iload_n 1, 1) := by decide +kernel
theorem dX7_question_72 : decode cX7_question 72 = .ok (.iconst 2, 1) := by decide +kernel
theorem dX7_question_73 : decode cX7_question 73 = .ok (.iconst 4, 1) := by decide +kernel
theorem dX7_question_74 : decode cX7_question 74 = .ok (.invokestatic 87, 3) := by decide +kernel
theorem dX7_question_77 : decode cX7_question 77 = .ok (.ifCond .eq 23, 3) := by decide +kernel
theorem dX7_question_80 : decode cX7_question 80 = .ok (.aload_n 0, 1) := by decide +kernel
theorem dX7_question_81 : decode cX7_question 81 = .ok (.iload_n 2, 1) := by decide +kernel
theorem dX7_question_82 : decode cX7_question 82 = .ok (.invokevirtual 104, 3) := by decide +kernel
theorem dX7_question_85 : decode cX7_question 85 = .ok (.ifCond .eq 15, 3) := by decide +kernel
theorem dX7_question_88 : decode cX7_question 88 = .ok (.aload_n 0, 1) := by decide +kernel
theorem dX7_question_89 : decode cX7_question 89 = .ok (.iload_n 3, 1) := by decide +kernel
theorem dX7_question_90 : decode cX7_question 90 = .ok (.invokevirtual 104, 3) := by decide +kernel
theorem dX7_question_93 : decode cX7_question 93 = .ok (.ifCond .eq 7, 3) := by decide +kernel
theorem dX7_question_96 : decode cX7_question 96 = .ok (.iconst 1, 1) := by decide +kernel
theorem dX7_question_97 : decode cX7_question 97 = .ok (.goto 4, 3) := by decide +kernel
theorem dX7_question_100 : decode cX7_question 100 = .ok (.iconst 0, 1) := by decide +kernel
theorem dX7_question_101 : decode cX7_question 101 = .ok (.istore 6, 2) := by decide +kernel
theorem dX7_question_103 : decode cX7_question 103 = .ok (.iload 5, 2) := by decide +kernel
theorem dX7_question_105 : decode cX7_question 105 = .ok (.ifCond .ne 8, 3) := by decide +kernel
theorem dX7_question_108 : decode cX7_question 108 = .ok (.iload 6, 2) := by decide +kernel
theorem dX7_question_110 : decode cX7_question 110 = .ok (.ifCond .eq 12, 3) := by decide +kernel
theorem dX7_question_113 : decode cX7_question 113 = .ok (.aload_n 0, 1) := by decide +kernel
theorem dX7_question_114 : decode cX7_question 114 = .ok (.getfield 98, 3) := by decide +kernel
theorem dX7_question_117 : decode cX7_question 117 = .ok (.bipush 40, 2) := by decide +kernel
theorem dX7_question_119 : decode cX7_question 119 = .ok (.if_icmp .ne 5, 3) := by decide +kernel
theorem dX7_question_122 : decode cX7_question 122 = .ok (.iconst (-1), 1) := by decide +kernel
theorem dX7_question_123 : decode cX7_question 123 = .ok (.ireturn, 1) := by decide +kernel
theorem dX7_question_124 : decode cX7_question 124 = .ok (.aload_n 0, 1) := by decide +kernel
theorem dX7_question_125 : decode cX7_question 125 = .ok (.getfield 16, 3) := by decide +kernel
theorem dX7_question_128 : decode cX7_question 128 = .ok (.aload_n 0, 1) := by decide +kernel
theorem dX7_question_129 : decode cX7_question 129 = .ok (.getfield 98, 3) := by decide +kernel
theorem dX7_question_132 : decode cX7_question 132 = .ok (.iload_n 1, 1) := by decide +kernel
theorem dX7_question_133 : decode cX7_question 133 = .ok (.iastore, 1) := by decide +kernel
theorem dX7_question_134 : decode cX7_question 134 = .ok (.aload_n 0, 1) := by decide +kernel
theorem dX7_question_135 : decode cX7_question 135 = .ok (.getfield 19, 3) := by decide +kernel
theorem dX7_question_138 : decode cX7_question 138 = .ok (.aload_n 0, 1) := by decide +kernel
theorem dX7_question_139 : decode cX7_question 139 = .ok (.getfield 98, 3) := by decide +kernel
theorem dX7_question_142 : decode cX7_question 142 = .ok (.iload_n 2, 1) := by decide +kernel
theorem dX7_question_143 : decode cX7_question 143 = .ok (.iastore, 1) := by decide +kernel
theorem dX7_question_144 : decode cX7_question 144 = .ok (.aload_n 0, 1) := by decide +kernel
theorem dX7_question_145 : decode cX7_question 145 = .ok (.getfield 22, 3) := by decide +kernel
theorem dX7_question_148 : decode cX7_question 148 = .ok (.aload_n 0, 1) := by decide +kernel
theorem dX7_question_149 : decode cX7_question 149 = .ok (.getfield 98, 3) := by decide +kernel
theorem dX7_question_152 : decode cX7_question 152 = .ok (.iload_n 3, 1) := by decide +kernel
theorem dX7_question_153 : decode cX7_question 153 = .ok (.iastore, 1) := by decide +kernel
theorem dX7_question_154 : decode cX7_question 154 = .ok (.aload_n 0, 1) := by decide +kernel
theorem dX7_question_155 : decode cX7_question 155 = .ok (.getfield 25, 3) := by decide +kernel
theorem dX7_question_158 : decode cX7_question 158 = .ok (.aload_n 0, 1) := by decide +kernel
theorem dX7_question_159 : decode cX7_question 159 = .ok (.getfield 98, 3) := by decide +kernel
theorem dX7_question_162 : decode cX7_question 162 = .ok (.iload 4, 2) := by decide +kernel
theorem dX7_question_164 : decode cX7_question 164 = .ok (.iastore, 1) := by decide +kernel
theorem dX7_question_165 : decode cX7_question 165 = .ok (.aload_n 0, 1) := by decide +kernel
theorem dX7_question_166 : decode cX7_question 166 = .ok (.dup, 1) := by decide +kernel
theorem dX7_question_167 : decode cX7_question 167 = .ok (.getfield 98, 3) := by decide +kernel
theorem dX7_question_170 : decode cX7_question 170 = .ok (.iconst 1, 1) := by decide +kernel
theorem dX7_question_171 : decode cX7_question 171 = .ok (.iadd, 1) := by decide +kernel
theorem dX7_question_172 : decode cX7_question 172 = .ok (.putfield 98, 3) := by decide +kernel
theorem dX7_question_175 : decode cX7_question 175 = .ok (.aload_n 0, 1) := by decide +kernel
theorem dX7_question_176 : decode cX7_question 176 = .ok (.getfield 98, 3) := by decide +kernel
theorem dX7_question_179 : decode cX7_question 179 = .ok (.iconst 1, 1) := by decide +kernel
theorem dX7_question_180 : decode cX7_question 180 = .ok (.isub, 1) := by decide +kernel
theorem dX7_question_181 : decode cX7_question 181 = .ok (.ireturn, 1) := by decide +kernel
theorem dX7_session_0 : decode cX7_session 0 = .ok (.aload_n 0, 1) := by decide +kernel
theorem dX7_session_1 : decode cX7_session 1 = .ok (.iconst 0, 1) := by decide +kernel
theorem dX7_session_2 : decode cX7_session 2 = .ok (.putfield 83, 3) := by decide +kernel
theorem dX7_session_5 : decode cX7_session 5 = .ok (.iload_n 1, 1) := by decide +kernel
theorem dX7_session_6 : decode cX7_session 6 = .ok (.iconst 0, 1) := by decide +kernel
theorem dX7_session_7 : decode cX7_session 7 = .ok (.bipush 7, 2) := by decide +kernel
theorem dX7_session_9 : decode cX7_session 9 = .ok (.invokestatic 87, 3) := by decide +kernel
theorem dX7_session_12 : decode cX7_session 12 = .ok (.ifCond .eq 23, 3) := by decide +kernel
theorem dX7_session_15 : decode cX7_session 15 = .ok (.iload_n 2, 1) := by decide +kernel
theorem dX7_session_16 : decode cX7_session 16 = .ok (.iconst 1, 1) := by decide +kernel
theorem dX7_session_17 : decode cX7_session 17 = .ok (.sipush 1000, 3) := by decide +kernel
theorem dX7_session_20 : decode cX7_session 20 = .ok (.invokestatic 87, 3) := by decide +kernel
theorem dX7_session_23 : decode cX7_session 23 = .ok (.ifCond .eq 12, 3) := by decide +kernel
theorem dX7_session_26 : decode cX7_session 26 = .ok (.aload_n 0, 1) := by decide +kernel
theorem dX7_session_27 : decode cX7_session 27 = .ok (.getfield 107, 3) := by decide +kernel
theorem dX7_session_30 : decode cX7_session 30 = .ok (.bipush 8, 2) := by decide +kernel
theorem dX7_session_32 : decode cX7_session 32 = .ok (.if_icmp .ne 5, 3) := by decide +kernel
theorem dX7_session_35 : decode cX7_session 35 = .ok (.iconst (-1), 1) := by decide +kernel
theorem dX7_session_36 : decode cX7_session 36 = .ok (.ireturn, 1) := by decide +kernel
theorem dX7_session_37 : decode cX7_session 37 = .ok (.aload_n 0, 1) := by decide +kernel
theorem dX7_session_38 : decode cX7_session 38 = .ok (.getfield 32, 3) := by decide +kernel
theorem dX7_session_41 : decode cX7_session 41 = .ok (.aload_n 0, 1) := by decide +kernel
theorem dX7_session_42 : decode cX7_session 42 = .ok (.getfield 107, 3) := by decide +kernel
theorem dX7_session_45 : decode cX7_session 45 = .ok (.iload_n 1, 1) := by decide +kernel
theorem dX7_session_46 : decode cX7_session 46 = .ok (.iastore, 1) := by decide +kernel
theorem dX7_session_47 : decode cX7_session 47 = .ok (.aload_n 0, 1) := by decide +kernel
theorem dX7_session_48 : decode cX7_session 48 = .ok (.getfield 35, 3) := by decide +kernel
theorem dX7_session_51 : decode cX7_session 51 = .ok (.aload_n 0, 1) := by decide +kernel
theorem dX7_session_52 : decode cX7_session 52 = .ok (.getfield 107, 3) := by decide +kernel
theorem dX7_session_55 : decode cX7_session 55 = .ok (.iload_n 2, 1) := by decide +kernel
theorem dX7_session_56 : decode cX7_session 56 = .ok (.iastore, 1) := by decide +kernel
theorem dX7_session_57 : decode cX7_session 57 = .ok (.aload_n 0, 1) := by decide +kernel
theorem dX7_session_58 : decode cX7_session 58 = .ok (.dup, 1) := by decide +kernel
theorem dX7_session_59 : decode cX7_session 59 = .ok (.getfield 107, 3) := by decide +kernel
theorem dX7_session_62 : decode cX7_session 62 = .ok (.iconst 1, 1) := by decide +kernel
theorem dX7_session_63 : decode cX7_session 63 = .ok (.iadd, 1) := by decide +kernel
theorem dX7_session_64 : decode cX7_session 64 = .ok (.putfield 107, 3) := by decide +kernel
theorem dX7_session_67 : decode cX7_session 67 = .ok (.aload_n 0, 1) := by decide +kernel
theorem dX7_session_68 : decode cX7_session 68 = .ok (.getfield 107, 3) := by decide +kernel
theorem dX7_session_71 : decode cX7_session 71 = .ok (.iconst 1, 1) := by decide +kernel
theorem dX7_session_72 : decode cX7_session 72 = .ok (.isub, 1) := by decide +kernel
theorem dX7_session_73 : decode cX7_session 73 = .ok (.ireturn, 1) := by decide +kernel
theorem dX7_isOpen_0 : decode cX7_isOpen 0 = .ok (.iload_n 1, 1) := by decide +kernel
theorem dX7_isOpen_1 : decode cX7_isOpen 1 = .ok (.iconst 0, 1) := by decide +kernel
theorem dX7_isOpen_2 : decode cX7_isOpen 2 = .ok (.aload_n 0, 1) := by decide +kernel
theorem dX7_isOpen_3 : decode cX7_isOpen 3 = .ok (.getfield 107, 3) := by decide +kernel
theorem dX7_isOpen_6 : decode cX7_isOpen 6 = .ok (.iconst 1, 1) := by decide +kernel
theorem dX7_isOpen_7 : decode cX7_isOpen 7 = .ok (.isub, 1) := by decide +kernel
theorem dX7_isOpen_8 : decode cX7_isOpen 8 = .ok (.invokestatic 87, 3) := by decide +kernel
theorem dX7_isOpen_11 : decode cX7_isOpen 11 = .ok (.ifCond .eq 16, 3) := by decide +kernel
theorem dX7_isOpen_14 : decode cX7_isOpen 14 = .ok (.aload_n 0, 1) := by decide +kernel
theorem dX7_isOpen_15 : decode cX7_isOpen 15 = .ok (.getfield 38, 3) := by decide +kernel
theorem dX7_isOpen_18 : decode cX7_isOpen 18 = .ok (.iload_n 1, 1) := by decide +kernel
theorem dX7_isOpen_19 : decode cX7_isOpen 19 = .ok (.baload, 1) := by decide +kernel
theorem dX7_isOpen_20 : decode cX7_isOpen 20 = .ok (.ifCond .ne 7, 3) := by decide +kernel
theorem dX7_isOpen_23 : decode cX7_isOpen 23 = .ok (.iconst 1, 1) := by decide +kernel
theorem dX7_isOpen_24 : decode cX7_isOpen 24 = .ok (.goto 4, 3) := by decide +kernel
theorem dX7_isOpen_27 : decode cX7_isOpen 27 = .ok (.iconst 0, 1) := by decide +kernel
theorem dX7_isOpen_28 : decode cX7_isOpen 28 = .ok (.ireturn, 1) := by decide +kernel
theorem dX7_end_0 : decode cX7_end 0 = .ok (.aload_n 0, 1) := by decide +kernel
theorem dX7_end_1 : decode cX7_end 1 = .ok (.getfield 38, 3) := by decide +kernel
theorem dX7_end_4 : decode cX7_end 4 = .ok (.iload_n 1, 1) := by decide +kernel
theorem dX7_end_5 : decode cX7_end 5 = .ok (.iconst 1, 1) := by decide +kernel
theorem dX7_end_6 : decode cX7_end 6 = .ok (.bastore, 1) := by decide +kernel
theorem dX7_end_7 : decode cX7_end 7 = .ok (.iconst 5, 1) := by decide +kernel
theorem dX7_end_8 : decode cX7_end 8 = .ok (.iload_n 1, 1) := by decide +kernel
theorem dX7_end_9 : decode cX7_end 9 = .ok (.imul, 1) := by decide +kernel
theorem dX7_end_10 : decode cX7_end 10 = .ok (.istore_n 2, 1) := by decide +kernel
theorem dX7_end_11 : decode cX7_end 11 = .ok (.iload_n 2, 1) := by decide +kernel
theorem dX7_end_12 : decode cX7_end 12 = .ok (.iconst 5, 1) := by decide +kernel
theorem dX7_end_13 : decode cX7_end 13 = .ok (.iload_n 1, 1) := by decide +kernel
theorem dX7_end_14 : decode cX7_end 14 = .ok (.imul, 1) := by decide +kernel
theorem dX7_end_15 : decode cX7_end 15 = .ok (.iconst 5, 1) := by decide +kernel
theorem dX7_end_16 : decode cX7_end 16 = .ok (.iadd, 1) := by decide +kernel
theorem dX7_end_17 : decode cX7_end 17 = .ok (.if_icmp .ge 16, 3) := by decide +kernel
theorem dX7_end_20 : decode cX7_end 20 = .ok (.aload_n 0, 1) := by decide +kernel
theorem dX7_end_21 : decode cX7_end 21 = .ok (.getfield 47, 3) := by decide +kernel
theorem dX7_end_24 : decode cX7_end 24 = .ok (.iload_n 2, 1) := by decide +kernel
theorem dX7_end_25 : decode cX7_end 25 = .ok (.iconst (-1), 1) := by decide +kernel
theorem dX7_end_26 : decode cX7_end 26 = .ok (.iastore, 1) := by decide +kernel
theorem dX7_end_27 : decode cX7_end 27 = .ok (.iinc 2 1, 3) := by decide +kernel
theorem dX7_end_30 : decode cX7_end 30 = .ok (.goto (-19), 3) := by decide +kernel
theorem dX7_end_33 : decode cX7_end 33 = .ok (.return_, 1) := by decide +kernel
theorem dX7_tell_0 : decode cX7_tell 0 = .ok (.aload_n 0, 1) := by decide +kernel
theorem dX7_tell_1 : decode cX7_tell 1 = .ok (.getfield 41, 3) := by decide +kernel
theorem dX7_tell_4 : decode cX7_tell 4 = .ok (.iload_n 1, 1) := by decide +kernel
theorem dX7_tell_5 : decode cX7_tell 5 = .ok (.dup2, 1) := by decide +kernel
theorem dX7_tell_6 : decode cX7_tell 6 = .ok (.iaload, 1) := by decide +kernel
theorem dX7_tell_7 : decode cX7_tell 7 = .ok (.iconst 1, 1) := by decide +kernel
theorem dX7_tell_8 : decode cX7_tell 8 = .ok (.iadd, 1) := by decide +kernel
theorem dX7_tell_9 : decode cX7_tell 9 = .ok (.iastore, 1) := by decide +kernel
theorem dX7_tell_10 : decode cX7_tell 10 = .ok (.aload_n 0, 1) := by decide +kernel
theorem dX7_tell_11 : decode cX7_tell 11 = .ok (.getfield 44, 3) := by decide +kernel
theorem dX7_tell_14 : decode cX7_tell 14 = .ok (.iload_n 1, 1) := by decide +kernel
theorem dX7_tell_15 : decode cX7_tell 15 = .ok (.iload_n 2, 1) := by decide +kernel
theorem dX7_tell_16 : decode cX7_tell 16 = .ok (.iastore, 1) := by decide +kernel
theorem dX7_tell_17 : decode cX7_tell 17 = .ok (.aload_n 0, 1) := by decide +kernel
theorem dX7_tell_18 : decode cX7_tell 18 = .ok (.getfield 41, 3) := by decide +kernel
theorem dX7_tell_21 : decode cX7_tell 21 = .ok (.iload_n 1, 1) := by decide +kernel
theorem dX7_tell_22 : decode cX7_tell 22 = .ok (.iaload, 1) := by decide +kernel
theorem dX7_tell_23 : decode cX7_tell 23 = .ok (.iconst 3, 1) := by decide +kernel
theorem dX7_tell_24 : decode cX7_tell 24 = .ok (.if_icmp .ne 8, 3) := by decide +kernel
theorem dX7_tell_27 : decode cX7_tell 27 = .ok (.aload_n 0, 1) := by decide +kernel
theorem dX7_tell_28 : decode cX7_tell 28 = .ok (.iload_n 1, 1) := by decide +kernel
theorem dX7_tell_29 : decode cX7_tell 29 = .ok (.invokevirtual 110, 3) := by decide +kernel
theorem dX7_tell_32 : decode cX7_tell 32 = .ok (.iload_n 2, 1) := by decide +kernel
theorem dX7_tell_33 : decode cX7_tell 33 = .ok (.ineg, 1) := by decide +kernel
theorem dX7_tell_34 : decode cX7_tell 34 = .ok (.ireturn, 1) := by decide +kernel
theorem dX7_isName_0 : decode cX7_isName 0 = .ok (.iload_n 2, 1) := by decide +kernel
theorem dX7_isName_1 : decode cX7_isName 1 = .ok (.iconst 0, 1) := by decide +kernel
theorem dX7_isName_2 : decode cX7_isName 2 = .ok (.aload_n 0, 1) := by decide +kernel
theorem dX7_isName_3 : decode cX7_isName 3 = .ok (.getfield 32, 3) := by decide +kernel
theorem dX7_isName_6 : decode cX7_isName 6 = .ok (.iload_n 1, 1) := by decide +kernel
theorem dX7_isName_7 : decode cX7_isName 7 = .ok (.iaload, 1) := by decide +kernel
theorem dX7_isName_8 : decode cX7_isName 8 = .ok (.iconst 4, 1) := by decide +kernel
theorem dX7_isName_9 : decode cX7_isName 9 = .ok (.iand, 1) := by decide +kernel
theorem dX7_isName_10 : decode cX7_isName 10 = .ok (.iconst 4, 1) := by decide +kernel
theorem dX7_isName_11 : decode cX7_isName 11 = .ok (.if_icmp .ne 7, 3) := by decide +kernel
theorem dX7_isName_14 : decode cX7_isName 14 = .ok (.iconst 4, 1) := by decide +kernel
theorem dX7_isName_15 : decode cX7_isName 15 = .ok (.goto 4, 3) := by decide +kernel
theorem dX7_isName_18 : decode cX7_isName 18 = .ok (.iconst 0, 1) := by decide +kernel
theorem dX7_isName_19 : decode cX7_isName 19 = .ok (.invokestatic 87, 3) := by decide +kernel
theorem dX7_isName_22 : decode cX7_isName 22 = .ok (.ireturn, 1) := by decide +kernel
theorem dX7_isSet_0 : decode cX7_isSet 0 = .ok (.aload_n 0, 1) := by decide +kernel
theorem dX7_isSet_1 : decode cX7_isSet 1 = .ok (.iload_n 1, 1) := by decide +kernel
theorem dX7_isSet_2 : decode cX7_isSet 2 = .ok (.iload_n 2, 1) := by decide +kernel
theorem dX7_isSet_3 : decode cX7_isSet 3 = .ok (.invokevirtual 114, 3) := by decide +kernel
theorem dX7_isSet_6 : decode cX7_isSet 6 = .ok (.ifCond .eq 20, 3) := by decide +kernel
theorem dX7_isSet_9 : decode cX7_isSet 9 = .ok (.aload_n 0, 1) := by decide +kernel
theorem dX7_isSet_10 : decode cX7_isSet 10 = .ok (.getfield 47, 3) := by decide +kernel
theorem dX7_isSet_13 : decode cX7_isSet 13 = .ok (.iconst 5, 1) := by decide +kernel
theorem dX7_isSet_14 : decode cX7_isSet 14 = .ok (.iload_n 1, 1) := by decide +kernel
theorem dX7_isSet_15 : decode cX7_isSet 15 = .ok (.imul, 1) := by decide +kernel
theorem dX7_isSet_16 : decode cX7_isSet 16 = .ok (.iload_n 2, 1) := by decide +kernel
theorem dX7_isSet_17 : decode cX7_isSet 17 = .ok (.iadd, 1) := by decide +kernel
theorem dX7_isSet_18 : decode cX7_isSet 18 = .ok (.iaload, 1) := by decide +kernel
theorem dX7_isSet_19 : decode cX7_isSet 19 = .ok (.ifCond .lt 7, 3) := by decide +kernel
theorem dX7_isSet_22 : decode cX7_isSet 22 = .ok (.iconst 1, 1) := by decide +kernel
theorem dX7_isSet_23 : decode cX7_isSet 23 = .ok (.goto 4, 3) := by decide +kernel
theorem dX7_isSet_26 : decode cX7_isSet 26 = .ok (.iconst 0, 1) := by decide +kernel
theorem dX7_isSet_27 : decode cX7_isSet 27 = .ok (.ireturn, 1) := by decide +kernel
theorem dX7_meets_0 : decode cX7_meets 0 = .ok (.iconst 0, 1) := by decide +kernel
theorem dX7_meets_1 : decode cX7_meets 1 = .ok (.istore_n 3, 1) := by decide +kernel
theorem dX7_meets_2 : decode cX7_meets 2 = .ok (.iload_n 3, 1) := by decide +kernel
theorem dX7_meets_3 : decode cX7_meets 3 = .ok (.iload_n 2, 1) := by decide +kernel
theorem dX7_meets_4 : decode cX7_meets 4 = .ok (.if_icmp .gt 252, 3) := by decide +kernel
theorem dX7_meets_7 : decode cX7_meets 7 = .ok (.aload_n 0, 1) := by decide +kernel
theorem dX7_meets_8 : decode cX7_meets 8 = .ok (.getfield 16, 3) := by decide +kernel
theorem dX7_meets_11 : decode cX7_meets 11 = .ok (.iload_n 3, 1) := by decide +kernel
theorem dX7_meets_12 : decode cX7_meets 12 = .ok (.iaload, 1) := by decide +kernel
theorem dX7_meets_13 : decode cX7_meets 13 = .ok (.iconst 2, 1) := by decide +kernel
theorem dX7_meets_14 : decode cX7_meets 14 = .ok (.if_icmp .ge 21, 3) := by decide +kernel
theorem dX7_meets_17 : decode cX7_meets 17 = .ok (.aload_n 0, 1) := by decide +kernel
theorem dX7_meets_18 : decode cX7_meets 18 = .ok (.getfield 13, 3) := by decide +kernel
theorem dX7_meets_21 : decode cX7_meets 21 = .ok (.iconst 5, 1) := by decide +kernel
theorem dX7_meets_22 : decode cX7_meets 22 = .ok (.iload_n 1, 1) := by decide +kernel
theorem dX7_meets_23 : decode cX7_meets 23 = .ok (.imul, 1) := by decide +kernel
theorem dX7_meets_24 : decode cX7_meets 24 = .ok (.aload_n 0, 1) := by decide +kernel
theorem dX7_meets_25 : decode cX7_meets 25 = .ok (.getfield 19, 3) := by decide +kernel
theorem dX7_meets_28 : decode cX7_meets 28 = .ok (.iload_n 3, 1) := by decide +kernel
theorem dX7_meets_29 : decode cX7_meets 29 = .ok (.iaload, 1) := by decide +kernel
theorem dX7_meets_30 : decode cX7_meets 30 = .ok (.iadd, 1) := by decide +kernel
theorem dX7_meets_31 : decode cX7_meets 31 = .ok (.iaload, 1) := by decide +kernel
theorem dX7_meets_32 : decode cX7_meets 32 = .ok (.goto 4, 3) := by decide +kernel
theorem dX7_meets_35 : decode cX7_meets 35 = .ok (.iconst (-1), 1) := by decide +kernel
theorem dX7_meets_36 : decode cX7_meets 36 = .ok (.istore 4, 2) := by decide +kernel
theorem dX7_meets_38 : decode cX7_meets 38 = .ok (.aload_n 0, 1) := by decide +kernel
theorem dX7_meets_39 : decode cX7_meets 39 = .ok (.getfield 16, 3) := by decide +kernel
theorem dX7_meets_42 : decode cX7_meets 42 = .ok (.iload_n 3, 1) := by decide +kernel
theorem dX7_meets_43 : decode cX7_meets 43 = .ok (.iaload, 1) := by decide +kernel
theorem dX7_meets_44 : decode cX7_meets 44 = .ok (.tableswitch 167 0 3 #[32, 57, 83, 125], 32) := by decide +kernel
theorem dX7_meets_76 : decode cX7_meets 76 = .ok (.aload_n 0, 1) := by decide +kernel
theorem dX7_meets_77 : decode cX7_meets 77 = .ok (.getfield 28, 3) := by decide +kernel
theorem dX7_meets_80 : decode cX7_meets 80 = .ok (.iload_n 3, 1) := by decide +kernel
theorem dX7_meets_81 : decode cX7_meets 81 = .ok (.iload 4, 2) := by decide +kernel
theorem dX7_meets_83 : decode cX7_meets 83 = .ok (.aload_n 0, 1) := by decide +kernel
theorem dX7_meets_84 : decode cX7_meets 84 = .ok (.getfield 22, 3) := by decide +kernel
theorem dX7_meets_87 : decode cX7_meets 87 = .ok (.iload_n 3, 1) := by decide +kernel
theorem dX7_meets_88 : decode cX7_meets 88 = .ok (.iaload, 1) := by decide +kernel
theorem dX7_meets_89 : decode cX7_meets 89 = .ok (.if_icmp .ne 7, 3) := by decide +kernel
theorem dX7_meets_92 : decode cX7_meets 92 = .ok (.iconst 1, 1) := by decide +kernel
theorem dX7_meets_93 : decode cX7_meets 93 = .ok (.goto 4, 3) := by decide +kernel
theorem dX7_meets_96 : decode cX7_meets 96 = .ok (.iconst 0, 1) := by decide +kernel
theorem dX7_meets_97 : decode cX7_meets 97 = .ok (.bastore, 1) := by decide +kernel
theorem dX7_meets_98 : decode cX7_meets 98 = .ok (.goto 152, 3) := by decide +kernel
theorem dX7_meets_101 : decode cX7_meets 101 = .ok (.aload_n 0, 1) := by decide +kernel
theorem dX7_meets_102 : decode cX7_meets 102 = .ok (.getfield 28, 3) := by decide +kernel
theorem dX7_meets_105 : decode cX7_meets 105 = .ok (.iload_n 3, 1) := by decide +kernel
theorem dX7_meets_106 : decode cX7_meets 106 = .ok (.iload 4, 2) := by decide +kernel
theorem dX7_meets_108 : decode cX7_meets 108 = .ok (.aload_n 0, 1) := by decide +kernel
theorem dX7_meets_109 : decode cX7_meets 109 = .ok (.getfield 22, 3) := by decide +kernel
theorem dX7_meets_112 : decode cX7_meets 112 = .ok (.iload_n 3, 1) := by decide +kernel
theorem dX7_meets_113 : decode cX7_meets 113 = .ok (.iaload, 1) := by decide +kernel
theorem dX7_meets_114 : decode cX7_meets 114 = .ok (.aload_n 0, 1) := by decide +kernel
theorem dX7_meets_115 : decode cX7_meets 115 = .ok (.getfield 25, 3) := by decide +kernel
theorem dX7_meets_118 : decode cX7_meets 118 = .ok (.iload_n 3, 1) := by decide +kernel
theorem dX7_meets_119 : decode cX7_meets 119 = .ok (.iaload, 1) := by decide +kernel
theorem dX7_meets_120 : decode cX7_meets 120 = .ok (.invokestatic 87, 3) := by decide +kernel
theorem dX7_meets_123 : decode cX7_meets 123 = .ok (.bastore, 1) := by decide +kernel
theorem dX7_meets_124 : decode cX7_meets 124 = .ok (.goto 126, 3) := by decide +kernel
theorem dX7_meets_127 : decode cX7_meets 127 = .ok (.aload_n 0, 1) := by decide +kernel
theorem dX7_meets_128 : decode cX7_meets 128 = .ok (.getfield 28, 3) := by decide +kernel
theorem dX7_meets_131 : decode cX7_meets 131 = .ok (.iload_n 3, 1) := by decide +kernel
theorem dX7_meets_132 : decode cX7_meets 132 = .ok (.aload_n 0, 1) := by decide +kernel
theorem dX7_meets_133 : decode cX7_meets 133 = .ok (.getfield 28, 3) := by decide +kernel
theorem dX7_meets_136 : decode cX7_meets 136 = .ok (.aload_n 0, 1) := by decide +kernel
theorem dX7_meets_137 : decode cX7_meets 137 = .ok (.getfield 19, 3) := by decide +kernel
theorem dX7_meets_140 : decode cX7_meets 140 = .ok (.iload_n 3, 1) := by decide +kernel
theorem dX7_meets_141 : decode cX7_meets 141 = .ok (.iaload, 1) := by decide +kernel
theorem dX7_meets_142 : decode cX7_meets 142 = .ok (.baload, 1) := by decide +kernel
theorem dX7_meets_143 : decode cX7_meets 143 = .ok (.ifCond .eq 21, 3) := by decide +kernel
theorem dX7_meets_146 : decode cX7_meets 146 = .ok (.aload_n 0, 1) := by decide +kernel
theorem dX7_meets_147 : decode cX7_meets 147 = .ok (.getfield 28, 3) := by decide +kernel
theorem dX7_meets_150 : decode cX7_meets 150 = .ok (.aload_n 0, 1) := by decide +kernel
theorem dX7_meets_151 : decode cX7_meets 151 = .ok (.getfield 22, 3) := by decide +kernel
theorem dX7_meets_154 : decode cX7_meets 154 = .ok (.iload_n 3, 1) := by decide +kernel
theorem dX7_meets_155 : decode cX7_meets 155 = .ok (.iaload, 1) := by decide +kernel
theorem dX7_meets_156 : decode cX7_meets 156 = .ok (.baload, 1) := by decide +kernel
theorem dX7_meets_157 : decode cX7_meets 157 = .ok (.ifCond .eq 7, 3) := by decide +kernel
theorem dX7_meets_160 : decode cX7_meets 160 = .ok (.iconst 1, 1) := by decide +kernel
theorem dX7_meets_161 : decode cX7_meets 161 = .ok (.goto 4, 3) := by decide +kernel
theorem dX7_meets_164 : decode cX7_meets 164 = .ok (.iconst 0, 1) := by decide +kernel
theorem dX7_meets_165 : decode cX7_meets 165 = .ok (.bastore, 1) := by decide +kernel
theorem dX7_meets_166 : decode cX7_meets 166 = .ok (.goto 84, 3) := by decide +kernel
theorem dX7_meets_169 : decode cX7_meets 169 = .ok (.aload_n 0, 1) := by decide +kernel
theorem dX7_meets_170 : decode cX7_meets 170 = .ok (.getfield 28, 3) := by decide +kernel
theorem dX7_meets_173 : decode cX7_meets 173 = .ok (.iload_n 3, 1) := by decide +kernel
theorem dX7_meets_174 : decode cX7_meets 174 = .ok (.aload_n 0, 1) := by decide +kernel
theorem dX7_meets_175 : decode cX7_meets 175 = .ok (.getfield 28, 3) := by decide +kernel
theorem dX7_meets_178 : decode cX7_meets 178 = .ok (.aload_n 0, 1) := by decide +kernel
theorem dX7_meets_179 : decode cX7_meets 179 = .ok (.getfield 19, 3) := by decide +kernel
theorem dX7_meets_182 : decode cX7_meets 182 = .ok (.iload_n 3, 1) := by decide +kernel
theorem dX7_meets_183 : decode cX7_meets 183 = .ok (.iaload, 1) := by decide +kernel
theorem dX7_meets_184 : decode cX7_meets 184 = .ok (.baload, 1) := by decide +kernel
theorem dX7_meets_185 : decode cX7_meets 185 = .ok (.ifCond .ne 17, 3) := by decide +kernel
theorem dX7_meets_188 : decode cX7_meets 188 = .ok (.aload_n 0, 1) := by decide +kernel
theorem dX7_meets_189 : decode cX7_meets 189 = .ok (.getfield 28, 3) := by decide +kernel
theorem dX7_meets_192 : decode cX7_meets 192 = .ok (.aload_n 0, 1) := by decide +kernel
theorem dX7_meets_193 : decode cX7_meets 193 = .ok (.getfield 22, 3) := by decide +kernel
theorem dX7_meets_196 : decode cX7_meets 196 = .ok (.iload_n 3, 1) := by decide +kernel
theorem dX7_meets_197 : decode cX7_meets 197 = .ok (.iaload, 1) := by decide +kernel
theorem dX7_meets_198 : decode cX7_meets 198 = .ok (.baload, 1) := by decide +kernel
theorem dX7_meets_199 : decode cX7_meets 199 = .ok (.ifCond .eq 7, 3) := by decide +kernel
theorem dX7_meets_202 : decode cX7_meets 202 = .ok (.iconst 1, 1) := by decide +kernel
theorem dX7_meets_203 : decode cX7_meets 203 = .ok (.goto 4, 3) := by decide +kernel
theorem dX7_meets_206 : decode cX7_meets 206 = .ok (.iconst 0, 1) := by decide +kernel
theorem dX7_meets_207 : decode cX7_meets 207 = .ok (.bastore, 1) := by decide +kernel
theorem dX7_meets_208 : decode cX7_meets 208 = .ok (.goto 42, 3) := by decide +kernel
theorem dX7_meets_211 : decode cX7_meets 211 = .ok (.aload_n 0, 1) := by decide +kernel
theorem dX7_meets_212 : decode cX7_meets 212 = .ok (.getfield 28, 3) := by decide +kernel
theorem dX7_meets_215 : decode cX7_meets 215 = .ok (.iload_n 3, 1) := by decide +kernel
theorem dX7_meets_216 : decode cX7_meets 216 = .ok (.aload_n 0, 1) := by decide +kernel
theorem dX7_meets_217 : decode cX7_meets 217 = .ok (.getfield 28, 3) := by decide +kernel
theorem dX7_meets_220 : decode cX7_meets 220 = .ok (.aload_n 0, 1) := by decide +kernel
theorem dX7_meets_221 : decode cX7_meets 221 = .ok (.getfield 19, 3) := by decide +kernel
theorem dX7_meets_224 : decode cX7_meets 224 = .ok (.iload_n 3, 1) := by decide +kernel
theorem dX7_meets_225 : decode cX7_meets 225 = .ok (.iaload, 1) := by decide +kernel
theorem dX7_meets_226 : decode cX7_meets 226 = .ok (.baload, 1) := by decide +kernel
theorem dX7_meets_227 : decode cX7_meets 227 = .ok (.ifCond .eq 21, 3) := by decide +kernel
theorem dX7_meets_230 : decode cX7_meets 230 = .ok (.aload_n 0, 1) := by decide +kernel
theorem dX7_meets_231 : decode cX7_meets 231 = .ok (.getfield 28, 3) := by decide +kernel
theorem dX7_meets_234 : decode cX7_meets 234 = .ok (.aload_n 0, 1) := by decide +kernel
theorem dX7_meets_235 : decode cX7_meets 235 = .ok (.getfield 22, 3) := by decide +kernel
theorem dX7_meets_238 : decode cX7_meets 238 = .ok (.iload_n 3, 1) := by decide +kernel
theorem dX7_meets_239 : decode cX7_meets 239 = .ok (.iaload, 1) := by decide +kernel
theorem dX7_meets_240 : decode cX7_meets 240 = .ok (.baload, 1) := by decide +kernel
theorem dX7_meets_241 : decode cX7_meets 241 = .ok (.ifCond .ne 7, 3) := by decide +kernel
theorem dX7_meets_244 : decode cX7_meets 244 = .ok (.iconst 1, 1) := by decide +kernel
theorem dX7_meets_245 : decode cX7_meets 245 = .ok (.goto 4, 3) := by decide +kernel
theorem dX7_meets_248 : decode cX7_meets 248 = .ok (.iconst 0, 1) := by decide +kernel
theorem dX7_meets_249 : decode cX7_meets 249 = .ok (.bastore, 1) := by decide +kernel
theorem dX7_meets_250 : decode cX7_meets 250 = .ok (.iinc 3 1, 3) := by decide +kernel
theorem dX7_meets_253 : decode cX7_meets 253 = .ok (.goto (-251), 3) := by decide +kernel
theorem dX7_meets_256 : decode cX7_meets 256 = .ok (.aload_n 0, 1) := by decide +kernel
theorem dX7_meets_257 : decode cX7_meets 257 = .ok (.getfield 28, 3) := by decide +kernel
theorem dX7_meets_260 : decode cX7_meets 260 = .ok (.iload_n 2, 1) := by decide +kernel
theorem dX7_meets_261 : decode cX7_meets 261 = .ok (.baload, 1) := by decide +kernel
theorem dX7_meets_262 : decode cX7_meets 262 = .ok (.ireturn, 1) := by decide +kernel
theorem dX7_search_0 : decode cX7_search 0 = .ok (.aload_n 0, 1) := by decide +kernel
theorem dX7_search_1 : decode cX7_search 1 = .ok (.iconst 0, 1) := by decide +kernel
theorem dX7_search_2 : decode cX7_search 2 = .ok (.putfield 83, 3) := by decide +kernel
theorem dX7_search_5 : decode cX7_search 5 = .ok (.aload_n 0, 1) := by decide +kernel
theorem dX7_search_6 : decode cX7_search 6 = .ok (.iload_n 1, 1) := by decide +kernel
theorem dX7_search_7 : decode cX7_search 7 = .ok (.invokevirtual 118, 3) := by decide +kernel
theorem dX7_search_10 : decode cX7_search 10 = .ok (.ifCond .ne 6, 3) := by decide +kernel
theorem dX7_search_13 : decode cX7_search 13 = .ok (.bipush (-101), 2) := by decide +kernel
theorem dX7_search_15 : decode cX7_search 15 = .ok (.ireturn, 1) := by decide +kernel
theorem dX7_search_16 : decode cX7_search 16 = .ok (.aload_n 0, 1) := by decide +kernel
theorem dX7_search_17 : decode cX7_search 17 = .ok (.iload_n 2, 1) := by decide +kernel
theorem dX7_search_18 : decode cX7_search 18 = .ok (.invokevirtual 104, 3) := by decide +kernel
theorem dX7_search_21 : decode cX7_search 21 = .ok (.ifCond .ne 11, 3) := by decide +kernel
theorem dX7_search_24 : decode cX7_search 24 = .ok (.aload_n 0, 1) := by decide +kernel
theorem dX7_search_25 : decode cX7_search 25 = .ok (.iload_n 1, 1) := by decide +kernel
theorem dX7_search_26 : decode cX7_search 26 = .ok (.bipush 103, 2) := by decide +kernel
theorem dX7_search_28 : decode cX7_search 28 = .ok (.invokevirtual 121, 3) := by decide +kernel
theorem dX7_search_31 : decode cX7_search 31 = .ok (.ireturn, 1) := by decide +kernel
theorem dX7_search_32 : decode cX7_search 32 = .ok (.aload_n 0, 1) := by decide +kernel
theorem dX7_search_33 : decode cX7_search 33 = .ok (.iload_n 1, 1) := by decide +kernel
theorem dX7_search_34 : decode cX7_search 34 = .ok (.iload_n 3, 1) := by decide +kernel
theorem dX7_search_35 : decode cX7_search 35 = .ok (.invokevirtual 114, 3) := by decide +kernel
theorem dX7_search_38 : decode cX7_search 38 = .ok (.ifCond .ne 11, 3) := by decide +kernel
theorem dX7_search_41 : decode cX7_search 41 = .ok (.aload_n 0, 1) := by decide +kernel
theorem dX7_search_42 : decode cX7_search 42 = .ok (.iload_n 1, 1) := by decide +kernel
theorem dX7_search_43 : decode cX7_search 43 = .ok (.bipush 104, 2) := by decide +kernel
theorem dX7_search_45 : decode cX7_search 45 = .ok (.invokevirtual 121, 3) := by decide +kernel
theorem dX7_search_48 : decode cX7_search 48 = .ok (.ireturn, 1) := by decide +kernel
theorem dX7_search_49 : decode cX7_search 49 = .ok (.iconst 0, 1) := by decide +kernel
theorem dX7_search_50 : decode cX7_search 50 = .ok (.istore 4, 2) := by decide +kernel
theorem dX7_search_52 : decode cX7_search 52 = .ok (.iconst 0, 1) := by decide +kernel
theorem dX7_search_53 : decode cX7_search 53 = .ok (.istore 5, 2) := by decide +kernel
theorem dX7_search_55 : decode cX7_search 55 = .ok (.iload 5, 2) := by decide +kernel
theorem dX7_search_57 : decode cX7_search 57 = .ok (.aload_n 0, 1) := by decide +kernel
theorem dX7_search_58 : decode cX7_search 58 = .ok (.getfield 91, 3) := by decide +kernel
theorem dX7_search_61 : decode cX7_search 61 = .ok (.if_icmp .ge 43, 3) := by decide +kernel
theorem dX7_search_64 : decode cX7_search 64 = .ok (.aload_n 0, 1) := by decide +kernel
theorem dX7_search_65 : decode cX7_search 65 = .ok (.iload 5, 2) := by decide +kernel
theorem dX7_search_67 : decode cX7_search 67 = .ok (.iload_n 2, 1) := by decide +kernel
theorem dX7_search_68 : decode cX7_search 68 = .ok (.invokevirtual 125, 3) := by decide +kernel
theorem dX7_search_71 : decode cX7_search 71 = .ok (.ifCond .ne 6, 3) := by decide +kernel
theorem dX7_search_74 : decode cX7_search 74 = .ok (.goto 24, 3) := by decide +kernel
theorem dX7_search_77 : decode cX7_search 77 = .ok (.aload_n 0, 1) := by decide +kernel
theorem dX7_search_78 : decode cX7_search 78 = .ok (.getfield 50, 3) := by decide +kernel
theorem dX7_search_81 : decode cX7_search 81 = .ok (.bipush 100, 2) := by decide +kernel
theorem dX7_search_83 : decode cX7_search 83 = .ok (.iconst 5, 1) := by decide +kernel
theorem dX7_search_84 : decode cX7_search 84 = .ok (.iload_n 1, 1) := by decide +kernel
theorem dX7_search_85 : decode cX7_search 85 = .ok (.imul, 1) := by decide +kernel
theorem dX7_search_86 : decode cX7_search 86 = .ok (.iload_n 3, 1) := by decide +kernel
theorem dX7_search_87 : decode cX7_search 87 = .ok (.iadd, 1) := by decide +kernel
theorem dX7_search_88 : decode cX7_search 88 = .ok (.imul, 1) := by decide +kernel
theorem dX7_search_89 : decode cX7_search 89 = .ok (.iload 4, 2) := by decide +kernel
theorem dX7_search_91 : decode cX7_search 91 = .ok (.iadd, 1) := by decide +kernel
theorem dX7_search_92 : decode cX7_search 92 = .ok (.iload 5, 2) := by decide +kernel
theorem dX7_search_94 : decode cX7_search 94 = .ok (.iastore, 1) := by decide +kernel
theorem dX7_search_95 : decode cX7_search 95 = .ok (.iinc 4 1, 3) := by decide +kernel
theorem dX7_search_98 : decode cX7_search 98 = .ok (.iinc 5 1, 3) := by decide +kernel
theorem dX7_search_101 : decode cX7_search 101 = .ok (.goto (-46), 3) := by decide +kernel
theorem dX7_search_104 : decode cX7_search 104 = .ok (.aload_n 0, 1) := by decide +kernel
theorem dX7_search_105 : decode cX7_search 105 = .ok (.getfield 47, 3) := by decide +kernel
theorem dX7_search_108 : decode cX7_search 108 = .ok (.iconst 5, 1) := by decide +kernel
theorem dX7_search_109 : decode cX7_search 109 = .ok (.iload_n 1, 1) := by decide +kernel
theorem dX7_search_110 : decode cX7_search 110 = .ok (.imul, 1) := by decide +kernel
theorem dX7_search_111 : decode cX7_search 111 = .ok (.iload_n 3, 1) := by decide +kernel
theorem dX7_search_112 : decode cX7_search 112 = .ok (.iadd, 1) := by decide +kernel
theorem dX7_search_113 : decode cX7_search 113 = .ok (.iload 4, 2) := by decide +kernel
theorem dX7_search_115 : decode cX7_search 115 = .ok (.iastore, 1) := by decide +kernel
theorem dX7_search_116 : decode cX7_search 116 = .ok (.iload 4, 2) := by decide +kernel
theorem dX7_search_118 : decode cX7_search 118 = .ok (.ifCond .ne 13, 3) := by decide +kernel
theorem dX7_search_121 : decode cX7_search 121 = .ok (.aload_n 0, 1) := by decide +kernel
theorem dX7_search_122 : decode cX7_search 122 = .ok (.iload_n 1, 1) := by decide +kernel
theorem dX7_search_123 : decode cX7_search 123 = .ok (.bipush 108, 2) := by decide +kernel
theorem dX7_search_125 : decode cX7_search 125 = .ok (.invokevirtual 121, 3) := by decide +kernel
theorem dX7_search_128 : decode cX7_search 128 = .ok (.goto 5, 3) := by decide +kernel
theorem dX7_search_131 : decode cX7_search 131 = .ok (.iload 4, 2) := by decide +kernel
theorem dX7_search_133 : decode cX7_search 133 = .ok (.ireturn, 1) := by decide +kernel
theorem dX7_size_0 : decode cX7_size 0 = .ok (.aload_n 0, 1) := by decide +kernel
theorem dX7_size_1 : decode cX7_size 1 = .ok (.iconst 0, 1) := by decide +kernel
theorem dX7_size_2 : decode cX7_size 2 = .ok (.putfield 83, 3) := by decide +kernel
theorem dX7_size_5 : decode cX7_size 5 = .ok (.aload_n 0, 1) := by decide +kernel
theorem dX7_size_6 : decode cX7_size 6 = .ok (.iload_n 1, 1) := by decide +kernel
theorem dX7_size_7 : decode cX7_size 7 = .ok (.invokevirtual 118, 3) := by decide +kernel
theorem dX7_size_10 : decode cX7_size 10 = .ok (.ifCond .ne 6, 3) := by decide +kernel
theorem dX7_size_13 : decode cX7_size 13 = .ok (.bipush (-101), 2) := by decide +kernel
theorem dX7_size_15 : decode cX7_size 15 = .ok (.ireturn, 1) := by decide +kernel
theorem dX7_size_16 : decode cX7_size 16 = .ok (.aload_n 0, 1) := by decide +kernel
theorem dX7_size_17 : decode cX7_size 17 = .ok (.iload_n 1, 1) := by decide +kernel
theorem dX7_size_18 : decode cX7_size 18 = .ok (.iload_n 2, 1) := by decide +kernel
theorem dX7_size_19 : decode cX7_size 19 = .ok (.invokevirtual 128, 3) := by decide +kernel
theorem dX7_size_22 : decode cX7_size 22 = .ok (.ifCond .eq 16, 3) := by decide +kernel
theorem dX7_size_25 : decode cX7_size 25 = .ok (.aload_n 0, 1) := by decide +kernel
theorem dX7_size_26 : decode cX7_size 26 = .ok (.getfield 47, 3) := by decide +kernel
theorem dX7_size_29 : decode cX7_size 29 = .ok (.iconst 5, 1) := by decide +kernel
theorem dX7_size_30 : decode cX7_size 30 = .ok (.iload_n 1, 1) := by decide +kernel
theorem dX7_size_31 : decode cX7_size 31 = .ok (.imul, 1) := by decide +kernel
theorem dX7_size_32 : decode cX7_size 32 = .ok (.iload_n 2, 1) := by decide +kernel
theorem dX7_size_33 : decode cX7_size 33 = .ok (.iadd, 1) := by decide +kernel
theorem dX7_size_34 : decode cX7_size 34 = .ok (.iaload, 1) := by decide +kernel
theorem dX7_size_35 : decode cX7_size 35 = .ok (.goto 5, 3) := by decide +kernel
theorem dX7_size_38 : decode cX7_size 38 = .ok (.bipush (-104), 2) := by decide +kernel
theorem dX7_size_40 : decode cX7_size 40 = .ok (.ireturn, 1) := by decide +kernel
theorem dX7_present_0 : decode cX7_present 0 = .ok (.aload_n 0, 1) := by decide +kernel
theorem dX7_present_1 : decode cX7_present 1 = .ok (.iconst 0, 1) := by decide +kernel
theorem dX7_present_2 : decode cX7_present 2 = .ok (.putfield 83, 3) := by decide +kernel
theorem dX7_present_5 : decode cX7_present 5 = .ok (.aload_n 0, 1) := by decide +kernel
theorem dX7_present_6 : decode cX7_present 6 = .ok (.iload_n 1, 1) := by decide +kernel
theorem dX7_present_7 : decode cX7_present 7 = .ok (.invokevirtual 118, 3) := by decide +kernel
theorem dX7_present_10 : decode cX7_present 10 = .ok (.ifCond .ne 6, 3) := by decide +kernel
theorem dX7_present_13 : decode cX7_present 13 = .ok (.bipush (-101), 2) := by decide +kernel
theorem dX7_present_15 : decode cX7_present 15 = .ok (.ireturn, 1) := by decide +kernel
theorem dX7_present_16 : decode cX7_present 16 = .ok (.aload_n 0, 1) := by decide +kernel
theorem dX7_present_17 : decode cX7_present 17 = .ok (.iload_n 1, 1) := by decide +kernel
theorem dX7_present_18 : decode cX7_present 18 = .ok (.iload_n 2, 1) := by decide +kernel
theorem dX7_present_19 : decode cX7_present 19 = .ok (.invokevirtual 128, 3) := by decide +kernel
theorem dX7_present_22 : decode cX7_present 22 = .ok (.ifCond .ne 11, 3) := by decide +kernel
theorem dX7_present_25 : decode cX7_present 25 = .ok (.aload_n 0, 1) := by decide +kernel
theorem dX7_present_26 : decode cX7_present 26 = .ok (.iload_n 1, 1) := by decide +kernel
theorem dX7_present_27 : decode cX7_present 27 = .ok (.bipush 104, 2) := by decide +kernel
theorem dX7_present_29 : decode cX7_present 29 = .ok (.invokevirtual 121, 3) := by decide +kernel
theorem dX7_present_32 : decode cX7_present 32 = .ok (.ireturn, 1) := by decide +kernel
theorem dX7_present_33 : decode cX7_present 33 = .ok (.iload 4, 2) := by decide +kernel
theorem dX7_present_35 : decode cX7_present 35 = .ok (.iconst 1, 1) := by decide +kernel
theorem dX7_present_36 : decode cX7_present 36 = .ok (.if_icmp .ge 11, 3) := by decide +kernel
theorem dX7_present_39 : decode cX7_present 39 = .ok (.aload_n 0, 1) := by decide +kernel
theorem dX7_present_40 : decode cX7_present 40 = .ok (.iload_n 1, 1) := by decide +kernel
theorem dX7_present_41 : decode cX7_present 41 = .ok (.bipush 107, 2) := by decide +kernel
theorem dX7_present_43 : decode cX7_present 43 = .ok (.invokevirtual 121, 3) := by decide +kernel
theorem dX7_present_46 : decode cX7_present 46 = .ok (.ireturn, 1) := by decide +kernel
theorem dX7_present_47 : decode cX7_present 47 = .ok (.aload_n 0, 1) := by decide +kernel
theorem dX7_present_48 : decode cX7_present 48 = .ok (.getfield 47, 3) := by decide +kernel
theorem dX7_present_51 : decode cX7_present 51 = .ok (.iconst 5, 1) := by decide +kernel
theorem dX7_present_52 : decode cX7_present 52 = .ok (.iload_n 1, 1) := by decide +kernel
theorem dX7_present_53 : decode cX7_present 53 = .ok (.imul, 1) := by decide +kernel
theorem dX7_present_54 : decode cX7_present 54 = .ok (.iload_n 2, 1) := by decide +kernel
theorem dX7_present_55 : decode cX7_present 55 = .ok (.iadd, 1) := by decide +kernel
theorem dX7_present_56 : decode cX7_present 56 = .ok (.iaload, 1) := by decide +kernel
theorem dX7_present_57 : decode cX7_present 57 = .ok (.istore 5, 2) := by decide +kernel
theorem dX7_present_59 : decode cX7_present 59 = .ok (.iload_n 3, 1) := by decide +kernel
theorem dX7_present_60 : decode cX7_present 60 = .ok (.ifCond .lt 18, 3) := by decide +kernel
theorem dX7_present_63 : decode cX7_present 63 = .ok (.iload_n 3, 1) := by decide +kernel
theorem dX7_present_64 : decode cX7_present 64 = .ok (.iload 5, 2) := by decide +kernel
theorem dX7_present_66 : decode cX7_present 66 = .ok (.if_icmp .gt 12, 3) := by decide +kernel
theorem dX7_present_69 : decode cX7_present 69 = .ok (.iload 4, 2) := by decide +kernel
theorem dX7_present_71 : decode cX7_present 71 = .ok (.iload 5, 2) := by decide +kernel
theorem dX7_present_73 : decode cX7_present 73 = .ok (.iload_n 3, 1) := by decide +kernel
theorem dX7_present_74 : decode cX7_present 74 = .ok (.isub, 1) := by decide +kernel
theorem dX7_present_75 : decode cX7_present 75 = .ok (.if_icmp .le 11, 3) := by decide +kernel
theorem dX7_present_78 : decode cX7_present 78 = .ok (.aload_n 0, 1) := by decide +kernel
theorem dX7_present_79 : decode cX7_present 79 = .ok (.iload_n 1, 1) := by decide +kernel
theorem dX7_present_80 : decode cX7_present 80 = .ok (.bipush 105, 2) := by decide +kernel
theorem dX7_present_82 : decode cX7_present 82 = .ok (.invokevirtual 121, 3) := by decide +kernel
theorem dX7_present_85 : decode cX7_present 85 = .ok (.ireturn, 1) := by decide +kernel
theorem dX7_present_86 : decode cX7_present 86 = .ok (.aload_n 0, 1) := by decide +kernel
theorem dX7_present_87 : decode cX7_present 87 = .ok (.getfield 53, 3) := by decide +kernel
theorem dX7_present_90 : decode cX7_present 90 = .ok (.iload_n 1, 1) := by decide +kernel
theorem dX7_present_91 : decode cX7_present 91 = .ok (.iload 4, 2) := by decide +kernel
theorem dX7_present_93 : decode cX7_present 93 = .ok (.iastore, 1) := by decide +kernel
theorem dX7_present_94 : decode cX7_present 94 = .ok (.iconst 0, 1) := by decide +kernel
theorem dX7_present_95 : decode cX7_present 95 = .ok (.istore 6, 2) := by decide +kernel
theorem dX7_present_97 : decode cX7_present 97 = .ok (.iconst 0, 1) := by decide +kernel
theorem dX7_present_98 : decode cX7_present 98 = .ok (.istore 7, 2) := by decide +kernel
theorem dX7_present_100 : decode cX7_present 100 = .ok (.iload 7, 2) := by decide +kernel
theorem dX7_present_102 : decode cX7_present 102 = .ok (.iload 4, 2) := by decide +kernel
theorem dX7_present_104 : decode cX7_present 104 = .ok (.if_icmp .ge 154, 3) := by decide +kernel
theorem dX7_present_107 : decode cX7_present 107 = .ok (.aload_n 0, 1) := by decide +kernel
theorem dX7_present_108 : decode cX7_present 108 = .ok (.getfield 50, 3) := by decide +kernel
theorem dX7_present_111 : decode cX7_present 111 = .ok (.bipush 100, 2) := by decide +kernel
theorem dX7_present_113 : decode cX7_present 113 = .ok (.iconst 5, 1) := by decide +kernel
theorem dX7_present_114 : decode cX7_present 114 = .ok (.iload_n 1, 1) := by decide +kernel
theorem dX7_present_115 : decode cX7_present 115 = .ok (.imul, 1) := by decide +kernel
theorem dX7_present_116 : decode cX7_present 116 = .ok (.iload_n 2, 1) := by decide +kernel
theorem dX7_present_117 : decode cX7_present 117 = .ok (.iadd, 1) := by decide +kernel
theorem dX7_present_118 : decode cX7_present 118 = .ok (.imul, 1) := by decide +kernel
theorem dX7_present_119 : decode cX7_present 119 = .ok (.iload_n 3, 1) := by decide +kernel
theorem dX7_present_120 : decode cX7_present 120 = .ok (.iadd, 1) := by decide +kernel
theorem dX7_present_121 : decode cX7_present 121 = .ok (.iload 7, 2) := by decide +kernel
theorem dX7_present_123 : decode cX7_present 123 = .ok (.iadd, 1) := by decide +kernel
theorem dX7_present_124 : decode cX7_present 124 = .ok (.iaload, 1) := by decide +kernel
theorem dX7_present_125 : decode cX7_present 125 = .ok (.istore 8, 2) := by decide +kernel
theorem dX7_present_127 : decode cX7_present 127 = .ok (.aload_n 0, 1) := by decide +kernel
theorem dX7_present_128 : decode cX7_present 128 = .ok (.getfield 56, 3) := by decide +kernel
theorem dX7_present_131 : decode cX7_present 131 = .ok (.bipush 100, 2) := by decide +kernel
theorem dX7_present_133 : decode cX7_present 133 = .ok (.iload_n 1, 1) := by decide +kernel
theorem dX7_present_134 : decode cX7_present 134 = .ok (.imul, 1) := by decide +kernel
theorem dX7_present_135 : decode cX7_present 135 = .ok (.iload 7, 2) := by decide +kernel
theorem dX7_present_137 : decode cX7_present 137 = .ok (.iadd, 1) := by decide +kernel
theorem dX7_present_138 : decode cX7_present 138 = .ok (.iload 8, 2) := by decide +kernel
theorem dX7_present_140 : decode cX7_present 140 = .ok (.iastore, 1) := by decide +kernel
theorem dX7_present_141 : decode cX7_present 141 = .ok (.bipush 100, 2) := by decide +kernel
theorem dX7_present_143 : decode cX7_present 143 = .ok (.iload_n 1, 1) := by decide +kernel
theorem dX7_present_144 : decode cX7_present 144 = .ok (.imul, 1) := by decide +kernel
theorem dX7_present_145 : decode cX7_present 145 = .ok (.iload 6, 2) := by decide +kernel
theorem dX7_present_147 : decode cX7_present 147 = .ok (.iadd, 1) := by decide +kernel
theorem dX7_present_148 : decode cX7_present 148 = .ok (.iconst 1, 1) := by decide +kernel
theorem dX7_present_149 : decode cX7_present 149 = .ok (.isub, 1) := by decide +kernel
theorem dX7_present_150 : decode cX7_present 150 = .ok (.istore 9, 2) := by decide +kernel
theorem dX7_present_152 : decode cX7_present 152 = .ok (.iload 6, 2) := by decide +kernel
theorem dX7_present_154 : decode cX7_present 154 = .ok (.ifCond .le 58, 3) := by decide +kernel
theorem dX7_present_157 : decode cX7_present 157 = .ok (.aload_n 0, 1) := by decide +kernel
theorem dX7_present_158 : decode cX7_present 158 = .ok (.getfield 68, 3) := by decide +kernel
theorem dX7_present_161 : decode cX7_present 161 = .ok (.iload 9, 2) := by decide +kernel
theorem dX7_present_163 : decode cX7_present 163 = .ok (.iaload, 1) := by decide +kernel
theorem dX7_present_164 : decode cX7_present 164 = .ok (.aload_n 0, 1) := by decide +kernel
theorem dX7_present_165 : decode cX7_present 165 = .ok (.getfield 7, 3) := by decide +kernel
theorem dX7_present_168 : decode cX7_present 168 = .ok (.iload 8, 2) := by decide +kernel
theorem dX7_present_170 : decode cX7_present 170 = .ok (.iaload, 1) := by decide +kernel
theorem dX7_present_171 : decode cX7_present 171 = .ok (.iadd, 1) := by decide +kernel
theorem dX7_present_172 : decode cX7_present 172 = .ok (.aload_n 0, 1) := by decide +kernel
theorem dX7_present_173 : decode cX7_present 173 = .ok (.getfield 35, 3) := by decide +kernel
theorem dX7_present_176 : decode cX7_present 176 = .ok (.iload_n 1, 1) := by decide +kernel
theorem dX7_present_177 : decode cX7_present 177 = .ok (.iaload, 1) := by decide +kernel
theorem dX7_present_178 : decode cX7_present 178 = .ok (.if_icmp .gt 34, 3) := by decide +kernel
theorem dX7_present_181 : decode cX7_present 181 = .ok (.aload_n 0, 1) := by decide +kernel
theorem dX7_present_182 : decode cX7_present 182 = .ok (.getfield 65, 3) := by decide +kernel
theorem dX7_present_185 : decode cX7_present 185 = .ok (.iload 9, 2) := by decide +kernel
theorem dX7_present_187 : decode cX7_present 187 = .ok (.dup2, 1) := by decide +kernel
theorem dX7_present_188 : decode cX7_present 188 = .ok (.iaload, 1) := by decide +kernel
theorem dX7_present_189 : decode cX7_present 189 = .ok (.iconst 1, 1) := by decide +kernel
theorem dX7_present_190 : decode cX7_present 190 = .ok (.iadd, 1) := by decide +kernel
theorem dX7_present_191 : decode cX7_present 191 = .ok (.iastore, 1) := by decide +kernel
theorem dX7_present_192 : decode cX7_present 192 = .ok (.aload_n 0, 1) := by decide +kernel
theorem dX7_present_193 : decode cX7_present 193 = .ok (.getfield 68, 3) := by decide +kernel
theorem dX7_present_196 : decode cX7_present 196 = .ok (.iload 9, 2) := by decide +kernel
theorem dX7_present_198 : decode cX7_present 198 = .ok (.dup2, 1) := by decide +kernel
theorem dX7_present_199 : decode cX7_present 199 = .ok (.iaload, 1) := by decide +kernel
theorem dX7_present_200 : decode cX7_present 200 = .ok (.aload_n 0, 1) := by decide +kernel
theorem dX7_present_201 : decode cX7_present 201 = .ok (.getfield 7, 3) := by decide +kernel
theorem dX7_present_204 : decode cX7_present 204 = .ok (.iload 8, 2) := by decide +kernel
theorem dX7_present_206 : decode cX7_present 206 = .ok (.iaload, 1) := by decide +kernel
theorem dX7_present_207 : decode cX7_present 207 = .ok (.iadd, 1) := by decide +kernel
theorem dX7_present_208 : decode cX7_present 208 = .ok (.iastore, 1) := by decide +kernel
theorem dX7_present_209 : decode cX7_present 209 = .ok (.goto 43, 3) := by decide +kernel
theorem dX7_present_212 : decode cX7_present 212 = .ok (.aload_n 0, 1) := by decide +kernel
theorem dX7_present_213 : decode cX7_present 213 = .ok (.getfield 62, 3) := by decide +kernel
theorem dX7_present_216 : decode cX7_present 216 = .ok (.iload 9, 2) := by decide +kernel
theorem dX7_present_218 : decode cX7_present 218 = .ok (.iconst 1, 1) := by decide +kernel
theorem dX7_present_219 : decode cX7_present 219 = .ok (.iadd, 1) := by decide +kernel
theorem dX7_present_220 : decode cX7_present 220 = .ok (.iload 7, 2) := by decide +kernel
theorem dX7_present_222 : decode cX7_present 222 = .ok (.iastore, 1) := by decide +kernel
theorem dX7_present_223 : decode cX7_present 223 = .ok (.aload_n 0, 1) := by decide +kernel
theorem dX7_present_224 : decode cX7_present 224 = .ok (.getfield 65, 3) := by decide +kernel
theorem dX7_present_227 : decode cX7_present 227 = .ok (.iload 9, 2) := by decide +kernel
theorem dX7_present_229 : decode cX7_present 229 = .ok (.iconst 1, 1) := by decide +kernel
theorem dX7_present_230 : decode cX7_present 230 = .ok (.iadd, 1) := by decide +kernel
theorem dX7_present_231 : decode cX7_present 231 = .ok (.iconst 1, 1) := by decide +kernel
theorem dX7_present_232 : decode cX7_present 232 = .ok (.iastore, 1) := by decide +kernel
theorem dX7_present_233 : decode cX7_present 233 = .ok (.aload_n 0, 1) := by decide +kernel
theorem dX7_present_234 : decode cX7_present 234 = .ok (.getfield 68, 3) := by decide +kernel
theorem dX7_present_237 : decode cX7_present 237 = .ok (.iload 9, 2) := by decide +kernel
theorem dX7_present_239 : decode cX7_present 239 = .ok (.iconst 1, 1) := by decide +kernel
theorem dX7_present_240 : decode cX7_present 240 = .ok (.iadd, 1) := by decide +kernel
theorem dX7_present_241 : decode cX7_present 241 = .ok (.aload_n 0, 1) := by decide +kernel
theorem dX7_present_242 : decode cX7_present 242 = .ok (.getfield 7, 3) := by decide +kernel
theorem dX7_present_245 : decode cX7_present 245 = .ok (.iload 8, 2) := by decide +kernel
theorem dX7_present_247 : decode cX7_present 247 = .ok (.iaload, 1) := by decide +kernel
theorem dX7_present_248 : decode cX7_present 248 = .ok (.iastore, 1) := by decide +kernel
theorem dX7_present_249 : decode cX7_present 249 = .ok (.iinc 6 1, 3) := by decide +kernel
theorem dX7_present_252 : decode cX7_present 252 = .ok (.iinc 7 1, 3) := by decide +kernel
theorem dX7_present_255 : decode cX7_present 255 = .ok (.goto (-155), 3) := by decide +kernel
theorem dX7_present_258 : decode cX7_present 258 = .ok (.aload_n 0, 1) := by decide +kernel
theorem dX7_present_259 : decode cX7_present 259 = .ok (.getfield 59, 3) := by decide +kernel
theorem dX7_present_262 : decode cX7_present 262 = .ok (.iload_n 1, 1) := by decide +kernel
theorem dX7_present_263 : decode cX7_present 263 = .ok (.iload 6, 2) := by decide +kernel
theorem dX7_present_265 : decode cX7_present 265 = .ok (.iastore, 1) := by decide +kernel
theorem dX7_present_266 : decode cX7_present 266 = .ok (.iload 6, 2) := by decide +kernel
theorem dX7_present_268 : decode cX7_present 268 = .ok (.ireturn, 1) := by decide +kernel
theorem dX7_segment_0 : decode cX7_segment 0 = .ok (.aload_n 0, 1) := by decide +kernel
theorem dX7_segment_1 : decode cX7_segment 1 = .ok (.iconst 0, 1) := by decide +kernel
theorem dX7_segment_2 : decode cX7_segment 2 = .ok (.putfield 83, 3) := by decide +kernel
theorem dX7_segment_5 : decode cX7_segment 5 = .ok (.iload_n 1, 1) := by decide +kernel
theorem dX7_segment_6 : decode cX7_segment 6 = .ok (.iconst 0, 1) := by decide +kernel
theorem dX7_segment_7 : decode cX7_segment 7 = .ok (.aload_n 0, 1) := by decide +kernel
theorem dX7_segment_8 : decode cX7_segment 8 = .ok (.getfield 107, 3) := by decide +kernel
theorem dX7_segment_11 : decode cX7_segment 11 = .ok (.iconst 1, 1) := by decide +kernel
theorem dX7_segment_12 : decode cX7_segment 12 = .ok (.isub, 1) := by decide +kernel
theorem dX7_segment_13 : decode cX7_segment 13 = .ok (.invokestatic 87, 3) := by decide +kernel
theorem dX7_segment_16 : decode cX7_segment 16 = .ok (.ifCond .eq 19, 3) := by decide +kernel
theorem dX7_segment_19 : decode cX7_segment 19 = .ok (.iload_n 2, 1) := by decide +kernel
theorem dX7_segment_20 : decode cX7_segment 20 = .ok (.iconst 0, 1) := by decide +kernel
theorem dX7_segment_21 : decode cX7_segment 21 = .ok (.aload_n 0, 1) := by decide +kernel
theorem dX7_segment_22 : decode cX7_segment 22 = .ok (.getfield 59, 3) := by decide +kernel
theorem dX7_segment_25 : decode cX7_segment 25 = .ok (.iload_n 1, 1) := by decide +kernel
theorem dX7_segment_26 : decode cX7_segment 26 = .ok (.iaload, 1) := by decide +kernel
theorem dX7_segment_27 : decode cX7_segment 27 = .ok (.iconst 1, 1) := by decide +kernel
theorem dX7_segment_28 : decode cX7_segment 28 = .ok (.isub, 1) := by decide +kernel
theorem dX7_segment_29 : decode cX7_segment 29 = .ok (.invokestatic 87, 3) := by decide +kernel
theorem dX7_segment_32 : decode cX7_segment 32 = .ok (.ifCond .ne 5, 3) := by decide +kernel
theorem dX7_segment_35 : decode cX7_segment 35 = .ok (.iconst (-1), 1) := by decide +kernel
theorem dX7_segment_36 : decode cX7_segment 36 = .ok (.ireturn, 1) := by decide +kernel
theorem dX7_segment_37 : decode cX7_segment 37 = .ok (.bipush 100, 2) := by decide +kernel
theorem dX7_segment_39 : decode cX7_segment 39 = .ok (.iload_n 1, 1) := by decide +kernel
theorem dX7_segment_40 : decode cX7_segment 40 = .ok (.imul, 1) := by decide +kernel
theorem dX7_segment_41 : decode cX7_segment 41 = .ok (.iload_n 2, 1) := by decide +kernel
theorem dX7_segment_42 : decode cX7_segment 42 = .ok (.iadd, 1) := by decide +kernel
theorem dX7_segment_43 : decode cX7_segment 43 = .ok (.istore 4, 2) := by decide +kernel
theorem dX7_segment_45 : decode cX7_segment 45 = .ok (.iload_n 3, 1) := by decide +kernel
theorem dX7_segment_46 : decode cX7_segment 46 = .ok (.tableswitch 76 0 3 #[30, 38, 46, 54], 30) := by decide +kernel
theorem dX7_segment_76 : decode cX7_segment 76 = .ok (.aload_n 0, 1) := by decide +kernel
theorem dX7_segment_77 : decode cX7_segment 77 = .ok (.getfield 62, 3) := by decide +kernel
theorem dX7_segment_80 : decode cX7_segment 80 = .ok (.iload 4, 2) := by decide +kernel
theorem dX7_segment_82 : decode cX7_segment 82 = .ok (.iaload, 1) := by decide +kernel
theorem dX7_segment_83 : decode cX7_segment 83 = .ok (.ireturn, 1) := by decide +kernel
theorem dX7_segment_84 : decode cX7_segment 84 = .ok (.aload_n 0, 1) := by decide +kernel
theorem dX7_segment_85 : decode cX7_segment 85 = .ok (.getfield 65, 3) := by decide +kernel
theorem dX7_segment_88 : decode cX7_segment 88 = .ok (.iload 4, 2) := by decide +kernel
theorem dX7_segment_90 : decode cX7_segment 90 = .ok (.iaload, 1) := by decide +kernel
theorem dX7_segment_91 : decode cX7_segment 91 = .ok (.ireturn, 1) := by decide +kernel
theorem dX7_segment_92 : decode cX7_segment 92 = .ok (.aload_n 0, 1) := by decide +kernel
theorem dX7_segment_93 : decode cX7_segment 93 = .ok (.getfield 68, 3) := by decide +kernel
theorem dX7_segment_96 : decode cX7_segment 96 = .ok (.iload 4, 2) := by decide +kernel
theorem dX7_segment_98 : decode cX7_segment 98 = .ok (.iaload, 1) := by decide +kernel
theorem dX7_segment_99 : decode cX7_segment 99 = .ok (.ireturn, 1) := by decide +kernel
theorem dX7_segment_100 : decode cX7_segment 100 = .ok (.aload_n 0, 1) := by decide +kernel
theorem dX7_segment_101 : decode cX7_segment 101 = .ok (.getfield 68, 3) := by decide +kernel
theorem dX7_segment_104 : decode cX7_segment 104 = .ok (.iload 4, 2) := by decide +kernel
theorem dX7_segment_106 : decode cX7_segment 106 = .ok (.iaload, 1) := by decide +kernel
theorem dX7_segment_107 : decode cX7_segment 107 = .ok (.aload_n 0, 1) := by decide +kernel
theorem dX7_segment_108 : decode cX7_segment 108 = .ok (.getfield 35, 3) := by decide +kernel
theorem dX7_segment_111 : decode cX7_segment 111 = .ok (.iload_n 1, 1) := by decide +kernel
theorem dX7_segment_112 : decode cX7_segment 112 = .ok (.iaload, 1) := by decide +kernel
theorem dX7_segment_113 : decode cX7_segment 113 = .ok (.if_icmp .le 7, 3) := by decide +kernel
theorem dX7_segment_116 : decode cX7_segment 116 = .ok (.iconst 1, 1) := by decide +kernel
theorem dX7_segment_117 : decode cX7_segment 117 = .ok (.goto 4, 3) := by decide +kernel
theorem dX7_segment_120 : decode cX7_segment 120 = .ok (.iconst 0, 1) := by decide +kernel
theorem dX7_segment_121 : decode cX7_segment 121 = .ok (.ireturn, 1) := by decide +kernel
theorem dX7_segment_122 : decode cX7_segment 122 = .ok (.iconst (-1), 1) := by decide +kernel
theorem dX7_segment_123 : decode cX7_segment 123 = .ok (.ireturn, 1) := by decide +kernel
theorem dX7_at_0 : decode cX7_at 0 = .ok (.aload_n 0, 1) := by decide +kernel
theorem dX7_at_1 : decode cX7_at 1 = .ok (.iconst 0, 1) := by decide +kernel
theorem dX7_at_2 : decode cX7_at 2 = .ok (.putfield 83, 3) := by decide +kernel
theorem dX7_at_5 : decode cX7_at 5 = .ok (.iload_n 1, 1) := by decide +kernel
theorem dX7_at_6 : decode cX7_at 6 = .ok (.iconst 0, 1) := by decide +kernel
theorem dX7_at_7 : decode cX7_at 7 = .ok (.aload_n 0, 1) := by decide +kernel
theorem dX7_at_8 : decode cX7_at 8 = .ok (.getfield 107, 3) := by decide +kernel
theorem dX7_at_11 : decode cX7_at 11 = .ok (.iconst 1, 1) := by decide +kernel
theorem dX7_at_12 : decode cX7_at 12 = .ok (.isub, 1) := by decide +kernel
theorem dX7_at_13 : decode cX7_at 13 = .ok (.invokestatic 87, 3) := by decide +kernel
theorem dX7_at_16 : decode cX7_at 16 = .ok (.ifCond .eq 33, 3) := by decide +kernel
theorem dX7_at_19 : decode cX7_at 19 = .ok (.iload_n 2, 1) := by decide +kernel
theorem dX7_at_20 : decode cX7_at 20 = .ok (.iconst 0, 1) := by decide +kernel
theorem dX7_at_21 : decode cX7_at 21 = .ok (.aload_n 0, 1) := by decide +kernel
theorem dX7_at_22 : decode cX7_at 22 = .ok (.getfield 53, 3) := by decide +kernel
theorem dX7_at_25 : decode cX7_at 25 = .ok (.iload_n 1, 1) := by decide +kernel
theorem dX7_at_26 : decode cX7_at 26 = .ok (.iaload, 1) := by decide +kernel
theorem dX7_at_27 : decode cX7_at 27 = .ok (.iconst 1, 1) := by decide +kernel
theorem dX7_at_28 : decode cX7_at 28 = .ok (.isub, 1) := by decide +kernel
theorem dX7_at_29 : decode cX7_at 29 = .ok (.invokestatic 87, 3) := by decide +kernel
theorem dX7_at_32 : decode cX7_at 32 = .ok (.ifCond .eq 17, 3) := by decide +kernel
theorem dX7_at_35 : decode cX7_at 35 = .ok (.aload_n 0, 1) := by decide +kernel
theorem dX7_at_36 : decode cX7_at 36 = .ok (.getfield 56, 3) := by decide +kernel
theorem dX7_at_39 : decode cX7_at 39 = .ok (.bipush 100, 2) := by decide +kernel
theorem dX7_at_41 : decode cX7_at 41 = .ok (.iload_n 1, 1) := by decide +kernel
theorem dX7_at_42 : decode cX7_at 42 = .ok (.imul, 1) := by decide +kernel
theorem dX7_at_43 : decode cX7_at 43 = .ok (.iload_n 2, 1) := by decide +kernel
theorem dX7_at_44 : decode cX7_at 44 = .ok (.iadd, 1) := by decide +kernel
theorem dX7_at_45 : decode cX7_at 45 = .ok (.iaload, 1) := by decide +kernel
theorem dX7_at_46 : decode cX7_at 46 = .ok (.goto 4, 3) := by decide +kernel
theorem dX7_at_49 : decode cX7_at 49 = .ok (.iconst (-1), 1) := by decide +kernel
theorem dX7_at_50 : decode cX7_at 50 = .ok (.ireturn, 1) := by decide +kernel
theorem dX7_isBehind_0 : decode cX7_isBehind 0 = .ok (.aload_n 0, 1) := by decide +kernel
theorem dX7_isBehind_1 : decode cX7_isBehind 1 = .ok (.getfield 13, 3) := by decide +kernel
theorem dX7_isBehind_4 : decode cX7_isBehind 4 = .ok (.iconst 5, 1) := by decide +kernel
theorem dX7_isBehind_5 : decode cX7_isBehind 5 = .ok (.iload_n 1, 1) := by decide +kernel
theorem dX7_isBehind_6 : decode cX7_isBehind 6 = .ok (.imul, 1) := by decide +kernel
theorem dX7_isBehind_7 : decode cX7_isBehind 7 = .ok (.iload_n 3, 1) := by decide +kernel
theorem dX7_isBehind_8 : decode cX7_isBehind 8 = .ok (.iadd, 1) := by decide +kernel
theorem dX7_isBehind_9 : decode cX7_isBehind 9 = .ok (.iaload, 1) := by decide +kernel
theorem dX7_isBehind_10 : decode cX7_isBehind 10 = .ok (.istore 5, 2) := by decide +kernel
theorem dX7_isBehind_12 : decode cX7_isBehind 12 = .ok (.aload_n 0, 1) := by decide +kernel
theorem dX7_isBehind_13 : decode cX7_isBehind 13 = .ok (.getfield 13, 3) := by decide +kernel
theorem dX7_isBehind_16 : decode cX7_isBehind 16 = .ok (.iconst 5, 1) := by decide +kernel
theorem dX7_isBehind_17 : decode cX7_isBehind 17 = .ok (.iload_n 2, 1) := by decide +kernel
theorem dX7_isBehind_18 : decode cX7_isBehind 18 = .ok (.imul, 1) := by decide +kernel
theorem dX7_isBehind_19 : decode cX7_isBehind 19 = .ok (.iload_n 3, 1) := by decide +kernel
theorem dX7_isBehind_20 : decode cX7_isBehind 20 = .ok (.iadd, 1) := by decide +kernel
theorem dX7_isBehind_21 : decode cX7_isBehind 21 = .ok (.iaload, 1) := by decide +kernel
theorem dX7_isBehind_22 : decode cX7_isBehind 22 = .ok (.istore 6, 2) := by decide +kernel
theorem dX7_isBehind_24 : decode cX7_isBehind 24 = .ok (.iload 5, 2) := by decide +kernel
theorem dX7_isBehind_26 : decode cX7_isBehind 26 = .ok (.ifCond .ge 5, 3) := by decide +kernel
theorem dX7_isBehind_29 : decode cX7_isBehind 29 = .ok (.iconst 1, 1) := by decide +kernel
theorem dX7_isBehind_30 : decode cX7_isBehind 30 = .ok (.ireturn, 1) := by decide +kernel
theorem dX7_isBehind_31 : decode cX7_isBehind 31 = .ok (.iload 6, 2) := by decide +kernel
theorem dX7_isBehind_33 : decode cX7_isBehind 33 = .ok (.ifCond .lt 29, 3) := by decide +kernel
theorem dX7_isBehind_36 : decode cX7_isBehind 36 = .ok (.iload 4, 2) := by decide +kernel
theorem dX7_isBehind_38 : decode cX7_isBehind 38 = .ok (.ifCond .eq 13, 3) := by decide +kernel
theorem dX7_isBehind_41 : decode cX7_isBehind 41 = .ok (.iload 5, 2) := by decide +kernel
theorem dX7_isBehind_43 : decode cX7_isBehind 43 = .ok (.iload 6, 2) := by decide +kernel
theorem dX7_isBehind_45 : decode cX7_isBehind 45 = .ok (.if_icmp .gt 17, 3) := by decide +kernel
theorem dX7_isBehind_48 : decode cX7_isBehind 48 = .ok (.goto 10, 3) := by decide +kernel
theorem dX7_isBehind_51 : decode cX7_isBehind 51 = .ok (.iload 5, 2) := by decide +kernel
theorem dX7_isBehind_53 : decode cX7_isBehind 53 = .ok (.iload 6, 2) := by decide +kernel
theorem dX7_isBehind_55 : decode cX7_isBehind 55 = .ok (.if_icmp .lt 7, 3) := by decide +kernel
theorem dX7_isBehind_58 : decode cX7_isBehind 58 = .ok (.iconst 1, 1) := by decide +kernel
theorem dX7_isBehind_59 : decode cX7_isBehind 59 = .ok (.goto 4, 3) := by decide +kernel
theorem dX7_isBehind_62 : decode cX7_isBehind 62 = .ok (.iconst 0, 1) := by decide +kernel
theorem dX7_isBehind_63 : decode cX7_isBehind 63 = .ok (.ireturn, 1) := by decide +kernel
theorem dX7_sort_0 : decode cX7_sort 0 = .ok (.aload_n 0, 1) := by decide +kernel
theorem dX7_sort_1 : decode cX7_sort 1 = .ok (.iconst 0, 1) := by decide +kernel
theorem dX7_sort_2 : decode cX7_sort 2 = .ok (.putfield 83, 3) := by decide +kernel
theorem dX7_sort_5 : decode cX7_sort 5 = .ok (.aload_n 0, 1) := by decide +kernel
theorem dX7_sort_6 : decode cX7_sort 6 = .ok (.iload_n 1, 1) := by decide +kernel
theorem dX7_sort_7 : decode cX7_sort 7 = .ok (.invokevirtual 118, 3) := by decide +kernel
theorem dX7_sort_10 : decode cX7_sort 10 = .ok (.ifCond .ne 6, 3) := by decide +kernel
theorem dX7_sort_13 : decode cX7_sort 13 = .ok (.bipush (-101), 2) := by decide +kernel
theorem dX7_sort_15 : decode cX7_sort 15 = .ok (.ireturn, 1) := by decide +kernel
theorem dX7_sort_16 : decode cX7_sort 16 = .ok (.aload_n 0, 1) := by decide +kernel
theorem dX7_sort_17 : decode cX7_sort 17 = .ok (.getfield 32, 3) := by decide +kernel
theorem dX7_sort_20 : decode cX7_sort 20 = .ok (.iload_n 1, 1) := by decide +kernel
theorem dX7_sort_21 : decode cX7_sort 21 = .ok (.iaload, 1) := by decide +kernel
theorem dX7_sort_22 : decode cX7_sort 22 = .ok (.iconst 1, 1) := by decide +kernel
theorem dX7_sort_23 : decode cX7_sort 23 = .ok (.iand, 1) := by decide +kernel
theorem dX7_sort_24 : decode cX7_sort 24 = .ok (.ifCond .ne 11, 3) := by decide +kernel
theorem dX7_sort_27 : decode cX7_sort 27 = .ok (.aload_n 0, 1) := by decide +kernel
theorem dX7_sort_28 : decode cX7_sort 28 = .ok (.iload_n 1, 1) := by decide +kernel
theorem dX7_sort_29 : decode cX7_sort 29 = .ok (.bipush 102, 2) := by decide +kernel
theorem dX7_sort_31 : decode cX7_sort 31 = .ok (.invokevirtual 121, 3) := by decide +kernel
theorem dX7_sort_34 : decode cX7_sort 34 = .ok (.ireturn, 1) := by decide +kernel
theorem dX7_sort_35 : decode cX7_sort 35 = .ok (.aload_n 0, 1) := by decide +kernel
theorem dX7_sort_36 : decode cX7_sort 36 = .ok (.iload_n 1, 1) := by decide +kernel
theorem dX7_sort_37 : decode cX7_sort 37 = .ok (.iload_n 2, 1) := by decide +kernel
theorem dX7_sort_38 : decode cX7_sort 38 = .ok (.invokevirtual 128, 3) := by decide +kernel
theorem dX7_sort_41 : decode cX7_sort 41 = .ok (.ifCond .ne 11, 3) := by decide +kernel
theorem dX7_sort_44 : decode cX7_sort 44 = .ok (.aload_n 0, 1) := by decide +kernel
theorem dX7_sort_45 : decode cX7_sort 45 = .ok (.iload_n 1, 1) := by decide +kernel
theorem dX7_sort_46 : decode cX7_sort 46 = .ok (.bipush 104, 2) := by decide +kernel
theorem dX7_sort_48 : decode cX7_sort 48 = .ok (.invokevirtual 121, 3) := by decide +kernel
theorem dX7_sort_51 : decode cX7_sort 51 = .ok (.ireturn, 1) := by decide +kernel
theorem dX7_sort_52 : decode cX7_sort 52 = .ok (.iload_n 3, 1) := by decide +kernel
theorem dX7_sort_53 : decode cX7_sort 53 = .ok (.invokestatic 94, 3) := by decide +kernel
theorem dX7_sort_56 : decode cX7_sort 56 = .ok (.ifCond .ne 11, 3) := by decide +kernel
theorem dX7_sort_59 : decode cX7_sort 59 = .ok (.aload_n 0, 1) := by decide +kernel
theorem dX7_sort_60 : decode cX7_sort 60 = .ok (.iload_n 1, 1) := by decide +kernel
theorem dX7_sort_61 : decode cX7_sort 61 = .ok (.bipush 106, 2) := by decide +kernel
theorem dX7_sort_63 : decode cX7_sort 63 = .ok (.invokevirtual 121, 3) := by decide +kernel
theorem dX7_sort_66 : decode cX7_sort 66 = .ok (.ireturn, 1) := by decide +kernel
theorem dX7_sort_67 : decode cX7_sort 67 = .ok (.bipush 100, 2) := by decide +kernel
theorem dX7_sort_69 : decode cX7_sort 69 = .ok (.iconst 5, 1) := by decide +kernel
theorem dX7_sort_70 : decode cX7_sort 70 = .ok (.iload_n 1, 1) := by decide +kernel
theorem dX7_sort_71 : decode cX7_sort 71 = .ok (.imul, 1) := by decide +kernel
theorem dX7_sort_72 : decode cX7_sort 72 = .ok (.iload_n 2, 1) := by decide +kernel
theorem dX7_sort_73 : decode cX7_sort 73 = .ok (.iadd, 1) := by decide +kernel
theorem dX7_sort_74 : decode cX7_sort 74 = .ok (.imul, 1) := by decide +kernel
theorem dX7_sort_75 : decode cX7_sort 75 = .ok (.istore 5, 2) := by decide +kernel
theorem dX7_sort_77 : decode cX7_sort 77 = .ok (.iconst 0, 1) := by decide +kernel
theorem dX7_sort_78 : decode cX7_sort 78 = .ok (.istore 6, 2) := by decide +kernel
theorem dX7_sort_80 : decode cX7_sort 80 = .ok (.iconst 0, 1) := by decide +kernel
theorem dX7_sort_81 : decode cX7_sort 81 = .ok (.istore 7, 2) := by decide +kernel
theorem dX7_sort_83 : decode cX7_sort 83 = .ok (.iload 7, 2) := by decide +kernel
theorem dX7_sort_85 : decode cX7_sort 85 = .ok (.aload_n 0, 1) := by decide +kernel
theorem dX7_sort_86 : decode cX7_sort 86 = .ok (.getfield 47, 3) := by decide +kernel
theorem dX7_sort_89 : decode cX7_sort 89 = .ok (.iconst 5, 1) := by decide +kernel
theorem dX7_sort_90 : decode cX7_sort 90 = .ok (.iload_n 1, 1) := by decide +kernel
theorem dX7_sort_91 : decode cX7_sort 91 = .ok (.imul, 1) := by decide +kernel
theorem dX7_sort_92 : decode cX7_sort 92 = .ok (.iload_n 2, 1) := by decide +kernel
theorem dX7_sort_93 : decode cX7_sort 93 = .ok (.iadd, 1) := by decide +kernel
theorem dX7_sort_94 : decode cX7_sort 94 = .ok (.iaload, 1) := by decide +kernel
theorem dX7_sort_95 : decode cX7_sort 95 = .ok (.if_icmp .ge 118, 3) := by decide +kernel
theorem dX7_sort_98 : decode cX7_sort 98 = .ok (.aload_n 0, 1) := by decide +kernel
theorem dX7_sort_99 : decode cX7_sort 99 = .ok (.getfield 50, 3) := by decide +kernel
theorem dX7_sort_102 : decode cX7_sort 102 = .ok (.iload 5, 2) := by decide +kernel
theorem dX7_sort_104 : decode cX7_sort 104 = .ok (.iload 7, 2) := by decide +kernel
theorem dX7_sort_106 : decode cX7_sort 106 = .ok (.iadd, 1) := by decide +kernel
theorem dX7_sort_107 : decode cX7_sort 107 = .ok (.iaload, 1) := by decide +kernel
theorem dX7_sort_108 : decode cX7_sort 108 = .ok (.istore 8, 2) := by decide +kernel
theorem dX7_sort_110 : decode cX7_sort 110 = .ok (.iload 6, 2) := by decide +kernel
theorem dX7_sort_112 : decode cX7_sort 112 = .ok (.aload_n 0, 1) := by decide +kernel
theorem dX7_sort_113 : decode cX7_sort 113 = .ok (.getfield 13, 3) := by decide +kernel
theorem dX7_sort_116 : decode cX7_sort 116 = .ok (.iconst 5, 1) := by decide +kernel
theorem dX7_sort_117 : decode cX7_sort 117 = .ok (.iload 8, 2) := by decide +kernel
theorem dX7_sort_119 : decode cX7_sort 119 = .ok (.imul, 1) := by decide +kernel
theorem dX7_sort_120 : decode cX7_sort 120 = .ok (.iload_n 3, 1) := by decide +kernel
theorem dX7_sort_121 : decode cX7_sort 121 = .ok (.iadd, 1) := by decide +kernel
theorem dX7_sort_122 : decode cX7_sort 122 = .ok (.iaload, 1) := by decide +kernel
theorem dX7_sort_123 : decode cX7_sort 123 = .ok (.ifCond .ge 7, 3) := by decide +kernel
theorem dX7_sort_126 : decode cX7_sort 126 = .ok (.iconst 1, 1) := by decide +kernel
theorem dX7_sort_127 : decode cX7_sort 127 = .ok (.goto 4, 3) := by decide +kernel
theorem dX7_sort_130 : decode cX7_sort 130 = .ok (.iconst 0, 1) := by decide +kernel
theorem dX7_sort_131 : decode cX7_sort 131 = .ok (.iadd, 1) := by decide +kernel
theorem dX7_sort_132 : decode cX7_sort 132 = .ok (.istore 6, 2) := by decide +kernel
theorem dX7_sort_134 : decode cX7_sort 134 = .ok (.iload 7, 2) := by decide +kernel
theorem dX7_sort_136 : decode cX7_sort 136 = .ok (.istore 9, 2) := by decide +kernel
theorem dX7_sort_138 : decode cX7_sort 138 = .ok (.iload 9, 2) := by decide +kernel
theorem dX7_sort_140 : decode cX7_sort 140 = .ok (.ifCond .le 55, 3) := by decide +kernel
theorem dX7_sort_143 : decode cX7_sort 143 = .ok (.aload_n 0, 1) := by decide +kernel
theorem dX7_sort_144 : decode cX7_sort 144 = .ok (.iload 8, 2) := by decide +kernel
theorem dX7_sort_146 : decode cX7_sort 146 = .ok (.aload_n 0, 1) := by decide +kernel
theorem dX7_sort_147 : decode cX7_sort 147 = .ok (.getfield 50, 3) := by decide +kernel
theorem dX7_sort_150 : decode cX7_sort 150 = .ok (.iload 5, 2) := by decide +kernel
theorem dX7_sort_152 : decode cX7_sort 152 = .ok (.iload 9, 2) := by decide +kernel
theorem dX7_sort_154 : decode cX7_sort 154 = .ok (.iadd, 1) := by decide +kernel
theorem dX7_sort_155 : decode cX7_sort 155 = .ok (.iconst 1, 1) := by decide +kernel
theorem dX7_sort_156 : decode cX7_sort 156 = .ok (.isub, 1) := by decide +kernel
theorem dX7_sort_157 : decode cX7_sort 157 = .ok (.iaload, 1) := by decide +kernel
theorem dX7_sort_158 : decode cX7_sort 158 = .ok (.iload_n 3, 1) := by decide +kernel
theorem dX7_sort_159 : decode cX7_sort 159 = .ok (.iload 4, 2) := by decide +kernel
theorem dX7_sort_161 : decode cX7_sort 161 = .ok (.invokevirtual 131, 3) := by decide +kernel
theorem dX7_sort_164 : decode cX7_sort 164 = .ok (.ifCond .ne 31, 3) := by decide +kernel
theorem dX7_sort_167 : decode cX7_sort 167 = .ok (.aload_n 0, 1) := by decide +kernel
theorem dX7_sort_168 : decode cX7_sort 168 = .ok (.getfield 50, 3) := by decide +kernel
theorem dX7_sort_171 : decode cX7_sort 171 = .ok (.iload 5, 2) := by decide +kernel
theorem dX7_sort_173 : decode cX7_sort 173 = .ok (.iload 9, 2) := by decide +kernel
theorem dX7_sort_175 : decode cX7_sort 175 = .ok (.iadd, 1) := by decide +kernel
theorem dX7_sort_176 : decode cX7_sort 176 = .ok (.aload_n 0, 1) := by decide +kernel
theorem dX7_sort_177 : decode cX7_sort 177 = .ok (.getfield 50, 3) := by decide +kernel
theorem dX7_sort_180 : decode cX7_sort 180 = .ok (.iload 5, 2) := by decide +kernel
theorem dX7_sort_182 : decode cX7_sort 182 = .ok (.iload 9, 2) := by decide +kernel
theorem dX7_sort_184 : decode cX7_sort 184 = .ok (.iadd, 1) := by decide +kernel
theorem dX7_sort_185 : decode cX7_sort 185 = .ok (.iconst 1, 1) := by decide +kernel
theorem dX7_sort_186 : decode cX7_sort 186 = .ok (.isub, 1) := by decide +kernel
theorem dX7_sort_187 : decode cX7_sort 187 = .ok (.iaload, 1) := by decide +kernel
theorem dX7_sort_188 : decode cX7_sort 188 = .ok (.iastore, 1) := by decide +kernel
theorem dX7_sort_189 : decode cX7_sort 189 = .ok (.iinc 9 (-1), 3) := by decide +kernel
theorem dX7_sort_192 : decode cX7_sort 192 = .ok (.goto (-54), 3) := by decide +kernel
theorem dX7_sort_195 : decode cX7_sort 195 = .ok (.aload_n 0, 1) := by decide +kernel
theorem dX7_sort_196 : decode cX7_sort 196 = .ok (.getfield 50, 3) := by decide +kernel
theorem dX7_sort_199 : decode cX7_sort 199 = .ok (.iload 5, 2) := by decide +kernel
theorem dX7_sort_201 : decode cX7_sort 201 = .ok (.iload 9, 2) := by decide +kernel
theorem dX7_sort_203 : decode cX7_sort 203 = .ok (.iadd, 1) := by decide +kernel
theorem dX7_sort_204 : decode cX7_sort 204 = .ok (.iload 8, 2) := by decide +kernel
theorem dX7_sort_206 : decode cX7_sort 206 = .ok (.iastore, 1) := by decide +kernel
theorem dX7_sort_207 : decode cX7_sort 207 = .ok (.iinc 7 1, 3) := by decide +kernel
theorem dX7_sort_210 : decode cX7_sort 210 = .ok (.goto (-127), 3) := by decide +kernel
theorem dX7_sort_213 : decode cX7_sort 213 = .ok (.iload 6, 2) := by decide +kernel
theorem dX7_sort_215 : decode cX7_sort 215 = .ok (.ireturn, 1) := by decide +kernel
theorem dX7_reckon_0 : decode cX7_reckon 0 = .ok (.iconst 0, 1) := by decide +kernel
theorem dX7_reckon_1 : decode cX7_reckon 1 = .ok (.istore_n 2, 1) := by decide +kernel
theorem dX7_reckon_2 : decode cX7_reckon 2 = .ok (.iload_n 2, 1) := by decide +kernel
theorem dX7_reckon_3 : decode cX7_reckon 3 = .ok (.sipush 1000, 3) := by decide +kernel
theorem dX7_reckon_6 : decode cX7_reckon 6 = .ok (.if_icmp .ge 16, 3) := by decide +kernel
theorem dX7_reckon_9 : decode cX7_reckon 9 = .ok (.aload_n 0, 1) := by decide +kernel
theorem dX7_reckon_10 : decode cX7_reckon 10 = .ok (.getfield 80, 3) := by decide +kernel
theorem dX7_reckon_13 : decode cX7_reckon 13 = .ok (.iload_n 2, 1) := by decide +kernel
theorem dX7_reckon_14 : decode cX7_reckon 14 = .ok (.iconst 0, 1) := by decide +kernel
theorem dX7_reckon_15 : decode cX7_reckon 15 = .ok (.iastore, 1) := by decide +kernel
theorem dX7_reckon_16 : decode cX7_reckon 16 = .ok (.iinc 2 1, 3) := by decide +kernel
theorem dX7_reckon_19 : decode cX7_reckon 19 = .ok (.goto (-17), 3) := by decide +kernel
theorem dX7_reckon_22 : decode cX7_reckon 22 = .ok (.iconst 0, 1) := by decide +kernel
theorem dX7_reckon_23 : decode cX7_reckon 23 = .ok (.istore_n 2, 1) := by decide +kernel
theorem dX7_reckon_24 : decode cX7_reckon 24 = .ok (.iload_n 2, 1) := by decide +kernel
theorem dX7_reckon_25 : decode cX7_reckon 25 = .ok (.aload_n 0, 1) := by decide +kernel
theorem dX7_reckon_26 : decode cX7_reckon 26 = .ok (.getfield 91, 3) := by decide +kernel
theorem dX7_reckon_29 : decode cX7_reckon 29 = .ok (.if_icmp .ge 41, 3) := by decide +kernel
theorem dX7_reckon_32 : decode cX7_reckon 32 = .ok (.aload_n 0, 1) := by decide +kernel
theorem dX7_reckon_33 : decode cX7_reckon 33 = .ok (.getfield 13, 3) := by decide +kernel
theorem dX7_reckon_36 : decode cX7_reckon 36 = .ok (.iconst 5, 1) := by decide +kernel
theorem dX7_reckon_37 : decode cX7_reckon 37 = .ok (.iload_n 2, 1) := by decide +kernel
theorem dX7_reckon_38 : decode cX7_reckon 38 = .ok (.imul, 1) := by decide +kernel
theorem dX7_reckon_39 : decode cX7_reckon 39 = .ok (.iload_n 1, 1) := by decide +kernel
theorem dX7_reckon_40 : decode cX7_reckon 40 = .ok (.iadd, 1) := by decide +kernel
theorem dX7_reckon_41 : decode cX7_reckon 41 = .ok (.iaload, 1) := by decide +kernel
theorem dX7_reckon_42 : decode cX7_reckon 42 = .ok (.ifCond .lt 22, 3) := by decide +kernel
theorem dX7_reckon_45 : decode cX7_reckon 45 = .ok (.aload_n 0, 1) := by decide +kernel
theorem dX7_reckon_46 : decode cX7_reckon 46 = .ok (.getfield 80, 3) := by decide +kernel
theorem dX7_reckon_49 : decode cX7_reckon 49 = .ok (.aload_n 0, 1) := by decide +kernel
theorem dX7_reckon_50 : decode cX7_reckon 50 = .ok (.getfield 13, 3) := by decide +kernel
theorem dX7_reckon_53 : decode cX7_reckon 53 = .ok (.iconst 5, 1) := by decide +kernel
theorem dX7_reckon_54 : decode cX7_reckon 54 = .ok (.iload_n 2, 1) := by decide +kernel
theorem dX7_reckon_55 : decode cX7_reckon 55 = .ok (.imul, 1) := by decide +kernel
theorem dX7_reckon_56 : decode cX7_reckon 56 = .ok (.iload_n 1, 1) := by decide +kernel
theorem dX7_reckon_57 : decode cX7_reckon 57 = .ok (.iadd, 1) := by decide +kernel
theorem dX7_reckon_58 : decode cX7_reckon 58 = .ok (.iaload, 1) := by decide +kernel
theorem dX7_reckon_59 : decode cX7_reckon 59 = .ok (.dup2, 1) := by decide +kernel
theorem dX7_reckon_60 : decode cX7_reckon 60 = .ok (.iaload, 1) := by decide +kernel
theorem dX7_reckon_61 : decode cX7_reckon 61 = .ok (.iconst 1, 1) := by decide +kernel
theorem dX7_reckon_62 : decode cX7_reckon 62 = .ok (.iadd, 1) := by decide +kernel
theorem dX7_reckon_63 : decode cX7_reckon 63 = .ok (.iastore, 1) := by decide +kernel
theorem dX7_reckon_64 : decode cX7_reckon 64 = .ok (.iinc 2 1, 3) := by decide +kernel
theorem dX7_reckon_67 : decode cX7_reckon 67 = .ok (.goto (-43), 3) := by decide +kernel
theorem dX7_reckon_70 : decode cX7_reckon 70 = .ok (.return_, 1) := by decide +kernel
theorem dX7_scan_0 : decode cX7_scan 0 = .ok (.aload_n 0, 1) := by decide +kernel
theorem dX7_scan_1 : decode cX7_scan 1 = .ok (.iconst 0, 1) := by decide +kernel
theorem dX7_scan_2 : decode cX7_scan 2 = .ok (.putfield 83, 3) := by decide +kernel
theorem dX7_scan_5 : decode cX7_scan 5 = .ok (.aload_n 0, 1) := by decide +kernel
theorem dX7_scan_6 : decode cX7_scan 6 = .ok (.iload_n 1, 1) := by decide +kernel
theorem dX7_scan_7 : decode cX7_scan 7 = .ok (.invokevirtual 118, 3) := by decide +kernel
theorem dX7_scan_10 : decode cX7_scan 10 = .ok (.ifCond .ne 6, 3) := by decide +kernel
theorem dX7_scan_13 : decode cX7_scan 13 = .ok (.bipush (-101), 2) := by decide +kernel
theorem dX7_scan_15 : decode cX7_scan 15 = .ok (.ireturn, 1) := by decide +kernel
theorem dX7_scan_16 : decode cX7_scan 16 = .ok (.aload_n 0, 1) := by decide +kernel
theorem dX7_scan_17 : decode cX7_scan 17 = .ok (.getfield 32, 3) := by decide +kernel
theorem dX7_scan_20 : decode cX7_scan 20 = .ok (.iload_n 1, 1) := by decide +kernel
theorem dX7_scan_21 : decode cX7_scan 21 = .ok (.iaload, 1) := by decide +kernel
theorem dX7_scan_22 : decode cX7_scan 22 = .ok (.iconst 2, 1) := by decide +kernel
theorem dX7_scan_23 : decode cX7_scan 23 = .ok (.iand, 1) := by decide +kernel
theorem dX7_scan_24 : decode cX7_scan 24 = .ok (.ifCond .ne 11, 3) := by decide +kernel
theorem dX7_scan_27 : decode cX7_scan 27 = .ok (.aload_n 0, 1) := by decide +kernel
theorem dX7_scan_28 : decode cX7_scan 28 = .ok (.iload_n 1, 1) := by decide +kernel
theorem dX7_scan_29 : decode cX7_scan 29 = .ok (.bipush 102, 2) := by decide +kernel
theorem dX7_scan_31 : decode cX7_scan 31 = .ok (.invokevirtual 121, 3) := by decide +kernel
theorem dX7_scan_34 : decode cX7_scan 34 = .ok (.ireturn, 1) := by decide +kernel
theorem dX7_scan_35 : decode cX7_scan 35 = .ok (.iload_n 2, 1) := by decide +kernel
theorem dX7_scan_36 : decode cX7_scan 36 = .ok (.invokestatic 94, 3) := by decide +kernel
theorem dX7_scan_39 : decode cX7_scan 39 = .ok (.ifCond .ne 11, 3) := by decide +kernel
theorem dX7_scan_42 : decode cX7_scan 42 = .ok (.aload_n 0, 1) := by decide +kernel
theorem dX7_scan_43 : decode cX7_scan 43 = .ok (.iload_n 1, 1) := by decide +kernel
theorem dX7_scan_44 : decode cX7_scan 44 = .ok (.bipush 106, 2) := by decide +kernel
theorem dX7_scan_46 : decode cX7_scan 46 = .ok (.invokevirtual 121, 3) := by decide +kernel
theorem dX7_scan_49 : decode cX7_scan 49 = .ok (.ireturn, 1) := by decide +kernel
theorem dX7_scan_50 : decode cX7_scan 50 = .ok (.iload_n 3, 1) := by decide +kernel
theorem dX7_scan_51 : decode cX7_scan 51 = .ok (.invokestatic 101, 3) := by decide +kernel
theorem dX7_scan_54 : decode cX7_scan 54 = .ok (.ifCond .eq 25, 3) := by decide +kernel
theorem dX7_scan_57 : decode cX7_scan 57 = .ok (.iload 4, 2) := by decide +kernel
theorem dX7_scan_59 : decode cX7_scan 59 = .ok (.iconst 1, 1) := by decide +kernel
theorem dX7_scan_60 : decode cX7_scan 60 = .ok (.bipush 20, 2) := by decide +kernel
theorem dX7_scan_62 : decode cX7_scan 62 = .ok (.invokestatic 87, 3) := by decide +kernel
theorem dX7_scan_65 : decode cX7_scan 65 = .ok (.ifCond .eq 14, 3) := by decide +kernel
theorem dX7_scan_68 : decode cX7_scan 68 = .ok (.iload 5, 2) := by decide +kernel
theorem dX7_scan_70 : decode cX7_scan 70 = .ok (.iconst 0, 1) := by decide +kernel
theorem dX7_scan_71 : decode cX7_scan 71 = .ok (.bipush 9, 2) := by decide +kernel
theorem dX7_scan_73 : decode cX7_scan 73 = .ok (.invokestatic 87, 3) := by decide +kernel
theorem dX7_scan_76 : decode cX7_scan 76 = .ok (.ifCond .ne 11, 3) := by decide +kernel
theorem dX7_scan_79 : decode cX7_scan 79 = .ok (.aload_n 0, 1) := by decide +kernel
theorem dX7_scan_80 : decode cX7_scan 80 = .ok (.iload_n 1, 1) := by decide +kernel
theorem dX7_scan_81 : decode cX7_scan 81 = .ok (.bipush 107, 2) := by decide +kernel
theorem dX7_scan_83 : decode cX7_scan 83 = .ok (.invokevirtual 121, 3) := by decide +kernel
theorem dX7_scan_86 : decode cX7_scan 86 = .ok (.ireturn, 1) := by decide +kernel
theorem dX7_scan_87 : decode cX7_scan 87 = .ok (.aload_n 0, 1) := by decide +kernel
theorem dX7_scan_88 : decode cX7_scan 88 = .ok (.iload_n 2, 1) := by decide +kernel
theorem dX7_scan_89 : decode cX7_scan 89 = .ok (.invokevirtual 135, 3) := by decide +kernel
theorem dX7_scan_92 : decode cX7_scan 92 = .ok (.iconst 0, 1) := by decide +kernel
theorem dX7_scan_93 : decode cX7_scan 93 = .ok (.istore 6, 2) := by decide +kernel
theorem dX7_scan_95 : decode cX7_scan 95 = .ok (.iconst 0, 1) := by decide +kernel
theorem dX7_scan_96 : decode cX7_scan 96 = .ok (.istore 7, 2) := by decide +kernel
theorem dX7_scan_98 : decode cX7_scan 98 = .ok (.iconst 0, 1) := by decide +kernel
theorem dX7_scan_99 : decode cX7_scan 99 = .ok (.istore 8, 2) := by decide +kernel
theorem dX7_scan_101 : decode cX7_scan 101 = .ok (.iload 8, 2) := by decide +kernel
theorem dX7_scan_103 : decode cX7_scan 103 = .ok (.sipush 1000, 3) := by decide +kernel
theorem dX7_scan_106 : decode cX7_scan 106 = .ok (.if_icmp .ge 55, 3) := by decide +kernel
theorem dX7_scan_109 : decode cX7_scan 109 = .ok (.iload 6, 2) := by decide +kernel
theorem dX7_scan_111 : decode cX7_scan 111 = .ok (.aload_n 0, 1) := by decide +kernel
theorem dX7_scan_112 : decode cX7_scan 112 = .ok (.getfield 80, 3) := by decide +kernel
theorem dX7_scan_115 : decode cX7_scan 115 = .ok (.iload 8, 2) := by decide +kernel
theorem dX7_scan_117 : decode cX7_scan 117 = .ok (.iaload, 1) := by decide +kernel
theorem dX7_scan_118 : decode cX7_scan 118 = .ok (.ifCond .le 7, 3) := by decide +kernel
theorem dX7_scan_121 : decode cX7_scan 121 = .ok (.iconst 1, 1) := by decide +kernel
theorem dX7_scan_122 : decode cX7_scan 122 = .ok (.goto 4, 3) := by decide +kernel
theorem dX7_scan_125 : decode cX7_scan 125 = .ok (.iconst 0, 1) := by decide +kernel
theorem dX7_scan_126 : decode cX7_scan 126 = .ok (.iadd, 1) := by decide +kernel
theorem dX7_scan_127 : decode cX7_scan 127 = .ok (.istore 6, 2) := by decide +kernel
theorem dX7_scan_129 : decode cX7_scan 129 = .ok (.iload 7, 2) := by decide +kernel
theorem dX7_scan_131 : decode cX7_scan 131 = .ok (.aload_n 0, 1) := by decide +kernel
theorem dX7_scan_132 : decode cX7_scan 132 = .ok (.getfield 80, 3) := by decide +kernel
theorem dX7_scan_135 : decode cX7_scan 135 = .ok (.iload 8, 2) := by decide +kernel
theorem dX7_scan_137 : decode cX7_scan 137 = .ok (.iaload, 1) := by decide +kernel
theorem dX7_scan_138 : decode cX7_scan 138 = .ok (.ifCond .le 13, 3) := by decide +kernel
theorem dX7_scan_141 : decode cX7_scan 141 = .ok (.iload 8, 2) := by decide +kernel
theorem dX7_scan_143 : decode cX7_scan 143 = .ok (.iload_n 3, 1) := by decide +kernel
theorem dX7_scan_144 : decode cX7_scan 144 = .ok (.if_icmp .ge 7, 3) := by decide +kernel
theorem dX7_scan_147 : decode cX7_scan 147 = .ok (.iconst 1, 1) := by decide +kernel
theorem dX7_scan_148 : decode cX7_scan 148 = .ok (.goto 4, 3) := by decide +kernel
theorem dX7_scan_151 : decode cX7_scan 151 = .ok (.iconst 0, 1) := by decide +kernel
theorem dX7_scan_152 : decode cX7_scan 152 = .ok (.iadd, 1) := by decide +kernel
theorem dX7_scan_153 : decode cX7_scan 153 = .ok (.istore 7, 2) := by decide +kernel
theorem dX7_scan_155 : decode cX7_scan 155 = .ok (.iinc 8 1, 3) := by decide +kernel
theorem dX7_scan_158 : decode cX7_scan 158 = .ok (.goto (-57), 3) := by decide +kernel
theorem dX7_scan_161 : decode cX7_scan 161 = .ok (.iload 6, 2) := by decide +kernel
theorem dX7_scan_163 : decode cX7_scan 163 = .ok (.ifCond .ne 11, 3) := by decide +kernel
theorem dX7_scan_166 : decode cX7_scan 166 = .ok (.aload_n 0, 1) := by decide +kernel
theorem dX7_scan_167 : decode cX7_scan 167 = .ok (.iload_n 1, 1) := by decide +kernel
theorem dX7_scan_168 : decode cX7_scan 168 = .ok (.bipush 108, 2) := by decide +kernel
theorem dX7_scan_170 : decode cX7_scan 170 = .ok (.invokevirtual 121, 3) := by decide +kernel
theorem dX7_scan_173 : decode cX7_scan 173 = .ok (.ireturn, 1) := by decide +kernel
theorem dX7_scan_174 : decode cX7_scan 174 = .ok (.iload 7, 2) := by decide +kernel
theorem dX7_scan_176 : decode cX7_scan 176 = .ok (.iload 5, 2) := by decide +kernel
theorem dX7_scan_178 : decode cX7_scan 178 = .ok (.if_icmp .ge 7, 3) := by decide +kernel
theorem dX7_scan_181 : decode cX7_scan 181 = .ok (.iconst 0, 1) := by decide +kernel
theorem dX7_scan_182 : decode cX7_scan 182 = .ok (.goto 8, 3) := by decide +kernel
theorem dX7_scan_185 : decode cX7_scan 185 = .ok (.iload 7, 2) := by decide +kernel
theorem dX7_scan_187 : decode cX7_scan 187 = .ok (.iload 5, 2) := by decide +kernel
theorem dX7_scan_189 : decode cX7_scan 189 = .ok (.isub, 1) := by decide +kernel
theorem dX7_scan_190 : decode cX7_scan 190 = .ok (.istore 8, 2) := by decide +kernel
theorem dX7_scan_192 : decode cX7_scan 192 = .ok (.iconst 0, 1) := by decide +kernel
theorem dX7_scan_193 : decode cX7_scan 193 = .ok (.istore 9, 2) := by decide +kernel
theorem dX7_scan_195 : decode cX7_scan 195 = .ok (.iconst 0, 1) := by decide +kernel
theorem dX7_scan_196 : decode cX7_scan 196 = .ok (.istore 10, 2) := by decide +kernel
theorem dX7_scan_198 : decode cX7_scan 198 = .ok (.iconst 0, 1) := by decide +kernel
theorem dX7_scan_199 : decode cX7_scan 199 = .ok (.istore 11, 2) := by decide +kernel
theorem dX7_scan_201 : decode cX7_scan 201 = .ok (.iload 11, 2) := by decide +kernel
theorem dX7_scan_203 : decode cX7_scan 203 = .ok (.sipush 1000, 3) := by decide +kernel
theorem dX7_scan_206 : decode cX7_scan 206 = .ok (.if_icmp .ge 75, 3) := by decide +kernel
theorem dX7_scan_209 : decode cX7_scan 209 = .ok (.aload_n 0, 1) := by decide +kernel
theorem dX7_scan_210 : decode cX7_scan 210 = .ok (.getfield 80, 3) := by decide +kernel
theorem dX7_scan_213 : decode cX7_scan 213 = .ok (.iload 11, 2) := by decide +kernel
theorem dX7_scan_215 : decode cX7_scan 215 = .ok (.iaload, 1) := by decide +kernel
theorem dX7_scan_216 : decode cX7_scan 216 = .ok (.ifCond .ne 6, 3) := by decide +kernel
theorem dX7_scan_219 : decode cX7_scan 219 = .ok (.goto 56, 3) := by decide +kernel
theorem dX7_scan_222 : decode cX7_scan 222 = .ok (.iload 9, 2) := by decide +kernel
theorem dX7_scan_224 : decode cX7_scan 224 = .ok (.iload 8, 2) := by decide +kernel
theorem dX7_scan_226 : decode cX7_scan 226 = .ok (.if_icmp .lt 46, 3) := by decide +kernel
theorem dX7_scan_229 : decode cX7_scan 229 = .ok (.iload 10, 2) := by decide +kernel
theorem dX7_scan_231 : decode cX7_scan 231 = .ok (.iload 4, 2) := by decide +kernel
theorem dX7_scan_233 : decode cX7_scan 233 = .ok (.if_icmp .ge 39, 3) := by decide +kernel
theorem dX7_scan_236 : decode cX7_scan 236 = .ok (.aload_n 0, 1) := by decide +kernel
theorem dX7_scan_237 : decode cX7_scan 237 = .ok (.getfield 74, 3) := by decide +kernel
theorem dX7_scan_240 : decode cX7_scan 240 = .ok (.bipush 20, 2) := by decide +kernel
theorem dX7_scan_242 : decode cX7_scan 242 = .ok (.iload_n 1, 1) := by decide +kernel
theorem dX7_scan_243 : decode cX7_scan 243 = .ok (.imul, 1) := by decide +kernel
theorem dX7_scan_244 : decode cX7_scan 244 = .ok (.iload 10, 2) := by decide +kernel
theorem dX7_scan_246 : decode cX7_scan 246 = .ok (.iadd, 1) := by decide +kernel
theorem dX7_scan_247 : decode cX7_scan 247 = .ok (.iload 11, 2) := by decide +kernel
theorem dX7_scan_249 : decode cX7_scan 249 = .ok (.iastore, 1) := by decide +kernel
theorem dX7_scan_250 : decode cX7_scan 250 = .ok (.aload_n 0, 1) := by decide +kernel
theorem dX7_scan_251 : decode cX7_scan 251 = .ok (.getfield 77, 3) := by decide +kernel
theorem dX7_scan_254 : decode cX7_scan 254 = .ok (.bipush 20, 2) := by decide +kernel
theorem dX7_scan_256 : decode cX7_scan 256 = .ok (.iload_n 1, 1) := by decide +kernel
theorem dX7_scan_257 : decode cX7_scan 257 = .ok (.imul, 1) := by decide +kernel
theorem dX7_scan_258 : decode cX7_scan 258 = .ok (.iload 10, 2) := by decide +kernel
theorem dX7_scan_260 : decode cX7_scan 260 = .ok (.iadd, 1) := by decide +kernel
theorem dX7_scan_261 : decode cX7_scan 261 = .ok (.aload_n 0, 1) := by decide +kernel
theorem dX7_scan_262 : decode cX7_scan 262 = .ok (.getfield 80, 3) := by decide +kernel
theorem dX7_scan_265 : decode cX7_scan 265 = .ok (.iload 11, 2) := by decide +kernel
theorem dX7_scan_267 : decode cX7_scan 267 = .ok (.iaload, 1) := by decide +kernel
theorem dX7_scan_268 : decode cX7_scan 268 = .ok (.iastore, 1) := by decide +kernel
theorem dX7_scan_269 : decode cX7_scan 269 = .ok (.iinc 10 1, 3) := by decide +kernel
theorem dX7_scan_272 : decode cX7_scan 272 = .ok (.iinc 9 1, 3) := by decide +kernel
theorem dX7_scan_275 : decode cX7_scan 275 = .ok (.iinc 11 1, 3) := by decide +kernel
theorem dX7_scan_278 : decode cX7_scan 278 = .ok (.goto (-77), 3) := by decide +kernel
theorem dX7_scan_281 : decode cX7_scan 281 = .ok (.aload_n 0, 1) := by decide +kernel
theorem dX7_scan_282 : decode cX7_scan 282 = .ok (.getfield 71, 3) := by decide +kernel
theorem dX7_scan_285 : decode cX7_scan 285 = .ok (.iload_n 1, 1) := by decide +kernel
theorem dX7_scan_286 : decode cX7_scan 286 = .ok (.iload 10, 2) := by decide +kernel
theorem dX7_scan_288 : decode cX7_scan 288 = .ok (.iastore, 1) := by decide +kernel
theorem dX7_scan_289 : decode cX7_scan 289 = .ok (.iload 10, 2) := by decide +kernel
theorem dX7_scan_291 : decode cX7_scan 291 = .ok (.ireturn, 1) := by decide +kernel
theorem dX7_scanned_0 : decode cX7_scanned 0 = .ok (.aload_n 0, 1) := by decide +kernel
theorem dX7_scanned_1 : decode cX7_scanned 1 = .ok (.iload_n 1, 1) := by decide +kernel
theorem dX7_scanned_2 : decode cX7_scanned 2 = .ok (.iconst 0, 1) := by decide +kernel
theorem dX7_scanned_3 : decode cX7_scanned 3 = .ok (.aload_n 0, 1) := by decide +kernel
theorem dX7_scanned_4 : decode cX7_scanned 4 = .ok (.getfield 107, 3) := by decide +kernel
theorem dX7_scanned_7 : decode cX7_scanned 7 = .ok (.iconst 1, 1) := by decide +kernel
theorem dX7_scanned_8 : decode cX7_scanned 8 = .ok (.isub, 1) := by decide +kernel
theorem dX7_scanned_9 : decode cX7_scanned 9 = .ok (.invokestatic 87, 3) := by decide +kernel
theorem dX7_scanned_12 : decode cX7_scanned 12 = .ok (.ifCond .eq 23, 3) := by decide +kernel
theorem dX7_scanned_15 : decode cX7_scanned 15 = .ok (.iload_n 2, 1) := by decide +kernel
theorem dX7_scanned_16 : decode cX7_scanned 16 = .ok (.iconst 0, 1) := by decide +kernel
theorem dX7_scanned_17 : decode cX7_scanned 17 = .ok (.aload_n 0, 1) := by decide +kernel
theorem dX7_scanned_18 : decode cX7_scanned 18 = .ok (.getfield 71, 3) := by decide +kernel
theorem dX7_scanned_21 : decode cX7_scanned 21 = .ok (.iload_n 1, 1) := by decide +kernel
theorem dX7_scanned_22 : decode cX7_scanned 22 = .ok (.iaload, 1) := by decide +kernel
theorem dX7_scanned_23 : decode cX7_scanned 23 = .ok (.iconst 1, 1) := by decide +kernel
theorem dX7_scanned_24 : decode cX7_scanned 24 = .ok (.isub, 1) := by decide +kernel
theorem dX7_scanned_25 : decode cX7_scanned 25 = .ok (.invokestatic 87, 3) := by decide +kernel
theorem dX7_scanned_28 : decode cX7_scanned 28 = .ok (.ifCond .eq 7, 3) := by decide +kernel
theorem dX7_scanned_31 : decode cX7_scanned 31 = .ok (.iconst 0, 1) := by decide +kernel
theorem dX7_scanned_32 : decode cX7_scanned 32 = .ok (.goto 4, 3) := by decide +kernel
theorem dX7_scanned_35 : decode cX7_scanned 35 = .ok (.iconst 1, 1) := by decide +kernel
theorem dX7_scanned_36 : decode cX7_scanned 36 = .ok (.putfield 83, 3) := by decide +kernel
theorem dX7_scanned_39 : decode cX7_scanned 39 = .ok (.aload_n 0, 1) := by decide +kernel
theorem dX7_scanned_40 : decode cX7_scanned 40 = .ok (.getfield 83, 3) := by decide +kernel
theorem dX7_scanned_43 : decode cX7_scanned 43 = .ok (.ifCond .le 5, 3) := by decide +kernel
theorem dX7_scanned_46 : decode cX7_scanned 46 = .ok (.iconst 0, 1) := by decide +kernel
theorem dX7_scanned_47 : decode cX7_scanned 47 = .ok (.ireturn, 1) := by decide +kernel
theorem dX7_scanned_48 : decode cX7_scanned 48 = .ok (.iload_n 3, 1) := by decide +kernel
theorem dX7_scanned_49 : decode cX7_scanned 49 = .ok (.ifCond .ne 17, 3) := by decide +kernel
theorem dX7_scanned_52 : decode cX7_scanned 52 = .ok (.aload_n 0, 1) := by decide +kernel
theorem dX7_scanned_53 : decode cX7_scanned 53 = .ok (.getfield 74, 3) := by decide +kernel
theorem dX7_scanned_56 : decode cX7_scanned 56 = .ok (.bipush 20, 2) := by decide +kernel
theorem dX7_scanned_58 : decode cX7_scanned 58 = .ok (.iload_n 1, 1) := by decide +kernel
theorem dX7_scanned_59 : decode cX7_scanned 59 = .ok (.imul, 1) := by decide +kernel
theorem dX7_scanned_60 : decode cX7_scanned 60 = .ok (.iload_n 2, 1) := by decide +kernel
theorem dX7_scanned_61 : decode cX7_scanned 61 = .ok (.iadd, 1) := by decide +kernel
theorem dX7_scanned_62 : decode cX7_scanned 62 = .ok (.iaload, 1) := by decide +kernel
theorem dX7_scanned_63 : decode cX7_scanned 63 = .ok (.goto 23, 3) := by decide +kernel
theorem dX7_scanned_66 : decode cX7_scanned 66 = .ok (.iload_n 3, 1) := by decide +kernel
theorem dX7_scanned_67 : decode cX7_scanned 67 = .ok (.iconst 1, 1) := by decide +kernel
theorem dX7_scanned_68 : decode cX7_scanned 68 = .ok (.if_icmp .ne 17, 3) := by decide +kernel
theorem dX7_scanned_71 : decode cX7_scanned 71 = .ok (.aload_n 0, 1) := by decide +kernel
theorem dX7_scanned_72 : decode cX7_scanned 72 = .ok (.getfield 77, 3) := by decide +kernel
theorem dX7_scanned_75 : decode cX7_scanned 75 = .ok (.bipush 20, 2) := by decide +kernel
theorem dX7_scanned_77 : decode cX7_scanned 77 = .ok (.iload_n 1, 1) := by decide +kernel
theorem dX7_scanned_78 : decode cX7_scanned 78 = .ok (.imul, 1) := by decide +kernel
theorem dX7_scanned_79 : decode cX7_scanned 79 = .ok (.iload_n 2, 1) := by decide +kernel
theorem dX7_scanned_80 : decode cX7_scanned 80 = .ok (.iadd, 1) := by decide +kernel
theorem dX7_scanned_81 : decode cX7_scanned 81 = .ok (.iaload, 1) := by decide +kernel
theorem dX7_scanned_82 : decode cX7_scanned 82 = .ok (.goto 4, 3) := by decide +kernel
theorem dX7_scanned_85 : decode cX7_scanned 85 = .ok (.iconst (-1), 1) := by decide +kernel
theorem dX7_scanned_86 : decode cX7_scanned 86 = .ok (.ireturn, 1) := by decide +kernel
theorem dX7_drop_0 : decode cX7_drop 0 = .ok (.aload_n 0, 1) := by decide +kernel
theorem dX7_drop_1 : decode cX7_drop 1 = .ok (.iconst 0, 1) := by decide +kernel
theorem dX7_drop_2 : decode cX7_drop 2 = .ok (.putfield 83, 3) := by decide +kernel
theorem dX7_drop_5 : decode cX7_drop 5 = .ok (.aload_n 0, 1) := by decide +kernel
theorem dX7_drop_6 : decode cX7_drop 6 = .ok (.iload_n 1, 1) := by decide +kernel
theorem dX7_drop_7 : decode cX7_drop 7 = .ok (.invokevirtual 118, 3) := by decide +kernel
theorem dX7_drop_10 : decode cX7_drop 10 = .ok (.ifCond .ne 6, 3) := by decide +kernel
theorem dX7_drop_13 : decode cX7_drop 13 = .ok (.bipush (-101), 2) := by decide +kernel
theorem dX7_drop_15 : decode cX7_drop 15 = .ok (.ireturn, 1) := by decide +kernel
theorem dX7_drop_16 : decode cX7_drop 16 = .ok (.aload_n 0, 1) := by decide +kernel
theorem dX7_drop_17 : decode cX7_drop 17 = .ok (.iload_n 1, 1) := by decide +kernel
theorem dX7_drop_18 : decode cX7_drop 18 = .ok (.iload_n 2, 1) := by decide +kernel
theorem dX7_drop_19 : decode cX7_drop 19 = .ok (.invokevirtual 128, 3) := by decide +kernel
theorem dX7_drop_22 : decode cX7_drop 22 = .ok (.ifCond .ne 11, 3) := by decide +kernel
theorem dX7_drop_25 : decode cX7_drop 25 = .ok (.aload_n 0, 1) := by decide +kernel
theorem dX7_drop_26 : decode cX7_drop 26 = .ok (.iload_n 1, 1) := by decide +kernel
theorem dX7_drop_27 : decode cX7_drop 27 = .ok (.bipush 104, 2) := by decide +kernel
theorem dX7_drop_29 : decode cX7_drop 29 = .ok (.invokevirtual 121, 3) := by decide +kernel
theorem dX7_drop_32 : decode cX7_drop 32 = .ok (.ireturn, 1) := by decide +kernel
theorem dX7_drop_33 : decode cX7_drop 33 = .ok (.aload_n 0, 1) := by decide +kernel
theorem dX7_drop_34 : decode cX7_drop 34 = .ok (.getfield 47, 3) := by decide +kernel
theorem dX7_drop_37 : decode cX7_drop 37 = .ok (.iconst 5, 1) := by decide +kernel
theorem dX7_drop_38 : decode cX7_drop 38 = .ok (.iload_n 1, 1) := by decide +kernel
theorem dX7_drop_39 : decode cX7_drop 39 = .ok (.imul, 1) := by decide +kernel
theorem dX7_drop_40 : decode cX7_drop 40 = .ok (.iload_n 2, 1) := by decide +kernel
theorem dX7_drop_41 : decode cX7_drop 41 = .ok (.iadd, 1) := by decide +kernel
theorem dX7_drop_42 : decode cX7_drop 42 = .ok (.iconst (-1), 1) := by decide +kernel
theorem dX7_drop_43 : decode cX7_drop 43 = .ok (.iastore, 1) := by decide +kernel
theorem dX7_drop_44 : decode cX7_drop 44 = .ok (.iconst 1, 1) := by decide +kernel
theorem dX7_drop_45 : decode cX7_drop 45 = .ok (.ireturn, 1) := by decide +kernel
theorem dX7_sets_0 : decode cX7_sets 0 = .ok (.iconst 0, 1) := by decide +kernel
theorem dX7_sets_1 : decode cX7_sets 1 = .ok (.istore_n 2, 1) := by decide +kernel
theorem dX7_sets_2 : decode cX7_sets 2 = .ok (.iconst 5, 1) := by decide +kernel
theorem dX7_sets_3 : decode cX7_sets 3 = .ok (.iload_n 1, 1) := by decide +kernel
theorem dX7_sets_4 : decode cX7_sets 4 = .ok (.imul, 1) := by decide +kernel
theorem dX7_sets_5 : decode cX7_sets 5 = .ok (.istore_n 3, 1) := by decide +kernel
theorem dX7_sets_6 : decode cX7_sets 6 = .ok (.iload_n 3, 1) := by decide +kernel
theorem dX7_sets_7 : decode cX7_sets 7 = .ok (.iconst 5, 1) := by decide +kernel
theorem dX7_sets_8 : decode cX7_sets 8 = .ok (.iload_n 1, 1) := by decide +kernel
theorem dX7_sets_9 : decode cX7_sets 9 = .ok (.imul, 1) := by decide +kernel
theorem dX7_sets_10 : decode cX7_sets 10 = .ok (.iconst 5, 1) := by decide +kernel
theorem dX7_sets_11 : decode cX7_sets 11 = .ok (.iadd, 1) := by decide +kernel
theorem dX7_sets_12 : decode cX7_sets 12 = .ok (.if_icmp .ge 26, 3) := by decide +kernel
theorem dX7_sets_15 : decode cX7_sets 15 = .ok (.iload_n 2, 1) := by decide +kernel
theorem dX7_sets_16 : decode cX7_sets 16 = .ok (.aload_n 0, 1) := by decide +kernel
theorem dX7_sets_17 : decode cX7_sets 17 = .ok (.getfield 47, 3) := by decide +kernel
theorem dX7_sets_20 : decode cX7_sets 20 = .ok (.iload_n 3, 1) := by decide +kernel
theorem dX7_sets_21 : decode cX7_sets 21 = .ok (.iaload, 1) := by decide +kernel
theorem dX7_sets_22 : decode cX7_sets 22 = .ok (.ifCond .lt 7, 3) := by decide +kernel
theorem dX7_sets_25 : decode cX7_sets 25 = .ok (.iconst 1, 1) := by decide +kernel
theorem dX7_sets_26 : decode cX7_sets 26 = .ok (.goto 4, 3) := by decide +kernel
theorem dX7_sets_29 : decode cX7_sets 29 = .ok (.iconst 0, 1) := by decide +kernel
theorem dX7_sets_30 : decode cX7_sets 30 = .ok (.iadd, 1) := by decide +kernel
theorem dX7_sets_31 : decode cX7_sets 31 = .ok (.istore_n 2, 1) := by decide +kernel
theorem dX7_sets_32 : decode cX7_sets 32 = .ok (.iinc 3 1, 3) := by decide +kernel
theorem dX7_sets_35 : decode cX7_sets 35 = .ok (.goto (-29), 3) := by decide +kernel
theorem dX7_sets_38 : decode cX7_sets 38 = .ok (.iload_n 2, 1) := by decide +kernel
theorem dX7_sets_39 : decode cX7_sets 39 = .ok (.ireturn, 1) := by decide +kernel
theorem dX7_close_0 : decode cX7_close 0 = .ok (.aload_n 0, 1) := by decide +kernel
theorem dX7_close_1 : decode cX7_close 1 = .ok (.iconst 0, 1) := by decide +kernel
theorem dX7_close_2 : decode cX7_close 2 = .ok (.putfield 83, 3) := by decide +kernel
theorem dX7_close_5 : decode cX7_close 5 = .ok (.aload_n 0, 1) := by decide +kernel
theorem dX7_close_6 : decode cX7_close 6 = .ok (.iload_n 1, 1) := by decide +kernel
theorem dX7_close_7 : decode cX7_close 7 = .ok (.invokevirtual 118, 3) := by decide +kernel
theorem dX7_close_10 : decode cX7_close 10 = .ok (.ifCond .ne 6, 3) := by decide +kernel
theorem dX7_close_13 : decode cX7_close 13 = .ok (.bipush (-101), 2) := by decide +kernel
theorem dX7_close_15 : decode cX7_close 15 = .ok (.ireturn, 1) := by decide +kernel
theorem dX7_close_16 : decode cX7_close 16 = .ok (.aload_n 0, 1) := by decide +kernel
theorem dX7_close_17 : decode cX7_close 17 = .ok (.iload_n 1, 1) := by decide +kernel
theorem dX7_close_18 : decode cX7_close 18 = .ok (.invokevirtual 138, 3) := by decide +kernel
theorem dX7_close_21 : decode cX7_close 21 = .ok (.istore_n 2, 1) := by decide +kernel
theorem dX7_close_22 : decode cX7_close 22 = .ok (.aload_n 0, 1) := by decide +kernel
theorem dX7_close_23 : decode cX7_close 23 = .ok (.iload_n 1, 1) := by decide +kernel
theorem dX7_close_24 : decode cX7_close 24 = .ok (.invokevirtual 110, 3) := by decide +kernel
theorem dX7_close_27 : decode cX7_close 27 = .ok (.iload_n 2, 1) := by decide +kernel
theorem dX7_close_28 : decode cX7_close 28 = .ok (.ireturn, 1) := by decide +kernel
theorem dX7_state_0 : decode cX7_state 0 = .ok (.aload_n 0, 1) := by decide +kernel
theorem dX7_state_1 : decode cX7_state 1 = .ok (.iconst 0, 1) := by decide +kernel
theorem dX7_state_2 : decode cX7_state 2 = .ok (.putfield 83, 3) := by decide +kernel
theorem dX7_state_5 : decode cX7_state 5 = .ok (.iload_n 1, 1) := by decide +kernel
theorem dX7_state_6 : decode cX7_state 6 = .ok (.iconst 0, 1) := by decide +kernel
theorem dX7_state_7 : decode cX7_state 7 = .ok (.bipush 7, 2) := by decide +kernel
theorem dX7_state_9 : decode cX7_state 9 = .ok (.invokestatic 87, 3) := by decide +kernel
theorem dX7_state_12 : decode cX7_state 12 = .ok (.ifCond .eq 12, 3) := by decide +kernel
theorem dX7_state_15 : decode cX7_state 15 = .ok (.iload_n 2, 1) := by decide +kernel
theorem dX7_state_16 : decode cX7_state 16 = .ok (.iconst 0, 1) := by decide +kernel
theorem dX7_state_17 : decode cX7_state 17 = .ok (.iconst 3, 1) := by decide +kernel
theorem dX7_state_18 : decode cX7_state 18 = .ok (.invokestatic 87, 3) := by decide +kernel
theorem dX7_state_21 : decode cX7_state 21 = .ok (.ifCond .ne 5, 3) := by decide +kernel
theorem dX7_state_24 : decode cX7_state 24 = .ok (.iconst (-1), 1) := by decide +kernel
theorem dX7_state_25 : decode cX7_state 25 = .ok (.ireturn, 1) := by decide +kernel
theorem dX7_state_26 : decode cX7_state 26 = .ok (.iload_n 1, 1) := by decide +kernel
theorem dX7_state_27 : decode cX7_state 27 = .ok (.aload_n 0, 1) := by decide +kernel
theorem dX7_state_28 : decode cX7_state 28 = .ok (.getfield 107, 3) := by decide +kernel
theorem dX7_state_31 : decode cX7_state 31 = .ok (.if_icmp .lt 5, 3) := by decide +kernel
theorem dX7_state_34 : decode cX7_state 34 = .ok (.iconst 0, 1) := by decide +kernel
theorem dX7_state_35 : decode cX7_state 35 = .ok (.ireturn, 1) := by decide +kernel
theorem dX7_state_36 : decode cX7_state 36 = .ok (.iload_n 2, 1) := by decide +kernel
theorem dX7_state_37 : decode cX7_state 37 = .ok (.ifCond .ne 20, 3) := by decide +kernel
theorem dX7_state_40 : decode cX7_state 40 = .ok (.aload_n 0, 1) := by decide +kernel
theorem dX7_state_41 : decode cX7_state 41 = .ok (.getfield 38, 3) := by decide +kernel
theorem dX7_state_44 : decode cX7_state 44 = .ok (.iload_n 1, 1) := by decide +kernel
theorem dX7_state_45 : decode cX7_state 45 = .ok (.baload, 1) := by decide +kernel
theorem dX7_state_46 : decode cX7_state 46 = .ok (.ifCond .eq 7, 3) := by decide +kernel
theorem dX7_state_49 : decode cX7_state 49 = .ok (.iconst 2, 1) := by decide +kernel
theorem dX7_state_50 : decode cX7_state 50 = .ok (.goto 40, 3) := by decide +kernel
theorem dX7_state_53 : decode cX7_state 53 = .ok (.iconst 1, 1) := by decide +kernel
theorem dX7_state_54 : decode cX7_state 54 = .ok (.goto 36, 3) := by decide +kernel
theorem dX7_state_57 : decode cX7_state 57 = .ok (.iload_n 2, 1) := by decide +kernel
theorem dX7_state_58 : decode cX7_state 58 = .ok (.iconst 1, 1) := by decide +kernel
theorem dX7_state_59 : decode cX7_state 59 = .ok (.if_icmp .ne 12, 3) := by decide +kernel
theorem dX7_state_62 : decode cX7_state 62 = .ok (.aload_n 0, 1) := by decide +kernel
theorem dX7_state_63 : decode cX7_state 63 = .ok (.getfield 41, 3) := by decide +kernel
theorem dX7_state_66 : decode cX7_state 66 = .ok (.iload_n 1, 1) := by decide +kernel
theorem dX7_state_67 : decode cX7_state 67 = .ok (.iaload, 1) := by decide +kernel
theorem dX7_state_68 : decode cX7_state 68 = .ok (.goto 22, 3) := by decide +kernel
theorem dX7_state_71 : decode cX7_state 71 = .ok (.iload_n 2, 1) := by decide +kernel
theorem dX7_state_72 : decode cX7_state 72 = .ok (.iconst 2, 1) := by decide +kernel
theorem dX7_state_73 : decode cX7_state 73 = .ok (.if_icmp .ne 12, 3) := by decide +kernel
theorem dX7_state_76 : decode cX7_state 76 = .ok (.aload_n 0, 1) := by decide +kernel
theorem dX7_state_77 : decode cX7_state 77 = .ok (.getfield 44, 3) := by decide +kernel
theorem dX7_state_80 : decode cX7_state 80 = .ok (.iload_n 1, 1) := by decide +kernel
theorem dX7_state_81 : decode cX7_state 81 = .ok (.iaload, 1) := by decide +kernel
theorem dX7_state_82 : decode cX7_state 82 = .ok (.goto 8, 3) := by decide +kernel
theorem dX7_state_85 : decode cX7_state 85 = .ok (.aload_n 0, 1) := by decide +kernel
theorem dX7_state_86 : decode cX7_state 86 = .ok (.iload_n 1, 1) := by decide +kernel
theorem dX7_state_87 : decode cX7_state 87 = .ok (.invokevirtual 138, 3) := by decide +kernel
theorem dX7_state_90 : decode cX7_state 90 = .ok (.ireturn, 1) := by decide +kernel
end
section
theorem dL_scanned_0 : decode cL_scanned 0 = .ok (.aload 4, 2) := by decide +kernel
theorem dL_scanned_2 : decode cL_scanned 2 = .ok (.iconst 0, 1) := by decide +kernel
theorem dL_scanned_3 : decode cL_scanned 3 = .ok (.aload_n 0, 1) := by decide +kernel
theorem dL_scanned_4 : decode cL_scanned 4 = .ok (.iload_n 1, 1) := by decide +kernel
theorem dL_scanned_5 : decode cL_scanned 5 = .ok (.iload_n 2, 1) := by decide +kernel
theorem dL_scanned_6 : decode cL_scanned 6 = .ok (.iload_n 3, 1) := by decide +kernel
theorem dL_scanned_7 : decode cL_scanned 7 = .ok (.invokevirtual 7, 3) := by decide +kernel
theorem dL_scanned_10 : decode cL_scanned 10 = .ok (.i2l, 1) := by decide +kernel
theorem dL_scanned_11 : decode cL_scanned 11 = .ok (.lastore, 1) := by decide +kernel
theorem dL_scanned_12 : decode cL_scanned 12 = .ok (.goto 7, 3) := by decide +kernel
theorem dL_scanned_15 : decode cL_scanned 15 = .ok (.astore 5, 2) := by decide +kernel
theorem dL_scanned_17 : decode cL_scanned 17 = .ok (.iconst 1, 1) := by decide +kernel
theorem dL_scanned_18 : decode cL_scanned 18 = .ok (.ireturn, 1) := by decide +kernel
theorem dL_scanned_19 : decode cL_scanned 19 = .ok (.iconst 0, 1) := by decide +kernel
theorem dL_scanned_20 : decode cL_scanned 20 = .ok (.ireturn, 1) := by decide +kernel
theorem dL_law_0 : decode cL_law 0 = .ok (.new 8, 3) := by decide +kernel
theorem dL_law_3 : decode cL_law 3 = .ok (.dup, 1) := by decide +kernel
theorem dL_law_4 : decode cL_law 4 = .ok (.invokespecial 15, 3) := by decide +kernel
theorem dL_law_7 : decode cL_law 7 = .ok (.astore_n 1, 1) := by decide +kernel
theorem dL_law_8 : decode cL_law 8 = .ok (.new 16, 3) := by decide +kernel
theorem dL_law_11 : decode cL_law 11 = .ok (.dup, 1) := by decide +kernel
theorem dL_law_12 : decode cL_law 12 = .ok (.invokespecial 18, 3) := by decide +kernel
theorem dL_law_15 : decode cL_law 15 = .ok (.astore_n 2, 1) := by decide +kernel
theorem dL_law_16 : decode cL_law 16 = .ok (.iconst 1, 1) := by decide +kernel
theorem dL_law_17 : decode cL_law 17 = .ok (.newarray .long, 2) := by decide +kernel
theorem dL_law_19 : decode cL_law 19 = .ok (.astore_n 3, 1) := by decide +kernel
theorem dL_law_20 : decode cL_law 20 = .ok (.iconst 0, 1) := by decide +kernel
theorem dL_law_21 : decode cL_law 21 = .ok (.istore 4, 2) := by decide +kernel
theorem dL_law_23 : decode cL_law 23 = .ok (.iload 4, 2) := by decide +kernel
theorem dL_law_25 : decode cL_law 25 = .ok (.aload_n 0, 1) := by decide +kernel
theorem dL_law_26 : decode cL_law 26 = .ok (.arraylength, 1) := by decide +kernel
theorem dL_law_27 : decode cL_law 27 = .ok (.bipush 6, 2) := by decide +kernel
theorem dL_law_29 : decode cL_law 29 = .ok (.isub, 1) := by decide +kernel
theorem dL_law_30 : decode cL_law 30 = .ok (.if_icmp .gt 826, 3) := by decide +kernel
theorem dL_law_33 : decode cL_law 33 = .ok (.aload_n 0, 1) := by decide +kernel
theorem dL_law_34 : decode cL_law 34 = .ok (.iload 4, 2) := by decide +kernel
theorem dL_law_36 : decode cL_law 36 = .ok (.iaload, 1) := by decide +kernel
theorem dL_law_37 : decode cL_law 37 = .ok (.bipush 15, 2) := by decide +kernel
theorem dL_law_39 : decode cL_law 39 = .ok (.iand, 1) := by decide +kernel
theorem dL_law_40 : decode cL_law 40 = .ok (.tableswitch 810 0 14 #[76, 101, 150, 211, 248, 297, 334, 395, 444, 481, 558, 631, 711, 748, 773], 76) := by decide +kernel
theorem dL_law_116 : decode cL_law 116 = .ok (.aload_n 1, 1) := by decide +kernel
theorem dL_law_117 : decode cL_law 117 = .ok (.aload_n 0, 1) := by decide +kernel
theorem dL_law_118 : decode cL_law 118 = .ok (.iload 4, 2) := by decide +kernel
theorem dL_law_120 : decode cL_law 120 = .ok (.iconst 1, 1) := by decide +kernel
theorem dL_law_121 : decode cL_law 121 = .ok (.iadd, 1) := by decide +kernel
theorem dL_law_122 : decode cL_law 122 = .ok (.iaload, 1) := by decide +kernel
theorem dL_law_123 : decode cL_law 123 = .ok (.invokevirtual 19, 3) := by decide +kernel
theorem dL_law_126 : decode cL_law 126 = .ok (.aload_n 2, 1) := by decide +kernel
theorem dL_law_127 : decode cL_law 127 = .ok (.aload_n 0, 1) := by decide +kernel
theorem dL_law_128 : decode cL_law 128 = .ok (.iload 4, 2) := by decide +kernel
theorem dL_law_130 : decode cL_law 130 = .ok (.iconst 1, 1) := by decide +kernel
theorem dL_law_131 : decode cL_law 131 = .ok (.iadd, 1) := by decide +kernel
theorem dL_law_132 : decode cL_law 132 = .ok (.iaload, 1) := by decide +kernel
theorem dL_law_133 : decode cL_law 133 = .ok (.invokevirtual 23, 3) := by decide +kernel
theorem dL_law_136 : decode cL_law 136 = .ok (.if_icmp .eq 714, 3) := by decide +kernel
theorem dL_law_139 : decode cL_law 139 = .ok (.iconst 0, 1) := by decide +kernel
theorem dL_law_140 : decode cL_law 140 = .ok (.ireturn, 1) := by decide +kernel
theorem dL_law_141 : decode cL_law 141 = .ok (.aload_n 1, 1) := by decide +kernel
theorem dL_law_142 : decode cL_law 142 = .ok (.aload_n 0, 1) := by decide +kernel
theorem dL_law_143 : decode cL_law 143 = .ok (.iload 4, 2) := by decide +kernel
theorem dL_law_145 : decode cL_law 145 = .ok (.iconst 1, 1) := by decide +kernel
theorem dL_law_146 : decode cL_law 146 = .ok (.iadd, 1) := by decide +kernel
theorem dL_law_147 : decode cL_law 147 = .ok (.iaload, 1) := by decide +kernel
theorem dL_law_148 : decode cL_law 148 = .ok (.aload_n 0, 1) := by decide +kernel
theorem dL_law_149 : decode cL_law 149 = .ok (.iload 4, 2) := by decide +kernel
theorem dL_law_151 : decode cL_law 151 = .ok (.iconst 2, 1) := by decide +kernel
theorem dL_law_152 : decode cL_law 152 = .ok (.iadd, 1) := by decide +kernel
theorem dL_law_153 : decode cL_law 153 = .ok (.iaload, 1) := by decide +kernel
theorem dL_law_154 : decode cL_law 154 = .ok (.aload_n 0, 1) := by decide +kernel
theorem dL_law_155 : decode cL_law 155 = .ok (.iload 4, 2) := by decide +kernel
theorem dL_law_157 : decode cL_law 157 = .ok (.iconst 3, 1) := by decide +kernel
theorem dL_law_158 : decode cL_law 158 = .ok (.iadd, 1) := by decide +kernel
theorem dL_law_159 : decode cL_law 159 = .ok (.iaload, 1) := by decide +kernel
theorem dL_law_160 : decode cL_law 160 = .ok (.invokevirtual 24, 3) := by decide +kernel
theorem dL_law_163 : decode cL_law 163 = .ok (.aload_n 2, 1) := by decide +kernel
theorem dL_law_164 : decode cL_law 164 = .ok (.aload_n 0, 1) := by decide +kernel
theorem dL_law_165 : decode cL_law 165 = .ok (.iload 4, 2) := by decide +kernel
theorem dL_law_167 : decode cL_law 167 = .ok (.iconst 1, 1) := by decide +kernel
theorem dL_law_168 : decode cL_law 168 = .ok (.iadd, 1) := by decide +kernel
theorem dL_law_169 : decode cL_law 169 = .ok (.iaload, 1) := by decide +kernel
theorem dL_law_170 : decode cL_law 170 = .ok (.aload_n 0, 1) := by decide +kernel
theorem dL_law_171 : decode cL_law 171 = .ok (.iload 4, 2) := by decide +kernel
theorem dL_law_173 : decode cL_law 173 = .ok (.iconst 2, 1) := by decide +kernel
theorem dL_law_174 : decode cL_law 174 = .ok (.iadd, 1) := by decide +kernel
theorem dL_law_175 : decode cL_law 175 = .ok (.iaload, 1) := by decide +kernel
theorem dL_law_176 : decode cL_law 176 = .ok (.aload_n 0, 1) := by decide +kernel
theorem dL_law_177 : decode cL_law 177 = .ok (.iload 4, 2) := by decide +kernel
theorem dL_law_179 : decode cL_law 179 = .ok (.iconst 3, 1) := by decide +kernel
theorem dL_law_180 : decode cL_law 180 = .ok (.iadd, 1) := by decide +kernel
theorem dL_law_181 : decode cL_law 181 = .ok (.iaload, 1) := by decide +kernel
theorem dL_law_182 : decode cL_law 182 = .ok (.invokevirtual 27, 3) := by decide +kernel
theorem dL_law_185 : decode cL_law 185 = .ok (.if_icmp .eq 665, 3) := by decide +kernel
theorem dL_law_188 : decode cL_law 188 = .ok (.iconst 0, 1) := by decide +kernel
theorem dL_law_189 : decode cL_law 189 = .ok (.ireturn, 1) := by decide +kernel
theorem dL_law_190 : decode cL_law 190 = .ok (.aload_n 1, 1) := by decide +kernel
theorem dL_law_191 : decode cL_law 191 = .ok (.aload_n 0, 1) := by decide +kernel
theorem dL_law_192 : decode cL_law 192 = .ok (.iload 4, 2) := by decide +kernel
theorem dL_law_194 : decode cL_law 194 = .ok (.iconst 1, 1) := by decide +kernel
theorem dL_law_195 : decode cL_law 195 = .ok (.iadd, 1) := by decide +kernel
theorem dL_law_196 : decode cL_law 196 = .ok (.iaload, 1) := by decide +kernel
theorem dL_law_197 : decode cL_law 197 = .ok (.aload_n 0, 1) := by decide +kernel
theorem dL_law_198 : decode cL_law 198 = .ok (.iload 4, 2) := by decide +kernel
theorem dL_law_200 : decode cL_law 200 = .ok (.iconst 2, 1) := by decide +kernel
theorem dL_law_201 : decode cL_law 201 = .ok (.iadd, 1) := by decide +kernel
theorem dL_law_202 : decode cL_law 202 = .ok (.iaload, 1) := by decide +kernel
theorem dL_law_203 : decode cL_law 203 = .ok (.aload_n 0, 1) := by decide +kernel
theorem dL_law_204 : decode cL_law 204 = .ok (.iload 4, 2) := by decide +kernel
theorem dL_law_206 : decode cL_law 206 = .ok (.iconst 3, 1) := by decide +kernel
theorem dL_law_207 : decode cL_law 207 = .ok (.iadd, 1) := by decide +kernel
theorem dL_law_208 : decode cL_law 208 = .ok (.iaload, 1) := by decide +kernel
theorem dL_law_209 : decode cL_law 209 = .ok (.aload_n 0, 1) := by decide +kernel
theorem dL_law_210 : decode cL_law 210 = .ok (.iload 4, 2) := by decide +kernel
theorem dL_law_212 : decode cL_law 212 = .ok (.iconst 4, 1) := by decide +kernel
theorem dL_law_213 : decode cL_law 213 = .ok (.iadd, 1) := by decide +kernel
theorem dL_law_214 : decode cL_law 214 = .ok (.iaload, 1) := by decide +kernel
theorem dL_law_215 : decode cL_law 215 = .ok (.invokevirtual 28, 3) := by decide +kernel
theorem dL_law_218 : decode cL_law 218 = .ok (.aload_n 2, 1) := by decide +kernel
theorem dL_law_219 : decode cL_law 219 = .ok (.aload_n 0, 1) := by decide +kernel
theorem dL_law_220 : decode cL_law 220 = .ok (.iload 4, 2) := by decide +kernel
theorem dL_law_222 : decode cL_law 222 = .ok (.iconst 1, 1) := by decide +kernel
theorem dL_law_223 : decode cL_law 223 = .ok (.iadd, 1) := by decide +kernel
theorem dL_law_224 : decode cL_law 224 = .ok (.iaload, 1) := by decide +kernel
theorem dL_law_225 : decode cL_law 225 = .ok (.aload_n 0, 1) := by decide +kernel
theorem dL_law_226 : decode cL_law 226 = .ok (.iload 4, 2) := by decide +kernel
theorem dL_law_228 : decode cL_law 228 = .ok (.iconst 2, 1) := by decide +kernel
theorem dL_law_229 : decode cL_law 229 = .ok (.iadd, 1) := by decide +kernel
theorem dL_law_230 : decode cL_law 230 = .ok (.iaload, 1) := by decide +kernel
theorem dL_law_231 : decode cL_law 231 = .ok (.aload_n 0, 1) := by decide +kernel
theorem dL_law_232 : decode cL_law 232 = .ok (.iload 4, 2) := by decide +kernel
theorem dL_law_234 : decode cL_law 234 = .ok (.iconst 3, 1) := by decide +kernel
theorem dL_law_235 : decode cL_law 235 = .ok (.iadd, 1) := by decide +kernel
theorem dL_law_236 : decode cL_law 236 = .ok (.iaload, 1) := by decide +kernel
theorem dL_law_237 : decode cL_law 237 = .ok (.aload_n 0, 1) := by decide +kernel
theorem dL_law_238 : decode cL_law 238 = .ok (.iload 4, 2) := by decide +kernel
theorem dL_law_240 : decode cL_law 240 = .ok (.iconst 4, 1) := by decide +kernel
theorem dL_law_241 : decode cL_law 241 = .ok (.iadd, 1) := by decide +kernel
theorem dL_law_242 : decode cL_law 242 = .ok (.iaload, 1) := by decide +kernel
theorem dL_law_243 : decode cL_law 243 = .ok (.invokevirtual 32, 3) := by decide +kernel
theorem dL_law_246 : decode cL_law 246 = .ok (.if_icmp .eq 604, 3) := by decide +kernel
theorem dL_law_249 : decode cL_law 249 = .ok (.iconst 0, 1) := by decide +kernel
theorem dL_law_250 : decode cL_law 250 = .ok (.ireturn, 1) := by decide +kernel
theorem dL_law_251 : decode cL_law 251 = .ok (.aload_n 1, 1) := by decide +kernel
theorem dL_law_252 : decode cL_law 252 = .ok (.aload_n 0, 1) := by decide +kernel
theorem dL_law_253 : decode cL_law 253 = .ok (.iload 4, 2) := by decide +kernel
theorem dL_law_255 : decode cL_law 255 = .ok (.iconst 1, 1) := by decide +kernel
theorem dL_law_256 : decode cL_law 256 = .ok (.iadd, 1) := by decide +kernel
theorem dL_law_257 : decode cL_law 257 = .ok (.iaload, 1) := by decide +kernel
theorem dL_law_258 : decode cL_law 258 = .ok (.aload_n 0, 1) := by decide +kernel
theorem dL_law_259 : decode cL_law 259 = .ok (.iload 4, 2) := by decide +kernel
theorem dL_law_261 : decode cL_law 261 = .ok (.iconst 2, 1) := by decide +kernel
theorem dL_law_262 : decode cL_law 262 = .ok (.iadd, 1) := by decide +kernel
theorem dL_law_263 : decode cL_law 263 = .ok (.iaload, 1) := by decide +kernel
theorem dL_law_264 : decode cL_law 264 = .ok (.invokevirtual 33, 3) := by decide +kernel
theorem dL_law_267 : decode cL_law 267 = .ok (.aload_n 2, 1) := by decide +kernel
theorem dL_law_268 : decode cL_law 268 = .ok (.aload_n 0, 1) := by decide +kernel
theorem dL_law_269 : decode cL_law 269 = .ok (.iload 4, 2) := by decide +kernel
theorem dL_law_271 : decode cL_law 271 = .ok (.iconst 1, 1) := by decide +kernel
theorem dL_law_272 : decode cL_law 272 = .ok (.iadd, 1) := by decide +kernel
theorem dL_law_273 : decode cL_law 273 = .ok (.iaload, 1) := by decide +kernel
theorem dL_law_274 : decode cL_law 274 = .ok (.aload_n 0, 1) := by decide +kernel
theorem dL_law_275 : decode cL_law 275 = .ok (.iload 4, 2) := by decide +kernel
theorem dL_law_277 : decode cL_law 277 = .ok (.iconst 2, 1) := by decide +kernel
theorem dL_law_278 : decode cL_law 278 = .ok (.iadd, 1) := by decide +kernel
theorem dL_law_279 : decode cL_law 279 = .ok (.iaload, 1) := by decide +kernel
theorem dL_law_280 : decode cL_law 280 = .ok (.invokevirtual 37, 3) := by decide +kernel
theorem dL_law_283 : decode cL_law 283 = .ok (.if_icmp .eq 567, 3) := by decide +kernel
theorem dL_law_286 : decode cL_law 286 = .ok (.iconst 0, 1) := by decide +kernel
theorem dL_law_287 : decode cL_law 287 = .ok (.ireturn, 1) := by decide +kernel
theorem dL_law_288 : decode cL_law 288 = .ok (.aload_n 1, 1) := by decide +kernel
theorem dL_law_289 : decode cL_law 289 = .ok (.aload_n 0, 1) := by decide +kernel
theorem dL_law_290 : decode cL_law 290 = .ok (.iload 4, 2) := by decide +kernel
theorem dL_law_292 : decode cL_law 292 = .ok (.iconst 1, 1) := by decide +kernel
theorem dL_law_293 : decode cL_law 293 = .ok (.iadd, 1) := by decide +kernel
theorem dL_law_294 : decode cL_law 294 = .ok (.iaload, 1) := by decide +kernel
theorem dL_law_295 : decode cL_law 295 = .ok (.aload_n 0, 1) := by decide +kernel
theorem dL_law_296 : decode cL_law 296 = .ok (.iload 4, 2) := by decide +kernel
theorem dL_law_298 : decode cL_law 298 = .ok (.iconst 2, 1) := by decide +kernel
theorem dL_law_299 : decode cL_law 299 = .ok (.iadd, 1) := by decide +kernel
theorem dL_law_300 : decode cL_law 300 = .ok (.iaload, 1) := by decide +kernel
theorem dL_law_301 : decode cL_law 301 = .ok (.aload_n 0, 1) := by decide +kernel
theorem dL_law_302 : decode cL_law 302 = .ok (.iload 4, 2) := by decide +kernel
theorem dL_law_304 : decode cL_law 304 = .ok (.iconst 3, 1) := by decide +kernel
theorem dL_law_305 : decode cL_law 305 = .ok (.iadd, 1) := by decide +kernel
theorem dL_law_306 : decode cL_law 306 = .ok (.iaload, 1) := by decide +kernel
theorem dL_law_307 : decode cL_law 307 = .ok (.invokevirtual 38, 3) := by decide +kernel
theorem dL_law_310 : decode cL_law 310 = .ok (.aload_n 2, 1) := by decide +kernel
theorem dL_law_311 : decode cL_law 311 = .ok (.aload_n 0, 1) := by decide +kernel
theorem dL_law_312 : decode cL_law 312 = .ok (.iload 4, 2) := by decide +kernel
theorem dL_law_314 : decode cL_law 314 = .ok (.iconst 1, 1) := by decide +kernel
theorem dL_law_315 : decode cL_law 315 = .ok (.iadd, 1) := by decide +kernel
theorem dL_law_316 : decode cL_law 316 = .ok (.iaload, 1) := by decide +kernel
theorem dL_law_317 : decode cL_law 317 = .ok (.aload_n 0, 1) := by decide +kernel
theorem dL_law_318 : decode cL_law 318 = .ok (.iload 4, 2) := by decide +kernel
theorem dL_law_320 : decode cL_law 320 = .ok (.iconst 2, 1) := by decide +kernel
theorem dL_law_321 : decode cL_law 321 = .ok (.iadd, 1) := by decide +kernel
theorem dL_law_322 : decode cL_law 322 = .ok (.iaload, 1) := by decide +kernel
theorem dL_law_323 : decode cL_law 323 = .ok (.aload_n 0, 1) := by decide +kernel
theorem dL_law_324 : decode cL_law 324 = .ok (.iload 4, 2) := by decide +kernel
theorem dL_law_326 : decode cL_law 326 = .ok (.iconst 3, 1) := by decide +kernel
theorem dL_law_327 : decode cL_law 327 = .ok (.iadd, 1) := by decide +kernel
theorem dL_law_328 : decode cL_law 328 = .ok (.iaload, 1) := by decide +kernel
theorem dL_law_329 : decode cL_law 329 = .ok (.invokevirtual 41, 3) := by decide +kernel
theorem dL_law_332 : decode cL_law 332 = .ok (.if_icmp .eq 518, 3) := by decide +kernel
theorem dL_law_335 : decode cL_law 335 = .ok (.iconst 0, 1) := by decide +kernel
theorem dL_law_336 : decode cL_law 336 = .ok (.ireturn, 1) := by decide +kernel
theorem dL_law_337 : decode cL_law 337 = .ok (.aload_n 1, 1) := by decide +kernel
theorem dL_law_338 : decode cL_law 338 = .ok (.aload_n 0, 1) := by decide +kernel
theorem dL_law_339 : decode cL_law 339 = .ok (.iload 4, 2) := by decide +kernel
theorem dL_law_341 : decode cL_law 341 = .ok (.iconst 1, 1) := by decide +kernel
theorem dL_law_342 : decode cL_law 342 = .ok (.iadd, 1) := by decide +kernel
theorem dL_law_343 : decode cL_law 343 = .ok (.iaload, 1) := by decide +kernel
theorem dL_law_344 : decode cL_law 344 = .ok (.aload_n 0, 1) := by decide +kernel
theorem dL_law_345 : decode cL_law 345 = .ok (.iload 4, 2) := by decide +kernel
theorem dL_law_347 : decode cL_law 347 = .ok (.iconst 2, 1) := by decide +kernel
theorem dL_law_348 : decode cL_law 348 = .ok (.iadd, 1) := by decide +kernel
theorem dL_law_349 : decode cL_law 349 = .ok (.iaload, 1) := by decide +kernel
theorem dL_law_350 : decode cL_law 350 = .ok (.invokevirtual 42, 3) := by decide +kernel
theorem dL_law_353 : decode cL_law 353 = .ok (.aload_n 2, 1) := by decide +kernel
theorem dL_law_354 : decode cL_law 354 = .ok (.aload_n 0, 1) := by decide +kernel
theorem dL_law_355 : decode cL_law 355 = .ok (.iload 4, 2) := by decide +kernel
theorem dL_law_357 : decode cL_law 357 = .ok (.iconst 1, 1) := by decide +kernel
theorem dL_law_358 : decode cL_law 358 = .ok (.iadd, 1) := by decide +kernel
theorem dL_law_359 : decode cL_law 359 = .ok (.iaload, 1) := by decide +kernel
theorem dL_law_360 : decode cL_law 360 = .ok (.aload_n 0, 1) := by decide +kernel
theorem dL_law_361 : decode cL_law 361 = .ok (.iload 4, 2) := by decide +kernel
theorem dL_law_363 : decode cL_law 363 = .ok (.iconst 2, 1) := by decide +kernel
theorem dL_law_364 : decode cL_law 364 = .ok (.iadd, 1) := by decide +kernel
theorem dL_law_365 : decode cL_law 365 = .ok (.iaload, 1) := by decide +kernel
theorem dL_law_366 : decode cL_law 366 = .ok (.invokevirtual 45, 3) := by decide +kernel
theorem dL_law_369 : decode cL_law 369 = .ok (.if_icmp .eq 481, 3) := by decide +kernel
theorem dL_law_372 : decode cL_law 372 = .ok (.iconst 0, 1) := by decide +kernel
theorem dL_law_373 : decode cL_law 373 = .ok (.ireturn, 1) := by decide +kernel
theorem dL_law_374 : decode cL_law 374 = .ok (.aload_n 1, 1) := by decide +kernel
theorem dL_law_375 : decode cL_law 375 = .ok (.aload_n 0, 1) := by decide +kernel
theorem dL_law_376 : decode cL_law 376 = .ok (.iload 4, 2) := by decide +kernel
theorem dL_law_378 : decode cL_law 378 = .ok (.iconst 1, 1) := by decide +kernel
theorem dL_law_379 : decode cL_law 379 = .ok (.iadd, 1) := by decide +kernel
theorem dL_law_380 : decode cL_law 380 = .ok (.iaload, 1) := by decide +kernel
theorem dL_law_381 : decode cL_law 381 = .ok (.aload_n 0, 1) := by decide +kernel
theorem dL_law_382 : decode cL_law 382 = .ok (.iload 4, 2) := by decide +kernel
theorem dL_law_384 : decode cL_law 384 = .ok (.iconst 2, 1) := by decide +kernel
theorem dL_law_385 : decode cL_law 385 = .ok (.iadd, 1) := by decide +kernel
theorem dL_law_386 : decode cL_law 386 = .ok (.iaload, 1) := by decide +kernel
theorem dL_law_387 : decode cL_law 387 = .ok (.aload_n 0, 1) := by decide +kernel
theorem dL_law_388 : decode cL_law 388 = .ok (.iload 4, 2) := by decide +kernel
theorem dL_law_390 : decode cL_law 390 = .ok (.iconst 3, 1) := by decide +kernel
theorem dL_law_391 : decode cL_law 391 = .ok (.iadd, 1) := by decide +kernel
theorem dL_law_392 : decode cL_law 392 = .ok (.iaload, 1) := by decide +kernel
theorem dL_law_393 : decode cL_law 393 = .ok (.aload_n 0, 1) := by decide +kernel
theorem dL_law_394 : decode cL_law 394 = .ok (.iload 4, 2) := by decide +kernel
theorem dL_law_396 : decode cL_law 396 = .ok (.iconst 4, 1) := by decide +kernel
theorem dL_law_397 : decode cL_law 397 = .ok (.iadd, 1) := by decide +kernel
theorem dL_law_398 : decode cL_law 398 = .ok (.iaload, 1) := by decide +kernel
theorem dL_law_399 : decode cL_law 399 = .ok (.invokevirtual 46, 3) := by decide +kernel
theorem dL_law_402 : decode cL_law 402 = .ok (.aload_n 2, 1) := by decide +kernel
theorem dL_law_403 : decode cL_law 403 = .ok (.aload_n 0, 1) := by decide +kernel
theorem dL_law_404 : decode cL_law 404 = .ok (.iload 4, 2) := by decide +kernel
theorem dL_law_406 : decode cL_law 406 = .ok (.iconst 1, 1) := by decide +kernel
theorem dL_law_407 : decode cL_law 407 = .ok (.iadd, 1) := by decide +kernel
theorem dL_law_408 : decode cL_law 408 = .ok (.iaload, 1) := by decide +kernel
theorem dL_law_409 : decode cL_law 409 = .ok (.aload_n 0, 1) := by decide +kernel
theorem dL_law_410 : decode cL_law 410 = .ok (.iload 4, 2) := by decide +kernel
theorem dL_law_412 : decode cL_law 412 = .ok (.iconst 2, 1) := by decide +kernel
theorem dL_law_413 : decode cL_law 413 = .ok (.iadd, 1) := by decide +kernel
theorem dL_law_414 : decode cL_law 414 = .ok (.iaload, 1) := by decide +kernel
theorem dL_law_415 : decode cL_law 415 = .ok (.aload_n 0, 1) := by decide +kernel
theorem dL_law_416 : decode cL_law 416 = .ok (.iload 4, 2) := by decide +kernel
theorem dL_law_418 : decode cL_law 418 = .ok (.iconst 3, 1) := by decide +kernel
theorem dL_law_419 : decode cL_law 419 = .ok (.iadd, 1) := by decide +kernel
theorem dL_law_420 : decode cL_law 420 = .ok (.iaload, 1) := by decide +kernel
theorem dL_law_421 : decode cL_law 421 = .ok (.aload_n 0, 1) := by decide +kernel
theorem dL_law_422 : decode cL_law 422 = .ok (.iload 4, 2) := by decide +kernel
theorem dL_law_424 : decode cL_law 424 = .ok (.iconst 4, 1) := by decide +kernel
theorem dL_law_425 : decode cL_law 425 = .ok (.iadd, 1) := by decide +kernel
theorem dL_law_426 : decode cL_law 426 = .ok (.iaload, 1) := by decide +kernel
theorem dL_law_427 : decode cL_law 427 = .ok (.invokevirtual 49, 3) := by decide +kernel
theorem dL_law_430 : decode cL_law 430 = .ok (.if_icmp .eq 420, 3) := by decide +kernel
theorem dL_law_433 : decode cL_law 433 = .ok (.iconst 0, 1) := by decide +kernel
theorem dL_law_434 : decode cL_law 434 = .ok (.ireturn, 1) := by decide +kernel
theorem dL_law_435 : decode cL_law 435 = .ok (.aload_n 1, 1) := by decide +kernel
theorem dL_law_436 : decode cL_law 436 = .ok (.aload_n 0, 1) := by decide +kernel
theorem dL_law_437 : decode cL_law 437 = .ok (.iload 4, 2) := by decide +kernel
theorem dL_law_439 : decode cL_law 439 = .ok (.iconst 1, 1) := by decide +kernel
theorem dL_law_440 : decode cL_law 440 = .ok (.iadd, 1) := by decide +kernel
theorem dL_law_441 : decode cL_law 441 = .ok (.iaload, 1) := by decide +kernel
theorem dL_law_442 : decode cL_law 442 = .ok (.aload_n 0, 1) := by decide +kernel
theorem dL_law_443 : decode cL_law 443 = .ok (.iload 4, 2) := by decide +kernel
theorem dL_law_445 : decode cL_law 445 = .ok (.iconst 2, 1) := by decide +kernel
theorem dL_law_446 : decode cL_law 446 = .ok (.iadd, 1) := by decide +kernel
theorem dL_law_447 : decode cL_law 447 = .ok (.iaload, 1) := by decide +kernel
theorem dL_law_448 : decode cL_law 448 = .ok (.aload_n 0, 1) := by decide +kernel
theorem dL_law_449 : decode cL_law 449 = .ok (.iload 4, 2) := by decide +kernel
theorem dL_law_451 : decode cL_law 451 = .ok (.iconst 3, 1) := by decide +kernel
theorem dL_law_452 : decode cL_law 452 = .ok (.iadd, 1) := by decide +kernel
theorem dL_law_453 : decode cL_law 453 = .ok (.iaload, 1) := by decide +kernel
theorem dL_law_454 : decode cL_law 454 = .ok (.invokevirtual 50, 3) := by decide +kernel
theorem dL_law_457 : decode cL_law 457 = .ok (.aload_n 2, 1) := by decide +kernel
theorem dL_law_458 : decode cL_law 458 = .ok (.aload_n 0, 1) := by decide +kernel
theorem dL_law_459 : decode cL_law 459 = .ok (.iload 4, 2) := by decide +kernel
theorem dL_law_461 : decode cL_law 461 = .ok (.iconst 1, 1) := by decide +kernel
theorem dL_law_462 : decode cL_law 462 = .ok (.iadd, 1) := by decide +kernel
theorem dL_law_463 : decode cL_law 463 = .ok (.iaload, 1) := by decide +kernel
theorem dL_law_464 : decode cL_law 464 = .ok (.aload_n 0, 1) := by decide +kernel
theorem dL_law_465 : decode cL_law 465 = .ok (.iload 4, 2) := by decide +kernel
theorem dL_law_467 : decode cL_law 467 = .ok (.iconst 2, 1) := by decide +kernel
theorem dL_law_468 : decode cL_law 468 = .ok (.iadd, 1) := by decide +kernel
theorem dL_law_469 : decode cL_law 469 = .ok (.iaload, 1) := by decide +kernel
theorem dL_law_470 : decode cL_law 470 = .ok (.aload_n 0, 1) := by decide +kernel
theorem dL_law_471 : decode cL_law 471 = .ok (.iload 4, 2) := by decide +kernel
theorem dL_law_473 : decode cL_law 473 = .ok (.iconst 3, 1) := by decide +kernel
theorem dL_law_474 : decode cL_law 474 = .ok (.iadd, 1) := by decide +kernel
theorem dL_law_475 : decode cL_law 475 = .ok (.iaload, 1) := by decide +kernel
theorem dL_law_476 : decode cL_law 476 = .ok (.invokevirtual 53, 3) := by decide +kernel
theorem dL_law_479 : decode cL_law 479 = .ok (.if_icmp .eq 371, 3) := by decide +kernel
theorem dL_law_482 : decode cL_law 482 = .ok (.iconst 0, 1) := by decide +kernel
theorem dL_law_483 : decode cL_law 483 = .ok (.ireturn, 1) := by decide +kernel
theorem dL_law_484 : decode cL_law 484 = .ok (.aload_n 1, 1) := by decide +kernel
theorem dL_law_485 : decode cL_law 485 = .ok (.aload_n 0, 1) := by decide +kernel
theorem dL_law_486 : decode cL_law 486 = .ok (.iload 4, 2) := by decide +kernel
theorem dL_law_488 : decode cL_law 488 = .ok (.iconst 1, 1) := by decide +kernel
theorem dL_law_489 : decode cL_law 489 = .ok (.iadd, 1) := by decide +kernel
theorem dL_law_490 : decode cL_law 490 = .ok (.iaload, 1) := by decide +kernel
theorem dL_law_491 : decode cL_law 491 = .ok (.aload_n 0, 1) := by decide +kernel
theorem dL_law_492 : decode cL_law 492 = .ok (.iload 4, 2) := by decide +kernel
theorem dL_law_494 : decode cL_law 494 = .ok (.iconst 2, 1) := by decide +kernel
theorem dL_law_495 : decode cL_law 495 = .ok (.iadd, 1) := by decide +kernel
theorem dL_law_496 : decode cL_law 496 = .ok (.iaload, 1) := by decide +kernel
theorem dL_law_497 : decode cL_law 497 = .ok (.invokevirtual 54, 3) := by decide +kernel
theorem dL_law_500 : decode cL_law 500 = .ok (.aload_n 2, 1) := by decide +kernel
theorem dL_law_501 : decode cL_law 501 = .ok (.aload_n 0, 1) := by decide +kernel
theorem dL_law_502 : decode cL_law 502 = .ok (.iload 4, 2) := by decide +kernel
theorem dL_law_504 : decode cL_law 504 = .ok (.iconst 1, 1) := by decide +kernel
theorem dL_law_505 : decode cL_law 505 = .ok (.iadd, 1) := by decide +kernel
theorem dL_law_506 : decode cL_law 506 = .ok (.iaload, 1) := by decide +kernel
theorem dL_law_507 : decode cL_law 507 = .ok (.aload_n 0, 1) := by decide +kernel
theorem dL_law_508 : decode cL_law 508 = .ok (.iload 4, 2) := by decide +kernel
theorem dL_law_510 : decode cL_law 510 = .ok (.iconst 2, 1) := by decide +kernel
theorem dL_law_511 : decode cL_law 511 = .ok (.iadd, 1) := by decide +kernel
theorem dL_law_512 : decode cL_law 512 = .ok (.iaload, 1) := by decide +kernel
theorem dL_law_513 : decode cL_law 513 = .ok (.invokevirtual 57, 3) := by decide +kernel
theorem dL_law_516 : decode cL_law 516 = .ok (.if_icmp .eq 334, 3) := by decide +kernel
theorem dL_law_519 : decode cL_law 519 = .ok (.iconst 0, 1) := by decide +kernel
theorem dL_law_520 : decode cL_law 520 = .ok (.ireturn, 1) := by decide +kernel
theorem dL_law_521 : decode cL_law 521 = .ok (.aload_n 1, 1) := by decide +kernel
theorem dL_law_522 : decode cL_law 522 = .ok (.aload_n 0, 1) := by decide +kernel
theorem dL_law_523 : decode cL_law 523 = .ok (.iload 4, 2) := by decide +kernel
theorem dL_law_525 : decode cL_law 525 = .ok (.iconst 1, 1) := by decide +kernel
theorem dL_law_526 : decode cL_law 526 = .ok (.iadd, 1) := by decide +kernel
theorem dL_law_527 : decode cL_law 527 = .ok (.iaload, 1) := by decide +kernel
theorem dL_law_528 : decode cL_law 528 = .ok (.aload_n 0, 1) := by decide +kernel
theorem dL_law_529 : decode cL_law 529 = .ok (.iload 4, 2) := by decide +kernel
theorem dL_law_531 : decode cL_law 531 = .ok (.iconst 2, 1) := by decide +kernel
theorem dL_law_532 : decode cL_law 532 = .ok (.iadd, 1) := by decide +kernel
theorem dL_law_533 : decode cL_law 533 = .ok (.iaload, 1) := by decide +kernel
theorem dL_law_534 : decode cL_law 534 = .ok (.aload_n 0, 1) := by decide +kernel
theorem dL_law_535 : decode cL_law 535 = .ok (.iload 4, 2) := by decide +kernel
theorem dL_law_537 : decode cL_law 537 = .ok (.iconst 3, 1) := by decide +kernel
theorem dL_law_538 : decode cL_law 538 = .ok (.iadd, 1) := by decide +kernel
theorem dL_law_539 : decode cL_law 539 = .ok (.iaload, 1) := by decide +kernel
theorem dL_law_540 : decode cL_law 540 = .ok (.aload_n 0, 1) := by decide +kernel
theorem dL_law_541 : decode cL_law 541 = .ok (.iload 4, 2) := by decide +kernel
theorem dL_law_543 : decode cL_law 543 = .ok (.iconst 4, 1) := by decide +kernel
theorem dL_law_544 : decode cL_law 544 = .ok (.iadd, 1) := by decide +kernel
theorem dL_law_545 : decode cL_law 545 = .ok (.iaload, 1) := by decide +kernel
theorem dL_law_546 : decode cL_law 546 = .ok (.ifCond .eq 7, 3) := by decide +kernel
theorem dL_law_549 : decode cL_law 549 = .ok (.iconst 1, 1) := by decide +kernel
theorem dL_law_550 : decode cL_law 550 = .ok (.goto 4, 3) := by decide +kernel
theorem dL_law_553 : decode cL_law 553 = .ok (.iconst 0, 1) := by decide +kernel
theorem dL_law_554 : decode cL_law 554 = .ok (.invokevirtual 58, 3) := by decide +kernel
theorem dL_law_557 : decode cL_law 557 = .ok (.aload_n 2, 1) := by decide +kernel
theorem dL_law_558 : decode cL_law 558 = .ok (.aload_n 0, 1) := by decide +kernel
theorem dL_law_559 : decode cL_law 559 = .ok (.iload 4, 2) := by decide +kernel
theorem dL_law_561 : decode cL_law 561 = .ok (.iconst 1, 1) := by decide +kernel
theorem dL_law_562 : decode cL_law 562 = .ok (.iadd, 1) := by decide +kernel
theorem dL_law_563 : decode cL_law 563 = .ok (.iaload, 1) := by decide +kernel
theorem dL_law_564 : decode cL_law 564 = .ok (.aload_n 0, 1) := by decide +kernel
theorem dL_law_565 : decode cL_law 565 = .ok (.iload 4, 2) := by decide +kernel
theorem dL_law_567 : decode cL_law 567 = .ok (.iconst 2, 1) := by decide +kernel
theorem dL_law_568 : decode cL_law 568 = .ok (.iadd, 1) := by decide +kernel
theorem dL_law_569 : decode cL_law 569 = .ok (.iaload, 1) := by decide +kernel
theorem dL_law_570 : decode cL_law 570 = .ok (.aload_n 0, 1) := by decide +kernel
theorem dL_law_571 : decode cL_law 571 = .ok (.iload 4, 2) := by decide +kernel
theorem dL_law_573 : decode cL_law 573 = .ok (.iconst 3, 1) := by decide +kernel
theorem dL_law_574 : decode cL_law 574 = .ok (.iadd, 1) := by decide +kernel
theorem dL_law_575 : decode cL_law 575 = .ok (.iaload, 1) := by decide +kernel
theorem dL_law_576 : decode cL_law 576 = .ok (.aload_n 0, 1) := by decide +kernel
theorem dL_law_577 : decode cL_law 577 = .ok (.iload 4, 2) := by decide +kernel
theorem dL_law_579 : decode cL_law 579 = .ok (.iconst 4, 1) := by decide +kernel
theorem dL_law_580 : decode cL_law 580 = .ok (.iadd, 1) := by decide +kernel
theorem dL_law_581 : decode cL_law 581 = .ok (.iaload, 1) := by decide +kernel
theorem dL_law_582 : decode cL_law 582 = .ok (.ifCond .eq 7, 3) := by decide +kernel
theorem dL_law_585 : decode cL_law 585 = .ok (.iconst 1, 1) := by decide +kernel
theorem dL_law_586 : decode cL_law 586 = .ok (.goto 4, 3) := by decide +kernel
theorem dL_law_589 : decode cL_law 589 = .ok (.iconst 0, 1) := by decide +kernel
theorem dL_law_590 : decode cL_law 590 = .ok (.invokevirtual 62, 3) := by decide +kernel
theorem dL_law_593 : decode cL_law 593 = .ok (.if_icmp .eq 257, 3) := by decide +kernel
theorem dL_law_596 : decode cL_law 596 = .ok (.iconst 0, 1) := by decide +kernel
theorem dL_law_597 : decode cL_law 597 = .ok (.ireturn, 1) := by decide +kernel
theorem dL_law_598 : decode cL_law 598 = .ok (.aload_n 1, 1) := by decide +kernel
theorem dL_law_599 : decode cL_law 599 = .ok (.aload_n 0, 1) := by decide +kernel
theorem dL_law_600 : decode cL_law 600 = .ok (.iload 4, 2) := by decide +kernel
theorem dL_law_602 : decode cL_law 602 = .ok (.iconst 1, 1) := by decide +kernel
theorem dL_law_603 : decode cL_law 603 = .ok (.iadd, 1) := by decide +kernel
theorem dL_law_604 : decode cL_law 604 = .ok (.iaload, 1) := by decide +kernel
theorem dL_law_605 : decode cL_law 605 = .ok (.aload_n 0, 1) := by decide +kernel
theorem dL_law_606 : decode cL_law 606 = .ok (.iload 4, 2) := by decide +kernel
theorem dL_law_608 : decode cL_law 608 = .ok (.iconst 2, 1) := by decide +kernel
theorem dL_law_609 : decode cL_law 609 = .ok (.iadd, 1) := by decide +kernel
theorem dL_law_610 : decode cL_law 610 = .ok (.iaload, 1) := by decide +kernel
theorem dL_law_611 : decode cL_law 611 = .ok (.aload_n 0, 1) := by decide +kernel
theorem dL_law_612 : decode cL_law 612 = .ok (.iload 4, 2) := by decide +kernel
theorem dL_law_614 : decode cL_law 614 = .ok (.iconst 3, 1) := by decide +kernel
theorem dL_law_615 : decode cL_law 615 = .ok (.iadd, 1) := by decide +kernel
theorem dL_law_616 : decode cL_law 616 = .ok (.iaload, 1) := by decide +kernel
theorem dL_law_617 : decode cL_law 617 = .ok (.aload_n 0, 1) := by decide +kernel
theorem dL_law_618 : decode cL_law 618 = .ok (.iload 4, 2) := by decide +kernel
theorem dL_law_620 : decode cL_law 620 = .ok (.iconst 4, 1) := by decide +kernel
theorem dL_law_621 : decode cL_law 621 = .ok (.iadd, 1) := by decide +kernel
theorem dL_law_622 : decode cL_law 622 = .ok (.iaload, 1) := by decide +kernel
theorem dL_law_623 : decode cL_law 623 = .ok (.aload_n 0, 1) := by decide +kernel
theorem dL_law_624 : decode cL_law 624 = .ok (.iload 4, 2) := by decide +kernel
theorem dL_law_626 : decode cL_law 626 = .ok (.iconst 5, 1) := by decide +kernel
theorem dL_law_627 : decode cL_law 627 = .ok (.iadd, 1) := by decide +kernel
theorem dL_law_628 : decode cL_law 628 = .ok (.iaload, 1) := by decide +kernel
theorem dL_law_629 : decode cL_law 629 = .ok (.invokevirtual 63, 3) := by decide +kernel
theorem dL_law_632 : decode cL_law 632 = .ok (.aload_n 2, 1) := by decide +kernel
theorem dL_law_633 : decode cL_law 633 = .ok (.aload_n 0, 1) := by decide +kernel
theorem dL_law_634 : decode cL_law 634 = .ok (.iload 4, 2) := by decide +kernel
theorem dL_law_636 : decode cL_law 636 = .ok (.iconst 1, 1) := by decide +kernel
theorem dL_law_637 : decode cL_law 637 = .ok (.iadd, 1) := by decide +kernel
theorem dL_law_638 : decode cL_law 638 = .ok (.iaload, 1) := by decide +kernel
theorem dL_law_639 : decode cL_law 639 = .ok (.aload_n 0, 1) := by decide +kernel
theorem dL_law_640 : decode cL_law 640 = .ok (.iload 4, 2) := by decide +kernel
theorem dL_law_642 : decode cL_law 642 = .ok (.iconst 2, 1) := by decide +kernel
theorem dL_law_643 : decode cL_law 643 = .ok (.iadd, 1) := by decide +kernel
theorem dL_law_644 : decode cL_law 644 = .ok (.iaload, 1) := by decide +kernel
theorem dL_law_645 : decode cL_law 645 = .ok (.aload_n 0, 1) := by decide +kernel
theorem dL_law_646 : decode cL_law 646 = .ok (.iload 4, 2) := by decide +kernel
theorem dL_law_648 : decode cL_law 648 = .ok (.iconst 3, 1) := by decide +kernel
theorem dL_law_649 : decode cL_law 649 = .ok (.iadd, 1) := by decide +kernel
theorem dL_law_650 : decode cL_law 650 = .ok (.iaload, 1) := by decide +kernel
theorem dL_law_651 : decode cL_law 651 = .ok (.aload_n 0, 1) := by decide +kernel
theorem dL_law_652 : decode cL_law 652 = .ok (.iload 4, 2) := by decide +kernel
theorem dL_law_654 : decode cL_law 654 = .ok (.iconst 4, 1) := by decide +kernel
theorem dL_law_655 : decode cL_law 655 = .ok (.iadd, 1) := by decide +kernel
theorem dL_law_656 : decode cL_law 656 = .ok (.iaload, 1) := by decide +kernel
theorem dL_law_657 : decode cL_law 657 = .ok (.aload_n 0, 1) := by decide +kernel
theorem dL_law_658 : decode cL_law 658 = .ok (.iload 4, 2) := by decide +kernel
theorem dL_law_660 : decode cL_law 660 = .ok (.iconst 5, 1) := by decide +kernel
theorem dL_law_661 : decode cL_law 661 = .ok (.iadd, 1) := by decide +kernel
theorem dL_law_662 : decode cL_law 662 = .ok (.iaload, 1) := by decide +kernel
theorem dL_law_663 : decode cL_law 663 = .ok (.invokevirtual 67, 3) := by decide +kernel
theorem dL_law_666 : decode cL_law 666 = .ok (.if_icmp .eq 184, 3) := by decide +kernel
theorem dL_law_669 : decode cL_law 669 = .ok (.iconst 0, 1) := by decide +kernel
theorem dL_law_670 : decode cL_law 670 = .ok (.ireturn, 1) := by decide +kernel
theorem dL_law_671 : decode cL_law 671 = .ok (.aload_n 1, 1) := by decide +kernel
theorem dL_law_672 : decode cL_law 672 = .ok (.aload_n 0, 1) := by decide +kernel
theorem dL_law_673 : decode cL_law 673 = .ok (.iload 4, 2) := by decide +kernel
theorem dL_law_675 : decode cL_law 675 = .ok (.iconst 1, 1) := by decide +kernel
theorem dL_law_676 : decode cL_law 676 = .ok (.iadd, 1) := by decide +kernel
theorem dL_law_677 : decode cL_law 677 = .ok (.iaload, 1) := by decide +kernel
theorem dL_law_678 : decode cL_law 678 = .ok (.aload_n 0, 1) := by decide +kernel
theorem dL_law_679 : decode cL_law 679 = .ok (.iload 4, 2) := by decide +kernel
theorem dL_law_681 : decode cL_law 681 = .ok (.iconst 2, 1) := by decide +kernel
theorem dL_law_682 : decode cL_law 682 = .ok (.iadd, 1) := by decide +kernel
theorem dL_law_683 : decode cL_law 683 = .ok (.iaload, 1) := by decide +kernel
theorem dL_law_684 : decode cL_law 684 = .ok (.aload_n 0, 1) := by decide +kernel
theorem dL_law_685 : decode cL_law 685 = .ok (.iload 4, 2) := by decide +kernel
theorem dL_law_687 : decode cL_law 687 = .ok (.iconst 3, 1) := by decide +kernel
theorem dL_law_688 : decode cL_law 688 = .ok (.iadd, 1) := by decide +kernel
theorem dL_law_689 : decode cL_law 689 = .ok (.iaload, 1) := by decide +kernel
theorem dL_law_690 : decode cL_law 690 = .ok (.aload_n 3, 1) := by decide +kernel
theorem dL_law_691 : decode cL_law 691 = .ok (.invokestatic 68, 3) := by decide +kernel
theorem dL_law_694 : decode cL_law 694 = .ok (.istore 5, 2) := by decide +kernel
theorem dL_law_696 : decode cL_law 696 = .ok (.aload_n 2, 1) := by decide +kernel
theorem dL_law_697 : decode cL_law 697 = .ok (.aload_n 0, 1) := by decide +kernel
theorem dL_law_698 : decode cL_law 698 = .ok (.iload 4, 2) := by decide +kernel
theorem dL_law_700 : decode cL_law 700 = .ok (.iconst 1, 1) := by decide +kernel
theorem dL_law_701 : decode cL_law 701 = .ok (.iadd, 1) := by decide +kernel
theorem dL_law_702 : decode cL_law 702 = .ok (.iaload, 1) := by decide +kernel
theorem dL_law_703 : decode cL_law 703 = .ok (.aload_n 0, 1) := by decide +kernel
theorem dL_law_704 : decode cL_law 704 = .ok (.iload 4, 2) := by decide +kernel
theorem dL_law_706 : decode cL_law 706 = .ok (.iconst 2, 1) := by decide +kernel
theorem dL_law_707 : decode cL_law 707 = .ok (.iadd, 1) := by decide +kernel
theorem dL_law_708 : decode cL_law 708 = .ok (.iaload, 1) := by decide +kernel
theorem dL_law_709 : decode cL_law 709 = .ok (.aload_n 0, 1) := by decide +kernel
theorem dL_law_710 : decode cL_law 710 = .ok (.iload 4, 2) := by decide +kernel
theorem dL_law_712 : decode cL_law 712 = .ok (.iconst 3, 1) := by decide +kernel
theorem dL_law_713 : decode cL_law 713 = .ok (.iadd, 1) := by decide +kernel
theorem dL_law_714 : decode cL_law 714 = .ok (.iaload, 1) := by decide +kernel
theorem dL_law_715 : decode cL_law 715 = .ok (.invokevirtual 73, 3) := by decide +kernel
theorem dL_law_718 : decode cL_law 718 = .ok (.istore 6, 2) := by decide +kernel
theorem dL_law_720 : decode cL_law 720 = .ok (.aload_n 2, 1) := by decide +kernel
theorem dL_law_721 : decode cL_law 721 = .ok (.invokevirtual 74, 3) := by decide +kernel
theorem dL_law_724 : decode cL_law 724 = .ok (.iload 5, 2) := by decide +kernel
theorem dL_law_726 : decode cL_law 726 = .ok (.if_icmp .eq 5, 3) := by decide +kernel
theorem dL_law_729 : decode cL_law 729 = .ok (.iconst 0, 1) := by decide +kernel
theorem dL_law_730 : decode cL_law 730 = .ok (.ireturn, 1) := by decide +kernel
theorem dL_law_731 : decode cL_law 731 = .ok (.iload 5, 2) := by decide +kernel
theorem dL_law_733 : decode cL_law 733 = .ok (.ifCond .ne 15, 3) := by decide +kernel
theorem dL_law_736 : decode cL_law 736 = .ok (.aload_n 3, 1) := by decide +kernel
theorem dL_law_737 : decode cL_law 737 = .ok (.iconst 0, 1) := by decide +kernel
theorem dL_law_738 : decode cL_law 738 = .ok (.laload, 1) := by decide +kernel
theorem dL_law_739 : decode cL_law 739 = .ok (.iload 6, 2) := by decide +kernel
theorem dL_law_741 : decode cL_law 741 = .ok (.i2l, 1) := by decide +kernel
theorem dL_law_742 : decode cL_law 742 = .ok (.lcmp, 1) := by decide +kernel
theorem dL_law_743 : decode cL_law 743 = .ok (.ifCond .eq 5, 3) := by decide +kernel
theorem dL_law_746 : decode cL_law 746 = .ok (.iconst 0, 1) := by decide +kernel
theorem dL_law_747 : decode cL_law 747 = .ok (.ireturn, 1) := by decide +kernel
theorem dL_law_748 : decode cL_law 748 = .ok (.goto 102, 3) := by decide +kernel
theorem dL_law_751 : decode cL_law 751 = .ok (.aload_n 1, 1) := by decide +kernel
theorem dL_law_752 : decode cL_law 752 = .ok (.aload_n 0, 1) := by decide +kernel
theorem dL_law_753 : decode cL_law 753 = .ok (.iload 4, 2) := by decide +kernel
theorem dL_law_755 : decode cL_law 755 = .ok (.iconst 1, 1) := by decide +kernel
theorem dL_law_756 : decode cL_law 756 = .ok (.iadd, 1) := by decide +kernel
theorem dL_law_757 : decode cL_law 757 = .ok (.iaload, 1) := by decide +kernel
theorem dL_law_758 : decode cL_law 758 = .ok (.aload_n 0, 1) := by decide +kernel
theorem dL_law_759 : decode cL_law 759 = .ok (.iload 4, 2) := by decide +kernel
theorem dL_law_761 : decode cL_law 761 = .ok (.iconst 2, 1) := by decide +kernel
theorem dL_law_762 : decode cL_law 762 = .ok (.iadd, 1) := by decide +kernel
theorem dL_law_763 : decode cL_law 763 = .ok (.iaload, 1) := by decide +kernel
theorem dL_law_764 : decode cL_law 764 = .ok (.invokevirtual 78, 3) := by decide +kernel
theorem dL_law_767 : decode cL_law 767 = .ok (.aload_n 2, 1) := by decide +kernel
theorem dL_law_768 : decode cL_law 768 = .ok (.aload_n 0, 1) := by decide +kernel
theorem dL_law_769 : decode cL_law 769 = .ok (.iload 4, 2) := by decide +kernel
theorem dL_law_771 : decode cL_law 771 = .ok (.iconst 1, 1) := by decide +kernel
theorem dL_law_772 : decode cL_law 772 = .ok (.iadd, 1) := by decide +kernel
theorem dL_law_773 : decode cL_law 773 = .ok (.iaload, 1) := by decide +kernel
theorem dL_law_774 : decode cL_law 774 = .ok (.aload_n 0, 1) := by decide +kernel
theorem dL_law_775 : decode cL_law 775 = .ok (.iload 4, 2) := by decide +kernel
theorem dL_law_777 : decode cL_law 777 = .ok (.iconst 2, 1) := by decide +kernel
theorem dL_law_778 : decode cL_law 778 = .ok (.iadd, 1) := by decide +kernel
theorem dL_law_779 : decode cL_law 779 = .ok (.iaload, 1) := by decide +kernel
theorem dL_law_780 : decode cL_law 780 = .ok (.invokevirtual 81, 3) := by decide +kernel
theorem dL_law_783 : decode cL_law 783 = .ok (.if_icmp .eq 67, 3) := by decide +kernel
theorem dL_law_786 : decode cL_law 786 = .ok (.iconst 0, 1) := by decide +kernel
theorem dL_law_787 : decode cL_law 787 = .ok (.ireturn, 1) := by decide +kernel
theorem dL_law_788 : decode cL_law 788 = .ok (.aload_n 1, 1) := by decide +kernel
theorem dL_law_789 : decode cL_law 789 = .ok (.aload_n 0, 1) := by decide +kernel
theorem dL_law_790 : decode cL_law 790 = .ok (.iload 4, 2) := by decide +kernel
theorem dL_law_792 : decode cL_law 792 = .ok (.iconst 1, 1) := by decide +kernel
theorem dL_law_793 : decode cL_law 793 = .ok (.iadd, 1) := by decide +kernel
theorem dL_law_794 : decode cL_law 794 = .ok (.iaload, 1) := by decide +kernel
theorem dL_law_795 : decode cL_law 795 = .ok (.invokevirtual 82, 3) := by decide +kernel
theorem dL_law_798 : decode cL_law 798 = .ok (.aload_n 2, 1) := by decide +kernel
theorem dL_law_799 : decode cL_law 799 = .ok (.aload_n 0, 1) := by decide +kernel
theorem dL_law_800 : decode cL_law 800 = .ok (.iload 4, 2) := by decide +kernel
theorem dL_law_802 : decode cL_law 802 = .ok (.iconst 1, 1) := by decide +kernel
theorem dL_law_803 : decode cL_law 803 = .ok (.iadd, 1) := by decide +kernel
theorem dL_law_804 : decode cL_law 804 = .ok (.iaload, 1) := by decide +kernel
theorem dL_law_805 : decode cL_law 805 = .ok (.invokevirtual 85, 3) := by decide +kernel
theorem dL_law_808 : decode cL_law 808 = .ok (.if_icmp .eq 42, 3) := by decide +kernel
theorem dL_law_811 : decode cL_law 811 = .ok (.iconst 0, 1) := by decide +kernel
theorem dL_law_812 : decode cL_law 812 = .ok (.ireturn, 1) := by decide +kernel
theorem dL_law_813 : decode cL_law 813 = .ok (.aload_n 1, 1) := by decide +kernel
theorem dL_law_814 : decode cL_law 814 = .ok (.aload_n 0, 1) := by decide +kernel
theorem dL_law_815 : decode cL_law 815 = .ok (.iload 4, 2) := by decide +kernel
theorem dL_law_817 : decode cL_law 817 = .ok (.iconst 1, 1) := by decide +kernel
theorem dL_law_818 : decode cL_law 818 = .ok (.iadd, 1) := by decide +kernel
theorem dL_law_819 : decode cL_law 819 = .ok (.iaload, 1) := by decide +kernel
theorem dL_law_820 : decode cL_law 820 = .ok (.aload_n 0, 1) := by decide +kernel
theorem dL_law_821 : decode cL_law 821 = .ok (.iload 4, 2) := by decide +kernel
theorem dL_law_823 : decode cL_law 823 = .ok (.iconst 2, 1) := by decide +kernel
theorem dL_law_824 : decode cL_law 824 = .ok (.iadd, 1) := by decide +kernel
theorem dL_law_825 : decode cL_law 825 = .ok (.iaload, 1) := by decide +kernel
theorem dL_law_826 : decode cL_law 826 = .ok (.invokevirtual 86, 3) := by decide +kernel
theorem dL_law_829 : decode cL_law 829 = .ok (.aload_n 2, 1) := by decide +kernel
theorem dL_law_830 : decode cL_law 830 = .ok (.aload_n 0, 1) := by decide +kernel
theorem dL_law_831 : decode cL_law 831 = .ok (.iload 4, 2) := by decide +kernel
theorem dL_law_833 : decode cL_law 833 = .ok (.iconst 1, 1) := by decide +kernel
theorem dL_law_834 : decode cL_law 834 = .ok (.iadd, 1) := by decide +kernel
theorem dL_law_835 : decode cL_law 835 = .ok (.iaload, 1) := by decide +kernel
theorem dL_law_836 : decode cL_law 836 = .ok (.aload_n 0, 1) := by decide +kernel
theorem dL_law_837 : decode cL_law 837 = .ok (.iload 4, 2) := by decide +kernel
theorem dL_law_839 : decode cL_law 839 = .ok (.iconst 2, 1) := by decide +kernel
theorem dL_law_840 : decode cL_law 840 = .ok (.iadd, 1) := by decide +kernel
theorem dL_law_841 : decode cL_law 841 = .ok (.iaload, 1) := by decide +kernel
theorem dL_law_842 : decode cL_law 842 = .ok (.invokevirtual 89, 3) := by decide +kernel
theorem dL_law_845 : decode cL_law 845 = .ok (.if_icmp .eq 5, 3) := by decide +kernel
theorem dL_law_848 : decode cL_law 848 = .ok (.iconst 0, 1) := by decide +kernel
theorem dL_law_849 : decode cL_law 849 = .ok (.ireturn, 1) := by decide +kernel
theorem dL_law_850 : decode cL_law 850 = .ok (.iinc 4 6, 3) := by decide +kernel
theorem dL_law_853 : decode cL_law 853 = .ok (.goto (-830), 3) := by decide +kernel
theorem dL_law_856 : decode cL_law 856 = .ok (.iconst 1, 1) := by decide +kernel
theorem dL_law_857 : decode cL_law 857 = .ok (.ireturn, 1) := by decide +kernel
end
section
/-! memory pictures: a system's cells by slots (kind, i, j); L: where each lies; V: what each is -/
abbrev g_S : Type := Nat × Nat × Nat
def g_set (V : g_S → va_E) (x : g_S) (e : va_E) : g_S → va_E := fun y => if y = x then e else V y
def g_up (σ : g_S → Nat → Int32) (x : g_S) (k : Nat) (v : Int32) : g_S → Nat → Int32 := fun y => if y = x then upd (σ y) k v else σ y
theorem g_up_at (σ : g_S → Nat → Int32) (x : g_S) (k : Nat) (v : Int32) (y : g_S) (j : Nat) : g_up σ x k v y j = if y = x then (if j = k then v else σ y j) else σ y j := by
  unfold g_up upd
  by_cases h : y = x <;> simp [h]
theorem g_up_row {σ : g_S → Nat → Int32} {x : g_S} {k : Nat} {v : Int32} {y : g_S} (h : y ≠ x) : g_up σ x k v y = σ y := by simp [g_up, h]
theorem g_up_self {σ : g_S → Nat → Int32} {x : g_S} {k : Nat} {v : Int32} : g_up σ x k v x = upd (σ x) k v := by simp [g_up]
theorem g_up_same {σ : g_S → Nat → Int32} {x : g_S} {k : Nat} {v : Int32} : g_up σ x k v x k = v := by simp [g_up, upd]
theorem g_set_up {K : g_S → (Nat → Int32) → va_E} {σ : g_S → Nat → Int32} {x : g_S} {k : Nat} {v : Int32} {e : va_E} (h : K x (upd (σ x) k v) = e) : g_set (fun y => K y (σ y)) x e = fun y => K y (g_up σ x k v y) := by
  funext y
  unfold g_set g_up
  by_cases hy : y = x
  · subst hy; simp [h]
  · simp [hy]
def g_H (D : va_G) (cl : List vw_C) (dom : g_S → Prop) (L : g_S → Nat) (V : g_S → va_E) (H : Heap) : Prop := (∀ x, dom x → va_at D cl (L x, V x) H) ∧ ∀ x y, dom x → dom y → L x = L y → x = y
def g_A (dom : g_S → Prop) (L : g_S → Nat) : Nat → Prop := fun q => ∃ x, dom x ∧ L x = q
theorem g_A.in {dom : g_S → Prop} {L : g_S → Nat} {x : g_S} (h : dom x) : g_A dom L (L x) := ⟨x, h, rfl⟩
theorem g_H.one {D : va_G} {cl : List vw_C} {dom : g_S → Prop} {L : g_S → Nat} {V : g_S → va_E} {H : Heap} (h : g_H D cl dom L V H) {x : g_S} (hx : dom x) {e : va_E} (he : V x = e) : va_P D cl [(L x, e)] H := by
  intro k q hk
  have h0 : k < 1 := (List.getElem?_eq_some_iff.mp hk).1
  rw [show k = 0 by omega] at hk
  cases hk
  rw [← he]
  exact h.1 x hx
theorem g_H.set {D : va_G} {cl : List vw_C} {dom : g_S → Prop} {L : g_S → Nat} {V : g_S → va_E} {H H1 : Heap} (h : g_H D cl dom L V H) {x : g_S} (hx : dom x) {e : va_E} (he : va_at D cl (L x, e) H1) (oq : ∀ q : Nat, q ≠ L x → H1[q]? = H[q]?) : g_H D cl dom L (g_set V x e) H1 := by
  refine ⟨fun y hy => ?_, h.2⟩
  unfold g_set
  by_cases hxy : y = x
  · subst hxy; simpa using he
  · rw [if_neg hxy]
    exact (h.1 y hy).kept (oq _ (fun z => hxy (h.2 y x hy hx z)))
/-- kept by whatever writes elsewhere -/
theorem g_H.kept {D : va_G} {cl : List vw_C} {dom : g_S → Prop} {L : g_S → Nat} {V : g_S → va_E} {H H1 : Heap} (h : g_H D cl dom L V H) (hq : ∀ x, dom x → H1[L x]? = H[L x]?) : g_H D cl dom L V H1 := ⟨fun x hx => (h.1 x hx).kept (hq x hx), h.2⟩
theorem g_H.lt {D : va_G} {cl : List vw_C} {dom : g_S → Prop} {L : g_S → Nat} {V : g_S → va_E} {H : Heap} (h : g_H D cl dom L V H) {x : g_S} (hx : dom x) : L x < H.size := (h.1 x hx).lt
/-- the words that every method here takes: the tables' good ones -/
def g_T : List Cond := lw_tbl.filter goodWord
theorem g_T_good : ∀ w ∈ g_T, goodWord w = true := fun w h => (List.mem_filter.mp h).2
theorem g_T_in {w : Cond} (h : w ∈ g_T) : w ∈ lw_tbl := (List.mem_filter.mp h).1
theorem g_good {c1 : Cond} (h : c1 ∈ g_T) : GoodIn g_T (c1 :: g_T) := fun w hw => (List.mem_cons.mp hw).elim (fun e => by subst e; exact ⟨h, good_of_word (g_T_good _ h)⟩) (fun h2 => ⟨h2, good_of_word (g_T_good _ h2)⟩)
theorem g_goodV {own : String} {idx : Nat} {C : String} {y : MethodName} {c1 : Cond} (h1 : c1 ∈ g_T) (h2 : Cond.methodLink own idx y ∈ g_T) (h3 : Cond.instanceMethod y ∈ g_T) (h4 : Cond.selects C y y ∈ g_T) (h5 : Cond.initialized C ∈ g_T) : GoodIn g_T (wsV own idx C y (c1 :: g_T)) := by
  intro w hw
  unfold wsV at hw
  rcases List.mem_append.mp hw with h | h
  · simp only [List.mem_cons, List.not_mem_nil, or_false] at h
    rcases h with rfl | rfl | rfl | rfl
    · exact ⟨h2, good_of_word (g_T_good _ h2)⟩
    · exact ⟨h3, good_of_word (g_T_good _ h3)⟩
    · exact ⟨h4, good_of_word (g_T_good _ h4)⟩
    · exact ⟨h5, good_of_word (g_T_good _ h5)⟩
  · exact g_good h1 w h
theorem g_goodS {own : String} {idx : Nat} {y : MethodName} {c1 : Cond} (h1 : c1 ∈ g_T) (h2 : Cond.methodLink own idx y ∈ g_T) (h3 : Cond.static y ∈ g_T) (h5 : Cond.initialized own ∈ g_T) : GoodIn g_T (wsS own idx y (c1 :: g_T)) := by
  intro w hw
  unfold wsS at hw
  rcases List.mem_append.mp hw with h | h
  · simp only [List.mem_cons, List.not_mem_nil, or_false] at h
    rcases h with rfl | rfl | rfl
    · exact ⟨h2, good_of_word (g_T_good _ h2)⟩
    · exact ⟨h3, good_of_word (g_T_good _ h3)⟩
    · exact ⟨h5, good_of_word (g_T_good _ h5)⟩
  · exact g_good h1 w h
/-- the nest's links, which are no good words -/
def g_N (U : State) : Prop := (va_Nw (.methodLinkNest RX2 28 yX6_isIndex RX6) U ∧ va_Nw (.methodLinkNest RX2 31 yX6_isTerm RX6) U) ∧ (va_Nw (.methodLinkNest RX1 28 yX6_isIndex RX6) U ∧ va_Nw (.methodLinkNest RX1 32 yX6_isTerm RX6) U)
theorem g_N.warm {s U : State} (hW : s.WarmedH U.vm) (h : g_N s) : g_N U := ⟨⟨h.1.1.warmM hW, h.1.2.warmM hW⟩, ⟨h.2.1.warmM hW, h.2.2.warmM hW⟩⟩
theorem g_N.same {s U : State} (hv : s.vm = U.vm) (h : g_N s) : g_N U := ⟨⟨h.1.1.same rfl hv, h.1.2.same rfl hv⟩, ⟨h.2.1.same rfl hv, h.2.2.same rfl hv⟩⟩
def g_Pc (D : va_G) (cl : List vw_C) (tys : List (ClassId × FieldType)) (dom : g_S → Prop) (L : g_S → Nat) (V : g_S → va_E) (av : List Value) : Array Value → State → Prop := fun a U => a = av.toArray ∧ g_H D cl dom L V U.heap ∧ va_K D cl tys U ∧ g_N U
def g_Qc (D : va_G) (cl : List vw_C) (dom : g_S → Prop) (L : g_S → Nat) (V : g_S → va_E) (v : Option Value) : Array Value → State → Outcome → State → Prop := fun _ st oc t => oc = .returned v ∧ g_H D cl dom L V t.heap ∧ va_F (g_A dom L) st t
def g_R (k : Nat) : Room := { frames := k, cells := 0, slots := 0, locals := 40 * k }
theorem g_Pc.blind {D : va_G} {cl : List vw_C} {tys : List (ClassId × FieldType)} {dom : g_S → Prop} {L : g_S → Nat} {V : g_S → va_E} {av : List Value} : FrameBlind (g_Pc D cl tys dom L V av) := by
  intro a U g mk h
  obtain ⟨h1, h2, h3, h4⟩ := h
  exact ⟨h1, h2, va_K.moved (u := U) (U := U.calling g mk a) (Vm.Alike.refl U.vm) h3, h4.same rfl⟩
section GB
variable {p : Program} {l : Launch} {e : Env} {R : Room} {s : State} {m : MethodId} {args : Array Value} {below : List Frame} {meth : Method} {c : Code} {H : Heap} {locs : List Loc} {cells slots : Nat} {Q : State → Prop}
variable {cc : ByteArray} {pc : Nat} {ls : Array Slot} {rest st0 : List Value} {D : va_G} {cl : List vw_C} {A : Nat → Prop} {tys : List (ClassId × FieldType)} {H0 : Heap}
variable {dom : g_S → Prop} {L : g_S → Nat} {V V' : g_S → va_E} {K : g_S → (Nat → Int32) → va_E} {σ : g_S → Nat → Int32}
theorem g_preV {As : List Value} {q : vw_C} (hK : va_K D cl tys s) (hN : g_N s) (hG : g_H D cl dom L V H) {x : g_S} (hx : dom x) {ci : Nat} {fs : List Value} (he : V x = .inr (ci, fs)) (hc : cl[ci]? = some q) : PreV s H q.1 (L x) (g_Pc D cl tys dom L V (.ref (L x) :: As)) As :=
  ⟨g_Pc.blind, va_recv hK (hG.one hx he) hc (q0 := 0) rfl, fun U hU hW => ⟨rfl, by rw [hU]; exact hG, va_K.moved hW.alike hK, hN.warm hW⟩⟩
theorem g_preS {As : List Value} (hK : va_K D cl tys s) (hN : g_N s) (hG : g_H D cl dom L V H) : PreS s H (g_Pc D cl tys dom L V As) As :=
  ⟨g_Pc.blind, fun U hU hW => ⟨rfl, by rw [hU]; exact hG, va_K.moved hW.alike hK, hN.warm hW⟩⟩
/-- behind a call, in general -/
theorem g_cont0 {v : Option Value} {a : Array Value} (hr : va_Run p l e R s m args below meth c H locs cells slots 0 0 (F0 m pc ls st0) rest (g_Qc D cl dom L V' v a) (g_A dom L)) (hS : va_S A H0 H locs) (hA : ∀ q, g_A dom L q → A q)
    (kk : ∀ (H1 : Heap) (locs1 : List Loc), g_H D cl dom L V' H1 → va_S A H0 H1 locs1 → H.size ≤ H1.size → (∀ q : Nat, q < H.size → ¬ g_A dom L q → H1[q]? = H[q]?) → W p l e R s m args below meth c H1 locs1 cells slots Q (F0 m (pc + 3) ls (v.toList ++ rest))) : W p l e R s m args below meth c H locs cells slots Q (F0 m pc ls st0) := by
  intro T hT X
  obtain ⟨v2, st₀, t, T', L2, h0, X', hL, e1, e2, ⟨hv, hg, hz, hk⟩, st⟩ := hr T hT X
  cases hv
  rw [h0] at hz hk
  obtain ⟨t2, a1, b1⟩ := kk T'.heap (locs ++ L2) (by rw [e1]; exact hg)
    ⟨Nat.le_trans hS.1 (by rw [e1]; exact hz), fun q h1 h2 => by rw [e1, hk q (Nat.lt_of_lt_of_le h1 hS.1) (fun z => h2 (hA q z))]; exact hS.2.1 q h1 h2, fun q hq => by
      rcases List.mem_append.mp hq with h | h
      · exact hS.2.2 q h
      · exact hA _ (hL q h)⟩ (by rw [e1]; exact hz) (fun q h1 h2 => by rw [e1]; exact hk q h1 h2) T' rfl X'
  exact ⟨t2, st t2 a1, b1⟩
theorem g_cont {v : Option Value} {a : Array Value} (hr : va_Run p l e R s m args below meth c H locs cells slots 0 0 (F0 m pc ls st0) rest (g_Qc D cl dom L V' v a) (g_A dom L)) (hS : va_S (g_A dom L) H0 H locs)
    (kk : ∀ (H : Heap) (locs : List Loc), g_H D cl dom L V' H → va_S (g_A dom L) H0 H locs → W p l e R s m args below meth c H locs cells slots Q (F0 m (pc + 3) ls (v.toList ++ rest))) : W p l e R s m args below meth c H locs cells slots Q (F0 m pc ls st0) :=
  g_cont0 hr hS (fun _ h => h) (fun H1 l1 h1 h2 _ _ => kk H1 l1 h1 h2)
theorem g_get (hexec : p.tables.exec = Jvm.exec) (hb : c.code = cc) {own C : String} {T : u_T} {N ci index : Nat} {Ts : List Cond} (hts : ∀ w ∈ Ts, w.before args s = true) (hin : ∀ w ∈ u_ws C T N, w ∈ Ts) (hown : s.vm.findClass own = some m.cls) (hK : va_K D cl tys s) (hG : g_H D cl dom L V H) (x : g_S) (hx : dom x) {fs : List Value} (he : V x = .inr (ci, fs)) (hc : cl[ci]? = some (C, T, N)) (k : Nat) (hk : k < N) (hlink : Cond.fieldLink own index (T k).1 (T k).2.1 (T k).2.2.1 ∈ Ts) {v : Value} (hv : fs[k]? = some v) (hdg : decode cc pc = .ok (.getfield index, 3))
    (kk : W p l e R s m args below meth c H locs cells slots Q (F0 m (pc + 3) ls (v :: rest))) : W p l e R s m args below meth c H locs cells slots Q (F0 m pc ls (.ref (L x) :: rest)) :=
  va_get hexec hb hts hin hown hK (hG.one hx he) 0 rfl hc k hk (hts _ hlink) (fun _ h => h) hv hdg kk
theorem g_put (hexec : p.tables.exec = Jvm.exec) (hb : c.code = cc) {own C : String} {T : u_T} {N ci index : Nat} {Ts : List Cond} (hts : ∀ w ∈ Ts, w.before args s = true) (hin : ∀ w ∈ u_ws C T N, w ∈ Ts) {ty0 : Nat → FieldType} (hty : ∀ k, k < N → parseFieldDescriptor (T k).2.2.1 = some (ty0 k)) (hnm : ∀ a, a < N → ∀ b, b < N → a ≠ b → (T a).2.1 ≠ (T b).2.1) (hown : s.vm.findClass own = some m.cls) (hK : va_K D cl tys s) (hG : g_H D cl dom L V H) (hS0 : va_S A H0 H locs) (x : g_S) (hx : dom x) (hA : A (L x)) {fs : List Value} (he : V x = .inr (ci, fs)) (hc : cl[ci]? = some (C, T, N)) (k : Nat) (hk : k < N) (hlink : Cond.fieldLink own index (T k).1 (T k).2.1 (T k).2.2.1 ∈ Ts) (hfin : (T k).2.2.2 = false) {ty : FieldType} {v : Value} (hd : parseFieldDescriptor (T k).2.2.1 = some ty) (hn : narrow ty v = v) (hfit : fits ty v = true) (hl : k < fs.length)
    (hdg : decode cc pc = .ok (.putfield index, 3)) (kk : ∀ (H : Heap) (locs : List Loc), g_H D cl dom L (g_set V x (.inr (ci, fs.set k v))) H → va_S A H0 H locs → W p l e R s m args below meth c H locs cells slots Q (F0 m (pc + 3) ls rest)) : W p l e R s m args below meth c H locs cells slots Q (F0 m pc ls (v :: .ref (L x) :: rest)) := by
  have hap := va_apart (own := own) hts hin ty0 hty hnm hK hc
  have hP := hG.one hx he
  obtain ⟨r, h1, cell, q1, q2, q3, q4⟩ := hP 0 _ rfl
  have hr : r = (C, T, N) := Option.some.inj (h1.symm.trans hc)
  subst hr
  obtain ⟨hS, hfc, kC, hkC, hkind⟩ := hK.1 ci _ hc
  obtain ⟨cf, kf, fi, f, hi, hsl⟩ := hS k hk
  have hlay := hts _ (hin _ (u_in_lay hk))
  unfold u_lay at hlay
  rw [if_neg (by rw [hfin]; decide)] at hlay
  have hst := (u_facts hfc hkC (u_lays hts hin hk) hi).1
  have h6 := u_store hfc hkC hkind hlay hi hd hn hfit
  refine W.putK hexec hb (f := f) ⟨hown, hts _ hlink, ⟨_, _, _, hi⟩, hst⟩ (by rw [q2]; exact h6) q1 q3 (by rw [hsl]; exact k2_hasslot (q4 k hk)) rfl rfl hdg fun H' e1 e2 e3 => ?_
  rw [hsl] at e1 ⊢
  exact kk H' _ (hG.set hx ⟨_, hc, t_OB.to (V := updV (vp_V fs) k v) ⟨_, e1, q2, q3, t_set q4 hap hk v⟩ (fun j _ => vp_updV_set hl v j)⟩ e3) (hS0.put e2 e3 hA)
/-- an int (or boolean) field, by the memory -/
theorem g_puti (hexec : p.tables.exec = Jvm.exec) (hb : c.code = cc) {own C : String} {T : u_T} {N ci index : Nat} {Ts : List Cond} (hts : ∀ w ∈ Ts, w.before args s = true) (hin : ∀ w ∈ u_ws C T N, w ∈ Ts) {ty0 : Nat → FieldType} (hty : ∀ k, k < N → parseFieldDescriptor (T k).2.2.1 = some (ty0 k)) (hnm : ∀ a, a < N → ∀ b, b < N → a ≠ b → (T a).2.1 ≠ (T b).2.1) (hown : s.vm.findClass own = some m.cls) (hK : va_K D cl tys s) (hG : g_H D cl dom L (fun y => K y (σ y)) H) (hS0 : va_S (g_A dom L) H0 H locs) (x : g_S) (hx : dom x) {fs : List Value} (he : K x (σ x) = .inr (ci, fs)) (hc : cl[ci]? = some (C, T, N)) (k : Nat) (hk : k < N) {v : Int32} (he2 : K x (upd (σ x) k v) = .inr (ci, fs.set k (.int v))) (hlink : Cond.fieldLink own index (T k).1 (T k).2.1 (T k).2.2.1 ∈ Ts) (hfin : (T k).2.2.2 = false) {ty : FieldType} (hd : parseFieldDescriptor (T k).2.2.1 = some ty) (hn : narrow ty (.int v) = .int v) (hfit : fits ty (.int v) = true) (hl : k < fs.length)
    (hdg : decode cc pc = .ok (.putfield index, 3)) (kk : ∀ (H : Heap) (locs : List Loc), g_H D cl dom L (fun y => K y (g_up σ x k v y)) H → va_S (g_A dom L) H0 H locs → W p l e R s m args below meth c H locs cells slots Q (F0 m (pc + 3) ls rest)) : W p l e R s m args below meth c H locs cells slots Q (F0 m pc ls (.int v :: .ref (L x) :: rest)) := by
  refine g_put hexec hb hts hin hty hnm hown hK hG hS0 x hx (g_A.in hx) he hc k hk hlink hfin hd hn hfit hl hdg (fun H locs hG hS => ?_)
  rw [g_set_up he2] at hG
  exact kk H locs hG hS
theorem g_iald (hexec : p.tables.exec = Jvm.exec) (hb : c.code = cc) (hK : va_K D cl tys s) (hG : g_H D cl dom L V H) (x : g_S) (hx : dom x) (t0 : Nat) {cA : ClassId} {n : Nat} {f : Nat → Int32} (ha : V x = .inl (cA, n, .inl f)) (ht : tys[t0]? = some (cA, .int)) {i : Int32} (hin : vp_in i n) (hdg : decode cc pc = .ok (.iaload, 1))
    (kk : W p l e R s m args below meth c H locs cells slots Q (F0 m (pc + 1) ls (.int (f i.toNatClampNeg) :: rest))) : W p l e R s m args below meth c H locs cells slots Q (F0 m pc ls (.int i :: .ref (L x) :: rest)) :=
  va_iald hexec hb hK (hG.one hx ha) 0 t0 rfl ht hin hdg kk
theorem g_zald (hexec : p.tables.exec = Jvm.exec) (hb : c.code = cc) (hK : va_K D cl tys s) (hG : g_H D cl dom L V H) (x : g_S) (hx : dom x) (t0 : Nat) {cA : ClassId} {n : Nat} {f : Nat → Int32} (ha : V x = .inl (cA, n, .inl f)) (ht : tys[t0]? = some (cA, .boolean)) {i : Int32} (hin : vp_in i n) (hdg : decode cc pc = .ok (.baload, 1))
    (kk : W p l e R s m args below meth c H locs cells slots Q (F0 m (pc + 1) ls (.int (f i.toNatClampNeg) :: rest))) : W p l e R s m args below meth c H locs cells slots Q (F0 m pc ls (.int i :: .ref (L x) :: rest)) :=
  va_zald hexec hb hK (hG.one hx ha) 0 t0 rfl ht hin hdg kk
theorem g_ix {i : Int32} {n : Nat} (h : vp_in i n) : i.toNatClampNeg < n := Nat.not_le.mp fun q => h (Or.inr q)
theorem g_iast (hexec : p.tables.exec = Jvm.exec) (hb : c.code = cc) (hK : va_K D cl tys s) (hG : g_H D cl dom L (fun y => K y (σ y)) H) (hS : va_S (g_A dom L) H0 H locs) (x : g_S) (hx : dom x) (t0 : Nat) {cA : ClassId} {n : Nat} (ha : ∀ f, K x f = .inl (cA, n, .inl f)) (ht : tys[t0]? = some (cA, .int)) {i v : Int32} (hin : vp_in i n) (hdg : decode cc pc = .ok (.iastore, 1))
    (kk : ∀ (H : Heap) (locs : List Loc), g_H D cl dom L (fun y => K y (g_up σ x i.toNatClampNeg v y)) H → va_S (g_A dom L) H0 H locs → W p l e R s m args below meth c H locs cells slots Q (F0 m (pc + 1) ls rest)) : W p l e R s m args below meth c H locs cells slots Q (F0 m pc ls (.int v :: .int i :: .ref (L x) :: rest)) := by
  refine W.iast hexec hb ((hG.one hx (ha (σ x))) 0 _ rfl) ((hK.2 t0 _ ht).1 n (fun j => .int (σ x j))) (fun q => by cases q) (by show ¬ (i < 0 ∨ (arrV _ _ _).slots.size ≤ _); rw [arrV_size]; exact hin) rfl rfl hdg fun H1 e z oq => ?_
  have h1 := hG.set (H1 := H1) hx (e := .inl (cA, n, .inl (upd (σ x) i.toNatClampNeg v))) (by
    show H1[L x]? = some (vp_cell _ _)
    rw [e, vp_cell_i, vp_cell_i, arrV_store]
    congr 2
    funext q
    by_cases hq : q = i.toNatClampNeg
    · subst hq; simp [updV, upd]
    · simp [updV, upd, hq]) oq
  rw [g_set_up (ha _)] at h1
  exact kk H1 _ h1 (hS.put z oq (g_A.in hx))
theorem g_zast (hexec : p.tables.exec = Jvm.exec) (hb : c.code = cc) (hK : va_K D cl tys s) (hG : g_H D cl dom L (fun y => K y (σ y)) H) (hS : va_S (g_A dom L) H0 H locs) (x : g_S) (hx : dom x) (t0 : Nat) {cA : ClassId} {n : Nat} (ha : ∀ f, K x f = .inl (cA, n, .inl f)) (ht : tys[t0]? = some (cA, .boolean)) {i v : Int32} (hin : vp_in i n) (hn : narrow .boolean (.int v) = .int v) (hdg : decode cc pc = .ok (.bastore, 1))
    (kk : ∀ (H : Heap) (locs : List Loc), g_H D cl dom L (fun y => K y (g_up σ x i.toNatClampNeg v y)) H → va_S (g_A dom L) H0 H locs → W p l e R s m args below meth c H locs cells slots Q (F0 m (pc + 1) ls rest)) : W p l e R s m args below meth c H locs cells slots Q (F0 m pc ls (.int v :: .int i :: .ref (L x) :: rest)) := by
  refine W.zast hexec hb ((hG.one hx (ha (σ x))) 0 _ rfl) ((hK.2 t0 _ ht).1 n (fun j => .int (σ x j))) (fun q => by cases q) (by show ¬ (i < 0 ∨ (arrV _ _ _).slots.size ≤ _); rw [arrV_size]; exact hin) rfl rfl hdg fun H1 e z oq => ?_
  have h1 := hG.set (H1 := H1) hx (e := .inl (cA, n, .inl (upd (σ x) i.toNatClampNeg v))) (by
    show H1[L x]? = some (vp_cell _ _)
    rw [e, hn, vp_cell_i, vp_cell_i, arrV_store]
    congr 2
    funext q
    by_cases hq : q = i.toNatClampNeg
    · subst hq; simp [updV, upd]
    · simp [updV, upd, hq]) oq
  rw [g_set_up (ha _)] at h1
  exact kk H1 _ h1 (hS.put z oq (g_A.in hx))
theorem g_aald (hexec : p.tables.exec = Jvm.exec) (hb : c.code = cc) (hK : va_K D cl tys s) (hG : g_H D cl dom L V H) (x : g_S) (hx : dom x) (t0 : Nat) {cA : ClassId} {ty : FieldType} {n : Nat} {f : Nat → Option Nat} (ha : V x = .inl (cA, n, .inr (.inr (.inr (.inr f))))) (ht : tys[t0]? = some (cA, ty)) (hty : ty.isReference = true) {i : Int32} (hin : vp_in i n) {v : Value} (hv : va_rf (f i.toNatClampNeg) = v) (hdg : decode cc pc = .ok (.aaload, 1))
    (kk : W p l e R s m args below meth c H locs cells slots Q (F0 m (pc + 1) ls (v :: rest))) : W p l e R s m args below meth c H locs cells slots Q (F0 m pc ls (.int i :: .ref (L x) :: rest)) := by
  subst hv
  have hlt := g_ix hin
  exact W.aald (v := va_rf (f i.toNatClampNeg)) (ty := ty) hexec hb ((hG.one hx ha) 0 _ rfl) ((hK.2 t0 _ ht).1 n (fun j => va_rf (f j))) hty (fun q => by cases q) (by show ¬ (i < 0 ∨ (arrV _ _ _).slots.size ≤ _); rw [arrV_size]; exact hin) (by show (arrV _ _ _).slots[_]? = _; rw [arrV_read _ _ hlt]) rfl rfl hdg kk
theorem g_alen (hexec : p.tables.exec = Jvm.exec) (hb : c.code = cc) (hK : va_K D cl tys s) (hG : g_H D cl dom L V H) (x : g_S) (hx : dom x) (t0 : Nat) {cA : ClassId} {z : vp_A} (ha : V x = .inl (cA, z)) {ty : FieldType} (ht : tys[t0]? = some (cA, ty)) {v : Int32} (hv : Int32.ofNat z.1 = v) (hdg : decode cc pc = .ok (.arraylength, 1))
    (kk : W p l e R s m args below meth c H locs cells slots Q (F0 m (pc + 1) ls (.int v :: rest))) : W p l e R s m args below meth c H locs cells slots Q (F0 m pc ls (.ref (L x) :: rest)) :=
  va_alen hexec hb hK (hG.one hx ha) 0 t0 rfl ht hv hdg kk
theorem g_iret {v : Int32} {v' : Option Value} (hexec : p.tables.exec = Jvm.exec) (hb : c.code = cc) (hr : meth.sig.returnType = some .int) (hlk : meth.locks = false) (hG : g_H D cl dom L V H) (hS : va_S (g_A dom L) s.heap H locs) (hdg : decode cc pc = .ok (.ireturn, 1)) (hv : v' = some (.int v)) (hV : V' = V) : W p l e R s m args below meth c H locs 0 0 (MQ below (g_Qc D cl dom L V' v') args s 0 0 (g_A dom L)) (F0 m pc ls [.int v]) := by
  subst hv
  subst hV
  exact W.iret hexec hb hr (fun t ht _ => ⟨rfl, by rw [ht]; exact hG, hS.F ht⟩) hS.2.2 hdg hlk
theorem g_zret {v : Int32} {v' : Option Value} (hexec : p.tables.exec = Jvm.exec) (hb : c.code = cc) (hr : meth.sig.returnType = some .boolean) (hlk : meth.locks = false) (hG : g_H D cl dom L V H) (hS : va_S (g_A dom L) s.heap H locs) (hdg : decode cc pc = .ok (.ireturn, 1)) (hn : narrow .boolean (.int v) = .int v) (hv : v' = some (.int v)) (hV : V' = V) : W p l e R s m args below meth c H locs 0 0 (MQ below (g_Qc D cl dom L V' v') args s 0 0 (g_A dom L)) (F0 m pc ls [.int v]) := by
  subst hv
  subst hV
  exact W.zret hexec hb hr hn (fun t ht _ => ⟨rfl, by rw [ht]; exact hG, hS.F ht⟩) hS.2.2 hdg hlk
theorem g_vret {v' : Option Value} (hexec : p.tables.exec = Jvm.exec) (hb : c.code = cc) (hr : meth.sig.returnType = none) (hlk : meth.locks = false) (hG : g_H D cl dom L V H) (hS : va_S (g_A dom L) s.heap H locs) (hdg : decode cc pc = .ok (.return_, 1)) (hv : v' = none) (hV : V' = V) : W p l e R s m args below meth c H locs 0 0 (MQ below (g_Qc D cl dom L V' v') args s 0 0 (g_A dom L)) (F0 m pc ls []) := by
  subst hv
  subst hV
  exact W.vret hexec hb hr (fun t ht _ => ⟨rfl, by rw [ht]; exact hG, hS.F ht⟩) hS.2.2 hdg hlk
theorem g_aret {v : Value} {n : String} {v' : Option Value} (hexec : p.tables.exec = Jvm.exec) (hb : c.code = cc) (hr : meth.sig.returnType = some (.object n)) (hlk : meth.locks = false) (hG : g_H D cl dom L V H) (hS : va_S (g_A dom L) s.heap H locs) (hdg : decode cc pc = .ok (.areturn, 1)) (ha : v = .null ∨ ∃ a, v = .ref a) (hv : v' = some v) (hV : V' = V) : W p l e R s m args below meth c H locs 0 0 (MQ below (g_Qc D cl dom L V' v') args s 0 0 (g_A dom L)) (F0 m pc ls [v]) := by
  subst hv
  subst hV
  exact W.aret hexec hb hr (Or.inl ⟨n, rfl⟩) ha (fun t ht _ => ⟨rfl, by rw [ht]; exact hG, hS.F ht⟩) hS.2.2 hdg hlk
end GB
/-- a contract: from the memory V with the arguments av the method answers v, the memory is V' -/
def g_Met (l : Launch) (y : MethodName) (c1 : Cond) (k : Nat) (D : va_G) (cl : List vw_C) (tys : List (ClassId × FieldType)) (dom : g_S → Prop) (L : g_S → Nat) (V : g_S → va_E) (av : List Value) (v : Option Value) (V' : g_S → va_E) : Prop :=
  Met l y (c1 :: g_T) (g_R k) (g_Pc D cl tys dom L V av) (g_Qc D cl dom L V' v) 0 0 (g_A dom L)
theorem g_Met.of {l : Launch} {y : MethodName} {cc : ByteArray} {maxL : Nat} {ret : Option FieldType} {k : Nat} {D : va_G} {cl : List vw_C} {tys : List (ClassId × FieldType)} {dom : g_S → Prop} {L : g_S → Nat} {V V' : g_S → va_E} {av : List Value} {v : Option Value} (hy : plainName y.cls = true) (hn : (lg_sl av).length ≤ maxL)
    (body : ∀ (p : Program) (e : Env) (s : State) (m : MethodId) (below : List Frame) (meth : Method) (c : Code), p.tables.exec = Jvm.exec → c.code = cc → meth.sig.returnType = ret → meth.locks = false → c.maxLocals = maxL → s.vm.findClass y.cls = some m.cls → (∀ w ∈ g_T, w.before av.toArray s = true) → va_K D cl tys s → g_N s →
      ∀ (H : Heap) (locs : List Loc), g_H D cl dom L V H → va_S (g_A dom L) s.heap H locs → ∀ (ls : Array Slot), lv_has ls maxL (lv_args 0 av) → W p l e (g_R k) s m av.toArray below meth c H locs 0 0 (MQ below (g_Qc D cl dom L V' v) av.toArray s 0 0 (g_A dom L)) (F0 m 0 ls [])) : g_Met l y (.code y cc maxL ret) k D cl tys dom L V av v V' := by
  refine Met.ofW (cc := cc) (maxL := maxL) (ret := ret) hy rfl ?_
  intro p e s m args below meth c s₁ B hml hv
  obtain ⟨rfl, hG, hK, hN⟩ := hv
  have hl := lv_entry av (n := maxL) hn
  rw [lg_entry_eq]
  generalize (lg_sl av ++ List.replicate (maxL - (lg_sl av).length) Slot.unset).toArray = ls at hl ⊢
  exact body p e s m below meth c B.exec B.bytes B.returns B.notSynchronized hml (findClass_of_methodNamed B.named) (fun w hw => atoms_spec (ws := .code y cc maxL ret :: g_T) B.pre w (List.mem_cons_of_mem _ hw)) hK hN s.heap [] hG va_S.rf ls hl
end
section
theorem g_in {w : Cond} (k : Nat) (h : lw_tbl[k]? = some w) (hg : goodWord w = true) : w ∈ g_T := List.mem_filter.mpr ⟨List.mem_of_getElem? h, hg⟩
theorem ulX0_0 : u_lay RX0 TX0 0 ∈ g_T := g_in 182 (by decide +kernel) (by decide +kernel)
theorem ulX0_1 : u_lay RX0 TX0 1 ∈ g_T := g_in 184 (by decide +kernel) (by decide +kernel)
theorem ulX0_2 : u_lay RX0 TX0 2 ∈ g_T := g_in 186 (by decide +kernel) (by decide +kernel)
theorem ulX0_3 : u_lay RX0 TX0 3 ∈ g_T := g_in 188 (by decide +kernel) (by decide +kernel)
theorem ulX0_4 : u_lay RX0 TX0 4 ∈ g_T := g_in 190 (by decide +kernel) (by decide +kernel)
theorem ulX0_5 : u_lay RX0 TX0 5 ∈ g_T := g_in 192 (by decide +kernel) (by decide +kernel)
theorem inX0g : ∀ w ∈ u_ws RX0 TX0 6, w ∈ g_T := by
  intro w hw
  obtain ⟨k, hk, rfl⟩ := List.mem_map.mp hw
  have hk := List.mem_range.mp hk
  match k, hk with
  | 0, _ => exact ulX0_0
  | 1, _ => exact ulX0_1
  | 2, _ => exact ulX0_2
  | 3, _ => exact ulX0_3
  | 4, _ => exact ulX0_4
  | 5, _ => exact ulX0_5
  | k + 6, hk => exact absurd hk (by omega)
theorem ulX1_0 : u_lay RX1 TX1 0 ∈ g_T := g_in 70 (by decide +kernel) (by decide +kernel)
theorem ulX1_1 : u_lay RX1 TX1 1 ∈ g_T := g_in 72 (by decide +kernel) (by decide +kernel)
theorem ulX1_2 : u_lay RX1 TX1 2 ∈ g_T := g_in 74 (by decide +kernel) (by decide +kernel)
theorem ulX1_3 : u_lay RX1 TX1 3 ∈ g_T := g_in 76 (by decide +kernel) (by decide +kernel)
theorem ulX1_4 : u_lay RX1 TX1 4 ∈ g_T := g_in 78 (by decide +kernel) (by decide +kernel)
theorem inX1g : ∀ w ∈ u_ws RX1 TX1 5, w ∈ g_T := by
  intro w hw
  obtain ⟨k, hk, rfl⟩ := List.mem_map.mp hw
  have hk := List.mem_range.mp hk
  match k, hk with
  | 0, _ => exact ulX1_0
  | 1, _ => exact ulX1_1
  | 2, _ => exact ulX1_2
  | 3, _ => exact ulX1_3
  | 4, _ => exact ulX1_4
  | k + 5, hk => exact absurd hk (by omega)
theorem ulX2_0 : u_lay RX2 TX2 0 ∈ g_T := g_in 51 (by decide +kernel) (by decide +kernel)
theorem ulX2_1 : u_lay RX2 TX2 1 ∈ g_T := g_in 53 (by decide +kernel) (by decide +kernel)
theorem ulX2_2 : u_lay RX2 TX2 2 ∈ g_T := g_in 55 (by decide +kernel) (by decide +kernel)
theorem inX2g : ∀ w ∈ u_ws RX2 TX2 3, w ∈ g_T := by
  intro w hw
  obtain ⟨k, hk, rfl⟩ := List.mem_map.mp hw
  have hk := List.mem_range.mp hk
  match k, hk with
  | 0, _ => exact ulX2_0
  | 1, _ => exact ulX2_1
  | 2, _ => exact ulX2_2
  | k + 3, hk => exact absurd hk (by omega)
theorem ulX3_0 : u_lay RX3 TX3 0 ∈ g_T := g_in 163 (by decide +kernel) (by decide +kernel)
theorem ulX3_1 : u_lay RX3 TX3 1 ∈ g_T := g_in 165 (by decide +kernel) (by decide +kernel)
theorem ulX3_2 : u_lay RX3 TX3 2 ∈ g_T := g_in 167 (by decide +kernel) (by decide +kernel)
theorem inX3g : ∀ w ∈ u_ws RX3 TX3 3, w ∈ g_T := by
  intro w hw
  obtain ⟨k, hk, rfl⟩ := List.mem_map.mp hw
  have hk := List.mem_range.mp hk
  match k, hk with
  | 0, _ => exact ulX3_0
  | 1, _ => exact ulX3_1
  | 2, _ => exact ulX3_2
  | k + 3, hk => exact absurd hk (by omega)
theorem ulX4_0 : u_lay RX4 TX4 0 ∈ g_T := g_in 204 (by decide +kernel) (by decide +kernel)
theorem ulX4_1 : u_lay RX4 TX4 1 ∈ g_T := g_in 206 (by decide +kernel) (by decide +kernel)
theorem ulX4_2 : u_lay RX4 TX4 2 ∈ g_T := g_in 208 (by decide +kernel) (by decide +kernel)
theorem inX4g : ∀ w ∈ u_ws RX4 TX4 3, w ∈ g_T := by
  intro w hw
  obtain ⟨k, hk, rfl⟩ := List.mem_map.mp hw
  have hk := List.mem_range.mp hk
  match k, hk with
  | 0, _ => exact ulX4_0
  | 1, _ => exact ulX4_1
  | 2, _ => exact ulX4_2
  | k + 3, hk => exact absurd hk (by omega)
theorem ulX5_0 : u_lay RX5 TX5 0 ∈ g_T := g_in 218 (by decide +kernel) (by decide +kernel)
theorem ulX5_1 : u_lay RX5 TX5 1 ∈ g_T := g_in 220 (by decide +kernel) (by decide +kernel)
theorem ulX5_2 : u_lay RX5 TX5 2 ∈ g_T := g_in 222 (by decide +kernel) (by decide +kernel)
theorem ulX5_3 : u_lay RX5 TX5 3 ∈ g_T := g_in 224 (by decide +kernel) (by decide +kernel)
theorem ulX5_4 : u_lay RX5 TX5 4 ∈ g_T := g_in 226 (by decide +kernel) (by decide +kernel)
theorem ulX5_5 : u_lay RX5 TX5 5 ∈ g_T := g_in 228 (by decide +kernel) (by decide +kernel)
theorem ulX5_6 : u_lay RX5 TX5 6 ∈ g_T := g_in 230 (by decide +kernel) (by decide +kernel)
theorem inX5g : ∀ w ∈ u_ws RX5 TX5 7, w ∈ g_T := by
  intro w hw
  obtain ⟨k, hk, rfl⟩ := List.mem_map.mp hw
  have hk := List.mem_range.mp hk
  match k, hk with
  | 0, _ => exact ulX5_0
  | 1, _ => exact ulX5_1
  | 2, _ => exact ulX5_2
  | 3, _ => exact ulX5_3
  | 4, _ => exact ulX5_4
  | 5, _ => exact ulX5_5
  | 6, _ => exact ulX5_6
  | k + 7, hk => exact absurd hk (by omega)
theorem ulX6_0 : u_lay RX6 TX6 0 ∈ g_T := g_in 87 (by decide +kernel) (by decide +kernel)
theorem ulX6_1 : u_lay RX6 TX6 1 ∈ g_T := g_in 89 (by decide +kernel) (by decide +kernel)
theorem ulX6_2 : u_lay RX6 TX6 2 ∈ g_T := g_in 91 (by decide +kernel) (by decide +kernel)
theorem ulX6_3 : u_lay RX6 TX6 3 ∈ g_T := g_in 93 (by decide +kernel) (by decide +kernel)
theorem inX6g : ∀ w ∈ u_ws RX6 TX6 4, w ∈ g_T := by
  intro w hw
  obtain ⟨k, hk, rfl⟩ := List.mem_map.mp hw
  have hk := List.mem_range.mp hk
  match k, hk with
  | 0, _ => exact ulX6_0
  | 1, _ => exact ulX6_1
  | 2, _ => exact ulX6_2
  | 3, _ => exact ulX6_3
  | k + 4, hk => exact absurd hk (by omega)
theorem ulX7_0 : u_lay RX7 TX7 0 ∈ g_T := g_in 560 (by decide +kernel) (by decide +kernel)
theorem ulX7_1 : u_lay RX7 TX7 1 ∈ g_T := g_in 562 (by decide +kernel) (by decide +kernel)
theorem ulX7_2 : u_lay RX7 TX7 2 ∈ g_T := g_in 564 (by decide +kernel) (by decide +kernel)
theorem ulX7_3 : u_lay RX7 TX7 3 ∈ g_T := g_in 566 (by decide +kernel) (by decide +kernel)
theorem ulX7_4 : u_lay RX7 TX7 4 ∈ g_T := g_in 568 (by decide +kernel) (by decide +kernel)
theorem ulX7_5 : u_lay RX7 TX7 5 ∈ g_T := g_in 570 (by decide +kernel) (by decide +kernel)
theorem ulX7_6 : u_lay RX7 TX7 6 ∈ g_T := g_in 572 (by decide +kernel) (by decide +kernel)
theorem ulX7_7 : u_lay RX7 TX7 7 ∈ g_T := g_in 574 (by decide +kernel) (by decide +kernel)
theorem ulX7_8 : u_lay RX7 TX7 8 ∈ g_T := g_in 576 (by decide +kernel) (by decide +kernel)
theorem ulX7_9 : u_lay RX7 TX7 9 ∈ g_T := g_in 578 (by decide +kernel) (by decide +kernel)
theorem ulX7_10 : u_lay RX7 TX7 10 ∈ g_T := g_in 580 (by decide +kernel) (by decide +kernel)
theorem ulX7_11 : u_lay RX7 TX7 11 ∈ g_T := g_in 582 (by decide +kernel) (by decide +kernel)
theorem ulX7_12 : u_lay RX7 TX7 12 ∈ g_T := g_in 584 (by decide +kernel) (by decide +kernel)
theorem ulX7_13 : u_lay RX7 TX7 13 ∈ g_T := g_in 586 (by decide +kernel) (by decide +kernel)
theorem ulX7_14 : u_lay RX7 TX7 14 ∈ g_T := g_in 588 (by decide +kernel) (by decide +kernel)
theorem ulX7_15 : u_lay RX7 TX7 15 ∈ g_T := g_in 590 (by decide +kernel) (by decide +kernel)
theorem ulX7_16 : u_lay RX7 TX7 16 ∈ g_T := g_in 592 (by decide +kernel) (by decide +kernel)
theorem ulX7_17 : u_lay RX7 TX7 17 ∈ g_T := g_in 594 (by decide +kernel) (by decide +kernel)
theorem ulX7_18 : u_lay RX7 TX7 18 ∈ g_T := g_in 596 (by decide +kernel) (by decide +kernel)
theorem ulX7_19 : u_lay RX7 TX7 19 ∈ g_T := g_in 598 (by decide +kernel) (by decide +kernel)
theorem ulX7_20 : u_lay RX7 TX7 20 ∈ g_T := g_in 600 (by decide +kernel) (by decide +kernel)
theorem ulX7_21 : u_lay RX7 TX7 21 ∈ g_T := g_in 602 (by decide +kernel) (by decide +kernel)
theorem ulX7_22 : u_lay RX7 TX7 22 ∈ g_T := g_in 604 (by decide +kernel) (by decide +kernel)
theorem ulX7_23 : u_lay RX7 TX7 23 ∈ g_T := g_in 606 (by decide +kernel) (by decide +kernel)
theorem ulX7_24 : u_lay RX7 TX7 24 ∈ g_T := g_in 608 (by decide +kernel) (by decide +kernel)
theorem ulX7_25 : u_lay RX7 TX7 25 ∈ g_T := g_in 610 (by decide +kernel) (by decide +kernel)
theorem ulX7_26 : u_lay RX7 TX7 26 ∈ g_T := g_in 612 (by decide +kernel) (by decide +kernel)
theorem ulX7_27 : u_lay RX7 TX7 27 ∈ g_T := g_in 614 (by decide +kernel) (by decide +kernel)
theorem inX7g : ∀ w ∈ u_ws RX7 TX7 28, w ∈ g_T := by
  intro w hw
  obtain ⟨k, hk, rfl⟩ := List.mem_map.mp hw
  have hk := List.mem_range.mp hk
  match k, hk with
  | 0, _ => exact ulX7_0
  | 1, _ => exact ulX7_1
  | 2, _ => exact ulX7_2
  | 3, _ => exact ulX7_3
  | 4, _ => exact ulX7_4
  | 5, _ => exact ulX7_5
  | 6, _ => exact ulX7_6
  | 7, _ => exact ulX7_7
  | 8, _ => exact ulX7_8
  | 9, _ => exact ulX7_9
  | 10, _ => exact ulX7_10
  | 11, _ => exact ulX7_11
  | 12, _ => exact ulX7_12
  | 13, _ => exact ulX7_13
  | 14, _ => exact ulX7_14
  | 15, _ => exact ulX7_15
  | 16, _ => exact ulX7_16
  | 17, _ => exact ulX7_17
  | 18, _ => exact ulX7_18
  | 19, _ => exact ulX7_19
  | 20, _ => exact ulX7_20
  | 21, _ => exact ulX7_21
  | 22, _ => exact ulX7_22
  | 23, _ => exact ulX7_23
  | 24, _ => exact ulX7_24
  | 25, _ => exact ulX7_25
  | 26, _ => exact ulX7_26
  | 27, _ => exact ulX7_27
  | k + 28, hk => exact absurd hk (by omega)
theorem cwd_X0_clear : Cond.code yX0_clear cX0_clear 1 none ∈ g_T := (g_in 321 (by decide +kernel) (by decide +kernel))
theorem cwd_X0_segmentCount : Cond.code yX0_segmentCount cX0_segmentCount 1 (some .int) ∈ g_T := (g_in 337 (by decide +kernel) (by decide +kernel))
theorem cwd_X0_add : Cond.code yX0_add cX0_add 3 none ∈ g_T := (g_in 333 (by decide +kernel) (by decide +kernel))
theorem cwd_X0_recordAt : Cond.code yX0_recordAt cX0_recordAt 2 (some .int) ∈ g_T := (g_in 357 (by decide +kernel) (by decide +kernel))
theorem cwd_X0_tellSegment : Cond.code yX0_tellSegment cX0_tellSegment 3 (some .int) ∈ g_T := (g_in 345 (by decide +kernel) (by decide +kernel))
theorem cwd_X0_endOfSegment : Cond.code yX0_endOfSegment cX0_endOfSegment 2 (some .int) ∈ g_T := (g_in 349 (by decide +kernel) (by decide +kernel))
theorem cwd_X1_has : Cond.code yX1_has cX1_has 2 (some .boolean) ∈ g_T := (g_in 143 (by decide +kernel) (by decide +kernel))
theorem cwd_X1_addRange : Cond.code yX1_addRange cX1_addRange 4 (some .int) ∈ g_T := (g_in 129 (by decide +kernel) (by decide +kernel))
theorem cwd_X1_addPair : Cond.code yX1_addPair cX1_addPair 4 (some .int) ∈ g_T := (g_in 139 (by decide +kernel) (by decide +kernel))
theorem cwd_X1_add : Cond.code yX1_add cX1_add 5 (some .int) ∈ g_T := (g_in 135 (by decide +kernel) (by decide +kernel))
theorem cwd_X1_finds : Cond.code yX1_finds cX1_finds 7 (some .boolean) ∈ g_T := (g_in 277 (by decide +kernel) (by decide +kernel))
theorem cwd_X1_holds : Cond.code yX1_holds cX1_holds 9 (some .boolean) ∈ g_T := (g_in 281 (by decide +kernel) (by decide +kernel))
theorem cwd_X1_isYes : Cond.code yX1_isYes cX1_isYes 3 (some .boolean) ∈ g_T := (g_in 284 (by decide +kernel) (by decide +kernel))
theorem cwd_X2_count : Cond.code yX2_count cX2_count 1 (some .int) ∈ g_T := (g_in 273 (by decide +kernel) (by decide +kernel))
theorem cwd_X2_add : Cond.code yX2_add cX2_add 3 (some .int) ∈ g_T := (g_in 103 (by decide +kernel) (by decide +kernel))
theorem cwd_X2_has : Cond.code yX2_has cX2_has 2 (some .boolean) ∈ g_T := (g_in 115 (by decide +kernel) (by decide +kernel))
theorem cwd_X2_putTerm : Cond.code yX2_putTerm cX2_putTerm 4 (some .boolean) ∈ g_T := (g_in 111 (by decide +kernel) (by decide +kernel))
theorem cwd_X2_bytesOf : Cond.code yX2_bytesOf cX2_bytesOf 2 (some .int) ∈ g_T := (g_in 329 (by decide +kernel) (by decide +kernel))
theorem cwd_X2_termOf : Cond.code yX2_termOf cX2_termOf 3 (some .int) ∈ g_T := (g_in 288 (by decide +kernel) (by decide +kernel))
theorem cwd_X2_leastTermFrom : Cond.code yX2_leastTermFrom cX2_leastTermFrom 6 (some .int) ∈ g_T := (g_in 387 (by decide +kernel) (by decide +kernel))
theorem cwd_X2_greatestTermBelow : Cond.code yX2_greatestTermBelow cX2_greatestTermBelow 6 (some .int) ∈ g_T := (g_in 400 (by decide +kernel) (by decide +kernel))
theorem cwd_X2_countOfTerm : Cond.code yX2_countOfTerm cX2_countOfTerm 5 (some .int) ∈ g_T := (g_in 409 (by decide +kernel) (by decide +kernel))
theorem cwd_X3_make : Cond.code yX3_make cX3_make 1 none ∈ g_T := (g_in 269 (by decide +kernel) (by decide +kernel))
theorem cwd_X3_forget : Cond.code yX3_forget cX3_forget 1 none ∈ g_T := (g_in 261 (by decide +kernel) (by decide +kernel))
theorem cwd_X3_isMade : Cond.code yX3_isMade cX3_isMade 1 (some .boolean) ∈ g_T := (g_in 309 (by decide +kernel) (by decide +kernel))
theorem cwd_X3_count : Cond.code yX3_count cX3_count 1 (some .int) ∈ g_T := (g_in 296 (by decide +kernel) (by decide +kernel))
theorem cwd_X3_add : Cond.code yX3_add cX3_add 2 none ∈ g_T := (g_in 292 (by decide +kernel) (by decide +kernel))
theorem cwd_X3_recordAt : Cond.code yX3_recordAt cX3_recordAt 2 (some .int) ∈ g_T := (g_in 325 (by decide +kernel) (by decide +kernel))
theorem cwd_X3_putInOrder : Cond.code yX3_putInOrder cX3_putInOrder 8 none ∈ g_T := (g_in 370 (by decide +kernel) (by decide +kernel))
theorem cwd_X3_keyOf : Cond.code yX3_keyOf cX3_keyOf 2 (some .int) ∈ g_T := (g_in 374 (by decide +kernel) (by decide +kernel))
theorem cwd_X3_countWithoutTerm : Cond.code yX3_countWithoutTerm cX3_countWithoutTerm 5 (some .int) ∈ g_T := (g_in 378 (by decide +kernel) (by decide +kernel))
theorem cwd_X4_fill : Cond.code yX4_fill cX4_fill 6 (some .int) ∈ g_T := (g_in 404 (by decide +kernel) (by decide +kernel))
theorem cwd_X4_has : Cond.code yX4_has cX4_has 2 (some .boolean) ∈ g_T := (g_in 517 (by decide +kernel) (by decide +kernel))
theorem cwd_X4_tell : Cond.code yX4_tell cX4_tell 3 (some .int) ∈ g_T := (g_in 524 (by decide +kernel) (by decide +kernel))
theorem cwd_X5_isOpen : Cond.code yX5_isOpen cX5_isOpen 1 (some .boolean) ∈ g_T := (g_in 248 (by decide +kernel) (by decide +kernel))
theorem cwd_X5_may : Cond.code yX5_may cX5_may 2 (some .boolean) ∈ g_T := (g_in 365 (by decide +kernel) (by decide +kernel))
theorem cwd_X5_presented : Cond.code yX5_presented cX5_presented 1 (some (.object "SearchWire$Presented")) ∈ g_T := (g_in 317 (by decide +kernel) (by decide +kernel))
theorem cwd_X5_scannedTerms : Cond.code yX5_scannedTerms cX5_scannedTerms 1 (some (.object "SearchWire$ScannedTerms")) ∈ g_T := (g_in 392 (by decide +kernel) (by decide +kernel))
theorem cwd_X5_setOfName : Cond.code yX5_setOfName cX5_setOfName 2 (some (.object "SearchWire$ResultSet")) ∈ g_T := (g_in 265 (by decide +kernel) (by decide +kernel))
theorem cwd_X5_madeSet : Cond.code yX5_madeSet cX5_madeSet 3 (some (.object "SearchWire$ResultSet")) ∈ g_T := (g_in 304 (by decide +kernel) (by decide +kernel))
theorem cwd_X5_setCount : Cond.code yX5_setCount cX5_setCount 3 (some .int) ∈ g_T := (g_in 422 (by decide +kernel) (by decide +kernel))
theorem cwd_X5_diagnose : Cond.code yX5_diagnose cX5_diagnose 2 (some .int) ∈ g_T := (g_in 253 (by decide +kernel) (by decide +kernel))
theorem cwd_X5_shut : Cond.code yX5_shut cX5_shut 2 none ∈ g_T := (g_in 257 (by decide +kernel) (by decide +kernel))
theorem cwd_X5_tell : Cond.code yX5_tell cX5_tell 2 (some .int) ∈ g_T := (g_in 431 (by decide +kernel) (by decide +kernel))
theorem cwd_X6_record : Cond.code yX6_record cX6_record 2 (some .int) ∈ g_T := (g_in 99 (by decide +kernel) (by decide +kernel))
theorem cwd_X6_term : Cond.code yX6_term cX6_term 4 (some .int) ∈ g_T := (g_in 107 (by decide +kernel) (by decide +kernel))
theorem cwd_X6_question : Cond.code yX6_question cX6_question 5 (some .int) ∈ g_T := (g_in 125 (by decide +kernel) (by decide +kernel))
theorem cwd_X6_session : Cond.code yX6_session cX6_session 3 (some .int) ∈ g_T := (g_in 147 (by decide +kernel) (by decide +kernel))
theorem cwd_X6_search : Cond.code yX6_search cX6_search 7 (some .int) ∈ g_T := (g_in 236 (by decide +kernel) (by decide +kernel))
theorem cwd_X6_size : Cond.code yX6_size cX6_size 5 (some .int) ∈ g_T := (g_in 300 (by decide +kernel) (by decide +kernel))
theorem cwd_X6_present : Cond.code yX6_present cX6_present 10 (some .int) ∈ g_T := (g_in 313 (by decide +kernel) (by decide +kernel))
theorem cwd_X6_segment : Cond.code yX6_segment cX6_segment 5 (some .int) ∈ g_T := (g_in 341 (by decide +kernel) (by decide +kernel))
theorem cwd_X6_at : Cond.code yX6_at cX6_at 4 (some .int) ∈ g_T := (g_in 353 (by decide +kernel) (by decide +kernel))
theorem cwd_X6_sort : Cond.code yX6_sort cX6_sort 7 (some .int) ∈ g_T := (g_in 361 (by decide +kernel) (by decide +kernel))
theorem cwd_X6_scan : Cond.code yX6_scan cX6_scan 7 (some .int) ∈ g_T := (g_in 382 (by decide +kernel) (by decide +kernel))
theorem cwd_X6_scanned : Cond.code yX6_scanned cX6_scanned 5 (some .int) ∈ g_T := (g_in 513 (by decide +kernel) (by decide +kernel))
theorem cwd_X6_drop : Cond.code yX6_drop cX6_drop 5 (some .int) ∈ g_T := (g_in 413 (by decide +kernel) (by decide +kernel))
theorem cwd_X6_close : Cond.code yX6_close cX6_close 4 (some .int) ∈ g_T := (g_in 418 (by decide +kernel) (by decide +kernel))
theorem cwd_X6_state : Cond.code yX6_state cX6_state 4 (some .int) ∈ g_T := (g_in 427 (by decide +kernel) (by decide +kernel))
theorem cwd_X6_everOpened : Cond.code yX6_everOpened cX6_everOpened 2 (some (.object "SearchWire$Session")) ∈ g_T := (g_in 244 (by decide +kernel) (by decide +kernel))
theorem cwd_X6_openSession : Cond.code yX6_openSession cX6_openSession 3 (some (.object "SearchWire$Session")) ∈ g_T := (g_in 240 (by decide +kernel) (by decide +kernel))
theorem cwd_X6_stepBack : Cond.code yX6_stepBack cX6_stepBack 7 (some .int) ∈ g_T := (g_in 396 (by decide +kernel) (by decide +kernel))
theorem cwd_X6_isIndex : Cond.code yX6_isIndex cX6_isIndex 1 (some .boolean) ∈ g_T := (g_in 118 (by decide +kernel) (by decide +kernel))
theorem cwd_X6_isTerm : Cond.code yX6_isTerm cX6_isTerm 1 (some .boolean) ∈ g_T := (g_in 121 (by decide +kernel) (by decide +kernel))
theorem cwd_X7_thrown : Cond.code yX7_thrown cX7_thrown 1 (some .int) ∈ g_T := (g_in 621 (by decide +kernel) (by decide +kernel))
theorem cwd_X7_in : Cond.code yX7_in cX7_in 3 (some .boolean) ∈ g_T := (g_in 628 (by decide +kernel) (by decide +kernel))
theorem cwd_X7_isIndex : Cond.code yX7_isIndex cX7_isIndex 1 (some .boolean) ∈ g_T := (g_in 635 (by decide +kernel) (by decide +kernel))
theorem cwd_X7_isValue : Cond.code yX7_isValue cX7_isValue 1 (some .boolean) ∈ g_T := (g_in 642 (by decide +kernel) (by decide +kernel))
theorem cwd_X7_record : Cond.code yX7_record cX7_record 3 (some .int) ∈ g_T := (g_in 625 (by decide +kernel) (by decide +kernel))
theorem cwd_X7_term : Cond.code yX7_term cX7_term 4 (some .int) ∈ g_T := (g_in 632 (by decide +kernel) (by decide +kernel))
theorem cwd_X7_isQuestion : Cond.code yX7_isQuestion cX7_isQuestion 2 (some .boolean) ∈ g_T := (g_in 646 (by decide +kernel) (by decide +kernel))
theorem cwd_X7_question : Cond.code yX7_question cX7_question 7 (some .int) ∈ g_T := (g_in 639 (by decide +kernel) (by decide +kernel))
theorem cwd_X7_session : Cond.code yX7_session cX7_session 3 (some .int) ∈ g_T := (g_in 650 (by decide +kernel) (by decide +kernel))
theorem cwd_X7_isOpen : Cond.code yX7_isOpen cX7_isOpen 2 (some .boolean) ∈ g_T := (g_in 658 (by decide +kernel) (by decide +kernel))
theorem cwd_X7_end : Cond.code yX7_end cX7_end 3 none ∈ g_T := (g_in 666 (by decide +kernel) (by decide +kernel))
theorem cwd_X7_tell : Cond.code yX7_tell cX7_tell 3 (some .int) ∈ g_T := (g_in 662 (by decide +kernel) (by decide +kernel))
theorem cwd_X7_isName : Cond.code yX7_isName cX7_isName 3 (some .boolean) ∈ g_T := (g_in 670 (by decide +kernel) (by decide +kernel))
theorem cwd_X7_isSet : Cond.code yX7_isSet cX7_isSet 3 (some .boolean) ∈ g_T := (g_in 682 (by decide +kernel) (by decide +kernel))
theorem cwd_X7_meets : Cond.code yX7_meets cX7_meets 5 (some .boolean) ∈ g_T := (g_in 674 (by decide +kernel) (by decide +kernel))
theorem cwd_X7_search : Cond.code yX7_search cX7_search 6 (some .int) ∈ g_T := (g_in 654 (by decide +kernel) (by decide +kernel))
theorem cwd_X7_size : Cond.code yX7_size cX7_size 3 (some .int) ∈ g_T := (g_in 678 (by decide +kernel) (by decide +kernel))
theorem cwd_X7_present : Cond.code yX7_present cX7_present 10 (some .int) ∈ g_T := (g_in 686 (by decide +kernel) (by decide +kernel))
theorem cwd_X7_segment : Cond.code yX7_segment cX7_segment 5 (some .int) ∈ g_T := (g_in 690 (by decide +kernel) (by decide +kernel))
theorem cwd_X7_at : Cond.code yX7_at cX7_at 3 (some .int) ∈ g_T := (g_in 694 (by decide +kernel) (by decide +kernel))
theorem cwd_X7_isBehind : Cond.code yX7_isBehind cX7_isBehind 7 (some .boolean) ∈ g_T := (g_in 702 (by decide +kernel) (by decide +kernel))
theorem cwd_X7_sort : Cond.code yX7_sort cX7_sort 10 (some .int) ∈ g_T := (g_in 698 (by decide +kernel) (by decide +kernel))
theorem cwd_X7_reckon : Cond.code yX7_reckon cX7_reckon 3 none ∈ g_T := (g_in 710 (by decide +kernel) (by decide +kernel))
theorem cwd_X7_scan : Cond.code yX7_scan cX7_scan 12 (some .int) ∈ g_T := (g_in 706 (by decide +kernel) (by decide +kernel))
theorem cwd_X7_scanned : Cond.code yX7_scanned cX7_scanned 4 (some .int) ∈ g_T := (g_in 714 (by decide +kernel) (by decide +kernel))
theorem cwd_X7_drop : Cond.code yX7_drop cX7_drop 3 (some .int) ∈ g_T := (g_in 718 (by decide +kernel) (by decide +kernel))
theorem cwd_X7_sets : Cond.code yX7_sets cX7_sets 4 (some .int) ∈ g_T := (g_in 726 (by decide +kernel) (by decide +kernel))
theorem cwd_X7_close : Cond.code yX7_close cX7_close 3 (some .int) ∈ g_T := (g_in 722 (by decide +kernel) (by decide +kernel))
theorem cwd_X7_state : Cond.code yX7_state cX7_state 3 (some .int) ∈ g_T := (g_in 730 (by decide +kernel) (by decide +kernel))
theorem fl_X2_9 : Cond.fieldLink RX2 9 (TX2 0).1 (TX2 0).2.1 (TX2 0).2.2.1 ∈ g_T := (g_in 48 (by decide +kernel) (by decide +kernel))
theorem fl_X2_17 : Cond.fieldLink RX2 17 (TX2 1).1 (TX2 1).2.1 (TX2 1).2.2.1 ∈ g_T := (g_in 49 (by decide +kernel) (by decide +kernel))
theorem fl_X2_20 : Cond.fieldLink RX2 20 (TX2 2).1 (TX2 2).2.1 (TX2 2).2.2.1 ∈ g_T := (g_in 50 (by decide +kernel) (by decide +kernel))
theorem fl_X1_9 : Cond.fieldLink RX1 9 (TX1 0).1 (TX1 0).2.1 (TX1 0).2.2.1 ∈ g_T := (g_in 65 (by decide +kernel) (by decide +kernel))
theorem fl_X1_15 : Cond.fieldLink RX1 15 (TX1 1).1 (TX1 1).2.1 (TX1 1).2.2.1 ∈ g_T := (g_in 66 (by decide +kernel) (by decide +kernel))
theorem fl_X1_18 : Cond.fieldLink RX1 18 (TX1 2).1 (TX1 2).2.1 (TX1 2).2.2.1 ∈ g_T := (g_in 67 (by decide +kernel) (by decide +kernel))
theorem fl_X1_21 : Cond.fieldLink RX1 21 (TX1 3).1 (TX1 3).2.1 (TX1 3).2.2.1 ∈ g_T := (g_in 68 (by decide +kernel) (by decide +kernel))
theorem fl_X1_24 : Cond.fieldLink RX1 24 (TX1 4).1 (TX1 4).2.1 (TX1 4).2.2.1 ∈ g_T := (g_in 69 (by decide +kernel) (by decide +kernel))
theorem fl_X6_10 : Cond.fieldLink RX6 10 (TX6 0).1 (TX6 0).2.1 (TX6 0).2.2.1 ∈ g_T := (g_in 83 (by decide +kernel) (by decide +kernel))
theorem fl_X6_19 : Cond.fieldLink RX6 19 (TX6 1).1 (TX6 1).2.1 (TX6 1).2.2.1 ∈ g_T := (g_in 84 (by decide +kernel) (by decide +kernel))
theorem fl_X6_25 : Cond.fieldLink RX6 25 (TX6 2).1 (TX6 2).2.1 (TX6 2).2.2.1 ∈ g_T := (g_in 85 (by decide +kernel) (by decide +kernel))
theorem fl_X6_29 : Cond.fieldLink RX6 29 (TX6 3).1 (TX6 3).2.1 (TX6 3).2.2.1 ∈ g_T := (g_in 86 (by decide +kernel) (by decide +kernel))
theorem fl_X3_9 : Cond.fieldLink RX3 9 (TX3 0).1 (TX3 0).2.1 (TX3 0).2.2.1 ∈ g_T := (g_in 160 (by decide +kernel) (by decide +kernel))
theorem fl_X3_15 : Cond.fieldLink RX3 15 (TX3 1).1 (TX3 1).2.1 (TX3 1).2.2.1 ∈ g_T := (g_in 161 (by decide +kernel) (by decide +kernel))
theorem fl_X3_19 : Cond.fieldLink RX3 19 (TX3 2).1 (TX3 2).2.1 (TX3 2).2.2.1 ∈ g_T := (g_in 162 (by decide +kernel) (by decide +kernel))
theorem fl_X0_28 : Cond.fieldLink RX0 28 (TX0 0).1 (TX0 0).2.1 (TX0 0).2.2.1 ∈ g_T := (g_in 176 (by decide +kernel) (by decide +kernel))
theorem fl_X0_9 : Cond.fieldLink RX0 9 (TX0 1).1 (TX0 1).2.1 (TX0 1).2.2.1 ∈ g_T := (g_in 177 (by decide +kernel) (by decide +kernel))
theorem fl_X0_15 : Cond.fieldLink RX0 15 (TX0 2).1 (TX0 2).2.1 (TX0 2).2.2.1 ∈ g_T := (g_in 178 (by decide +kernel) (by decide +kernel))
theorem fl_X0_18 : Cond.fieldLink RX0 18 (TX0 3).1 (TX0 3).2.1 (TX0 3).2.2.1 ∈ g_T := (g_in 179 (by decide +kernel) (by decide +kernel))
theorem fl_X0_21 : Cond.fieldLink RX0 21 (TX0 4).1 (TX0 4).2.1 (TX0 4).2.2.1 ∈ g_T := (g_in 180 (by decide +kernel) (by decide +kernel))
theorem fl_X0_25 : Cond.fieldLink RX0 25 (TX0 5).1 (TX0 5).2.1 (TX0 5).2.2.1 ∈ g_T := (g_in 181 (by decide +kernel) (by decide +kernel))
theorem fl_X4_9 : Cond.fieldLink RX4 9 (TX4 0).1 (TX4 0).2.1 (TX4 0).2.2.1 ∈ g_T := (g_in 201 (by decide +kernel) (by decide +kernel))
theorem fl_X4_15 : Cond.fieldLink RX4 15 (TX4 1).1 (TX4 1).2.1 (TX4 1).2.2.1 ∈ g_T := (g_in 202 (by decide +kernel) (by decide +kernel))
theorem fl_X4_18 : Cond.fieldLink RX4 18 (TX4 2).1 (TX4 2).2.1 (TX4 2).2.2.1 ∈ g_T := (g_in 203 (by decide +kernel) (by decide +kernel))
theorem fl_X5_22 : Cond.fieldLink RX5 22 (TX5 0).1 (TX5 0).2.1 (TX5 0).2.2.1 ∈ g_T := (g_in 211 (by decide +kernel) (by decide +kernel))
theorem fl_X5_27 : Cond.fieldLink RX5 27 (TX5 1).1 (TX5 1).2.1 (TX5 1).2.2.1 ∈ g_T := (g_in 212 (by decide +kernel) (by decide +kernel))
theorem fl_X5_37 : Cond.fieldLink RX5 37 (TX5 2).1 (TX5 2).2.1 (TX5 2).2.2.1 ∈ g_T := (g_in 213 (by decide +kernel) (by decide +kernel))
theorem fl_X5_44 : Cond.fieldLink RX5 44 (TX5 3).1 (TX5 3).2.1 (TX5 3).2.2.1 ∈ g_T := (g_in 214 (by decide +kernel) (by decide +kernel))
theorem fl_X5_9 : Cond.fieldLink RX5 9 (TX5 4).1 (TX5 4).2.1 (TX5 4).2.2.1 ∈ g_T := (g_in 215 (by decide +kernel) (by decide +kernel))
theorem fl_X5_15 : Cond.fieldLink RX5 15 (TX5 5).1 (TX5 5).2.1 (TX5 5).2.2.1 ∈ g_T := (g_in 216 (by decide +kernel) (by decide +kernel))
theorem fl_X5_19 : Cond.fieldLink RX5 19 (TX5 6).1 (TX5 6).2.1 (TX5 6).2.2.1 ∈ g_T := (g_in 217 (by decide +kernel) (by decide +kernel))
theorem fl_X7_83 : Cond.fieldLink RX7 83 (TX7 0).1 (TX7 0).2.1 (TX7 0).2.2.1 ∈ g_T := (g_in 532 (by decide +kernel) (by decide +kernel))
theorem fl_X7_91 : Cond.fieldLink RX7 91 (TX7 1).1 (TX7 1).2.1 (TX7 1).2.2.1 ∈ g_T := (g_in 533 (by decide +kernel) (by decide +kernel))
theorem fl_X7_7 : Cond.fieldLink RX7 7 (TX7 2).1 (TX7 2).2.1 (TX7 2).2.2.1 ∈ g_T := (g_in 534 (by decide +kernel) (by decide +kernel))
theorem fl_X7_13 : Cond.fieldLink RX7 13 (TX7 3).1 (TX7 3).2.1 (TX7 3).2.2.1 ∈ g_T := (g_in 535 (by decide +kernel) (by decide +kernel))
theorem fl_X7_98 : Cond.fieldLink RX7 98 (TX7 4).1 (TX7 4).2.1 (TX7 4).2.2.1 ∈ g_T := (g_in 536 (by decide +kernel) (by decide +kernel))
theorem fl_X7_16 : Cond.fieldLink RX7 16 (TX7 5).1 (TX7 5).2.1 (TX7 5).2.2.1 ∈ g_T := (g_in 537 (by decide +kernel) (by decide +kernel))
theorem fl_X7_19 : Cond.fieldLink RX7 19 (TX7 6).1 (TX7 6).2.1 (TX7 6).2.2.1 ∈ g_T := (g_in 538 (by decide +kernel) (by decide +kernel))
theorem fl_X7_22 : Cond.fieldLink RX7 22 (TX7 7).1 (TX7 7).2.1 (TX7 7).2.2.1 ∈ g_T := (g_in 539 (by decide +kernel) (by decide +kernel))
theorem fl_X7_25 : Cond.fieldLink RX7 25 (TX7 8).1 (TX7 8).2.1 (TX7 8).2.2.1 ∈ g_T := (g_in 540 (by decide +kernel) (by decide +kernel))
theorem fl_X7_28 : Cond.fieldLink RX7 28 (TX7 9).1 (TX7 9).2.1 (TX7 9).2.2.1 ∈ g_T := (g_in 541 (by decide +kernel) (by decide +kernel))
theorem fl_X7_107 : Cond.fieldLink RX7 107 (TX7 10).1 (TX7 10).2.1 (TX7 10).2.2.1 ∈ g_T := (g_in 542 (by decide +kernel) (by decide +kernel))
theorem fl_X7_32 : Cond.fieldLink RX7 32 (TX7 11).1 (TX7 11).2.1 (TX7 11).2.2.1 ∈ g_T := (g_in 543 (by decide +kernel) (by decide +kernel))
theorem fl_X7_35 : Cond.fieldLink RX7 35 (TX7 12).1 (TX7 12).2.1 (TX7 12).2.2.1 ∈ g_T := (g_in 544 (by decide +kernel) (by decide +kernel))
theorem fl_X7_38 : Cond.fieldLink RX7 38 (TX7 13).1 (TX7 13).2.1 (TX7 13).2.2.1 ∈ g_T := (g_in 545 (by decide +kernel) (by decide +kernel))
theorem fl_X7_41 : Cond.fieldLink RX7 41 (TX7 14).1 (TX7 14).2.1 (TX7 14).2.2.1 ∈ g_T := (g_in 546 (by decide +kernel) (by decide +kernel))
theorem fl_X7_44 : Cond.fieldLink RX7 44 (TX7 15).1 (TX7 15).2.1 (TX7 15).2.2.1 ∈ g_T := (g_in 547 (by decide +kernel) (by decide +kernel))
theorem fl_X7_47 : Cond.fieldLink RX7 47 (TX7 16).1 (TX7 16).2.1 (TX7 16).2.2.1 ∈ g_T := (g_in 548 (by decide +kernel) (by decide +kernel))
theorem fl_X7_50 : Cond.fieldLink RX7 50 (TX7 17).1 (TX7 17).2.1 (TX7 17).2.2.1 ∈ g_T := (g_in 549 (by decide +kernel) (by decide +kernel))
theorem fl_X7_53 : Cond.fieldLink RX7 53 (TX7 18).1 (TX7 18).2.1 (TX7 18).2.2.1 ∈ g_T := (g_in 550 (by decide +kernel) (by decide +kernel))
theorem fl_X7_56 : Cond.fieldLink RX7 56 (TX7 19).1 (TX7 19).2.1 (TX7 19).2.2.1 ∈ g_T := (g_in 551 (by decide +kernel) (by decide +kernel))
theorem fl_X7_59 : Cond.fieldLink RX7 59 (TX7 20).1 (TX7 20).2.1 (TX7 20).2.2.1 ∈ g_T := (g_in 552 (by decide +kernel) (by decide +kernel))
theorem fl_X7_62 : Cond.fieldLink RX7 62 (TX7 21).1 (TX7 21).2.1 (TX7 21).2.2.1 ∈ g_T := (g_in 553 (by decide +kernel) (by decide +kernel))
theorem fl_X7_65 : Cond.fieldLink RX7 65 (TX7 22).1 (TX7 22).2.1 (TX7 22).2.2.1 ∈ g_T := (g_in 554 (by decide +kernel) (by decide +kernel))
theorem fl_X7_68 : Cond.fieldLink RX7 68 (TX7 23).1 (TX7 23).2.1 (TX7 23).2.2.1 ∈ g_T := (g_in 555 (by decide +kernel) (by decide +kernel))
theorem fl_X7_71 : Cond.fieldLink RX7 71 (TX7 24).1 (TX7 24).2.1 (TX7 24).2.2.1 ∈ g_T := (g_in 556 (by decide +kernel) (by decide +kernel))
theorem fl_X7_74 : Cond.fieldLink RX7 74 (TX7 25).1 (TX7 25).2.1 (TX7 25).2.2.1 ∈ g_T := (g_in 557 (by decide +kernel) (by decide +kernel))
theorem fl_X7_77 : Cond.fieldLink RX7 77 (TX7 26).1 (TX7 26).2.1 (TX7 26).2.2.1 ∈ g_T := (g_in 558 (by decide +kernel) (by decide +kernel))
theorem fl_X7_80 : Cond.fieldLink RX7 80 (TX7 27).1 (TX7 27).2.1 (TX7 27).2.2.1 ∈ g_T := (g_in 559 (by decide +kernel) (by decide +kernel))
theorem ini_X0 : Cond.initialized RX0 ∈ g_T := (g_in 24 (by decide +kernel) (by decide +kernel))
theorem ini_X1 : Cond.initialized RX1 ∈ g_T := (g_in 20 (by decide +kernel) (by decide +kernel))
theorem ini_X2 : Cond.initialized RX2 ∈ g_T := (g_in 19 (by decide +kernel) (by decide +kernel))
theorem ini_X3 : Cond.initialized RX3 ∈ g_T := (g_in 23 (by decide +kernel) (by decide +kernel))
theorem ini_X4 : Cond.initialized RX4 ∈ g_T := (g_in 25 (by decide +kernel) (by decide +kernel))
theorem ini_X5 : Cond.initialized RX5 ∈ g_T := (g_in 22 (by decide +kernel) (by decide +kernel))
theorem ini_X6 : Cond.initialized RX6 ∈ g_T := (g_in 18 (by decide +kernel) (by decide +kernel))
theorem ini_X7 : Cond.initialized RX7 ∈ g_T := (g_in 21 (by decide +kernel) (by decide +kernel))
theorem gV_X6_33 : GoodIn g_T (wsV RX6 33 RX2 yX2_add (.code yX2_add cX2_add 3 (some .int) :: g_T)) := g_goodV cwd_X2_add (g_in 100 (by decide +kernel) (by decide +kernel)) (g_in 101 (by decide +kernel) (by decide +kernel)) (g_in 102 (by decide +kernel) (by decide +kernel)) ini_X2
theorem gV_X6_37 : GoodIn g_T (wsV RX6 37 RX2 yX2_putTerm (.code yX2_putTerm cX2_putTerm 4 (some .boolean) :: g_T)) := g_goodV cwd_X2_putTerm (g_in 108 (by decide +kernel) (by decide +kernel)) (g_in 109 (by decide +kernel) (by decide +kernel)) (g_in 110 (by decide +kernel) (by decide +kernel)) ini_X2
theorem gV_X2_24 : GoodIn g_T (wsV RX2 24 RX2 yX2_has (.code yX2_has cX2_has 2 (some .boolean) :: g_T)) := g_goodV cwd_X2_has (g_in 112 (by decide +kernel) (by decide +kernel)) (g_in 113 (by decide +kernel) (by decide +kernel)) (g_in 114 (by decide +kernel) (by decide +kernel)) ini_X2
theorem gV_X6_41 : GoodIn g_T (wsV RX6 41 RX1 yX1_addRange (.code yX1_addRange cX1_addRange 4 (some .int) :: g_T)) := g_goodV cwd_X1_addRange (g_in 126 (by decide +kernel) (by decide +kernel)) (g_in 127 (by decide +kernel) (by decide +kernel)) (g_in 128 (by decide +kernel) (by decide +kernel)) ini_X1
theorem gV_X1_35 : GoodIn g_T (wsV RX1 35 RX1 yX1_add (.code yX1_add cX1_add 5 (some .int) :: g_T)) := g_goodV cwd_X1_add (g_in 132 (by decide +kernel) (by decide +kernel)) (g_in 134 (by decide +kernel) (by decide +kernel)) (g_in 0 (by decide +kernel) (by decide +kernel)) ini_X1
theorem gV_X6_45 : GoodIn g_T (wsV RX6 45 RX1 yX1_addPair (.code yX1_addPair cX1_addPair 4 (some .int) :: g_T)) := g_goodV cwd_X1_addPair (g_in 136 (by decide +kernel) (by decide +kernel)) (g_in 137 (by decide +kernel) (by decide +kernel)) (g_in 138 (by decide +kernel) (by decide +kernel)) ini_X1
theorem gV_X1_39 : GoodIn g_T (wsV RX1 39 RX1 yX1_has (.code yX1_has cX1_has 2 (some .boolean) :: g_T)) := g_goodV cwd_X1_has (g_in 140 (by decide +kernel) (by decide +kernel)) (g_in 141 (by decide +kernel) (by decide +kernel)) (g_in 142 (by decide +kernel) (by decide +kernel)) ini_X1
theorem gV_X6_51 : GoodIn g_T (wsV RX6 51 RX6 yX6_openSession (.code yX6_openSession cX6_openSession 3 (some (.object "SearchWire$Session")) :: g_T)) := g_goodV cwd_X6_openSession (g_in 237 (by decide +kernel) (by decide +kernel)) (g_in 239 (by decide +kernel) (by decide +kernel)) (g_in 1 (by decide +kernel) (by decide +kernel)) ini_X6
theorem gV_X6_106 : GoodIn g_T (wsV RX6 106 RX6 yX6_everOpened (.code yX6_everOpened cX6_everOpened 2 (some (.object "SearchWire$Session")) :: g_T)) := g_goodV cwd_X6_everOpened (g_in 241 (by decide +kernel) (by decide +kernel)) (g_in 243 (by decide +kernel) (by decide +kernel)) (g_in 2 (by decide +kernel) (by decide +kernel)) ini_X6
theorem gV_X6_169 : GoodIn g_T (wsV RX6 169 RX5 yX5_isOpen (.code yX5_isOpen cX5_isOpen 1 (some .boolean) :: g_T)) := g_goodV cwd_X5_isOpen (g_in 245 (by decide +kernel) (by decide +kernel)) (g_in 246 (by decide +kernel) (by decide +kernel)) (g_in 247 (by decide +kernel) (by decide +kernel)) ini_X5
theorem gV_X6_55 : GoodIn g_T (wsV RX6 55 RX1 yX1_has (.code yX1_has cX1_has 2 (some .boolean) :: g_T)) := g_goodV cwd_X1_has (g_in 249 (by decide +kernel) (by decide +kernel)) (g_in 141 (by decide +kernel) (by decide +kernel)) (g_in 142 (by decide +kernel) (by decide +kernel)) ini_X1
theorem gV_X6_59 : GoodIn g_T (wsV RX6 59 RX5 yX5_diagnose (.code yX5_diagnose cX5_diagnose 2 (some .int) :: g_T)) := g_goodV cwd_X5_diagnose (g_in 250 (by decide +kernel) (by decide +kernel)) (g_in 251 (by decide +kernel) (by decide +kernel)) (g_in 252 (by decide +kernel) (by decide +kernel)) ini_X5
theorem gV_X5_56 : GoodIn g_T (wsV RX5 56 RX5 yX5_shut (.code yX5_shut cX5_shut 2 none :: g_T)) := g_goodV cwd_X5_shut (g_in 254 (by decide +kernel) (by decide +kernel)) (g_in 255 (by decide +kernel) (by decide +kernel)) (g_in 256 (by decide +kernel) (by decide +kernel)) ini_X5
theorem gV_X5_59 : GoodIn g_T (wsV RX5 59 RX3 yX3_forget (.code yX3_forget cX3_forget 1 none :: g_T)) := g_goodV cwd_X3_forget (g_in 258 (by decide +kernel) (by decide +kernel)) (g_in 259 (by decide +kernel) (by decide +kernel)) (g_in 260 (by decide +kernel) (by decide +kernel)) ini_X3
theorem gV_X6_62 : GoodIn g_T (wsV RX6 62 RX5 yX5_setOfName (.code yX5_setOfName cX5_setOfName 2 (some (.object "SearchWire$ResultSet")) :: g_T)) := g_goodV cwd_X5_setOfName (g_in 262 (by decide +kernel) (by decide +kernel)) (g_in 263 (by decide +kernel) (by decide +kernel)) (g_in 264 (by decide +kernel) (by decide +kernel)) ini_X5
theorem gV_X6_66 : GoodIn g_T (wsV RX6 66 RX3 yX3_make (.code yX3_make cX3_make 1 none :: g_T)) := g_goodV cwd_X3_make (g_in 266 (by decide +kernel) (by decide +kernel)) (g_in 267 (by decide +kernel) (by decide +kernel)) (g_in 268 (by decide +kernel) (by decide +kernel)) ini_X3
theorem gV_X6_71 : GoodIn g_T (wsV RX6 71 RX2 yX2_count (.code yX2_count cX2_count 1 (some .int) :: g_T)) := g_goodV cwd_X2_count (g_in 270 (by decide +kernel) (by decide +kernel)) (g_in 271 (by decide +kernel) (by decide +kernel)) (g_in 272 (by decide +kernel) (by decide +kernel)) ini_X2
theorem gV_X6_75 : GoodIn g_T (wsV RX6 75 RX1 yX1_finds (.code yX1_finds cX1_finds 7 (some .boolean) :: g_T)) := g_goodV cwd_X1_finds (g_in 274 (by decide +kernel) (by decide +kernel)) (g_in 275 (by decide +kernel) (by decide +kernel)) (g_in 276 (by decide +kernel) (by decide +kernel)) ini_X1
theorem gV_X1_42 : GoodIn g_T (wsV RX1 42 RX1 yX1_holds (.code yX1_holds cX1_holds 9 (some .boolean) :: g_T)) := g_goodV cwd_X1_holds (g_in 278 (by decide +kernel) (by decide +kernel)) (g_in 280 (by decide +kernel) (by decide +kernel)) (g_in 3 (by decide +kernel) (by decide +kernel)) ini_X1
theorem gS_X1_46 : GoodIn g_T (wsS RX1 46 yX1_isYes (.code yX1_isYes cX1_isYes 3 (some .boolean) :: g_T)) := g_goodS cwd_X1_isYes (g_in 282 (by decide +kernel) (by decide +kernel)) (g_in 283 (by decide +kernel) (by decide +kernel)) ini_X1
theorem gV_X1_50 : GoodIn g_T (wsV RX1 50 RX2 yX2_termOf (.code yX2_termOf cX2_termOf 3 (some .int) :: g_T)) := g_goodV cwd_X2_termOf (g_in 285 (by decide +kernel) (by decide +kernel)) (g_in 286 (by decide +kernel) (by decide +kernel)) (g_in 287 (by decide +kernel) (by decide +kernel)) ini_X2
theorem gV_X6_79 : GoodIn g_T (wsV RX6 79 RX3 yX3_add (.code yX3_add cX3_add 2 none :: g_T)) := g_goodV cwd_X3_add (g_in 289 (by decide +kernel) (by decide +kernel)) (g_in 290 (by decide +kernel) (by decide +kernel)) (g_in 291 (by decide +kernel) (by decide +kernel)) ini_X3
theorem gV_X6_82 : GoodIn g_T (wsV RX6 82 RX3 yX3_count (.code yX3_count cX3_count 1 (some .int) :: g_T)) := g_goodV cwd_X3_count (g_in 293 (by decide +kernel) (by decide +kernel)) (g_in 294 (by decide +kernel) (by decide +kernel)) (g_in 295 (by decide +kernel) (by decide +kernel)) ini_X3
theorem gV_X6_83 : GoodIn g_T (wsV RX6 83 RX5 yX5_madeSet (.code yX5_madeSet cX5_madeSet 3 (some (.object "SearchWire$ResultSet")) :: g_T)) := g_goodV cwd_X5_madeSet (g_in 301 (by decide +kernel) (by decide +kernel)) (g_in 302 (by decide +kernel) (by decide +kernel)) (g_in 303 (by decide +kernel) (by decide +kernel)) ini_X5
theorem gV_X5_48 : GoodIn g_T (wsV RX5 48 RX5 yX5_setOfName (.code yX5_setOfName cX5_setOfName 2 (some (.object "SearchWire$ResultSet")) :: g_T)) := g_goodV cwd_X5_setOfName (g_in 305 (by decide +kernel) (by decide +kernel)) (g_in 263 (by decide +kernel) (by decide +kernel)) (g_in 264 (by decide +kernel) (by decide +kernel)) ini_X5
theorem gV_X5_52 : GoodIn g_T (wsV RX5 52 RX3 yX3_isMade (.code yX3_isMade cX3_isMade 1 (some .boolean) :: g_T)) := g_goodV cwd_X3_isMade (g_in 306 (by decide +kernel) (by decide +kernel)) (g_in 307 (by decide +kernel) (by decide +kernel)) (g_in 308 (by decide +kernel) (by decide +kernel)) ini_X3
theorem gV_X6_86 : GoodIn g_T (wsV RX6 86 RX5 yX5_presented (.code yX5_presented cX5_presented 1 (some (.object "SearchWire$Presented")) :: g_T)) := g_goodV cwd_X5_presented (g_in 314 (by decide +kernel) (by decide +kernel)) (g_in 315 (by decide +kernel) (by decide +kernel)) (g_in 316 (by decide +kernel) (by decide +kernel)) ini_X5
theorem gV_X6_90 : GoodIn g_T (wsV RX6 90 RX0 yX0_clear (.code yX0_clear cX0_clear 1 none :: g_T)) := g_goodV cwd_X0_clear (g_in 318 (by decide +kernel) (by decide +kernel)) (g_in 319 (by decide +kernel) (by decide +kernel)) (g_in 320 (by decide +kernel) (by decide +kernel)) ini_X0
theorem gV_X6_95 : GoodIn g_T (wsV RX6 95 RX3 yX3_recordAt (.code yX3_recordAt cX3_recordAt 2 (some .int) :: g_T)) := g_goodV cwd_X3_recordAt (g_in 322 (by decide +kernel) (by decide +kernel)) (g_in 323 (by decide +kernel) (by decide +kernel)) (g_in 324 (by decide +kernel) (by decide +kernel)) ini_X3
theorem gV_X6_98 : GoodIn g_T (wsV RX6 98 RX2 yX2_bytesOf (.code yX2_bytesOf cX2_bytesOf 2 (some .int) :: g_T)) := g_goodV cwd_X2_bytesOf (g_in 326 (by decide +kernel) (by decide +kernel)) (g_in 327 (by decide +kernel) (by decide +kernel)) (g_in 328 (by decide +kernel) (by decide +kernel)) ini_X2
theorem gV_X6_101 : GoodIn g_T (wsV RX6 101 RX0 yX0_add (.code yX0_add cX0_add 3 none :: g_T)) := g_goodV cwd_X0_add (g_in 330 (by decide +kernel) (by decide +kernel)) (g_in 331 (by decide +kernel) (by decide +kernel)) (g_in 332 (by decide +kernel) (by decide +kernel)) ini_X0
theorem gV_X6_103 : GoodIn g_T (wsV RX6 103 RX0 yX0_segmentCount (.code yX0_segmentCount cX0_segmentCount 1 (some .int) :: g_T)) := g_goodV cwd_X0_segmentCount (g_in 334 (by decide +kernel) (by decide +kernel)) (g_in 335 (by decide +kernel) (by decide +kernel)) (g_in 336 (by decide +kernel) (by decide +kernel)) ini_X0
theorem gV_X6_109 : GoodIn g_T (wsV RX6 109 RX0 yX0_tellSegment (.code yX0_tellSegment cX0_tellSegment 3 (some .int) :: g_T)) := g_goodV cwd_X0_tellSegment (g_in 342 (by decide +kernel) (by decide +kernel)) (g_in 343 (by decide +kernel) (by decide +kernel)) (g_in 344 (by decide +kernel) (by decide +kernel)) ini_X0
theorem gV_X0_31 : GoodIn g_T (wsV RX0 31 RX0 yX0_endOfSegment (.code yX0_endOfSegment cX0_endOfSegment 2 (some .int) :: g_T)) := g_goodV cwd_X0_endOfSegment (g_in 346 (by decide +kernel) (by decide +kernel)) (g_in 348 (by decide +kernel) (by decide +kernel)) (g_in 4 (by decide +kernel) (by decide +kernel)) ini_X0
theorem gV_X6_113 : GoodIn g_T (wsV RX6 113 RX0 yX0_recordAt (.code yX0_recordAt cX0_recordAt 2 (some .int) :: g_T)) := g_goodV cwd_X0_recordAt (g_in 354 (by decide +kernel) (by decide +kernel)) (g_in 355 (by decide +kernel) (by decide +kernel)) (g_in 356 (by decide +kernel) (by decide +kernel)) ini_X0
theorem gV_X6_114 : GoodIn g_T (wsV RX6 114 RX5 yX5_may (.code yX5_may cX5_may 2 (some .boolean) :: g_T)) := g_goodV cwd_X5_may (g_in 362 (by decide +kernel) (by decide +kernel)) (g_in 363 (by decide +kernel) (by decide +kernel)) (g_in 364 (by decide +kernel) (by decide +kernel)) ini_X5
theorem gS_X6_117 : GoodIn g_T (wsS RX6 117 yX6_isIndex (.code yX6_isIndex cX6_isIndex 1 (some .boolean) :: g_T)) := g_goodS cwd_X6_isIndex (g_in 366 (by decide +kernel) (by decide +kernel)) (g_in 117 (by decide +kernel) (by decide +kernel)) ini_X6
theorem gV_X6_120 : GoodIn g_T (wsV RX6 120 RX3 yX3_putInOrder (.code yX3_putInOrder cX3_putInOrder 8 none :: g_T)) := g_goodV cwd_X3_putInOrder (g_in 367 (by decide +kernel) (by decide +kernel)) (g_in 368 (by decide +kernel) (by decide +kernel)) (g_in 369 (by decide +kernel) (by decide +kernel)) ini_X3
theorem gV_X3_23 : GoodIn g_T (wsV RX3 23 RX2 yX2_termOf (.code yX2_termOf cX2_termOf 3 (some .int) :: g_T)) := g_goodV cwd_X2_termOf (g_in 371 (by decide +kernel) (by decide +kernel)) (g_in 286 (by decide +kernel) (by decide +kernel)) (g_in 287 (by decide +kernel) (by decide +kernel)) ini_X2
theorem gS_X3_29 : GoodIn g_T (wsS RX3 29 yX3_keyOf (.code yX3_keyOf cX3_keyOf 2 (some .int) :: g_T)) := g_goodS cwd_X3_keyOf (g_in 372 (by decide +kernel) (by decide +kernel)) (g_in 373 (by decide +kernel) (by decide +kernel)) ini_X3
theorem gV_X6_124 : GoodIn g_T (wsV RX6 124 RX3 yX3_countWithoutTerm (.code yX3_countWithoutTerm cX3_countWithoutTerm 5 (some .int) :: g_T)) := g_goodV cwd_X3_countWithoutTerm (g_in 375 (by decide +kernel) (by decide +kernel)) (g_in 376 (by decide +kernel) (by decide +kernel)) (g_in 377 (by decide +kernel) (by decide +kernel)) ini_X3
theorem gS_X6_128 : GoodIn g_T (wsS RX6 128 yX6_isTerm (.code yX6_isTerm cX6_isTerm 1 (some .boolean) :: g_T)) := g_goodS cwd_X6_isTerm (g_in 383 (by decide +kernel) (by decide +kernel)) (g_in 120 (by decide +kernel) (by decide +kernel)) ini_X6
theorem gV_X6_131 : GoodIn g_T (wsV RX6 131 RX2 yX2_leastTermFrom (.code yX2_leastTermFrom cX2_leastTermFrom 6 (some .int) :: g_T)) := g_goodV cwd_X2_leastTermFrom (g_in 384 (by decide +kernel) (by decide +kernel)) (g_in 385 (by decide +kernel) (by decide +kernel)) (g_in 386 (by decide +kernel) (by decide +kernel)) ini_X2
theorem gV_X2_34 : GoodIn g_T (wsV RX2 34 RX2 yX2_termOf (.code yX2_termOf cX2_termOf 3 (some .int) :: g_T)) := g_goodV cwd_X2_termOf (g_in 388 (by decide +kernel) (by decide +kernel)) (g_in 286 (by decide +kernel) (by decide +kernel)) (g_in 287 (by decide +kernel) (by decide +kernel)) ini_X2
theorem gV_X6_134 : GoodIn g_T (wsV RX6 134 RX5 yX5_scannedTerms (.code yX5_scannedTerms cX5_scannedTerms 1 (some (.object "SearchWire$ScannedTerms")) :: g_T)) := g_goodV cwd_X5_scannedTerms (g_in 389 (by decide +kernel) (by decide +kernel)) (g_in 390 (by decide +kernel) (by decide +kernel)) (g_in 391 (by decide +kernel) (by decide +kernel)) ini_X5
theorem gV_X6_138 : GoodIn g_T (wsV RX6 138 RX6 yX6_stepBack (.code yX6_stepBack cX6_stepBack 7 (some .int) :: g_T)) := g_goodV cwd_X6_stepBack (g_in 393 (by decide +kernel) (by decide +kernel)) (g_in 395 (by decide +kernel) (by decide +kernel)) (g_in 5 (by decide +kernel) (by decide +kernel)) ini_X6
theorem gV_X6_173 : GoodIn g_T (wsV RX6 173 RX2 yX2_greatestTermBelow (.code yX2_greatestTermBelow cX2_greatestTermBelow 6 (some .int) :: g_T)) := g_goodV cwd_X2_greatestTermBelow (g_in 397 (by decide +kernel) (by decide +kernel)) (g_in 398 (by decide +kernel) (by decide +kernel)) (g_in 399 (by decide +kernel) (by decide +kernel)) ini_X2
theorem gV_X6_141 : GoodIn g_T (wsV RX6 141 RX4 yX4_fill (.code yX4_fill cX4_fill 6 (some .int) :: g_T)) := g_goodV cwd_X4_fill (g_in 401 (by decide +kernel) (by decide +kernel)) (g_in 402 (by decide +kernel) (by decide +kernel)) (g_in 403 (by decide +kernel) (by decide +kernel)) ini_X4
theorem gV_X4_22 : GoodIn g_T (wsV RX4 22 RX2 yX2_leastTermFrom (.code yX2_leastTermFrom cX2_leastTermFrom 6 (some .int) :: g_T)) := g_goodV cwd_X2_leastTermFrom (g_in 405 (by decide +kernel) (by decide +kernel)) (g_in 385 (by decide +kernel) (by decide +kernel)) (g_in 386 (by decide +kernel) (by decide +kernel)) ini_X2
theorem gV_X4_28 : GoodIn g_T (wsV RX4 28 RX2 yX2_countOfTerm (.code yX2_countOfTerm cX2_countOfTerm 5 (some .int) :: g_T)) := g_goodV cwd_X2_countOfTerm (g_in 406 (by decide +kernel) (by decide +kernel)) (g_in 407 (by decide +kernel) (by decide +kernel)) (g_in 408 (by decide +kernel) (by decide +kernel)) ini_X2
theorem gV_X6_158 : GoodIn g_T (wsV RX6 158 RX3 yX3_forget (.code yX3_forget cX3_forget 1 none :: g_T)) := g_goodV cwd_X3_forget (g_in 414 (by decide +kernel) (by decide +kernel)) (g_in 259 (by decide +kernel) (by decide +kernel)) (g_in 260 (by decide +kernel) (by decide +kernel)) ini_X3
theorem gV_X6_161 : GoodIn g_T (wsV RX6 161 RX5 yX5_setCount (.code yX5_setCount cX5_setCount 3 (some .int) :: g_T)) := g_goodV cwd_X5_setCount (g_in 419 (by decide +kernel) (by decide +kernel)) (g_in 420 (by decide +kernel) (by decide +kernel)) (g_in 421 (by decide +kernel) (by decide +kernel)) ini_X5
theorem gV_X6_164 : GoodIn g_T (wsV RX6 164 RX5 yX5_shut (.code yX5_shut cX5_shut 2 none :: g_T)) := g_goodV cwd_X5_shut (g_in 423 (by decide +kernel) (by decide +kernel)) (g_in 255 (by decide +kernel) (by decide +kernel)) (g_in 256 (by decide +kernel) (by decide +kernel)) ini_X5
theorem gV_X6_167 : GoodIn g_T (wsV RX6 167 RX5 yX5_tell (.code yX5_tell cX5_tell 2 (some .int) :: g_T)) := g_goodV cwd_X5_tell (g_in 428 (by decide +kernel) (by decide +kernel)) (g_in 429 (by decide +kernel) (by decide +kernel)) (g_in 430 (by decide +kernel) (by decide +kernel)) ini_X5
theorem gV_X5_62 : GoodIn g_T (wsV RX5 62 RX5 yX5_setCount (.code yX5_setCount cX5_setCount 3 (some .int) :: g_T)) := g_goodV cwd_X5_setCount (g_in 432 (by decide +kernel) (by decide +kernel)) (g_in 420 (by decide +kernel) (by decide +kernel)) (g_in 421 (by decide +kernel) (by decide +kernel)) ini_X5
theorem gV_X6_147 : GoodIn g_T (wsV RX6 147 RX4 yX4_has (.code yX4_has cX4_has 2 (some .boolean) :: g_T)) := g_goodV cwd_X4_has (g_in 514 (by decide +kernel) (by decide +kernel)) (g_in 515 (by decide +kernel) (by decide +kernel)) (g_in 516 (by decide +kernel) (by decide +kernel)) ini_X4
theorem gV_X6_155 : GoodIn g_T (wsV RX6 155 RX4 yX4_tell (.code yX4_tell cX4_tell 3 (some .int) :: g_T)) := g_goodV cwd_X4_tell (g_in 521 (by decide +kernel) (by decide +kernel)) (g_in 522 (by decide +kernel) (by decide +kernel)) (g_in 523 (by decide +kernel) (by decide +kernel)) ini_X4
theorem gV_X4_31 : GoodIn g_T (wsV RX4 31 RX4 yX4_has (.code yX4_has cX4_has 2 (some .boolean) :: g_T)) := g_goodV cwd_X4_has (g_in 525 (by decide +kernel) (by decide +kernel)) (g_in 515 (by decide +kernel) (by decide +kernel)) (g_in 516 (by decide +kernel) (by decide +kernel)) ini_X4
theorem gS_X7_87 : GoodIn g_T (wsS RX7 87 yX7_in (.code yX7_in cX7_in 3 (some .boolean) :: g_T)) := g_goodS cwd_X7_in (g_in 626 (by decide +kernel) (by decide +kernel)) (g_in 627 (by decide +kernel) (by decide +kernel)) ini_X7
theorem gS_X7_94 : GoodIn g_T (wsS RX7 94 yX7_isIndex (.code yX7_isIndex cX7_isIndex 1 (some .boolean) :: g_T)) := g_goodS cwd_X7_isIndex (g_in 633 (by decide +kernel) (by decide +kernel)) (g_in 634 (by decide +kernel) (by decide +kernel)) ini_X7
theorem gS_X7_101 : GoodIn g_T (wsS RX7 101 yX7_isValue (.code yX7_isValue cX7_isValue 1 (some .boolean) :: g_T)) := g_goodS cwd_X7_isValue (g_in 640 (by decide +kernel) (by decide +kernel)) (g_in 641 (by decide +kernel) (by decide +kernel)) ini_X7
theorem gV_X7_104 : GoodIn g_T (wsV RX7 104 RX7 yX7_isQuestion (.code yX7_isQuestion cX7_isQuestion 2 (some .boolean) :: g_T)) := g_goodV cwd_X7_isQuestion (g_in 643 (by decide +kernel) (by decide +kernel)) (g_in 645 (by decide +kernel) (by decide +kernel)) (g_in 7 (by decide +kernel) (by decide +kernel)) ini_X7
theorem gV_X7_118 : GoodIn g_T (wsV RX7 118 RX7 yX7_isOpen (.code yX7_isOpen cX7_isOpen 2 (some .boolean) :: g_T)) := g_goodV cwd_X7_isOpen (g_in 655 (by decide +kernel) (by decide +kernel)) (g_in 657 (by decide +kernel) (by decide +kernel)) (g_in 8 (by decide +kernel) (by decide +kernel)) ini_X7
theorem gV_X7_121 : GoodIn g_T (wsV RX7 121 RX7 yX7_tell (.code yX7_tell cX7_tell 3 (some .int) :: g_T)) := g_goodV cwd_X7_tell (g_in 659 (by decide +kernel) (by decide +kernel)) (g_in 661 (by decide +kernel) (by decide +kernel)) (g_in 9 (by decide +kernel) (by decide +kernel)) ini_X7
theorem gV_X7_110 : GoodIn g_T (wsV RX7 110 RX7 yX7_end (.code yX7_end cX7_end 3 none :: g_T)) := g_goodV cwd_X7_end (g_in 663 (by decide +kernel) (by decide +kernel)) (g_in 665 (by decide +kernel) (by decide +kernel)) (g_in 10 (by decide +kernel) (by decide +kernel)) ini_X7
theorem gV_X7_114 : GoodIn g_T (wsV RX7 114 RX7 yX7_isName (.code yX7_isName cX7_isName 3 (some .boolean) :: g_T)) := g_goodV cwd_X7_isName (g_in 667 (by decide +kernel) (by decide +kernel)) (g_in 669 (by decide +kernel) (by decide +kernel)) (g_in 11 (by decide +kernel) (by decide +kernel)) ini_X7
theorem gV_X7_125 : GoodIn g_T (wsV RX7 125 RX7 yX7_meets (.code yX7_meets cX7_meets 5 (some .boolean) :: g_T)) := g_goodV cwd_X7_meets (g_in 671 (by decide +kernel) (by decide +kernel)) (g_in 673 (by decide +kernel) (by decide +kernel)) (g_in 12 (by decide +kernel) (by decide +kernel)) ini_X7
theorem gV_X7_128 : GoodIn g_T (wsV RX7 128 RX7 yX7_isSet (.code yX7_isSet cX7_isSet 3 (some .boolean) :: g_T)) := g_goodV cwd_X7_isSet (g_in 679 (by decide +kernel) (by decide +kernel)) (g_in 681 (by decide +kernel) (by decide +kernel)) (g_in 13 (by decide +kernel) (by decide +kernel)) ini_X7
theorem gV_X7_131 : GoodIn g_T (wsV RX7 131 RX7 yX7_isBehind (.code yX7_isBehind cX7_isBehind 7 (some .boolean) :: g_T)) := g_goodV cwd_X7_isBehind (g_in 699 (by decide +kernel) (by decide +kernel)) (g_in 701 (by decide +kernel) (by decide +kernel)) (g_in 14 (by decide +kernel) (by decide +kernel)) ini_X7
theorem gV_X7_135 : GoodIn g_T (wsV RX7 135 RX7 yX7_reckon (.code yX7_reckon cX7_reckon 3 none :: g_T)) := g_goodV cwd_X7_reckon (g_in 707 (by decide +kernel) (by decide +kernel)) (g_in 709 (by decide +kernel) (by decide +kernel)) (g_in 15 (by decide +kernel) (by decide +kernel)) ini_X7
theorem gV_X7_138 : GoodIn g_T (wsV RX7 138 RX7 yX7_sets (.code yX7_sets cX7_sets 4 (some .int) :: g_T)) := g_goodV cwd_X7_sets (g_in 723 (by decide +kernel) (by decide +kernel)) (g_in 725 (by decide +kernel) (by decide +kernel)) (g_in 16 (by decide +kernel) (by decide +kernel)) ini_X7
theorem st_isIndex : Cond.static yX6_isIndex ∈ g_T := (g_in 117 (by decide +kernel) (by decide +kernel))
theorem st_isTerm : Cond.static yX6_isTerm ∈ g_T := (g_in 120 (by decide +kernel) (by decide +kernel))
end
section
/-! the two systems' memories -/
abbrev x_tys (cy : Nat → ClassId) : List (ClassId × FieldType) := [(cy 0, .int), (cy 1, .array .int), (cy 2, .object "SearchWire$Session"), (cy 3, .object "SearchWire$ResultSet"), (cy 4, .boolean), (cy 5, .long)]
def x_K (cy : Nat → ClassId) (L : g_S → Nat) (ns : Nat) (kk : Nat → Nat) (x : g_S) (r : Nat → Int32) : va_E := match x with
  | (0, _, _) => .inr (8, [.ref (L (1, 0, 0)), .ref (L (2, 0, 0)), .ref (L (9, 0, 0)), .int (r 3)])
  | (1, _, _) => .inr (4, [.ref (L (3, 0, 0)), .ref (L (4, 0, 0)), .int (r 2)])
  | (2, _, _) => .inr (3, [.ref (L (5, 0, 0)), .ref (L (6, 0, 0)), .ref (L (7, 0, 0)), .ref (L (8, 0, 0)), .int (r 4)])
  | (3, _, _) => .inl (cy 0, 100, .inl r)
  | (4, _, _) => .inl (cy 1, 5, .inr (.inr (.inr (.inr (fun k => some (L (10, k, 0)))))))
  | (5, _, _) => .inl (cy 0, 40, .inl r)
  | (6, _, _) => .inl (cy 0, 40, .inl r)
  | (7, _, _) => .inl (cy 0, 40, .inl r)
  | (8, _, _) => .inl (cy 0, 40, .inl r)
  | (9, _, _) => .inl (cy 2, 8, .inr (.inr (.inr (.inr (fun k => if k < ns then some (L (11, k, 0)) else none)))))
  | (10, _, _) => .inl (cy 0, 100, .inl r)
  | (11, i, _) => .inr (7, [.int (r 0), .ref (L (12, i, 0)), .ref (L (13, i, 0)), .ref (L (17, i, 0)), .int (r 4), .int (r 5), .int (r 6)])
  | (12, i, _) => .inl (cy 3, kk i, .inr (.inr (.inr (.inr (fun k => some (L (18, i, k)))))))
  | (13, i, _) => .inr (2, [.int (r 0), .ref (L (14, i, 0)), .ref (L (15, i, 0)), .ref (L (16, i, 0)), .int (r 4), .int (r 5)])
  | (14, _, _) => .inl (cy 0, 100, .inl r)
  | (15, _, _) => .inl (cy 0, 100, .inl r)
  | (16, _, _) => .inl (cy 0, 100, .inl r)
  | (17, i, _) => .inr (6, [.ref (L (20, i, 0)), .ref (L (21, i, 0)), .int (r 2)])
  | (18, i, j) => .inr (5, [.ref (L (19, i, j)), .int (r 1), .int (r 2)])
  | (19, _, _) => .inl (cy 0, 100, .inl r)
  | (20, _, _) => .inl (cy 0, 20, .inl r)
  | _ => .inl (cy 0, 20, .inl r)
def x_dom (ns : Nat) (kk : Nat → Nat) (x : g_S) : Prop := match x with
  | (0, i, j) => i = 0 ∧ j = 0
  | (1, i, j) => i = 0 ∧ j = 0
  | (2, i, j) => i = 0 ∧ j = 0
  | (3, i, j) => i = 0 ∧ j = 0
  | (4, i, j) => i = 0 ∧ j = 0
  | (5, i, j) => i = 0 ∧ j = 0
  | (6, i, j) => i = 0 ∧ j = 0
  | (7, i, j) => i = 0 ∧ j = 0
  | (8, i, j) => i = 0 ∧ j = 0
  | (9, i, j) => i = 0 ∧ j = 0
  | (10, i, j) => i < 5 ∧ j = 0
  | (11, i, j) => i < ns ∧ j = 0
  | (12, i, j) => i < ns ∧ j = 0
  | (13, i, j) => i < ns ∧ j = 0
  | (14, i, j) => i < ns ∧ j = 0
  | (15, i, j) => i < ns ∧ j = 0
  | (16, i, j) => i < ns ∧ j = 0
  | (17, i, j) => i < ns ∧ j = 0
  | (18, i, j) => i < ns ∧ j < kk i
  | (19, i, j) => i < ns ∧ j < kk i
  | (20, i, j) => i < ns ∧ j = 0
  | (21, i, j) => i < ns ∧ j = 0
  | _ => False
/-- the reference: one object, its arrays by the numbers of their fields -/
def m_len (k : Nat) : Nat := match k with
  | 2 => 100
  | 3 => 500
  | 5 => 40
  | 6 => 40
  | 7 => 40
  | 8 => 40
  | 9 => 40
  | 11 => 8
  | 12 => 8
  | 13 => 8
  | 14 => 8
  | 15 => 8
  | 16 => 40
  | 17 => 4000
  | 18 => 8
  | 19 => 800
  | 20 => 8
  | 21 => 800
  | 22 => 800
  | 23 => 800
  | 24 => 8
  | 25 => 160
  | 26 => 160
  | 27 => 1000
  | _ => 0
def m_K (cy : Nat → ClassId) (L : g_S → Nat) (x : g_S) (r : Nat → Int32) : va_E := match x with
  | (0, _, _) => .inr (9, [.int (r 0), .int (r 1), .ref (L (1, 2, 0)), .ref (L (1, 3, 0)), .int (r 4), .ref (L (1, 5, 0)), .ref (L (1, 6, 0)), .ref (L (1, 7, 0)), .ref (L (1, 8, 0)), .ref (L (2, 9, 0)), .int (r 10), .ref (L (1, 11, 0)), .ref (L (1, 12, 0)), .ref (L (2, 13, 0)), .ref (L (1, 14, 0)), .ref (L (1, 15, 0)), .ref (L (1, 16, 0)), .ref (L (1, 17, 0)), .ref (L (1, 18, 0)), .ref (L (1, 19, 0)), .ref (L (1, 20, 0)), .ref (L (1, 21, 0)), .ref (L (1, 22, 0)), .ref (L (1, 23, 0)), .ref (L (1, 24, 0)), .ref (L (1, 25, 0)), .ref (L (1, 26, 0)), .ref (L (1, 27, 0))])
  | (1, k, _) => .inl (cy 0, m_len k, .inl r)
  | (_, k, _) => .inl (cy 4, m_len k, .inl r)
def m_dom (x : g_S) : Prop := match x with
  | (0, i, j) => i = 0 ∧ j = 0
  | (1, i, j) => (i = 2 ∨ i = 3 ∨ i = 5 ∨ i = 6 ∨ i = 7 ∨ i = 8 ∨ i = 11 ∨ i = 12 ∨ i = 14 ∨ i = 15 ∨ i = 16 ∨ i = 17 ∨ i = 18 ∨ i = 19 ∨ i = 20 ∨ i = 21 ∨ i = 22 ∨ i = 23 ∨ i = 24 ∨ i = 25 ∨ i = 26 ∨ i = 27) ∧ j = 0
  | (2, i, j) => (i = 9 ∨ i = 13) ∧ j = 0
  | _ => False
/-- a boolean as an int -/
def g_b (P : Prop) [Decidable P] : Int32 := if P then 1 else 0
theorem g_b_eq0 {P : Prop} [Decidable P] : g_b P = 0 ↔ ¬ P := by unfold g_b; by_cases h : P <;> simp [h]
theorem g_b_ne0 {P : Prop} [Decidable P] : ¬ g_b P = 0 ↔ P := by unfold g_b; by_cases h : P <;> simp [h]
theorem g_b_nar {P : Prop} [Decidable P] : narrow .boolean (.int (g_b P)) = .int (g_b P) := by unfold g_b; by_cases h : P <;> simp [h] <;> rfl
theorem g_b_fit {P : Prop} [Decidable P] : fits .boolean (.int (g_b P)) = true := by unfold g_b; by_cases h : P <;> simp [h] <;> rfl
theorem g_b_t {P : Prop} [Decidable P] (h : P) : g_b P = 1 := by simp [g_b, h]
theorem g_b_f {P : Prop} [Decidable P] (h : ¬ P) : g_b P = 0 := by simp [g_b, h]
abbrev x_Met (l : Launch) (D : va_G) (cy : Nat → ClassId) (L : g_S → Nat) (ns : Nat) (kk : Nat → Nat) (y : MethodName) (c1 : Cond) (k : Nat) (σ : g_S → Nat → Int32) (av : List Value) (v : Option Value) (σ' : g_S → Nat → Int32) : Prop := g_Met l y c1 k D vwCl (x_tys cy) (x_dom ns kk) L (fun z => x_K cy L ns kk z (σ z)) av v (fun z => x_K cy L ns kk z (σ' z))
abbrev m_Met (l : Launch) (D : va_G) (cy : Nat → ClassId) (L : g_S → Nat) (y : MethodName) (c1 : Cond) (k : Nat) (σ : g_S → Nat → Int32) (av : List Value) (v : Option Value) (σ' : g_S → Nat → Int32) : Prop := g_Met l y c1 k D vwCl (x_tys cy) m_dom L (fun z => m_K cy L z (σ z)) av v (fun z => m_K cy L z (σ' z))
/-- what stands fast in a method's walk -/
def g_C (p : Program) (s : State) (m : MethodId) (meth : Method) (c : Code) (args : Array Value) (cc : ByteArray) (ret : Option FieldType) (maxL : Nat) (own : String) (D : va_G) (tys : List (ClassId × FieldType)) : Prop := p.tables.exec = Jvm.exec ∧ c.code = cc ∧ meth.sig.returnType = ret ∧ meth.locks = false ∧ c.maxLocals = maxL ∧ s.vm.findClass own = some m.cls ∧ (∀ w ∈ g_T, w.before args s = true) ∧ va_K D vwCl tys s ∧ g_N s
theorem g_vp {i : Int32} {n : Nat} (h0 : 0 ≤ i.toInt) (h1 : i.toInt < n) : vp_in i n := vp_in_iff.mpr ⟨h0, h1⟩
theorem g_lt {a b : Int32} : a < b ↔ a.toInt < b.toInt := Int32.lt_iff_toInt_lt
theorem g_le {a b : Int32} : a ≤ b ↔ a.toInt ≤ b.toInt := Int32.le_iff_toInt_le
theorem g_eqI {a b : Int32} : a = b ↔ a.toInt = b.toInt := Int32.toInt_inj.symm
theorem g_cl {a : Int32} : a.toNatClampNeg = a.toInt.toNat := rfl
theorem g_rng (a : Int32) : -2147483648 ≤ a.toInt ∧ a.toInt ≤ 2147483647 := ⟨Int32.minValue_le_toInt a, Int32.toInt_le a⟩
theorem g_addI {a b : Int32} (h1 : -2147483648 ≤ a.toInt + b.toInt) (h2 : a.toInt + b.toInt ≤ 2147483647) : (a + b).toInt = a.toInt + b.toInt := by
  rw [Int32.toInt_add]
  exact Int.bmod_eq_of_le (by omega) (by omega)
theorem g_subI {a b : Int32} (h1 : -2147483648 ≤ a.toInt - b.toInt) (h2 : a.toInt - b.toInt ≤ 2147483647) : (a - b).toInt = a.toInt - b.toInt := by
  rw [Int32.toInt_sub]
  exact Int.bmod_eq_of_le (by omega) (by omega)
theorem g_mulI {a b : Int32} (h1 : -2147483648 ≤ a.toInt * b.toInt) (h2 : a.toInt * b.toInt ≤ 2147483647) : (a * b).toInt = a.toInt * b.toInt := by
  rw [Int32.toInt_mul]
  exact Int.bmod_eq_of_le (by omega) (by omega)
theorem g_nIT {n : Nat} (h : n < 2147483648) : (nI n).toInt = (n : Int) := nI_toInt h
theorem g_nIc {n : Nat} (h : n < 2147483648) : (nI n).toNatClampNeg = n := nI_clamp h
end
section
/-! rows that give a branch's condition in whole numbers -/
section GK
variable {p : Program} {l : Launch} {e : Env} {R : Room} {s : State} {m : MethodId} {args : Array Value} {below : List Frame} {meth : Method} {c : Code} {H : Heap} {locs : List Loc} {cells slots : Nat} {Q : State → Prop}
variable {cc : ByteArray} {pc : Nat} {ls : Array Slot} {rest : List Value}
theorem kz_icmp_lt (hexec : p.tables.exec = Jvm.exec) (hb : c.code = cc) {x y : Int32} {X Y : Int} (hX : x.toInt = X) (hY : y.toInt = Y) {off : Int} {tgt : Nat} (hdg : decode cc pc = .ok (.if_icmp .lt off, 3)) (ht : (pc : Int) + off = (tgt : Int))
    (kt : X < Y → W p l e R s m args below meth c H locs cells slots Q (F0 m tgt ls rest)) (kf : Y ≤ X → W p l e R s m args below meth c H locs cells slots Q (F0 m (pc + 3) ls rest)) : W p l e R s m args below meth c H locs cells slots Q (F0 m pc ls (.int y :: .int x :: rest)) :=
  lv_icmp_lt hexec hb hdg ht (fun h => kt (by have := g_lt.mp h; omega)) (fun h => kf (by have h2 : ¬ x.toInt < y.toInt := fun q => h (g_lt.mpr q); omega))
theorem kz_icmp_ge (hexec : p.tables.exec = Jvm.exec) (hb : c.code = cc) {x y : Int32} {X Y : Int} (hX : x.toInt = X) (hY : y.toInt = Y) {off : Int} {tgt : Nat} (hdg : decode cc pc = .ok (.if_icmp .ge off, 3)) (ht : (pc : Int) + off = (tgt : Int))
    (kt : Y ≤ X → W p l e R s m args below meth c H locs cells slots Q (F0 m tgt ls rest)) (kf : X < Y → W p l e R s m args below meth c H locs cells slots Q (F0 m (pc + 3) ls rest)) : W p l e R s m args below meth c H locs cells slots Q (F0 m pc ls (.int y :: .int x :: rest)) :=
  lv_icmp_ge hexec hb hdg ht (fun h => kt (by have := g_le.mp h; omega)) (fun h => kf (by have h2 : ¬ y.toInt ≤ x.toInt := fun q => h (g_le.mpr q); omega))
theorem kz_icmp_gt (hexec : p.tables.exec = Jvm.exec) (hb : c.code = cc) {x y : Int32} {X Y : Int} (hX : x.toInt = X) (hY : y.toInt = Y) {off : Int} {tgt : Nat} (hdg : decode cc pc = .ok (.if_icmp .gt off, 3)) (ht : (pc : Int) + off = (tgt : Int))
    (kt : Y < X → W p l e R s m args below meth c H locs cells slots Q (F0 m tgt ls rest)) (kf : X ≤ Y → W p l e R s m args below meth c H locs cells slots Q (F0 m (pc + 3) ls rest)) : W p l e R s m args below meth c H locs cells slots Q (F0 m pc ls (.int y :: .int x :: rest)) :=
  lv_icmp_gt hexec hb hdg ht (fun h => kt (by have := g_lt.mp h; omega)) (fun h => kf (by have h2 : ¬ y.toInt < x.toInt := fun q => h (g_lt.mpr q); omega))
theorem kz_icmp_le (hexec : p.tables.exec = Jvm.exec) (hb : c.code = cc) {x y : Int32} {X Y : Int} (hX : x.toInt = X) (hY : y.toInt = Y) {off : Int} {tgt : Nat} (hdg : decode cc pc = .ok (.if_icmp .le off, 3)) (ht : (pc : Int) + off = (tgt : Int))
    (kt : X ≤ Y → W p l e R s m args below meth c H locs cells slots Q (F0 m tgt ls rest)) (kf : Y < X → W p l e R s m args below meth c H locs cells slots Q (F0 m (pc + 3) ls rest)) : W p l e R s m args below meth c H locs cells slots Q (F0 m pc ls (.int y :: .int x :: rest)) :=
  lv_icmp_le hexec hb hdg ht (fun h => kt (by have := g_le.mp h; omega)) (fun h => kf (by have h2 : ¬ x.toInt ≤ y.toInt := fun q => h (g_le.mpr q); omega))
theorem kz_icmp_eq (hexec : p.tables.exec = Jvm.exec) (hb : c.code = cc) {x y : Int32} {X Y : Int} (hX : x.toInt = X) (hY : y.toInt = Y) {off : Int} {tgt : Nat} (hdg : decode cc pc = .ok (.if_icmp .eq off, 3)) (ht : (pc : Int) + off = (tgt : Int))
    (kt : X = Y → W p l e R s m args below meth c H locs cells slots Q (F0 m tgt ls rest)) (kf : ¬ X = Y → W p l e R s m args below meth c H locs cells slots Q (F0 m (pc + 3) ls rest)) : W p l e R s m args below meth c H locs cells slots Q (F0 m pc ls (.int y :: .int x :: rest)) :=
  lv_icmp_eq hexec hb hdg ht (fun h => kt (by have := g_eqI.mp h; omega)) (fun h => kf (by have h2 : ¬ x.toInt = y.toInt := fun q => h (g_eqI.mpr q); omega))
theorem kz_icmp_ne (hexec : p.tables.exec = Jvm.exec) (hb : c.code = cc) {x y : Int32} {X Y : Int} (hX : x.toInt = X) (hY : y.toInt = Y) {off : Int} {tgt : Nat} (hdg : decode cc pc = .ok (.if_icmp .ne off, 3)) (ht : (pc : Int) + off = (tgt : Int))
    (kt : ¬ X = Y → W p l e R s m args below meth c H locs cells slots Q (F0 m tgt ls rest)) (kf : X = Y → W p l e R s m args below meth c H locs cells slots Q (F0 m (pc + 3) ls rest)) : W p l e R s m args below meth c H locs cells slots Q (F0 m pc ls (.int y :: .int x :: rest)) :=
  lv_icmp_ne hexec hb hdg ht (fun h => kt (by have h2 : ¬ x.toInt = y.toInt := fun q => h (g_eqI.mpr q); omega)) (fun h => kf (by have := g_eqI.mp h; omega))
theorem kz_z : (0 : Int32).toInt = 0 := by decide
theorem kz_if_lt (hexec : p.tables.exec = Jvm.exec) (hb : c.code = cc) {x : Int32} {X : Int} (hX : x.toInt = X) {off : Int} {tgt : Nat} (hdg : decode cc pc = .ok (.ifCond .lt off, 3)) (ht : (pc : Int) + off = (tgt : Int))
    (kt : X < 0 → W p l e R s m args below meth c H locs cells slots Q (F0 m tgt ls rest)) (kf : 0 ≤ X → W p l e R s m args below meth c H locs cells slots Q (F0 m (pc + 3) ls rest)) : W p l e R s m args below meth c H locs cells slots Q (F0 m pc ls (.int x :: rest)) :=
  lv_if_lt hexec hb hdg ht (fun h => kt (by have := g_lt.mp h; rw [kz_z] at this; omega)) (fun h => kf (by have h2 : ¬ x.toInt < (0 : Int32).toInt := fun q => h (g_lt.mpr q); rw [kz_z] at h2; omega))
theorem kz_if_ge (hexec : p.tables.exec = Jvm.exec) (hb : c.code = cc) {x : Int32} {X : Int} (hX : x.toInt = X) {off : Int} {tgt : Nat} (hdg : decode cc pc = .ok (.ifCond .ge off, 3)) (ht : (pc : Int) + off = (tgt : Int))
    (kt : 0 ≤ X → W p l e R s m args below meth c H locs cells slots Q (F0 m tgt ls rest)) (kf : X < 0 → W p l e R s m args below meth c H locs cells slots Q (F0 m (pc + 3) ls rest)) : W p l e R s m args below meth c H locs cells slots Q (F0 m pc ls (.int x :: rest)) :=
  lv_if_ge hexec hb hdg ht (fun h => kt (by have := g_le.mp h; rw [kz_z] at this; omega)) (fun h => kf (by have h2 : ¬ (0 : Int32).toInt ≤ x.toInt := fun q => h (g_le.mpr q); rw [kz_z] at h2; omega))
theorem kz_if_gt (hexec : p.tables.exec = Jvm.exec) (hb : c.code = cc) {x : Int32} {X : Int} (hX : x.toInt = X) {off : Int} {tgt : Nat} (hdg : decode cc pc = .ok (.ifCond .gt off, 3)) (ht : (pc : Int) + off = (tgt : Int))
    (kt : 0 < X → W p l e R s m args below meth c H locs cells slots Q (F0 m tgt ls rest)) (kf : X ≤ 0 → W p l e R s m args below meth c H locs cells slots Q (F0 m (pc + 3) ls rest)) : W p l e R s m args below meth c H locs cells slots Q (F0 m pc ls (.int x :: rest)) :=
  lv_if_gt hexec hb hdg ht (fun h => kt (by have := g_lt.mp h; rw [kz_z] at this; omega)) (fun h => kf (by have h2 : ¬ (0 : Int32).toInt < x.toInt := fun q => h (g_lt.mpr q); rw [kz_z] at h2; omega))
theorem kz_if_le (hexec : p.tables.exec = Jvm.exec) (hb : c.code = cc) {x : Int32} {X : Int} (hX : x.toInt = X) {off : Int} {tgt : Nat} (hdg : decode cc pc = .ok (.ifCond .le off, 3)) (ht : (pc : Int) + off = (tgt : Int))
    (kt : X ≤ 0 → W p l e R s m args below meth c H locs cells slots Q (F0 m tgt ls rest)) (kf : 0 < X → W p l e R s m args below meth c H locs cells slots Q (F0 m (pc + 3) ls rest)) : W p l e R s m args below meth c H locs cells slots Q (F0 m pc ls (.int x :: rest)) :=
  lv_if_le hexec hb hdg ht (fun h => kt (by have := g_le.mp h; rw [kz_z] at this; omega)) (fun h => kf (by have h2 : ¬ x.toInt ≤ (0 : Int32).toInt := fun q => h (g_le.mpr q); rw [kz_z] at h2; omega))
theorem kz_if_eq (hexec : p.tables.exec = Jvm.exec) (hb : c.code = cc) {x : Int32} {X : Int} (hX : x.toInt = X) {off : Int} {tgt : Nat} (hdg : decode cc pc = .ok (.ifCond .eq off, 3)) (ht : (pc : Int) + off = (tgt : Int))
    (kt : X = 0 → W p l e R s m args below meth c H locs cells slots Q (F0 m tgt ls rest)) (kf : ¬ X = 0 → W p l e R s m args below meth c H locs cells slots Q (F0 m (pc + 3) ls rest)) : W p l e R s m args below meth c H locs cells slots Q (F0 m pc ls (.int x :: rest)) :=
  lv_if_eq hexec hb hdg ht (fun h => kt (by have := g_eqI.mp h; rw [kz_z] at this; omega)) (fun h => kf (by have h2 : ¬ x.toInt = (0 : Int32).toInt := fun q => h (g_eqI.mpr q); rw [kz_z] at h2; omega))
theorem kz_if_ne (hexec : p.tables.exec = Jvm.exec) (hb : c.code = cc) {x : Int32} {X : Int} (hX : x.toInt = X) {off : Int} {tgt : Nat} (hdg : decode cc pc = .ok (.ifCond .ne off, 3)) (ht : (pc : Int) + off = (tgt : Int))
    (kt : ¬ X = 0 → W p l e R s m args below meth c H locs cells slots Q (F0 m tgt ls rest)) (kf : X = 0 → W p l e R s m args below meth c H locs cells slots Q (F0 m (pc + 3) ls rest)) : W p l e R s m args below meth c H locs cells slots Q (F0 m pc ls (.int x :: rest)) :=
  lv_if_ne hexec hb hdg ht (fun h => kt (by have h2 : ¬ x.toInt = (0 : Int32).toInt := fun q => h (g_eqI.mpr q); rw [kz_z] at h2; omega)) (fun h => kf (by have := g_eqI.mp h; rw [kz_z] at this; omega))
/-- a test of a boolean -/
theorem kz_b_eq (hexec : p.tables.exec = Jvm.exec) (hb : c.code = cc) {P : Prop} [Decidable P] {off : Int} {tgt : Nat} (hdg : decode cc pc = .ok (.ifCond .eq off, 3)) (ht : (pc : Int) + off = (tgt : Int))
    (kt : ¬ P → W p l e R s m args below meth c H locs cells slots Q (F0 m tgt ls rest)) (kf : P → W p l e R s m args below meth c H locs cells slots Q (F0 m (pc + 3) ls rest)) : W p l e R s m args below meth c H locs cells slots Q (F0 m pc ls (.int (g_b P) :: rest)) :=
  lv_if_eq hexec hb hdg ht (fun h => kt (g_b_eq0.mp h)) (fun h => kf (g_b_ne0.mp h))
theorem kz_b_ne (hexec : p.tables.exec = Jvm.exec) (hb : c.code = cc) {P : Prop} [Decidable P] {off : Int} {tgt : Nat} (hdg : decode cc pc = .ok (.ifCond .ne off, 3)) (ht : (pc : Int) + off = (tgt : Int))
    (kt : P → W p l e R s m args below meth c H locs cells slots Q (F0 m tgt ls rest)) (kf : ¬ P → W p l e R s m args below meth c H locs cells slots Q (F0 m (pc + 3) ls rest)) : W p l e R s m args below meth c H locs cells slots Q (F0 m pc ls (.int (g_b P) :: rest)) :=
  lv_if_ne hexec hb hdg ht (fun h => kt (g_b_ne0.mp h)) (fun h => kf (g_b_eq0.mp h))
end GK
section GQ
variable {p : Program} {l : Launch} {e : Env} {R : Room} {s : State} {m : MethodId} {args : Array Value} {below : List Frame} {meth : Method} {c : Code} {H : Heap} {locs : List Loc} {D : va_G} {cl : List vw_C}
variable {cc : ByteArray} {pc : Nat} {ls : Array Slot} {dom : g_S → Prop} {L : g_S → Nat} {K : g_S → (Nat → Int32) → va_E} {σ σ' : g_S → Nat → Int32}
theorem s_iret {v : Int32} {v' : Option Value} (hexec : p.tables.exec = Jvm.exec) (hb : c.code = cc) (hr : meth.sig.returnType = some .int) (hlk : meth.locks = false) (hG : g_H D cl dom L (fun z => K z (σ z)) H) (hS : va_S (g_A dom L) s.heap H locs) (hdg : decode cc pc = .ok (.ireturn, 1)) (hv : v' = some (.int v)) (hV : σ' = σ) : W p l e R s m args below meth c H locs 0 0 (MQ below (g_Qc D cl dom L (fun z => K z (σ' z)) v') args s 0 0 (g_A dom L)) (F0 m pc ls [.int v]) :=
  g_iret hexec hb hr hlk hG hS hdg hv (by rw [hV])
theorem s_zret {v : Int32} {v' : Option Value} (hexec : p.tables.exec = Jvm.exec) (hb : c.code = cc) (hr : meth.sig.returnType = some .boolean) (hlk : meth.locks = false) (hG : g_H D cl dom L (fun z => K z (σ z)) H) (hS : va_S (g_A dom L) s.heap H locs) (hdg : decode cc pc = .ok (.ireturn, 1)) (hn : narrow .boolean (.int v) = .int v) (hv : v' = some (.int v)) (hV : σ' = σ) : W p l e R s m args below meth c H locs 0 0 (MQ below (g_Qc D cl dom L (fun z => K z (σ' z)) v') args s 0 0 (g_A dom L)) (F0 m pc ls [.int v]) :=
  g_zret hexec hb hr hlk hG hS hdg hn hv (by rw [hV])
theorem s_vret {v' : Option Value} (hexec : p.tables.exec = Jvm.exec) (hb : c.code = cc) (hr : meth.sig.returnType = none) (hlk : meth.locks = false) (hG : g_H D cl dom L (fun z => K z (σ z)) H) (hS : va_S (g_A dom L) s.heap H locs) (hdg : decode cc pc = .ok (.return_, 1)) (hv : v' = none) (hV : σ' = σ) : W p l e R s m args below meth c H locs 0 0 (MQ below (g_Qc D cl dom L (fun z => K z (σ' z)) v') args s 0 0 (g_A dom L)) (F0 m pc ls []) :=
  g_vret hexec hb hr hlk hG hS hdg hv (by rw [hV])
theorem s_aret {v : Value} {n : String} {v' : Option Value} (hexec : p.tables.exec = Jvm.exec) (hb : c.code = cc) (hr : meth.sig.returnType = some (.object n)) (hlk : meth.locks = false) (hG : g_H D cl dom L (fun z => K z (σ z)) H) (hS : va_S (g_A dom L) s.heap H locs) (hdg : decode cc pc = .ok (.areturn, 1)) (ha : v = .null ∨ ∃ a, v = .ref a) (hv : v' = some v) (hV : σ' = σ) : W p l e R s m args below meth c H locs 0 0 (MQ below (g_Qc D cl dom L (fun z => K z (σ' z)) v') args s 0 0 (g_A dom L)) (F0 m pc ls [v]) :=
  g_aret hexec hb hr hlk hG hS hdg ha hv (by rw [hV])
end GQ
end
section
/-! what a cell is, by its slot, and behind the store of a field -/
theorem x_at_0 (cy : Nat → ClassId) (L : g_S → Nat) (ns : Nat) (kk : Nat → Nat) (i j : Nat) (r : Nat → Int32) : x_K cy L ns kk (0, i, j) r = .inr (8, [.ref (L (1, 0, 0)), .ref (L (2, 0, 0)), .ref (L (9, 0, 0)), .int (r 3)]) := rfl
theorem x_up_0_3 (cy : Nat → ClassId) (L : g_S → Nat) (ns : Nat) (kk : Nat → Nat) (i j : Nat) (r : Nat → Int32) (v : Int32) : x_K cy L ns kk (0, i, j) (upd r 3 v) = .inr (8, [.ref (L (1, 0, 0)), .ref (L (2, 0, 0)), .ref (L (9, 0, 0)), .int (r 3)].set 3 (.int v)) := rfl
theorem x_at_1 (cy : Nat → ClassId) (L : g_S → Nat) (ns : Nat) (kk : Nat → Nat) (i j : Nat) (r : Nat → Int32) : x_K cy L ns kk (1, i, j) r = .inr (4, [.ref (L (3, 0, 0)), .ref (L (4, 0, 0)), .int (r 2)]) := rfl
theorem x_up_1_2 (cy : Nat → ClassId) (L : g_S → Nat) (ns : Nat) (kk : Nat → Nat) (i j : Nat) (r : Nat → Int32) (v : Int32) : x_K cy L ns kk (1, i, j) (upd r 2 v) = .inr (4, [.ref (L (3, 0, 0)), .ref (L (4, 0, 0)), .int (r 2)].set 2 (.int v)) := rfl
theorem x_at_2 (cy : Nat → ClassId) (L : g_S → Nat) (ns : Nat) (kk : Nat → Nat) (i j : Nat) (r : Nat → Int32) : x_K cy L ns kk (2, i, j) r = .inr (3, [.ref (L (5, 0, 0)), .ref (L (6, 0, 0)), .ref (L (7, 0, 0)), .ref (L (8, 0, 0)), .int (r 4)]) := rfl
theorem x_up_2_4 (cy : Nat → ClassId) (L : g_S → Nat) (ns : Nat) (kk : Nat → Nat) (i j : Nat) (r : Nat → Int32) (v : Int32) : x_K cy L ns kk (2, i, j) (upd r 4 v) = .inr (3, [.ref (L (5, 0, 0)), .ref (L (6, 0, 0)), .ref (L (7, 0, 0)), .ref (L (8, 0, 0)), .int (r 4)].set 4 (.int v)) := rfl
theorem x_at_11 (cy : Nat → ClassId) (L : g_S → Nat) (ns : Nat) (kk : Nat → Nat) (i j : Nat) (r : Nat → Int32) : x_K cy L ns kk (11, i, j) r = .inr (7, [.int (r 0), .ref (L (12, i, 0)), .ref (L (13, i, 0)), .ref (L (17, i, 0)), .int (r 4), .int (r 5), .int (r 6)]) := rfl
theorem x_up_11_0 (cy : Nat → ClassId) (L : g_S → Nat) (ns : Nat) (kk : Nat → Nat) (i j : Nat) (r : Nat → Int32) (v : Int32) : x_K cy L ns kk (11, i, j) (upd r 0 v) = .inr (7, [.int (r 0), .ref (L (12, i, 0)), .ref (L (13, i, 0)), .ref (L (17, i, 0)), .int (r 4), .int (r 5), .int (r 6)].set 0 (.int v)) := rfl
theorem x_up_11_4 (cy : Nat → ClassId) (L : g_S → Nat) (ns : Nat) (kk : Nat → Nat) (i j : Nat) (r : Nat → Int32) (v : Int32) : x_K cy L ns kk (11, i, j) (upd r 4 v) = .inr (7, [.int (r 0), .ref (L (12, i, 0)), .ref (L (13, i, 0)), .ref (L (17, i, 0)), .int (r 4), .int (r 5), .int (r 6)].set 4 (.int v)) := rfl
theorem x_up_11_5 (cy : Nat → ClassId) (L : g_S → Nat) (ns : Nat) (kk : Nat → Nat) (i j : Nat) (r : Nat → Int32) (v : Int32) : x_K cy L ns kk (11, i, j) (upd r 5 v) = .inr (7, [.int (r 0), .ref (L (12, i, 0)), .ref (L (13, i, 0)), .ref (L (17, i, 0)), .int (r 4), .int (r 5), .int (r 6)].set 5 (.int v)) := rfl
theorem x_up_11_6 (cy : Nat → ClassId) (L : g_S → Nat) (ns : Nat) (kk : Nat → Nat) (i j : Nat) (r : Nat → Int32) (v : Int32) : x_K cy L ns kk (11, i, j) (upd r 6 v) = .inr (7, [.int (r 0), .ref (L (12, i, 0)), .ref (L (13, i, 0)), .ref (L (17, i, 0)), .int (r 4), .int (r 5), .int (r 6)].set 6 (.int v)) := rfl
theorem x_at_13 (cy : Nat → ClassId) (L : g_S → Nat) (ns : Nat) (kk : Nat → Nat) (i j : Nat) (r : Nat → Int32) : x_K cy L ns kk (13, i, j) r = .inr (2, [.int (r 0), .ref (L (14, i, 0)), .ref (L (15, i, 0)), .ref (L (16, i, 0)), .int (r 4), .int (r 5)]) := rfl
theorem x_up_13_0 (cy : Nat → ClassId) (L : g_S → Nat) (ns : Nat) (kk : Nat → Nat) (i j : Nat) (r : Nat → Int32) (v : Int32) : x_K cy L ns kk (13, i, j) (upd r 0 v) = .inr (2, [.int (r 0), .ref (L (14, i, 0)), .ref (L (15, i, 0)), .ref (L (16, i, 0)), .int (r 4), .int (r 5)].set 0 (.int v)) := rfl
theorem x_up_13_4 (cy : Nat → ClassId) (L : g_S → Nat) (ns : Nat) (kk : Nat → Nat) (i j : Nat) (r : Nat → Int32) (v : Int32) : x_K cy L ns kk (13, i, j) (upd r 4 v) = .inr (2, [.int (r 0), .ref (L (14, i, 0)), .ref (L (15, i, 0)), .ref (L (16, i, 0)), .int (r 4), .int (r 5)].set 4 (.int v)) := rfl
theorem x_up_13_5 (cy : Nat → ClassId) (L : g_S → Nat) (ns : Nat) (kk : Nat → Nat) (i j : Nat) (r : Nat → Int32) (v : Int32) : x_K cy L ns kk (13, i, j) (upd r 5 v) = .inr (2, [.int (r 0), .ref (L (14, i, 0)), .ref (L (15, i, 0)), .ref (L (16, i, 0)), .int (r 4), .int (r 5)].set 5 (.int v)) := rfl
theorem x_at_17 (cy : Nat → ClassId) (L : g_S → Nat) (ns : Nat) (kk : Nat → Nat) (i j : Nat) (r : Nat → Int32) : x_K cy L ns kk (17, i, j) r = .inr (6, [.ref (L (20, i, 0)), .ref (L (21, i, 0)), .int (r 2)]) := rfl
theorem x_up_17_2 (cy : Nat → ClassId) (L : g_S → Nat) (ns : Nat) (kk : Nat → Nat) (i j : Nat) (r : Nat → Int32) (v : Int32) : x_K cy L ns kk (17, i, j) (upd r 2 v) = .inr (6, [.ref (L (20, i, 0)), .ref (L (21, i, 0)), .int (r 2)].set 2 (.int v)) := rfl
theorem x_at_18 (cy : Nat → ClassId) (L : g_S → Nat) (ns : Nat) (kk : Nat → Nat) (i j : Nat) (r : Nat → Int32) : x_K cy L ns kk (18, i, j) r = .inr (5, [.ref (L (19, i, j)), .int (r 1), .int (r 2)]) := rfl
theorem x_up_18_1 (cy : Nat → ClassId) (L : g_S → Nat) (ns : Nat) (kk : Nat → Nat) (i j : Nat) (r : Nat → Int32) (v : Int32) : x_K cy L ns kk (18, i, j) (upd r 1 v) = .inr (5, [.ref (L (19, i, j)), .int (r 1), .int (r 2)].set 1 (.int v)) := rfl
theorem x_up_18_2 (cy : Nat → ClassId) (L : g_S → Nat) (ns : Nat) (kk : Nat → Nat) (i j : Nat) (r : Nat → Int32) (v : Int32) : x_K cy L ns kk (18, i, j) (upd r 2 v) = .inr (5, [.ref (L (19, i, j)), .int (r 1), .int (r 2)].set 2 (.int v)) := rfl
theorem m_at_0 (cy : Nat → ClassId) (L : g_S → Nat) (i j : Nat) (r : Nat → Int32) : m_K cy L (0, i, j) r = .inr (9, [.int (r 0), .int (r 1), .ref (L (1, 2, 0)), .ref (L (1, 3, 0)), .int (r 4), .ref (L (1, 5, 0)), .ref (L (1, 6, 0)), .ref (L (1, 7, 0)), .ref (L (1, 8, 0)), .ref (L (2, 9, 0)), .int (r 10), .ref (L (1, 11, 0)), .ref (L (1, 12, 0)), .ref (L (2, 13, 0)), .ref (L (1, 14, 0)), .ref (L (1, 15, 0)), .ref (L (1, 16, 0)), .ref (L (1, 17, 0)), .ref (L (1, 18, 0)), .ref (L (1, 19, 0)), .ref (L (1, 20, 0)), .ref (L (1, 21, 0)), .ref (L (1, 22, 0)), .ref (L (1, 23, 0)), .ref (L (1, 24, 0)), .ref (L (1, 25, 0)), .ref (L (1, 26, 0)), .ref (L (1, 27, 0))]) := rfl
theorem m_up_0_0 (cy : Nat → ClassId) (L : g_S → Nat) (i j : Nat) (r : Nat → Int32) (v : Int32) : m_K cy L (0, i, j) (upd r 0 v) = .inr (9, [.int (r 0), .int (r 1), .ref (L (1, 2, 0)), .ref (L (1, 3, 0)), .int (r 4), .ref (L (1, 5, 0)), .ref (L (1, 6, 0)), .ref (L (1, 7, 0)), .ref (L (1, 8, 0)), .ref (L (2, 9, 0)), .int (r 10), .ref (L (1, 11, 0)), .ref (L (1, 12, 0)), .ref (L (2, 13, 0)), .ref (L (1, 14, 0)), .ref (L (1, 15, 0)), .ref (L (1, 16, 0)), .ref (L (1, 17, 0)), .ref (L (1, 18, 0)), .ref (L (1, 19, 0)), .ref (L (1, 20, 0)), .ref (L (1, 21, 0)), .ref (L (1, 22, 0)), .ref (L (1, 23, 0)), .ref (L (1, 24, 0)), .ref (L (1, 25, 0)), .ref (L (1, 26, 0)), .ref (L (1, 27, 0))].set 0 (.int v)) := rfl
theorem m_up_0_1 (cy : Nat → ClassId) (L : g_S → Nat) (i j : Nat) (r : Nat → Int32) (v : Int32) : m_K cy L (0, i, j) (upd r 1 v) = .inr (9, [.int (r 0), .int (r 1), .ref (L (1, 2, 0)), .ref (L (1, 3, 0)), .int (r 4), .ref (L (1, 5, 0)), .ref (L (1, 6, 0)), .ref (L (1, 7, 0)), .ref (L (1, 8, 0)), .ref (L (2, 9, 0)), .int (r 10), .ref (L (1, 11, 0)), .ref (L (1, 12, 0)), .ref (L (2, 13, 0)), .ref (L (1, 14, 0)), .ref (L (1, 15, 0)), .ref (L (1, 16, 0)), .ref (L (1, 17, 0)), .ref (L (1, 18, 0)), .ref (L (1, 19, 0)), .ref (L (1, 20, 0)), .ref (L (1, 21, 0)), .ref (L (1, 22, 0)), .ref (L (1, 23, 0)), .ref (L (1, 24, 0)), .ref (L (1, 25, 0)), .ref (L (1, 26, 0)), .ref (L (1, 27, 0))].set 1 (.int v)) := rfl
theorem m_up_0_4 (cy : Nat → ClassId) (L : g_S → Nat) (i j : Nat) (r : Nat → Int32) (v : Int32) : m_K cy L (0, i, j) (upd r 4 v) = .inr (9, [.int (r 0), .int (r 1), .ref (L (1, 2, 0)), .ref (L (1, 3, 0)), .int (r 4), .ref (L (1, 5, 0)), .ref (L (1, 6, 0)), .ref (L (1, 7, 0)), .ref (L (1, 8, 0)), .ref (L (2, 9, 0)), .int (r 10), .ref (L (1, 11, 0)), .ref (L (1, 12, 0)), .ref (L (2, 13, 0)), .ref (L (1, 14, 0)), .ref (L (1, 15, 0)), .ref (L (1, 16, 0)), .ref (L (1, 17, 0)), .ref (L (1, 18, 0)), .ref (L (1, 19, 0)), .ref (L (1, 20, 0)), .ref (L (1, 21, 0)), .ref (L (1, 22, 0)), .ref (L (1, 23, 0)), .ref (L (1, 24, 0)), .ref (L (1, 25, 0)), .ref (L (1, 26, 0)), .ref (L (1, 27, 0))].set 4 (.int v)) := rfl
theorem m_up_0_10 (cy : Nat → ClassId) (L : g_S → Nat) (i j : Nat) (r : Nat → Int32) (v : Int32) : m_K cy L (0, i, j) (upd r 10 v) = .inr (9, [.int (r 0), .int (r 1), .ref (L (1, 2, 0)), .ref (L (1, 3, 0)), .int (r 4), .ref (L (1, 5, 0)), .ref (L (1, 6, 0)), .ref (L (1, 7, 0)), .ref (L (1, 8, 0)), .ref (L (2, 9, 0)), .int (r 10), .ref (L (1, 11, 0)), .ref (L (1, 12, 0)), .ref (L (2, 13, 0)), .ref (L (1, 14, 0)), .ref (L (1, 15, 0)), .ref (L (1, 16, 0)), .ref (L (1, 17, 0)), .ref (L (1, 18, 0)), .ref (L (1, 19, 0)), .ref (L (1, 20, 0)), .ref (L (1, 21, 0)), .ref (L (1, 22, 0)), .ref (L (1, 23, 0)), .ref (L (1, 24, 0)), .ref (L (1, 25, 0)), .ref (L (1, 26, 0)), .ref (L (1, 27, 0))].set 10 (.int v)) := rfl
end
section
/-! the class: its records -/
def x_termOf (σ : g_S → Nat → Int32) (p x : Int32) : Int32 := if (0 ≤ p.toInt ∧ p.toInt < (σ (1, 0, 0) 2).toInt) ∧ (0 ≤ x.toInt ∧ x.toInt < 5) then σ (10, x.toNatClampNeg, 0) p.toNatClampNeg else -1
def x_bytesOf (σ : g_S → Nat → Int32) (p : Int32) : Int32 := if 0 ≤ p.toInt ∧ p.toInt < (σ (1, 0, 0) 2).toInt then σ (3, 0, 0) p.toNatClampNeg else 0
set_option maxHeartbeats 4000000 in
set_option maxRecDepth 100000 in
theorem c_X6_isIndex (l : Launch) (D : va_G) (cy : Nat → ClassId) (L : g_S → Nat) (ns : Nat) (kk : Nat → Nat) (σ : g_S → Nat → Int32) (p : Int32) : x_Met l D cy L ns kk yX6_isIndex (.code yX6_isIndex cX6_isIndex 1 (some .boolean)) 0 σ [.int (p)] (some (.int (g_b (0 ≤ (p).toInt ∧ (p).toInt < 5)))) σ := by
  refine g_Met.of (by decide) (Nat.le_of_ble_eq_true rfl) ?_
  intro pg e s m below meth c hx hb hr hlk hml hown hts hK hN H locs hG hS ls hl
  have hown : s.vm.findClass RX6 = some m.cls := hown
  have hl : lv_has ls 1 [(0, .int (p))] := hl
  refine lv_iload_n hx hb dX6_isIndex_0 rfl (lv_at hl 0 rfl) ?_
  refine kz_if_lt (X := (p).toInt) hx hb rfl dX6_isIndex_1 (tgt := 13) (by decide) (fun c_1_1 => ?_) (fun c_1_1 => ?_)
  · refine lv_iconst (v := 0) hx hb dX6_isIndex_13 (by decide) ?_
    exact s_zret hx hb hr hlk hG hS dX6_isIndex_14 rfl (by unfold g_b; (repeat' split) <;> first | rfl | (exfalso; omega)) rfl
  · refine lv_iload_n hx hb dX6_isIndex_4 rfl (lv_at hl 0 rfl) ?_
    refine lv_iconst (v := 5) hx hb dX6_isIndex_5 (by decide) ?_
    refine kz_icmp_ge (X := (p).toInt) (Y := 5) hx hb rfl (by decide) dX6_isIndex_6 (tgt := 13) (by decide) (fun c_6_2 => ?_) (fun c_6_2 => ?_)
    · refine lv_iconst (v := 0) hx hb dX6_isIndex_13 (by decide) ?_
      exact s_zret hx hb hr hlk hG hS dX6_isIndex_14 rfl (by unfold g_b; (repeat' split) <;> first | rfl | (exfalso; omega)) rfl
    · refine lv_iconst (v := 1) hx hb dX6_isIndex_9 (by decide) ?_
      refine lv_goto (tgt := 14) hx hb dX6_isIndex_10 (by decide) ?_
      exact s_zret hx hb hr hlk hG hS dX6_isIndex_14 rfl (by unfold g_b; (repeat' split) <;> first | rfl | (exfalso; omega)) rfl
set_option maxHeartbeats 4000000 in
set_option maxRecDepth 100000 in
theorem c_X6_isTerm (l : Launch) (D : va_G) (cy : Nat → ClassId) (L : g_S → Nat) (ns : Nat) (kk : Nat → Nat) (σ : g_S → Nat → Int32) (p : Int32) : x_Met l D cy L ns kk yX6_isTerm (.code yX6_isTerm cX6_isTerm 1 (some .boolean)) 0 σ [.int (p)] (some (.int (g_b (0 ≤ (p).toInt ∧ (p).toInt ≤ 999)))) σ := by
  refine g_Met.of (by decide) (Nat.le_of_ble_eq_true rfl) ?_
  intro pg e s m below meth c hx hb hr hlk hml hown hts hK hN H locs hG hS ls hl
  have hown : s.vm.findClass RX6 = some m.cls := hown
  have hl : lv_has ls 1 [(0, .int (p))] := hl
  refine lv_iload_n hx hb dX6_isTerm_0 rfl (lv_at hl 0 rfl) ?_
  refine kz_if_lt (X := (p).toInt) hx hb rfl dX6_isTerm_1 (tgt := 15) (by decide) (fun c_1_1 => ?_) (fun c_1_1 => ?_)
  · refine lv_iconst (v := 0) hx hb dX6_isTerm_15 (by decide) ?_
    exact s_zret hx hb hr hlk hG hS dX6_isTerm_16 rfl (by unfold g_b; (repeat' split) <;> first | rfl | (exfalso; omega)) rfl
  · refine lv_iload_n hx hb dX6_isTerm_4 rfl (lv_at hl 0 rfl) ?_
    refine lv_sipush (v := 999) hx hb dX6_isTerm_5 (by decide) ?_
    refine kz_icmp_gt (X := (p).toInt) (Y := 999) hx hb rfl (by decide) dX6_isTerm_8 (tgt := 15) (by decide) (fun c_8_2 => ?_) (fun c_8_2 => ?_)
    · refine lv_iconst (v := 0) hx hb dX6_isTerm_15 (by decide) ?_
      exact s_zret hx hb hr hlk hG hS dX6_isTerm_16 rfl (by unfold g_b; (repeat' split) <;> first | rfl | (exfalso; omega)) rfl
    · refine lv_iconst (v := 1) hx hb dX6_isTerm_11 (by decide) ?_
      refine lv_goto (tgt := 16) hx hb dX6_isTerm_12 (by decide) ?_
      exact s_zret hx hb hr hlk hG hS dX6_isTerm_16 rfl (by unfold g_b; (repeat' split) <;> first | rfl | (exfalso; omega)) rfl
set_option maxHeartbeats 4000000 in
set_option maxRecDepth 100000 in
theorem c_X2_count (l : Launch) (D : va_G) (cy : Nat → ClassId) (L : g_S → Nat) (ns : Nat) (kk : Nat → Nat) (σ : g_S → Nat → Int32)  : x_Met l D cy L ns kk yX2_count (.code yX2_count cX2_count 1 (some .int)) 0 σ [.ref (L (1, 0, 0))] (some (.int (σ (1, 0, 0) 2))) σ := by
  refine g_Met.of (by decide) (Nat.le_of_ble_eq_true rfl) ?_
  intro pg e s m below meth c hx hb hr hlk hml hown hts hK hN H locs hG hS ls hl
  have hown : s.vm.findClass RX2 = some m.cls := hown
  have hl : lv_has ls 1 [(0, .ref (L (1, 0, 0)))] := hl
  refine lv_aload_n hx hb dX2_count_0 rfl (lv_at hl 0 rfl) ?_
  refine g_get (C := RX2) (T := TX2) (N := 3) (v := .int (σ (1, 0, 0) 2)) hx hb hts inX2g hown hK hG (1, 0, 0) ⟨rfl, rfl⟩ (x_at_1 cy L ns kk (0) (0) (σ (1, 0, 0))) rfl 2 (by decide) fl_X2_20 rfl dX2_count_1 ?_
  exact s_iret hx hb hr hlk hG hS dX2_count_4 rfl rfl
set_option maxHeartbeats 4000000 in
set_option maxRecDepth 100000 in
theorem c_X2_has (l : Launch) (D : va_G) (cy : Nat → ClassId) (L : g_S → Nat) (ns : Nat) (kk : Nat → Nat) (σ : g_S → Nat → Int32) (p : Int32) : x_Met l D cy L ns kk yX2_has (.code yX2_has cX2_has 2 (some .boolean)) 0 σ [.ref (L (1, 0, 0)), .int (p)] (some (.int (g_b (0 ≤ (p).toInt ∧ (p).toInt < (σ (1, 0, 0) 2).toInt)))) σ := by
  refine g_Met.of (by decide) (Nat.le_of_ble_eq_true rfl) ?_
  intro pg e s m below meth c hx hb hr hlk hml hown hts hK hN H locs hG hS ls hl
  have hown : s.vm.findClass RX2 = some m.cls := hown
  have hl : lv_has ls 2 [(0, .ref (L (1, 0, 0))), (1, .int (p))] := hl
  refine lv_iload_n hx hb dX2_has_0 rfl (lv_at hl 1 rfl) ?_
  refine kz_if_lt (X := (p).toInt) hx hb rfl dX2_has_1 (tgt := 16) (by decide) (fun c_1_1 => ?_) (fun c_1_1 => ?_)
  · refine lv_iconst (v := 0) hx hb dX2_has_16 (by decide) ?_
    exact s_zret hx hb hr hlk hG hS dX2_has_17 rfl (by unfold g_b; (repeat' split) <;> first | rfl | (exfalso; omega)) rfl
  · refine lv_iload_n hx hb dX2_has_4 rfl (lv_at hl 1 rfl) ?_
    refine lv_aload_n hx hb dX2_has_5 rfl (lv_at hl 0 rfl) ?_
    refine g_get (C := RX2) (T := TX2) (N := 3) (v := .int (σ (1, 0, 0) 2)) hx hb hts inX2g hown hK hG (1, 0, 0) ⟨rfl, rfl⟩ (x_at_1 cy L ns kk (0) (0) (σ (1, 0, 0))) rfl 2 (by decide) fl_X2_20 rfl dX2_has_6 ?_
    refine kz_icmp_ge (X := (p).toInt) (Y := (σ (1, 0, 0) 2).toInt) hx hb rfl rfl dX2_has_9 (tgt := 16) (by decide) (fun c_9_2 => ?_) (fun c_9_2 => ?_)
    · refine lv_iconst (v := 0) hx hb dX2_has_16 (by decide) ?_
      exact s_zret hx hb hr hlk hG hS dX2_has_17 rfl (by unfold g_b; (repeat' split) <;> first | rfl | (exfalso; omega)) rfl
    · refine lv_iconst (v := 1) hx hb dX2_has_12 (by decide) ?_
      refine lv_goto (tgt := 17) hx hb dX2_has_13 (by decide) ?_
      exact s_zret hx hb hr hlk hG hS dX2_has_17 rfl (by unfold g_b; (repeat' split) <;> first | rfl | (exfalso; omega)) rfl
set_option maxHeartbeats 4000000 in
set_option maxRecDepth 100000 in
theorem c_X2_bytesOf (l : Launch) (D : va_G) (cy : Nat → ClassId) (L : g_S → Nat) (ns : Nat) (kk : Nat → Nat) (σ : g_S → Nat → Int32) (p : Int32) (hn : (σ (1, 0, 0) 2).toInt ≤ 100) : x_Met l D cy L ns kk yX2_bytesOf (.code yX2_bytesOf cX2_bytesOf 2 (some .int)) 1 σ [.ref (L (1, 0, 0)), .int (p)] (some (.int (x_bytesOf σ p))) σ := by
  refine g_Met.of (by decide) (Nat.le_of_ble_eq_true rfl) ?_
  intro pg e s m below meth c hx hb hr hlk hml hown hts hK hN H locs hG hS ls hl
  have hown : s.vm.findClass RX2 = some m.cls := hown
  have hl : lv_has ls 2 [(0, .ref (L (1, 0, 0))), (1, .int (p))] := hl
  refine lv_aload_n hx hb dX2_bytesOf_0 rfl (lv_at hl 0 rfl) ?_
  refine lv_iload_n hx hb dX2_bytesOf_1 rfl (lv_at hl 1 rfl) ?_
  refine g_cont (va_runV (As := [.int (p)]) (rest := []) ⟨hx, hb, hml, hown, hts⟩ (c_X2_has l D cy L ns kk σ (p)) (cwV 1 hts gV_X2_24 rfl rfl rfl (by decide +kernel) ⟨Nat.le_of_ble_eq_true rfl, Nat.le_of_ble_eq_true rfl⟩) (g_preV hK hN hG (x := (1, 0, 0)) ⟨rfl, rfl⟩ (q := (RX2, TX2, 3)) (x_at_1 cy L ns kk (0) (0) (σ (1, 0, 0))) rfl) rfl rfl hl.1 rfl (lv_room (Nat.le_of_ble_eq_true rfl)) dX2_bytesOf_2 ⟨Nat.zero_le _, Nat.zero_le _⟩) hS (fun H locs hG hS => ?_)
  refine W.eq (g2 := F0 m 5 ls [.int (g_b (0 ≤ (p).toInt ∧ (p).toInt < (σ (1, 0, 0) 2).toInt))]) rfl ?_
  refine kz_b_eq (tgt := 17) hx hb dX2_bytesOf_5 (by decide) (fun c_5_1 => ?_) (fun c_5_1 => ?_)
  · refine lv_iconst (v := 0) hx hb dX2_bytesOf_17 (by decide) ?_
    exact s_iret hx hb hr hlk hG hS dX2_bytesOf_18 (by unfold x_bytesOf; (repeat' split) <;> first | rfl | (exfalso; omega)) rfl
  · refine lv_aload_n hx hb dX2_bytesOf_8 rfl (lv_at hl 0 rfl) ?_
    refine g_get (C := RX2) (T := TX2) (N := 3) (v := .ref (L (3, 0, 0))) hx hb hts inX2g hown hK hG (1, 0, 0) ⟨rfl, rfl⟩ (x_at_1 cy L ns kk (0) (0) (σ (1, 0, 0))) rfl 0 (by decide) fl_X2_9 rfl dX2_bytesOf_9 ?_
    refine lv_iload_n hx hb dX2_bytesOf_12 rfl (lv_at hl 1 rfl) ?_
    refine g_iald (n := 100) hx hb hK hG (3, 0, 0) ⟨rfl, rfl⟩ 0 rfl rfl (g_vp (by omega) (by omega)) dX2_bytesOf_13 ?_
    refine lv_goto (tgt := 18) hx hb dX2_bytesOf_14 (by decide) ?_
    exact s_iret hx hb hr hlk hG hS dX2_bytesOf_18 (by unfold x_bytesOf; (repeat' split) <;> first | rfl | (exfalso; omega)) rfl
set_option maxHeartbeats 4000000 in
set_option maxRecDepth 100000 in
theorem c_X2_termOf (l : Launch) (D : va_G) (cy : Nat → ClassId) (L : g_S → Nat) (ns : Nat) (kk : Nat → Nat) (σ : g_S → Nat → Int32) (p x : Int32) (hn : (σ (1, 0, 0) 2).toInt ≤ 100) : x_Met l D cy L ns kk yX2_termOf (.code yX2_termOf cX2_termOf 3 (some .int)) 1 σ [.ref (L (1, 0, 0)), .int (p), .int (x)] (some (.int (x_termOf σ p x))) σ := by
  refine g_Met.of (by decide) (Nat.le_of_ble_eq_true rfl) ?_
  intro pg e s m below meth c hx hb hr hlk hml hown hts hK hN H locs hG hS ls hl
  have hown : s.vm.findClass RX2 = some m.cls := hown
  have hl : lv_has ls 3 [(0, .ref (L (1, 0, 0))), (1, .int (p)), (2, .int (x))] := hl
  refine lv_aload_n hx hb dX2_termOf_0 rfl (lv_at hl 0 rfl) ?_
  refine lv_iload_n hx hb dX2_termOf_1 rfl (lv_at hl 1 rfl) ?_
  refine g_cont (va_runV (As := [.int (p)]) (rest := []) ⟨hx, hb, hml, hown, hts⟩ (c_X2_has l D cy L ns kk σ (p)) (cwV 1 hts gV_X2_24 rfl rfl rfl (by decide +kernel) ⟨Nat.le_of_ble_eq_true rfl, Nat.le_of_ble_eq_true rfl⟩) (g_preV hK hN hG (x := (1, 0, 0)) ⟨rfl, rfl⟩ (q := (RX2, TX2, 3)) (x_at_1 cy L ns kk (0) (0) (σ (1, 0, 0))) rfl) rfl rfl hl.1 rfl (lv_room (Nat.le_of_ble_eq_true rfl)) dX2_termOf_2 ⟨Nat.zero_le _, Nat.zero_le _⟩) hS (fun H locs hG hS => ?_)
  refine W.eq (g2 := F0 m 5 ls [.int (g_b (0 ≤ (p).toInt ∧ (p).toInt < (σ (1, 0, 0) 2).toInt))]) rfl ?_
  refine kz_b_eq (tgt := 26) hx hb dX2_termOf_5 (by decide) (fun c_5_1 => ?_) (fun c_5_1 => ?_)
  · refine lv_iconst (v := (-1)) hx hb dX2_termOf_26 (by decide) ?_
    exact s_iret hx hb hr hlk hG hS dX2_termOf_27 (by unfold x_termOf; (repeat' split) <;> first | rfl | (exfalso; omega)) rfl
  · refine lv_iload_n hx hb dX2_termOf_8 rfl (lv_at hl 2 rfl) ?_
    refine g_cont (va_runSN (As := [.int (x)]) (rest := []) ⟨hx, hb, hml, hown, hts⟩ (c_X6_isIndex l D cy L ns kk σ (x)) ⟨va_cnB 1 hts (g_good cwd_X6_isIndex) rfl rfl rfl hN.1.1 (hts _ ini_X6) (by decide +kernel) ⟨Nat.le_of_ble_eq_true rfl, Nat.le_of_ble_eq_true rfl⟩, hts _ st_isIndex, trivial⟩ (g_preS hK hN hG) rfl rfl hl.1 rfl (lv_room (Nat.le_of_ble_eq_true rfl)) dX2_termOf_9 ⟨Nat.zero_le _, Nat.zero_le _⟩) hS (fun H locs hG hS => ?_)
    refine W.eq (g2 := F0 m 12 ls [.int (g_b (0 ≤ (x).toInt ∧ (x).toInt < 5))]) rfl ?_
    refine kz_b_eq (tgt := 26) hx hb dX2_termOf_12 (by decide) (fun c_12_2 => ?_) (fun c_12_2 => ?_)
    · refine lv_iconst (v := (-1)) hx hb dX2_termOf_26 (by decide) ?_
      exact s_iret hx hb hr hlk hG hS dX2_termOf_27 (by unfold x_termOf; (repeat' split) <;> first | rfl | (exfalso; omega)) rfl
    · refine lv_aload_n hx hb dX2_termOf_15 rfl (lv_at hl 0 rfl) ?_
      refine g_get (C := RX2) (T := TX2) (N := 3) (v := .ref (L (4, 0, 0))) hx hb hts inX2g hown hK hG (1, 0, 0) ⟨rfl, rfl⟩ (x_at_1 cy L ns kk (0) (0) (σ (1, 0, 0))) rfl 1 (by decide) fl_X2_17 rfl dX2_termOf_16 ?_
      refine lv_iload_n hx hb dX2_termOf_19 rfl (lv_at hl 2 rfl) ?_
      refine g_aald (n := 5) (v := .ref (L (10, (x).toNatClampNeg, 0))) hx hb hK hG (4, 0, 0) ⟨rfl, rfl⟩ 1 rfl rfl rfl (g_vp (by omega) (by omega)) rfl dX2_termOf_20 ?_
      refine lv_iload_n hx hb dX2_termOf_21 rfl (lv_at hl 1 rfl) ?_
      refine g_iald (n := 100) hx hb hK hG (10, (x).toNatClampNeg, 0) ⟨(by rw [g_cl]; omega), rfl⟩ 0 rfl rfl (g_vp (by omega) (by omega)) dX2_termOf_22 ?_
      refine lv_goto (tgt := 27) hx hb dX2_termOf_23 (by decide) ?_
      exact s_iret hx hb hr hlk hG hS dX2_termOf_27 (by unfold x_termOf; (repeat' split) <;> first | rfl | (exfalso; omega)) rfl
end
section
/-! the class: records added, terms put, terms sought -/
def x_addR (σ : g_S → Nat → Int32) (size : Int32) : Int32 := if size.toInt < 1 ∨ 200 < size.toInt ∨ 100 ≤ (σ (1, 0, 0) 2).toInt then -1 else (σ (1, 0, 0) 2) + 1 - 1
def x_addM (σ : g_S → Nat → Int32) (size : Int32) : g_S → Nat → Int32 := if size.toInt < 1 ∨ 200 < size.toInt ∨ 100 ≤ (σ (1, 0, 0) 2).toInt then σ else
  g_up (g_up (g_up (g_up (g_up (g_up (g_up σ (3, 0, 0) (σ (1, 0, 0) 2).toNatClampNeg size) (10, 0, 0) (σ (1, 0, 0) 2).toNatClampNeg (-1)) (10, 1, 0) (σ (1, 0, 0) 2).toNatClampNeg (-1)) (10, 2, 0) (σ (1, 0, 0) 2).toNatClampNeg (-1)) (10, 3, 0) (σ (1, 0, 0) 2).toNatClampNeg (-1)) (10, 4, 0) (σ (1, 0, 0) 2).toNatClampNeg (-1)) (1, 0, 0) 2 (σ (1, 0, 0) 2 + 1)
def x_putP (σ : g_S → Nat → Int32) (p x v : Int32) : Prop := (0 ≤ p.toInt ∧ p.toInt < (σ (1, 0, 0) 2).toInt) ∧ (0 ≤ x.toInt ∧ x.toInt < 5) ∧ (v.toInt = -1 ∨ (0 ≤ v.toInt ∧ v.toInt ≤ 999))
def x_putM (σ : g_S → Nat → Int32) (p x v : Int32) : g_S → Nat → Int32 := if (0 ≤ p.toInt ∧ p.toInt < (σ (1, 0, 0) 2).toInt) ∧ (0 ≤ x.toInt ∧ x.toInt < 5) ∧ (v.toInt = -1 ∨ (0 ≤ v.toInt ∧ v.toInt ≤ 999)) then g_up σ (10, x.toNatClampNeg, 0) p.toNatClampNeg v else σ
def x_leastGo (σ : g_S → Nat → Int32) (x low : Int32) : Nat → Nat → Int32 → Int32
  | 0, _, acc => acc
  | n + 1, r, acc => x_leastGo σ x low n (r + 1) (if low.toInt ≤ (x_termOf σ (nI r) x).toInt ∧ (acc.toInt = -1 ∨ (x_termOf σ (nI r) x).toInt < acc.toInt) then x_termOf σ (nI r) x else acc)
theorem x_leastGo_s (σ : g_S → Nat → Int32) (x low : Int32) (n r : Nat) (acc : Int32) : x_leastGo σ x low (n + 1) r acc = x_leastGo σ x low n (r + 1) (if low.toInt ≤ (x_termOf σ (nI r) x).toInt ∧ (acc.toInt = -1 ∨ (x_termOf σ (nI r) x).toInt < acc.toInt) then x_termOf σ (nI r) x else acc) := rfl
def x_least (σ : g_S → Nat → Int32) (x low : Int32) : Int32 := x_leastGo σ x low (σ (1, 0, 0) 2).toInt.toNat 0 (-1)
def x_greatGo (σ : g_S → Nat → Int32) (x high : Int32) : Nat → Nat → Int32 → Int32
  | 0, _, acc => acc
  | n + 1, r, acc => x_greatGo σ x high n (r + 1) (if (x_termOf σ (nI r) x).toInt < high.toInt ∧ acc.toInt < (x_termOf σ (nI r) x).toInt then x_termOf σ (nI r) x else acc)
theorem x_greatGo_s (σ : g_S → Nat → Int32) (x high : Int32) (n r : Nat) (acc : Int32) : x_greatGo σ x high (n + 1) r acc = x_greatGo σ x high n (r + 1) (if (x_termOf σ (nI r) x).toInt < high.toInt ∧ acc.toInt < (x_termOf σ (nI r) x).toInt then x_termOf σ (nI r) x else acc) := rfl
def x_great (σ : g_S → Nat → Int32) (x high : Int32) : Int32 := x_greatGo σ x high (σ (1, 0, 0) 2).toInt.toNat 0 (-1)
def x_cntGo (σ : g_S → Nat → Int32) (x t : Int32) : Nat → Nat → Int32 → Int32
  | 0, _, acc => acc
  | n + 1, r, acc => x_cntGo σ x t n (r + 1) (if (x_termOf σ (nI r) x).toInt = t.toInt then acc + 1 else acc)
theorem x_cntGo_s (σ : g_S → Nat → Int32) (x t : Int32) (n r : Nat) (acc : Int32) : x_cntGo σ x t (n + 1) r acc = x_cntGo σ x t n (r + 1) (if (x_termOf σ (nI r) x).toInt = t.toInt then acc + 1 else acc) := rfl
def x_cnt (σ : g_S → Nat → Int32) (x t : Int32) : Int32 := x_cntGo σ x t (σ (1, 0, 0) 2).toInt.toNat 0 0
set_option maxHeartbeats 4000000 in
set_option maxRecDepth 100000 in
theorem c_X2_add (l : Launch) (D : va_G) (cy : Nat → ClassId) (L : g_S → Nat) (ns : Nat) (kk : Nat → Nat) (σ : g_S → Nat → Int32) (size : Int32) (h0 : 0 ≤ (σ (1, 0, 0) 2).toInt) (hn : (σ (1, 0, 0) 2).toInt ≤ 100) : x_Met l D cy L ns kk yX2_add (.code yX2_add cX2_add 3 (some .int)) 0 σ [.ref (L (1, 0, 0)), .int (size)] (some (.int (x_addR σ size))) (x_addM σ size) := by
  refine g_Met.of (by decide) (Nat.le_of_ble_eq_true rfl) ?_
  intro pg e s m below meth c hx hb hr hlk hml hown hts hK hN H locs hG hS ls hl
  have hown : s.vm.findClass RX2 = some m.cls := hown
  have hl : lv_has ls 3 [(0, .ref (L (1, 0, 0))), (1, .int (size))] := hl
  refine lv_iload_n hx hb dX2_add_0 rfl (lv_at hl 1 rfl) ?_
  refine lv_iconst (v := 1) hx hb dX2_add_1 (by decide) ?_
  refine kz_icmp_lt (X := (size).toInt) (Y := 1) hx hb rfl (by decide) dX2_add_2 (tgt := 21) (by decide) (fun c_2_1 => ?_) (fun c_2_1 => ?_)
  · refine lv_iconst (v := (-1)) hx hb dX2_add_21 (by decide) ?_
    exact s_iret hx hb hr hlk hG hS dX2_add_22 (by unfold x_addR; (repeat' split) <;> first | rfl | (exfalso; omega)) (by unfold x_addM; (repeat' split) <;> first | rfl | (exfalso; omega))
  · refine lv_iload_n hx hb dX2_add_5 rfl (lv_at hl 1 rfl) ?_
    refine lv_sipush (v := 200) hx hb dX2_add_6 (by decide) ?_
    refine kz_icmp_gt (X := (size).toInt) (Y := 200) hx hb rfl (by decide) dX2_add_9 (tgt := 21) (by decide) (fun c_9_2 => ?_) (fun c_9_2 => ?_)
    · refine lv_iconst (v := (-1)) hx hb dX2_add_21 (by decide) ?_
      exact s_iret hx hb hr hlk hG hS dX2_add_22 (by unfold x_addR; (repeat' split) <;> first | rfl | (exfalso; omega)) (by unfold x_addM; (repeat' split) <;> first | rfl | (exfalso; omega))
    · refine lv_aload_n hx hb dX2_add_12 rfl (lv_at hl 0 rfl) ?_
      refine g_get (C := RX2) (T := TX2) (N := 3) (v := .int (σ (1, 0, 0) 2)) hx hb hts inX2g hown hK hG (1, 0, 0) ⟨rfl, rfl⟩ (x_at_1 cy L ns kk (0) (0) (σ (1, 0, 0))) rfl 2 (by decide) fl_X2_20 rfl dX2_add_13 ?_
      refine lv_bipush (v := 100) hx hb dX2_add_16 (by decide) ?_
      refine kz_icmp_lt (X := (σ (1, 0, 0) 2).toInt) (Y := 100) hx hb rfl (by decide) dX2_add_18 (tgt := 23) (by decide) (fun c_18_3 => ?_) (fun c_18_3 => ?_)
      · refine lv_aload_n hx hb dX2_add_23 rfl (lv_at hl 0 rfl) ?_
        refine g_get (C := RX2) (T := TX2) (N := 3) (v := .ref (L (3, 0, 0))) hx hb hts inX2g hown hK hG (1, 0, 0) ⟨rfl, rfl⟩ (x_at_1 cy L ns kk (0) (0) (σ (1, 0, 0))) rfl 0 (by decide) fl_X2_9 rfl dX2_add_24 ?_
        refine lv_aload_n hx hb dX2_add_27 rfl (lv_at hl 0 rfl) ?_
        refine g_get (C := RX2) (T := TX2) (N := 3) (v := .int (σ (1, 0, 0) 2)) hx hb hts inX2g hown hK hG (1, 0, 0) ⟨rfl, rfl⟩ (x_at_1 cy L ns kk (0) (0) (σ (1, 0, 0))) rfl 2 (by decide) fl_X2_20 rfl dX2_add_28 ?_
        refine lv_iload_n hx hb dX2_add_31 rfl (lv_at hl 1 rfl) ?_
        refine g_iast (n := 100) hx hb hK hG hS (3, 0, 0) ⟨rfl, rfl⟩ 0 (fun _ => rfl) rfl (g_vp (by omega) (by omega)) dX2_add_32 (fun H locs hG hS => ?_)
        refine lv_iconst (v := 0) hx hb dX2_add_33 (by decide) ?_
        refine lv_istore_n (lv' := [(2, .int 0), (0, .ref (L (1, 0, 0))), (1, .int (size))]) hx hb dX2_add_34 rfl hl (by decide) rfl (fun ls hl => ?_)
        refine lv_iload_n hx hb dX2_add_35 rfl (lv_at hl 0 rfl) ?_
        refine lv_iconst (v := 5) hx hb dX2_add_36 (by decide) ?_
        refine kz_icmp_ge (X := 0) (Y := 5) hx hb (by decide) (by decide) dX2_add_37 (tgt := 58) (by decide) (fun c_37_4 => ?_) (fun c_37_4 => ?_)
        · exact absurd c_37_4 (by decide)
        · refine lv_aload_n hx hb dX2_add_40 rfl (lv_at hl 1 rfl) ?_
          refine g_get (C := RX2) (T := TX2) (N := 3) (v := .ref (L (4, 0, 0))) hx hb hts inX2g hown hK hG (1, 0, 0) ⟨rfl, rfl⟩ (x_at_1 cy L ns kk (0) (0) ((g_up σ (3, 0, 0) ((σ (1, 0, 0) 2).toNatClampNeg) (size)) (1, 0, 0))) rfl 1 (by decide) fl_X2_17 rfl dX2_add_41 ?_
          refine lv_iload_n hx hb dX2_add_44 rfl (lv_at hl 0 rfl) ?_
          refine g_aald (n := 5) (v := .ref (L (10, 0, 0))) hx hb hK hG (4, 0, 0) ⟨rfl, rfl⟩ 1 rfl rfl rfl (g_vp (by decide) (by decide)) rfl dX2_add_45 ?_
          refine lv_aload_n hx hb dX2_add_46 rfl (lv_at hl 1 rfl) ?_
          refine g_get (C := RX2) (T := TX2) (N := 3) (v := .int (σ (1, 0, 0) 2)) hx hb hts inX2g hown hK hG (1, 0, 0) ⟨rfl, rfl⟩ (x_at_1 cy L ns kk (0) (0) ((g_up σ (3, 0, 0) ((σ (1, 0, 0) 2).toNatClampNeg) (size)) (1, 0, 0))) rfl 2 (by decide) fl_X2_20 rfl dX2_add_47 ?_
          refine lv_iconst (v := (-1)) hx hb dX2_add_50 (by decide) ?_
          refine g_iast (n := 100) hx hb hK hG hS (10, 0, 0) ⟨(by decide), rfl⟩ 0 (fun _ => rfl) rfl (g_vp (by omega) (by omega)) dX2_add_51 (fun H locs hG hS => ?_)
          refine lv_iinc (v := 1) (lv' := [(2, .int 1), (0, .ref (L (1, 0, 0))), (1, .int (size))]) hx hb dX2_add_52 hl (k := 0) rfl (by decide) (by decide) rfl (fun ls hl => ?_)
          refine lv_goto (tgt := 35) hx hb dX2_add_55 (by decide) ?_
          refine lv_iload_n hx hb dX2_add_35 rfl (lv_at hl 0 rfl) ?_
          refine lv_iconst (v := 5) hx hb dX2_add_36 (by decide) ?_
          refine kz_icmp_ge (X := 1) (Y := 5) hx hb (by decide) (by decide) dX2_add_37 (tgt := 58) (by decide) (fun c_37_5 => ?_) (fun c_37_5 => ?_)
          · exact absurd c_37_5 (by decide)
          · refine lv_aload_n hx hb dX2_add_40 rfl (lv_at hl 1 rfl) ?_
            refine g_get (C := RX2) (T := TX2) (N := 3) (v := .ref (L (4, 0, 0))) hx hb hts inX2g hown hK hG (1, 0, 0) ⟨rfl, rfl⟩ (x_at_1 cy L ns kk (0) (0) ((g_up (g_up σ (3, 0, 0) ((σ (1, 0, 0) 2).toNatClampNeg) (size)) (10, 0, 0) ((σ (1, 0, 0) 2).toNatClampNeg) ((-1))) (1, 0, 0))) rfl 1 (by decide) fl_X2_17 rfl dX2_add_41 ?_
            refine lv_iload_n hx hb dX2_add_44 rfl (lv_at hl 0 rfl) ?_
            refine g_aald (n := 5) (v := .ref (L (10, 1, 0))) hx hb hK hG (4, 0, 0) ⟨rfl, rfl⟩ 1 rfl rfl rfl (g_vp (by decide) (by decide)) rfl dX2_add_45 ?_
            refine lv_aload_n hx hb dX2_add_46 rfl (lv_at hl 1 rfl) ?_
            refine g_get (C := RX2) (T := TX2) (N := 3) (v := .int (σ (1, 0, 0) 2)) hx hb hts inX2g hown hK hG (1, 0, 0) ⟨rfl, rfl⟩ (x_at_1 cy L ns kk (0) (0) ((g_up (g_up σ (3, 0, 0) ((σ (1, 0, 0) 2).toNatClampNeg) (size)) (10, 0, 0) ((σ (1, 0, 0) 2).toNatClampNeg) ((-1))) (1, 0, 0))) rfl 2 (by decide) fl_X2_20 rfl dX2_add_47 ?_
            refine lv_iconst (v := (-1)) hx hb dX2_add_50 (by decide) ?_
            refine g_iast (n := 100) hx hb hK hG hS (10, 1, 0) ⟨(by decide), rfl⟩ 0 (fun _ => rfl) rfl (g_vp (by omega) (by omega)) dX2_add_51 (fun H locs hG hS => ?_)
            refine lv_iinc (v := 2) (lv' := [(2, .int 2), (0, .ref (L (1, 0, 0))), (1, .int (size))]) hx hb dX2_add_52 hl (k := 0) rfl (by decide) (by decide) rfl (fun ls hl => ?_)
            refine lv_goto (tgt := 35) hx hb dX2_add_55 (by decide) ?_
            refine lv_iload_n hx hb dX2_add_35 rfl (lv_at hl 0 rfl) ?_
            refine lv_iconst (v := 5) hx hb dX2_add_36 (by decide) ?_
            refine kz_icmp_ge (X := 2) (Y := 5) hx hb (by decide) (by decide) dX2_add_37 (tgt := 58) (by decide) (fun c_37_6 => ?_) (fun c_37_6 => ?_)
            · exact absurd c_37_6 (by decide)
            · refine lv_aload_n hx hb dX2_add_40 rfl (lv_at hl 1 rfl) ?_
              refine g_get (C := RX2) (T := TX2) (N := 3) (v := .ref (L (4, 0, 0))) hx hb hts inX2g hown hK hG (1, 0, 0) ⟨rfl, rfl⟩ (x_at_1 cy L ns kk (0) (0) ((g_up (g_up (g_up σ (3, 0, 0) ((σ (1, 0, 0) 2).toNatClampNeg) (size)) (10, 0, 0) ((σ (1, 0, 0) 2).toNatClampNeg) ((-1))) (10, 1, 0) ((σ (1, 0, 0) 2).toNatClampNeg) ((-1))) (1, 0, 0))) rfl 1 (by decide) fl_X2_17 rfl dX2_add_41 ?_
              refine lv_iload_n hx hb dX2_add_44 rfl (lv_at hl 0 rfl) ?_
              refine g_aald (n := 5) (v := .ref (L (10, 2, 0))) hx hb hK hG (4, 0, 0) ⟨rfl, rfl⟩ 1 rfl rfl rfl (g_vp (by decide) (by decide)) rfl dX2_add_45 ?_
              refine lv_aload_n hx hb dX2_add_46 rfl (lv_at hl 1 rfl) ?_
              refine g_get (C := RX2) (T := TX2) (N := 3) (v := .int (σ (1, 0, 0) 2)) hx hb hts inX2g hown hK hG (1, 0, 0) ⟨rfl, rfl⟩ (x_at_1 cy L ns kk (0) (0) ((g_up (g_up (g_up σ (3, 0, 0) ((σ (1, 0, 0) 2).toNatClampNeg) (size)) (10, 0, 0) ((σ (1, 0, 0) 2).toNatClampNeg) ((-1))) (10, 1, 0) ((σ (1, 0, 0) 2).toNatClampNeg) ((-1))) (1, 0, 0))) rfl 2 (by decide) fl_X2_20 rfl dX2_add_47 ?_
              refine lv_iconst (v := (-1)) hx hb dX2_add_50 (by decide) ?_
              refine g_iast (n := 100) hx hb hK hG hS (10, 2, 0) ⟨(by decide), rfl⟩ 0 (fun _ => rfl) rfl (g_vp (by omega) (by omega)) dX2_add_51 (fun H locs hG hS => ?_)
              refine lv_iinc (v := 3) (lv' := [(2, .int 3), (0, .ref (L (1, 0, 0))), (1, .int (size))]) hx hb dX2_add_52 hl (k := 0) rfl (by decide) (by decide) rfl (fun ls hl => ?_)
              refine lv_goto (tgt := 35) hx hb dX2_add_55 (by decide) ?_
              refine lv_iload_n hx hb dX2_add_35 rfl (lv_at hl 0 rfl) ?_
              refine lv_iconst (v := 5) hx hb dX2_add_36 (by decide) ?_
              refine kz_icmp_ge (X := 3) (Y := 5) hx hb (by decide) (by decide) dX2_add_37 (tgt := 58) (by decide) (fun c_37_7 => ?_) (fun c_37_7 => ?_)
              · exact absurd c_37_7 (by decide)
              · refine lv_aload_n hx hb dX2_add_40 rfl (lv_at hl 1 rfl) ?_
                refine g_get (C := RX2) (T := TX2) (N := 3) (v := .ref (L (4, 0, 0))) hx hb hts inX2g hown hK hG (1, 0, 0) ⟨rfl, rfl⟩ (x_at_1 cy L ns kk (0) (0) ((g_up (g_up (g_up (g_up σ (3, 0, 0) ((σ (1, 0, 0) 2).toNatClampNeg) (size)) (10, 0, 0) ((σ (1, 0, 0) 2).toNatClampNeg) ((-1))) (10, 1, 0) ((σ (1, 0, 0) 2).toNatClampNeg) ((-1))) (10, 2, 0) ((σ (1, 0, 0) 2).toNatClampNeg) ((-1))) (1, 0, 0))) rfl 1 (by decide) fl_X2_17 rfl dX2_add_41 ?_
                refine lv_iload_n hx hb dX2_add_44 rfl (lv_at hl 0 rfl) ?_
                refine g_aald (n := 5) (v := .ref (L (10, 3, 0))) hx hb hK hG (4, 0, 0) ⟨rfl, rfl⟩ 1 rfl rfl rfl (g_vp (by decide) (by decide)) rfl dX2_add_45 ?_
                refine lv_aload_n hx hb dX2_add_46 rfl (lv_at hl 1 rfl) ?_
                refine g_get (C := RX2) (T := TX2) (N := 3) (v := .int (σ (1, 0, 0) 2)) hx hb hts inX2g hown hK hG (1, 0, 0) ⟨rfl, rfl⟩ (x_at_1 cy L ns kk (0) (0) ((g_up (g_up (g_up (g_up σ (3, 0, 0) ((σ (1, 0, 0) 2).toNatClampNeg) (size)) (10, 0, 0) ((σ (1, 0, 0) 2).toNatClampNeg) ((-1))) (10, 1, 0) ((σ (1, 0, 0) 2).toNatClampNeg) ((-1))) (10, 2, 0) ((σ (1, 0, 0) 2).toNatClampNeg) ((-1))) (1, 0, 0))) rfl 2 (by decide) fl_X2_20 rfl dX2_add_47 ?_
                refine lv_iconst (v := (-1)) hx hb dX2_add_50 (by decide) ?_
                refine g_iast (n := 100) hx hb hK hG hS (10, 3, 0) ⟨(by decide), rfl⟩ 0 (fun _ => rfl) rfl (g_vp (by omega) (by omega)) dX2_add_51 (fun H locs hG hS => ?_)
                refine lv_iinc (v := 4) (lv' := [(2, .int 4), (0, .ref (L (1, 0, 0))), (1, .int (size))]) hx hb dX2_add_52 hl (k := 0) rfl (by decide) (by decide) rfl (fun ls hl => ?_)
                refine lv_goto (tgt := 35) hx hb dX2_add_55 (by decide) ?_
                refine lv_iload_n hx hb dX2_add_35 rfl (lv_at hl 0 rfl) ?_
                refine lv_iconst (v := 5) hx hb dX2_add_36 (by decide) ?_
                refine kz_icmp_ge (X := 4) (Y := 5) hx hb (by decide) (by decide) dX2_add_37 (tgt := 58) (by decide) (fun c_37_8 => ?_) (fun c_37_8 => ?_)
                · exact absurd c_37_8 (by decide)
                · refine lv_aload_n hx hb dX2_add_40 rfl (lv_at hl 1 rfl) ?_
                  refine g_get (C := RX2) (T := TX2) (N := 3) (v := .ref (L (4, 0, 0))) hx hb hts inX2g hown hK hG (1, 0, 0) ⟨rfl, rfl⟩ (x_at_1 cy L ns kk (0) (0) ((g_up (g_up (g_up (g_up (g_up σ (3, 0, 0) ((σ (1, 0, 0) 2).toNatClampNeg) (size)) (10, 0, 0) ((σ (1, 0, 0) 2).toNatClampNeg) ((-1))) (10, 1, 0) ((σ (1, 0, 0) 2).toNatClampNeg) ((-1))) (10, 2, 0) ((σ (1, 0, 0) 2).toNatClampNeg) ((-1))) (10, 3, 0) ((σ (1, 0, 0) 2).toNatClampNeg) ((-1))) (1, 0, 0))) rfl 1 (by decide) fl_X2_17 rfl dX2_add_41 ?_
                  refine lv_iload_n hx hb dX2_add_44 rfl (lv_at hl 0 rfl) ?_
                  refine g_aald (n := 5) (v := .ref (L (10, 4, 0))) hx hb hK hG (4, 0, 0) ⟨rfl, rfl⟩ 1 rfl rfl rfl (g_vp (by decide) (by decide)) rfl dX2_add_45 ?_
                  refine lv_aload_n hx hb dX2_add_46 rfl (lv_at hl 1 rfl) ?_
                  refine g_get (C := RX2) (T := TX2) (N := 3) (v := .int (σ (1, 0, 0) 2)) hx hb hts inX2g hown hK hG (1, 0, 0) ⟨rfl, rfl⟩ (x_at_1 cy L ns kk (0) (0) ((g_up (g_up (g_up (g_up (g_up σ (3, 0, 0) ((σ (1, 0, 0) 2).toNatClampNeg) (size)) (10, 0, 0) ((σ (1, 0, 0) 2).toNatClampNeg) ((-1))) (10, 1, 0) ((σ (1, 0, 0) 2).toNatClampNeg) ((-1))) (10, 2, 0) ((σ (1, 0, 0) 2).toNatClampNeg) ((-1))) (10, 3, 0) ((σ (1, 0, 0) 2).toNatClampNeg) ((-1))) (1, 0, 0))) rfl 2 (by decide) fl_X2_20 rfl dX2_add_47 ?_
                  refine lv_iconst (v := (-1)) hx hb dX2_add_50 (by decide) ?_
                  refine g_iast (n := 100) hx hb hK hG hS (10, 4, 0) ⟨(by decide), rfl⟩ 0 (fun _ => rfl) rfl (g_vp (by omega) (by omega)) dX2_add_51 (fun H locs hG hS => ?_)
                  refine lv_iinc (v := 5) (lv' := [(2, .int 5), (0, .ref (L (1, 0, 0))), (1, .int (size))]) hx hb dX2_add_52 hl (k := 0) rfl (by decide) (by decide) rfl (fun ls hl => ?_)
                  refine lv_goto (tgt := 35) hx hb dX2_add_55 (by decide) ?_
                  refine lv_iload_n hx hb dX2_add_35 rfl (lv_at hl 0 rfl) ?_
                  refine lv_iconst (v := 5) hx hb dX2_add_36 (by decide) ?_
                  refine kz_icmp_ge (X := 5) (Y := 5) hx hb (by decide) (by decide) dX2_add_37 (tgt := 58) (by decide) (fun c_37_9 => ?_) (fun c_37_9 => ?_)
                  · refine lv_aload_n hx hb dX2_add_58 rfl (lv_at hl 1 rfl) ?_
                    refine lv_dup hx hb dX2_add_59 rfl ?_
                    refine g_get (C := RX2) (T := TX2) (N := 3) (v := .int (σ (1, 0, 0) 2)) hx hb hts inX2g hown hK hG (1, 0, 0) ⟨rfl, rfl⟩ (x_at_1 cy L ns kk (0) (0) ((g_up (g_up (g_up (g_up (g_up (g_up σ (3, 0, 0) ((σ (1, 0, 0) 2).toNatClampNeg) (size)) (10, 0, 0) ((σ (1, 0, 0) 2).toNatClampNeg) ((-1))) (10, 1, 0) ((σ (1, 0, 0) 2).toNatClampNeg) ((-1))) (10, 2, 0) ((σ (1, 0, 0) 2).toNatClampNeg) ((-1))) (10, 3, 0) ((σ (1, 0, 0) 2).toNatClampNeg) ((-1))) (10, 4, 0) ((σ (1, 0, 0) 2).toNatClampNeg) ((-1))) (1, 0, 0))) rfl 2 (by decide) fl_X2_20 rfl dX2_add_60 ?_
                    refine lv_iconst (v := 1) hx hb dX2_add_63 (by decide) ?_
                    refine lv_iadd hx hb dX2_add_64 ?_
                    refine g_puti (C := RX2) (T := TX2) (N := 3) (v := (σ (1, 0, 0) 2) + (1)) (ty := .int) hx hb hts inX2g tyX2_ok nmX2 hown hK hG hS (1, 0, 0) ⟨rfl, rfl⟩ (x_at_1 cy L ns kk (0) (0) ((g_up (g_up (g_up (g_up (g_up (g_up σ (3, 0, 0) ((σ (1, 0, 0) 2).toNatClampNeg) (size)) (10, 0, 0) ((σ (1, 0, 0) 2).toNatClampNeg) ((-1))) (10, 1, 0) ((σ (1, 0, 0) 2).toNatClampNeg) ((-1))) (10, 2, 0) ((σ (1, 0, 0) 2).toNatClampNeg) ((-1))) (10, 3, 0) ((σ (1, 0, 0) 2).toNatClampNeg) ((-1))) (10, 4, 0) ((σ (1, 0, 0) 2).toNatClampNeg) ((-1))) (1, 0, 0))) rfl 2 (by decide) (x_up_1_2 cy L ns kk (0) (0) ((g_up (g_up (g_up (g_up (g_up (g_up σ (3, 0, 0) ((σ (1, 0, 0) 2).toNatClampNeg) (size)) (10, 0, 0) ((σ (1, 0, 0) 2).toNatClampNeg) ((-1))) (10, 1, 0) ((σ (1, 0, 0) 2).toNatClampNeg) ((-1))) (10, 2, 0) ((σ (1, 0, 0) 2).toNatClampNeg) ((-1))) (10, 3, 0) ((σ (1, 0, 0) 2).toNatClampNeg) ((-1))) (10, 4, 0) ((σ (1, 0, 0) 2).toNatClampNeg) ((-1))) (1, 0, 0)) ((σ (1, 0, 0) 2) + (1))) fl_X2_20 rfl (by decide +kernel) rfl rfl (Nat.le_of_ble_eq_true rfl) dX2_add_65 (fun H locs hG hS => ?_)
                    refine lv_aload_n hx hb dX2_add_68 rfl (lv_at hl 1 rfl) ?_
                    refine g_get (C := RX2) (T := TX2) (N := 3) (v := .int ((σ (1, 0, 0) 2) + (1))) hx hb hts inX2g hown hK hG (1, 0, 0) ⟨rfl, rfl⟩ (x_at_1 cy L ns kk (0) (0) ((g_up (g_up (g_up (g_up (g_up (g_up (g_up σ (3, 0, 0) ((σ (1, 0, 0) 2).toNatClampNeg) (size)) (10, 0, 0) ((σ (1, 0, 0) 2).toNatClampNeg) ((-1))) (10, 1, 0) ((σ (1, 0, 0) 2).toNatClampNeg) ((-1))) (10, 2, 0) ((σ (1, 0, 0) 2).toNatClampNeg) ((-1))) (10, 3, 0) ((σ (1, 0, 0) 2).toNatClampNeg) ((-1))) (10, 4, 0) ((σ (1, 0, 0) 2).toNatClampNeg) ((-1))) (1, 0, 0) (2) ((σ (1, 0, 0) 2) + (1))) (1, 0, 0))) rfl 2 (by decide) fl_X2_20 rfl dX2_add_69 ?_
                    refine lv_iconst (v := 1) hx hb dX2_add_72 (by decide) ?_
                    refine lv_isub hx hb dX2_add_73 ?_
                    exact s_iret hx hb hr hlk hG hS dX2_add_74 (by unfold x_addR; (repeat' split) <;> first | rfl | (exfalso; omega)) (by unfold x_addM; (repeat' split) <;> first | rfl | (exfalso; omega))
                  · exact absurd c_37_9 (by decide)
      · refine lv_iconst (v := (-1)) hx hb dX2_add_21 (by decide) ?_
        exact s_iret hx hb hr hlk hG hS dX2_add_22 (by unfold x_addR; (repeat' split) <;> first | rfl | (exfalso; omega)) (by unfold x_addM; (repeat' split) <;> first | rfl | (exfalso; omega))
set_option maxHeartbeats 4000000 in
set_option maxRecDepth 100000 in
theorem c_X2_putTerm (l : Launch) (D : va_G) (cy : Nat → ClassId) (L : g_S → Nat) (ns : Nat) (kk : Nat → Nat) (σ : g_S → Nat → Int32) (p x v : Int32) (h0 : 0 ≤ (σ (1, 0, 0) 2).toInt) (hn : (σ (1, 0, 0) 2).toInt ≤ 100) : x_Met l D cy L ns kk yX2_putTerm (.code yX2_putTerm cX2_putTerm 4 (some .boolean)) 1 σ [.ref (L (1, 0, 0)), .int (p), .int (x), .int (v)] (some (.int (g_b ((0 ≤ p.toInt ∧ p.toInt < (σ (1, 0, 0) 2).toInt) ∧ (0 ≤ x.toInt ∧ x.toInt < 5) ∧ (v.toInt = -1 ∨ (0 ≤ v.toInt ∧ v.toInt ≤ 999)))))) (x_putM σ p x v) := by
  refine g_Met.of (by decide) (Nat.le_of_ble_eq_true rfl) ?_
  intro pg e s m below meth c hx hb hr hlk hml hown hts hK hN H locs hG hS ls hl
  have hown : s.vm.findClass RX2 = some m.cls := hown
  have hl : lv_has ls 4 [(0, .ref (L (1, 0, 0))), (1, .int (p)), (2, .int (x)), (3, .int (v))] := hl
  refine lv_aload_n hx hb dX2_putTerm_0 rfl (lv_at hl 0 rfl) ?_
  refine lv_iload_n hx hb dX2_putTerm_1 rfl (lv_at hl 1 rfl) ?_
  refine g_cont (va_runV (As := [.int (p)]) (rest := []) ⟨hx, hb, hml, hown, hts⟩ (c_X2_has l D cy L ns kk σ (p)) (cwV 1 hts gV_X2_24 rfl rfl rfl (by decide +kernel) ⟨Nat.le_of_ble_eq_true rfl, Nat.le_of_ble_eq_true rfl⟩) (g_preV hK hN hG (x := (1, 0, 0)) ⟨rfl, rfl⟩ (q := (RX2, TX2, 3)) (x_at_1 cy L ns kk (0) (0) (σ (1, 0, 0))) rfl) rfl rfl hl.1 rfl (lv_room (Nat.le_of_ble_eq_true rfl)) dX2_putTerm_2 ⟨Nat.zero_le _, Nat.zero_le _⟩) hS (fun H locs hG hS => ?_)
  refine W.eq (g2 := F0 m 5 ls [.int (g_b (0 ≤ (p).toInt ∧ (p).toInt < (σ (1, 0, 0) 2).toInt))]) rfl ?_
  refine kz_b_eq (tgt := 27) hx hb dX2_putTerm_5 (by decide) (fun c_5_1 => ?_) (fun c_5_1 => ?_)
  · refine lv_iconst (v := 0) hx hb dX2_putTerm_27 (by decide) ?_
    exact s_zret hx hb hr hlk hG hS dX2_putTerm_28 rfl (by unfold g_b; (repeat' split) <;> first | rfl | (exfalso; omega)) (by unfold x_putM; (repeat' split) <;> first | rfl | (exfalso; omega))
  · refine lv_iload_n hx hb dX2_putTerm_8 rfl (lv_at hl 2 rfl) ?_
    refine g_cont (va_runSN (As := [.int (x)]) (rest := []) ⟨hx, hb, hml, hown, hts⟩ (c_X6_isIndex l D cy L ns kk σ (x)) ⟨va_cnB 1 hts (g_good cwd_X6_isIndex) rfl rfl rfl hN.1.1 (hts _ ini_X6) (by decide +kernel) ⟨Nat.le_of_ble_eq_true rfl, Nat.le_of_ble_eq_true rfl⟩, hts _ st_isIndex, trivial⟩ (g_preS hK hN hG) rfl rfl hl.1 rfl (lv_room (Nat.le_of_ble_eq_true rfl)) dX2_putTerm_9 ⟨Nat.zero_le _, Nat.zero_le _⟩) hS (fun H locs hG hS => ?_)
    refine W.eq (g2 := F0 m 12 ls [.int (g_b (0 ≤ (x).toInt ∧ (x).toInt < 5))]) rfl ?_
    refine kz_b_eq (tgt := 27) hx hb dX2_putTerm_12 (by decide) (fun c_12_2 => ?_) (fun c_12_2 => ?_)
    · refine lv_iconst (v := 0) hx hb dX2_putTerm_27 (by decide) ?_
      exact s_zret hx hb hr hlk hG hS dX2_putTerm_28 rfl (by unfold g_b; (repeat' split) <;> first | rfl | (exfalso; omega)) (by unfold x_putM; (repeat' split) <;> first | rfl | (exfalso; omega))
    · refine lv_iload_n hx hb dX2_putTerm_15 rfl (lv_at hl 3 rfl) ?_
      refine lv_iconst (v := (-1)) hx hb dX2_putTerm_16 (by decide) ?_
      refine kz_icmp_eq (X := (v).toInt) (Y := (-1)) hx hb rfl (by decide) dX2_putTerm_17 (tgt := 29) (by decide) (fun c_17_3 => ?_) (fun c_17_3 => ?_)
      · refine lv_aload_n hx hb dX2_putTerm_29 rfl (lv_at hl 0 rfl) ?_
        refine g_get (C := RX2) (T := TX2) (N := 3) (v := .ref (L (4, 0, 0))) hx hb hts inX2g hown hK hG (1, 0, 0) ⟨rfl, rfl⟩ (x_at_1 cy L ns kk (0) (0) (σ (1, 0, 0))) rfl 1 (by decide) fl_X2_17 rfl dX2_putTerm_30 ?_
        refine lv_iload_n hx hb dX2_putTerm_33 rfl (lv_at hl 2 rfl) ?_
        refine g_aald (n := 5) (v := .ref (L (10, (x).toNatClampNeg, 0))) hx hb hK hG (4, 0, 0) ⟨rfl, rfl⟩ 1 rfl rfl rfl (g_vp (by omega) (by omega)) rfl dX2_putTerm_34 ?_
        refine lv_iload_n hx hb dX2_putTerm_35 rfl (lv_at hl 1 rfl) ?_
        refine lv_iload_n hx hb dX2_putTerm_36 rfl (lv_at hl 3 rfl) ?_
        refine g_iast (n := 100) hx hb hK hG hS (10, (x).toNatClampNeg, 0) ⟨(by rw [g_cl]; omega), rfl⟩ 0 (fun _ => rfl) rfl (g_vp (by omega) (by omega)) dX2_putTerm_37 (fun H locs hG hS => ?_)
        refine lv_iconst (v := 1) hx hb dX2_putTerm_38 (by decide) ?_
        exact s_zret hx hb hr hlk hG hS dX2_putTerm_39 rfl (by unfold g_b; (repeat' split) <;> first | rfl | (exfalso; omega)) (by unfold x_putM; (repeat' split) <;> first | rfl | (exfalso; omega))
      · refine lv_iload_n hx hb dX2_putTerm_20 rfl (lv_at hl 3 rfl) ?_
        refine g_cont (va_runSN (As := [.int (v)]) (rest := []) ⟨hx, hb, hml, hown, hts⟩ (c_X6_isTerm l D cy L ns kk σ (v)) ⟨va_cnB 1 hts (g_good cwd_X6_isTerm) rfl rfl rfl hN.1.2 (hts _ ini_X6) (by decide +kernel) ⟨Nat.le_of_ble_eq_true rfl, Nat.le_of_ble_eq_true rfl⟩, hts _ st_isTerm, trivial⟩ (g_preS hK hN hG) rfl rfl hl.1 rfl (lv_room (Nat.le_of_ble_eq_true rfl)) dX2_putTerm_21 ⟨Nat.zero_le _, Nat.zero_le _⟩) hS (fun H locs hG hS => ?_)
        refine W.eq (g2 := F0 m 24 ls [.int (g_b (0 ≤ (v).toInt ∧ (v).toInt ≤ 999))]) rfl ?_
        refine kz_b_ne (tgt := 29) hx hb dX2_putTerm_24 (by decide) (fun c_24_4 => ?_) (fun c_24_4 => ?_)
        · refine lv_aload_n hx hb dX2_putTerm_29 rfl (lv_at hl 0 rfl) ?_
          refine g_get (C := RX2) (T := TX2) (N := 3) (v := .ref (L (4, 0, 0))) hx hb hts inX2g hown hK hG (1, 0, 0) ⟨rfl, rfl⟩ (x_at_1 cy L ns kk (0) (0) (σ (1, 0, 0))) rfl 1 (by decide) fl_X2_17 rfl dX2_putTerm_30 ?_
          refine lv_iload_n hx hb dX2_putTerm_33 rfl (lv_at hl 2 rfl) ?_
          refine g_aald (n := 5) (v := .ref (L (10, (x).toNatClampNeg, 0))) hx hb hK hG (4, 0, 0) ⟨rfl, rfl⟩ 1 rfl rfl rfl (g_vp (by omega) (by omega)) rfl dX2_putTerm_34 ?_
          refine lv_iload_n hx hb dX2_putTerm_35 rfl (lv_at hl 1 rfl) ?_
          refine lv_iload_n hx hb dX2_putTerm_36 rfl (lv_at hl 3 rfl) ?_
          refine g_iast (n := 100) hx hb hK hG hS (10, (x).toNatClampNeg, 0) ⟨(by rw [g_cl]; omega), rfl⟩ 0 (fun _ => rfl) rfl (g_vp (by omega) (by omega)) dX2_putTerm_37 (fun H locs hG hS => ?_)
          refine lv_iconst (v := 1) hx hb dX2_putTerm_38 (by decide) ?_
          exact s_zret hx hb hr hlk hG hS dX2_putTerm_39 rfl (by unfold g_b; (repeat' split) <;> first | rfl | (exfalso; omega)) (by unfold x_putM; (repeat' split) <;> first | rfl | (exfalso; omega))
        · refine lv_iconst (v := 0) hx hb dX2_putTerm_27 (by decide) ?_
          exact s_zret hx hb hr hlk hG hS dX2_putTerm_28 rfl (by unfold g_b; (repeat' split) <;> first | rfl | (exfalso; omega)) (by unfold x_putM; (repeat' split) <;> first | rfl | (exfalso; omega))
set_option maxHeartbeats 4000000 in
set_option maxRecDepth 100000 in
theorem lp_least (l : Launch) (D : va_G) (cy : Nat → ClassId) (L : g_S → Nat) (ns : Nat) (kk : Nat → Nat) (σ : g_S → Nat → Int32) {pg : Program} {e : Env} {s : State} {m : MethodId} {args : Array Value} {below : List Frame} {meth : Method} {c : Code} {Q : State → Prop} (C0 : g_C pg s m meth c args cX2_leastTermFrom (some .int) 6 RX2 D (x_tys cy)) (h0 : 0 ≤ (σ (1, 0, 0) 2).toInt) (hn : (σ (1, 0, 0) 2).toInt ≤ 100) (x low : Int32) :
    ∀ (n : Nat) (r : Nat) (acc : Int32) (H : Heap) (locs : List Loc) (ls : Array Slot), r + n = (σ (1, 0, 0) 2).toInt.toNat → g_H D vwCl (x_dom ns kk) L (fun z => x_K cy L ns kk z (σ z)) H → va_S (g_A (x_dom ns kk) L) s.heap H locs → lv_has ls 6 [(4, .int (nI r)), (3, .int (acc)), (0, .ref (L (1, 0, 0))), (1, .int (x)), (2, .int (low))] →
    (∀ (H : Heap) (locs : List Loc) (ls : Array Slot), g_H D vwCl (x_dom ns kk) L (fun z => x_K cy L ns kk z (σ z)) H → va_S (g_A (x_dom ns kk) L) s.heap H locs → lv_has ls 6 [(3, .int (x_leastGo σ x low n r acc)), (0, .ref (L (1, 0, 0)))] → W pg l e (g_R 2) s m args below meth c H locs 0 0 Q (F0 m 49 ls [])) →
    W pg l e (g_R 2) s m args below meth c H locs 0 0 Q (F0 m 5 ls []) := by
  obtain ⟨hx, hb, hr, hlk, hml, hown, hts, hK, hN⟩ := C0
  intro n
  induction n with
  | zero =>
    intro r acc H locs ls hv9 hG hS hl kk9
    have hz := g_nIT (show r < 2147483648 by omega)
    refine lv_iload hx hb dX2_leastTermFrom_5 (lv_at hl 0 rfl) ?_
    refine lv_aload_n hx hb dX2_leastTermFrom_7 rfl (lv_at hl 2 rfl) ?_
    refine g_get (C := RX2) (T := TX2) (N := 3) (v := .int (σ (1, 0, 0) 2)) hx hb hts inX2g hown hK hG (1, 0, 0) ⟨rfl, rfl⟩ (x_at_1 cy L ns kk (0) (0) (σ (1, 0, 0))) rfl 2 (by decide) fl_X2_20 rfl dX2_leastTermFrom_8 ?_
    refine kz_icmp_ge (X := ((r : Nat) : Int)) (Y := (σ (1, 0, 0) 2).toInt) hx hb (g_nIT (by omega)) rfl dX2_leastTermFrom_11 (tgt := 49) (by decide) (fun c_11_1 => ?_) (fun c_11_1 => ?_)
    · exact kk9 H locs ls hG hS (lv_sub hl [1, 2] rfl)
    · exact absurd c_11_1 (by omega)
  | succ n ih =>
    intro r acc H locs ls hv9 hG hS hl kk9
    have hz := g_nIT (show r < 2147483648 by omega)
    refine lv_iload hx hb dX2_leastTermFrom_5 (lv_at hl 0 rfl) ?_
    refine lv_aload_n hx hb dX2_leastTermFrom_7 rfl (lv_at hl 2 rfl) ?_
    refine g_get (C := RX2) (T := TX2) (N := 3) (v := .int (σ (1, 0, 0) 2)) hx hb hts inX2g hown hK hG (1, 0, 0) ⟨rfl, rfl⟩ (x_at_1 cy L ns kk (0) (0) (σ (1, 0, 0))) rfl 2 (by decide) fl_X2_20 rfl dX2_leastTermFrom_8 ?_
    refine kz_icmp_ge (X := ((r : Nat) : Int)) (Y := (σ (1, 0, 0) 2).toInt) hx hb (g_nIT (by omega)) rfl dX2_leastTermFrom_11 (tgt := 49) (by decide) (fun c_11_1 => ?_) (fun c_11_1 => ?_)
    · exact absurd c_11_1 (by omega)
    · refine lv_aload_n hx hb dX2_leastTermFrom_14 rfl (lv_at hl 2 rfl) ?_
      refine lv_iload hx hb dX2_leastTermFrom_15 (lv_at hl 0 rfl) ?_
      refine lv_iload_n hx hb dX2_leastTermFrom_17 rfl (lv_at hl 3 rfl) ?_
      refine g_cont (va_runV (As := [.int (nI r), .int (x)]) (rest := []) ⟨hx, hb, hml, hown, hts⟩ (c_X2_termOf l D cy L ns kk σ (nI r) (x) hn) (cwV 2 hts gV_X2_34 rfl rfl rfl (by decide +kernel) ⟨Nat.le_of_ble_eq_true rfl, Nat.le_of_ble_eq_true rfl⟩) (g_preV hK hN hG (x := (1, 0, 0)) ⟨rfl, rfl⟩ (q := (RX2, TX2, 3)) (x_at_1 cy L ns kk (0) (0) (σ (1, 0, 0))) rfl) rfl rfl hl.1 rfl (lv_room (Nat.le_of_ble_eq_true rfl)) dX2_leastTermFrom_18 ⟨Nat.zero_le _, Nat.zero_le _⟩) hS (fun H locs hG hS => ?_)
      refine W.eq (g2 := F0 m 21 ls [.int (x_termOf σ (nI r) (x))]) rfl ?_
      refine lv_istore (lv' := [(5, .int (x_termOf σ (nI r) (x))), (4, .int (nI r)), (3, .int (acc)), (0, .ref (L (1, 0, 0))), (1, .int (x)), (2, .int (low))]) hx hb dX2_leastTermFrom_21 hl (by decide) rfl (fun ls hl => ?_)
      refine lv_iload hx hb dX2_leastTermFrom_23 (lv_at hl 0 rfl) ?_
      refine lv_iload_n hx hb dX2_leastTermFrom_25 rfl (lv_at hl 5 rfl) ?_
      refine kz_icmp_lt (X := (x_termOf σ (nI r) (x)).toInt) (Y := (low).toInt) hx hb rfl rfl dX2_leastTermFrom_26 (tgt := 43) (by decide) (fun c_26_2 => ?_) (fun c_26_2 => ?_)
      · refine lv_iinc (v := nI (r + 1)) (lv' := [(4, .int (nI (r + 1))), (5, .int (x_termOf σ (nI r) (x))), (3, .int (acc)), (0, .ref (L (1, 0, 0))), (1, .int (x)), (2, .int (low))]) hx hb dX2_leastTermFrom_43 hl (k := 1) rfl (nI_1 (r)) (by decide) rfl (fun ls hl => ?_)
        refine lv_goto (tgt := 5) hx hb dX2_leastTermFrom_46 (by decide) ?_
        have e90 : x_leastGo σ x low (n + 1) r acc = x_leastGo σ x low n (r + 1) (acc) := (by rw [x_leastGo_s]; (repeat' split) <;> first | rfl | (exfalso; omega))
        rw [e90] at kk9
        exact ih (r + 1) (acc) H locs ls (by omega) hG hS (lv_sub hl [0, 2, 3, 4, 5] rfl) kk9
      · refine lv_iload_n hx hb dX2_leastTermFrom_29 rfl (lv_at hl 2 rfl) ?_
        refine lv_iconst (v := (-1)) hx hb dX2_leastTermFrom_30 (by decide) ?_
        refine kz_icmp_eq (X := (acc).toInt) (Y := (-1)) hx hb rfl (by decide) dX2_leastTermFrom_31 (tgt := 40) (by decide) (fun c_31_3 => ?_) (fun c_31_3 => ?_)
        · refine lv_iload hx hb dX2_leastTermFrom_40 (lv_at hl 0 rfl) ?_
          refine lv_istore_n (lv' := [(3, .int (x_termOf σ (nI r) (x))), (5, .int (x_termOf σ (nI r) (x))), (4, .int (nI r)), (0, .ref (L (1, 0, 0))), (1, .int (x)), (2, .int (low))]) hx hb dX2_leastTermFrom_42 rfl hl (by decide) rfl (fun ls hl => ?_)
          refine lv_iinc (v := nI (r + 1)) (lv' := [(4, .int (nI (r + 1))), (3, .int (x_termOf σ (nI r) (x))), (5, .int (x_termOf σ (nI r) (x))), (0, .ref (L (1, 0, 0))), (1, .int (x)), (2, .int (low))]) hx hb dX2_leastTermFrom_43 hl (k := 2) rfl (nI_1 (r)) (by decide) rfl (fun ls hl => ?_)
          refine lv_goto (tgt := 5) hx hb dX2_leastTermFrom_46 (by decide) ?_
          have e90 : x_leastGo σ x low (n + 1) r acc = x_leastGo σ x low n (r + 1) (x_termOf σ (nI r) (x)) := (by rw [x_leastGo_s]; (repeat' split) <;> first | rfl | (exfalso; omega))
          rw [e90] at kk9
          exact ih (r + 1) (x_termOf σ (nI r) (x)) H locs ls (by omega) hG hS (lv_sub hl [0, 1, 3, 4, 5] rfl) kk9
        · refine lv_iload hx hb dX2_leastTermFrom_34 (lv_at hl 0 rfl) ?_
          refine lv_iload_n hx hb dX2_leastTermFrom_36 rfl (lv_at hl 2 rfl) ?_
          refine kz_icmp_ge (X := (x_termOf σ (nI r) (x)).toInt) (Y := (acc).toInt) hx hb rfl rfl dX2_leastTermFrom_37 (tgt := 43) (by decide) (fun c_37_4 => ?_) (fun c_37_4 => ?_)
          · refine lv_iinc (v := nI (r + 1)) (lv' := [(4, .int (nI (r + 1))), (5, .int (x_termOf σ (nI r) (x))), (3, .int (acc)), (0, .ref (L (1, 0, 0))), (1, .int (x)), (2, .int (low))]) hx hb dX2_leastTermFrom_43 hl (k := 1) rfl (nI_1 (r)) (by decide) rfl (fun ls hl => ?_)
            refine lv_goto (tgt := 5) hx hb dX2_leastTermFrom_46 (by decide) ?_
            have e90 : x_leastGo σ x low (n + 1) r acc = x_leastGo σ x low n (r + 1) (acc) := (by rw [x_leastGo_s]; (repeat' split) <;> first | rfl | (exfalso; omega))
            rw [e90] at kk9
            exact ih (r + 1) (acc) H locs ls (by omega) hG hS (lv_sub hl [0, 2, 3, 4, 5] rfl) kk9
          · refine lv_iload hx hb dX2_leastTermFrom_40 (lv_at hl 0 rfl) ?_
            refine lv_istore_n (lv' := [(3, .int (x_termOf σ (nI r) (x))), (5, .int (x_termOf σ (nI r) (x))), (4, .int (nI r)), (0, .ref (L (1, 0, 0))), (1, .int (x)), (2, .int (low))]) hx hb dX2_leastTermFrom_42 rfl hl (by decide) rfl (fun ls hl => ?_)
            refine lv_iinc (v := nI (r + 1)) (lv' := [(4, .int (nI (r + 1))), (3, .int (x_termOf σ (nI r) (x))), (5, .int (x_termOf σ (nI r) (x))), (0, .ref (L (1, 0, 0))), (1, .int (x)), (2, .int (low))]) hx hb dX2_leastTermFrom_43 hl (k := 2) rfl (nI_1 (r)) (by decide) rfl (fun ls hl => ?_)
            refine lv_goto (tgt := 5) hx hb dX2_leastTermFrom_46 (by decide) ?_
            have e90 : x_leastGo σ x low (n + 1) r acc = x_leastGo σ x low n (r + 1) (x_termOf σ (nI r) (x)) := (by rw [x_leastGo_s]; (repeat' split) <;> first | rfl | (exfalso; omega))
            rw [e90] at kk9
            exact ih (r + 1) (x_termOf σ (nI r) (x)) H locs ls (by omega) hG hS (lv_sub hl [0, 1, 3, 4, 5] rfl) kk9
set_option maxHeartbeats 4000000 in
set_option maxRecDepth 100000 in
theorem c_X2_leastTermFrom (l : Launch) (D : va_G) (cy : Nat → ClassId) (L : g_S → Nat) (ns : Nat) (kk : Nat → Nat) (σ : g_S → Nat → Int32) (x low : Int32) (h0 : 0 ≤ (σ (1, 0, 0) 2).toInt) (hn : (σ (1, 0, 0) 2).toInt ≤ 100) : x_Met l D cy L ns kk yX2_leastTermFrom (.code yX2_leastTermFrom cX2_leastTermFrom 6 (some .int)) 2 σ [.ref (L (1, 0, 0)), .int (x), .int (low)] (some (.int (x_least σ x low))) σ := by
  refine g_Met.of (by decide) (Nat.le_of_ble_eq_true rfl) ?_
  intro pg e s m below meth c hx hb hr hlk hml hown hts hK hN H locs hG hS ls hl
  have hown : s.vm.findClass RX2 = some m.cls := hown
  have hl : lv_has ls 6 [(0, .ref (L (1, 0, 0))), (1, .int (x)), (2, .int (low))] := hl
  refine lv_iconst (v := (-1)) hx hb dX2_leastTermFrom_0 (by decide) ?_
  refine lv_istore_n (lv' := [(3, .int (-1)), (0, .ref (L (1, 0, 0))), (1, .int (x)), (2, .int (low))]) hx hb dX2_leastTermFrom_1 rfl hl (by decide) rfl (fun ls hl => ?_)
  refine lv_iconst (v := 0) hx hb dX2_leastTermFrom_2 (by decide) ?_
  refine lv_istore (lv' := [(4, .int 0), (3, .int (-1)), (0, .ref (L (1, 0, 0))), (1, .int (x)), (2, .int (low))]) hx hb dX2_leastTermFrom_3 hl (by decide) rfl (fun ls hl => ?_)
  refine lp_least l D cy L ns kk σ ⟨hx, hb, hr, hlk, hml, hown, hts, hK, hN⟩ h0 hn x low (σ (1, 0, 0) 2).toInt.toNat 0 (-1) H locs ls (by omega) hG hS (lv_sub hl [0, 1, 2, 3, 4] rfl) (fun H locs ls hG hS hl => ?_)
  refine lv_iload_n hx hb dX2_leastTermFrom_49 rfl (lv_at hl 0 rfl) ?_
  exact s_iret hx hb hr hlk hG hS dX2_leastTermFrom_50 rfl rfl
set_option maxHeartbeats 4000000 in
set_option maxRecDepth 100000 in
theorem lp_great (l : Launch) (D : va_G) (cy : Nat → ClassId) (L : g_S → Nat) (ns : Nat) (kk : Nat → Nat) (σ : g_S → Nat → Int32) {pg : Program} {e : Env} {s : State} {m : MethodId} {args : Array Value} {below : List Frame} {meth : Method} {c : Code} {Q : State → Prop} (C0 : g_C pg s m meth c args cX2_greatestTermBelow (some .int) 6 RX2 D (x_tys cy)) (h0 : 0 ≤ (σ (1, 0, 0) 2).toInt) (hn : (σ (1, 0, 0) 2).toInt ≤ 100) (x high : Int32) :
    ∀ (n : Nat) (r : Nat) (acc : Int32) (H : Heap) (locs : List Loc) (ls : Array Slot), r + n = (σ (1, 0, 0) 2).toInt.toNat → g_H D vwCl (x_dom ns kk) L (fun z => x_K cy L ns kk z (σ z)) H → va_S (g_A (x_dom ns kk) L) s.heap H locs → lv_has ls 6 [(4, .int (nI r)), (3, .int (acc)), (0, .ref (L (1, 0, 0))), (1, .int (x)), (2, .int (high))] →
    (∀ (H : Heap) (locs : List Loc) (ls : Array Slot), g_H D vwCl (x_dom ns kk) L (fun z => x_K cy L ns kk z (σ z)) H → va_S (g_A (x_dom ns kk) L) s.heap H locs → lv_has ls 6 [(3, .int (x_greatGo σ x high n r acc)), (0, .ref (L (1, 0, 0)))] → W pg l e (g_R 2) s m args below meth c H locs 0 0 Q (F0 m 44 ls [])) →
    W pg l e (g_R 2) s m args below meth c H locs 0 0 Q (F0 m 5 ls []) := by
  obtain ⟨hx, hb, hr, hlk, hml, hown, hts, hK, hN⟩ := C0
  intro n
  induction n with
  | zero =>
    intro r acc H locs ls hv9 hG hS hl kk9
    have hz := g_nIT (show r < 2147483648 by omega)
    refine lv_iload hx hb dX2_greatestTermBelow_5 (lv_at hl 0 rfl) ?_
    refine lv_aload_n hx hb dX2_greatestTermBelow_7 rfl (lv_at hl 2 rfl) ?_
    refine g_get (C := RX2) (T := TX2) (N := 3) (v := .int (σ (1, 0, 0) 2)) hx hb hts inX2g hown hK hG (1, 0, 0) ⟨rfl, rfl⟩ (x_at_1 cy L ns kk (0) (0) (σ (1, 0, 0))) rfl 2 (by decide) fl_X2_20 rfl dX2_greatestTermBelow_8 ?_
    refine kz_icmp_ge (X := ((r : Nat) : Int)) (Y := (σ (1, 0, 0) 2).toInt) hx hb (g_nIT (by omega)) rfl dX2_greatestTermBelow_11 (tgt := 44) (by decide) (fun c_11_1 => ?_) (fun c_11_1 => ?_)
    · exact kk9 H locs ls hG hS (lv_sub hl [1, 2] rfl)
    · exact absurd c_11_1 (by omega)
  | succ n ih =>
    intro r acc H locs ls hv9 hG hS hl kk9
    have hz := g_nIT (show r < 2147483648 by omega)
    refine lv_iload hx hb dX2_greatestTermBelow_5 (lv_at hl 0 rfl) ?_
    refine lv_aload_n hx hb dX2_greatestTermBelow_7 rfl (lv_at hl 2 rfl) ?_
    refine g_get (C := RX2) (T := TX2) (N := 3) (v := .int (σ (1, 0, 0) 2)) hx hb hts inX2g hown hK hG (1, 0, 0) ⟨rfl, rfl⟩ (x_at_1 cy L ns kk (0) (0) (σ (1, 0, 0))) rfl 2 (by decide) fl_X2_20 rfl dX2_greatestTermBelow_8 ?_
    refine kz_icmp_ge (X := ((r : Nat) : Int)) (Y := (σ (1, 0, 0) 2).toInt) hx hb (g_nIT (by omega)) rfl dX2_greatestTermBelow_11 (tgt := 44) (by decide) (fun c_11_1 => ?_) (fun c_11_1 => ?_)
    · exact absurd c_11_1 (by omega)
    · refine lv_aload_n hx hb dX2_greatestTermBelow_14 rfl (lv_at hl 2 rfl) ?_
      refine lv_iload hx hb dX2_greatestTermBelow_15 (lv_at hl 0 rfl) ?_
      refine lv_iload_n hx hb dX2_greatestTermBelow_17 rfl (lv_at hl 3 rfl) ?_
      refine g_cont (va_runV (As := [.int (nI r), .int (x)]) (rest := []) ⟨hx, hb, hml, hown, hts⟩ (c_X2_termOf l D cy L ns kk σ (nI r) (x) hn) (cwV 2 hts gV_X2_34 rfl rfl rfl (by decide +kernel) ⟨Nat.le_of_ble_eq_true rfl, Nat.le_of_ble_eq_true rfl⟩) (g_preV hK hN hG (x := (1, 0, 0)) ⟨rfl, rfl⟩ (q := (RX2, TX2, 3)) (x_at_1 cy L ns kk (0) (0) (σ (1, 0, 0))) rfl) rfl rfl hl.1 rfl (lv_room (Nat.le_of_ble_eq_true rfl)) dX2_greatestTermBelow_18 ⟨Nat.zero_le _, Nat.zero_le _⟩) hS (fun H locs hG hS => ?_)
      refine W.eq (g2 := F0 m 21 ls [.int (x_termOf σ (nI r) (x))]) rfl ?_
      refine lv_istore (lv' := [(5, .int (x_termOf σ (nI r) (x))), (4, .int (nI r)), (3, .int (acc)), (0, .ref (L (1, 0, 0))), (1, .int (x)), (2, .int (high))]) hx hb dX2_greatestTermBelow_21 hl (by decide) rfl (fun ls hl => ?_)
      refine lv_iload hx hb dX2_greatestTermBelow_23 (lv_at hl 0 rfl) ?_
      refine lv_iload_n hx hb dX2_greatestTermBelow_25 rfl (lv_at hl 5 rfl) ?_
      refine kz_icmp_ge (X := (x_termOf σ (nI r) (x)).toInt) (Y := (high).toInt) hx hb rfl rfl dX2_greatestTermBelow_26 (tgt := 38) (by decide) (fun c_26_2 => ?_) (fun c_26_2 => ?_)
      · refine lv_iinc (v := nI (r + 1)) (lv' := [(4, .int (nI (r + 1))), (5, .int (x_termOf σ (nI r) (x))), (3, .int (acc)), (0, .ref (L (1, 0, 0))), (1, .int (x)), (2, .int (high))]) hx hb dX2_greatestTermBelow_38 hl (k := 1) rfl (nI_1 (r)) (by decide) rfl (fun ls hl => ?_)
        refine lv_goto (tgt := 5) hx hb dX2_greatestTermBelow_41 (by decide) ?_
        have e90 : x_greatGo σ x high (n + 1) r acc = x_greatGo σ x high n (r + 1) (acc) := (by rw [x_greatGo_s]; (repeat' split) <;> first | rfl | (exfalso; omega))
        rw [e90] at kk9
        exact ih (r + 1) (acc) H locs ls (by omega) hG hS (lv_sub hl [0, 2, 3, 4, 5] rfl) kk9
      · refine lv_iload hx hb dX2_greatestTermBelow_29 (lv_at hl 0 rfl) ?_
        refine lv_iload_n hx hb dX2_greatestTermBelow_31 rfl (lv_at hl 2 rfl) ?_
        refine kz_icmp_le (X := (x_termOf σ (nI r) (x)).toInt) (Y := (acc).toInt) hx hb rfl rfl dX2_greatestTermBelow_32 (tgt := 38) (by decide) (fun c_32_3 => ?_) (fun c_32_3 => ?_)
        · refine lv_iinc (v := nI (r + 1)) (lv' := [(4, .int (nI (r + 1))), (5, .int (x_termOf σ (nI r) (x))), (3, .int (acc)), (0, .ref (L (1, 0, 0))), (1, .int (x)), (2, .int (high))]) hx hb dX2_greatestTermBelow_38 hl (k := 1) rfl (nI_1 (r)) (by decide) rfl (fun ls hl => ?_)
          refine lv_goto (tgt := 5) hx hb dX2_greatestTermBelow_41 (by decide) ?_
          have e90 : x_greatGo σ x high (n + 1) r acc = x_greatGo σ x high n (r + 1) (acc) := (by rw [x_greatGo_s]; (repeat' split) <;> first | rfl | (exfalso; omega))
          rw [e90] at kk9
          exact ih (r + 1) (acc) H locs ls (by omega) hG hS (lv_sub hl [0, 2, 3, 4, 5] rfl) kk9
        · refine lv_iload hx hb dX2_greatestTermBelow_35 (lv_at hl 0 rfl) ?_
          refine lv_istore_n (lv' := [(3, .int (x_termOf σ (nI r) (x))), (5, .int (x_termOf σ (nI r) (x))), (4, .int (nI r)), (0, .ref (L (1, 0, 0))), (1, .int (x)), (2, .int (high))]) hx hb dX2_greatestTermBelow_37 rfl hl (by decide) rfl (fun ls hl => ?_)
          refine lv_iinc (v := nI (r + 1)) (lv' := [(4, .int (nI (r + 1))), (3, .int (x_termOf σ (nI r) (x))), (5, .int (x_termOf σ (nI r) (x))), (0, .ref (L (1, 0, 0))), (1, .int (x)), (2, .int (high))]) hx hb dX2_greatestTermBelow_38 hl (k := 2) rfl (nI_1 (r)) (by decide) rfl (fun ls hl => ?_)
          refine lv_goto (tgt := 5) hx hb dX2_greatestTermBelow_41 (by decide) ?_
          have e90 : x_greatGo σ x high (n + 1) r acc = x_greatGo σ x high n (r + 1) (x_termOf σ (nI r) (x)) := (by rw [x_greatGo_s]; (repeat' split) <;> first | rfl | (exfalso; omega))
          rw [e90] at kk9
          exact ih (r + 1) (x_termOf σ (nI r) (x)) H locs ls (by omega) hG hS (lv_sub hl [0, 1, 3, 4, 5] rfl) kk9
set_option maxHeartbeats 4000000 in
set_option maxRecDepth 100000 in
theorem c_X2_greatestTermBelow (l : Launch) (D : va_G) (cy : Nat → ClassId) (L : g_S → Nat) (ns : Nat) (kk : Nat → Nat) (σ : g_S → Nat → Int32) (x high : Int32) (h0 : 0 ≤ (σ (1, 0, 0) 2).toInt) (hn : (σ (1, 0, 0) 2).toInt ≤ 100) : x_Met l D cy L ns kk yX2_greatestTermBelow (.code yX2_greatestTermBelow cX2_greatestTermBelow 6 (some .int)) 2 σ [.ref (L (1, 0, 0)), .int (x), .int (high)] (some (.int (x_great σ x high))) σ := by
  refine g_Met.of (by decide) (Nat.le_of_ble_eq_true rfl) ?_
  intro pg e s m below meth c hx hb hr hlk hml hown hts hK hN H locs hG hS ls hl
  have hown : s.vm.findClass RX2 = some m.cls := hown
  have hl : lv_has ls 6 [(0, .ref (L (1, 0, 0))), (1, .int (x)), (2, .int (high))] := hl
  refine lv_iconst (v := (-1)) hx hb dX2_greatestTermBelow_0 (by decide) ?_
  refine lv_istore_n (lv' := [(3, .int (-1)), (0, .ref (L (1, 0, 0))), (1, .int (x)), (2, .int (high))]) hx hb dX2_greatestTermBelow_1 rfl hl (by decide) rfl (fun ls hl => ?_)
  refine lv_iconst (v := 0) hx hb dX2_greatestTermBelow_2 (by decide) ?_
  refine lv_istore (lv' := [(4, .int 0), (3, .int (-1)), (0, .ref (L (1, 0, 0))), (1, .int (x)), (2, .int (high))]) hx hb dX2_greatestTermBelow_3 hl (by decide) rfl (fun ls hl => ?_)
  refine lp_great l D cy L ns kk σ ⟨hx, hb, hr, hlk, hml, hown, hts, hK, hN⟩ h0 hn x high (σ (1, 0, 0) 2).toInt.toNat 0 (-1) H locs ls (by omega) hG hS (lv_sub hl [0, 1, 2, 3, 4] rfl) (fun H locs ls hG hS hl => ?_)
  refine lv_iload_n hx hb dX2_greatestTermBelow_44 rfl (lv_at hl 0 rfl) ?_
  exact s_iret hx hb hr hlk hG hS dX2_greatestTermBelow_45 rfl rfl
set_option maxHeartbeats 4000000 in
set_option maxRecDepth 100000 in
theorem lp_cnt (l : Launch) (D : va_G) (cy : Nat → ClassId) (L : g_S → Nat) (ns : Nat) (kk : Nat → Nat) (σ : g_S → Nat → Int32) {pg : Program} {e : Env} {s : State} {m : MethodId} {args : Array Value} {below : List Frame} {meth : Method} {c : Code} {Q : State → Prop} (C0 : g_C pg s m meth c args cX2_countOfTerm (some .int) 5 RX2 D (x_tys cy)) (h0 : 0 ≤ (σ (1, 0, 0) 2).toInt) (hn : (σ (1, 0, 0) 2).toInt ≤ 100) (x t : Int32) :
    ∀ (n : Nat) (r : Nat) (acc : Int32) (H : Heap) (locs : List Loc) (ls : Array Slot), r + n = (σ (1, 0, 0) 2).toInt.toNat → g_H D vwCl (x_dom ns kk) L (fun z => x_K cy L ns kk z (σ z)) H → va_S (g_A (x_dom ns kk) L) s.heap H locs → lv_has ls 5 [(4, .int (nI r)), (3, .int (acc)), (0, .ref (L (1, 0, 0))), (1, .int (x)), (2, .int (t))] →
    (∀ (H : Heap) (locs : List Loc) (ls : Array Slot), g_H D vwCl (x_dom ns kk) L (fun z => x_K cy L ns kk z (σ z)) H → va_S (g_A (x_dom ns kk) L) s.heap H locs → lv_has ls 5 [(3, .int (x_cntGo σ x t n r acc)), (0, .ref (L (1, 0, 0)))] → W pg l e (g_R 2) s m args below meth c H locs 0 0 Q (F0 m 34 ls [])) →
    W pg l e (g_R 2) s m args below meth c H locs 0 0 Q (F0 m 5 ls []) := by
  obtain ⟨hx, hb, hr, hlk, hml, hown, hts, hK, hN⟩ := C0
  intro n
  induction n with
  | zero =>
    intro r acc H locs ls hv9 hG hS hl kk9
    have hz := g_nIT (show r < 2147483648 by omega)
    refine lv_iload hx hb dX2_countOfTerm_5 (lv_at hl 0 rfl) ?_
    refine lv_aload_n hx hb dX2_countOfTerm_7 rfl (lv_at hl 2 rfl) ?_
    refine g_get (C := RX2) (T := TX2) (N := 3) (v := .int (σ (1, 0, 0) 2)) hx hb hts inX2g hown hK hG (1, 0, 0) ⟨rfl, rfl⟩ (x_at_1 cy L ns kk (0) (0) (σ (1, 0, 0))) rfl 2 (by decide) fl_X2_20 rfl dX2_countOfTerm_8 ?_
    refine kz_icmp_ge (X := ((r : Nat) : Int)) (Y := (σ (1, 0, 0) 2).toInt) hx hb (g_nIT (by omega)) rfl dX2_countOfTerm_11 (tgt := 34) (by decide) (fun c_11_1 => ?_) (fun c_11_1 => ?_)
    · exact kk9 H locs ls hG hS (lv_sub hl [1, 2] rfl)
    · exact absurd c_11_1 (by omega)
  | succ n ih =>
    intro r acc H locs ls hv9 hG hS hl kk9
    have hz := g_nIT (show r < 2147483648 by omega)
    refine lv_iload hx hb dX2_countOfTerm_5 (lv_at hl 0 rfl) ?_
    refine lv_aload_n hx hb dX2_countOfTerm_7 rfl (lv_at hl 2 rfl) ?_
    refine g_get (C := RX2) (T := TX2) (N := 3) (v := .int (σ (1, 0, 0) 2)) hx hb hts inX2g hown hK hG (1, 0, 0) ⟨rfl, rfl⟩ (x_at_1 cy L ns kk (0) (0) (σ (1, 0, 0))) rfl 2 (by decide) fl_X2_20 rfl dX2_countOfTerm_8 ?_
    refine kz_icmp_ge (X := ((r : Nat) : Int)) (Y := (σ (1, 0, 0) 2).toInt) hx hb (g_nIT (by omega)) rfl dX2_countOfTerm_11 (tgt := 34) (by decide) (fun c_11_1 => ?_) (fun c_11_1 => ?_)
    · exact absurd c_11_1 (by omega)
    · refine lv_aload_n hx hb dX2_countOfTerm_14 rfl (lv_at hl 2 rfl) ?_
      refine lv_iload hx hb dX2_countOfTerm_15 (lv_at hl 0 rfl) ?_
      refine lv_iload_n hx hb dX2_countOfTerm_17 rfl (lv_at hl 3 rfl) ?_
      refine g_cont (va_runV (As := [.int (nI r), .int (x)]) (rest := []) ⟨hx, hb, hml, hown, hts⟩ (c_X2_termOf l D cy L ns kk σ (nI r) (x) hn) (cwV 2 hts gV_X2_34 rfl rfl rfl (by decide +kernel) ⟨Nat.le_of_ble_eq_true rfl, Nat.le_of_ble_eq_true rfl⟩) (g_preV hK hN hG (x := (1, 0, 0)) ⟨rfl, rfl⟩ (q := (RX2, TX2, 3)) (x_at_1 cy L ns kk (0) (0) (σ (1, 0, 0))) rfl) rfl rfl hl.1 rfl (lv_room (Nat.le_of_ble_eq_true rfl)) dX2_countOfTerm_18 ⟨Nat.zero_le _, Nat.zero_le _⟩) hS (fun H locs hG hS => ?_)
      refine W.eq (g2 := F0 m 21 ls [.int (x_termOf σ (nI r) (x))]) rfl ?_
      refine lv_iload_n hx hb dX2_countOfTerm_21 rfl (lv_at hl 4 rfl) ?_
      refine kz_icmp_ne (X := (x_termOf σ (nI r) (x)).toInt) (Y := (t).toInt) hx hb rfl rfl dX2_countOfTerm_22 (tgt := 28) (by decide) (fun c_22_2 => ?_) (fun c_22_2 => ?_)
      · refine lv_iinc (v := nI (r + 1)) (lv' := [(4, .int (nI (r + 1))), (3, .int (acc)), (0, .ref (L (1, 0, 0))), (1, .int (x)), (2, .int (t))]) hx hb dX2_countOfTerm_28 hl (k := 0) rfl (nI_1 (r)) (by decide) rfl (fun ls hl => ?_)
        refine lv_goto (tgt := 5) hx hb dX2_countOfTerm_31 (by decide) ?_
        have e90 : x_cntGo σ x t (n + 1) r acc = x_cntGo σ x t n (r + 1) (acc) := (by rw [x_cntGo_s]; (repeat' split) <;> first | rfl | (exfalso; omega))
        rw [e90] at kk9
        exact ih (r + 1) (acc) H locs ls (by omega) hG hS (lv_sub hl [0, 1, 2, 3, 4] rfl) kk9
      · refine lv_iinc (v := acc + 1) (lv' := [(3, .int (acc + 1)), (4, .int (nI r)), (0, .ref (L (1, 0, 0))), (1, .int (x)), (2, .int (t))]) hx hb dX2_countOfTerm_25 hl (k := 1) rfl rfl (by decide) rfl (fun ls hl => ?_)
        refine lv_iinc (v := nI (r + 1)) (lv' := [(4, .int (nI (r + 1))), (3, .int (acc + 1)), (0, .ref (L (1, 0, 0))), (1, .int (x)), (2, .int (t))]) hx hb dX2_countOfTerm_28 hl (k := 1) rfl (nI_1 (r)) (by decide) rfl (fun ls hl => ?_)
        refine lv_goto (tgt := 5) hx hb dX2_countOfTerm_31 (by decide) ?_
        have e90 : x_cntGo σ x t (n + 1) r acc = x_cntGo σ x t n (r + 1) (acc + 1) := (by rw [x_cntGo_s]; (repeat' split) <;> first | rfl | (exfalso; omega))
        rw [e90] at kk9
        exact ih (r + 1) (acc + 1) H locs ls (by omega) hG hS (lv_sub hl [0, 1, 2, 3, 4] rfl) kk9
set_option maxHeartbeats 4000000 in
set_option maxRecDepth 100000 in
theorem c_X2_countOfTerm (l : Launch) (D : va_G) (cy : Nat → ClassId) (L : g_S → Nat) (ns : Nat) (kk : Nat → Nat) (σ : g_S → Nat → Int32) (x t : Int32) (h0 : 0 ≤ (σ (1, 0, 0) 2).toInt) (hn : (σ (1, 0, 0) 2).toInt ≤ 100) : x_Met l D cy L ns kk yX2_countOfTerm (.code yX2_countOfTerm cX2_countOfTerm 5 (some .int)) 2 σ [.ref (L (1, 0, 0)), .int (x), .int (t)] (some (.int (x_cnt σ x t))) σ := by
  refine g_Met.of (by decide) (Nat.le_of_ble_eq_true rfl) ?_
  intro pg e s m below meth c hx hb hr hlk hml hown hts hK hN H locs hG hS ls hl
  have hown : s.vm.findClass RX2 = some m.cls := hown
  have hl : lv_has ls 5 [(0, .ref (L (1, 0, 0))), (1, .int (x)), (2, .int (t))] := hl
  refine lv_iconst (v := 0) hx hb dX2_countOfTerm_0 (by decide) ?_
  refine lv_istore_n (lv' := [(3, .int 0), (0, .ref (L (1, 0, 0))), (1, .int (x)), (2, .int (t))]) hx hb dX2_countOfTerm_1 rfl hl (by decide) rfl (fun ls hl => ?_)
  refine lv_iconst (v := 0) hx hb dX2_countOfTerm_2 (by decide) ?_
  refine lv_istore (lv' := [(4, .int 0), (3, .int 0), (0, .ref (L (1, 0, 0))), (1, .int (x)), (2, .int (t))]) hx hb dX2_countOfTerm_3 hl (by decide) rfl (fun ls hl => ?_)
  refine lp_cnt l D cy L ns kk σ ⟨hx, hb, hr, hlk, hml, hown, hts, hK, hN⟩ h0 hn x t (σ (1, 0, 0) 2).toInt.toNat 0 0 H locs ls (by omega) hG hS (lv_sub hl [0, 1, 2, 3, 4] rfl) (fun H locs ls hG hS hl => ?_)
  refine lv_iload_n hx hb dX2_countOfTerm_34 rfl (lv_at hl 0 rfl) ?_
  exact s_iret hx hb hr hlk hG hS dX2_countOfTerm_35 rfl rfl
end
section
/-! the class: its questions -/
theorem lg_cmp_0 {x y : Int64} : (lg_cmp x y).toInt = 0 ↔ x = y := by
  unfold lg_cmp
  by_cases h1 : x > y
  · rw [if_pos h1]
    constructor
    · intro h; exact absurd h (by decide)
    · intro h; subst h; exact absurd h1 (by simp)
  · rw [if_neg h1]
    by_cases h2 : x = y
    · rw [if_pos h2]; exact ⟨fun _ => h2, fun _ => by decide⟩
    · rw [if_neg h2]
      exact ⟨fun h => absurd h (by decide), fun h => absurd h h2⟩
abbrev x_bit (yes : Int64) (q : Int32) : Prop := ¬ (yes >>> (q.toInt64 &&& 63)) &&& 1 = 0
def x_qR (σ : g_S → Nat → Int32) : Int32 := if 40 ≤ (σ (2, 0, 0) 4).toInt then -1 else (σ (2, 0, 0) 4) + 1 - 1
def x_qM (σ : g_S → Nat → Int32) (k a b d : Int32) : g_S → Nat → Int32 := if 40 ≤ (σ (2, 0, 0) 4).toInt then σ else g_up (g_up (g_up (g_up (g_up σ (5, 0, 0) (σ (2, 0, 0) 4).toNatClampNeg k) (6, 0, 0) (σ (2, 0, 0) 4).toNatClampNeg a) (7, 0, 0) (σ (2, 0, 0) 4).toNatClampNeg b) (8, 0, 0) (σ (2, 0, 0) 4).toNatClampNeg d) (2, 0, 0) 4 ((σ (2, 0, 0) 4) + 1)
abbrev x_rngP (a b d : Int32) : Prop := ((0 ≤ a.toInt ∧ a.toInt < 5) ∧ (0 ≤ b.toInt ∧ b.toInt ≤ 999)) ∧ ((0 ≤ d.toInt ∧ d.toInt ≤ 999) ∧ b.toInt ≤ d.toInt)
def x_rngR (σ : g_S → Nat → Int32) (a b d : Int32) : Int32 := if ((0 ≤ a.toInt ∧ a.toInt < 5) ∧ (0 ≤ b.toInt ∧ b.toInt ≤ 999)) ∧ ((0 ≤ d.toInt ∧ d.toInt ≤ 999) ∧ b.toInt ≤ d.toInt) then x_qR σ else -1
def x_rngM (σ : g_S → Nat → Int32) (a b d : Int32) : g_S → Nat → Int32 := if ((0 ≤ a.toInt ∧ a.toInt < 5) ∧ (0 ≤ b.toInt ∧ b.toInt ≤ 999)) ∧ ((0 ≤ d.toInt ∧ d.toInt ≤ 999) ∧ b.toInt ≤ d.toInt) then x_qM σ 1 a b d else σ
def x_pairR (σ : g_S → Nat → Int32) (k a b : Int32) : Int32 := if (2 ≤ k.toInt ∧ k.toInt ≤ 4) ∧ (0 ≤ a.toInt ∧ a.toInt < (σ (2, 0, 0) 4).toInt) ∧ (0 ≤ b.toInt ∧ b.toInt < (σ (2, 0, 0) 4).toInt) then x_qR σ else -1
def x_pairM (σ : g_S → Nat → Int32) (k a b : Int32) : g_S → Nat → Int32 := if (2 ≤ k.toInt ∧ k.toInt ≤ 4) ∧ (0 ≤ a.toInt ∧ a.toInt < (σ (2, 0, 0) 4).toInt) ∧ (0 ≤ b.toInt ∧ b.toInt < (σ (2, 0, 0) 4).toInt) then x_qM σ k a b 0 else σ
def x_holdsI (σ : g_S → Nat → Int32) (q r : Int32) (yes : Int64) : Int32 :=
  if (σ (5, 0, 0) q.toNatClampNeg).toInt = 2 then (if x_bit yes (σ (6, 0, 0) q.toNatClampNeg) ∧ x_bit yes (σ (7, 0, 0) q.toNatClampNeg) then 1 else 0)
  else if (σ (5, 0, 0) q.toNatClampNeg).toInt = 3 then (if x_bit yes (σ (6, 0, 0) q.toNatClampNeg) ∨ x_bit yes (σ (7, 0, 0) q.toNatClampNeg) then 1 else 0)
  else if (σ (5, 0, 0) q.toNatClampNeg).toInt = 4 then (if x_bit yes (σ (6, 0, 0) q.toNatClampNeg) ∧ ¬ x_bit yes (σ (7, 0, 0) q.toNatClampNeg) then 1 else 0)
  else (if (σ (7, 0, 0) q.toNatClampNeg).toInt ≤ (x_termOf σ r (σ (6, 0, 0) q.toNatClampNeg)).toInt ∧ (x_termOf σ r (σ (6, 0, 0) q.toNatClampNeg)).toInt ≤ (σ (8, 0, 0) q.toNatClampNeg).toInt then 1 else 0)
def x_yesGo (σ : g_S → Nat → Int32) (rc : Int32) : Nat → Nat → Int64 → Int64
  | 0, _, yes => yes
  | n + 1, k, yes => x_yesGo σ rc n (k + 1) (if (x_holdsI σ (nI k) rc yes).toInt = 0 then yes else yes ||| (1 <<< ((nI k).toInt64 &&& 63)))
theorem x_yesGo_s (σ : g_S → Nat → Int32) (rc : Int32) (n k : Nat) (yes : Int64) : x_yesGo σ rc (n + 1) k yes = x_yesGo σ rc n (k + 1) (if (x_holdsI σ (nI k) rc yes).toInt = 0 then yes else yes ||| (1 <<< ((nI k).toInt64 &&& 63))) := rfl
abbrev x_findsP (σ : g_S → Nat → Int32) (q rc : Int32) : Prop := (0 ≤ q.toInt ∧ q.toInt < (σ (2, 0, 0) 4).toInt) ∧ x_bit (x_yesGo σ rc (q.toInt.toNat + 1) 0 0) q
set_option maxHeartbeats 4000000 in
set_option maxRecDepth 100000 in
theorem c_X1_has (l : Launch) (D : va_G) (cy : Nat → ClassId) (L : g_S → Nat) (ns : Nat) (kk : Nat → Nat) (σ : g_S → Nat → Int32) (p : Int32) : x_Met l D cy L ns kk yX1_has (.code yX1_has cX1_has 2 (some .boolean)) 0 σ [.ref (L (2, 0, 0)), .int (p)] (some (.int (g_b (0 ≤ (p).toInt ∧ (p).toInt < (σ (2, 0, 0) 4).toInt)))) σ := by
  refine g_Met.of (by decide) (Nat.le_of_ble_eq_true rfl) ?_
  intro pg e s m below meth c hx hb hr hlk hml hown hts hK hN H locs hG hS ls hl
  have hown : s.vm.findClass RX1 = some m.cls := hown
  have hl : lv_has ls 2 [(0, .ref (L (2, 0, 0))), (1, .int (p))] := hl
  refine lv_iload_n hx hb dX1_has_0 rfl (lv_at hl 1 rfl) ?_
  refine kz_if_lt (X := (p).toInt) hx hb rfl dX1_has_1 (tgt := 16) (by decide) (fun c_1_1 => ?_) (fun c_1_1 => ?_)
  · refine lv_iconst (v := 0) hx hb dX1_has_16 (by decide) ?_
    exact s_zret hx hb hr hlk hG hS dX1_has_17 rfl (by unfold g_b; (repeat' split) <;> first | rfl | (exfalso; omega)) rfl
  · refine lv_iload_n hx hb dX1_has_4 rfl (lv_at hl 1 rfl) ?_
    refine lv_aload_n hx hb dX1_has_5 rfl (lv_at hl 0 rfl) ?_
    refine g_get (C := RX1) (T := TX1) (N := 5) (v := .int (σ (2, 0, 0) 4)) hx hb hts inX1g hown hK hG (2, 0, 0) ⟨rfl, rfl⟩ (x_at_2 cy L ns kk (0) (0) (σ (2, 0, 0))) rfl 4 (by decide) fl_X1_24 rfl dX1_has_6 ?_
    refine kz_icmp_ge (X := (p).toInt) (Y := (σ (2, 0, 0) 4).toInt) hx hb rfl rfl dX1_has_9 (tgt := 16) (by decide) (fun c_9_2 => ?_) (fun c_9_2 => ?_)
    · refine lv_iconst (v := 0) hx hb dX1_has_16 (by decide) ?_
      exact s_zret hx hb hr hlk hG hS dX1_has_17 rfl (by unfold g_b; (repeat' split) <;> first | rfl | (exfalso; omega)) rfl
    · refine lv_iconst (v := 1) hx hb dX1_has_12 (by decide) ?_
      refine lv_goto (tgt := 17) hx hb dX1_has_13 (by decide) ?_
      exact s_zret hx hb hr hlk hG hS dX1_has_17 rfl (by unfold g_b; (repeat' split) <;> first | rfl | (exfalso; omega)) rfl
set_option maxHeartbeats 4000000 in
set_option maxRecDepth 100000 in
theorem c_X1_add (l : Launch) (D : va_G) (cy : Nat → ClassId) (L : g_S → Nat) (ns : Nat) (kk : Nat → Nat) (σ : g_S → Nat → Int32) (k a b d : Int32) (q0 : 0 ≤ (σ (2, 0, 0) 4).toInt) : x_Met l D cy L ns kk yX1_add (.code yX1_add cX1_add 5 (some .int)) 0 σ [.ref (L (2, 0, 0)), .int (k), .int (a), .int (b), .int (d)] (some (.int (x_qR σ))) (x_qM σ k a b d) := by
  refine g_Met.of (by decide) (Nat.le_of_ble_eq_true rfl) ?_
  intro pg e s m below meth c hx hb hr hlk hml hown hts hK hN H locs hG hS ls hl
  have hown : s.vm.findClass RX1 = some m.cls := hown
  have hl : lv_has ls 5 [(0, .ref (L (2, 0, 0))), (1, .int (k)), (2, .int (a)), (3, .int (b)), (4, .int (d))] := hl
  refine lv_aload_n hx hb dX1_add_0 rfl (lv_at hl 0 rfl) ?_
  refine g_get (C := RX1) (T := TX1) (N := 5) (v := .int (σ (2, 0, 0) 4)) hx hb hts inX1g hown hK hG (2, 0, 0) ⟨rfl, rfl⟩ (x_at_2 cy L ns kk (0) (0) (σ (2, 0, 0))) rfl 4 (by decide) fl_X1_24 rfl dX1_add_1 ?_
  refine lv_bipush (v := 40) hx hb dX1_add_4 (by decide) ?_
  refine kz_icmp_lt (X := (σ (2, 0, 0) 4).toInt) (Y := 40) hx hb rfl (by decide) dX1_add_6 (tgt := 11) (by decide) (fun c_6_1 => ?_) (fun c_6_1 => ?_)
  · refine lv_aload_n hx hb dX1_add_11 rfl (lv_at hl 0 rfl) ?_
    refine g_get (C := RX1) (T := TX1) (N := 5) (v := .ref (L (5, 0, 0))) hx hb hts inX1g hown hK hG (2, 0, 0) ⟨rfl, rfl⟩ (x_at_2 cy L ns kk (0) (0) (σ (2, 0, 0))) rfl 0 (by decide) fl_X1_9 rfl dX1_add_12 ?_
    refine lv_aload_n hx hb dX1_add_15 rfl (lv_at hl 0 rfl) ?_
    refine g_get (C := RX1) (T := TX1) (N := 5) (v := .int (σ (2, 0, 0) 4)) hx hb hts inX1g hown hK hG (2, 0, 0) ⟨rfl, rfl⟩ (x_at_2 cy L ns kk (0) (0) (σ (2, 0, 0))) rfl 4 (by decide) fl_X1_24 rfl dX1_add_16 ?_
    refine lv_iload_n hx hb dX1_add_19 rfl (lv_at hl 1 rfl) ?_
    refine g_iast (n := 40) hx hb hK hG hS (5, 0, 0) ⟨rfl, rfl⟩ 0 (fun _ => rfl) rfl (g_vp (by omega) (by omega)) dX1_add_20 (fun H locs hG hS => ?_)
    refine lv_aload_n hx hb dX1_add_21 rfl (lv_at hl 0 rfl) ?_
    refine g_get (C := RX1) (T := TX1) (N := 5) (v := .ref (L (6, 0, 0))) hx hb hts inX1g hown hK hG (2, 0, 0) ⟨rfl, rfl⟩ (x_at_2 cy L ns kk (0) (0) ((g_up σ (5, 0, 0) ((σ (2, 0, 0) 4).toNatClampNeg) (k)) (2, 0, 0))) rfl 1 (by decide) fl_X1_15 rfl dX1_add_22 ?_
    refine lv_aload_n hx hb dX1_add_25 rfl (lv_at hl 0 rfl) ?_
    refine g_get (C := RX1) (T := TX1) (N := 5) (v := .int (σ (2, 0, 0) 4)) hx hb hts inX1g hown hK hG (2, 0, 0) ⟨rfl, rfl⟩ (x_at_2 cy L ns kk (0) (0) ((g_up σ (5, 0, 0) ((σ (2, 0, 0) 4).toNatClampNeg) (k)) (2, 0, 0))) rfl 4 (by decide) fl_X1_24 rfl dX1_add_26 ?_
    refine lv_iload_n hx hb dX1_add_29 rfl (lv_at hl 2 rfl) ?_
    refine g_iast (n := 40) hx hb hK hG hS (6, 0, 0) ⟨rfl, rfl⟩ 0 (fun _ => rfl) rfl (g_vp (by omega) (by omega)) dX1_add_30 (fun H locs hG hS => ?_)
    refine lv_aload_n hx hb dX1_add_31 rfl (lv_at hl 0 rfl) ?_
    refine g_get (C := RX1) (T := TX1) (N := 5) (v := .ref (L (7, 0, 0))) hx hb hts inX1g hown hK hG (2, 0, 0) ⟨rfl, rfl⟩ (x_at_2 cy L ns kk (0) (0) ((g_up (g_up σ (5, 0, 0) ((σ (2, 0, 0) 4).toNatClampNeg) (k)) (6, 0, 0) ((σ (2, 0, 0) 4).toNatClampNeg) (a)) (2, 0, 0))) rfl 2 (by decide) fl_X1_18 rfl dX1_add_32 ?_
    refine lv_aload_n hx hb dX1_add_35 rfl (lv_at hl 0 rfl) ?_
    refine g_get (C := RX1) (T := TX1) (N := 5) (v := .int (σ (2, 0, 0) 4)) hx hb hts inX1g hown hK hG (2, 0, 0) ⟨rfl, rfl⟩ (x_at_2 cy L ns kk (0) (0) ((g_up (g_up σ (5, 0, 0) ((σ (2, 0, 0) 4).toNatClampNeg) (k)) (6, 0, 0) ((σ (2, 0, 0) 4).toNatClampNeg) (a)) (2, 0, 0))) rfl 4 (by decide) fl_X1_24 rfl dX1_add_36 ?_
    refine lv_iload_n hx hb dX1_add_39 rfl (lv_at hl 3 rfl) ?_
    refine g_iast (n := 40) hx hb hK hG hS (7, 0, 0) ⟨rfl, rfl⟩ 0 (fun _ => rfl) rfl (g_vp (by omega) (by omega)) dX1_add_40 (fun H locs hG hS => ?_)
    refine lv_aload_n hx hb dX1_add_41 rfl (lv_at hl 0 rfl) ?_
    refine g_get (C := RX1) (T := TX1) (N := 5) (v := .ref (L (8, 0, 0))) hx hb hts inX1g hown hK hG (2, 0, 0) ⟨rfl, rfl⟩ (x_at_2 cy L ns kk (0) (0) ((g_up (g_up (g_up σ (5, 0, 0) ((σ (2, 0, 0) 4).toNatClampNeg) (k)) (6, 0, 0) ((σ (2, 0, 0) 4).toNatClampNeg) (a)) (7, 0, 0) ((σ (2, 0, 0) 4).toNatClampNeg) (b)) (2, 0, 0))) rfl 3 (by decide) fl_X1_21 rfl dX1_add_42 ?_
    refine lv_aload_n hx hb dX1_add_45 rfl (lv_at hl 0 rfl) ?_
    refine g_get (C := RX1) (T := TX1) (N := 5) (v := .int (σ (2, 0, 0) 4)) hx hb hts inX1g hown hK hG (2, 0, 0) ⟨rfl, rfl⟩ (x_at_2 cy L ns kk (0) (0) ((g_up (g_up (g_up σ (5, 0, 0) ((σ (2, 0, 0) 4).toNatClampNeg) (k)) (6, 0, 0) ((σ (2, 0, 0) 4).toNatClampNeg) (a)) (7, 0, 0) ((σ (2, 0, 0) 4).toNatClampNeg) (b)) (2, 0, 0))) rfl 4 (by decide) fl_X1_24 rfl dX1_add_46 ?_
    refine lv_iload hx hb dX1_add_49 (lv_at hl 4 rfl) ?_
    refine g_iast (n := 40) hx hb hK hG hS (8, 0, 0) ⟨rfl, rfl⟩ 0 (fun _ => rfl) rfl (g_vp (by omega) (by omega)) dX1_add_51 (fun H locs hG hS => ?_)
    refine lv_aload_n hx hb dX1_add_52 rfl (lv_at hl 0 rfl) ?_
    refine lv_dup hx hb dX1_add_53 rfl ?_
    refine g_get (C := RX1) (T := TX1) (N := 5) (v := .int (σ (2, 0, 0) 4)) hx hb hts inX1g hown hK hG (2, 0, 0) ⟨rfl, rfl⟩ (x_at_2 cy L ns kk (0) (0) ((g_up (g_up (g_up (g_up σ (5, 0, 0) ((σ (2, 0, 0) 4).toNatClampNeg) (k)) (6, 0, 0) ((σ (2, 0, 0) 4).toNatClampNeg) (a)) (7, 0, 0) ((σ (2, 0, 0) 4).toNatClampNeg) (b)) (8, 0, 0) ((σ (2, 0, 0) 4).toNatClampNeg) (d)) (2, 0, 0))) rfl 4 (by decide) fl_X1_24 rfl dX1_add_54 ?_
    refine lv_iconst (v := 1) hx hb dX1_add_57 (by decide) ?_
    refine lv_iadd hx hb dX1_add_58 ?_
    refine g_puti (C := RX1) (T := TX1) (N := 5) (v := (σ (2, 0, 0) 4) + (1)) (ty := .int) hx hb hts inX1g tyX1_ok nmX1 hown hK hG hS (2, 0, 0) ⟨rfl, rfl⟩ (x_at_2 cy L ns kk (0) (0) ((g_up (g_up (g_up (g_up σ (5, 0, 0) ((σ (2, 0, 0) 4).toNatClampNeg) (k)) (6, 0, 0) ((σ (2, 0, 0) 4).toNatClampNeg) (a)) (7, 0, 0) ((σ (2, 0, 0) 4).toNatClampNeg) (b)) (8, 0, 0) ((σ (2, 0, 0) 4).toNatClampNeg) (d)) (2, 0, 0))) rfl 4 (by decide) (x_up_2_4 cy L ns kk (0) (0) ((g_up (g_up (g_up (g_up σ (5, 0, 0) ((σ (2, 0, 0) 4).toNatClampNeg) (k)) (6, 0, 0) ((σ (2, 0, 0) 4).toNatClampNeg) (a)) (7, 0, 0) ((σ (2, 0, 0) 4).toNatClampNeg) (b)) (8, 0, 0) ((σ (2, 0, 0) 4).toNatClampNeg) (d)) (2, 0, 0)) ((σ (2, 0, 0) 4) + (1))) fl_X1_24 rfl (by decide +kernel) rfl rfl (Nat.le_of_ble_eq_true rfl) dX1_add_59 (fun H locs hG hS => ?_)
    refine lv_aload_n hx hb dX1_add_62 rfl (lv_at hl 0 rfl) ?_
    refine g_get (C := RX1) (T := TX1) (N := 5) (v := .int ((σ (2, 0, 0) 4) + (1))) hx hb hts inX1g hown hK hG (2, 0, 0) ⟨rfl, rfl⟩ (x_at_2 cy L ns kk (0) (0) ((g_up (g_up (g_up (g_up (g_up σ (5, 0, 0) ((σ (2, 0, 0) 4).toNatClampNeg) (k)) (6, 0, 0) ((σ (2, 0, 0) 4).toNatClampNeg) (a)) (7, 0, 0) ((σ (2, 0, 0) 4).toNatClampNeg) (b)) (8, 0, 0) ((σ (2, 0, 0) 4).toNatClampNeg) (d)) (2, 0, 0) (4) ((σ (2, 0, 0) 4) + (1))) (2, 0, 0))) rfl 4 (by decide) fl_X1_24 rfl dX1_add_63 ?_
    refine lv_iconst (v := 1) hx hb dX1_add_66 (by decide) ?_
    refine lv_isub hx hb dX1_add_67 ?_
    exact s_iret hx hb hr hlk hG hS dX1_add_68 (by unfold x_qR; (repeat' split) <;> first | rfl | (exfalso; omega)) (by unfold x_qM; (repeat' split) <;> first | rfl | (exfalso; omega))
  · refine lv_iconst (v := (-1)) hx hb dX1_add_9 (by decide) ?_
    exact s_iret hx hb hr hlk hG hS dX1_add_10 (by unfold x_qR; (repeat' split) <;> first | rfl | (exfalso; omega)) (by unfold x_qM; (repeat' split) <;> first | rfl | (exfalso; omega))
set_option maxHeartbeats 4000000 in
set_option maxRecDepth 100000 in
theorem c_X1_addRange (l : Launch) (D : va_G) (cy : Nat → ClassId) (L : g_S → Nat) (ns : Nat) (kk : Nat → Nat) (σ : g_S → Nat → Int32) (a b d : Int32) (q0 : 0 ≤ (σ (2, 0, 0) 4).toInt) : x_Met l D cy L ns kk yX1_addRange (.code yX1_addRange cX1_addRange 4 (some .int)) 1 σ [.ref (L (2, 0, 0)), .int (a), .int (b), .int (d)] (some (.int (x_rngR σ a b d))) (x_rngM σ a b d) := by
  refine g_Met.of (by decide) (Nat.le_of_ble_eq_true rfl) ?_
  intro pg e s m below meth c hx hb hr hlk hml hown hts hK hN H locs hG hS ls hl
  have hown : s.vm.findClass RX1 = some m.cls := hown
  have hl : lv_has ls 4 [(0, .ref (L (2, 0, 0))), (1, .int (a)), (2, .int (b)), (3, .int (d))] := hl
  refine lv_iload_n hx hb dX1_addRange_0 rfl (lv_at hl 1 rfl) ?_
  refine g_cont (va_runSN (As := [.int (a)]) (rest := []) ⟨hx, hb, hml, hown, hts⟩ (c_X6_isIndex l D cy L ns kk σ (a)) ⟨va_cnB 1 hts (g_good cwd_X6_isIndex) rfl rfl rfl hN.2.1 (hts _ ini_X6) (by decide +kernel) ⟨Nat.le_of_ble_eq_true rfl, Nat.le_of_ble_eq_true rfl⟩, hts _ st_isIndex, trivial⟩ (g_preS hK hN hG) rfl rfl hl.1 rfl (lv_room (Nat.le_of_ble_eq_true rfl)) dX1_addRange_1 ⟨Nat.zero_le _, Nat.zero_le _⟩) hS (fun H locs hG hS => ?_)
  refine W.eq (g2 := F0 m 4 ls [.int (g_b (0 ≤ (a).toInt ∧ (a).toInt < 5))]) rfl ?_
  refine kz_b_eq (tgt := 26) hx hb dX1_addRange_4 (by decide) (fun c_4_1 => ?_) (fun c_4_1 => ?_)
  · refine lv_iconst (v := (-1)) hx hb dX1_addRange_26 (by decide) ?_
    exact s_iret hx hb hr hlk hG hS dX1_addRange_27 (by unfold x_rngR; (repeat' split) <;> first | rfl | (exfalso; omega)) (by unfold x_rngM; (repeat' split) <;> first | rfl | (exfalso; omega))
  · refine lv_iload_n hx hb dX1_addRange_7 rfl (lv_at hl 2 rfl) ?_
    refine g_cont (va_runSN (As := [.int (b)]) (rest := []) ⟨hx, hb, hml, hown, hts⟩ (c_X6_isTerm l D cy L ns kk σ (b)) ⟨va_cnB 1 hts (g_good cwd_X6_isTerm) rfl rfl rfl hN.2.2 (hts _ ini_X6) (by decide +kernel) ⟨Nat.le_of_ble_eq_true rfl, Nat.le_of_ble_eq_true rfl⟩, hts _ st_isTerm, trivial⟩ (g_preS hK hN hG) rfl rfl hl.1 rfl (lv_room (Nat.le_of_ble_eq_true rfl)) dX1_addRange_8 ⟨Nat.zero_le _, Nat.zero_le _⟩) hS (fun H locs hG hS => ?_)
    refine W.eq (g2 := F0 m 11 ls [.int (g_b (0 ≤ (b).toInt ∧ (b).toInt ≤ 999))]) rfl ?_
    refine kz_b_eq (tgt := 26) hx hb dX1_addRange_11 (by decide) (fun c_11_2 => ?_) (fun c_11_2 => ?_)
    · refine lv_iconst (v := (-1)) hx hb dX1_addRange_26 (by decide) ?_
      exact s_iret hx hb hr hlk hG hS dX1_addRange_27 (by unfold x_rngR; (repeat' split) <;> first | rfl | (exfalso; omega)) (by unfold x_rngM; (repeat' split) <;> first | rfl | (exfalso; omega))
    · refine lv_iload_n hx hb dX1_addRange_14 rfl (lv_at hl 3 rfl) ?_
      refine g_cont (va_runSN (As := [.int (d)]) (rest := []) ⟨hx, hb, hml, hown, hts⟩ (c_X6_isTerm l D cy L ns kk σ (d)) ⟨va_cnB 1 hts (g_good cwd_X6_isTerm) rfl rfl rfl hN.2.2 (hts _ ini_X6) (by decide +kernel) ⟨Nat.le_of_ble_eq_true rfl, Nat.le_of_ble_eq_true rfl⟩, hts _ st_isTerm, trivial⟩ (g_preS hK hN hG) rfl rfl hl.1 rfl (lv_room (Nat.le_of_ble_eq_true rfl)) dX1_addRange_15 ⟨Nat.zero_le _, Nat.zero_le _⟩) hS (fun H locs hG hS => ?_)
      refine W.eq (g2 := F0 m 18 ls [.int (g_b (0 ≤ (d).toInt ∧ (d).toInt ≤ 999))]) rfl ?_
      refine kz_b_eq (tgt := 26) hx hb dX1_addRange_18 (by decide) (fun c_18_3 => ?_) (fun c_18_3 => ?_)
      · refine lv_iconst (v := (-1)) hx hb dX1_addRange_26 (by decide) ?_
        exact s_iret hx hb hr hlk hG hS dX1_addRange_27 (by unfold x_rngR; (repeat' split) <;> first | rfl | (exfalso; omega)) (by unfold x_rngM; (repeat' split) <;> first | rfl | (exfalso; omega))
      · refine lv_iload_n hx hb dX1_addRange_21 rfl (lv_at hl 2 rfl) ?_
        refine lv_iload_n hx hb dX1_addRange_22 rfl (lv_at hl 3 rfl) ?_
        refine kz_icmp_le (X := (b).toInt) (Y := (d).toInt) hx hb rfl rfl dX1_addRange_23 (tgt := 28) (by decide) (fun c_23_4 => ?_) (fun c_23_4 => ?_)
        · refine lv_aload_n hx hb dX1_addRange_28 rfl (lv_at hl 0 rfl) ?_
          refine lv_iconst (v := 1) hx hb dX1_addRange_29 (by decide) ?_
          refine lv_iload_n hx hb dX1_addRange_30 rfl (lv_at hl 1 rfl) ?_
          refine lv_iload_n hx hb dX1_addRange_31 rfl (lv_at hl 2 rfl) ?_
          refine lv_iload_n hx hb dX1_addRange_32 rfl (lv_at hl 3 rfl) ?_
          refine g_cont (va_runV (As := [.int 1, .int (a), .int (b), .int (d)]) (rest := []) ⟨hx, hb, hml, hown, hts⟩ (c_X1_add l D cy L ns kk σ (1) (a) (b) (d) q0) (cwV 4 hts gV_X1_35 rfl rfl rfl (by decide +kernel) ⟨Nat.le_of_ble_eq_true rfl, Nat.le_of_ble_eq_true rfl⟩) (g_preV hK hN hG (x := (2, 0, 0)) ⟨rfl, rfl⟩ (q := (RX1, TX1, 5)) (x_at_2 cy L ns kk (0) (0) (σ (2, 0, 0))) rfl) rfl rfl hl.1 rfl (lv_room (Nat.le_of_ble_eq_true rfl)) dX1_addRange_33 ⟨Nat.zero_le _, Nat.zero_le _⟩) hS (fun H locs hG hS => ?_)
          refine W.eq (g2 := F0 m 36 ls [.int (x_qR σ)]) rfl ?_
          exact s_iret hx hb hr hlk hG hS dX1_addRange_36 (by unfold x_rngR; (repeat' split) <;> first | rfl | (exfalso; omega)) (by unfold x_rngM; (repeat' split) <;> first | rfl | (exfalso; omega))
        · refine lv_iconst (v := (-1)) hx hb dX1_addRange_26 (by decide) ?_
          exact s_iret hx hb hr hlk hG hS dX1_addRange_27 (by unfold x_rngR; (repeat' split) <;> first | rfl | (exfalso; omega)) (by unfold x_rngM; (repeat' split) <;> first | rfl | (exfalso; omega))
set_option maxHeartbeats 4000000 in
set_option maxRecDepth 100000 in
theorem c_X1_addPair (l : Launch) (D : va_G) (cy : Nat → ClassId) (L : g_S → Nat) (ns : Nat) (kk : Nat → Nat) (σ : g_S → Nat → Int32) (k a b : Int32) (q0 : 0 ≤ (σ (2, 0, 0) 4).toInt) : x_Met l D cy L ns kk yX1_addPair (.code yX1_addPair cX1_addPair 4 (some .int)) 1 σ [.ref (L (2, 0, 0)), .int (k), .int (a), .int (b)] (some (.int (x_pairR σ k a b))) (x_pairM σ k a b) := by
  refine g_Met.of (by decide) (Nat.le_of_ble_eq_true rfl) ?_
  intro pg e s m below meth c hx hb hr hlk hml hown hts hK hN H locs hG hS ls hl
  have hown : s.vm.findClass RX1 = some m.cls := hown
  have hl : lv_has ls 4 [(0, .ref (L (2, 0, 0))), (1, .int (k)), (2, .int (a)), (3, .int (b))] := hl
  refine lv_iload_n hx hb dX1_addPair_0 rfl (lv_at hl 1 rfl) ?_
  refine lv_iconst (v := 2) hx hb dX1_addPair_1 (by decide) ?_
  refine kz_icmp_lt (X := (k).toInt) (Y := 2) hx hb rfl (by decide) dX1_addPair_2 (tgt := 26) (by decide) (fun c_2_1 => ?_) (fun c_2_1 => ?_)
  · refine lv_iconst (v := (-1)) hx hb dX1_addPair_26 (by decide) ?_
    exact s_iret hx hb hr hlk hG hS dX1_addPair_27 (by unfold x_pairR; (repeat' split) <;> first | rfl | (exfalso; omega)) (by unfold x_pairM; (repeat' split) <;> first | rfl | (exfalso; omega))
  · refine lv_iload_n hx hb dX1_addPair_5 rfl (lv_at hl 1 rfl) ?_
    refine lv_iconst (v := 4) hx hb dX1_addPair_6 (by decide) ?_
    refine kz_icmp_gt (X := (k).toInt) (Y := 4) hx hb rfl (by decide) dX1_addPair_7 (tgt := 26) (by decide) (fun c_7_2 => ?_) (fun c_7_2 => ?_)
    · refine lv_iconst (v := (-1)) hx hb dX1_addPair_26 (by decide) ?_
      exact s_iret hx hb hr hlk hG hS dX1_addPair_27 (by unfold x_pairR; (repeat' split) <;> first | rfl | (exfalso; omega)) (by unfold x_pairM; (repeat' split) <;> first | rfl | (exfalso; omega))
    · refine lv_aload_n hx hb dX1_addPair_10 rfl (lv_at hl 0 rfl) ?_
      refine lv_iload_n hx hb dX1_addPair_11 rfl (lv_at hl 2 rfl) ?_
      refine g_cont (va_runV (As := [.int (a)]) (rest := []) ⟨hx, hb, hml, hown, hts⟩ (c_X1_has l D cy L ns kk σ (a)) (cwV 1 hts gV_X1_39 rfl rfl rfl (by decide +kernel) ⟨Nat.le_of_ble_eq_true rfl, Nat.le_of_ble_eq_true rfl⟩) (g_preV hK hN hG (x := (2, 0, 0)) ⟨rfl, rfl⟩ (q := (RX1, TX1, 5)) (x_at_2 cy L ns kk (0) (0) (σ (2, 0, 0))) rfl) rfl rfl hl.1 rfl (lv_room (Nat.le_of_ble_eq_true rfl)) dX1_addPair_12 ⟨Nat.zero_le _, Nat.zero_le _⟩) hS (fun H locs hG hS => ?_)
      refine W.eq (g2 := F0 m 15 ls [.int (g_b (0 ≤ (a).toInt ∧ (a).toInt < (σ (2, 0, 0) 4).toInt))]) rfl ?_
      refine kz_b_eq (tgt := 26) hx hb dX1_addPair_15 (by decide) (fun c_15_3 => ?_) (fun c_15_3 => ?_)
      · refine lv_iconst (v := (-1)) hx hb dX1_addPair_26 (by decide) ?_
        exact s_iret hx hb hr hlk hG hS dX1_addPair_27 (by unfold x_pairR; (repeat' split) <;> first | rfl | (exfalso; omega)) (by unfold x_pairM; (repeat' split) <;> first | rfl | (exfalso; omega))
      · refine lv_aload_n hx hb dX1_addPair_18 rfl (lv_at hl 0 rfl) ?_
        refine lv_iload_n hx hb dX1_addPair_19 rfl (lv_at hl 3 rfl) ?_
        refine g_cont (va_runV (As := [.int (b)]) (rest := []) ⟨hx, hb, hml, hown, hts⟩ (c_X1_has l D cy L ns kk σ (b)) (cwV 1 hts gV_X1_39 rfl rfl rfl (by decide +kernel) ⟨Nat.le_of_ble_eq_true rfl, Nat.le_of_ble_eq_true rfl⟩) (g_preV hK hN hG (x := (2, 0, 0)) ⟨rfl, rfl⟩ (q := (RX1, TX1, 5)) (x_at_2 cy L ns kk (0) (0) (σ (2, 0, 0))) rfl) rfl rfl hl.1 rfl (lv_room (Nat.le_of_ble_eq_true rfl)) dX1_addPair_20 ⟨Nat.zero_le _, Nat.zero_le _⟩) hS (fun H locs hG hS => ?_)
        refine W.eq (g2 := F0 m 23 ls [.int (g_b (0 ≤ (b).toInt ∧ (b).toInt < (σ (2, 0, 0) 4).toInt))]) rfl ?_
        refine kz_b_ne (tgt := 28) hx hb dX1_addPair_23 (by decide) (fun c_23_4 => ?_) (fun c_23_4 => ?_)
        · refine lv_aload_n hx hb dX1_addPair_28 rfl (lv_at hl 0 rfl) ?_
          refine lv_iload_n hx hb dX1_addPair_29 rfl (lv_at hl 1 rfl) ?_
          refine lv_iload_n hx hb dX1_addPair_30 rfl (lv_at hl 2 rfl) ?_
          refine lv_iload_n hx hb dX1_addPair_31 rfl (lv_at hl 3 rfl) ?_
          refine lv_iconst (v := 0) hx hb dX1_addPair_32 (by decide) ?_
          refine g_cont (va_runV (As := [.int (k), .int (a), .int (b), .int 0]) (rest := []) ⟨hx, hb, hml, hown, hts⟩ (c_X1_add l D cy L ns kk σ (k) (a) (b) (0) q0) (cwV 4 hts gV_X1_35 rfl rfl rfl (by decide +kernel) ⟨Nat.le_of_ble_eq_true rfl, Nat.le_of_ble_eq_true rfl⟩) (g_preV hK hN hG (x := (2, 0, 0)) ⟨rfl, rfl⟩ (q := (RX1, TX1, 5)) (x_at_2 cy L ns kk (0) (0) (σ (2, 0, 0))) rfl) rfl rfl hl.1 rfl (lv_room (Nat.le_of_ble_eq_true rfl)) dX1_addPair_33 ⟨Nat.zero_le _, Nat.zero_le _⟩) hS (fun H locs hG hS => ?_)
          refine W.eq (g2 := F0 m 36 ls [.int (x_qR σ)]) rfl ?_
          exact s_iret hx hb hr hlk hG hS dX1_addPair_36 (by unfold x_pairR; (repeat' split) <;> first | rfl | (exfalso; omega)) (by unfold x_pairM; (repeat' split) <;> first | rfl | (exfalso; omega))
        · refine lv_iconst (v := (-1)) hx hb dX1_addPair_26 (by decide) ?_
          exact s_iret hx hb hr hlk hG hS dX1_addPair_27 (by unfold x_pairR; (repeat' split) <;> first | rfl | (exfalso; omega)) (by unfold x_pairM; (repeat' split) <;> first | rfl | (exfalso; omega))
set_option maxHeartbeats 4000000 in
set_option maxRecDepth 100000 in
theorem c_X1_isYes (l : Launch) (D : va_G) (cy : Nat → ClassId) (L : g_S → Nat) (ns : Nat) (kk : Nat → Nat) (σ : g_S → Nat → Int32) (yes : Int64) (q : Int32) : x_Met l D cy L ns kk yX1_isYes (.code yX1_isYes cX1_isYes 3 (some .boolean)) 0 σ [.long (yes), .int (q)] (some (.int (g_b (x_bit yes q)))) σ := by
  refine g_Met.of (by decide) (Nat.le_of_ble_eq_true rfl) ?_
  intro pg e s m below meth c hx hb hr hlk hml hown hts hK hN H locs hG hS ls hl
  have hown : s.vm.findClass RX1 = some m.cls := hown
  have hl : lv_has ls 3 [(0, .long (yes)), (2, .int (q))] := hl
  refine lv_lload_n hx hb dX1_isYes_0 rfl (lv_at hl 0 rfl) ?_
  refine lv_iload_n hx hb dX1_isYes_1 rfl (lv_at hl 1 rfl) ?_
  refine lv_lshr hx hb dX1_isYes_2 rfl ?_
  refine lv_lconst (v := 1) hx hb dX1_isYes_3 rfl ?_
  refine lv_land hx hb dX1_isYes_4 ?_
  refine lv_lconst (v := 0) hx hb dX1_isYes_5 rfl ?_
  refine W.lcmp hx hb dX1_isYes_6 ?_
  refine kz_if_eq (X := (lg_cmp (((yes) >>> ((q).toInt64 &&& 63)) &&& (1)) (0)).toInt) hx hb rfl dX1_isYes_7 (tgt := 14) (by decide) (fun c_7_1 => ?_) (fun c_7_1 => ?_)
  · refine lv_iconst (v := 0) hx hb dX1_isYes_14 (by decide) ?_
    exact s_zret hx hb hr hlk hG hS dX1_isYes_15 rfl (by unfold g_b; simp only [lg_cmp_0] at *; (repeat' split) <;> first | rfl | contradiction) rfl
  · refine lv_iconst (v := 1) hx hb dX1_isYes_10 (by decide) ?_
    refine lv_goto (tgt := 15) hx hb dX1_isYes_11 (by decide) ?_
    exact s_zret hx hb hr hlk hG hS dX1_isYes_15 rfl (by unfold g_b; simp only [lg_cmp_0] at *; (repeat' split) <;> first | rfl | contradiction) rfl
set_option maxHeartbeats 4000000 in
set_option maxRecDepth 100000 in
theorem c_X1_holds (l : Launch) (D : va_G) (cy : Nat → ClassId) (L : g_S → Nat) (ns : Nat) (kk : Nat → Nat) (σ : g_S → Nat → Int32) (q rc : Int32) (yes : Int64) (hq : 0 ≤ q.toInt ∧ q.toInt < 40) (hn : (σ (1, 0, 0) 2).toInt ≤ 100) : x_Met l D cy L ns kk yX1_holds (.code yX1_holds cX1_holds 9 (some .boolean)) 2 σ [.ref (L (2, 0, 0)), .int (q), .ref (L (1, 0, 0)), .int (rc), .long (yes)] (some (.int (x_holdsI σ q rc yes))) σ := by
  refine g_Met.of (by decide) (Nat.le_of_ble_eq_true rfl) ?_
  intro pg e s m below meth c hx hb hr hlk hml hown hts hK hN H locs hG hS ls hl
  have hown : s.vm.findClass RX1 = some m.cls := hown
  have hl : lv_has ls 9 [(0, .ref (L (2, 0, 0))), (1, .int (q)), (2, .ref (L (1, 0, 0))), (3, .int (rc)), (4, .long (yes))] := hl
  refine lv_aload_n hx hb dX1_holds_0 rfl (lv_at hl 0 rfl) ?_
  refine g_get (C := RX1) (T := TX1) (N := 5) (v := .ref (L (6, 0, 0))) hx hb hts inX1g hown hK hG (2, 0, 0) ⟨rfl, rfl⟩ (x_at_2 cy L ns kk (0) (0) (σ (2, 0, 0))) rfl 1 (by decide) fl_X1_15 rfl dX1_holds_1 ?_
  refine lv_iload_n hx hb dX1_holds_4 rfl (lv_at hl 1 rfl) ?_
  refine g_iald (n := 40) hx hb hK hG (6, 0, 0) ⟨rfl, rfl⟩ 0 rfl rfl (g_vp (by omega) (by omega)) dX1_holds_5 ?_
  refine lv_istore (lv' := [(6, .int (σ (6, 0, 0) ((q).toNatClampNeg))), (0, .ref (L (2, 0, 0))), (1, .int (q)), (2, .ref (L (1, 0, 0))), (3, .int (rc)), (4, .long (yes))]) hx hb dX1_holds_6 hl (by decide) rfl (fun ls hl => ?_)
  refine lv_aload_n hx hb dX1_holds_8 rfl (lv_at hl 1 rfl) ?_
  refine g_get (C := RX1) (T := TX1) (N := 5) (v := .ref (L (7, 0, 0))) hx hb hts inX1g hown hK hG (2, 0, 0) ⟨rfl, rfl⟩ (x_at_2 cy L ns kk (0) (0) (σ (2, 0, 0))) rfl 2 (by decide) fl_X1_18 rfl dX1_holds_9 ?_
  refine lv_iload_n hx hb dX1_holds_12 rfl (lv_at hl 2 rfl) ?_
  refine g_iald (n := 40) hx hb hK hG (7, 0, 0) ⟨rfl, rfl⟩ 0 rfl rfl (g_vp (by omega) (by omega)) dX1_holds_13 ?_
  refine lv_istore (lv' := [(7, .int (σ (7, 0, 0) ((q).toNatClampNeg))), (6, .int (σ (6, 0, 0) ((q).toNatClampNeg))), (0, .ref (L (2, 0, 0))), (1, .int (q)), (2, .ref (L (1, 0, 0))), (3, .int (rc)), (4, .long (yes))]) hx hb dX1_holds_14 hl (by decide) rfl (fun ls hl => ?_)
  refine lv_aload_n hx hb dX1_holds_16 rfl (lv_at hl 2 rfl) ?_
  refine g_get (C := RX1) (T := TX1) (N := 5) (v := .ref (L (5, 0, 0))) hx hb hts inX1g hown hK hG (2, 0, 0) ⟨rfl, rfl⟩ (x_at_2 cy L ns kk (0) (0) (σ (2, 0, 0))) rfl 0 (by decide) fl_X1_9 rfl dX1_holds_17 ?_
  refine lv_iload_n hx hb dX1_holds_20 rfl (lv_at hl 3 rfl) ?_
  refine g_iald (n := 40) hx hb hK hG (5, 0, 0) ⟨rfl, rfl⟩ 0 rfl rfl (g_vp (by omega) (by omega)) dX1_holds_21 ?_
  rcases (show (σ (5, 0, 0) ((q).toNatClampNeg)).toInt = 2 ∨ (σ (5, 0, 0) ((q).toNatClampNeg)).toInt = 3 ∨ (σ (5, 0, 0) ((q).toNatClampNeg)).toInt = 4 ∨ ((σ (5, 0, 0) ((q).toNatClampNeg)).toInt < 2 ∨ 4 < (σ (5, 0, 0) ((q).toNatClampNeg)).toInt) by omega) with c_22_1 | c_22_1 | c_22_1 | c_22_1
  · refine lv_tableIn (off := 26) (tgt := 48) hx hb dX1_holds_22 (by have := (show (σ (5, 0, 0) ((q).toNatClampNeg) : Int32).toInt = (σ (5, 0, 0) ((q).toNatClampNeg)).toInt from rfl); omega) (by have := (show (σ (5, 0, 0) ((q).toNatClampNeg) : Int32).toInt = (σ (5, 0, 0) ((q).toNatClampNeg)).toInt from rfl); omega) (by rw [((show (σ (5, 0, 0) ((q).toNatClampNeg) : Int32).toInt = (σ (5, 0, 0) ((q).toNatClampNeg)).toInt from rfl)).trans c_22_1]; rfl) (by decide) ?_
    refine lv_lload hx hb dX1_holds_48 (lv_at hl 6 rfl) ?_
    refine lv_iload hx hb dX1_holds_50 (lv_at hl 1 rfl) ?_
    refine g_cont (va_runS (As := [.long (yes), .int (σ (6, 0, 0) ((q).toNatClampNeg))]) (rest := []) ⟨hx, hb, hml, hown, hts⟩ (c_X1_isYes l D cy L ns kk σ (yes) (σ (6, 0, 0) ((q).toNatClampNeg))) (cwS 2 hts gS_X1_46 rfl rfl rfl (by decide +kernel) ⟨Nat.le_of_ble_eq_true rfl, Nat.le_of_ble_eq_true rfl⟩) (g_preS hK hN hG) rfl rfl hl.1 rfl (lv_room (Nat.le_of_ble_eq_true rfl)) dX1_holds_52 ⟨Nat.zero_le _, Nat.zero_le _⟩) hS (fun H locs hG hS => ?_)
    refine W.eq (g2 := F0 m 55 ls [.int (g_b (x_bit (yes) (σ (6, 0, 0) ((q).toNatClampNeg))))]) rfl ?_
    refine kz_b_eq (tgt := 72) hx hb dX1_holds_55 (by decide) (fun c_55_2 => ?_) (fun c_55_2 => ?_)
    · refine lv_iconst (v := 0) hx hb dX1_holds_72 (by decide) ?_
      exact s_zret hx hb hr hlk hG hS dX1_holds_73 rfl (by unfold x_holdsI; (repeat' split) <;> first | rfl | (exfalso; omega) | (exfalso; simp_all; done)) rfl
    · refine lv_lload hx hb dX1_holds_58 (lv_at hl 6 rfl) ?_
      refine lv_iload hx hb dX1_holds_60 (lv_at hl 0 rfl) ?_
      refine g_cont (va_runS (As := [.long (yes), .int (σ (7, 0, 0) ((q).toNatClampNeg))]) (rest := []) ⟨hx, hb, hml, hown, hts⟩ (c_X1_isYes l D cy L ns kk σ (yes) (σ (7, 0, 0) ((q).toNatClampNeg))) (cwS 2 hts gS_X1_46 rfl rfl rfl (by decide +kernel) ⟨Nat.le_of_ble_eq_true rfl, Nat.le_of_ble_eq_true rfl⟩) (g_preS hK hN hG) rfl rfl hl.1 rfl (lv_room (Nat.le_of_ble_eq_true rfl)) dX1_holds_62 ⟨Nat.zero_le _, Nat.zero_le _⟩) hS (fun H locs hG hS => ?_)
      refine W.eq (g2 := F0 m 65 ls [.int (g_b (x_bit (yes) (σ (7, 0, 0) ((q).toNatClampNeg))))]) rfl ?_
      refine kz_b_eq (tgt := 72) hx hb dX1_holds_65 (by decide) (fun c_65_3 => ?_) (fun c_65_3 => ?_)
      · refine lv_iconst (v := 0) hx hb dX1_holds_72 (by decide) ?_
        exact s_zret hx hb hr hlk hG hS dX1_holds_73 rfl (by unfold x_holdsI; (repeat' split) <;> first | rfl | (exfalso; omega) | (exfalso; simp_all; done)) rfl
      · refine lv_iconst (v := 1) hx hb dX1_holds_68 (by decide) ?_
        refine lv_goto (tgt := 73) hx hb dX1_holds_69 (by decide) ?_
        exact s_zret hx hb hr hlk hG hS dX1_holds_73 rfl (by unfold x_holdsI; (repeat' split) <;> first | rfl | (exfalso; omega) | (exfalso; simp_all; done)) rfl
  · refine lv_tableIn (off := 52) (tgt := 74) hx hb dX1_holds_22 (by have := (show (σ (5, 0, 0) ((q).toNatClampNeg) : Int32).toInt = (σ (5, 0, 0) ((q).toNatClampNeg)).toInt from rfl); omega) (by have := (show (σ (5, 0, 0) ((q).toNatClampNeg) : Int32).toInt = (σ (5, 0, 0) ((q).toNatClampNeg)).toInt from rfl); omega) (by rw [((show (σ (5, 0, 0) ((q).toNatClampNeg) : Int32).toInt = (σ (5, 0, 0) ((q).toNatClampNeg)).toInt from rfl)).trans c_22_1]; rfl) (by decide) ?_
    refine lv_lload hx hb dX1_holds_74 (lv_at hl 6 rfl) ?_
    refine lv_iload hx hb dX1_holds_76 (lv_at hl 1 rfl) ?_
    refine g_cont (va_runS (As := [.long (yes), .int (σ (6, 0, 0) ((q).toNatClampNeg))]) (rest := []) ⟨hx, hb, hml, hown, hts⟩ (c_X1_isYes l D cy L ns kk σ (yes) (σ (6, 0, 0) ((q).toNatClampNeg))) (cwS 2 hts gS_X1_46 rfl rfl rfl (by decide +kernel) ⟨Nat.le_of_ble_eq_true rfl, Nat.le_of_ble_eq_true rfl⟩) (g_preS hK hN hG) rfl rfl hl.1 rfl (lv_room (Nat.le_of_ble_eq_true rfl)) dX1_holds_78 ⟨Nat.zero_le _, Nat.zero_le _⟩) hS (fun H locs hG hS => ?_)
    refine W.eq (g2 := F0 m 81 ls [.int (g_b (x_bit (yes) (σ (6, 0, 0) ((q).toNatClampNeg))))]) rfl ?_
    refine kz_b_ne (tgt := 94) hx hb dX1_holds_81 (by decide) (fun c_81_4 => ?_) (fun c_81_4 => ?_)
    · refine lv_iconst (v := 1) hx hb dX1_holds_94 (by decide) ?_
      refine lv_goto (tgt := 99) hx hb dX1_holds_95 (by decide) ?_
      exact s_zret hx hb hr hlk hG hS dX1_holds_99 rfl (by unfold x_holdsI; (repeat' split) <;> first | rfl | (exfalso; omega) | (exfalso; simp_all; done)) rfl
    · refine lv_lload hx hb dX1_holds_84 (lv_at hl 6 rfl) ?_
      refine lv_iload hx hb dX1_holds_86 (lv_at hl 0 rfl) ?_
      refine g_cont (va_runS (As := [.long (yes), .int (σ (7, 0, 0) ((q).toNatClampNeg))]) (rest := []) ⟨hx, hb, hml, hown, hts⟩ (c_X1_isYes l D cy L ns kk σ (yes) (σ (7, 0, 0) ((q).toNatClampNeg))) (cwS 2 hts gS_X1_46 rfl rfl rfl (by decide +kernel) ⟨Nat.le_of_ble_eq_true rfl, Nat.le_of_ble_eq_true rfl⟩) (g_preS hK hN hG) rfl rfl hl.1 rfl (lv_room (Nat.le_of_ble_eq_true rfl)) dX1_holds_88 ⟨Nat.zero_le _, Nat.zero_le _⟩) hS (fun H locs hG hS => ?_)
      refine W.eq (g2 := F0 m 91 ls [.int (g_b (x_bit (yes) (σ (7, 0, 0) ((q).toNatClampNeg))))]) rfl ?_
      refine kz_b_eq (tgt := 98) hx hb dX1_holds_91 (by decide) (fun c_91_5 => ?_) (fun c_91_5 => ?_)
      · refine lv_iconst (v := 0) hx hb dX1_holds_98 (by decide) ?_
        exact s_zret hx hb hr hlk hG hS dX1_holds_99 rfl (by unfold x_holdsI; (repeat' split) <;> first | rfl | (exfalso; omega) | (exfalso; simp_all; done)) rfl
      · refine lv_iconst (v := 1) hx hb dX1_holds_94 (by decide) ?_
        refine lv_goto (tgt := 99) hx hb dX1_holds_95 (by decide) ?_
        exact s_zret hx hb hr hlk hG hS dX1_holds_99 rfl (by unfold x_holdsI; (repeat' split) <;> first | rfl | (exfalso; omega) | (exfalso; simp_all; done)) rfl
  · refine lv_tableIn (off := 78) (tgt := 100) hx hb dX1_holds_22 (by have := (show (σ (5, 0, 0) ((q).toNatClampNeg) : Int32).toInt = (σ (5, 0, 0) ((q).toNatClampNeg)).toInt from rfl); omega) (by have := (show (σ (5, 0, 0) ((q).toNatClampNeg) : Int32).toInt = (σ (5, 0, 0) ((q).toNatClampNeg)).toInt from rfl); omega) (by rw [((show (σ (5, 0, 0) ((q).toNatClampNeg) : Int32).toInt = (σ (5, 0, 0) ((q).toNatClampNeg)).toInt from rfl)).trans c_22_1]; rfl) (by decide) ?_
    refine lv_lload hx hb dX1_holds_100 (lv_at hl 6 rfl) ?_
    refine lv_iload hx hb dX1_holds_102 (lv_at hl 1 rfl) ?_
    refine g_cont (va_runS (As := [.long (yes), .int (σ (6, 0, 0) ((q).toNatClampNeg))]) (rest := []) ⟨hx, hb, hml, hown, hts⟩ (c_X1_isYes l D cy L ns kk σ (yes) (σ (6, 0, 0) ((q).toNatClampNeg))) (cwS 2 hts gS_X1_46 rfl rfl rfl (by decide +kernel) ⟨Nat.le_of_ble_eq_true rfl, Nat.le_of_ble_eq_true rfl⟩) (g_preS hK hN hG) rfl rfl hl.1 rfl (lv_room (Nat.le_of_ble_eq_true rfl)) dX1_holds_104 ⟨Nat.zero_le _, Nat.zero_le _⟩) hS (fun H locs hG hS => ?_)
    refine W.eq (g2 := F0 m 107 ls [.int (g_b (x_bit (yes) (σ (6, 0, 0) ((q).toNatClampNeg))))]) rfl ?_
    refine kz_b_eq (tgt := 124) hx hb dX1_holds_107 (by decide) (fun c_107_6 => ?_) (fun c_107_6 => ?_)
    · refine lv_iconst (v := 0) hx hb dX1_holds_124 (by decide) ?_
      exact s_zret hx hb hr hlk hG hS dX1_holds_125 rfl (by unfold x_holdsI; (repeat' split) <;> first | rfl | (exfalso; omega) | (exfalso; simp_all; done)) rfl
    · refine lv_lload hx hb dX1_holds_110 (lv_at hl 6 rfl) ?_
      refine lv_iload hx hb dX1_holds_112 (lv_at hl 0 rfl) ?_
      refine g_cont (va_runS (As := [.long (yes), .int (σ (7, 0, 0) ((q).toNatClampNeg))]) (rest := []) ⟨hx, hb, hml, hown, hts⟩ (c_X1_isYes l D cy L ns kk σ (yes) (σ (7, 0, 0) ((q).toNatClampNeg))) (cwS 2 hts gS_X1_46 rfl rfl rfl (by decide +kernel) ⟨Nat.le_of_ble_eq_true rfl, Nat.le_of_ble_eq_true rfl⟩) (g_preS hK hN hG) rfl rfl hl.1 rfl (lv_room (Nat.le_of_ble_eq_true rfl)) dX1_holds_114 ⟨Nat.zero_le _, Nat.zero_le _⟩) hS (fun H locs hG hS => ?_)
      refine W.eq (g2 := F0 m 117 ls [.int (g_b (x_bit (yes) (σ (7, 0, 0) ((q).toNatClampNeg))))]) rfl ?_
      refine kz_b_ne (tgt := 124) hx hb dX1_holds_117 (by decide) (fun c_117_7 => ?_) (fun c_117_7 => ?_)
      · refine lv_iconst (v := 0) hx hb dX1_holds_124 (by decide) ?_
        exact s_zret hx hb hr hlk hG hS dX1_holds_125 rfl (by unfold x_holdsI; (repeat' split) <;> first | rfl | (exfalso; omega) | (exfalso; simp_all; done)) rfl
      · refine lv_iconst (v := 1) hx hb dX1_holds_120 (by decide) ?_
        refine lv_goto (tgt := 125) hx hb dX1_holds_121 (by decide) ?_
        exact s_zret hx hb hr hlk hG hS dX1_holds_125 rfl (by unfold x_holdsI; (repeat' split) <;> first | rfl | (exfalso; omega) | (exfalso; simp_all; done)) rfl
  · refine lv_tableOut (tgt := 126) hx hb dX1_holds_22 (by have := (show (σ (5, 0, 0) ((q).toNatClampNeg) : Int32).toInt = (σ (5, 0, 0) ((q).toNatClampNeg)).toInt from rfl); omega) (by decide) ?_
    refine lv_aload_n hx hb dX1_holds_126 rfl (lv_at hl 4 rfl) ?_
    refine lv_iload_n hx hb dX1_holds_127 rfl (lv_at hl 5 rfl) ?_
    refine lv_iload hx hb dX1_holds_128 (lv_at hl 1 rfl) ?_
    refine g_cont (va_runV (As := [.int (rc), .int (σ (6, 0, 0) ((q).toNatClampNeg))]) (rest := []) ⟨hx, hb, hml, hown, hts⟩ (c_X2_termOf l D cy L ns kk σ (rc) (σ (6, 0, 0) ((q).toNatClampNeg)) hn) (cwV 2 hts gV_X1_50 rfl rfl rfl (by decide +kernel) ⟨Nat.le_of_ble_eq_true rfl, Nat.le_of_ble_eq_true rfl⟩) (g_preV hK hN hG (x := (1, 0, 0)) ⟨rfl, rfl⟩ (q := (RX2, TX2, 3)) (x_at_1 cy L ns kk (0) (0) (σ (1, 0, 0))) rfl) rfl rfl hl.1 rfl (lv_room (Nat.le_of_ble_eq_true rfl)) dX1_holds_130 ⟨Nat.zero_le _, Nat.zero_le _⟩) hS (fun H locs hG hS => ?_)
    refine W.eq (g2 := F0 m 133 ls [.int (x_termOf σ (rc) (σ (6, 0, 0) ((q).toNatClampNeg)))]) rfl ?_
    refine lv_istore (lv' := [(8, .int (x_termOf σ (rc) (σ (6, 0, 0) ((q).toNatClampNeg)))), (7, .int (σ (7, 0, 0) ((q).toNatClampNeg))), (6, .int (σ (6, 0, 0) ((q).toNatClampNeg))), (0, .ref (L (2, 0, 0))), (1, .int (q)), (2, .ref (L (1, 0, 0))), (3, .int (rc)), (4, .long (yes))]) hx hb dX1_holds_133 hl (by decide) rfl (fun ls hl => ?_)
    refine lv_iload hx hb dX1_holds_135 (lv_at hl 0 rfl) ?_
    refine lv_iload hx hb dX1_holds_137 (lv_at hl 1 rfl) ?_
    refine kz_icmp_lt (X := (x_termOf σ (rc) (σ (6, 0, 0) ((q).toNatClampNeg))).toInt) (Y := (σ (7, 0, 0) ((q).toNatClampNeg)).toInt) hx hb rfl rfl dX1_holds_139 (tgt := 157) (by decide) (fun c_139_8 => ?_) (fun c_139_8 => ?_)
    · refine lv_iconst (v := 0) hx hb dX1_holds_157 (by decide) ?_
      exact s_zret hx hb hr hlk hG hS dX1_holds_158 rfl (by unfold x_holdsI; (repeat' split) <;> first | rfl | (exfalso; omega) | (exfalso; simp_all; done)) rfl
    · refine lv_iload hx hb dX1_holds_142 (lv_at hl 0 rfl) ?_
      refine lv_aload_n hx hb dX1_holds_144 rfl (lv_at hl 3 rfl) ?_
      refine g_get (C := RX1) (T := TX1) (N := 5) (v := .ref (L (8, 0, 0))) hx hb hts inX1g hown hK hG (2, 0, 0) ⟨rfl, rfl⟩ (x_at_2 cy L ns kk (0) (0) (σ (2, 0, 0))) rfl 3 (by decide) fl_X1_21 rfl dX1_holds_145 ?_
      refine lv_iload_n hx hb dX1_holds_148 rfl (lv_at hl 4 rfl) ?_
      refine g_iald (n := 40) hx hb hK hG (8, 0, 0) ⟨rfl, rfl⟩ 0 rfl rfl (g_vp (by omega) (by omega)) dX1_holds_149 ?_
      refine kz_icmp_gt (X := (x_termOf σ (rc) (σ (6, 0, 0) ((q).toNatClampNeg))).toInt) (Y := (σ (8, 0, 0) ((q).toNatClampNeg)).toInt) hx hb rfl rfl dX1_holds_150 (tgt := 157) (by decide) (fun c_150_9 => ?_) (fun c_150_9 => ?_)
      · refine lv_iconst (v := 0) hx hb dX1_holds_157 (by decide) ?_
        exact s_zret hx hb hr hlk hG hS dX1_holds_158 rfl (by unfold x_holdsI; (repeat' split) <;> first | rfl | (exfalso; omega) | (exfalso; simp_all; done)) rfl
      · refine lv_iconst (v := 1) hx hb dX1_holds_153 (by decide) ?_
        refine lv_goto (tgt := 158) hx hb dX1_holds_154 (by decide) ?_
        exact s_zret hx hb hr hlk hG hS dX1_holds_158 rfl (by unfold x_holdsI; (repeat' split) <;> first | rfl | (exfalso; omega) | (exfalso; simp_all; done)) rfl
set_option maxHeartbeats 4000000 in
set_option maxRecDepth 100000 in
theorem lp_finds (l : Launch) (D : va_G) (cy : Nat → ClassId) (L : g_S → Nat) (ns : Nat) (kk : Nat → Nat) (σ : g_S → Nat → Int32) {pg : Program} {e : Env} {s : State} {m : MethodId} {args : Array Value} {below : List Frame} {meth : Method} {c : Code} {Q : State → Prop} (C0 : g_C pg s m meth c args cX1_finds (some .boolean) 7 RX1 D (x_tys cy)) (hn : (σ (1, 0, 0) 2).toInt ≤ 100) (q40 : (σ (2, 0, 0) 4).toInt ≤ 40) (q rc : Int32) (hq : 0 ≤ q.toInt ∧ q.toInt < (σ (2, 0, 0) 4).toInt) :
    ∀ (n : Nat) (k : Nat) (yes : Int64) (H : Heap) (locs : List Loc) (ls : Array Slot), k + n = q.toInt.toNat + 1 → g_H D vwCl (x_dom ns kk) L (fun z => x_K cy L ns kk z (σ z)) H → va_S (g_A (x_dom ns kk) L) s.heap H locs → lv_has ls 7 [(6, .int (nI k)), (4, .long (yes)), (0, .ref (L (2, 0, 0))), (1, .int (q)), (2, .ref (L (1, 0, 0))), (3, .int (rc))] →
    (∀ (H : Heap) (locs : List Loc) (ls : Array Slot), g_H D vwCl (x_dom ns kk) L (fun z => x_K cy L ns kk z (σ z)) H → va_S (g_A (x_dom ns kk) L) s.heap H locs → lv_has ls 7 [(4, .long (x_yesGo σ rc n k yes)), (0, .ref (L (2, 0, 0))), (1, .int (q))] → W pg l e (g_R 3) s m args below meth c H locs 0 0 Q (F0 m 50 ls [])) →
    W pg l e (g_R 3) s m args below meth c H locs 0 0 Q (F0 m 16 ls []) := by
  obtain ⟨hx, hb, hr, hlk, hml, hown, hts, hK, hN⟩ := C0
  intro n
  induction n with
  | zero =>
    intro k yes H locs ls hv9 hG hS hl kk9
    have hz := g_nIT (show k < 2147483648 by omega)
    refine lv_iload hx hb dX1_finds_16 (lv_at hl 0 rfl) ?_
    refine lv_iload_n hx hb dX1_finds_18 rfl (lv_at hl 3 rfl) ?_
    refine kz_icmp_gt (X := ((k : Nat) : Int)) (Y := (q).toInt) hx hb (g_nIT (by omega)) rfl dX1_finds_19 (tgt := 50) (by decide) (fun c_19_1 => ?_) (fun c_19_1 => ?_)
    · exact kk9 H locs ls hG hS (lv_sub hl [1, 2, 3] rfl)
    · exact absurd c_19_1 (by omega)
  | succ n ih =>
    intro k yes H locs ls hv9 hG hS hl kk9
    have hz := g_nIT (show k < 2147483648 by omega)
    refine lv_iload hx hb dX1_finds_16 (lv_at hl 0 rfl) ?_
    refine lv_iload_n hx hb dX1_finds_18 rfl (lv_at hl 3 rfl) ?_
    refine kz_icmp_gt (X := ((k : Nat) : Int)) (Y := (q).toInt) hx hb (g_nIT (by omega)) rfl dX1_finds_19 (tgt := 50) (by decide) (fun c_19_1 => ?_) (fun c_19_1 => ?_)
    · exact absurd c_19_1 (by omega)
    · refine lv_aload_n hx hb dX1_finds_22 rfl (lv_at hl 2 rfl) ?_
      refine lv_iload hx hb dX1_finds_23 (lv_at hl 0 rfl) ?_
      refine lv_aload_n hx hb dX1_finds_25 rfl (lv_at hl 4 rfl) ?_
      refine lv_iload_n hx hb dX1_finds_26 rfl (lv_at hl 5 rfl) ?_
      refine lv_lload hx hb dX1_finds_27 (lv_at hl 1 rfl) ?_
      refine g_cont (va_runV (As := [.int (nI k), .ref (L (1, 0, 0)), .int (rc), .long (yes)]) (rest := []) ⟨hx, hb, hml, hown, hts⟩ (c_X1_holds l D cy L ns kk σ (nI k) (rc) (yes) ⟨by omega, by omega⟩ hn) (cwV 4 hts gV_X1_42 rfl rfl rfl (by decide +kernel) ⟨Nat.le_of_ble_eq_true rfl, Nat.le_of_ble_eq_true rfl⟩) (g_preV hK hN hG (x := (2, 0, 0)) ⟨rfl, rfl⟩ (q := (RX1, TX1, 5)) (x_at_2 cy L ns kk (0) (0) (σ (2, 0, 0))) rfl) rfl rfl hl.1 rfl (lv_room (Nat.le_of_ble_eq_true rfl)) dX1_finds_29 ⟨Nat.zero_le _, Nat.zero_le _⟩) hS (fun H locs hG hS => ?_)
      refine W.eq (g2 := F0 m 32 ls [.int (x_holdsI σ (nI k) (rc) (yes))]) rfl ?_
      refine kz_if_eq (X := (x_holdsI σ (nI k) (rc) (yes)).toInt) hx hb rfl dX1_finds_32 (tgt := 44) (by decide) (fun c_32_2 => ?_) (fun c_32_2 => ?_)
      · refine lv_iinc (v := nI (k + 1)) (lv' := [(6, .int (nI (k + 1))), (4, .long (yes)), (0, .ref (L (2, 0, 0))), (1, .int (q)), (2, .ref (L (1, 0, 0))), (3, .int (rc))]) hx hb dX1_finds_44 hl (k := 0) rfl (nI_1 (k)) (by decide) rfl (fun ls hl => ?_)
        refine lv_goto (tgt := 16) hx hb dX1_finds_47 (by decide) ?_
        have e90 : x_yesGo σ rc (n + 1) k yes = x_yesGo σ rc n (k + 1) (yes) := (by rw [x_yesGo_s]; (repeat' split) <;> first | rfl | (exfalso; omega))
        rw [e90] at kk9
        exact ih (k + 1) (yes) H locs ls (by omega) hG hS (lv_sub hl [0, 1, 2, 3, 4, 5] rfl) kk9
      · refine lv_lload hx hb dX1_finds_35 (lv_at hl 1 rfl) ?_
        refine lv_lconst (v := 1) hx hb dX1_finds_37 rfl ?_
        refine lv_iload hx hb dX1_finds_38 (lv_at hl 0 rfl) ?_
        refine lv_lshl hx hb dX1_finds_40 rfl ?_
        refine lv_lor hx hb dX1_finds_41 ?_
        refine lv_lstore (lv' := [(4, .long ((yes) ||| ((1) <<< ((nI k).toInt64 &&& 63)))), (6, .int (nI k)), (0, .ref (L (2, 0, 0))), (1, .int (q)), (2, .ref (L (1, 0, 0))), (3, .int (rc))]) hx hb dX1_finds_42 hl (by decide) rfl (fun ls hl => ?_)
        refine lv_iinc (v := nI (k + 1)) (lv' := [(6, .int (nI (k + 1))), (4, .long ((yes) ||| ((1) <<< ((nI k).toInt64 &&& 63)))), (0, .ref (L (2, 0, 0))), (1, .int (q)), (2, .ref (L (1, 0, 0))), (3, .int (rc))]) hx hb dX1_finds_44 hl (k := 1) rfl (nI_1 (k)) (by decide) rfl (fun ls hl => ?_)
        refine lv_goto (tgt := 16) hx hb dX1_finds_47 (by decide) ?_
        have e90 : x_yesGo σ rc (n + 1) k yes = x_yesGo σ rc n (k + 1) ((yes) ||| ((1) <<< ((nI k).toInt64 &&& 63))) := (by rw [x_yesGo_s]; (repeat' split) <;> first | rfl | (exfalso; omega))
        rw [e90] at kk9
        exact ih (k + 1) ((yes) ||| ((1) <<< ((nI k).toInt64 &&& 63))) H locs ls (by omega) hG hS (lv_sub hl [0, 1, 2, 3, 4, 5] rfl) kk9
set_option maxHeartbeats 4000000 in
set_option maxRecDepth 100000 in
theorem c_X1_finds (l : Launch) (D : va_G) (cy : Nat → ClassId) (L : g_S → Nat) (ns : Nat) (kk : Nat → Nat) (σ : g_S → Nat → Int32) (q rc : Int32) (hn : (σ (1, 0, 0) 2).toInt ≤ 100) (q40 : (σ (2, 0, 0) 4).toInt ≤ 40) : x_Met l D cy L ns kk yX1_finds (.code yX1_finds cX1_finds 7 (some .boolean)) 3 σ [.ref (L (2, 0, 0)), .int (q), .ref (L (1, 0, 0)), .int (rc)] (some (.int (g_b (x_findsP σ q rc)))) σ := by
  refine g_Met.of (by decide) (Nat.le_of_ble_eq_true rfl) ?_
  intro pg e s m below meth c hx hb hr hlk hml hown hts hK hN H locs hG hS ls hl
  have hown : s.vm.findClass RX1 = some m.cls := hown
  have hl : lv_has ls 7 [(0, .ref (L (2, 0, 0))), (1, .int (q)), (2, .ref (L (1, 0, 0))), (3, .int (rc))] := hl
  refine lv_aload_n hx hb dX1_finds_0 rfl (lv_at hl 0 rfl) ?_
  refine lv_iload_n hx hb dX1_finds_1 rfl (lv_at hl 1 rfl) ?_
  refine g_cont (va_runV (As := [.int (q)]) (rest := []) ⟨hx, hb, hml, hown, hts⟩ (c_X1_has l D cy L ns kk σ (q)) (cwV 1 hts gV_X1_39 rfl rfl rfl (by decide +kernel) ⟨Nat.le_of_ble_eq_true rfl, Nat.le_of_ble_eq_true rfl⟩) (g_preV hK hN hG (x := (2, 0, 0)) ⟨rfl, rfl⟩ (q := (RX1, TX1, 5)) (x_at_2 cy L ns kk (0) (0) (σ (2, 0, 0))) rfl) rfl rfl hl.1 rfl (lv_room (Nat.le_of_ble_eq_true rfl)) dX1_finds_2 ⟨Nat.zero_le _, Nat.zero_le _⟩) hS (fun H locs hG hS => ?_)
  refine W.eq (g2 := F0 m 5 ls [.int (g_b (0 ≤ (q).toInt ∧ (q).toInt < (σ (2, 0, 0) 4).toInt))]) rfl ?_
  refine kz_b_ne (tgt := 10) hx hb dX1_finds_5 (by decide) (fun c_5_1 => ?_) (fun c_5_1 => ?_)
  · refine lv_lconst (v := 0) hx hb dX1_finds_10 rfl ?_
    refine lv_lstore (lv' := [(4, .long (0)), (0, .ref (L (2, 0, 0))), (1, .int (q)), (2, .ref (L (1, 0, 0))), (3, .int (rc))]) hx hb dX1_finds_11 hl (by decide) rfl (fun ls hl => ?_)
    refine lv_iconst (v := 0) hx hb dX1_finds_13 (by decide) ?_
    refine lv_istore (lv' := [(6, .int 0), (4, .long (0)), (0, .ref (L (2, 0, 0))), (1, .int (q)), (2, .ref (L (1, 0, 0))), (3, .int (rc))]) hx hb dX1_finds_14 hl (by decide) rfl (fun ls hl => ?_)
    refine lp_finds l D cy L ns kk σ ⟨hx, hb, hr, hlk, hml, hown, hts, hK, hN⟩ hn q40 q rc (by omega) (q.toInt.toNat + 1) 0 0 H locs ls (by omega) hG hS (lv_sub hl [0, 1, 2, 3, 4, 5] rfl) (fun H locs ls hG hS hl => ?_)
    refine lv_lload hx hb dX1_finds_50 (lv_at hl 0 rfl) ?_
    refine lv_iload_n hx hb dX1_finds_52 rfl (lv_at hl 2 rfl) ?_
    refine g_cont (va_runS (As := [.long (x_yesGo σ rc (q.toInt.toNat + 1) 0 0), .int (q)]) (rest := []) ⟨hx, hb, hml, hown, hts⟩ (c_X1_isYes l D cy L ns kk σ (x_yesGo σ rc (q.toInt.toNat + 1) 0 0) (q)) (cwS 2 hts gS_X1_46 rfl rfl rfl (by decide +kernel) ⟨Nat.le_of_ble_eq_true rfl, Nat.le_of_ble_eq_true rfl⟩) (g_preS hK hN hG) rfl rfl hl.1 rfl (lv_room (Nat.le_of_ble_eq_true rfl)) dX1_finds_53 ⟨Nat.zero_le _, Nat.zero_le _⟩) hS (fun H locs hG hS => ?_)
    refine W.eq (g2 := F0 m 56 ls [.int (g_b (x_bit (x_yesGo σ rc (q.toInt.toNat + 1) 0 0) (q)))]) rfl ?_
    exact s_zret hx hb hr hlk hG hS dX1_finds_56 g_b_nar (by unfold g_b x_findsP; (repeat' split) <;> first | rfl | (exfalso; simp_all; done) | (exfalso; omega)) rfl
  · refine lv_iconst (v := 0) hx hb dX1_finds_8 (by decide) ?_
    exact s_zret hx hb hr hlk hG hS dX1_finds_9 rfl (by unfold g_b x_findsP; rw [if_neg (by omega)]) rfl
end
section
/-! the class: its result sets -/
def x_make (σ : g_S → Nat → Int32) (i j : Nat) : g_S → Nat → Int32 := g_up (g_up σ (18, i, j) 2 1) (18, i, j) 1 0
def x_forget (σ : g_S → Nat → Int32) (i j : Nat) : g_S → Nat → Int32 := g_up (g_up σ (18, i, j) 2 0) (18, i, j) 1 0
def x_rsAdd (σ : g_S → Nat → Int32) (i j : Nat) (r : Int32) : g_S → Nat → Int32 := if 100 ≤ (σ (18, i, j) 1).toInt then σ else g_up (g_up σ (19, i, j) (σ (18, i, j) 1).toNatClampNeg r) (18, i, j) 1 (σ (18, i, j) 1 + 1)
def x_rsAt (σ : g_S → Nat → Int32) (i j : Nat) (p : Int32) : Int32 := if 0 ≤ p.toInt ∧ p.toInt < (σ (18, i, j) 1).toInt then σ (19, i, j) p.toNatClampNeg else -1
def x_key (t down : Int32) : Int32 := if t.toInt = -1 then 1000 else if down.toInt = 0 then t else 999 - t
def x_inGo (i j : Nat) (x down key : Int32) : Nat → (g_S → Nat → Int32) → (g_S → Nat → Int32) × Nat
  | 0, σ => (σ, 0)
  | h + 1, σ => if key.toInt < (x_key (x_termOf σ (σ (19, i, j) h) x) down).toInt then x_inGo i j x down key h (g_up σ (19, i, j) (h + 1) (σ (19, i, j) h)) else (σ, h + 1)
theorem x_inGo_s (i j : Nat) (x down key : Int32) (h : Nat) (σ : g_S → Nat → Int32) : x_inGo i j x down key (h + 1) σ = if key.toInt < (x_key (x_termOf σ (σ (19, i, j) h) x) down).toInt then x_inGo i j x down key h (g_up σ (19, i, j) (h + 1) (σ (19, i, j) h)) else (σ, h + 1) := rfl
theorem x_inGo_row (i j : Nat) (x down key : Int32) {y : g_S} (hy : y ≠ (19, i, j)) : ∀ (h : Nat) (σ : g_S → Nat → Int32), (x_inGo i j x down key h σ).1 y = σ y := by
  intro h
  induction h with
  | zero => intro σ; rfl
  | succ h ih =>
    intro σ
    rw [x_inGo_s]
    split
    · rw [ih, g_up_row hy]
    · rfl
theorem x_inGo_le (i j : Nat) (x down key : Int32) : ∀ (h : Nat) (σ : g_S → Nat → Int32), (x_inGo i j x down key h σ).2 ≤ h := by
  intro h
  induction h with
  | zero => intro σ; exact Nat.le_refl 0
  | succ h ih =>
    intro σ
    rw [x_inGo_s]
    split
    · exact Nat.le_succ_of_le (ih _)
    · exact Nat.le_refl _
def x_ordGo (i j : Nat) (x down : Int32) : Nat → Nat → (g_S → Nat → Int32) → (g_S → Nat → Int32)
  | 0, _, σ => σ
  | n + 1, k, σ => x_ordGo i j x down n (k + 1) (g_up (x_inGo i j x down (x_key (x_termOf σ (σ (19, i, j) k) x) down) k σ).1 (19, i, j) (x_inGo i j x down (x_key (x_termOf σ (σ (19, i, j) k) x) down) k σ).2 (σ (19, i, j) k))
theorem x_ordGo_s (i j : Nat) (x down : Int32) (n k : Nat) (σ : g_S → Nat → Int32) : x_ordGo i j x down (n + 1) k σ = x_ordGo i j x down n (k + 1) (g_up (x_inGo i j x down (x_key (x_termOf σ (σ (19, i, j) k) x) down) k σ).1 (19, i, j) (x_inGo i j x down (x_key (x_termOf σ (σ (19, i, j) k) x) down) k σ).2 (σ (19, i, j) k)) := rfl
theorem x_ordGo_row (i j : Nat) (x down : Int32) {y : g_S} (hy : y ≠ (19, i, j)) : ∀ (n k : Nat) (σ : g_S → Nat → Int32), x_ordGo i j x down n k σ y = σ y := by
  intro n
  induction n with
  | zero => intro k σ; rfl
  | succ n ih =>
    intro k σ
    rw [x_ordGo_s, ih, g_up_row hy, x_inGo_row i j x down _ hy]
def x_ord (σ : g_S → Nat → Int32) (i j : Nat) (x down : Int32) : g_S → Nat → Int32 := x_ordGo i j x down ((σ (18, i, j) 1).toInt.toNat - 1) 1 σ
def x_cwtGo (σ : g_S → Nat → Int32) (i j : Nat) (x : Int32) : Nat → Nat → Int32 → Int32
  | 0, _, acc => acc
  | n + 1, k, acc => x_cwtGo σ i j x n (k + 1) (if (x_termOf σ (σ (19, i, j) k) x).toInt = -1 then acc + 1 else acc)
theorem x_cwtGo_s (σ : g_S → Nat → Int32) (i j : Nat) (x : Int32) (n k : Nat) (acc : Int32) : x_cwtGo σ i j x (n + 1) k acc = x_cwtGo σ i j x n (k + 1) (if (x_termOf σ (σ (19, i, j) k) x).toInt = -1 then acc + 1 else acc) := rfl
def x_cwt (σ : g_S → Nat → Int32) (i j : Nat) (x : Int32) : Int32 := x_cwtGo σ i j x (σ (18, i, j) 1).toInt.toNat 0 0
set_option maxHeartbeats 4000000 in
set_option maxRecDepth 100000 in
theorem c_X3_make (l : Launch) (D : va_G) (cy : Nat → ClassId) (L : g_S → Nat) (ns : Nat) (kk : Nat → Nat) (σ : g_S → Nat → Int32) (i j : Nat) (hi : i < ns) (hj : j < kk i) : x_Met l D cy L ns kk yX3_make (.code yX3_make cX3_make 1 none) 0 σ [.ref (L (18, i, j))] none (x_make σ i j) := by
  refine g_Met.of (by decide) (Nat.le_of_ble_eq_true rfl) ?_
  intro pg e s m below meth c hx hb hr hlk hml hown hts hK hN H locs hG hS ls hl
  have hown : s.vm.findClass RX3 = some m.cls := hown
  have hl : lv_has ls 1 [(0, .ref (L (18, i, j)))] := hl
  refine lv_aload_n hx hb dX3_make_0 rfl (lv_at hl 0 rfl) ?_
  refine lv_iconst (v := 1) hx hb dX3_make_1 (by decide) ?_
  refine g_puti (C := RX3) (T := TX3) (N := 3) (v := 1) (ty := .boolean) hx hb hts inX3g tyX3_ok nmX3 hown hK hG hS (18, i, j) ⟨hi, hj⟩ (x_at_18 cy L ns kk (i) (j) (σ (18, i, j))) rfl 2 (by decide) (x_up_18_2 cy L ns kk (i) (j) (σ (18, i, j)) (1)) fl_X3_19 rfl (by decide +kernel) rfl rfl (Nat.le_of_ble_eq_true rfl) dX3_make_2 (fun H locs hG hS => ?_)
  refine lv_aload_n hx hb dX3_make_5 rfl (lv_at hl 0 rfl) ?_
  refine lv_iconst (v := 0) hx hb dX3_make_6 (by decide) ?_
  refine g_puti (C := RX3) (T := TX3) (N := 3) (v := 0) (ty := .int) hx hb hts inX3g tyX3_ok nmX3 hown hK hG hS (18, i, j) ⟨hi, hj⟩ (x_at_18 cy L ns kk (i) (j) ((g_up σ (18, i, j) (2) (1)) (18, i, j))) rfl 1 (by decide) (x_up_18_1 cy L ns kk (i) (j) ((g_up σ (18, i, j) (2) (1)) (18, i, j)) (0)) fl_X3_15 rfl (by decide +kernel) rfl rfl (Nat.le_of_ble_eq_true rfl) dX3_make_7 (fun H locs hG hS => ?_)
  exact s_vret hx hb hr hlk hG hS dX3_make_10 rfl rfl
set_option maxHeartbeats 4000000 in
set_option maxRecDepth 100000 in
theorem c_X3_forget (l : Launch) (D : va_G) (cy : Nat → ClassId) (L : g_S → Nat) (ns : Nat) (kk : Nat → Nat) (σ : g_S → Nat → Int32) (i j : Nat) (hi : i < ns) (hj : j < kk i) : x_Met l D cy L ns kk yX3_forget (.code yX3_forget cX3_forget 1 none) 0 σ [.ref (L (18, i, j))] none (x_forget σ i j) := by
  refine g_Met.of (by decide) (Nat.le_of_ble_eq_true rfl) ?_
  intro pg e s m below meth c hx hb hr hlk hml hown hts hK hN H locs hG hS ls hl
  have hown : s.vm.findClass RX3 = some m.cls := hown
  have hl : lv_has ls 1 [(0, .ref (L (18, i, j)))] := hl
  refine lv_aload_n hx hb dX3_forget_0 rfl (lv_at hl 0 rfl) ?_
  refine lv_iconst (v := 0) hx hb dX3_forget_1 (by decide) ?_
  refine g_puti (C := RX3) (T := TX3) (N := 3) (v := 0) (ty := .boolean) hx hb hts inX3g tyX3_ok nmX3 hown hK hG hS (18, i, j) ⟨hi, hj⟩ (x_at_18 cy L ns kk (i) (j) (σ (18, i, j))) rfl 2 (by decide) (x_up_18_2 cy L ns kk (i) (j) (σ (18, i, j)) (0)) fl_X3_19 rfl (by decide +kernel) rfl rfl (Nat.le_of_ble_eq_true rfl) dX3_forget_2 (fun H locs hG hS => ?_)
  refine lv_aload_n hx hb dX3_forget_5 rfl (lv_at hl 0 rfl) ?_
  refine lv_iconst (v := 0) hx hb dX3_forget_6 (by decide) ?_
  refine g_puti (C := RX3) (T := TX3) (N := 3) (v := 0) (ty := .int) hx hb hts inX3g tyX3_ok nmX3 hown hK hG hS (18, i, j) ⟨hi, hj⟩ (x_at_18 cy L ns kk (i) (j) ((g_up σ (18, i, j) (2) (0)) (18, i, j))) rfl 1 (by decide) (x_up_18_1 cy L ns kk (i) (j) ((g_up σ (18, i, j) (2) (0)) (18, i, j)) (0)) fl_X3_15 rfl (by decide +kernel) rfl rfl (Nat.le_of_ble_eq_true rfl) dX3_forget_7 (fun H locs hG hS => ?_)
  exact s_vret hx hb hr hlk hG hS dX3_forget_10 rfl rfl
set_option maxHeartbeats 4000000 in
set_option maxRecDepth 100000 in
theorem c_X3_isMade (l : Launch) (D : va_G) (cy : Nat → ClassId) (L : g_S → Nat) (ns : Nat) (kk : Nat → Nat) (σ : g_S → Nat → Int32) (i j : Nat) (hi : i < ns) (hj : j < kk i) (hm : narrow .boolean (.int (σ (18, i, j) 2)) = .int (σ (18, i, j) 2)) : x_Met l D cy L ns kk yX3_isMade (.code yX3_isMade cX3_isMade 1 (some .boolean)) 0 σ [.ref (L (18, i, j))] (some (.int (σ (18, i, j) 2))) σ := by
  refine g_Met.of (by decide) (Nat.le_of_ble_eq_true rfl) ?_
  intro pg e s m below meth c hx hb hr hlk hml hown hts hK hN H locs hG hS ls hl
  have hown : s.vm.findClass RX3 = some m.cls := hown
  have hl : lv_has ls 1 [(0, .ref (L (18, i, j)))] := hl
  refine lv_aload_n hx hb dX3_isMade_0 rfl (lv_at hl 0 rfl) ?_
  refine g_get (C := RX3) (T := TX3) (N := 3) (v := .int (σ (18, i, j) 2)) hx hb hts inX3g hown hK hG (18, i, j) ⟨hi, hj⟩ (x_at_18 cy L ns kk (i) (j) (σ (18, i, j))) rfl 2 (by decide) fl_X3_19 rfl dX3_isMade_1 ?_
  exact s_zret hx hb hr hlk hG hS dX3_isMade_4 hm rfl rfl
set_option maxHeartbeats 4000000 in
set_option maxRecDepth 100000 in
theorem c_X3_count (l : Launch) (D : va_G) (cy : Nat → ClassId) (L : g_S → Nat) (ns : Nat) (kk : Nat → Nat) (σ : g_S → Nat → Int32) (i j : Nat) (hi : i < ns) (hj : j < kk i) : x_Met l D cy L ns kk yX3_count (.code yX3_count cX3_count 1 (some .int)) 0 σ [.ref (L (18, i, j))] (some (.int (σ (18, i, j) 1))) σ := by
  refine g_Met.of (by decide) (Nat.le_of_ble_eq_true rfl) ?_
  intro pg e s m below meth c hx hb hr hlk hml hown hts hK hN H locs hG hS ls hl
  have hown : s.vm.findClass RX3 = some m.cls := hown
  have hl : lv_has ls 1 [(0, .ref (L (18, i, j)))] := hl
  refine lv_aload_n hx hb dX3_count_0 rfl (lv_at hl 0 rfl) ?_
  refine g_get (C := RX3) (T := TX3) (N := 3) (v := .int (σ (18, i, j) 1)) hx hb hts inX3g hown hK hG (18, i, j) ⟨hi, hj⟩ (x_at_18 cy L ns kk (i) (j) (σ (18, i, j))) rfl 1 (by decide) fl_X3_15 rfl dX3_count_1 ?_
  exact s_iret hx hb hr hlk hG hS dX3_count_4 rfl rfl
set_option maxHeartbeats 4000000 in
set_option maxRecDepth 100000 in
theorem c_X3_add (l : Launch) (D : va_G) (cy : Nat → ClassId) (L : g_S → Nat) (ns : Nat) (kk : Nat → Nat) (σ : g_S → Nat → Int32) (i j : Nat) (hi : i < ns) (hj : j < kk i) (r : Int32) (r0 : 0 ≤ (σ (18, i, j) 1).toInt) : x_Met l D cy L ns kk yX3_add (.code yX3_add cX3_add 2 none) 0 σ [.ref (L (18, i, j)), .int (r)] none (x_rsAdd σ i j r) := by
  refine g_Met.of (by decide) (Nat.le_of_ble_eq_true rfl) ?_
  intro pg e s m below meth c hx hb hr hlk hml hown hts hK hN H locs hG hS ls hl
  have hown : s.vm.findClass RX3 = some m.cls := hown
  have hl : lv_has ls 2 [(0, .ref (L (18, i, j))), (1, .int (r))] := hl
  refine lv_aload_n hx hb dX3_add_0 rfl (lv_at hl 0 rfl) ?_
  refine g_get (C := RX3) (T := TX3) (N := 3) (v := .int (σ (18, i, j) 1)) hx hb hts inX3g hown hK hG (18, i, j) ⟨hi, hj⟩ (x_at_18 cy L ns kk (i) (j) (σ (18, i, j))) rfl 1 (by decide) fl_X3_15 rfl dX3_add_1 ?_
  refine lv_bipush (v := 100) hx hb dX3_add_4 (by decide) ?_
  refine kz_icmp_ge (X := (σ (18, i, j) 1).toInt) (Y := 100) hx hb rfl (by decide) dX3_add_6 (tgt := 29) (by decide) (fun c_6_1 => ?_) (fun c_6_1 => ?_)
  · exact s_vret hx hb hr hlk hG hS dX3_add_29 rfl (by unfold x_rsAdd; (repeat' split) <;> first | rfl | (exfalso; omega))
  · refine lv_aload_n hx hb dX3_add_9 rfl (lv_at hl 0 rfl) ?_
    refine g_get (C := RX3) (T := TX3) (N := 3) (v := .ref (L (19, i, j))) hx hb hts inX3g hown hK hG (18, i, j) ⟨hi, hj⟩ (x_at_18 cy L ns kk (i) (j) (σ (18, i, j))) rfl 0 (by decide) fl_X3_9 rfl dX3_add_10 ?_
    refine lv_aload_n hx hb dX3_add_13 rfl (lv_at hl 0 rfl) ?_
    refine g_get (C := RX3) (T := TX3) (N := 3) (v := .int (σ (18, i, j) 1)) hx hb hts inX3g hown hK hG (18, i, j) ⟨hi, hj⟩ (x_at_18 cy L ns kk (i) (j) (σ (18, i, j))) rfl 1 (by decide) fl_X3_15 rfl dX3_add_14 ?_
    refine lv_iload_n hx hb dX3_add_17 rfl (lv_at hl 1 rfl) ?_
    refine g_iast (n := 100) hx hb hK hG hS (19, i, j) ⟨hi, hj⟩ 0 (fun _ => rfl) rfl (g_vp (by omega) (by omega)) dX3_add_18 (fun H locs hG hS => ?_)
    refine lv_aload_n hx hb dX3_add_19 rfl (lv_at hl 0 rfl) ?_
    refine lv_dup hx hb dX3_add_20 rfl ?_
    refine g_get (C := RX3) (T := TX3) (N := 3) (v := .int (σ (18, i, j) 1)) hx hb hts inX3g hown hK hG (18, i, j) ⟨hi, hj⟩ (x_at_18 cy L ns kk (i) (j) ((g_up σ (19, i, j) ((σ (18, i, j) 1).toNatClampNeg) (r)) (18, i, j))) rfl 1 (by decide) fl_X3_15 rfl dX3_add_21 ?_
    refine lv_iconst (v := 1) hx hb dX3_add_24 (by decide) ?_
    refine lv_iadd hx hb dX3_add_25 ?_
    refine g_puti (C := RX3) (T := TX3) (N := 3) (v := (σ (18, i, j) 1) + (1)) (ty := .int) hx hb hts inX3g tyX3_ok nmX3 hown hK hG hS (18, i, j) ⟨hi, hj⟩ (x_at_18 cy L ns kk (i) (j) ((g_up σ (19, i, j) ((σ (18, i, j) 1).toNatClampNeg) (r)) (18, i, j))) rfl 1 (by decide) (x_up_18_1 cy L ns kk (i) (j) ((g_up σ (19, i, j) ((σ (18, i, j) 1).toNatClampNeg) (r)) (18, i, j)) ((σ (18, i, j) 1) + (1))) fl_X3_15 rfl (by decide +kernel) rfl rfl (Nat.le_of_ble_eq_true rfl) dX3_add_26 (fun H locs hG hS => ?_)
    exact s_vret hx hb hr hlk hG hS dX3_add_29 rfl (by unfold x_rsAdd; (repeat' split) <;> first | rfl | (exfalso; omega))
set_option maxHeartbeats 4000000 in
set_option maxRecDepth 100000 in
theorem c_X3_recordAt (l : Launch) (D : va_G) (cy : Nat → ClassId) (L : g_S → Nat) (ns : Nat) (kk : Nat → Nat) (σ : g_S → Nat → Int32) (i j : Nat) (hi : i < ns) (hj : j < kk i) (p : Int32) (r1 : (σ (18, i, j) 1).toInt ≤ 100) : x_Met l D cy L ns kk yX3_recordAt (.code yX3_recordAt cX3_recordAt 2 (some .int)) 0 σ [.ref (L (18, i, j)), .int (p)] (some (.int (x_rsAt σ i j p))) σ := by
  refine g_Met.of (by decide) (Nat.le_of_ble_eq_true rfl) ?_
  intro pg e s m below meth c hx hb hr hlk hml hown hts hK hN H locs hG hS ls hl
  have hown : s.vm.findClass RX3 = some m.cls := hown
  have hl : lv_has ls 2 [(0, .ref (L (18, i, j))), (1, .int (p))] := hl
  refine lv_iload_n hx hb dX3_recordAt_0 rfl (lv_at hl 1 rfl) ?_
  refine kz_if_lt (X := (p).toInt) hx hb rfl dX3_recordAt_1 (tgt := 21) (by decide) (fun c_1_1 => ?_) (fun c_1_1 => ?_)
  · refine lv_iconst (v := (-1)) hx hb dX3_recordAt_21 (by decide) ?_
    exact s_iret hx hb hr hlk hG hS dX3_recordAt_22 (by unfold x_rsAt; (repeat' split) <;> first | rfl | (exfalso; omega)) rfl
  · refine lv_iload_n hx hb dX3_recordAt_4 rfl (lv_at hl 1 rfl) ?_
    refine lv_aload_n hx hb dX3_recordAt_5 rfl (lv_at hl 0 rfl) ?_
    refine g_get (C := RX3) (T := TX3) (N := 3) (v := .int (σ (18, i, j) 1)) hx hb hts inX3g hown hK hG (18, i, j) ⟨hi, hj⟩ (x_at_18 cy L ns kk (i) (j) (σ (18, i, j))) rfl 1 (by decide) fl_X3_15 rfl dX3_recordAt_6 ?_
    refine kz_icmp_ge (X := (p).toInt) (Y := (σ (18, i, j) 1).toInt) hx hb rfl rfl dX3_recordAt_9 (tgt := 21) (by decide) (fun c_9_2 => ?_) (fun c_9_2 => ?_)
    · refine lv_iconst (v := (-1)) hx hb dX3_recordAt_21 (by decide) ?_
      exact s_iret hx hb hr hlk hG hS dX3_recordAt_22 (by unfold x_rsAt; (repeat' split) <;> first | rfl | (exfalso; omega)) rfl
    · refine lv_aload_n hx hb dX3_recordAt_12 rfl (lv_at hl 0 rfl) ?_
      refine g_get (C := RX3) (T := TX3) (N := 3) (v := .ref (L (19, i, j))) hx hb hts inX3g hown hK hG (18, i, j) ⟨hi, hj⟩ (x_at_18 cy L ns kk (i) (j) (σ (18, i, j))) rfl 0 (by decide) fl_X3_9 rfl dX3_recordAt_13 ?_
      refine lv_iload_n hx hb dX3_recordAt_16 rfl (lv_at hl 1 rfl) ?_
      refine g_iald (n := 100) hx hb hK hG (19, i, j) ⟨hi, hj⟩ 0 rfl rfl (g_vp (by omega) (by omega)) dX3_recordAt_17 ?_
      refine lv_goto (tgt := 22) hx hb dX3_recordAt_18 (by decide) ?_
      exact s_iret hx hb hr hlk hG hS dX3_recordAt_22 (by unfold x_rsAt; (repeat' split) <;> first | rfl | (exfalso; omega)) rfl
set_option maxHeartbeats 4000000 in
set_option maxRecDepth 100000 in
theorem c_X3_keyOf (l : Launch) (D : va_G) (cy : Nat → ClassId) (L : g_S → Nat) (ns : Nat) (kk : Nat → Nat) (σ : g_S → Nat → Int32) (t down : Int32) : x_Met l D cy L ns kk yX3_keyOf (.code yX3_keyOf cX3_keyOf 2 (some .int)) 0 σ [.int (t), .int (down)] (some (.int (x_key t down))) σ := by
  refine g_Met.of (by decide) (Nat.le_of_ble_eq_true rfl) ?_
  intro pg e s m below meth c hx hb hr hlk hml hown hts hK hN H locs hG hS ls hl
  have hown : s.vm.findClass RX3 = some m.cls := hown
  have hl : lv_has ls 2 [(0, .int (t)), (1, .int (down))] := hl
  refine lv_iload_n hx hb dX3_keyOf_0 rfl (lv_at hl 0 rfl) ?_
  refine lv_iconst (v := (-1)) hx hb dX3_keyOf_1 (by decide) ?_
  refine kz_icmp_ne (X := (t).toInt) (Y := (-1)) hx hb rfl (by decide) dX3_keyOf_2 (tgt := 9) (by decide) (fun c_2_1 => ?_) (fun c_2_1 => ?_)
  · refine lv_iload_n hx hb dX3_keyOf_9 rfl (lv_at hl 1 rfl) ?_
    refine kz_if_eq (X := (down).toInt) hx hb rfl dX3_keyOf_10 (tgt := 21) (by decide) (fun c_10_2 => ?_) (fun c_10_2 => ?_)
    · refine lv_iload_n hx hb dX3_keyOf_21 rfl (lv_at hl 0 rfl) ?_
      exact s_iret hx hb hr hlk hG hS dX3_keyOf_22 (by unfold x_key; (repeat' split) <;> first | rfl | (exfalso; omega)) rfl
    · refine lv_sipush (v := 999) hx hb dX3_keyOf_13 (by decide) ?_
      refine lv_iload_n hx hb dX3_keyOf_16 rfl (lv_at hl 0 rfl) ?_
      refine lv_isub hx hb dX3_keyOf_17 ?_
      refine lv_goto (tgt := 22) hx hb dX3_keyOf_18 (by decide) ?_
      exact s_iret hx hb hr hlk hG hS dX3_keyOf_22 (by unfold x_key; (repeat' split) <;> first | rfl | (exfalso; omega)) rfl
  · refine lv_sipush (v := 1000) hx hb dX3_keyOf_5 (by decide) ?_
    exact s_iret hx hb hr hlk hG hS dX3_keyOf_8 (by unfold x_key; (repeat' split) <;> first | rfl | (exfalso; omega)) rfl
set_option maxHeartbeats 4000000 in
set_option maxRecDepth 100000 in
theorem lp_cwt (l : Launch) (D : va_G) (cy : Nat → ClassId) (L : g_S → Nat) (ns : Nat) (kk : Nat → Nat) (σ : g_S → Nat → Int32) {pg : Program} {e : Env} {s : State} {m : MethodId} {args : Array Value} {below : List Frame} {meth : Method} {c : Code} {Q : State → Prop} (C0 : g_C pg s m meth c args cX3_countWithoutTerm (some .int) 5 RX3 D (x_tys cy)) (i j : Nat) (hi : i < ns) (hj : j < kk i) (hn : (σ (1, 0, 0) 2).toInt ≤ 100) (r1 : (σ (18, i, j) 1).toInt ≤ 100) (x : Int32) :
    ∀ (n : Nat) (k : Nat) (acc : Int32) (H : Heap) (locs : List Loc) (ls : Array Slot), k + n = (σ (18, i, j) 1).toInt.toNat → g_H D vwCl (x_dom ns kk) L (fun z => x_K cy L ns kk z (σ z)) H → va_S (g_A (x_dom ns kk) L) s.heap H locs → lv_has ls 5 [(4, .int (nI k)), (3, .int (acc)), (0, .ref (L (18, i, j))), (1, .ref (L (1, 0, 0))), (2, .int (x))] →
    (∀ (H : Heap) (locs : List Loc) (ls : Array Slot), g_H D vwCl (x_dom ns kk) L (fun z => x_K cy L ns kk z (σ z)) H → va_S (g_A (x_dom ns kk) L) s.heap H locs → lv_has ls 5 [(3, .int (x_cwtGo σ i j x n k acc))] → W pg l e (g_R 2) s m args below meth c H locs 0 0 Q (F0 m 39 ls [])) →
    W pg l e (g_R 2) s m args below meth c H locs 0 0 Q (F0 m 5 ls []) := by
  obtain ⟨hx, hb, hr, hlk, hml, hown, hts, hK, hN⟩ := C0
  intro n
  induction n with
  | zero =>
    intro k acc H locs ls hv9 hG hS hl kk9
    have hz := g_nIT (show k < 2147483648 by omega)
    refine lv_iload hx hb dX3_countWithoutTerm_5 (lv_at hl 0 rfl) ?_
    refine lv_aload_n hx hb dX3_countWithoutTerm_7 rfl (lv_at hl 2 rfl) ?_
    refine g_get (C := RX3) (T := TX3) (N := 3) (v := .int (σ (18, i, j) 1)) hx hb hts inX3g hown hK hG (18, i, j) ⟨hi, hj⟩ (x_at_18 cy L ns kk (i) (j) (σ (18, i, j))) rfl 1 (by decide) fl_X3_15 rfl dX3_countWithoutTerm_8 ?_
    refine kz_icmp_ge (X := ((k : Nat) : Int)) (Y := (σ (18, i, j) 1).toInt) hx hb (g_nIT (by omega)) rfl dX3_countWithoutTerm_11 (tgt := 39) (by decide) (fun c_11_1 => ?_) (fun c_11_1 => ?_)
    · exact kk9 H locs ls hG hS (lv_sub hl [1] rfl)
    · exact absurd c_11_1 (by omega)
  | succ n ih =>
    intro k acc H locs ls hv9 hG hS hl kk9
    have hz := g_nIT (show k < 2147483648 by omega)
    refine lv_iload hx hb dX3_countWithoutTerm_5 (lv_at hl 0 rfl) ?_
    refine lv_aload_n hx hb dX3_countWithoutTerm_7 rfl (lv_at hl 2 rfl) ?_
    refine g_get (C := RX3) (T := TX3) (N := 3) (v := .int (σ (18, i, j) 1)) hx hb hts inX3g hown hK hG (18, i, j) ⟨hi, hj⟩ (x_at_18 cy L ns kk (i) (j) (σ (18, i, j))) rfl 1 (by decide) fl_X3_15 rfl dX3_countWithoutTerm_8 ?_
    refine kz_icmp_ge (X := ((k : Nat) : Int)) (Y := (σ (18, i, j) 1).toInt) hx hb (g_nIT (by omega)) rfl dX3_countWithoutTerm_11 (tgt := 39) (by decide) (fun c_11_1 => ?_) (fun c_11_1 => ?_)
    · exact absurd c_11_1 (by omega)
    · refine lv_aload_n hx hb dX3_countWithoutTerm_14 rfl (lv_at hl 3 rfl) ?_
      refine lv_aload_n hx hb dX3_countWithoutTerm_15 rfl (lv_at hl 2 rfl) ?_
      refine g_get (C := RX3) (T := TX3) (N := 3) (v := .ref (L (19, i, j))) hx hb hts inX3g hown hK hG (18, i, j) ⟨hi, hj⟩ (x_at_18 cy L ns kk (i) (j) (σ (18, i, j))) rfl 0 (by decide) fl_X3_9 rfl dX3_countWithoutTerm_16 ?_
      refine lv_iload hx hb dX3_countWithoutTerm_19 (lv_at hl 0 rfl) ?_
      refine g_iald (n := 100) hx hb hK hG (19, i, j) ⟨hi, hj⟩ 0 rfl rfl (vp_in_nI (show k < 100 by omega) (by omega)) dX3_countWithoutTerm_21 ?_
      rw [g_nIc (show k < 2147483648 by omega)]
      refine lv_iload_n hx hb dX3_countWithoutTerm_22 rfl (lv_at hl 4 rfl) ?_
      refine g_cont (va_runV (As := [.int (σ (19, i, j) k), .int (x)]) (rest := []) ⟨hx, hb, hml, hown, hts⟩ (c_X2_termOf l D cy L ns kk σ (σ (19, i, j) k) (x) hn) (cwV 2 hts gV_X3_23 rfl rfl rfl (by decide +kernel) ⟨Nat.le_of_ble_eq_true rfl, Nat.le_of_ble_eq_true rfl⟩) (g_preV hK hN hG (x := (1, 0, 0)) ⟨rfl, rfl⟩ (q := (RX2, TX2, 3)) (x_at_1 cy L ns kk (0) (0) (σ (1, 0, 0))) rfl) rfl rfl hl.1 rfl (lv_room (Nat.le_of_ble_eq_true rfl)) dX3_countWithoutTerm_23 ⟨Nat.zero_le _, Nat.zero_le _⟩) hS (fun H locs hG hS => ?_)
      refine W.eq (g2 := F0 m 26 ls [.int (x_termOf σ (σ (19, i, j) k) (x))]) rfl ?_
      refine lv_iconst (v := (-1)) hx hb dX3_countWithoutTerm_26 (by decide) ?_
      refine kz_icmp_ne (X := (x_termOf σ (σ (19, i, j) k) (x)).toInt) (Y := (-1)) hx hb rfl (by decide) dX3_countWithoutTerm_27 (tgt := 33) (by decide) (fun c_27_2 => ?_) (fun c_27_2 => ?_)
      · refine lv_iinc (v := nI (k + 1)) (lv' := [(4, .int (nI (k + 1))), (3, .int (acc)), (0, .ref (L (18, i, j))), (1, .ref (L (1, 0, 0))), (2, .int (x))]) hx hb dX3_countWithoutTerm_33 hl (k := 0) rfl (nI_1 (k)) (by decide) rfl (fun ls hl => ?_)
        refine lv_goto (tgt := 5) hx hb dX3_countWithoutTerm_36 (by decide) ?_
        have e90 : x_cwtGo σ i j x (n + 1) k acc = x_cwtGo σ i j x n (k + 1) (acc) := (by rw [x_cwtGo_s]; (repeat' split) <;> first | rfl | (exfalso; omega))
        rw [e90] at kk9
        exact ih (k + 1) (acc) H locs ls (by omega) hG hS (lv_sub hl [0, 1, 2, 3, 4] rfl) kk9
      · refine lv_iinc (v := acc + 1) (lv' := [(3, .int (acc + 1)), (4, .int (nI k)), (0, .ref (L (18, i, j))), (1, .ref (L (1, 0, 0))), (2, .int (x))]) hx hb dX3_countWithoutTerm_30 hl (k := 1) rfl rfl (by decide) rfl (fun ls hl => ?_)
        refine lv_iinc (v := nI (k + 1)) (lv' := [(4, .int (nI (k + 1))), (3, .int (acc + 1)), (0, .ref (L (18, i, j))), (1, .ref (L (1, 0, 0))), (2, .int (x))]) hx hb dX3_countWithoutTerm_33 hl (k := 1) rfl (nI_1 (k)) (by decide) rfl (fun ls hl => ?_)
        refine lv_goto (tgt := 5) hx hb dX3_countWithoutTerm_36 (by decide) ?_
        have e90 : x_cwtGo σ i j x (n + 1) k acc = x_cwtGo σ i j x n (k + 1) (acc + 1) := (by rw [x_cwtGo_s]; (repeat' split) <;> first | rfl | (exfalso; omega))
        rw [e90] at kk9
        exact ih (k + 1) (acc + 1) H locs ls (by omega) hG hS (lv_sub hl [0, 1, 2, 3, 4] rfl) kk9
set_option maxHeartbeats 4000000 in
set_option maxRecDepth 100000 in
theorem c_X3_countWithoutTerm (l : Launch) (D : va_G) (cy : Nat → ClassId) (L : g_S → Nat) (ns : Nat) (kk : Nat → Nat) (σ : g_S → Nat → Int32) (i j : Nat) (hi : i < ns) (hj : j < kk i) (x : Int32) (hn : (σ (1, 0, 0) 2).toInt ≤ 100) (r1 : (σ (18, i, j) 1).toInt ≤ 100) : x_Met l D cy L ns kk yX3_countWithoutTerm (.code yX3_countWithoutTerm cX3_countWithoutTerm 5 (some .int)) 2 σ [.ref (L (18, i, j)), .ref (L (1, 0, 0)), .int (x)] (some (.int (x_cwt σ i j x))) σ := by
  refine g_Met.of (by decide) (Nat.le_of_ble_eq_true rfl) ?_
  intro pg e s m below meth c hx hb hr hlk hml hown hts hK hN H locs hG hS ls hl
  have hown : s.vm.findClass RX3 = some m.cls := hown
  have hl : lv_has ls 5 [(0, .ref (L (18, i, j))), (1, .ref (L (1, 0, 0))), (2, .int (x))] := hl
  refine lv_iconst (v := 0) hx hb dX3_countWithoutTerm_0 (by decide) ?_
  refine lv_istore_n (lv' := [(3, .int 0), (0, .ref (L (18, i, j))), (1, .ref (L (1, 0, 0))), (2, .int (x))]) hx hb dX3_countWithoutTerm_1 rfl hl (by decide) rfl (fun ls hl => ?_)
  refine lv_iconst (v := 0) hx hb dX3_countWithoutTerm_2 (by decide) ?_
  refine lv_istore (lv' := [(4, .int 0), (3, .int 0), (0, .ref (L (18, i, j))), (1, .ref (L (1, 0, 0))), (2, .int (x))]) hx hb dX3_countWithoutTerm_3 hl (by decide) rfl (fun ls hl => ?_)
  refine lp_cwt l D cy L ns kk σ ⟨hx, hb, hr, hlk, hml, hown, hts, hK, hN⟩ i j hi hj hn r1 x (σ (18, i, j) 1).toInt.toNat 0 0 H locs ls (by omega) hG hS (lv_sub hl [0, 1, 2, 3, 4] rfl) (fun H locs ls hG hS hl => ?_)
  refine lv_iload_n hx hb dX3_countWithoutTerm_39 rfl (lv_at hl 0 rfl) ?_
  exact s_iret hx hb hr hlk hG hS dX3_countWithoutTerm_40 rfl rfl
set_option maxHeartbeats 4000000 in
set_option maxRecDepth 100000 in
theorem lp_in (l : Launch) (D : va_G) (cy : Nat → ClassId) (L : g_S → Nat) (ns : Nat) (kk : Nat → Nat) {pg : Program} {e : Env} {s : State} {m : MethodId} {args : Array Value} {below : List Frame} {meth : Method} {c : Code} {Q : State → Prop} (C0 : g_C pg s m meth c args cX3_putInOrder none 8 RX3 D (x_tys cy)) (i j : Nat) (hi : i < ns) (hj : j < kk i) (x down key mv ki : Int32) :
    ∀ (n : Nat) (σ : g_S → Nat → Int32)  (H : Heap) (locs : List Loc) (ls : Array Slot), n < 100 → ((σ (1, 0, 0) 2).toInt ≤ 100) → g_H D vwCl (x_dom ns kk) L (fun z => x_K cy L ns kk z (σ z)) H → va_S (g_A (x_dom ns kk) L) s.heap H locs → lv_has ls 8 [(7, .int (nI n)), (6, .int (key)), (5, .int (mv)), (4, .int (ki)), (0, .ref (L (18, i, j))), (1, .ref (L (1, 0, 0))), (2, .int (x)), (3, .int (down))] →
    (∀ (H : Heap) (locs : List Loc) (ls : Array Slot), g_H D vwCl (x_dom ns kk) L (fun z => x_K cy L ns kk z ((x_inGo i j x down key n σ).1 z)) H → va_S (g_A (x_dom ns kk) L) s.heap H locs → lv_has ls 8 [(7, .int (nI ((x_inGo i j x down key n σ).2))), (6, .int (key)), (5, .int (mv)), (4, .int (ki)), (0, .ref (L (18, i, j))), (1, .ref (L (1, 0, 0))), (2, .int (x)), (3, .int (down))] → W pg l e (g_R 2) s m args below meth c H locs 0 0 Q (F0 m 88 ls [])) →
    W pg l e (g_R 2) s m args below meth c H locs 0 0 Q (F0 m 38 ls []) := by
  obtain ⟨hx, hb, hr, hlk, hml, hown, hts, hK, hN⟩ := C0
  intro n
  induction n with
  | zero =>
    intro σ H locs ls hv9 hy hG hS hl kk9
    have hn := hy
    refine lv_iload hx hb dX3_putInOrder_38 (lv_at hl 0 rfl) ?_
    refine kz_if_le (X := ((0 : Nat) : Int)) hx hb (g_nIT (by omega)) dX3_putInOrder_40 (tgt := 88) (by decide) (fun c_40_1 => ?_) (fun c_40_1 => ?_)
    · exact kk9 H locs ls hG hS (lv_sub hl [0, 1, 2, 3, 4, 5, 6, 7] rfl)
    · exact absurd c_40_1 (by omega)
  | succ n ih =>
    intro σ H locs ls hv9 hy hG hS hl kk9
    have hn := hy
    refine lv_iload hx hb dX3_putInOrder_38 (lv_at hl 0 rfl) ?_
    refine kz_if_le (X := ((n + 1 : Nat) : Int)) hx hb (g_nIT (by omega)) dX3_putInOrder_40 (tgt := 88) (by decide) (fun c_40_1 => ?_) (fun c_40_1 => ?_)
    · exact absurd c_40_1 (by omega)
    · refine lv_aload_n hx hb dX3_putInOrder_43 rfl (lv_at hl 5 rfl) ?_
      refine lv_aload_n hx hb dX3_putInOrder_44 rfl (lv_at hl 4 rfl) ?_
      refine g_get (C := RX3) (T := TX3) (N := 3) (v := .ref (L (19, i, j))) hx hb hts inX3g hown hK hG (18, i, j) ⟨hi, hj⟩ (x_at_18 cy L ns kk (i) (j) (σ (18, i, j))) rfl 0 (by decide) fl_X3_9 rfl dX3_putInOrder_45 ?_
      refine lv_iload hx hb dX3_putInOrder_48 (lv_at hl 0 rfl) ?_
      refine lv_iconst (v := 1) hx hb dX3_putInOrder_50 (by decide) ?_
      refine lv_isub hx hb dX3_putInOrder_51 ?_
      rw [show nI (n + 1) - 1 = nI (n) from nI_pred _]
      refine g_iald (n := 100) hx hb hK hG (19, i, j) ⟨hi, hj⟩ 0 rfl rfl (vp_in_nI (show n < 100 by omega) (by omega)) dX3_putInOrder_52 ?_
      rw [g_nIc (show n < 2147483648 by omega)]
      refine lv_iload_n hx hb dX3_putInOrder_53 rfl (lv_at hl 6 rfl) ?_
      refine g_cont (va_runV (As := [.int (σ (19, i, j) n), .int (x)]) (rest := []) ⟨hx, hb, hml, hown, hts⟩ (c_X2_termOf l D cy L ns kk σ (σ (19, i, j) n) (x) hn) (cwV 2 hts gV_X3_23 rfl rfl rfl (by decide +kernel) ⟨Nat.le_of_ble_eq_true rfl, Nat.le_of_ble_eq_true rfl⟩) (g_preV hK hN hG (x := (1, 0, 0)) ⟨rfl, rfl⟩ (q := (RX2, TX2, 3)) (x_at_1 cy L ns kk (0) (0) (σ (1, 0, 0))) rfl) rfl rfl hl.1 rfl (lv_room (Nat.le_of_ble_eq_true rfl)) dX3_putInOrder_54 ⟨Nat.zero_le _, Nat.zero_le _⟩) hS (fun H locs hG hS => ?_)
      refine W.eq (g2 := F0 m 57 ls [.int (x_termOf σ (σ (19, i, j) n) (x))]) rfl ?_
      refine lv_iload_n hx hb dX3_putInOrder_57 rfl (lv_at hl 7 rfl) ?_
      refine g_cont (va_runS (As := [.int (x_termOf σ (σ (19, i, j) n) (x)), .int (down)]) (rest := []) ⟨hx, hb, hml, hown, hts⟩ (c_X3_keyOf l D cy L ns kk σ (x_termOf σ (σ (19, i, j) n) (x)) (down)) (cwS 2 hts gS_X3_29 rfl rfl rfl (by decide +kernel) ⟨Nat.le_of_ble_eq_true rfl, Nat.le_of_ble_eq_true rfl⟩) (g_preS hK hN hG) rfl rfl hl.1 rfl (lv_room (Nat.le_of_ble_eq_true rfl)) dX3_putInOrder_58 ⟨Nat.zero_le _, Nat.zero_le _⟩) hS (fun H locs hG hS => ?_)
      refine W.eq (g2 := F0 m 61 ls [.int (x_key (x_termOf σ (σ (19, i, j) n) (x)) (down))]) rfl ?_
      refine lv_iload hx hb dX3_putInOrder_61 (lv_at hl 1 rfl) ?_
      refine kz_icmp_le (X := (x_key (x_termOf σ (σ (19, i, j) n) (x)) (down)).toInt) (Y := (key).toInt) hx hb rfl rfl dX3_putInOrder_63 (tgt := 88) (by decide) (fun c_63_2 => ?_) (fun c_63_2 => ?_)
      · have e90 : x_inGo i j x down key (n + 1) σ = (σ, n + 1) := (by rw [x_inGo_s]; (repeat' split) <;> first | rfl | (exfalso; omega))
        rw [e90] at kk9
        exact kk9 H locs ls hG hS (lv_sub hl [0, 1, 2, 3, 4, 5, 6, 7] rfl)
      · refine lv_aload_n hx hb dX3_putInOrder_66 rfl (lv_at hl 4 rfl) ?_
        refine g_get (C := RX3) (T := TX3) (N := 3) (v := .ref (L (19, i, j))) hx hb hts inX3g hown hK hG (18, i, j) ⟨hi, hj⟩ (x_at_18 cy L ns kk (i) (j) (σ (18, i, j))) rfl 0 (by decide) fl_X3_9 rfl dX3_putInOrder_67 ?_
        refine lv_iload hx hb dX3_putInOrder_70 (lv_at hl 0 rfl) ?_
        refine lv_aload_n hx hb dX3_putInOrder_72 rfl (lv_at hl 4 rfl) ?_
        refine g_get (C := RX3) (T := TX3) (N := 3) (v := .ref (L (19, i, j))) hx hb hts inX3g hown hK hG (18, i, j) ⟨hi, hj⟩ (x_at_18 cy L ns kk (i) (j) (σ (18, i, j))) rfl 0 (by decide) fl_X3_9 rfl dX3_putInOrder_73 ?_
        refine lv_iload hx hb dX3_putInOrder_76 (lv_at hl 0 rfl) ?_
        refine lv_iconst (v := 1) hx hb dX3_putInOrder_78 (by decide) ?_
        refine lv_isub hx hb dX3_putInOrder_79 ?_
        rw [show nI (n + 1) - 1 = nI (n) from nI_pred _]
        refine g_iald (n := 100) hx hb hK hG (19, i, j) ⟨hi, hj⟩ 0 rfl rfl (vp_in_nI (show n < 100 by omega) (by omega)) dX3_putInOrder_80 ?_
        rw [g_nIc (show n < 2147483648 by omega)]
        refine g_iast (n := 100) hx hb hK hG hS (19, i, j) ⟨hi, hj⟩ 0 (fun _ => rfl) rfl (vp_in_nI (show n + 1 < 100 by omega) (by omega)) dX3_putInOrder_81 (fun H locs hG hS => ?_)
        rw [g_nIc (show n + 1 < 2147483648 by omega)] at hG
        refine lv_iinc (v := nI n) (lv' := [(7, .int (nI n)), (6, .int (key)), (5, .int (mv)), (4, .int (ki)), (0, .ref (L (18, i, j))), (1, .ref (L (1, 0, 0))), (2, .int (x)), (3, .int (down))]) hx hb dX3_putInOrder_82 hl (k := 0) rfl (pk_m1 (n)) (by decide) rfl (fun ls hl => ?_)
        refine lv_goto (tgt := 38) hx hb dX3_putInOrder_85 (by decide) ?_
        have e90 : x_inGo i j x down key (n + 1) σ = x_inGo i j x down key n (g_up σ (19, i, j) (n + 1) (σ (19, i, j) n)) := (by rw [x_inGo_s]; (repeat' split) <;> first | rfl | (exfalso; omega))
        rw [e90] at kk9
        exact ih (g_up σ (19, i, j) (n + 1) (σ (19, i, j) n))  H locs ls (by omega) (by simpa [g_up_at] using hn) hG hS (lv_sub hl [0, 1, 2, 3, 4, 5, 6, 7] rfl) kk9
set_option maxHeartbeats 4000000 in
set_option maxRecDepth 100000 in
theorem lp_ord (l : Launch) (D : va_G) (cy : Nat → ClassId) (L : g_S → Nat) (ns : Nat) (kk : Nat → Nat) {pg : Program} {e : Env} {s : State} {m : MethodId} {args : Array Value} {below : List Frame} {meth : Method} {c : Code} {Q : State → Prop} (C0 : g_C pg s m meth c args cX3_putInOrder none 8 RX3 D (x_tys cy)) (i j : Nat) (hi : i < ns) (hj : j < kk i) (N : Nat) (x down : Int32) :
    ∀ (n : Nat) (σ : g_S → Nat → Int32) (k : Nat) (H : Heap) (locs : List Loc) (ls : Array Slot), k + n = N + 1 → ((σ (18, i, j) 1).toInt = (N : Int) + 1 ∧ (σ (1, 0, 0) 2).toInt ≤ 100 ∧ N < 100) → g_H D vwCl (x_dom ns kk) L (fun z => x_K cy L ns kk z (σ z)) H → va_S (g_A (x_dom ns kk) L) s.heap H locs → lv_has ls 8 [(4, .int (nI k)), (0, .ref (L (18, i, j))), (1, .ref (L (1, 0, 0))), (2, .int (x)), (3, .int (down))] →
    (∀ (H : Heap) (locs : List Loc) (ls : Array Slot), g_H D vwCl (x_dom ns kk) L (fun z => x_K cy L ns kk z ((x_ordGo i j x down n k σ) z)) H → va_S (g_A (x_dom ns kk) L) s.heap H locs → lv_has ls 8 [(0, .ref (L (18, i, j)))] → W pg l e (g_R 2) s m args below meth c H locs 0 0 Q (F0 m 103 ls [])) →
    W pg l e (g_R 2) s m args below meth c H locs 0 0 Q (F0 m 3 ls []) := by
  obtain ⟨hx, hb, hr, hlk, hml, hown, hts, hK, hN⟩ := C0
  intro n
  induction n with
  | zero =>
    intro σ k H locs ls hv9 hy hG hS hl kk9
    obtain ⟨hc, hn, hN9⟩ := hy
    have hz := g_nIT (show k < 2147483648 by omega)
    refine lv_iload hx hb dX3_putInOrder_3 (lv_at hl 0 rfl) ?_
    refine lv_aload_n hx hb dX3_putInOrder_5 rfl (lv_at hl 1 rfl) ?_
    refine g_get (C := RX3) (T := TX3) (N := 3) (v := .int (σ (18, i, j) 1)) hx hb hts inX3g hown hK hG (18, i, j) ⟨hi, hj⟩ (x_at_18 cy L ns kk (i) (j) (σ (18, i, j))) rfl 1 (by decide) fl_X3_15 rfl dX3_putInOrder_6 ?_
    refine kz_icmp_ge (X := ((k : Nat) : Int)) (Y := (σ (18, i, j) 1).toInt) hx hb (g_nIT (by omega)) rfl dX3_putInOrder_9 (tgt := 103) (by decide) (fun c_9_1 => ?_) (fun c_9_1 => ?_)
    · exact kk9 H locs ls hG hS (lv_sub hl [1] rfl)
    · exact absurd c_9_1 (by omega)
  | succ n ih =>
    intro σ k H locs ls hv9 hy hG hS hl kk9
    obtain ⟨hc, hn, hN9⟩ := hy
    have hz := g_nIT (show k < 2147483648 by omega)
    refine lv_iload hx hb dX3_putInOrder_3 (lv_at hl 0 rfl) ?_
    refine lv_aload_n hx hb dX3_putInOrder_5 rfl (lv_at hl 1 rfl) ?_
    refine g_get (C := RX3) (T := TX3) (N := 3) (v := .int (σ (18, i, j) 1)) hx hb hts inX3g hown hK hG (18, i, j) ⟨hi, hj⟩ (x_at_18 cy L ns kk (i) (j) (σ (18, i, j))) rfl 1 (by decide) fl_X3_15 rfl dX3_putInOrder_6 ?_
    refine kz_icmp_ge (X := ((k : Nat) : Int)) (Y := (σ (18, i, j) 1).toInt) hx hb (g_nIT (by omega)) rfl dX3_putInOrder_9 (tgt := 103) (by decide) (fun c_9_1 => ?_) (fun c_9_1 => ?_)
    · exact absurd c_9_1 (by omega)
    · refine lv_aload_n hx hb dX3_putInOrder_12 rfl (lv_at hl 1 rfl) ?_
      refine g_get (C := RX3) (T := TX3) (N := 3) (v := .ref (L (19, i, j))) hx hb hts inX3g hown hK hG (18, i, j) ⟨hi, hj⟩ (x_at_18 cy L ns kk (i) (j) (σ (18, i, j))) rfl 0 (by decide) fl_X3_9 rfl dX3_putInOrder_13 ?_
      refine lv_iload hx hb dX3_putInOrder_16 (lv_at hl 0 rfl) ?_
      refine g_iald (n := 100) hx hb hK hG (19, i, j) ⟨hi, hj⟩ 0 rfl rfl (vp_in_nI (show k < 100 by omega) (by omega)) dX3_putInOrder_18 ?_
      rw [g_nIc (show k < 2147483648 by omega)]
      refine lv_istore (lv' := [(5, .int (σ (19, i, j) k)), (4, .int (nI k)), (0, .ref (L (18, i, j))), (1, .ref (L (1, 0, 0))), (2, .int (x)), (3, .int (down))]) hx hb dX3_putInOrder_19 hl (by decide) rfl (fun ls hl => ?_)
      refine lv_aload_n hx hb dX3_putInOrder_21 rfl (lv_at hl 3 rfl) ?_
      refine lv_iload hx hb dX3_putInOrder_22 (lv_at hl 0 rfl) ?_
      refine lv_iload_n hx hb dX3_putInOrder_24 rfl (lv_at hl 4 rfl) ?_
      refine g_cont (va_runV (As := [.int (σ (19, i, j) k), .int (x)]) (rest := []) ⟨hx, hb, hml, hown, hts⟩ (c_X2_termOf l D cy L ns kk σ (σ (19, i, j) k) (x) hn) (cwV 2 hts gV_X3_23 rfl rfl rfl (by decide +kernel) ⟨Nat.le_of_ble_eq_true rfl, Nat.le_of_ble_eq_true rfl⟩) (g_preV hK hN hG (x := (1, 0, 0)) ⟨rfl, rfl⟩ (q := (RX2, TX2, 3)) (x_at_1 cy L ns kk (0) (0) (σ (1, 0, 0))) rfl) rfl rfl hl.1 rfl (lv_room (Nat.le_of_ble_eq_true rfl)) dX3_putInOrder_25 ⟨Nat.zero_le _, Nat.zero_le _⟩) hS (fun H locs hG hS => ?_)
      refine W.eq (g2 := F0 m 28 ls [.int (x_termOf σ (σ (19, i, j) k) (x))]) rfl ?_
      refine lv_iload_n hx hb dX3_putInOrder_28 rfl (lv_at hl 5 rfl) ?_
      refine g_cont (va_runS (As := [.int (x_termOf σ (σ (19, i, j) k) (x)), .int (down)]) (rest := []) ⟨hx, hb, hml, hown, hts⟩ (c_X3_keyOf l D cy L ns kk σ (x_termOf σ (σ (19, i, j) k) (x)) (down)) (cwS 2 hts gS_X3_29 rfl rfl rfl (by decide +kernel) ⟨Nat.le_of_ble_eq_true rfl, Nat.le_of_ble_eq_true rfl⟩) (g_preS hK hN hG) rfl rfl hl.1 rfl (lv_room (Nat.le_of_ble_eq_true rfl)) dX3_putInOrder_29 ⟨Nat.zero_le _, Nat.zero_le _⟩) hS (fun H locs hG hS => ?_)
      refine W.eq (g2 := F0 m 32 ls [.int (x_key (x_termOf σ (σ (19, i, j) k) (x)) (down))]) rfl ?_
      refine lv_istore (lv' := [(6, .int (x_key (x_termOf σ (σ (19, i, j) k) (x)) (down))), (5, .int (σ (19, i, j) k)), (4, .int (nI k)), (0, .ref (L (18, i, j))), (1, .ref (L (1, 0, 0))), (2, .int (x)), (3, .int (down))]) hx hb dX3_putInOrder_32 hl (by decide) rfl (fun ls hl => ?_)
      refine lv_iload hx hb dX3_putInOrder_34 (lv_at hl 2 rfl) ?_
      refine lv_istore (lv' := [(7, .int (nI k)), (6, .int (x_key (x_termOf σ (σ (19, i, j) k) (x)) (down))), (5, .int (σ (19, i, j) k)), (4, .int (nI k)), (0, .ref (L (18, i, j))), (1, .ref (L (1, 0, 0))), (2, .int (x)), (3, .int (down))]) hx hb dX3_putInOrder_36 hl (by decide) rfl (fun ls hl => ?_)
      refine lp_in l D cy L ns kk ⟨hx, hb, hr, hlk, hml, hown, hts, hK, hN⟩ i j hi hj x down (x_key (x_termOf σ (σ (19, i, j) k) (x)) (down)) (σ (19, i, j) k) (nI k) k σ H locs ls (by omega) hn hG hS (lv_sub hl [0, 1, 2, 3, 4, 5, 6, 7] rfl) (fun H locs ls hG hS hl => ?_)
      have hle := x_inGo_le i j x down (x_key (x_termOf σ (σ (19, i, j) k) (x)) (down)) k σ
      refine lv_aload_n hx hb dX3_putInOrder_88 rfl (lv_at hl 4 rfl) ?_
      refine g_get (C := RX3) (T := TX3) (N := 3) (v := .ref (L (19, i, j))) hx hb hts inX3g hown hK hG (18, i, j) ⟨hi, hj⟩ (x_at_18 cy L ns kk (i) (j) ((x_inGo i j (x) (down) (x_key (x_termOf σ (σ (19, i, j) k) (x)) (down)) k σ).1 (18, i, j))) rfl 0 (by decide) fl_X3_9 rfl dX3_putInOrder_89 ?_
      refine lv_iload hx hb dX3_putInOrder_92 (lv_at hl 0 rfl) ?_
      refine lv_iload hx hb dX3_putInOrder_94 (lv_at hl 2 rfl) ?_
      refine g_iast (n := 100) hx hb hK hG hS (19, i, j) ⟨hi, hj⟩ 0 (fun _ => rfl) rfl (vp_in_nI (show (x_inGo i j (x) (down) (x_key (x_termOf σ (σ (19, i, j) k) (x)) (down)) k σ).2 < 100 by omega) (by omega)) dX3_putInOrder_96 (fun H locs hG hS => ?_)
      rw [g_nIc (show (x_inGo i j (x) (down) (x_key (x_termOf σ (σ (19, i, j) k) (x)) (down)) k σ).2 < 2147483648 by omega)] at hG
      refine lv_iinc (v := nI (k + 1)) (lv' := [(4, .int (nI (k + 1))), (7, .int (nI ((x_inGo i j (x) (down) (x_key (x_termOf σ (σ (19, i, j) k) (x)) (down)) k σ).2))), (6, .int (x_key (x_termOf σ (σ (19, i, j) k) (x)) (down))), (5, .int (σ (19, i, j) k)), (0, .ref (L (18, i, j))), (1, .ref (L (1, 0, 0))), (2, .int (x)), (3, .int (down))]) hx hb dX3_putInOrder_97 hl (k := 3) rfl (nI_1 (k)) (by decide) rfl (fun ls hl => ?_)
      refine lv_goto (tgt := 3) hx hb dX3_putInOrder_100 (by decide) ?_
      have e90 : x_ordGo i j x down (n + 1) k σ = x_ordGo i j x down n (k + 1) (g_up (x_inGo i j (x) (down) (x_key (x_termOf σ (σ (19, i, j) k) (x)) (down)) k σ).1 (19, i, j) ((x_inGo i j (x) (down) (x_key (x_termOf σ (σ (19, i, j) k) (x)) (down)) k σ).2) (σ (19, i, j) k)) := (by rw [x_ordGo_s])
      rw [e90] at kk9
      exact ih (g_up (x_inGo i j (x) (down) (x_key (x_termOf σ (σ (19, i, j) k) (x)) (down)) k σ).1 (19, i, j) ((x_inGo i j (x) (down) (x_key (x_termOf σ (σ (19, i, j) k) (x)) (down)) k σ).2) (σ (19, i, j) k)) (k + 1) H locs ls (by omega) ⟨by rw [g_up_row (by simp), x_inGo_row i j x down _ (by simp)]; exact hc, by rw [g_up_row (by simp), x_inGo_row i j x down _ (by simp)]; exact hn, hN9⟩ hG hS (lv_sub hl [0, 4, 5, 6, 7] rfl) kk9
set_option maxHeartbeats 4000000 in
set_option maxRecDepth 100000 in
theorem c_X3_putInOrder (l : Launch) (D : va_G) (cy : Nat → ClassId) (L : g_S → Nat) (ns : Nat) (kk : Nat → Nat) (σ : g_S → Nat → Int32) (i j : Nat) (hi : i < ns) (hj : j < kk i) (x down : Int32) (hn : (σ (1, 0, 0) 2).toInt ≤ 100) (r0 : 0 ≤ (σ (18, i, j) 1).toInt) (r1 : (σ (18, i, j) 1).toInt ≤ 100) : x_Met l D cy L ns kk yX3_putInOrder (.code yX3_putInOrder cX3_putInOrder 8 none) 2 σ [.ref (L (18, i, j)), .ref (L (1, 0, 0)), .int (x), .int (down)] none (x_ord σ i j x down) := by
  refine g_Met.of (by decide) (Nat.le_of_ble_eq_true rfl) ?_
  intro pg e s m below meth c hx hb hr hlk hml hown hts hK hN H locs hG hS ls hl
  have hown : s.vm.findClass RX3 = some m.cls := hown
  have hl : lv_has ls 8 [(0, .ref (L (18, i, j))), (1, .ref (L (1, 0, 0))), (2, .int (x)), (3, .int (down))] := hl
  refine lv_iconst (v := 1) hx hb dX3_putInOrder_0 (by decide) ?_
  refine lv_istore (lv' := [(4, .int 1), (0, .ref (L (18, i, j))), (1, .ref (L (1, 0, 0))), (2, .int (x)), (3, .int (down))]) hx hb dX3_putInOrder_1 hl (by decide) rfl (fun ls hl => ?_)
  by_cases hz0 : (σ (18, i, j) 1).toInt = 0
  · refine lv_iload hx hb dX3_putInOrder_3 (lv_at hl 0 rfl) ?_
    refine lv_aload_n hx hb dX3_putInOrder_5 rfl (lv_at hl 1 rfl) ?_
    refine g_get (C := RX3) (T := TX3) (N := 3) (v := .int (σ (18, i, j) 1)) hx hb hts inX3g hown hK hG (18, i, j) ⟨hi, hj⟩ (x_at_18 cy L ns kk (i) (j) (σ (18, i, j))) rfl 1 (by decide) fl_X3_15 rfl dX3_putInOrder_6 ?_
    refine kz_icmp_ge (X := 1) (Y := (σ (18, i, j) 1).toInt) hx hb (by decide) rfl dX3_putInOrder_9 (tgt := 103) (by decide) (fun c_9_1 => ?_) (fun c_9_1 => ?_)
    · exact s_vret hx hb hr hlk hG hS dX3_putInOrder_103 rfl (by unfold x_ord; rw [hz0]; rfl)
    · exact absurd c_9_1 (by omega)
  · refine lp_ord l D cy L ns kk  ⟨hx, hb, hr, hlk, hml, hown, hts, hK, hN⟩ i j hi hj ((σ (18, i, j) 1).toInt.toNat - 1) x down ((σ (18, i, j) 1).toInt.toNat - 1) σ 1 H locs ls (by omega) ⟨by omega, hn, by omega⟩ hG hS (lv_sub hl [0, 1, 2, 3, 4] rfl) (fun H locs ls hG hS hl => ?_)
    exact s_vret hx hb hr hlk hG hS dX3_putInOrder_103 rfl rfl
end
section
/-! the class: what was presented, what was scanned -/
def x_clear (σ : g_S → Nat → Int32) (i : Nat) : g_S → Nat → Int32 := g_up (g_up σ (13, i, 0) 4 0) (13, i, 0) 5 0
/-- a new segment begins -/
def x_segNew (σ : g_S → Nat → Int32) (i : Nat) : g_S → Nat → Int32 := g_up (g_up (g_up σ (15, i, 0) (σ (13, i, 0) 5).toNatClampNeg (σ (13, i, 0) 4)) (16, i, 0) (σ (13, i, 0) 5).toNatClampNeg 0) (13, i, 0) 5 ((σ (13, i, 0) 5) + 1)
/-- the bytes of the last segment grow, the record goes into the row -/
def x_segPut (σ : g_S → Nat → Int32) (i : Nat) (k : Nat) (cn r size : Int32) : g_S → Nat → Int32 := g_up (g_up (g_up σ (16, i, 0) k (σ (16, i, 0) k + size)) (14, i, 0) cn.toNatClampNeg r) (13, i, 0) 4 (cn + 1)
def x_preAdd (σ : g_S → Nat → Int32) (i : Nat) (r size : Int32) : g_S → Nat → Int32 := if 100 ≤ (σ (13, i, 0) 4).toInt then σ else
  if (σ (13, i, 0) 5).toInt = 0 ∨ (σ (13, i, 0) 0).toInt < (σ (16, i, 0) ((σ (13, i, 0) 5) - 1).toNatClampNeg + size).toInt then x_segPut (x_segNew σ i) i (((σ (13, i, 0) 5) + 1) - 1).toNatClampNeg (σ (13, i, 0) 4) r size
  else x_segPut σ i ((σ (13, i, 0) 5) - 1).toNatClampNeg (σ (13, i, 0) 4) r size
def x_preAt (σ : g_S → Nat → Int32) (i : Nat) (p : Int32) : Int32 := if 0 ≤ p.toInt ∧ p.toInt < (σ (13, i, 0) 4).toInt then σ (14, i, 0) p.toNatClampNeg else -1
def x_endSeg (σ : g_S → Nat → Int32) (i : Nat) (p : Int32) : Int32 := if (p + 1).toInt < (σ (13, i, 0) 5).toInt then σ (15, i, 0) (p + 1).toNatClampNeg else (σ (13, i, 0) 4)
def x_tellSeg (σ : g_S → Nat → Int32) (i : Nat) (p w : Int32) : Int32 := if 0 ≤ p.toInt ∧ p.toInt < (σ (13, i, 0) 5).toInt then
  (if w.toInt = 0 then σ (15, i, 0) p.toNatClampNeg else if w.toInt = 1 then x_endSeg σ i p - σ (15, i, 0) p.toNatClampNeg else if w.toInt = 2 then σ (16, i, 0) p.toNatClampNeg else if w.toInt = 3 then (if (σ (16, i, 0) p.toNatClampNeg).toInt ≤ (σ (13, i, 0) 0).toInt then 0 else 1) else -1) else -1
def x_scTell (σ : g_S → Nat → Int32) (i : Nat) (p w : Int32) : Int32 := if 0 ≤ p.toInt ∧ p.toInt < (σ (17, i, 0) 2).toInt then (if w.toInt = 0 then σ (20, i, 0) p.toNatClampNeg else if w.toInt = 1 then σ (21, i, 0) p.toNatClampNeg else -1) else -1
def x_scPut (σ : g_S → Nat → Int32) (i : Nat) (x nx : Int32) : g_S → Nat → Int32 := g_up (g_up (g_up σ (20, i, 0) (σ (17, i, 0) 2).toNatClampNeg nx) (21, i, 0) (σ (17, i, 0) 2).toNatClampNeg (x_cnt (g_up σ (20, i, 0) (σ (17, i, 0) 2).toNatClampNeg nx) x nx)) (17, i, 0) 2 (σ (17, i, 0) 2 + 1)
def x_fillGo (i : Nat) (x most : Int32) : Nat → (g_S → Nat → Int32) → Int32 → (g_S → Nat → Int32)
  | 0, σ, _ => σ
  | n + 1, σ, nx => if most.toInt ≤ (σ (17, i, 0) 2).toInt ∨ nx.toInt = -1 then σ else x_fillGo i x most n (x_scPut σ i x nx) (x_least (x_scPut σ i x nx) x (nx + 1))
theorem x_fillGo_s (i : Nat) (x most : Int32) (n : Nat) (σ : g_S → Nat → Int32) (nx : Int32) : x_fillGo i x most (n + 1) σ nx = if most.toInt ≤ (σ (17, i, 0) 2).toInt ∨ nx.toInt = -1 then σ else x_fillGo i x most n (x_scPut σ i x nx) (x_least (x_scPut σ i x nx) x (nx + 1)) := rfl
def x_fillM (σ : g_S → Nat → Int32) (i : Nat) (x start most : Int32) : g_S → Nat → Int32 := x_fillGo i x most 20 (g_up σ (17, i, 0) 2 0) (x_least (g_up σ (17, i, 0) 2 0) x start)
set_option maxHeartbeats 4000000 in
set_option maxRecDepth 100000 in
theorem c_X0_clear (l : Launch) (D : va_G) (cy : Nat → ClassId) (L : g_S → Nat) (ns : Nat) (kk : Nat → Nat) (σ : g_S → Nat → Int32) (i : Nat) (hi : i < ns) : x_Met l D cy L ns kk yX0_clear (.code yX0_clear cX0_clear 1 none) 0 σ [.ref (L (13, i, 0))] none (x_clear σ i) := by
  refine g_Met.of (by decide) (Nat.le_of_ble_eq_true rfl) ?_
  intro pg e s m below meth c hx hb hr hlk hml hown hts hK hN H locs hG hS ls hl
  have hown : s.vm.findClass RX0 = some m.cls := hown
  have hl : lv_has ls 1 [(0, .ref (L (13, i, 0)))] := hl
  refine lv_aload_n hx hb dX0_clear_0 rfl (lv_at hl 0 rfl) ?_
  refine lv_iconst (v := 0) hx hb dX0_clear_1 (by decide) ?_
  refine g_puti (C := RX0) (T := TX0) (N := 6) (v := 0) (ty := .int) hx hb hts inX0g tyX0_ok nmX0 hown hK hG hS (13, i, 0) ⟨hi, rfl⟩ (x_at_13 cy L ns kk (i) (0) (σ (13, i, 0))) rfl 4 (by decide) (x_up_13_4 cy L ns kk (i) (0) (σ (13, i, 0)) (0)) fl_X0_21 rfl (by decide +kernel) rfl rfl (Nat.le_of_ble_eq_true rfl) dX0_clear_2 (fun H locs hG hS => ?_)
  refine lv_aload_n hx hb dX0_clear_5 rfl (lv_at hl 0 rfl) ?_
  refine lv_iconst (v := 0) hx hb dX0_clear_6 (by decide) ?_
  refine g_puti (C := RX0) (T := TX0) (N := 6) (v := 0) (ty := .int) hx hb hts inX0g tyX0_ok nmX0 hown hK hG hS (13, i, 0) ⟨hi, rfl⟩ (x_at_13 cy L ns kk (i) (0) ((g_up σ (13, i, 0) (4) (0)) (13, i, 0))) rfl 5 (by decide) (x_up_13_5 cy L ns kk (i) (0) ((g_up σ (13, i, 0) (4) (0)) (13, i, 0)) (0)) fl_X0_25 rfl (by decide +kernel) rfl rfl (Nat.le_of_ble_eq_true rfl) dX0_clear_7 (fun H locs hG hS => ?_)
  exact s_vret hx hb hr hlk hG hS dX0_clear_10 rfl rfl
set_option maxHeartbeats 4000000 in
set_option maxRecDepth 100000 in
theorem c_X0_segmentCount (l : Launch) (D : va_G) (cy : Nat → ClassId) (L : g_S → Nat) (ns : Nat) (kk : Nat → Nat) (σ : g_S → Nat → Int32) (i : Nat) (hi : i < ns) : x_Met l D cy L ns kk yX0_segmentCount (.code yX0_segmentCount cX0_segmentCount 1 (some .int)) 0 σ [.ref (L (13, i, 0))] (some (.int (σ (13, i, 0) 5))) σ := by
  refine g_Met.of (by decide) (Nat.le_of_ble_eq_true rfl) ?_
  intro pg e s m below meth c hx hb hr hlk hml hown hts hK hN H locs hG hS ls hl
  have hown : s.vm.findClass RX0 = some m.cls := hown
  have hl : lv_has ls 1 [(0, .ref (L (13, i, 0)))] := hl
  refine lv_aload_n hx hb dX0_segmentCount_0 rfl (lv_at hl 0 rfl) ?_
  refine g_get (C := RX0) (T := TX0) (N := 6) (v := .int (σ (13, i, 0) 5)) hx hb hts inX0g hown hK hG (13, i, 0) ⟨hi, rfl⟩ (x_at_13 cy L ns kk (i) (0) (σ (13, i, 0))) rfl 5 (by decide) fl_X0_25 rfl dX0_segmentCount_1 ?_
  exact s_iret hx hb hr hlk hG hS dX0_segmentCount_4 rfl rfl
set_option maxHeartbeats 4000000 in
set_option maxRecDepth 100000 in
theorem c_X0_add (l : Launch) (D : va_G) (cy : Nat → ClassId) (L : g_S → Nat) (ns : Nat) (kk : Nat → Nat) (σ : g_S → Nat → Int32) (i : Nat) (hi : i < ns) (r size : Int32) (s0 : 0 ≤ (σ (13, i, 0) 5).toInt) (s1 : (σ (13, i, 0) 5).toInt ≤ (σ (13, i, 0) 4).toInt) : x_Met l D cy L ns kk yX0_add (.code yX0_add cX0_add 3 none) 0 σ [.ref (L (13, i, 0)), .int (r), .int (size)] none (x_preAdd σ i r size) := by
  refine g_Met.of (by decide) (Nat.le_of_ble_eq_true rfl) ?_
  intro pg e s m below meth c hx hb hr hlk hml hown hts hK hN H locs hG hS ls hl
  have hown : s.vm.findClass RX0 = some m.cls := hown
  have hl : lv_has ls 3 [(0, .ref (L (13, i, 0))), (1, .int (r)), (2, .int (size))] := hl
  refine lv_aload_n hx hb dX0_add_0 rfl (lv_at hl 0 rfl) ?_
  refine g_get (C := RX0) (T := TX0) (N := 6) (v := .int (σ (13, i, 0) 4)) hx hb hts inX0g hown hK hG (13, i, 0) ⟨hi, rfl⟩ (x_at_13 cy L ns kk (i) (0) (σ (13, i, 0))) rfl 4 (by decide) fl_X0_21 rfl dX0_add_1 ?_
  refine lv_bipush (v := 100) hx hb dX0_add_4 (by decide) ?_
  refine kz_icmp_lt (X := (σ (13, i, 0) 4).toInt) (Y := 100) hx hb rfl (by decide) dX0_add_6 (tgt := 10) (by decide) (fun c_6_1 => ?_) (fun c_6_1 => ?_)
  · refine lv_aload_n hx hb dX0_add_10 rfl (lv_at hl 0 rfl) ?_
    refine g_get (C := RX0) (T := TX0) (N := 6) (v := .int (σ (13, i, 0) 5)) hx hb hts inX0g hown hK hG (13, i, 0) ⟨hi, rfl⟩ (x_at_13 cy L ns kk (i) (0) (σ (13, i, 0))) rfl 5 (by decide) fl_X0_25 rfl dX0_add_11 ?_
    refine kz_if_eq (X := (σ (13, i, 0) 5).toInt) hx hb rfl dX0_add_14 (tgt := 37) (by decide) (fun c_14_2 => ?_) (fun c_14_2 => ?_)
    · refine lv_aload_n hx hb dX0_add_37 rfl (lv_at hl 0 rfl) ?_
      refine g_get (C := RX0) (T := TX0) (N := 6) (v := .ref (L (15, i, 0))) hx hb hts inX0g hown hK hG (13, i, 0) ⟨hi, rfl⟩ (x_at_13 cy L ns kk (i) (0) (σ (13, i, 0))) rfl 2 (by decide) fl_X0_15 rfl dX0_add_38 ?_
      refine lv_aload_n hx hb dX0_add_41 rfl (lv_at hl 0 rfl) ?_
      refine g_get (C := RX0) (T := TX0) (N := 6) (v := .int (σ (13, i, 0) 5)) hx hb hts inX0g hown hK hG (13, i, 0) ⟨hi, rfl⟩ (x_at_13 cy L ns kk (i) (0) (σ (13, i, 0))) rfl 5 (by decide) fl_X0_25 rfl dX0_add_42 ?_
      refine lv_aload_n hx hb dX0_add_45 rfl (lv_at hl 0 rfl) ?_
      refine g_get (C := RX0) (T := TX0) (N := 6) (v := .int (σ (13, i, 0) 4)) hx hb hts inX0g hown hK hG (13, i, 0) ⟨hi, rfl⟩ (x_at_13 cy L ns kk (i) (0) (σ (13, i, 0))) rfl 4 (by decide) fl_X0_21 rfl dX0_add_46 ?_
      refine g_iast (n := 100) hx hb hK hG hS (15, i, 0) ⟨hi, rfl⟩ 0 (fun _ => rfl) rfl (g_vp (by omega) (by omega)) dX0_add_49 (fun H locs hG hS => ?_)
      refine lv_aload_n hx hb dX0_add_50 rfl (lv_at hl 0 rfl) ?_
      refine g_get (C := RX0) (T := TX0) (N := 6) (v := .ref (L (16, i, 0))) hx hb hts inX0g hown hK hG (13, i, 0) ⟨hi, rfl⟩ (x_at_13 cy L ns kk (i) (0) ((g_up σ (15, i, 0) ((σ (13, i, 0) 5).toNatClampNeg) (σ (13, i, 0) 4)) (13, i, 0))) rfl 3 (by decide) fl_X0_18 rfl dX0_add_51 ?_
      refine lv_aload_n hx hb dX0_add_54 rfl (lv_at hl 0 rfl) ?_
      refine g_get (C := RX0) (T := TX0) (N := 6) (v := .int (σ (13, i, 0) 5)) hx hb hts inX0g hown hK hG (13, i, 0) ⟨hi, rfl⟩ (x_at_13 cy L ns kk (i) (0) ((g_up σ (15, i, 0) ((σ (13, i, 0) 5).toNatClampNeg) (σ (13, i, 0) 4)) (13, i, 0))) rfl 5 (by decide) fl_X0_25 rfl dX0_add_55 ?_
      refine lv_iconst (v := 0) hx hb dX0_add_58 (by decide) ?_
      refine g_iast (n := 100) hx hb hK hG hS (16, i, 0) ⟨hi, rfl⟩ 0 (fun _ => rfl) rfl (g_vp (by omega) (by omega)) dX0_add_59 (fun H locs hG hS => ?_)
      refine lv_aload_n hx hb dX0_add_60 rfl (lv_at hl 0 rfl) ?_
      refine lv_dup hx hb dX0_add_61 rfl ?_
      refine g_get (C := RX0) (T := TX0) (N := 6) (v := .int (σ (13, i, 0) 5)) hx hb hts inX0g hown hK hG (13, i, 0) ⟨hi, rfl⟩ (x_at_13 cy L ns kk (i) (0) ((g_up (g_up σ (15, i, 0) ((σ (13, i, 0) 5).toNatClampNeg) (σ (13, i, 0) 4)) (16, i, 0) ((σ (13, i, 0) 5).toNatClampNeg) (0)) (13, i, 0))) rfl 5 (by decide) fl_X0_25 rfl dX0_add_62 ?_
      refine lv_iconst (v := 1) hx hb dX0_add_65 (by decide) ?_
      refine lv_iadd hx hb dX0_add_66 ?_
      have z_3 : ((σ (13, i, 0) 5) + (1)).toInt = ((σ (13, i, 0) 5).toInt + 1) := by have h1 : (σ (13, i, 0) 5 : Int32).toInt = (σ (13, i, 0) 5).toInt := rfl; have h2 : (1 : Int32).toInt = 1 := (by decide); rw [g_addI (by omega) (by omega)] <;> omega
      refine g_puti (C := RX0) (T := TX0) (N := 6) (v := (σ (13, i, 0) 5) + (1)) (ty := .int) hx hb hts inX0g tyX0_ok nmX0 hown hK hG hS (13, i, 0) ⟨hi, rfl⟩ (x_at_13 cy L ns kk (i) (0) ((g_up (g_up σ (15, i, 0) ((σ (13, i, 0) 5).toNatClampNeg) (σ (13, i, 0) 4)) (16, i, 0) ((σ (13, i, 0) 5).toNatClampNeg) (0)) (13, i, 0))) rfl 5 (by decide) (x_up_13_5 cy L ns kk (i) (0) ((g_up (g_up σ (15, i, 0) ((σ (13, i, 0) 5).toNatClampNeg) (σ (13, i, 0) 4)) (16, i, 0) ((σ (13, i, 0) 5).toNatClampNeg) (0)) (13, i, 0)) ((σ (13, i, 0) 5) + (1))) fl_X0_25 rfl (by decide +kernel) rfl rfl (Nat.le_of_ble_eq_true rfl) dX0_add_67 (fun H locs hG hS => ?_)
      refine lv_aload_n hx hb dX0_add_70 rfl (lv_at hl 0 rfl) ?_
      refine g_get (C := RX0) (T := TX0) (N := 6) (v := .ref (L (16, i, 0))) hx hb hts inX0g hown hK hG (13, i, 0) ⟨hi, rfl⟩ (x_at_13 cy L ns kk (i) (0) ((g_up (g_up (g_up σ (15, i, 0) ((σ (13, i, 0) 5).toNatClampNeg) (σ (13, i, 0) 4)) (16, i, 0) ((σ (13, i, 0) 5).toNatClampNeg) (0)) (13, i, 0) (5) ((σ (13, i, 0) 5) + (1))) (13, i, 0))) rfl 3 (by decide) fl_X0_18 rfl dX0_add_71 ?_
      refine lv_aload_n hx hb dX0_add_74 rfl (lv_at hl 0 rfl) ?_
      refine g_get (C := RX0) (T := TX0) (N := 6) (v := .int ((g_up (g_up (g_up σ (15, i, 0) ((σ (13, i, 0) 5).toNatClampNeg) (σ (13, i, 0) 4)) (16, i, 0) ((σ (13, i, 0) 5).toNatClampNeg) (0)) (13, i, 0) (5) ((σ (13, i, 0) 5) + (1))) (13, i, 0) 5)) hx hb hts inX0g hown hK hG (13, i, 0) ⟨hi, rfl⟩ (x_at_13 cy L ns kk (i) (0) ((g_up (g_up (g_up σ (15, i, 0) ((σ (13, i, 0) 5).toNatClampNeg) (σ (13, i, 0) 4)) (16, i, 0) ((σ (13, i, 0) 5).toNatClampNeg) (0)) (13, i, 0) (5) ((σ (13, i, 0) 5) + (1))) (13, i, 0))) rfl 5 (by decide) fl_X0_25 rfl dX0_add_75 ?_
      rw [show (g_up (g_up (g_up σ (15, i, 0) ((σ (13, i, 0) 5).toNatClampNeg) (σ (13, i, 0) 4)) (16, i, 0) ((σ (13, i, 0) 5).toNatClampNeg) (0)) (13, i, 0) (5) ((σ (13, i, 0) 5) + (1))) (13, i, 0) 5 = (σ (13, i, 0) 5) + (1) from by simp [g_up_at]]
      refine lv_iconst (v := 1) hx hb dX0_add_78 (by decide) ?_
      refine lv_isub hx hb dX0_add_79 ?_
      have z_4 : (((σ (13, i, 0) 5) + (1)) - (1)).toInt = (((σ (13, i, 0) 5).toInt + 1) - 1) := by have h1 : ((σ (13, i, 0) 5) + (1) : Int32).toInt = ((σ (13, i, 0) 5).toInt + 1) := z_3; have h2 : (1 : Int32).toInt = 1 := (by decide); rw [g_subI (by omega) (by omega)] <;> omega
      refine lv_dup2_11 hx hb dX0_add_80 rfl rfl ?_
      refine g_iald (n := 100) hx hb hK hG (16, i, 0) ⟨hi, rfl⟩ 0 rfl rfl (g_vp (by have := (show (((σ (13, i, 0) 5) + (1)) - (1) : Int32).toInt = (((σ (13, i, 0) 5).toInt + 1) - 1) from z_4); omega) (by have := (show (((σ (13, i, 0) 5) + (1)) - (1) : Int32).toInt = (((σ (13, i, 0) 5).toInt + 1) - 1) from z_4); omega)) dX0_add_81 ?_
      refine lv_iload_n hx hb dX0_add_82 rfl (lv_at hl 2 rfl) ?_
      refine lv_iadd hx hb dX0_add_83 ?_
      refine g_iast (n := 100) hx hb hK hG hS (16, i, 0) ⟨hi, rfl⟩ 0 (fun _ => rfl) rfl (g_vp (by have := (show (((σ (13, i, 0) 5) + (1)) - (1) : Int32).toInt = (((σ (13, i, 0) 5).toInt + 1) - 1) from z_4); omega) (by have := (show (((σ (13, i, 0) 5) + (1)) - (1) : Int32).toInt = (((σ (13, i, 0) 5).toInt + 1) - 1) from z_4); omega)) dX0_add_84 (fun H locs hG hS => ?_)
      refine lv_aload_n hx hb dX0_add_85 rfl (lv_at hl 0 rfl) ?_
      refine g_get (C := RX0) (T := TX0) (N := 6) (v := .ref (L (14, i, 0))) hx hb hts inX0g hown hK hG (13, i, 0) ⟨hi, rfl⟩ (x_at_13 cy L ns kk (i) (0) ((g_up (g_up (g_up (g_up σ (15, i, 0) ((σ (13, i, 0) 5).toNatClampNeg) (σ (13, i, 0) 4)) (16, i, 0) ((σ (13, i, 0) 5).toNatClampNeg) (0)) (13, i, 0) (5) ((σ (13, i, 0) 5) + (1))) (16, i, 0) ((((σ (13, i, 0) 5) + (1)) - (1)).toNatClampNeg) (((g_up (g_up (g_up σ (15, i, 0) ((σ (13, i, 0) 5).toNatClampNeg) (σ (13, i, 0) 4)) (16, i, 0) ((σ (13, i, 0) 5).toNatClampNeg) (0)) (13, i, 0) (5) ((σ (13, i, 0) 5) + (1))) (16, i, 0) ((((σ (13, i, 0) 5) + (1)) - (1)).toNatClampNeg)) + (size))) (13, i, 0))) rfl 1 (by decide) fl_X0_9 rfl dX0_add_86 ?_
      refine lv_aload_n hx hb dX0_add_89 rfl (lv_at hl 0 rfl) ?_
      refine g_get (C := RX0) (T := TX0) (N := 6) (v := .int ((g_up (g_up (g_up (g_up σ (15, i, 0) ((σ (13, i, 0) 5).toNatClampNeg) (σ (13, i, 0) 4)) (16, i, 0) ((σ (13, i, 0) 5).toNatClampNeg) (0)) (13, i, 0) (5) ((σ (13, i, 0) 5) + (1))) (16, i, 0) ((((σ (13, i, 0) 5) + (1)) - (1)).toNatClampNeg) (((g_up (g_up (g_up σ (15, i, 0) ((σ (13, i, 0) 5).toNatClampNeg) (σ (13, i, 0) 4)) (16, i, 0) ((σ (13, i, 0) 5).toNatClampNeg) (0)) (13, i, 0) (5) ((σ (13, i, 0) 5) + (1))) (16, i, 0) ((((σ (13, i, 0) 5) + (1)) - (1)).toNatClampNeg)) + (size))) (13, i, 0) 4)) hx hb hts inX0g hown hK hG (13, i, 0) ⟨hi, rfl⟩ (x_at_13 cy L ns kk (i) (0) ((g_up (g_up (g_up (g_up σ (15, i, 0) ((σ (13, i, 0) 5).toNatClampNeg) (σ (13, i, 0) 4)) (16, i, 0) ((σ (13, i, 0) 5).toNatClampNeg) (0)) (13, i, 0) (5) ((σ (13, i, 0) 5) + (1))) (16, i, 0) ((((σ (13, i, 0) 5) + (1)) - (1)).toNatClampNeg) (((g_up (g_up (g_up σ (15, i, 0) ((σ (13, i, 0) 5).toNatClampNeg) (σ (13, i, 0) 4)) (16, i, 0) ((σ (13, i, 0) 5).toNatClampNeg) (0)) (13, i, 0) (5) ((σ (13, i, 0) 5) + (1))) (16, i, 0) ((((σ (13, i, 0) 5) + (1)) - (1)).toNatClampNeg)) + (size))) (13, i, 0))) rfl 4 (by decide) fl_X0_21 rfl dX0_add_90 ?_
      rw [show (g_up (g_up (g_up (g_up σ (15, i, 0) ((σ (13, i, 0) 5).toNatClampNeg) (σ (13, i, 0) 4)) (16, i, 0) ((σ (13, i, 0) 5).toNatClampNeg) (0)) (13, i, 0) (5) ((σ (13, i, 0) 5) + (1))) (16, i, 0) ((((σ (13, i, 0) 5) + (1)) - (1)).toNatClampNeg) (((g_up (g_up (g_up σ (15, i, 0) ((σ (13, i, 0) 5).toNatClampNeg) (σ (13, i, 0) 4)) (16, i, 0) ((σ (13, i, 0) 5).toNatClampNeg) (0)) (13, i, 0) (5) ((σ (13, i, 0) 5) + (1))) (16, i, 0) ((((σ (13, i, 0) 5) + (1)) - (1)).toNatClampNeg)) + (size))) (13, i, 0) 4 = σ (13, i, 0) 4 from by simp [g_up_at]]
      refine lv_iload_n hx hb dX0_add_93 rfl (lv_at hl 1 rfl) ?_
      refine g_iast (n := 100) hx hb hK hG hS (14, i, 0) ⟨hi, rfl⟩ 0 (fun _ => rfl) rfl (g_vp (by omega) (by omega)) dX0_add_94 (fun H locs hG hS => ?_)
      refine lv_aload_n hx hb dX0_add_95 rfl (lv_at hl 0 rfl) ?_
      refine lv_dup hx hb dX0_add_96 rfl ?_
      refine g_get (C := RX0) (T := TX0) (N := 6) (v := .int ((g_up (g_up (g_up (g_up (g_up σ (15, i, 0) ((σ (13, i, 0) 5).toNatClampNeg) (σ (13, i, 0) 4)) (16, i, 0) ((σ (13, i, 0) 5).toNatClampNeg) (0)) (13, i, 0) (5) ((σ (13, i, 0) 5) + (1))) (16, i, 0) ((((σ (13, i, 0) 5) + (1)) - (1)).toNatClampNeg) (((g_up (g_up (g_up σ (15, i, 0) ((σ (13, i, 0) 5).toNatClampNeg) (σ (13, i, 0) 4)) (16, i, 0) ((σ (13, i, 0) 5).toNatClampNeg) (0)) (13, i, 0) (5) ((σ (13, i, 0) 5) + (1))) (16, i, 0) ((((σ (13, i, 0) 5) + (1)) - (1)).toNatClampNeg)) + (size))) (14, i, 0) ((σ (13, i, 0) 4).toNatClampNeg) (r)) (13, i, 0) 4)) hx hb hts inX0g hown hK hG (13, i, 0) ⟨hi, rfl⟩ (x_at_13 cy L ns kk (i) (0) ((g_up (g_up (g_up (g_up (g_up σ (15, i, 0) ((σ (13, i, 0) 5).toNatClampNeg) (σ (13, i, 0) 4)) (16, i, 0) ((σ (13, i, 0) 5).toNatClampNeg) (0)) (13, i, 0) (5) ((σ (13, i, 0) 5) + (1))) (16, i, 0) ((((σ (13, i, 0) 5) + (1)) - (1)).toNatClampNeg) (((g_up (g_up (g_up σ (15, i, 0) ((σ (13, i, 0) 5).toNatClampNeg) (σ (13, i, 0) 4)) (16, i, 0) ((σ (13, i, 0) 5).toNatClampNeg) (0)) (13, i, 0) (5) ((σ (13, i, 0) 5) + (1))) (16, i, 0) ((((σ (13, i, 0) 5) + (1)) - (1)).toNatClampNeg)) + (size))) (14, i, 0) ((σ (13, i, 0) 4).toNatClampNeg) (r)) (13, i, 0))) rfl 4 (by decide) fl_X0_21 rfl dX0_add_97 ?_
      rw [show (g_up (g_up (g_up (g_up (g_up σ (15, i, 0) ((σ (13, i, 0) 5).toNatClampNeg) (σ (13, i, 0) 4)) (16, i, 0) ((σ (13, i, 0) 5).toNatClampNeg) (0)) (13, i, 0) (5) ((σ (13, i, 0) 5) + (1))) (16, i, 0) ((((σ (13, i, 0) 5) + (1)) - (1)).toNatClampNeg) (((g_up (g_up (g_up σ (15, i, 0) ((σ (13, i, 0) 5).toNatClampNeg) (σ (13, i, 0) 4)) (16, i, 0) ((σ (13, i, 0) 5).toNatClampNeg) (0)) (13, i, 0) (5) ((σ (13, i, 0) 5) + (1))) (16, i, 0) ((((σ (13, i, 0) 5) + (1)) - (1)).toNatClampNeg)) + (size))) (14, i, 0) ((σ (13, i, 0) 4).toNatClampNeg) (r)) (13, i, 0) 4 = σ (13, i, 0) 4 from by simp [g_up_at]]
      refine lv_iconst (v := 1) hx hb dX0_add_100 (by decide) ?_
      refine lv_iadd hx hb dX0_add_101 ?_
      refine g_puti (C := RX0) (T := TX0) (N := 6) (v := (σ (13, i, 0) 4) + (1)) (ty := .int) hx hb hts inX0g tyX0_ok nmX0 hown hK hG hS (13, i, 0) ⟨hi, rfl⟩ (x_at_13 cy L ns kk (i) (0) ((g_up (g_up (g_up (g_up (g_up σ (15, i, 0) ((σ (13, i, 0) 5).toNatClampNeg) (σ (13, i, 0) 4)) (16, i, 0) ((σ (13, i, 0) 5).toNatClampNeg) (0)) (13, i, 0) (5) ((σ (13, i, 0) 5) + (1))) (16, i, 0) ((((σ (13, i, 0) 5) + (1)) - (1)).toNatClampNeg) (((g_up (g_up (g_up σ (15, i, 0) ((σ (13, i, 0) 5).toNatClampNeg) (σ (13, i, 0) 4)) (16, i, 0) ((σ (13, i, 0) 5).toNatClampNeg) (0)) (13, i, 0) (5) ((σ (13, i, 0) 5) + (1))) (16, i, 0) ((((σ (13, i, 0) 5) + (1)) - (1)).toNatClampNeg)) + (size))) (14, i, 0) ((σ (13, i, 0) 4).toNatClampNeg) (r)) (13, i, 0))) rfl 4 (by decide) (x_up_13_4 cy L ns kk (i) (0) ((g_up (g_up (g_up (g_up (g_up σ (15, i, 0) ((σ (13, i, 0) 5).toNatClampNeg) (σ (13, i, 0) 4)) (16, i, 0) ((σ (13, i, 0) 5).toNatClampNeg) (0)) (13, i, 0) (5) ((σ (13, i, 0) 5) + (1))) (16, i, 0) ((((σ (13, i, 0) 5) + (1)) - (1)).toNatClampNeg) (((g_up (g_up (g_up σ (15, i, 0) ((σ (13, i, 0) 5).toNatClampNeg) (σ (13, i, 0) 4)) (16, i, 0) ((σ (13, i, 0) 5).toNatClampNeg) (0)) (13, i, 0) (5) ((σ (13, i, 0) 5) + (1))) (16, i, 0) ((((σ (13, i, 0) 5) + (1)) - (1)).toNatClampNeg)) + (size))) (14, i, 0) ((σ (13, i, 0) 4).toNatClampNeg) (r)) (13, i, 0)) ((σ (13, i, 0) 4) + (1))) fl_X0_21 rfl (by decide +kernel) rfl rfl (Nat.le_of_ble_eq_true rfl) dX0_add_102 (fun H locs hG hS => ?_)
      exact s_vret hx hb hr hlk hG hS dX0_add_105 rfl (by unfold x_preAdd; rw [if_neg (by omega), if_pos (by omega)]; rfl)
    · refine lv_aload_n hx hb dX0_add_17 rfl (lv_at hl 0 rfl) ?_
      refine g_get (C := RX0) (T := TX0) (N := 6) (v := .ref (L (16, i, 0))) hx hb hts inX0g hown hK hG (13, i, 0) ⟨hi, rfl⟩ (x_at_13 cy L ns kk (i) (0) (σ (13, i, 0))) rfl 3 (by decide) fl_X0_18 rfl dX0_add_18 ?_
      refine lv_aload_n hx hb dX0_add_21 rfl (lv_at hl 0 rfl) ?_
      refine g_get (C := RX0) (T := TX0) (N := 6) (v := .int (σ (13, i, 0) 5)) hx hb hts inX0g hown hK hG (13, i, 0) ⟨hi, rfl⟩ (x_at_13 cy L ns kk (i) (0) (σ (13, i, 0))) rfl 5 (by decide) fl_X0_25 rfl dX0_add_22 ?_
      refine lv_iconst (v := 1) hx hb dX0_add_25 (by decide) ?_
      refine lv_isub hx hb dX0_add_26 ?_
      have z_5 : ((σ (13, i, 0) 5) - (1)).toInt = ((σ (13, i, 0) 5).toInt - 1) := by have h1 : (σ (13, i, 0) 5 : Int32).toInt = (σ (13, i, 0) 5).toInt := rfl; have h2 : (1 : Int32).toInt = 1 := (by decide); rw [g_subI (by omega) (by omega)] <;> omega
      refine g_iald (n := 100) hx hb hK hG (16, i, 0) ⟨hi, rfl⟩ 0 rfl rfl (g_vp (by have := (show ((σ (13, i, 0) 5) - (1) : Int32).toInt = ((σ (13, i, 0) 5).toInt - 1) from z_5); omega) (by have := (show ((σ (13, i, 0) 5) - (1) : Int32).toInt = ((σ (13, i, 0) 5).toInt - 1) from z_5); omega)) dX0_add_27 ?_
      refine lv_iload_n hx hb dX0_add_28 rfl (lv_at hl 2 rfl) ?_
      refine lv_iadd hx hb dX0_add_29 ?_
      refine lv_aload_n hx hb dX0_add_30 rfl (lv_at hl 0 rfl) ?_
      refine g_get (C := RX0) (T := TX0) (N := 6) (v := .int (σ (13, i, 0) 0)) hx hb hts inX0g hown hK hG (13, i, 0) ⟨hi, rfl⟩ (x_at_13 cy L ns kk (i) (0) (σ (13, i, 0))) rfl 0 (by decide) fl_X0_28 rfl dX0_add_31 ?_
      refine kz_icmp_le (X := ((σ (16, i, 0) (((σ (13, i, 0) 5) - (1)).toNatClampNeg)) + (size)).toInt) (Y := (σ (13, i, 0) 0).toInt) hx hb rfl rfl dX0_add_34 (tgt := 70) (by decide) (fun c_34_6 => ?_) (fun c_34_6 => ?_)
      · refine lv_aload_n hx hb dX0_add_70 rfl (lv_at hl 0 rfl) ?_
        refine g_get (C := RX0) (T := TX0) (N := 6) (v := .ref (L (16, i, 0))) hx hb hts inX0g hown hK hG (13, i, 0) ⟨hi, rfl⟩ (x_at_13 cy L ns kk (i) (0) (σ (13, i, 0))) rfl 3 (by decide) fl_X0_18 rfl dX0_add_71 ?_
        refine lv_aload_n hx hb dX0_add_74 rfl (lv_at hl 0 rfl) ?_
        refine g_get (C := RX0) (T := TX0) (N := 6) (v := .int (σ (13, i, 0) 5)) hx hb hts inX0g hown hK hG (13, i, 0) ⟨hi, rfl⟩ (x_at_13 cy L ns kk (i) (0) (σ (13, i, 0))) rfl 5 (by decide) fl_X0_25 rfl dX0_add_75 ?_
        refine lv_iconst (v := 1) hx hb dX0_add_78 (by decide) ?_
        refine lv_isub hx hb dX0_add_79 ?_
        have z_7 : ((σ (13, i, 0) 5) - (1)).toInt = ((σ (13, i, 0) 5).toInt - 1) := by have h1 : (σ (13, i, 0) 5 : Int32).toInt = (σ (13, i, 0) 5).toInt := rfl; have h2 : (1 : Int32).toInt = 1 := (by decide); rw [g_subI (by omega) (by omega)] <;> omega
        refine lv_dup2_11 hx hb dX0_add_80 rfl rfl ?_
        refine g_iald (n := 100) hx hb hK hG (16, i, 0) ⟨hi, rfl⟩ 0 rfl rfl (g_vp (by have := (show ((σ (13, i, 0) 5) - (1) : Int32).toInt = ((σ (13, i, 0) 5).toInt - 1) from z_7); omega) (by have := (show ((σ (13, i, 0) 5) - (1) : Int32).toInt = ((σ (13, i, 0) 5).toInt - 1) from z_7); omega)) dX0_add_81 ?_
        refine lv_iload_n hx hb dX0_add_82 rfl (lv_at hl 2 rfl) ?_
        refine lv_iadd hx hb dX0_add_83 ?_
        refine g_iast (n := 100) hx hb hK hG hS (16, i, 0) ⟨hi, rfl⟩ 0 (fun _ => rfl) rfl (g_vp (by have := (show ((σ (13, i, 0) 5) - (1) : Int32).toInt = ((σ (13, i, 0) 5).toInt - 1) from z_7); omega) (by have := (show ((σ (13, i, 0) 5) - (1) : Int32).toInt = ((σ (13, i, 0) 5).toInt - 1) from z_7); omega)) dX0_add_84 (fun H locs hG hS => ?_)
        refine lv_aload_n hx hb dX0_add_85 rfl (lv_at hl 0 rfl) ?_
        refine g_get (C := RX0) (T := TX0) (N := 6) (v := .ref (L (14, i, 0))) hx hb hts inX0g hown hK hG (13, i, 0) ⟨hi, rfl⟩ (x_at_13 cy L ns kk (i) (0) ((g_up σ (16, i, 0) (((σ (13, i, 0) 5) - (1)).toNatClampNeg) ((σ (16, i, 0) (((σ (13, i, 0) 5) - (1)).toNatClampNeg)) + (size))) (13, i, 0))) rfl 1 (by decide) fl_X0_9 rfl dX0_add_86 ?_
        refine lv_aload_n hx hb dX0_add_89 rfl (lv_at hl 0 rfl) ?_
        refine g_get (C := RX0) (T := TX0) (N := 6) (v := .int (σ (13, i, 0) 4)) hx hb hts inX0g hown hK hG (13, i, 0) ⟨hi, rfl⟩ (x_at_13 cy L ns kk (i) (0) ((g_up σ (16, i, 0) (((σ (13, i, 0) 5) - (1)).toNatClampNeg) ((σ (16, i, 0) (((σ (13, i, 0) 5) - (1)).toNatClampNeg)) + (size))) (13, i, 0))) rfl 4 (by decide) fl_X0_21 rfl dX0_add_90 ?_
        refine lv_iload_n hx hb dX0_add_93 rfl (lv_at hl 1 rfl) ?_
        refine g_iast (n := 100) hx hb hK hG hS (14, i, 0) ⟨hi, rfl⟩ 0 (fun _ => rfl) rfl (g_vp (by omega) (by omega)) dX0_add_94 (fun H locs hG hS => ?_)
        refine lv_aload_n hx hb dX0_add_95 rfl (lv_at hl 0 rfl) ?_
        refine lv_dup hx hb dX0_add_96 rfl ?_
        refine g_get (C := RX0) (T := TX0) (N := 6) (v := .int (σ (13, i, 0) 4)) hx hb hts inX0g hown hK hG (13, i, 0) ⟨hi, rfl⟩ (x_at_13 cy L ns kk (i) (0) ((g_up (g_up σ (16, i, 0) (((σ (13, i, 0) 5) - (1)).toNatClampNeg) ((σ (16, i, 0) (((σ (13, i, 0) 5) - (1)).toNatClampNeg)) + (size))) (14, i, 0) ((σ (13, i, 0) 4).toNatClampNeg) (r)) (13, i, 0))) rfl 4 (by decide) fl_X0_21 rfl dX0_add_97 ?_
        refine lv_iconst (v := 1) hx hb dX0_add_100 (by decide) ?_
        refine lv_iadd hx hb dX0_add_101 ?_
        refine g_puti (C := RX0) (T := TX0) (N := 6) (v := (σ (13, i, 0) 4) + (1)) (ty := .int) hx hb hts inX0g tyX0_ok nmX0 hown hK hG hS (13, i, 0) ⟨hi, rfl⟩ (x_at_13 cy L ns kk (i) (0) ((g_up (g_up σ (16, i, 0) (((σ (13, i, 0) 5) - (1)).toNatClampNeg) ((σ (16, i, 0) (((σ (13, i, 0) 5) - (1)).toNatClampNeg)) + (size))) (14, i, 0) ((σ (13, i, 0) 4).toNatClampNeg) (r)) (13, i, 0))) rfl 4 (by decide) (x_up_13_4 cy L ns kk (i) (0) ((g_up (g_up σ (16, i, 0) (((σ (13, i, 0) 5) - (1)).toNatClampNeg) ((σ (16, i, 0) (((σ (13, i, 0) 5) - (1)).toNatClampNeg)) + (size))) (14, i, 0) ((σ (13, i, 0) 4).toNatClampNeg) (r)) (13, i, 0)) ((σ (13, i, 0) 4) + (1))) fl_X0_21 rfl (by decide +kernel) rfl rfl (Nat.le_of_ble_eq_true rfl) dX0_add_102 (fun H locs hG hS => ?_)
        exact s_vret hx hb hr hlk hG hS dX0_add_105 rfl (by unfold x_preAdd; rw [if_neg (by omega), if_neg (by omega)]; rfl)
      · refine lv_aload_n hx hb dX0_add_37 rfl (lv_at hl 0 rfl) ?_
        refine g_get (C := RX0) (T := TX0) (N := 6) (v := .ref (L (15, i, 0))) hx hb hts inX0g hown hK hG (13, i, 0) ⟨hi, rfl⟩ (x_at_13 cy L ns kk (i) (0) (σ (13, i, 0))) rfl 2 (by decide) fl_X0_15 rfl dX0_add_38 ?_
        refine lv_aload_n hx hb dX0_add_41 rfl (lv_at hl 0 rfl) ?_
        refine g_get (C := RX0) (T := TX0) (N := 6) (v := .int (σ (13, i, 0) 5)) hx hb hts inX0g hown hK hG (13, i, 0) ⟨hi, rfl⟩ (x_at_13 cy L ns kk (i) (0) (σ (13, i, 0))) rfl 5 (by decide) fl_X0_25 rfl dX0_add_42 ?_
        refine lv_aload_n hx hb dX0_add_45 rfl (lv_at hl 0 rfl) ?_
        refine g_get (C := RX0) (T := TX0) (N := 6) (v := .int (σ (13, i, 0) 4)) hx hb hts inX0g hown hK hG (13, i, 0) ⟨hi, rfl⟩ (x_at_13 cy L ns kk (i) (0) (σ (13, i, 0))) rfl 4 (by decide) fl_X0_21 rfl dX0_add_46 ?_
        refine g_iast (n := 100) hx hb hK hG hS (15, i, 0) ⟨hi, rfl⟩ 0 (fun _ => rfl) rfl (g_vp (by omega) (by omega)) dX0_add_49 (fun H locs hG hS => ?_)
        refine lv_aload_n hx hb dX0_add_50 rfl (lv_at hl 0 rfl) ?_
        refine g_get (C := RX0) (T := TX0) (N := 6) (v := .ref (L (16, i, 0))) hx hb hts inX0g hown hK hG (13, i, 0) ⟨hi, rfl⟩ (x_at_13 cy L ns kk (i) (0) ((g_up σ (15, i, 0) ((σ (13, i, 0) 5).toNatClampNeg) (σ (13, i, 0) 4)) (13, i, 0))) rfl 3 (by decide) fl_X0_18 rfl dX0_add_51 ?_
        refine lv_aload_n hx hb dX0_add_54 rfl (lv_at hl 0 rfl) ?_
        refine g_get (C := RX0) (T := TX0) (N := 6) (v := .int (σ (13, i, 0) 5)) hx hb hts inX0g hown hK hG (13, i, 0) ⟨hi, rfl⟩ (x_at_13 cy L ns kk (i) (0) ((g_up σ (15, i, 0) ((σ (13, i, 0) 5).toNatClampNeg) (σ (13, i, 0) 4)) (13, i, 0))) rfl 5 (by decide) fl_X0_25 rfl dX0_add_55 ?_
        refine lv_iconst (v := 0) hx hb dX0_add_58 (by decide) ?_
        refine g_iast (n := 100) hx hb hK hG hS (16, i, 0) ⟨hi, rfl⟩ 0 (fun _ => rfl) rfl (g_vp (by omega) (by omega)) dX0_add_59 (fun H locs hG hS => ?_)
        refine lv_aload_n hx hb dX0_add_60 rfl (lv_at hl 0 rfl) ?_
        refine lv_dup hx hb dX0_add_61 rfl ?_
        refine g_get (C := RX0) (T := TX0) (N := 6) (v := .int (σ (13, i, 0) 5)) hx hb hts inX0g hown hK hG (13, i, 0) ⟨hi, rfl⟩ (x_at_13 cy L ns kk (i) (0) ((g_up (g_up σ (15, i, 0) ((σ (13, i, 0) 5).toNatClampNeg) (σ (13, i, 0) 4)) (16, i, 0) ((σ (13, i, 0) 5).toNatClampNeg) (0)) (13, i, 0))) rfl 5 (by decide) fl_X0_25 rfl dX0_add_62 ?_
        refine lv_iconst (v := 1) hx hb dX0_add_65 (by decide) ?_
        refine lv_iadd hx hb dX0_add_66 ?_
        have z_8 : ((σ (13, i, 0) 5) + (1)).toInt = ((σ (13, i, 0) 5).toInt + 1) := by have h1 : (σ (13, i, 0) 5 : Int32).toInt = (σ (13, i, 0) 5).toInt := rfl; have h2 : (1 : Int32).toInt = 1 := (by decide); rw [g_addI (by omega) (by omega)] <;> omega
        refine g_puti (C := RX0) (T := TX0) (N := 6) (v := (σ (13, i, 0) 5) + (1)) (ty := .int) hx hb hts inX0g tyX0_ok nmX0 hown hK hG hS (13, i, 0) ⟨hi, rfl⟩ (x_at_13 cy L ns kk (i) (0) ((g_up (g_up σ (15, i, 0) ((σ (13, i, 0) 5).toNatClampNeg) (σ (13, i, 0) 4)) (16, i, 0) ((σ (13, i, 0) 5).toNatClampNeg) (0)) (13, i, 0))) rfl 5 (by decide) (x_up_13_5 cy L ns kk (i) (0) ((g_up (g_up σ (15, i, 0) ((σ (13, i, 0) 5).toNatClampNeg) (σ (13, i, 0) 4)) (16, i, 0) ((σ (13, i, 0) 5).toNatClampNeg) (0)) (13, i, 0)) ((σ (13, i, 0) 5) + (1))) fl_X0_25 rfl (by decide +kernel) rfl rfl (Nat.le_of_ble_eq_true rfl) dX0_add_67 (fun H locs hG hS => ?_)
        refine lv_aload_n hx hb dX0_add_70 rfl (lv_at hl 0 rfl) ?_
        refine g_get (C := RX0) (T := TX0) (N := 6) (v := .ref (L (16, i, 0))) hx hb hts inX0g hown hK hG (13, i, 0) ⟨hi, rfl⟩ (x_at_13 cy L ns kk (i) (0) ((g_up (g_up (g_up σ (15, i, 0) ((σ (13, i, 0) 5).toNatClampNeg) (σ (13, i, 0) 4)) (16, i, 0) ((σ (13, i, 0) 5).toNatClampNeg) (0)) (13, i, 0) (5) ((σ (13, i, 0) 5) + (1))) (13, i, 0))) rfl 3 (by decide) fl_X0_18 rfl dX0_add_71 ?_
        refine lv_aload_n hx hb dX0_add_74 rfl (lv_at hl 0 rfl) ?_
        refine g_get (C := RX0) (T := TX0) (N := 6) (v := .int ((g_up (g_up (g_up σ (15, i, 0) ((σ (13, i, 0) 5).toNatClampNeg) (σ (13, i, 0) 4)) (16, i, 0) ((σ (13, i, 0) 5).toNatClampNeg) (0)) (13, i, 0) (5) ((σ (13, i, 0) 5) + (1))) (13, i, 0) 5)) hx hb hts inX0g hown hK hG (13, i, 0) ⟨hi, rfl⟩ (x_at_13 cy L ns kk (i) (0) ((g_up (g_up (g_up σ (15, i, 0) ((σ (13, i, 0) 5).toNatClampNeg) (σ (13, i, 0) 4)) (16, i, 0) ((σ (13, i, 0) 5).toNatClampNeg) (0)) (13, i, 0) (5) ((σ (13, i, 0) 5) + (1))) (13, i, 0))) rfl 5 (by decide) fl_X0_25 rfl dX0_add_75 ?_
        rw [show (g_up (g_up (g_up σ (15, i, 0) ((σ (13, i, 0) 5).toNatClampNeg) (σ (13, i, 0) 4)) (16, i, 0) ((σ (13, i, 0) 5).toNatClampNeg) (0)) (13, i, 0) (5) ((σ (13, i, 0) 5) + (1))) (13, i, 0) 5 = (σ (13, i, 0) 5) + (1) from by simp [g_up_at]]
        refine lv_iconst (v := 1) hx hb dX0_add_78 (by decide) ?_
        refine lv_isub hx hb dX0_add_79 ?_
        have z_9 : (((σ (13, i, 0) 5) + (1)) - (1)).toInt = (((σ (13, i, 0) 5).toInt + 1) - 1) := by have h1 : ((σ (13, i, 0) 5) + (1) : Int32).toInt = ((σ (13, i, 0) 5).toInt + 1) := z_8; have h2 : (1 : Int32).toInt = 1 := (by decide); rw [g_subI (by omega) (by omega)] <;> omega
        refine lv_dup2_11 hx hb dX0_add_80 rfl rfl ?_
        refine g_iald (n := 100) hx hb hK hG (16, i, 0) ⟨hi, rfl⟩ 0 rfl rfl (g_vp (by have := (show (((σ (13, i, 0) 5) + (1)) - (1) : Int32).toInt = (((σ (13, i, 0) 5).toInt + 1) - 1) from z_9); omega) (by have := (show (((σ (13, i, 0) 5) + (1)) - (1) : Int32).toInt = (((σ (13, i, 0) 5).toInt + 1) - 1) from z_9); omega)) dX0_add_81 ?_
        refine lv_iload_n hx hb dX0_add_82 rfl (lv_at hl 2 rfl) ?_
        refine lv_iadd hx hb dX0_add_83 ?_
        refine g_iast (n := 100) hx hb hK hG hS (16, i, 0) ⟨hi, rfl⟩ 0 (fun _ => rfl) rfl (g_vp (by have := (show (((σ (13, i, 0) 5) + (1)) - (1) : Int32).toInt = (((σ (13, i, 0) 5).toInt + 1) - 1) from z_9); omega) (by have := (show (((σ (13, i, 0) 5) + (1)) - (1) : Int32).toInt = (((σ (13, i, 0) 5).toInt + 1) - 1) from z_9); omega)) dX0_add_84 (fun H locs hG hS => ?_)
        refine lv_aload_n hx hb dX0_add_85 rfl (lv_at hl 0 rfl) ?_
        refine g_get (C := RX0) (T := TX0) (N := 6) (v := .ref (L (14, i, 0))) hx hb hts inX0g hown hK hG (13, i, 0) ⟨hi, rfl⟩ (x_at_13 cy L ns kk (i) (0) ((g_up (g_up (g_up (g_up σ (15, i, 0) ((σ (13, i, 0) 5).toNatClampNeg) (σ (13, i, 0) 4)) (16, i, 0) ((σ (13, i, 0) 5).toNatClampNeg) (0)) (13, i, 0) (5) ((σ (13, i, 0) 5) + (1))) (16, i, 0) ((((σ (13, i, 0) 5) + (1)) - (1)).toNatClampNeg) (((g_up (g_up (g_up σ (15, i, 0) ((σ (13, i, 0) 5).toNatClampNeg) (σ (13, i, 0) 4)) (16, i, 0) ((σ (13, i, 0) 5).toNatClampNeg) (0)) (13, i, 0) (5) ((σ (13, i, 0) 5) + (1))) (16, i, 0) ((((σ (13, i, 0) 5) + (1)) - (1)).toNatClampNeg)) + (size))) (13, i, 0))) rfl 1 (by decide) fl_X0_9 rfl dX0_add_86 ?_
        refine lv_aload_n hx hb dX0_add_89 rfl (lv_at hl 0 rfl) ?_
        refine g_get (C := RX0) (T := TX0) (N := 6) (v := .int ((g_up (g_up (g_up (g_up σ (15, i, 0) ((σ (13, i, 0) 5).toNatClampNeg) (σ (13, i, 0) 4)) (16, i, 0) ((σ (13, i, 0) 5).toNatClampNeg) (0)) (13, i, 0) (5) ((σ (13, i, 0) 5) + (1))) (16, i, 0) ((((σ (13, i, 0) 5) + (1)) - (1)).toNatClampNeg) (((g_up (g_up (g_up σ (15, i, 0) ((σ (13, i, 0) 5).toNatClampNeg) (σ (13, i, 0) 4)) (16, i, 0) ((σ (13, i, 0) 5).toNatClampNeg) (0)) (13, i, 0) (5) ((σ (13, i, 0) 5) + (1))) (16, i, 0) ((((σ (13, i, 0) 5) + (1)) - (1)).toNatClampNeg)) + (size))) (13, i, 0) 4)) hx hb hts inX0g hown hK hG (13, i, 0) ⟨hi, rfl⟩ (x_at_13 cy L ns kk (i) (0) ((g_up (g_up (g_up (g_up σ (15, i, 0) ((σ (13, i, 0) 5).toNatClampNeg) (σ (13, i, 0) 4)) (16, i, 0) ((σ (13, i, 0) 5).toNatClampNeg) (0)) (13, i, 0) (5) ((σ (13, i, 0) 5) + (1))) (16, i, 0) ((((σ (13, i, 0) 5) + (1)) - (1)).toNatClampNeg) (((g_up (g_up (g_up σ (15, i, 0) ((σ (13, i, 0) 5).toNatClampNeg) (σ (13, i, 0) 4)) (16, i, 0) ((σ (13, i, 0) 5).toNatClampNeg) (0)) (13, i, 0) (5) ((σ (13, i, 0) 5) + (1))) (16, i, 0) ((((σ (13, i, 0) 5) + (1)) - (1)).toNatClampNeg)) + (size))) (13, i, 0))) rfl 4 (by decide) fl_X0_21 rfl dX0_add_90 ?_
        rw [show (g_up (g_up (g_up (g_up σ (15, i, 0) ((σ (13, i, 0) 5).toNatClampNeg) (σ (13, i, 0) 4)) (16, i, 0) ((σ (13, i, 0) 5).toNatClampNeg) (0)) (13, i, 0) (5) ((σ (13, i, 0) 5) + (1))) (16, i, 0) ((((σ (13, i, 0) 5) + (1)) - (1)).toNatClampNeg) (((g_up (g_up (g_up σ (15, i, 0) ((σ (13, i, 0) 5).toNatClampNeg) (σ (13, i, 0) 4)) (16, i, 0) ((σ (13, i, 0) 5).toNatClampNeg) (0)) (13, i, 0) (5) ((σ (13, i, 0) 5) + (1))) (16, i, 0) ((((σ (13, i, 0) 5) + (1)) - (1)).toNatClampNeg)) + (size))) (13, i, 0) 4 = σ (13, i, 0) 4 from by simp [g_up_at]]
        refine lv_iload_n hx hb dX0_add_93 rfl (lv_at hl 1 rfl) ?_
        refine g_iast (n := 100) hx hb hK hG hS (14, i, 0) ⟨hi, rfl⟩ 0 (fun _ => rfl) rfl (g_vp (by omega) (by omega)) dX0_add_94 (fun H locs hG hS => ?_)
        refine lv_aload_n hx hb dX0_add_95 rfl (lv_at hl 0 rfl) ?_
        refine lv_dup hx hb dX0_add_96 rfl ?_
        refine g_get (C := RX0) (T := TX0) (N := 6) (v := .int ((g_up (g_up (g_up (g_up (g_up σ (15, i, 0) ((σ (13, i, 0) 5).toNatClampNeg) (σ (13, i, 0) 4)) (16, i, 0) ((σ (13, i, 0) 5).toNatClampNeg) (0)) (13, i, 0) (5) ((σ (13, i, 0) 5) + (1))) (16, i, 0) ((((σ (13, i, 0) 5) + (1)) - (1)).toNatClampNeg) (((g_up (g_up (g_up σ (15, i, 0) ((σ (13, i, 0) 5).toNatClampNeg) (σ (13, i, 0) 4)) (16, i, 0) ((σ (13, i, 0) 5).toNatClampNeg) (0)) (13, i, 0) (5) ((σ (13, i, 0) 5) + (1))) (16, i, 0) ((((σ (13, i, 0) 5) + (1)) - (1)).toNatClampNeg)) + (size))) (14, i, 0) ((σ (13, i, 0) 4).toNatClampNeg) (r)) (13, i, 0) 4)) hx hb hts inX0g hown hK hG (13, i, 0) ⟨hi, rfl⟩ (x_at_13 cy L ns kk (i) (0) ((g_up (g_up (g_up (g_up (g_up σ (15, i, 0) ((σ (13, i, 0) 5).toNatClampNeg) (σ (13, i, 0) 4)) (16, i, 0) ((σ (13, i, 0) 5).toNatClampNeg) (0)) (13, i, 0) (5) ((σ (13, i, 0) 5) + (1))) (16, i, 0) ((((σ (13, i, 0) 5) + (1)) - (1)).toNatClampNeg) (((g_up (g_up (g_up σ (15, i, 0) ((σ (13, i, 0) 5).toNatClampNeg) (σ (13, i, 0) 4)) (16, i, 0) ((σ (13, i, 0) 5).toNatClampNeg) (0)) (13, i, 0) (5) ((σ (13, i, 0) 5) + (1))) (16, i, 0) ((((σ (13, i, 0) 5) + (1)) - (1)).toNatClampNeg)) + (size))) (14, i, 0) ((σ (13, i, 0) 4).toNatClampNeg) (r)) (13, i, 0))) rfl 4 (by decide) fl_X0_21 rfl dX0_add_97 ?_
        rw [show (g_up (g_up (g_up (g_up (g_up σ (15, i, 0) ((σ (13, i, 0) 5).toNatClampNeg) (σ (13, i, 0) 4)) (16, i, 0) ((σ (13, i, 0) 5).toNatClampNeg) (0)) (13, i, 0) (5) ((σ (13, i, 0) 5) + (1))) (16, i, 0) ((((σ (13, i, 0) 5) + (1)) - (1)).toNatClampNeg) (((g_up (g_up (g_up σ (15, i, 0) ((σ (13, i, 0) 5).toNatClampNeg) (σ (13, i, 0) 4)) (16, i, 0) ((σ (13, i, 0) 5).toNatClampNeg) (0)) (13, i, 0) (5) ((σ (13, i, 0) 5) + (1))) (16, i, 0) ((((σ (13, i, 0) 5) + (1)) - (1)).toNatClampNeg)) + (size))) (14, i, 0) ((σ (13, i, 0) 4).toNatClampNeg) (r)) (13, i, 0) 4 = σ (13, i, 0) 4 from by simp [g_up_at]]
        refine lv_iconst (v := 1) hx hb dX0_add_100 (by decide) ?_
        refine lv_iadd hx hb dX0_add_101 ?_
        refine g_puti (C := RX0) (T := TX0) (N := 6) (v := (σ (13, i, 0) 4) + (1)) (ty := .int) hx hb hts inX0g tyX0_ok nmX0 hown hK hG hS (13, i, 0) ⟨hi, rfl⟩ (x_at_13 cy L ns kk (i) (0) ((g_up (g_up (g_up (g_up (g_up σ (15, i, 0) ((σ (13, i, 0) 5).toNatClampNeg) (σ (13, i, 0) 4)) (16, i, 0) ((σ (13, i, 0) 5).toNatClampNeg) (0)) (13, i, 0) (5) ((σ (13, i, 0) 5) + (1))) (16, i, 0) ((((σ (13, i, 0) 5) + (1)) - (1)).toNatClampNeg) (((g_up (g_up (g_up σ (15, i, 0) ((σ (13, i, 0) 5).toNatClampNeg) (σ (13, i, 0) 4)) (16, i, 0) ((σ (13, i, 0) 5).toNatClampNeg) (0)) (13, i, 0) (5) ((σ (13, i, 0) 5) + (1))) (16, i, 0) ((((σ (13, i, 0) 5) + (1)) - (1)).toNatClampNeg)) + (size))) (14, i, 0) ((σ (13, i, 0) 4).toNatClampNeg) (r)) (13, i, 0))) rfl 4 (by decide) (x_up_13_4 cy L ns kk (i) (0) ((g_up (g_up (g_up (g_up (g_up σ (15, i, 0) ((σ (13, i, 0) 5).toNatClampNeg) (σ (13, i, 0) 4)) (16, i, 0) ((σ (13, i, 0) 5).toNatClampNeg) (0)) (13, i, 0) (5) ((σ (13, i, 0) 5) + (1))) (16, i, 0) ((((σ (13, i, 0) 5) + (1)) - (1)).toNatClampNeg) (((g_up (g_up (g_up σ (15, i, 0) ((σ (13, i, 0) 5).toNatClampNeg) (σ (13, i, 0) 4)) (16, i, 0) ((σ (13, i, 0) 5).toNatClampNeg) (0)) (13, i, 0) (5) ((σ (13, i, 0) 5) + (1))) (16, i, 0) ((((σ (13, i, 0) 5) + (1)) - (1)).toNatClampNeg)) + (size))) (14, i, 0) ((σ (13, i, 0) 4).toNatClampNeg) (r)) (13, i, 0)) ((σ (13, i, 0) 4) + (1))) fl_X0_21 rfl (by decide +kernel) rfl rfl (Nat.le_of_ble_eq_true rfl) dX0_add_102 (fun H locs hG hS => ?_)
        exact s_vret hx hb hr hlk hG hS dX0_add_105 rfl (by unfold x_preAdd; rw [if_neg (by omega), if_pos (by omega)]; rfl)
  · exact s_vret hx hb hr hlk hG hS dX0_add_9 rfl (by unfold x_preAdd; rw [if_pos (by omega)])
set_option maxHeartbeats 4000000 in
set_option maxRecDepth 100000 in
theorem c_X0_recordAt (l : Launch) (D : va_G) (cy : Nat → ClassId) (L : g_S → Nat) (ns : Nat) (kk : Nat → Nat) (σ : g_S → Nat → Int32) (i : Nat) (hi : i < ns) (p : Int32) (p1 : (σ (13, i, 0) 4).toInt ≤ 100) : x_Met l D cy L ns kk yX0_recordAt (.code yX0_recordAt cX0_recordAt 2 (some .int)) 0 σ [.ref (L (13, i, 0)), .int (p)] (some (.int (x_preAt σ i p))) σ := by
  refine g_Met.of (by decide) (Nat.le_of_ble_eq_true rfl) ?_
  intro pg e s m below meth c hx hb hr hlk hml hown hts hK hN H locs hG hS ls hl
  have hown : s.vm.findClass RX0 = some m.cls := hown
  have hl : lv_has ls 2 [(0, .ref (L (13, i, 0))), (1, .int (p))] := hl
  refine lv_iload_n hx hb dX0_recordAt_0 rfl (lv_at hl 1 rfl) ?_
  refine kz_if_lt (X := (p).toInt) hx hb rfl dX0_recordAt_1 (tgt := 21) (by decide) (fun c_1_1 => ?_) (fun c_1_1 => ?_)
  · refine lv_iconst (v := (-1)) hx hb dX0_recordAt_21 (by decide) ?_
    exact s_iret hx hb hr hlk hG hS dX0_recordAt_22 (by unfold x_preAt; (repeat' split) <;> first | rfl | (exfalso; omega)) rfl
  · refine lv_iload_n hx hb dX0_recordAt_4 rfl (lv_at hl 1 rfl) ?_
    refine lv_aload_n hx hb dX0_recordAt_5 rfl (lv_at hl 0 rfl) ?_
    refine g_get (C := RX0) (T := TX0) (N := 6) (v := .int (σ (13, i, 0) 4)) hx hb hts inX0g hown hK hG (13, i, 0) ⟨hi, rfl⟩ (x_at_13 cy L ns kk (i) (0) (σ (13, i, 0))) rfl 4 (by decide) fl_X0_21 rfl dX0_recordAt_6 ?_
    refine kz_icmp_ge (X := (p).toInt) (Y := (σ (13, i, 0) 4).toInt) hx hb rfl rfl dX0_recordAt_9 (tgt := 21) (by decide) (fun c_9_2 => ?_) (fun c_9_2 => ?_)
    · refine lv_iconst (v := (-1)) hx hb dX0_recordAt_21 (by decide) ?_
      exact s_iret hx hb hr hlk hG hS dX0_recordAt_22 (by unfold x_preAt; (repeat' split) <;> first | rfl | (exfalso; omega)) rfl
    · refine lv_aload_n hx hb dX0_recordAt_12 rfl (lv_at hl 0 rfl) ?_
      refine g_get (C := RX0) (T := TX0) (N := 6) (v := .ref (L (14, i, 0))) hx hb hts inX0g hown hK hG (13, i, 0) ⟨hi, rfl⟩ (x_at_13 cy L ns kk (i) (0) (σ (13, i, 0))) rfl 1 (by decide) fl_X0_9 rfl dX0_recordAt_13 ?_
      refine lv_iload_n hx hb dX0_recordAt_16 rfl (lv_at hl 1 rfl) ?_
      refine g_iald (n := 100) hx hb hK hG (14, i, 0) ⟨hi, rfl⟩ 0 rfl rfl (g_vp (by omega) (by omega)) dX0_recordAt_17 ?_
      refine lv_goto (tgt := 22) hx hb dX0_recordAt_18 (by decide) ?_
      exact s_iret hx hb hr hlk hG hS dX0_recordAt_22 (by unfold x_preAt; (repeat' split) <;> first | rfl | (exfalso; omega)) rfl
set_option maxHeartbeats 4000000 in
set_option maxRecDepth 100000 in
theorem c_X0_endOfSegment (l : Launch) (D : va_G) (cy : Nat → ClassId) (L : g_S → Nat) (ns : Nat) (kk : Nat → Nat) (σ : g_S → Nat → Int32) (i : Nat) (hi : i < ns) (p : Int32) (hp : 0 ≤ p.toInt ∧ p.toInt < 100) (g1 : (σ (13, i, 0) 5).toInt ≤ 100) : x_Met l D cy L ns kk yX0_endOfSegment (.code yX0_endOfSegment cX0_endOfSegment 2 (some .int)) 0 σ [.ref (L (13, i, 0)), .int (p)] (some (.int (x_endSeg σ i p))) σ := by
  refine g_Met.of (by decide) (Nat.le_of_ble_eq_true rfl) ?_
  intro pg e s m below meth c hx hb hr hlk hml hown hts hK hN H locs hG hS ls hl
  have hown : s.vm.findClass RX0 = some m.cls := hown
  have hl : lv_has ls 2 [(0, .ref (L (13, i, 0))), (1, .int (p))] := hl
  refine lv_iload_n hx hb dX0_endOfSegment_0 rfl (lv_at hl 1 rfl) ?_
  refine lv_iconst (v := 1) hx hb dX0_endOfSegment_1 (by decide) ?_
  refine lv_iadd hx hb dX0_endOfSegment_2 ?_
  have z_1 : ((p) + (1)).toInt = ((p).toInt + 1) := by have h1 : (p : Int32).toInt = (p).toInt := rfl; have h2 : (1 : Int32).toInt = 1 := (by decide); rw [g_addI (by omega) (by omega)] <;> omega
  refine lv_aload_n hx hb dX0_endOfSegment_3 rfl (lv_at hl 0 rfl) ?_
  refine g_get (C := RX0) (T := TX0) (N := 6) (v := .int (σ (13, i, 0) 5)) hx hb hts inX0g hown hK hG (13, i, 0) ⟨hi, rfl⟩ (x_at_13 cy L ns kk (i) (0) (σ (13, i, 0))) rfl 5 (by decide) fl_X0_25 rfl dX0_endOfSegment_4 ?_
  refine kz_icmp_ge (X := ((p).toInt + 1)) (Y := (σ (13, i, 0) 5).toInt) hx hb z_1 rfl dX0_endOfSegment_7 (tgt := 21) (by decide) (fun c_7_2 => ?_) (fun c_7_2 => ?_)
  · refine lv_aload_n hx hb dX0_endOfSegment_21 rfl (lv_at hl 0 rfl) ?_
    refine g_get (C := RX0) (T := TX0) (N := 6) (v := .int (σ (13, i, 0) 4)) hx hb hts inX0g hown hK hG (13, i, 0) ⟨hi, rfl⟩ (x_at_13 cy L ns kk (i) (0) (σ (13, i, 0))) rfl 4 (by decide) fl_X0_21 rfl dX0_endOfSegment_22 ?_
    exact s_iret hx hb hr hlk hG hS dX0_endOfSegment_25 (by unfold x_endSeg; (repeat' split) <;> first | rfl | (exfalso; have := g_addI (a := p) (b := 1) (by have : (1 : Int32).toInt = 1 := rfl; omega) (by have : (1 : Int32).toInt = 1 := rfl; omega); have : (1 : Int32).toInt = 1 := rfl; omega)) rfl
  · refine lv_aload_n hx hb dX0_endOfSegment_10 rfl (lv_at hl 0 rfl) ?_
    refine g_get (C := RX0) (T := TX0) (N := 6) (v := .ref (L (15, i, 0))) hx hb hts inX0g hown hK hG (13, i, 0) ⟨hi, rfl⟩ (x_at_13 cy L ns kk (i) (0) (σ (13, i, 0))) rfl 2 (by decide) fl_X0_15 rfl dX0_endOfSegment_11 ?_
    refine lv_iload_n hx hb dX0_endOfSegment_14 rfl (lv_at hl 1 rfl) ?_
    refine lv_iconst (v := 1) hx hb dX0_endOfSegment_15 (by decide) ?_
    refine lv_iadd hx hb dX0_endOfSegment_16 ?_
    have z_3 : ((p) + (1)).toInt = ((p).toInt + 1) := by have h1 : (p : Int32).toInt = (p).toInt := rfl; have h2 : (1 : Int32).toInt = 1 := (by decide); rw [g_addI (by omega) (by omega)] <;> omega
    refine g_iald (n := 100) hx hb hK hG (15, i, 0) ⟨hi, rfl⟩ 0 rfl rfl (g_vp (by have := (show ((p) + (1) : Int32).toInt = ((p).toInt + 1) from z_3); omega) (by have := (show ((p) + (1) : Int32).toInt = ((p).toInt + 1) from z_3); omega)) dX0_endOfSegment_17 ?_
    refine lv_goto (tgt := 25) hx hb dX0_endOfSegment_18 (by decide) ?_
    exact s_iret hx hb hr hlk hG hS dX0_endOfSegment_25 (by unfold x_endSeg; (repeat' split) <;> first | rfl | (exfalso; have := g_addI (a := p) (b := 1) (by have : (1 : Int32).toInt = 1 := rfl; omega) (by have : (1 : Int32).toInt = 1 := rfl; omega); have : (1 : Int32).toInt = 1 := rfl; omega)) rfl
set_option maxHeartbeats 4000000 in
set_option maxRecDepth 100000 in
theorem c_X0_tellSegment (l : Launch) (D : va_G) (cy : Nat → ClassId) (L : g_S → Nat) (ns : Nat) (kk : Nat → Nat) (σ : g_S → Nat → Int32) (i : Nat) (hi : i < ns) (p w : Int32) (g1 : (σ (13, i, 0) 5).toInt ≤ 100) : x_Met l D cy L ns kk yX0_tellSegment (.code yX0_tellSegment cX0_tellSegment 3 (some .int)) 1 σ [.ref (L (13, i, 0)), .int (p), .int (w)] (some (.int (x_tellSeg σ i p w))) σ := by
  refine g_Met.of (by decide) (Nat.le_of_ble_eq_true rfl) ?_
  intro pg e s m below meth c hx hb hr hlk hml hown hts hK hN H locs hG hS ls hl
  have hown : s.vm.findClass RX0 = some m.cls := hown
  have hl : lv_has ls 3 [(0, .ref (L (13, i, 0))), (1, .int (p)), (2, .int (w))] := hl
  refine lv_iload_n hx hb dX0_tellSegment_0 rfl (lv_at hl 1 rfl) ?_
  refine kz_if_lt (X := (p).toInt) hx hb rfl dX0_tellSegment_1 (tgt := 12) (by decide) (fun c_1_1 => ?_) (fun c_1_1 => ?_)
  · refine lv_iconst (v := (-1)) hx hb dX0_tellSegment_12 (by decide) ?_
    exact s_iret hx hb hr hlk hG hS dX0_tellSegment_13 (by unfold x_tellSeg; (repeat' split) <;> first | rfl | (exfalso; omega)) rfl
  · refine lv_iload_n hx hb dX0_tellSegment_4 rfl (lv_at hl 1 rfl) ?_
    refine lv_aload_n hx hb dX0_tellSegment_5 rfl (lv_at hl 0 rfl) ?_
    refine g_get (C := RX0) (T := TX0) (N := 6) (v := .int (σ (13, i, 0) 5)) hx hb hts inX0g hown hK hG (13, i, 0) ⟨hi, rfl⟩ (x_at_13 cy L ns kk (i) (0) (σ (13, i, 0))) rfl 5 (by decide) fl_X0_25 rfl dX0_tellSegment_6 ?_
    refine kz_icmp_lt (X := (p).toInt) (Y := (σ (13, i, 0) 5).toInt) hx hb rfl rfl dX0_tellSegment_9 (tgt := 14) (by decide) (fun c_9_2 => ?_) (fun c_9_2 => ?_)
    · refine lv_iload_n hx hb dX0_tellSegment_14 rfl (lv_at hl 2 rfl) ?_
      rcases (show (w).toInt = 0 ∨ (w).toInt = 1 ∨ (w).toInt = 2 ∨ (w).toInt = 3 ∨ ((w).toInt < 0 ∨ 3 < (w).toInt) by omega) with c_15_3 | c_15_3 | c_15_3 | c_15_3 | c_15_3
      · refine lv_tableIn (off := 29) (tgt := 44) hx hb dX0_tellSegment_15 (by have := (show (w : Int32).toInt = (w).toInt from rfl); omega) (by have := (show (w : Int32).toInt = (w).toInt from rfl); omega) (by rw [((show (w : Int32).toInt = (w).toInt from rfl)).trans c_15_3]; rfl) (by decide) ?_
        refine lv_aload_n hx hb dX0_tellSegment_44 rfl (lv_at hl 0 rfl) ?_
        refine g_get (C := RX0) (T := TX0) (N := 6) (v := .ref (L (15, i, 0))) hx hb hts inX0g hown hK hG (13, i, 0) ⟨hi, rfl⟩ (x_at_13 cy L ns kk (i) (0) (σ (13, i, 0))) rfl 2 (by decide) fl_X0_15 rfl dX0_tellSegment_45 ?_
        refine lv_iload_n hx hb dX0_tellSegment_48 rfl (lv_at hl 1 rfl) ?_
        refine g_iald (n := 100) hx hb hK hG (15, i, 0) ⟨hi, rfl⟩ 0 rfl rfl (g_vp (by omega) (by omega)) dX0_tellSegment_49 ?_
        exact s_iret hx hb hr hlk hG hS dX0_tellSegment_50 (by unfold x_tellSeg; (repeat' split) <;> first | rfl | (exfalso; omega)) rfl
      · refine lv_tableIn (off := 36) (tgt := 51) hx hb dX0_tellSegment_15 (by have := (show (w : Int32).toInt = (w).toInt from rfl); omega) (by have := (show (w : Int32).toInt = (w).toInt from rfl); omega) (by rw [((show (w : Int32).toInt = (w).toInt from rfl)).trans c_15_3]; rfl) (by decide) ?_
        refine lv_aload_n hx hb dX0_tellSegment_51 rfl (lv_at hl 0 rfl) ?_
        refine lv_iload_n hx hb dX0_tellSegment_52 rfl (lv_at hl 1 rfl) ?_
        refine g_cont (va_runV (As := [.int (p)]) (rest := []) ⟨hx, hb, hml, hown, hts⟩ (c_X0_endOfSegment l D cy L ns kk σ (i) hi (p) ⟨by omega, by omega⟩ g1) (cwV 1 hts gV_X0_31 rfl rfl rfl (by decide +kernel) ⟨Nat.le_of_ble_eq_true rfl, Nat.le_of_ble_eq_true rfl⟩) (g_preV hK hN hG (x := (13, i, 0)) ⟨hi, rfl⟩ (q := (RX0, TX0, 6)) (x_at_13 cy L ns kk (i) (0) (σ (13, i, 0))) rfl) rfl rfl hl.1 rfl (lv_room (Nat.le_of_ble_eq_true rfl)) dX0_tellSegment_53 ⟨Nat.zero_le _, Nat.zero_le _⟩) hS (fun H locs hG hS => ?_)
        refine W.eq (g2 := F0 m 56 ls [.int (x_endSeg σ (i) (p))]) rfl ?_
        refine lv_aload_n hx hb dX0_tellSegment_56 rfl (lv_at hl 0 rfl) ?_
        refine g_get (C := RX0) (T := TX0) (N := 6) (v := .ref (L (15, i, 0))) hx hb hts inX0g hown hK hG (13, i, 0) ⟨hi, rfl⟩ (x_at_13 cy L ns kk (i) (0) (σ (13, i, 0))) rfl 2 (by decide) fl_X0_15 rfl dX0_tellSegment_57 ?_
        refine lv_iload_n hx hb dX0_tellSegment_60 rfl (lv_at hl 1 rfl) ?_
        refine g_iald (n := 100) hx hb hK hG (15, i, 0) ⟨hi, rfl⟩ 0 rfl rfl (g_vp (by omega) (by omega)) dX0_tellSegment_61 ?_
        refine lv_isub hx hb dX0_tellSegment_62 ?_
        exact s_iret hx hb hr hlk hG hS dX0_tellSegment_63 (by unfold x_tellSeg; (repeat' split) <;> first | rfl | (exfalso; omega)) rfl
      · refine lv_tableIn (off := 49) (tgt := 64) hx hb dX0_tellSegment_15 (by have := (show (w : Int32).toInt = (w).toInt from rfl); omega) (by have := (show (w : Int32).toInt = (w).toInt from rfl); omega) (by rw [((show (w : Int32).toInt = (w).toInt from rfl)).trans c_15_3]; rfl) (by decide) ?_
        refine lv_aload_n hx hb dX0_tellSegment_64 rfl (lv_at hl 0 rfl) ?_
        refine g_get (C := RX0) (T := TX0) (N := 6) (v := .ref (L (16, i, 0))) hx hb hts inX0g hown hK hG (13, i, 0) ⟨hi, rfl⟩ (x_at_13 cy L ns kk (i) (0) (σ (13, i, 0))) rfl 3 (by decide) fl_X0_18 rfl dX0_tellSegment_65 ?_
        refine lv_iload_n hx hb dX0_tellSegment_68 rfl (lv_at hl 1 rfl) ?_
        refine g_iald (n := 100) hx hb hK hG (16, i, 0) ⟨hi, rfl⟩ 0 rfl rfl (g_vp (by omega) (by omega)) dX0_tellSegment_69 ?_
        exact s_iret hx hb hr hlk hG hS dX0_tellSegment_70 (by unfold x_tellSeg; (repeat' split) <;> first | rfl | (exfalso; omega)) rfl
      · refine lv_tableIn (off := 56) (tgt := 71) hx hb dX0_tellSegment_15 (by have := (show (w : Int32).toInt = (w).toInt from rfl); omega) (by have := (show (w : Int32).toInt = (w).toInt from rfl); omega) (by rw [((show (w : Int32).toInt = (w).toInt from rfl)).trans c_15_3]; rfl) (by decide) ?_
        refine lv_aload_n hx hb dX0_tellSegment_71 rfl (lv_at hl 0 rfl) ?_
        refine g_get (C := RX0) (T := TX0) (N := 6) (v := .ref (L (16, i, 0))) hx hb hts inX0g hown hK hG (13, i, 0) ⟨hi, rfl⟩ (x_at_13 cy L ns kk (i) (0) (σ (13, i, 0))) rfl 3 (by decide) fl_X0_18 rfl dX0_tellSegment_72 ?_
        refine lv_iload_n hx hb dX0_tellSegment_75 rfl (lv_at hl 1 rfl) ?_
        refine g_iald (n := 100) hx hb hK hG (16, i, 0) ⟨hi, rfl⟩ 0 rfl rfl (g_vp (by omega) (by omega)) dX0_tellSegment_76 ?_
        refine lv_aload_n hx hb dX0_tellSegment_77 rfl (lv_at hl 0 rfl) ?_
        refine g_get (C := RX0) (T := TX0) (N := 6) (v := .int (σ (13, i, 0) 0)) hx hb hts inX0g hown hK hG (13, i, 0) ⟨hi, rfl⟩ (x_at_13 cy L ns kk (i) (0) (σ (13, i, 0))) rfl 0 (by decide) fl_X0_28 rfl dX0_tellSegment_78 ?_
        refine kz_icmp_le (X := (σ (16, i, 0) ((p).toNatClampNeg)).toInt) (Y := (σ (13, i, 0) 0).toInt) hx hb rfl rfl dX0_tellSegment_81 (tgt := 88) (by decide) (fun c_81_4 => ?_) (fun c_81_4 => ?_)
        · refine lv_iconst (v := 0) hx hb dX0_tellSegment_88 (by decide) ?_
          exact s_iret hx hb hr hlk hG hS dX0_tellSegment_89 (by unfold x_tellSeg; (repeat' split) <;> first | rfl | (exfalso; omega)) rfl
        · refine lv_iconst (v := 1) hx hb dX0_tellSegment_84 (by decide) ?_
          refine lv_goto (tgt := 89) hx hb dX0_tellSegment_85 (by decide) ?_
          exact s_iret hx hb hr hlk hG hS dX0_tellSegment_89 (by unfold x_tellSeg; (repeat' split) <;> first | rfl | (exfalso; omega)) rfl
      · refine lv_tableOut (tgt := 90) hx hb dX0_tellSegment_15 (by have := (show (w : Int32).toInt = (w).toInt from rfl); omega) (by decide) ?_
        refine lv_iconst (v := (-1)) hx hb dX0_tellSegment_90 (by decide) ?_
        exact s_iret hx hb hr hlk hG hS dX0_tellSegment_91 (by unfold x_tellSeg; (repeat' split) <;> first | rfl | (exfalso; omega)) rfl
    · refine lv_iconst (v := (-1)) hx hb dX0_tellSegment_12 (by decide) ?_
      exact s_iret hx hb hr hlk hG hS dX0_tellSegment_13 (by unfold x_tellSeg; (repeat' split) <;> first | rfl | (exfalso; omega)) rfl
set_option maxHeartbeats 4000000 in
set_option maxRecDepth 100000 in
theorem c_X4_has (l : Launch) (D : va_G) (cy : Nat → ClassId) (L : g_S → Nat) (ns : Nat) (kk : Nat → Nat) (σ : g_S → Nat → Int32) (i : Nat) (hi : i < ns) (p : Int32) : x_Met l D cy L ns kk yX4_has (.code yX4_has cX4_has 2 (some .boolean)) 0 σ [.ref (L (17, i, 0)), .int (p)] (some (.int (g_b (0 ≤ (p).toInt ∧ (p).toInt < (σ (17, i, 0) 2).toInt)))) σ := by
  refine g_Met.of (by decide) (Nat.le_of_ble_eq_true rfl) ?_
  intro pg e s m below meth c hx hb hr hlk hml hown hts hK hN H locs hG hS ls hl
  have hown : s.vm.findClass RX4 = some m.cls := hown
  have hl : lv_has ls 2 [(0, .ref (L (17, i, 0))), (1, .int (p))] := hl
  refine lv_iload_n hx hb dX4_has_0 rfl (lv_at hl 1 rfl) ?_
  refine kz_if_lt (X := (p).toInt) hx hb rfl dX4_has_1 (tgt := 16) (by decide) (fun c_1_1 => ?_) (fun c_1_1 => ?_)
  · refine lv_iconst (v := 0) hx hb dX4_has_16 (by decide) ?_
    exact s_zret hx hb hr hlk hG hS dX4_has_17 rfl (by unfold g_b; (repeat' split) <;> first | rfl | (exfalso; omega)) rfl
  · refine lv_iload_n hx hb dX4_has_4 rfl (lv_at hl 1 rfl) ?_
    refine lv_aload_n hx hb dX4_has_5 rfl (lv_at hl 0 rfl) ?_
    refine g_get (C := RX4) (T := TX4) (N := 3) (v := .int (σ (17, i, 0) 2)) hx hb hts inX4g hown hK hG (17, i, 0) ⟨hi, rfl⟩ (x_at_17 cy L ns kk (i) (0) (σ (17, i, 0))) rfl 2 (by decide) fl_X4_18 rfl dX4_has_6 ?_
    refine kz_icmp_ge (X := (p).toInt) (Y := (σ (17, i, 0) 2).toInt) hx hb rfl rfl dX4_has_9 (tgt := 16) (by decide) (fun c_9_2 => ?_) (fun c_9_2 => ?_)
    · refine lv_iconst (v := 0) hx hb dX4_has_16 (by decide) ?_
      exact s_zret hx hb hr hlk hG hS dX4_has_17 rfl (by unfold g_b; (repeat' split) <;> first | rfl | (exfalso; omega)) rfl
    · refine lv_iconst (v := 1) hx hb dX4_has_12 (by decide) ?_
      refine lv_goto (tgt := 17) hx hb dX4_has_13 (by decide) ?_
      exact s_zret hx hb hr hlk hG hS dX4_has_17 rfl (by unfold g_b; (repeat' split) <;> first | rfl | (exfalso; omega)) rfl
set_option maxHeartbeats 4000000 in
set_option maxRecDepth 100000 in
theorem c_X4_tell (l : Launch) (D : va_G) (cy : Nat → ClassId) (L : g_S → Nat) (ns : Nat) (kk : Nat → Nat) (σ : g_S → Nat → Int32) (i : Nat) (hi : i < ns) (p w : Int32) (t1 : (σ (17, i, 0) 2).toInt ≤ 20) : x_Met l D cy L ns kk yX4_tell (.code yX4_tell cX4_tell 3 (some .int)) 1 σ [.ref (L (17, i, 0)), .int (p), .int (w)] (some (.int (x_scTell σ i p w))) σ := by
  refine g_Met.of (by decide) (Nat.le_of_ble_eq_true rfl) ?_
  intro pg e s m below meth c hx hb hr hlk hml hown hts hK hN H locs hG hS ls hl
  have hown : s.vm.findClass RX4 = some m.cls := hown
  have hl : lv_has ls 3 [(0, .ref (L (17, i, 0))), (1, .int (p)), (2, .int (w))] := hl
  refine lv_aload_n hx hb dX4_tell_0 rfl (lv_at hl 0 rfl) ?_
  refine lv_iload_n hx hb dX4_tell_1 rfl (lv_at hl 1 rfl) ?_
  refine g_cont (va_runV (As := [.int (p)]) (rest := []) ⟨hx, hb, hml, hown, hts⟩ (c_X4_has l D cy L ns kk σ (i) hi (p)) (cwV 1 hts gV_X4_31 rfl rfl rfl (by decide +kernel) ⟨Nat.le_of_ble_eq_true rfl, Nat.le_of_ble_eq_true rfl⟩) (g_preV hK hN hG (x := (17, i, 0)) ⟨hi, rfl⟩ (q := (RX4, TX4, 3)) (x_at_17 cy L ns kk (i) (0) (σ (17, i, 0))) rfl) rfl rfl hl.1 rfl (lv_room (Nat.le_of_ble_eq_true rfl)) dX4_tell_2 ⟨Nat.zero_le _, Nat.zero_le _⟩) hS (fun H locs hG hS => ?_)
  refine W.eq (g2 := F0 m 5 ls [.int (g_b (0 ≤ (p).toInt ∧ (p).toInt < (σ (17, i, 0) 2).toInt))]) rfl ?_
  refine kz_b_ne (tgt := 10) hx hb dX4_tell_5 (by decide) (fun c_5_1 => ?_) (fun c_5_1 => ?_)
  · refine lv_iload_n hx hb dX4_tell_10 rfl (lv_at hl 2 rfl) ?_
    rcases (show w = 0 ∨ w = 1 ∨ (¬ w = 0 ∧ ¬ w = 1) by simp only [g_eqI]; omega) with c_11_2 | c_11_2 | c_11_2
    · refine lv_lookup (off := 25) (tgt := 36) hx hb dX4_tell_11 (by decide) (by rw [c_11_2]; decide) (by decide) ?_
      refine lv_aload_n hx hb dX4_tell_36 rfl (lv_at hl 0 rfl) ?_
      refine g_get (C := RX4) (T := TX4) (N := 3) (v := .ref (L (20, i, 0))) hx hb hts inX4g hown hK hG (17, i, 0) ⟨hi, rfl⟩ (x_at_17 cy L ns kk (i) (0) (σ (17, i, 0))) rfl 0 (by decide) fl_X4_9 rfl dX4_tell_37 ?_
      refine lv_iload_n hx hb dX4_tell_40 rfl (lv_at hl 1 rfl) ?_
      refine g_iald (n := 20) hx hb hK hG (20, i, 0) ⟨hi, rfl⟩ 0 rfl rfl (g_vp (by omega) (by omega)) dX4_tell_41 ?_
      exact s_iret hx hb hr hlk hG hS dX4_tell_42 (by unfold x_scTell; (repeat' split) <;> first | rfl | (exfalso; omega) | (exfalso; simp only [g_eqI] at *; have z0 : (0 : Int32).toInt = 0 := rfl; have z1 : (1 : Int32).toInt = 1 := rfl; omega)) rfl
    · refine lv_lookup (off := 32) (tgt := 43) hx hb dX4_tell_11 (by decide) (by rw [c_11_2]; decide) (by decide) ?_
      refine lv_aload_n hx hb dX4_tell_43 rfl (lv_at hl 0 rfl) ?_
      refine g_get (C := RX4) (T := TX4) (N := 3) (v := .ref (L (21, i, 0))) hx hb hts inX4g hown hK hG (17, i, 0) ⟨hi, rfl⟩ (x_at_17 cy L ns kk (i) (0) (σ (17, i, 0))) rfl 1 (by decide) fl_X4_15 rfl dX4_tell_44 ?_
      refine lv_iload_n hx hb dX4_tell_47 rfl (lv_at hl 1 rfl) ?_
      refine g_iald (n := 20) hx hb hK hG (21, i, 0) ⟨hi, rfl⟩ 0 rfl rfl (g_vp (by omega) (by omega)) dX4_tell_48 ?_
      exact s_iret hx hb hr hlk hG hS dX4_tell_49 (by unfold x_scTell; (repeat' split) <;> first | rfl | (exfalso; omega) | (exfalso; simp only [g_eqI] at *; have z0 : (0 : Int32).toInt = 0 := rfl; have z1 : (1 : Int32).toInt = 1 := rfl; omega)) rfl
    · refine lv_lookup (off := 39) (tgt := 50) hx hb dX4_tell_11 (by decide) ((lv_osw c_11_2.1 (by decide)).trans ((lv_osw c_11_2.2 (by decide)).trans rfl)) (by decide) ?_
      refine lv_iconst (v := (-1)) hx hb dX4_tell_50 (by decide) ?_
      exact s_iret hx hb hr hlk hG hS dX4_tell_51 (by unfold x_scTell; (repeat' split) <;> first | rfl | (exfalso; omega) | (exfalso; simp only [g_eqI] at *; have z0 : (0 : Int32).toInt = 0 := rfl; have z1 : (1 : Int32).toInt = 1 := rfl; omega)) rfl
  · refine lv_iconst (v := (-1)) hx hb dX4_tell_8 (by decide) ?_
    exact s_iret hx hb hr hlk hG hS dX4_tell_9 (by unfold x_scTell; (repeat' split) <;> first | rfl | (exfalso; omega) | (exfalso; simp only [g_eqI] at *; have z0 : (0 : Int32).toInt = 0 := rfl; have z1 : (1 : Int32).toInt = 1 := rfl; omega)) rfl
set_option maxHeartbeats 4000000 in
set_option maxRecDepth 100000 in
theorem lp_fill (l : Launch) (D : va_G) (cy : Nat → ClassId) (L : g_S → Nat) (ns : Nat) (kk : Nat → Nat) {pg : Program} {e : Env} {s : State} {m : MethodId} {args : Array Value} {below : List Frame} {meth : Method} {c : Code} {Q : State → Prop} (C0 : g_C pg s m meth c args cX4_fill (some .int) 6 RX4 D (x_tys cy)) (i : Nat) (hi : i < ns) (x most : Int32) :
    ∀ (n : Nat) (σ : g_S → Nat → Int32) (nx : Int32) (H : Heap) (locs : List Loc) (ls : Array Slot), 0 ≤ (n : Int) → (0 ≤ (σ (1, 0, 0) 2).toInt ∧ (σ (1, 0, 0) 2).toInt ≤ 100 ∧ ((σ (17, i, 0) 2).toInt + n = 20 ∧ 0 ≤ (σ (17, i, 0) 2).toInt)) → g_H D vwCl (x_dom ns kk) L (fun z => x_K cy L ns kk z (σ z)) H → va_S (g_A (x_dom ns kk) L) s.heap H locs → lv_has ls 6 [(5, .int (nx)), (0, .ref (L (17, i, 0))), (1, .ref (L (1, 0, 0))), (2, .int (x)), (4, .int (most))] →
    (∀ (H : Heap) (locs : List Loc) (ls : Array Slot), g_H D vwCl (x_dom ns kk) L (fun z => x_K cy L ns kk z ((x_fillGo i x most n σ nx) z)) H → va_S (g_A (x_dom ns kk) L) s.heap H locs → lv_has ls 6 [(0, .ref (L (17, i, 0)))] → W pg l e (g_R 3) s m args below meth c H locs 0 0 Q (F0 m 88 ls [])) →
    W pg l e (g_R 3) s m args below meth c H locs 0 0 Q (F0 m 13 ls []) := by
  obtain ⟨hx, hb, hr, hlk, hml, hown, hts, hK, hN⟩ := C0
  intro n
  induction n with
  | zero =>
    intro σ nx H locs ls hv9 hy hG hS hl kk9
    obtain ⟨h0, hn, hc9⟩ := hy
    have hc9 := hc9
    refine lv_aload_n hx hb dX4_fill_13 rfl (lv_at hl 1 rfl) ?_
    refine g_get (C := RX4) (T := TX4) (N := 3) (v := .int (σ (17, i, 0) 2)) hx hb hts inX4g hown hK hG (17, i, 0) ⟨hi, rfl⟩ (x_at_17 cy L ns kk (i) (0) (σ (17, i, 0))) rfl 2 (by decide) fl_X4_18 rfl dX4_fill_14 ?_
    refine lv_iload hx hb dX4_fill_17 (lv_at hl 4 rfl) ?_
    refine kz_icmp_ge (X := (σ (17, i, 0) 2).toInt) (Y := (most).toInt) hx hb rfl rfl dX4_fill_19 (tgt := 88) (by decide) (fun c_19_1 => ?_) (fun c_19_1 => ?_)
    · exact kk9 H locs ls hG hS (lv_sub hl [1] rfl)
    · refine lv_aload_n hx hb dX4_fill_22 rfl (lv_at hl 1 rfl) ?_
      refine g_get (C := RX4) (T := TX4) (N := 3) (v := .int (σ (17, i, 0) 2)) hx hb hts inX4g hown hK hG (17, i, 0) ⟨hi, rfl⟩ (x_at_17 cy L ns kk (i) (0) (σ (17, i, 0))) rfl 2 (by decide) fl_X4_18 rfl dX4_fill_23 ?_
      refine lv_bipush (v := 20) hx hb dX4_fill_26 (by decide) ?_
      refine kz_icmp_ge (X := (σ (17, i, 0) 2).toInt) (Y := 20) hx hb rfl (by decide) dX4_fill_28 (tgt := 88) (by decide) (fun c_28_2 => ?_) (fun c_28_2 => ?_)
      · exact kk9 H locs ls hG hS (lv_sub hl [1] rfl)
      · exact absurd c_28_2 (by omega)
  | succ n ih =>
    intro σ nx H locs ls hv9 hy hG hS hl kk9
    obtain ⟨h0, hn, hc9⟩ := hy
    have hc9 := hc9
    refine lv_aload_n hx hb dX4_fill_13 rfl (lv_at hl 1 rfl) ?_
    refine g_get (C := RX4) (T := TX4) (N := 3) (v := .int (σ (17, i, 0) 2)) hx hb hts inX4g hown hK hG (17, i, 0) ⟨hi, rfl⟩ (x_at_17 cy L ns kk (i) (0) (σ (17, i, 0))) rfl 2 (by decide) fl_X4_18 rfl dX4_fill_14 ?_
    refine lv_iload hx hb dX4_fill_17 (lv_at hl 4 rfl) ?_
    refine kz_icmp_ge (X := (σ (17, i, 0) 2).toInt) (Y := (most).toInt) hx hb rfl rfl dX4_fill_19 (tgt := 88) (by decide) (fun c_19_1 => ?_) (fun c_19_1 => ?_)
    · have e90 : x_fillGo i x most (n + 1) σ nx = σ := (by rw [x_fillGo_s]; first | (rw [if_neg (by omega)]) | (rw [if_pos (by omega)]))
      rw [e90] at kk9
      exact kk9 H locs ls hG hS (lv_sub hl [1] rfl)
    · refine lv_aload_n hx hb dX4_fill_22 rfl (lv_at hl 1 rfl) ?_
      refine g_get (C := RX4) (T := TX4) (N := 3) (v := .int (σ (17, i, 0) 2)) hx hb hts inX4g hown hK hG (17, i, 0) ⟨hi, rfl⟩ (x_at_17 cy L ns kk (i) (0) (σ (17, i, 0))) rfl 2 (by decide) fl_X4_18 rfl dX4_fill_23 ?_
      refine lv_bipush (v := 20) hx hb dX4_fill_26 (by decide) ?_
      refine kz_icmp_ge (X := (σ (17, i, 0) 2).toInt) (Y := 20) hx hb rfl (by decide) dX4_fill_28 (tgt := 88) (by decide) (fun c_28_2 => ?_) (fun c_28_2 => ?_)
      · exact absurd c_28_2 (by omega)
      · refine lv_iload hx hb dX4_fill_31 (lv_at hl 0 rfl) ?_
        refine lv_iconst (v := (-1)) hx hb dX4_fill_33 (by decide) ?_
        refine kz_icmp_eq (X := (nx).toInt) (Y := (-1)) hx hb rfl (by decide) dX4_fill_34 (tgt := 88) (by decide) (fun c_34_3 => ?_) (fun c_34_3 => ?_)
        · have e90 : x_fillGo i x most (n + 1) σ nx = σ := (by rw [x_fillGo_s]; first | (rw [if_neg (by omega)]) | (rw [if_pos (by omega)]))
          rw [e90] at kk9
          exact kk9 H locs ls hG hS (lv_sub hl [1] rfl)
        · refine lv_aload_n hx hb dX4_fill_37 rfl (lv_at hl 1 rfl) ?_
          refine g_get (C := RX4) (T := TX4) (N := 3) (v := .ref (L (20, i, 0))) hx hb hts inX4g hown hK hG (17, i, 0) ⟨hi, rfl⟩ (x_at_17 cy L ns kk (i) (0) (σ (17, i, 0))) rfl 0 (by decide) fl_X4_9 rfl dX4_fill_38 ?_
          refine lv_aload_n hx hb dX4_fill_41 rfl (lv_at hl 1 rfl) ?_
          refine g_get (C := RX4) (T := TX4) (N := 3) (v := .int (σ (17, i, 0) 2)) hx hb hts inX4g hown hK hG (17, i, 0) ⟨hi, rfl⟩ (x_at_17 cy L ns kk (i) (0) (σ (17, i, 0))) rfl 2 (by decide) fl_X4_18 rfl dX4_fill_42 ?_
          refine lv_iload hx hb dX4_fill_45 (lv_at hl 0 rfl) ?_
          refine g_iast (n := 20) hx hb hK hG hS (20, i, 0) ⟨hi, rfl⟩ 0 (fun _ => rfl) rfl (g_vp (by omega) (by omega)) dX4_fill_47 (fun H locs hG hS => ?_)
          refine lv_aload_n hx hb dX4_fill_48 rfl (lv_at hl 1 rfl) ?_
          refine g_get (C := RX4) (T := TX4) (N := 3) (v := .ref (L (21, i, 0))) hx hb hts inX4g hown hK hG (17, i, 0) ⟨hi, rfl⟩ (x_at_17 cy L ns kk (i) (0) ((g_up σ (20, i, 0) ((σ (17, i, 0) 2).toNatClampNeg) (nx)) (17, i, 0))) rfl 1 (by decide) fl_X4_15 rfl dX4_fill_49 ?_
          refine lv_aload_n hx hb dX4_fill_52 rfl (lv_at hl 1 rfl) ?_
          refine g_get (C := RX4) (T := TX4) (N := 3) (v := .int (σ (17, i, 0) 2)) hx hb hts inX4g hown hK hG (17, i, 0) ⟨hi, rfl⟩ (x_at_17 cy L ns kk (i) (0) ((g_up σ (20, i, 0) ((σ (17, i, 0) 2).toNatClampNeg) (nx)) (17, i, 0))) rfl 2 (by decide) fl_X4_18 rfl dX4_fill_53 ?_
          refine lv_aload_n hx hb dX4_fill_56 rfl (lv_at hl 2 rfl) ?_
          refine lv_iload_n hx hb dX4_fill_57 rfl (lv_at hl 3 rfl) ?_
          refine lv_iload hx hb dX4_fill_58 (lv_at hl 0 rfl) ?_
          refine g_cont (va_runV (As := [.int (x), .int (nx)]) (rest := [.int (σ (17, i, 0) 2), .ref (L (21, i, 0))]) ⟨hx, hb, hml, hown, hts⟩ (c_X2_countOfTerm l D cy L ns kk (g_up σ (20, i, 0) ((σ (17, i, 0) 2).toNatClampNeg) (nx)) (x) (nx) (by first | exact h0 | simpa [g_up_at] using h0 | (simpa [x_scPut, g_up_at] using h0)) (by first | exact hn | simpa [g_up_at] using hn | (simpa [x_scPut, g_up_at] using hn))) (cwV 2 hts gV_X4_28 rfl rfl rfl (by decide +kernel) ⟨Nat.le_of_ble_eq_true rfl, Nat.le_of_ble_eq_true rfl⟩) (g_preV hK hN hG (x := (1, 0, 0)) ⟨rfl, rfl⟩ (q := (RX2, TX2, 3)) (x_at_1 cy L ns kk (0) (0) ((g_up σ (20, i, 0) ((σ (17, i, 0) 2).toNatClampNeg) (nx)) (1, 0, 0))) rfl) rfl rfl hl.1 rfl (lv_room (Nat.le_of_ble_eq_true rfl)) dX4_fill_60 ⟨Nat.zero_le _, Nat.zero_le _⟩) hS (fun H locs hG hS => ?_)
          refine W.eq (g2 := F0 m 63 ls [.int (x_cnt (g_up σ (20, i, 0) ((σ (17, i, 0) 2).toNatClampNeg) (nx)) (x) (nx)), .int (σ (17, i, 0) 2), .ref (L (21, i, 0))]) rfl ?_
          refine g_iast (n := 20) hx hb hK hG hS (21, i, 0) ⟨hi, rfl⟩ 0 (fun _ => rfl) rfl (g_vp (by omega) (by omega)) dX4_fill_63 (fun H locs hG hS => ?_)
          refine lv_aload_n hx hb dX4_fill_64 rfl (lv_at hl 1 rfl) ?_
          refine lv_dup hx hb dX4_fill_65 rfl ?_
          refine g_get (C := RX4) (T := TX4) (N := 3) (v := .int (σ (17, i, 0) 2)) hx hb hts inX4g hown hK hG (17, i, 0) ⟨hi, rfl⟩ (x_at_17 cy L ns kk (i) (0) ((g_up (g_up σ (20, i, 0) ((σ (17, i, 0) 2).toNatClampNeg) (nx)) (21, i, 0) ((σ (17, i, 0) 2).toNatClampNeg) (x_cnt (g_up σ (20, i, 0) ((σ (17, i, 0) 2).toNatClampNeg) (nx)) (x) (nx))) (17, i, 0))) rfl 2 (by decide) fl_X4_18 rfl dX4_fill_66 ?_
          refine lv_iconst (v := 1) hx hb dX4_fill_69 (by decide) ?_
          refine lv_iadd hx hb dX4_fill_70 ?_
          refine g_puti (C := RX4) (T := TX4) (N := 3) (v := (σ (17, i, 0) 2) + (1)) (ty := .int) hx hb hts inX4g tyX4_ok nmX4 hown hK hG hS (17, i, 0) ⟨hi, rfl⟩ (x_at_17 cy L ns kk (i) (0) ((g_up (g_up σ (20, i, 0) ((σ (17, i, 0) 2).toNatClampNeg) (nx)) (21, i, 0) ((σ (17, i, 0) 2).toNatClampNeg) (x_cnt (g_up σ (20, i, 0) ((σ (17, i, 0) 2).toNatClampNeg) (nx)) (x) (nx))) (17, i, 0))) rfl 2 (by decide) (x_up_17_2 cy L ns kk (i) (0) ((g_up (g_up σ (20, i, 0) ((σ (17, i, 0) 2).toNatClampNeg) (nx)) (21, i, 0) ((σ (17, i, 0) 2).toNatClampNeg) (x_cnt (g_up σ (20, i, 0) ((σ (17, i, 0) 2).toNatClampNeg) (nx)) (x) (nx))) (17, i, 0)) ((σ (17, i, 0) 2) + (1))) fl_X4_18 rfl (by decide +kernel) rfl rfl (Nat.le_of_ble_eq_true rfl) dX4_fill_71 (fun H locs hG hS => ?_)
          refine lv_aload_n hx hb dX4_fill_74 rfl (lv_at hl 2 rfl) ?_
          refine lv_iload_n hx hb dX4_fill_75 rfl (lv_at hl 3 rfl) ?_
          refine lv_iload hx hb dX4_fill_76 (lv_at hl 0 rfl) ?_
          refine lv_iconst (v := 1) hx hb dX4_fill_78 (by decide) ?_
          refine lv_iadd hx hb dX4_fill_79 ?_
          refine g_cont (va_runV (As := [.int (x), .int ((nx) + (1))]) (rest := []) ⟨hx, hb, hml, hown, hts⟩ (c_X2_leastTermFrom l D cy L ns kk (g_up (g_up (g_up σ (20, i, 0) ((σ (17, i, 0) 2).toNatClampNeg) (nx)) (21, i, 0) ((σ (17, i, 0) 2).toNatClampNeg) (x_cnt (g_up σ (20, i, 0) ((σ (17, i, 0) 2).toNatClampNeg) (nx)) (x) (nx))) (17, i, 0) (2) ((σ (17, i, 0) 2) + (1))) (x) ((nx) + (1)) (by first | exact h0 | simpa [g_up_at] using h0 | (simpa [x_scPut, g_up_at] using h0)) (by first | exact hn | simpa [g_up_at] using hn | (simpa [x_scPut, g_up_at] using hn))) (cwV 2 hts gV_X4_22 rfl rfl rfl (by decide +kernel) ⟨Nat.le_of_ble_eq_true rfl, Nat.le_of_ble_eq_true rfl⟩) (g_preV hK hN hG (x := (1, 0, 0)) ⟨rfl, rfl⟩ (q := (RX2, TX2, 3)) (x_at_1 cy L ns kk (0) (0) ((g_up (g_up (g_up σ (20, i, 0) ((σ (17, i, 0) 2).toNatClampNeg) (nx)) (21, i, 0) ((σ (17, i, 0) 2).toNatClampNeg) (x_cnt (g_up σ (20, i, 0) ((σ (17, i, 0) 2).toNatClampNeg) (nx)) (x) (nx))) (17, i, 0) (2) ((σ (17, i, 0) 2) + (1))) (1, 0, 0))) rfl) rfl rfl hl.1 rfl (lv_room (Nat.le_of_ble_eq_true rfl)) dX4_fill_80 ⟨Nat.zero_le _, Nat.zero_le _⟩) hS (fun H locs hG hS => ?_)
          refine W.eq (g2 := F0 m 83 ls [.int (x_least (g_up (g_up (g_up σ (20, i, 0) ((σ (17, i, 0) 2).toNatClampNeg) (nx)) (21, i, 0) ((σ (17, i, 0) 2).toNatClampNeg) (x_cnt (g_up σ (20, i, 0) ((σ (17, i, 0) 2).toNatClampNeg) (nx)) (x) (nx))) (17, i, 0) (2) ((σ (17, i, 0) 2) + (1))) (x) ((nx) + (1)))]) rfl ?_
          refine lv_istore (lv' := [(5, .int (x_least (g_up (g_up (g_up σ (20, i, 0) ((σ (17, i, 0) 2).toNatClampNeg) (nx)) (21, i, 0) ((σ (17, i, 0) 2).toNatClampNeg) (x_cnt (g_up σ (20, i, 0) ((σ (17, i, 0) 2).toNatClampNeg) (nx)) (x) (nx))) (17, i, 0) (2) ((σ (17, i, 0) 2) + (1))) (x) ((nx) + (1)))), (0, .ref (L (17, i, 0))), (1, .ref (L (1, 0, 0))), (2, .int (x)), (4, .int (most))]) hx hb dX4_fill_83 hl (by decide) rfl (fun ls hl => ?_)
          refine lv_goto (tgt := 13) hx hb dX4_fill_85 (by decide) ?_
          have e90 : x_fillGo i x most (n + 1) σ nx = x_fillGo i x most n (x_scPut σ i x nx) (x_least (x_scPut σ i x nx) x (nx + 1)) := (by rw [x_fillGo_s]; first | (rw [if_neg (by omega)]) | (rw [if_pos (by omega)]))
          rw [e90] at kk9
          exact ih (g_up (g_up (g_up σ (20, i, 0) ((σ (17, i, 0) 2).toNatClampNeg) (nx)) (21, i, 0) ((σ (17, i, 0) 2).toNatClampNeg) (x_cnt (g_up σ (20, i, 0) ((σ (17, i, 0) 2).toNatClampNeg) (nx)) (x) (nx))) (17, i, 0) (2) ((σ (17, i, 0) 2) + (1))) (x_least (g_up (g_up (g_up σ (20, i, 0) ((σ (17, i, 0) 2).toNatClampNeg) (nx)) (21, i, 0) ((σ (17, i, 0) 2).toNatClampNeg) (x_cnt (g_up σ (20, i, 0) ((σ (17, i, 0) 2).toNatClampNeg) (nx)) (x) (nx))) (17, i, 0) (2) ((σ (17, i, 0) 2) + (1))) (x) ((nx) + (1))) H locs ls (by omega) ⟨by simpa [x_scPut, g_up_at] using h0, by simpa [x_scPut, g_up_at] using hn, by have z1 : (1 : Int32).toInt = 1 := rfl; rw [g_up_same, g_addI (by omega) (by omega)]; omega⟩ hG hS (lv_sub hl [0, 1, 2, 3, 4] rfl) kk9
set_option maxHeartbeats 4000000 in
set_option maxRecDepth 100000 in
theorem c_X4_fill (l : Launch) (D : va_G) (cy : Nat → ClassId) (L : g_S → Nat) (ns : Nat) (kk : Nat → Nat) (σ : g_S → Nat → Int32) (i : Nat) (hi : i < ns) (x start most : Int32) (h0 : 0 ≤ (σ (1, 0, 0) 2).toInt) (hn : (σ (1, 0, 0) 2).toInt ≤ 100) : x_Met l D cy L ns kk yX4_fill (.code yX4_fill cX4_fill 6 (some .int)) 3 σ [.ref (L (17, i, 0)), .ref (L (1, 0, 0)), .int (x), .int (start), .int (most)] (some (.int ((x_fillM σ i x start most) (17, i, 0) 2))) (x_fillM σ i x start most) := by
  refine g_Met.of (by decide) (Nat.le_of_ble_eq_true rfl) ?_
  intro pg e s m below meth c hx hb hr hlk hml hown hts hK hN H locs hG hS ls hl
  have hown : s.vm.findClass RX4 = some m.cls := hown
  have hl : lv_has ls 6 [(0, .ref (L (17, i, 0))), (1, .ref (L (1, 0, 0))), (2, .int (x)), (3, .int (start)), (4, .int (most))] := hl
  refine lv_aload_n hx hb dX4_fill_0 rfl (lv_at hl 0 rfl) ?_
  refine lv_iconst (v := 0) hx hb dX4_fill_1 (by decide) ?_
  refine g_puti (C := RX4) (T := TX4) (N := 3) (v := 0) (ty := .int) hx hb hts inX4g tyX4_ok nmX4 hown hK hG hS (17, i, 0) ⟨hi, rfl⟩ (x_at_17 cy L ns kk (i) (0) (σ (17, i, 0))) rfl 2 (by decide) (x_up_17_2 cy L ns kk (i) (0) (σ (17, i, 0)) (0)) fl_X4_18 rfl (by decide +kernel) rfl rfl (Nat.le_of_ble_eq_true rfl) dX4_fill_2 (fun H locs hG hS => ?_)
  refine lv_aload_n hx hb dX4_fill_5 rfl (lv_at hl 1 rfl) ?_
  refine lv_iload_n hx hb dX4_fill_6 rfl (lv_at hl 2 rfl) ?_
  refine lv_iload_n hx hb dX4_fill_7 rfl (lv_at hl 3 rfl) ?_
  refine g_cont (va_runV (As := [.int (x), .int (start)]) (rest := []) ⟨hx, hb, hml, hown, hts⟩ (c_X2_leastTermFrom l D cy L ns kk (g_up σ (17, i, 0) (2) (0)) (x) (start) (by first | exact h0 | simpa [g_up_at] using h0 | (simpa [x_scPut, g_up_at] using h0)) (by first | exact hn | simpa [g_up_at] using hn | (simpa [x_scPut, g_up_at] using hn))) (cwV 2 hts gV_X4_22 rfl rfl rfl (by decide +kernel) ⟨Nat.le_of_ble_eq_true rfl, Nat.le_of_ble_eq_true rfl⟩) (g_preV hK hN hG (x := (1, 0, 0)) ⟨rfl, rfl⟩ (q := (RX2, TX2, 3)) (x_at_1 cy L ns kk (0) (0) ((g_up σ (17, i, 0) (2) (0)) (1, 0, 0))) rfl) rfl rfl hl.1 rfl (lv_room (Nat.le_of_ble_eq_true rfl)) dX4_fill_8 ⟨Nat.zero_le _, Nat.zero_le _⟩) hS (fun H locs hG hS => ?_)
  refine W.eq (g2 := F0 m 11 ls [.int (x_least (g_up σ (17, i, 0) (2) (0)) (x) (start))]) rfl ?_
  refine lv_istore (lv' := [(5, .int (x_least (g_up σ (17, i, 0) (2) (0)) (x) (start))), (0, .ref (L (17, i, 0))), (1, .ref (L (1, 0, 0))), (2, .int (x)), (3, .int (start)), (4, .int (most))]) hx hb dX4_fill_11 hl (by decide) rfl (fun ls hl => ?_)
  refine lp_fill l D cy L ns kk  ⟨hx, hb, hr, hlk, hml, hown, hts, hK, hN⟩ i hi x most 20 (g_up σ (17, i, 0) 2 0) (x_least (g_up σ (17, i, 0) 2 0) x start) H locs ls (by omega) ⟨by simpa [g_up_at] using h0, by simpa [g_up_at] using hn, by simp [g_up_at]⟩ hG hS (lv_sub hl [0, 1, 2, 3, 5] rfl) (fun H locs ls hG hS hl => ?_)
  refine lv_aload_n hx hb dX4_fill_88 rfl (lv_at hl 0 rfl) ?_
  refine g_get (C := RX4) (T := TX4) (N := 3) (v := .int ((x_fillM σ i x start most) (17, i, 0) 2)) hx hb hts inX4g hown hK hG (17, i, 0) ⟨hi, rfl⟩ (x_at_17 cy L ns kk (i) (0) ((x_fillM σ i x start most) (17, i, 0))) rfl 2 (by decide) fl_X4_18 rfl dX4_fill_89 ?_
  exact s_iret hx hb hr hlk hG hS dX4_fill_92 rfl rfl
end
section
/-! the class: its sessions -/
theorem g_nar01 {v : Int32} (h : v = 0 ∨ v = 1) : narrow .boolean (.int v) = .int v := by rcases h with rfl | rfl <;> rfl
def x_setsGo (σ : g_S → Nat → Int32) (i : Nat) : Nat → Nat → Int32 → Int32
  | 0, _, acc => acc
  | n + 1, k, acc => x_setsGo σ i n (k + 1) (if (σ (18, i, k) 2).toInt = 0 then acc else acc + 1)
theorem x_setsGo_s (σ : g_S → Nat → Int32) (i n k : Nat) (acc : Int32) : x_setsGo σ i (n + 1) k acc = x_setsGo σ i n (k + 1) (if (σ (18, i, k) 2).toInt = 0 then acc else acc + 1) := rfl
def x_shutGo (i : Nat) : Nat → Nat → (g_S → Nat → Int32) → (g_S → Nat → Int32)
  | 0, _, σ => σ
  | n + 1, k, σ => x_shutGo i n (k + 1) (x_forget σ i k)
theorem x_shutGo_s (i n k : Nat) (σ : g_S → Nat → Int32) : x_shutGo i (n + 1) k σ = x_shutGo i n (k + 1) (x_forget σ i k) := rfl
def x_shut (σ : g_S → Nat → Int32) (kn i : Nat) : g_S → Nat → Int32 := x_shutGo i kn 0 (g_up σ (11, i, 0) 4 0)
def x_dgM0 (σ : g_S → Nat → Int32) (i : Nat) (code : Int32) : g_S → Nat → Int32 := g_up (g_up σ (11, i, 0) 5 (σ (11, i, 0) 5 + 1)) (11, i, 0) 6 code
def x_dgM (σ : g_S → Nat → Int32) (kn i : Nat) (code : Int32) : g_S → Nat → Int32 := if (σ (11, i, 0) 5 + 1).toInt < 3 then x_dgM0 σ i code else x_shut (x_dgM0 σ i code) kn i
def x_sTell (σ : g_S → Nat → Int32) (kn i : Nat) (w : Int32) : Int32 := if w.toInt = 0 then (if (σ (11, i, 0) 4).toInt = 0 then 2 else 1) else if w.toInt = 1 then σ (11, i, 0) 5 else if w.toInt = 2 then σ (11, i, 0) 6 else if w.toInt = 3 then x_setsGo σ i kn 0 0 else -1
def x_backGo (σ : g_S → Nat → Int32) (x : Int32) : Nat → Int32 → Int32
  | 0, b => b
  | n + 1, b => if (x_great σ x b).toInt = -1 then b else x_backGo σ x n (x_great σ x b)
theorem x_backGo_s (σ : g_S → Nat → Int32) (x : Int32) (n : Nat) (b : Int32) : x_backGo σ x (n + 1) b = if (x_great σ x b).toInt = -1 then b else x_backGo σ x n (x_great σ x b) := rfl
set_option maxHeartbeats 4000000 in
set_option maxRecDepth 100000 in
theorem c_X5_isOpen (l : Launch) (D : va_G) (cy : Nat → ClassId) (L : g_S → Nat) (ns : Nat) (kk : Nat → Nat) (σ : g_S → Nat → Int32) (i : Nat) (hi : i < ns) (ho : narrow .boolean (.int (σ (11, i, 0) 4)) = .int (σ (11, i, 0) 4)) : x_Met l D cy L ns kk yX5_isOpen (.code yX5_isOpen cX5_isOpen 1 (some .boolean)) 0 σ [.ref (L (11, i, 0))] (some (.int (σ (11, i, 0) 4))) σ := by
  refine g_Met.of (by decide) (Nat.le_of_ble_eq_true rfl) ?_
  intro pg e s m below meth c hx hb hr hlk hml hown hts hK hN H locs hG hS ls hl
  have hown : s.vm.findClass RX5 = some m.cls := hown
  have hl : lv_has ls 1 [(0, .ref (L (11, i, 0)))] := hl
  refine lv_aload_n hx hb dX5_isOpen_0 rfl (lv_at hl 0 rfl) ?_
  refine g_get (C := RX5) (T := TX5) (N := 7) (v := .int (σ (11, i, 0) 4)) hx hb hts inX5g hown hK hG (11, i, 0) ⟨hi, rfl⟩ (x_at_11 cy L ns kk (i) (0) (σ (11, i, 0))) rfl 4 (by decide) fl_X5_9 rfl dX5_isOpen_1 ?_
  exact s_zret hx hb hr hlk hG hS dX5_isOpen_4 ho rfl rfl
set_option maxHeartbeats 4000000 in
set_option maxRecDepth 100000 in
theorem c_X5_may (l : Launch) (D : va_G) (cy : Nat → ClassId) (L : g_S → Nat) (ns : Nat) (kk : Nat → Nat) (σ : g_S → Nat → Int32) (i : Nat) (hi : i < ns) (q : Int32) : x_Met l D cy L ns kk yX5_may (.code yX5_may cX5_may 2 (some .boolean)) 0 σ [.ref (L (11, i, 0)), .int (q)] (some (.int (g_b (¬ (σ (11, i, 0) 0 &&& q).toInt = 0)))) σ := by
  refine g_Met.of (by decide) (Nat.le_of_ble_eq_true rfl) ?_
  intro pg e s m below meth c hx hb hr hlk hml hown hts hK hN H locs hG hS ls hl
  have hown : s.vm.findClass RX5 = some m.cls := hown
  have hl : lv_has ls 2 [(0, .ref (L (11, i, 0))), (1, .int (q))] := hl
  refine lv_aload_n hx hb dX5_may_0 rfl (lv_at hl 0 rfl) ?_
  refine g_get (C := RX5) (T := TX5) (N := 7) (v := .int (σ (11, i, 0) 0)) hx hb hts inX5g hown hK hG (11, i, 0) ⟨hi, rfl⟩ (x_at_11 cy L ns kk (i) (0) (σ (11, i, 0))) rfl 0 (by decide) fl_X5_22 rfl dX5_may_1 ?_
  refine lv_iload_n hx hb dX5_may_4 rfl (lv_at hl 1 rfl) ?_
  refine lv_iand hx hb dX5_may_5 ?_
  refine kz_if_eq (X := ((σ (11, i, 0) 0) &&& (q)).toInt) hx hb rfl dX5_may_6 (tgt := 13) (by decide) (fun c_6_1 => ?_) (fun c_6_1 => ?_)
  · refine lv_iconst (v := 0) hx hb dX5_may_13 (by decide) ?_
    exact s_zret hx hb hr hlk hG hS dX5_may_14 rfl (by unfold g_b; (repeat' split) <;> first | rfl | (exfalso; omega)) rfl
  · refine lv_iconst (v := 1) hx hb dX5_may_9 (by decide) ?_
    refine lv_goto (tgt := 14) hx hb dX5_may_10 (by decide) ?_
    exact s_zret hx hb hr hlk hG hS dX5_may_14 rfl (by unfold g_b; (repeat' split) <;> first | rfl | (exfalso; omega)) rfl
set_option maxHeartbeats 4000000 in
set_option maxRecDepth 100000 in
theorem c_X5_presented (l : Launch) (D : va_G) (cy : Nat → ClassId) (L : g_S → Nat) (ns : Nat) (kk : Nat → Nat) (σ : g_S → Nat → Int32) (i : Nat) (hi : i < ns) : x_Met l D cy L ns kk yX5_presented (.code yX5_presented cX5_presented 1 (some (.object "SearchWire$Presented"))) 0 σ [.ref (L (11, i, 0))] (some (.ref (L (13, i, 0)))) σ := by
  refine g_Met.of (by decide) (Nat.le_of_ble_eq_true rfl) ?_
  intro pg e s m below meth c hx hb hr hlk hml hown hts hK hN H locs hG hS ls hl
  have hown : s.vm.findClass RX5 = some m.cls := hown
  have hl : lv_has ls 1 [(0, .ref (L (11, i, 0)))] := hl
  refine lv_aload_n hx hb dX5_presented_0 rfl (lv_at hl 0 rfl) ?_
  refine g_get (C := RX5) (T := TX5) (N := 7) (v := .ref (L (13, i, 0))) hx hb hts inX5g hown hK hG (11, i, 0) ⟨hi, rfl⟩ (x_at_11 cy L ns kk (i) (0) (σ (11, i, 0))) rfl 2 (by decide) fl_X5_37 rfl dX5_presented_1 ?_
  exact s_aret hx hb hr hlk hG hS dX5_presented_4 (Or.inr ⟨_, rfl⟩) rfl rfl
set_option maxHeartbeats 4000000 in
set_option maxRecDepth 100000 in
theorem c_X5_scannedTerms (l : Launch) (D : va_G) (cy : Nat → ClassId) (L : g_S → Nat) (ns : Nat) (kk : Nat → Nat) (σ : g_S → Nat → Int32) (i : Nat) (hi : i < ns) : x_Met l D cy L ns kk yX5_scannedTerms (.code yX5_scannedTerms cX5_scannedTerms 1 (some (.object "SearchWire$ScannedTerms"))) 0 σ [.ref (L (11, i, 0))] (some (.ref (L (17, i, 0)))) σ := by
  refine g_Met.of (by decide) (Nat.le_of_ble_eq_true rfl) ?_
  intro pg e s m below meth c hx hb hr hlk hml hown hts hK hN H locs hG hS ls hl
  have hown : s.vm.findClass RX5 = some m.cls := hown
  have hl : lv_has ls 1 [(0, .ref (L (11, i, 0)))] := hl
  refine lv_aload_n hx hb dX5_scannedTerms_0 rfl (lv_at hl 0 rfl) ?_
  refine g_get (C := RX5) (T := TX5) (N := 7) (v := .ref (L (17, i, 0))) hx hb hts inX5g hown hK hG (11, i, 0) ⟨hi, rfl⟩ (x_at_11 cy L ns kk (i) (0) (σ (11, i, 0))) rfl 3 (by decide) fl_X5_44 rfl dX5_scannedTerms_1 ?_
  exact s_aret hx hb hr hlk hG hS dX5_scannedTerms_4 (Or.inr ⟨_, rfl⟩) rfl rfl
set_option maxHeartbeats 4000000 in
set_option maxRecDepth 100000 in
theorem c_X5_setOfName (l : Launch) (D : va_G) (cy : Nat → ClassId) (L : g_S → Nat) (ns : Nat) (kk : Nat → Nat) (σ : g_S → Nat → Int32) (i : Nat) (hi : i < ns) (p : Int32) (hk : kk i ≤ 5) : x_Met l D cy L ns kk yX5_setOfName (.code yX5_setOfName cX5_setOfName 2 (some (.object "SearchWire$ResultSet"))) 0 σ [.ref (L (11, i, 0)), .int (p)] (some (if 0 ≤ (p).toInt ∧ (p).toInt < ((kk i : Nat) : Int) then .ref (L (18, i, p.toNatClampNeg)) else .null)) σ := by
  refine g_Met.of (by decide) (Nat.le_of_ble_eq_true rfl) ?_
  intro pg e s m below meth c hx hb hr hlk hml hown hts hK hN H locs hG hS ls hl
  have hown : s.vm.findClass RX5 = some m.cls := hown
  have hl : lv_has ls 2 [(0, .ref (L (11, i, 0))), (1, .int (p))] := hl
  refine lv_iload_n hx hb dX5_setOfName_0 rfl (lv_at hl 1 rfl) ?_
  refine kz_if_lt (X := (p).toInt) hx hb rfl dX5_setOfName_1 (tgt := 22) (by decide) (fun c_1_1 => ?_) (fun c_1_1 => ?_)
  · refine lv_null hx hb dX5_setOfName_22 ?_
    exact s_aret hx hb hr hlk hG hS dX5_setOfName_23 (Or.inl rfl) (by rw [if_neg (by omega)]) rfl
  · refine lv_iload_n hx hb dX5_setOfName_4 rfl (lv_at hl 1 rfl) ?_
    refine lv_aload_n hx hb dX5_setOfName_5 rfl (lv_at hl 0 rfl) ?_
    refine g_get (C := RX5) (T := TX5) (N := 7) (v := .ref (L (12, i, 0))) hx hb hts inX5g hown hK hG (11, i, 0) ⟨hi, rfl⟩ (x_at_11 cy L ns kk (i) (0) (σ (11, i, 0))) rfl 1 (by decide) fl_X5_27 rfl dX5_setOfName_6 ?_
    refine g_alen (v := nI (kk i)) hx hb hK hG (12, i, 0) ⟨hi, rfl⟩ 3 rfl rfl rfl dX5_setOfName_9 ?_
    refine kz_icmp_ge (X := (p).toInt) (Y := ((kk i : Nat) : Int)) hx hb rfl (g_nIT (by omega)) dX5_setOfName_10 (tgt := 22) (by decide) (fun c_10_2 => ?_) (fun c_10_2 => ?_)
    · refine lv_null hx hb dX5_setOfName_22 ?_
      exact s_aret hx hb hr hlk hG hS dX5_setOfName_23 (Or.inl rfl) (by rw [if_neg (by omega)]) rfl
    · refine lv_aload_n hx hb dX5_setOfName_13 rfl (lv_at hl 0 rfl) ?_
      refine g_get (C := RX5) (T := TX5) (N := 7) (v := .ref (L (12, i, 0))) hx hb hts inX5g hown hK hG (11, i, 0) ⟨hi, rfl⟩ (x_at_11 cy L ns kk (i) (0) (σ (11, i, 0))) rfl 1 (by decide) fl_X5_27 rfl dX5_setOfName_14 ?_
      refine lv_iload_n hx hb dX5_setOfName_17 rfl (lv_at hl 1 rfl) ?_
      refine g_aald (n := (kk i)) (v := .ref (L (18, i, (p).toNatClampNeg))) hx hb hK hG (12, i, 0) ⟨hi, rfl⟩ 3 rfl rfl rfl (g_vp (by omega) (by omega)) rfl dX5_setOfName_18 ?_
      refine lv_goto (tgt := 23) hx hb dX5_setOfName_19 (by decide) ?_
      exact s_aret hx hb hr hlk hG hS dX5_setOfName_23 (Or.inr ⟨_, rfl⟩) (by rw [if_pos (by omega)]) rfl
set_option maxHeartbeats 4000000 in
set_option maxRecDepth 100000 in
theorem c_X5_madeSet (l : Launch) (D : va_G) (cy : Nat → ClassId) (L : g_S → Nat) (ns : Nat) (kk : Nat → Nat) (σ : g_S → Nat → Int32) (i : Nat) (hi : i < ns) (p : Int32) (hk : kk i ≤ 5) (hz : ∀ j, j < kk i → σ (18, i, j) 2 = 0 ∨ σ (18, i, j) 2 = 1) : x_Met l D cy L ns kk yX5_madeSet (.code yX5_madeSet cX5_madeSet 3 (some (.object "SearchWire$ResultSet"))) 1 σ [.ref (L (11, i, 0)), .int (p)] (some (if (0 ≤ (p).toInt ∧ (p).toInt < ((kk i : Nat) : Int)) ∧ ¬ (σ (18, i, (p).toNatClampNeg) 2).toInt = 0 then .ref (L (18, i, p.toNatClampNeg)) else .null)) σ := by
  refine g_Met.of (by decide) (Nat.le_of_ble_eq_true rfl) ?_
  intro pg e s m below meth c hx hb hr hlk hml hown hts hK hN H locs hG hS ls hl
  have hown : s.vm.findClass RX5 = some m.cls := hown
  have hl : lv_has ls 3 [(0, .ref (L (11, i, 0))), (1, .int (p))] := hl
  refine lv_aload_n hx hb dX5_madeSet_0 rfl (lv_at hl 0 rfl) ?_
  refine lv_iload_n hx hb dX5_madeSet_1 rfl (lv_at hl 1 rfl) ?_
  refine g_cont (va_runV (As := [.int (p)]) (rest := []) ⟨hx, hb, hml, hown, hts⟩ (c_X5_setOfName l D cy L ns kk σ (i) hi (p) hk) (cwV 1 hts gV_X5_48 rfl rfl rfl (by decide +kernel) ⟨Nat.le_of_ble_eq_true rfl, Nat.le_of_ble_eq_true rfl⟩) (g_preV hK hN hG (x := (11, i, 0)) ⟨hi, rfl⟩ (q := (RX5, TX5, 7)) (x_at_11 cy L ns kk (i) (0) (σ (11, i, 0))) rfl) rfl rfl hl.1 rfl (lv_room (Nat.le_of_ble_eq_true rfl)) dX5_madeSet_2 ⟨Nat.zero_le _, Nat.zero_le _⟩) hS (fun H locs hG hS => ?_)
  refine W.eq (g2 := F0 m 5 ls [(if 0 ≤ (p).toInt ∧ (p).toInt < ((kk i : Nat) : Int) then .ref (L (18, i, (p).toNatClampNeg)) else .null)]) rfl ?_
  by_cases c_2_1 : 0 ≤ (p).toInt ∧ (p).toInt < ((kk i : Nat) : Int)
  · rw [if_pos c_2_1]
    refine lv_astore_n (lv' := [(2, .ref (L (18, i, (p).toNatClampNeg))), (0, .ref (L (11, i, 0))), (1, .int (p))]) hx hb dX5_madeSet_5 rfl hl (by decide) rfl (fun ls hl => ?_)
    refine lv_aload_n hx hb dX5_madeSet_6 rfl (lv_at hl 0 rfl) ?_
    refine lv_ifnull hx hb dX5_madeSet_7 ?_
    refine lv_aload_n hx hb dX5_madeSet_10 rfl (lv_at hl 0 rfl) ?_
    refine g_cont (va_runV (As := []) (rest := []) ⟨hx, hb, hml, hown, hts⟩ (c_X3_isMade l D cy L ns kk σ (i) ((p).toNatClampNeg) hi (by rw [g_cl]; omega) (g_nar01 (hz _ (by rw [g_cl]; omega)))) (cwV 0 hts gV_X5_52 rfl rfl rfl (by decide +kernel) ⟨Nat.le_of_ble_eq_true rfl, Nat.le_of_ble_eq_true rfl⟩) (g_preV hK hN hG (x := (18, i, (p).toNatClampNeg)) ⟨hi, (by rw [g_cl]; omega)⟩ (q := (RX3, TX3, 3)) (x_at_18 cy L ns kk (i) ((p).toNatClampNeg) (σ (18, i, (p).toNatClampNeg))) rfl) rfl rfl hl.1 rfl (lv_room (Nat.le_of_ble_eq_true rfl)) dX5_madeSet_11 ⟨Nat.zero_le _, Nat.zero_le _⟩) hS (fun H locs hG hS => ?_)
    refine W.eq (g2 := F0 m 14 ls [.int (σ (18, i, (p).toNatClampNeg) 2)]) rfl ?_
    refine kz_if_eq (X := (σ (18, i, (p).toNatClampNeg) 2).toInt) hx hb rfl dX5_madeSet_14 (tgt := 21) (by decide) (fun c_14_2 => ?_) (fun c_14_2 => ?_)
    · refine lv_null hx hb dX5_madeSet_21 ?_
      exact s_aret hx hb hr hlk hG hS dX5_madeSet_22 (Or.inl rfl) (by rw [if_neg (by omega)]) rfl
    · refine lv_aload_n hx hb dX5_madeSet_17 rfl (lv_at hl 0 rfl) ?_
      refine lv_goto (tgt := 22) hx hb dX5_madeSet_18 (by decide) ?_
      exact s_aret hx hb hr hlk hG hS dX5_madeSet_22 (Or.inr ⟨_, rfl⟩) (by rw [if_pos (by omega)]) rfl
  · rw [if_neg c_2_1]
    refine lv_astore_nN (lv' := [(2, .null), (0, .ref (L (11, i, 0))), (1, .int (p))]) hx hb dX5_madeSet_5 rfl hl (by decide) rfl (fun ls hl => ?_)
    refine lv_aload_nN hx hb dX5_madeSet_6 rfl (lv_at hl 0 rfl) ?_
    refine lv_ifnullN (tgt := 21) hx hb dX5_madeSet_7 (by decide) ?_
    refine lv_null hx hb dX5_madeSet_21 ?_
    exact s_aret hx hb hr hlk hG hS dX5_madeSet_22 (Or.inl rfl) (by rw [if_neg (by omega)]) rfl
set_option maxHeartbeats 4000000 in
set_option maxRecDepth 100000 in
theorem lp_sets (l : Launch) (D : va_G) (cy : Nat → ClassId) (L : g_S → Nat) (ns : Nat) (kk : Nat → Nat) (σ : g_S → Nat → Int32) {pg : Program} {e : Env} {s : State} {m : MethodId} {args : Array Value} {below : List Frame} {meth : Method} {c : Code} {Q : State → Prop} (C0 : g_C pg s m meth c args cX5_setCount (some .int) 3 RX5 D (x_tys cy)) (i : Nat) (hi : i < ns) (hk : kk i ≤ 5) (hz : ∀ j, j < kk i → σ (18, i, j) 2 = 0 ∨ σ (18, i, j) 2 = 1) :
    ∀ (n : Nat) (k : Nat) (acc : Int32) (H : Heap) (locs : List Loc) (ls : Array Slot), k + n = kk i → g_H D vwCl (x_dom ns kk) L (fun z => x_K cy L ns kk z (σ z)) H → va_S (g_A (x_dom ns kk) L) s.heap H locs → lv_has ls 3 [(2, .int (nI k)), (1, .int (acc)), (0, .ref (L (11, i, 0)))] →
    (∀ (H : Heap) (locs : List Loc) (ls : Array Slot), g_H D vwCl (x_dom ns kk) L (fun z => x_K cy L ns kk z (σ z)) H → va_S (g_A (x_dom ns kk) L) s.heap H locs → lv_has ls 3 [(1, .int (x_setsGo σ i n k acc))] → W pg l e (g_R 1) s m args below meth c H locs 0 0 Q (F0 m 34 ls [])) →
    W pg l e (g_R 1) s m args below meth c H locs 0 0 Q (F0 m 4 ls []) := by
  obtain ⟨hx, hb, hr, hlk, hml, hown, hts, hK, hN⟩ := C0
  intro n
  induction n with
  | zero =>
    intro k acc H locs ls hv9 hG hS hl kk9
    have hz9 := g_nIT (show k < 2147483648 by omega)
    refine lv_iload_n hx hb dX5_setCount_4 rfl (lv_at hl 0 rfl) ?_
    refine lv_aload_n hx hb dX5_setCount_5 rfl (lv_at hl 2 rfl) ?_
    refine g_get (C := RX5) (T := TX5) (N := 7) (v := .ref (L (12, i, 0))) hx hb hts inX5g hown hK hG (11, i, 0) ⟨hi, rfl⟩ (x_at_11 cy L ns kk (i) (0) (σ (11, i, 0))) rfl 1 (by decide) fl_X5_27 rfl dX5_setCount_6 ?_
    refine g_alen (v := nI (kk i)) hx hb hK hG (12, i, 0) ⟨hi, rfl⟩ 3 rfl rfl rfl dX5_setCount_9 ?_
    refine kz_icmp_ge (X := ((k : Nat) : Int)) (Y := ((kk i : Nat) : Int)) hx hb (g_nIT (by omega)) (g_nIT (by omega)) dX5_setCount_10 (tgt := 34) (by decide) (fun c_10_1 => ?_) (fun c_10_1 => ?_)
    · exact kk9 H locs ls hG hS (lv_sub hl [1] rfl)
    · exact absurd c_10_1 (by omega)
  | succ n ih =>
    intro k acc H locs ls hv9 hG hS hl kk9
    have hz9 := g_nIT (show k < 2147483648 by omega)
    refine lv_iload_n hx hb dX5_setCount_4 rfl (lv_at hl 0 rfl) ?_
    refine lv_aload_n hx hb dX5_setCount_5 rfl (lv_at hl 2 rfl) ?_
    refine g_get (C := RX5) (T := TX5) (N := 7) (v := .ref (L (12, i, 0))) hx hb hts inX5g hown hK hG (11, i, 0) ⟨hi, rfl⟩ (x_at_11 cy L ns kk (i) (0) (σ (11, i, 0))) rfl 1 (by decide) fl_X5_27 rfl dX5_setCount_6 ?_
    refine g_alen (v := nI (kk i)) hx hb hK hG (12, i, 0) ⟨hi, rfl⟩ 3 rfl rfl rfl dX5_setCount_9 ?_
    refine kz_icmp_ge (X := ((k : Nat) : Int)) (Y := ((kk i : Nat) : Int)) hx hb (g_nIT (by omega)) (g_nIT (by omega)) dX5_setCount_10 (tgt := 34) (by decide) (fun c_10_1 => ?_) (fun c_10_1 => ?_)
    · exact absurd c_10_1 (by omega)
    · refine lv_aload_n hx hb dX5_setCount_13 rfl (lv_at hl 2 rfl) ?_
      refine g_get (C := RX5) (T := TX5) (N := 7) (v := .ref (L (12, i, 0))) hx hb hts inX5g hown hK hG (11, i, 0) ⟨hi, rfl⟩ (x_at_11 cy L ns kk (i) (0) (σ (11, i, 0))) rfl 1 (by decide) fl_X5_27 rfl dX5_setCount_14 ?_
      refine lv_iload_n hx hb dX5_setCount_17 rfl (lv_at hl 0 rfl) ?_
      refine g_aald (n := (kk i)) (v := .ref (L (18, i, k))) hx hb hK hG (12, i, 0) ⟨hi, rfl⟩ 3 rfl rfl rfl (vp_in_nI (show k < (kk i) by omega) (by omega)) (by rw [g_nIc (show k < 2147483648 by omega)]; rfl) dX5_setCount_18 ?_
      refine g_cont (va_runV (As := []) (rest := []) ⟨hx, hb, hml, hown, hts⟩ (c_X3_isMade l D cy L ns kk σ (i) (k) hi (by omega) (g_nar01 (hz k (by omega)))) (cwV 0 hts gV_X5_52 rfl rfl rfl (by decide +kernel) ⟨Nat.le_of_ble_eq_true rfl, Nat.le_of_ble_eq_true rfl⟩) (g_preV hK hN hG (x := (18, i, k)) ⟨hi, (by omega)⟩ (q := (RX3, TX3, 3)) (x_at_18 cy L ns kk (i) (k) (σ (18, i, k))) rfl) rfl rfl hl.1 rfl (lv_room (Nat.le_of_ble_eq_true rfl)) dX5_setCount_19 ⟨Nat.zero_le _, Nat.zero_le _⟩) hS (fun H locs hG hS => ?_)
      refine W.eq (g2 := F0 m 22 ls [.int (σ (18, i, k) 2)]) rfl ?_
      refine kz_if_eq (X := (σ (18, i, k) 2).toInt) hx hb rfl dX5_setCount_22 (tgt := 28) (by decide) (fun c_22_2 => ?_) (fun c_22_2 => ?_)
      · refine lv_iinc (v := nI (k + 1)) (lv' := [(2, .int (nI (k + 1))), (1, .int (acc)), (0, .ref (L (11, i, 0)))]) hx hb dX5_setCount_28 hl (k := 0) rfl (nI_1 (k)) (by decide) rfl (fun ls hl => ?_)
        refine lv_goto (tgt := 4) hx hb dX5_setCount_31 (by decide) ?_
        have e90 : x_setsGo σ i (n + 1) k acc = x_setsGo σ i n (k + 1) (acc) := (by rw [x_setsGo_s]; (repeat' split) <;> first | rfl | (exfalso; omega))
        rw [e90] at kk9
        exact ih (k + 1) (acc) H locs ls (by omega) hG hS (lv_sub hl [0, 1, 2] rfl) kk9
      · refine lv_iinc (v := acc + 1) (lv' := [(1, .int (acc + 1)), (2, .int (nI k)), (0, .ref (L (11, i, 0)))]) hx hb dX5_setCount_25 hl (k := 1) rfl rfl (by decide) rfl (fun ls hl => ?_)
        refine lv_iinc (v := nI (k + 1)) (lv' := [(2, .int (nI (k + 1))), (1, .int (acc + 1)), (0, .ref (L (11, i, 0)))]) hx hb dX5_setCount_28 hl (k := 1) rfl (nI_1 (k)) (by decide) rfl (fun ls hl => ?_)
        refine lv_goto (tgt := 4) hx hb dX5_setCount_31 (by decide) ?_
        have e90 : x_setsGo σ i (n + 1) k acc = x_setsGo σ i n (k + 1) (acc + 1) := (by rw [x_setsGo_s]; (repeat' split) <;> first | rfl | (exfalso; omega))
        rw [e90] at kk9
        exact ih (k + 1) (acc + 1) H locs ls (by omega) hG hS (lv_sub hl [0, 1, 2] rfl) kk9
set_option maxHeartbeats 4000000 in
set_option maxRecDepth 100000 in
theorem c_X5_setCount (l : Launch) (D : va_G) (cy : Nat → ClassId) (L : g_S → Nat) (ns : Nat) (kk : Nat → Nat) (σ : g_S → Nat → Int32) (i : Nat) (hi : i < ns) (hk : kk i ≤ 5) (hz : ∀ j, j < kk i → σ (18, i, j) 2 = 0 ∨ σ (18, i, j) 2 = 1) : x_Met l D cy L ns kk yX5_setCount (.code yX5_setCount cX5_setCount 3 (some .int)) 1 σ [.ref (L (11, i, 0))] (some (.int (x_setsGo σ i (kk i) 0 0))) σ := by
  refine g_Met.of (by decide) (Nat.le_of_ble_eq_true rfl) ?_
  intro pg e s m below meth c hx hb hr hlk hml hown hts hK hN H locs hG hS ls hl
  have hown : s.vm.findClass RX5 = some m.cls := hown
  have hl : lv_has ls 3 [(0, .ref (L (11, i, 0)))] := hl
  refine lv_iconst (v := 0) hx hb dX5_setCount_0 (by decide) ?_
  refine lv_istore_n (lv' := [(1, .int 0), (0, .ref (L (11, i, 0)))]) hx hb dX5_setCount_1 rfl hl (by decide) rfl (fun ls hl => ?_)
  refine lv_iconst (v := 0) hx hb dX5_setCount_2 (by decide) ?_
  refine lv_istore_n (lv' := [(2, .int 0), (1, .int 0), (0, .ref (L (11, i, 0)))]) hx hb dX5_setCount_3 rfl hl (by decide) rfl (fun ls hl => ?_)
  refine lp_sets l D cy L ns kk σ ⟨hx, hb, hr, hlk, hml, hown, hts, hK, hN⟩ i hi hk hz (kk i) 0 0 H locs ls (by omega) hG hS (lv_sub hl [0, 1, 2] rfl) (fun H locs ls hG hS hl => ?_)
  refine lv_iload_n hx hb dX5_setCount_34 rfl (lv_at hl 0 rfl) ?_
  exact s_iret hx hb hr hlk hG hS dX5_setCount_35 rfl rfl
set_option maxHeartbeats 4000000 in
set_option maxRecDepth 100000 in
theorem lp_shut (l : Launch) (D : va_G) (cy : Nat → ClassId) (L : g_S → Nat) (ns : Nat) (kk : Nat → Nat) {pg : Program} {e : Env} {s : State} {m : MethodId} {args : Array Value} {below : List Frame} {meth : Method} {c : Code} {Q : State → Prop} (C0 : g_C pg s m meth c args cX5_shut none 2 RX5 D (x_tys cy)) (i : Nat) (hi : i < ns) (hk : kk i ≤ 5) :
    ∀ (n : Nat) (σ : g_S → Nat → Int32) (k : Nat) (H : Heap) (locs : List Loc) (ls : Array Slot), k + n = kk i → g_H D vwCl (x_dom ns kk) L (fun z => x_K cy L ns kk z (σ z)) H → va_S (g_A (x_dom ns kk) L) s.heap H locs → lv_has ls 2 [(1, .int (nI k)), (0, .ref (L (11, i, 0)))] →
    (∀ (H : Heap) (locs : List Loc) (ls : Array Slot), g_H D vwCl (x_dom ns kk) L (fun z => x_K cy L ns kk z ((x_shutGo i n k σ) z)) H → va_S (g_A (x_dom ns kk) L) s.heap H locs → lv_has ls 2 [(0, .ref (L (11, i, 0)))] → W pg l e (g_R 1) s m args below meth c H locs 0 0 Q (F0 m 31 ls [])) →
    W pg l e (g_R 1) s m args below meth c H locs 0 0 Q (F0 m 7 ls []) := by
  obtain ⟨hx, hb, hr, hlk, hml, hown, hts, hK, hN⟩ := C0
  intro n
  induction n with
  | zero =>
    intro σ k H locs ls hv9 hG hS hl kk9
    have hz9 := g_nIT (show k < 2147483648 by omega)
    refine lv_iload_n hx hb dX5_shut_7 rfl (lv_at hl 0 rfl) ?_
    refine lv_aload_n hx hb dX5_shut_8 rfl (lv_at hl 1 rfl) ?_
    refine g_get (C := RX5) (T := TX5) (N := 7) (v := .ref (L (12, i, 0))) hx hb hts inX5g hown hK hG (11, i, 0) ⟨hi, rfl⟩ (x_at_11 cy L ns kk (i) (0) (σ (11, i, 0))) rfl 1 (by decide) fl_X5_27 rfl dX5_shut_9 ?_
    refine g_alen (v := nI (kk i)) hx hb hK hG (12, i, 0) ⟨hi, rfl⟩ 3 rfl rfl rfl dX5_shut_12 ?_
    refine kz_icmp_ge (X := ((k : Nat) : Int)) (Y := ((kk i : Nat) : Int)) hx hb (g_nIT (by omega)) (g_nIT (by omega)) dX5_shut_13 (tgt := 31) (by decide) (fun c_13_1 => ?_) (fun c_13_1 => ?_)
    · exact kk9 H locs ls hG hS (lv_sub hl [1] rfl)
    · exact absurd c_13_1 (by omega)
  | succ n ih =>
    intro σ k H locs ls hv9 hG hS hl kk9
    have hz9 := g_nIT (show k < 2147483648 by omega)
    refine lv_iload_n hx hb dX5_shut_7 rfl (lv_at hl 0 rfl) ?_
    refine lv_aload_n hx hb dX5_shut_8 rfl (lv_at hl 1 rfl) ?_
    refine g_get (C := RX5) (T := TX5) (N := 7) (v := .ref (L (12, i, 0))) hx hb hts inX5g hown hK hG (11, i, 0) ⟨hi, rfl⟩ (x_at_11 cy L ns kk (i) (0) (σ (11, i, 0))) rfl 1 (by decide) fl_X5_27 rfl dX5_shut_9 ?_
    refine g_alen (v := nI (kk i)) hx hb hK hG (12, i, 0) ⟨hi, rfl⟩ 3 rfl rfl rfl dX5_shut_12 ?_
    refine kz_icmp_ge (X := ((k : Nat) : Int)) (Y := ((kk i : Nat) : Int)) hx hb (g_nIT (by omega)) (g_nIT (by omega)) dX5_shut_13 (tgt := 31) (by decide) (fun c_13_1 => ?_) (fun c_13_1 => ?_)
    · exact absurd c_13_1 (by omega)
    · refine lv_aload_n hx hb dX5_shut_16 rfl (lv_at hl 1 rfl) ?_
      refine g_get (C := RX5) (T := TX5) (N := 7) (v := .ref (L (12, i, 0))) hx hb hts inX5g hown hK hG (11, i, 0) ⟨hi, rfl⟩ (x_at_11 cy L ns kk (i) (0) (σ (11, i, 0))) rfl 1 (by decide) fl_X5_27 rfl dX5_shut_17 ?_
      refine lv_iload_n hx hb dX5_shut_20 rfl (lv_at hl 0 rfl) ?_
      refine g_aald (n := (kk i)) (v := .ref (L (18, i, k))) hx hb hK hG (12, i, 0) ⟨hi, rfl⟩ 3 rfl rfl rfl (vp_in_nI (show k < (kk i) by omega) (by omega)) (by rw [g_nIc (show k < 2147483648 by omega)]; rfl) dX5_shut_21 ?_
      refine g_cont (va_runV (As := []) (rest := []) ⟨hx, hb, hml, hown, hts⟩ (c_X3_forget l D cy L ns kk σ (i) (k) hi (by omega)) (cwV 0 hts gV_X5_59 rfl rfl rfl (by decide +kernel) ⟨Nat.le_of_ble_eq_true rfl, Nat.le_of_ble_eq_true rfl⟩) (g_preV hK hN hG (x := (18, i, k)) ⟨hi, (by omega)⟩ (q := (RX3, TX3, 3)) (x_at_18 cy L ns kk (i) (k) (σ (18, i, k))) rfl) rfl rfl hl.1 rfl (lv_room (Nat.le_of_ble_eq_true rfl)) dX5_shut_22 ⟨Nat.zero_le _, Nat.zero_le _⟩) hS (fun H locs hG hS => ?_)
      refine W.eq (g2 := F0 m 25 ls []) rfl ?_
      refine lv_iinc (v := nI (k + 1)) (lv' := [(1, .int (nI (k + 1))), (0, .ref (L (11, i, 0)))]) hx hb dX5_shut_25 hl (k := 0) rfl (nI_1 (k)) (by decide) rfl (fun ls hl => ?_)
      refine lv_goto (tgt := 7) hx hb dX5_shut_28 (by decide) ?_
      have e90 : x_shutGo i (n + 1) k σ = x_shutGo i n (k + 1) (x_forget σ (i) (k)) := (by rw [x_shutGo_s])
      rw [e90] at kk9
      exact ih (x_forget σ (i) (k)) (k + 1) H locs ls (by omega) hG hS (lv_sub hl [0, 1] rfl) kk9
set_option maxHeartbeats 4000000 in
set_option maxRecDepth 100000 in
theorem c_X5_shut (l : Launch) (D : va_G) (cy : Nat → ClassId) (L : g_S → Nat) (ns : Nat) (kk : Nat → Nat) (σ : g_S → Nat → Int32) (i : Nat) (hi : i < ns) (hk : kk i ≤ 5) : x_Met l D cy L ns kk yX5_shut (.code yX5_shut cX5_shut 2 none) 1 σ [.ref (L (11, i, 0))] none (x_shut σ (kk i) i) := by
  refine g_Met.of (by decide) (Nat.le_of_ble_eq_true rfl) ?_
  intro pg e s m below meth c hx hb hr hlk hml hown hts hK hN H locs hG hS ls hl
  have hown : s.vm.findClass RX5 = some m.cls := hown
  have hl : lv_has ls 2 [(0, .ref (L (11, i, 0)))] := hl
  refine lv_aload_n hx hb dX5_shut_0 rfl (lv_at hl 0 rfl) ?_
  refine lv_iconst (v := 0) hx hb dX5_shut_1 (by decide) ?_
  refine g_puti (C := RX5) (T := TX5) (N := 7) (v := 0) (ty := .boolean) hx hb hts inX5g tyX5_ok nmX5 hown hK hG hS (11, i, 0) ⟨hi, rfl⟩ (x_at_11 cy L ns kk (i) (0) (σ (11, i, 0))) rfl 4 (by decide) (x_up_11_4 cy L ns kk (i) (0) (σ (11, i, 0)) (0)) fl_X5_9 rfl (by decide +kernel) rfl rfl (Nat.le_of_ble_eq_true rfl) dX5_shut_2 (fun H locs hG hS => ?_)
  refine lv_iconst (v := 0) hx hb dX5_shut_5 (by decide) ?_
  refine lv_istore_n (lv' := [(1, .int 0), (0, .ref (L (11, i, 0)))]) hx hb dX5_shut_6 rfl hl (by decide) rfl (fun ls hl => ?_)
  refine lp_shut l D cy L ns kk  ⟨hx, hb, hr, hlk, hml, hown, hts, hK, hN⟩ i hi hk (kk i) (g_up σ (11, i, 0) 4 0) 0 H locs ls (by omega) hG hS (lv_sub hl [0, 1] rfl) (fun H locs ls hG hS hl => ?_)
  exact s_vret hx hb hr hlk hG hS dX5_shut_31 rfl rfl
set_option maxHeartbeats 4000000 in
set_option maxRecDepth 100000 in
theorem c_X5_diagnose (l : Launch) (D : va_G) (cy : Nat → ClassId) (L : g_S → Nat) (ns : Nat) (kk : Nat → Nat) (σ : g_S → Nat → Int32) (i : Nat) (hi : i < ns) (code : Int32) (hk : kk i ≤ 5) : x_Met l D cy L ns kk yX5_diagnose (.code yX5_diagnose cX5_diagnose 2 (some .int)) 2 σ [.ref (L (11, i, 0)), .int (code)] (some (.int (-code))) (x_dgM σ (kk i) i code) := by
  refine g_Met.of (by decide) (Nat.le_of_ble_eq_true rfl) ?_
  intro pg e s m below meth c hx hb hr hlk hml hown hts hK hN H locs hG hS ls hl
  have hown : s.vm.findClass RX5 = some m.cls := hown
  have hl : lv_has ls 2 [(0, .ref (L (11, i, 0))), (1, .int (code))] := hl
  refine lv_aload_n hx hb dX5_diagnose_0 rfl (lv_at hl 0 rfl) ?_
  refine lv_dup hx hb dX5_diagnose_1 rfl ?_
  refine g_get (C := RX5) (T := TX5) (N := 7) (v := .int (σ (11, i, 0) 5)) hx hb hts inX5g hown hK hG (11, i, 0) ⟨hi, rfl⟩ (x_at_11 cy L ns kk (i) (0) (σ (11, i, 0))) rfl 5 (by decide) fl_X5_15 rfl dX5_diagnose_2 ?_
  refine lv_iconst (v := 1) hx hb dX5_diagnose_5 (by decide) ?_
  refine lv_iadd hx hb dX5_diagnose_6 ?_
  refine g_puti (C := RX5) (T := TX5) (N := 7) (v := (σ (11, i, 0) 5) + (1)) (ty := .int) hx hb hts inX5g tyX5_ok nmX5 hown hK hG hS (11, i, 0) ⟨hi, rfl⟩ (x_at_11 cy L ns kk (i) (0) (σ (11, i, 0))) rfl 5 (by decide) (x_up_11_5 cy L ns kk (i) (0) (σ (11, i, 0)) ((σ (11, i, 0) 5) + (1))) fl_X5_15 rfl (by decide +kernel) rfl rfl (Nat.le_of_ble_eq_true rfl) dX5_diagnose_7 (fun H locs hG hS => ?_)
  refine lv_aload_n hx hb dX5_diagnose_10 rfl (lv_at hl 0 rfl) ?_
  refine lv_iload_n hx hb dX5_diagnose_11 rfl (lv_at hl 1 rfl) ?_
  refine g_puti (C := RX5) (T := TX5) (N := 7) (v := code) (ty := .int) hx hb hts inX5g tyX5_ok nmX5 hown hK hG hS (11, i, 0) ⟨hi, rfl⟩ (x_at_11 cy L ns kk (i) (0) ((g_up σ (11, i, 0) (5) ((σ (11, i, 0) 5) + (1))) (11, i, 0))) rfl 6 (by decide) (x_up_11_6 cy L ns kk (i) (0) ((g_up σ (11, i, 0) (5) ((σ (11, i, 0) 5) + (1))) (11, i, 0)) (code)) fl_X5_19 rfl (by decide +kernel) rfl rfl (Nat.le_of_ble_eq_true rfl) dX5_diagnose_12 (fun H locs hG hS => ?_)
  refine lv_aload_n hx hb dX5_diagnose_15 rfl (lv_at hl 0 rfl) ?_
  refine g_get (C := RX5) (T := TX5) (N := 7) (v := .int ((g_up (g_up σ (11, i, 0) (5) ((σ (11, i, 0) 5) + (1))) (11, i, 0) (6) (code)) (11, i, 0) 5)) hx hb hts inX5g hown hK hG (11, i, 0) ⟨hi, rfl⟩ (x_at_11 cy L ns kk (i) (0) ((g_up (g_up σ (11, i, 0) (5) ((σ (11, i, 0) 5) + (1))) (11, i, 0) (6) (code)) (11, i, 0))) rfl 5 (by decide) fl_X5_15 rfl dX5_diagnose_16 ?_
  rw [show (g_up (g_up σ (11, i, 0) (5) ((σ (11, i, 0) 5) + (1))) (11, i, 0) (6) (code)) (11, i, 0) 5 = (σ (11, i, 0) 5) + (1) from by simp [g_up_at]]
  refine lv_iconst (v := 3) hx hb dX5_diagnose_19 (by decide) ?_
  refine kz_icmp_lt (X := ((σ (11, i, 0) 5) + (1)).toInt) (Y := 3) hx hb rfl (by decide) dX5_diagnose_20 (tgt := 27) (by decide) (fun c_20_1 => ?_) (fun c_20_1 => ?_)
  · refine lv_iload_n hx hb dX5_diagnose_27 rfl (lv_at hl 1 rfl) ?_
    refine lv_ineg hx hb dX5_diagnose_28 ?_
    exact s_iret hx hb hr hlk hG hS dX5_diagnose_29 rfl (by unfold x_dgM; rw [if_pos (by omega)]; rfl)
  · refine lv_aload_n hx hb dX5_diagnose_23 rfl (lv_at hl 0 rfl) ?_
    refine g_cont (va_runV (As := []) (rest := []) ⟨hx, hb, hml, hown, hts⟩ (c_X5_shut l D cy L ns kk (g_up (g_up σ (11, i, 0) (5) ((σ (11, i, 0) 5) + (1))) (11, i, 0) (6) (code)) (i) hi hk) (cwV 0 hts gV_X5_56 rfl rfl rfl (by decide +kernel) ⟨Nat.le_of_ble_eq_true rfl, Nat.le_of_ble_eq_true rfl⟩) (g_preV hK hN hG (x := (11, i, 0)) ⟨hi, rfl⟩ (q := (RX5, TX5, 7)) (x_at_11 cy L ns kk (i) (0) ((g_up (g_up σ (11, i, 0) (5) ((σ (11, i, 0) 5) + (1))) (11, i, 0) (6) (code)) (11, i, 0))) rfl) rfl rfl hl.1 rfl (lv_room (Nat.le_of_ble_eq_true rfl)) dX5_diagnose_24 ⟨Nat.zero_le _, Nat.zero_le _⟩) hS (fun H locs hG hS => ?_)
    refine W.eq (g2 := F0 m 27 ls []) rfl ?_
    refine lv_iload_n hx hb dX5_diagnose_27 rfl (lv_at hl 1 rfl) ?_
    refine lv_ineg hx hb dX5_diagnose_28 ?_
    exact s_iret hx hb hr hlk hG hS dX5_diagnose_29 rfl (by unfold x_dgM; rw [if_neg (by omega)]; rfl)
set_option maxHeartbeats 4000000 in
set_option maxRecDepth 100000 in
theorem c_X5_tell (l : Launch) (D : va_G) (cy : Nat → ClassId) (L : g_S → Nat) (ns : Nat) (kk : Nat → Nat) (σ : g_S → Nat → Int32) (i : Nat) (hi : i < ns) (w : Int32) (hk : kk i ≤ 5) (hz : ∀ j, j < kk i → σ (18, i, j) 2 = 0 ∨ σ (18, i, j) 2 = 1) : x_Met l D cy L ns kk yX5_tell (.code yX5_tell cX5_tell 2 (some .int)) 2 σ [.ref (L (11, i, 0)), .int (w)] (some (.int (x_sTell σ (kk i) i w))) σ := by
  refine g_Met.of (by decide) (Nat.le_of_ble_eq_true rfl) ?_
  intro pg e s m below meth c hx hb hr hlk hml hown hts hK hN H locs hG hS ls hl
  have hown : s.vm.findClass RX5 = some m.cls := hown
  have hl : lv_has ls 2 [(0, .ref (L (11, i, 0))), (1, .int (w))] := hl
  refine lv_iload_n hx hb dX5_tell_0 rfl (lv_at hl 1 rfl) ?_
  rcases (show (w).toInt = 0 ∨ (w).toInt = 1 ∨ (w).toInt = 2 ∨ (w).toInt = 3 ∨ ((w).toInt < 0 ∨ 3 < (w).toInt) by omega) with c_1_1 | c_1_1 | c_1_1 | c_1_1 | c_1_1
  · refine lv_tableIn (off := 31) (tgt := 32) hx hb dX5_tell_1 (by have := (show (w : Int32).toInt = (w).toInt from rfl); omega) (by have := (show (w : Int32).toInt = (w).toInt from rfl); omega) (by rw [((show (w : Int32).toInt = (w).toInt from rfl)).trans c_1_1]; rfl) (by decide) ?_
    refine lv_aload_n hx hb dX5_tell_32 rfl (lv_at hl 0 rfl) ?_
    refine g_get (C := RX5) (T := TX5) (N := 7) (v := .int (σ (11, i, 0) 4)) hx hb hts inX5g hown hK hG (11, i, 0) ⟨hi, rfl⟩ (x_at_11 cy L ns kk (i) (0) (σ (11, i, 0))) rfl 4 (by decide) fl_X5_9 rfl dX5_tell_33 ?_
    refine kz_if_eq (X := (σ (11, i, 0) 4).toInt) hx hb rfl dX5_tell_36 (tgt := 43) (by decide) (fun c_36_2 => ?_) (fun c_36_2 => ?_)
    · refine lv_iconst (v := 2) hx hb dX5_tell_43 (by decide) ?_
      exact s_iret hx hb hr hlk hG hS dX5_tell_44 (by unfold x_sTell; (repeat' split) <;> first | rfl | (exfalso; omega)) rfl
    · refine lv_iconst (v := 1) hx hb dX5_tell_39 (by decide) ?_
      refine lv_goto (tgt := 44) hx hb dX5_tell_40 (by decide) ?_
      exact s_iret hx hb hr hlk hG hS dX5_tell_44 (by unfold x_sTell; (repeat' split) <;> first | rfl | (exfalso; omega)) rfl
  · refine lv_tableIn (off := 44) (tgt := 45) hx hb dX5_tell_1 (by have := (show (w : Int32).toInt = (w).toInt from rfl); omega) (by have := (show (w : Int32).toInt = (w).toInt from rfl); omega) (by rw [((show (w : Int32).toInt = (w).toInt from rfl)).trans c_1_1]; rfl) (by decide) ?_
    refine lv_aload_n hx hb dX5_tell_45 rfl (lv_at hl 0 rfl) ?_
    refine g_get (C := RX5) (T := TX5) (N := 7) (v := .int (σ (11, i, 0) 5)) hx hb hts inX5g hown hK hG (11, i, 0) ⟨hi, rfl⟩ (x_at_11 cy L ns kk (i) (0) (σ (11, i, 0))) rfl 5 (by decide) fl_X5_15 rfl dX5_tell_46 ?_
    exact s_iret hx hb hr hlk hG hS dX5_tell_49 (by unfold x_sTell; (repeat' split) <;> first | rfl | (exfalso; omega)) rfl
  · refine lv_tableIn (off := 49) (tgt := 50) hx hb dX5_tell_1 (by have := (show (w : Int32).toInt = (w).toInt from rfl); omega) (by have := (show (w : Int32).toInt = (w).toInt from rfl); omega) (by rw [((show (w : Int32).toInt = (w).toInt from rfl)).trans c_1_1]; rfl) (by decide) ?_
    refine lv_aload_n hx hb dX5_tell_50 rfl (lv_at hl 0 rfl) ?_
    refine g_get (C := RX5) (T := TX5) (N := 7) (v := .int (σ (11, i, 0) 6)) hx hb hts inX5g hown hK hG (11, i, 0) ⟨hi, rfl⟩ (x_at_11 cy L ns kk (i) (0) (σ (11, i, 0))) rfl 6 (by decide) fl_X5_19 rfl dX5_tell_51 ?_
    exact s_iret hx hb hr hlk hG hS dX5_tell_54 (by unfold x_sTell; (repeat' split) <;> first | rfl | (exfalso; omega)) rfl
  · refine lv_tableIn (off := 54) (tgt := 55) hx hb dX5_tell_1 (by have := (show (w : Int32).toInt = (w).toInt from rfl); omega) (by have := (show (w : Int32).toInt = (w).toInt from rfl); omega) (by rw [((show (w : Int32).toInt = (w).toInt from rfl)).trans c_1_1]; rfl) (by decide) ?_
    refine lv_aload_n hx hb dX5_tell_55 rfl (lv_at hl 0 rfl) ?_
    refine g_cont (va_runV (As := []) (rest := []) ⟨hx, hb, hml, hown, hts⟩ (c_X5_setCount l D cy L ns kk σ (i) hi hk hz) (cwV 0 hts gV_X5_62 rfl rfl rfl (by decide +kernel) ⟨Nat.le_of_ble_eq_true rfl, Nat.le_of_ble_eq_true rfl⟩) (g_preV hK hN hG (x := (11, i, 0)) ⟨hi, rfl⟩ (q := (RX5, TX5, 7)) (x_at_11 cy L ns kk (i) (0) (σ (11, i, 0))) rfl) rfl rfl hl.1 rfl (lv_room (Nat.le_of_ble_eq_true rfl)) dX5_tell_56 ⟨Nat.zero_le _, Nat.zero_le _⟩) hS (fun H locs hG hS => ?_)
    refine W.eq (g2 := F0 m 59 ls [.int (x_setsGo σ (i) (kk (i)) 0 0)]) rfl ?_
    exact s_iret hx hb hr hlk hG hS dX5_tell_59 (by unfold x_sTell; (repeat' split) <;> first | rfl | (exfalso; omega)) rfl
  · refine lv_tableOut (tgt := 60) hx hb dX5_tell_1 (by have := (show (w : Int32).toInt = (w).toInt from rfl); omega) (by decide) ?_
    refine lv_iconst (v := (-1)) hx hb dX5_tell_60 (by decide) ?_
    exact s_iret hx hb hr hlk hG hS dX5_tell_61 (by unfold x_sTell; (repeat' split) <;> first | rfl | (exfalso; omega)) rfl
set_option maxHeartbeats 4000000 in
set_option maxRecDepth 100000 in
theorem c_X6_everOpened (l : Launch) (D : va_G) (cy : Nat → ClassId) (L : g_S → Nat) (ns : Nat) (kk : Nat → Nat) (σ : g_S → Nat → Int32) (p : Int32) (hs : (σ (0, 0, 0) 3).toInt = (ns : Int)) (h8 : ns ≤ 8) : x_Met l D cy L ns kk yX6_everOpened (.code yX6_everOpened cX6_everOpened 2 (some (.object "SearchWire$Session"))) 0 σ [.ref (L (0, 0, 0)), .int (p)] (some (if 0 ≤ (p).toInt ∧ (p).toInt < (ns : Int) then .ref (L (11, p.toNatClampNeg, 0)) else .null)) σ := by
  refine g_Met.of (by decide) (Nat.le_of_ble_eq_true rfl) ?_
  intro pg e s m below meth c hx hb hr hlk hml hown hts hK hN H locs hG hS ls hl
  have hown : s.vm.findClass RX6 = some m.cls := hown
  have hl : lv_has ls 2 [(0, .ref (L (0, 0, 0))), (1, .int (p))] := hl
  refine lv_iload_n hx hb dX6_everOpened_0 rfl (lv_at hl 1 rfl) ?_
  refine kz_if_lt (X := (p).toInt) hx hb rfl dX6_everOpened_1 (tgt := 21) (by decide) (fun c_1_1 => ?_) (fun c_1_1 => ?_)
  · refine lv_null hx hb dX6_everOpened_21 ?_
    exact s_aret hx hb hr hlk hG hS dX6_everOpened_22 (Or.inl rfl) (by rw [if_neg (by omega)]) rfl
  · refine lv_iload_n hx hb dX6_everOpened_4 rfl (lv_at hl 1 rfl) ?_
    refine lv_aload_n hx hb dX6_everOpened_5 rfl (lv_at hl 0 rfl) ?_
    refine g_get (C := RX6) (T := TX6) (N := 4) (v := .int (σ (0, 0, 0) 3)) hx hb hts inX6g hown hK hG (0, 0, 0) ⟨rfl, rfl⟩ (x_at_0 cy L ns kk (0) (0) (σ (0, 0, 0))) rfl 3 (by decide) fl_X6_29 rfl dX6_everOpened_6 ?_
    refine kz_icmp_ge (X := (p).toInt) (Y := (σ (0, 0, 0) 3).toInt) hx hb rfl rfl dX6_everOpened_9 (tgt := 21) (by decide) (fun c_9_2 => ?_) (fun c_9_2 => ?_)
    · refine lv_null hx hb dX6_everOpened_21 ?_
      exact s_aret hx hb hr hlk hG hS dX6_everOpened_22 (Or.inl rfl) (by rw [if_neg (by omega)]) rfl
    · refine lv_aload_n hx hb dX6_everOpened_12 rfl (lv_at hl 0 rfl) ?_
      refine g_get (C := RX6) (T := TX6) (N := 4) (v := .ref (L (9, 0, 0))) hx hb hts inX6g hown hK hG (0, 0, 0) ⟨rfl, rfl⟩ (x_at_0 cy L ns kk (0) (0) (σ (0, 0, 0))) rfl 2 (by decide) fl_X6_25 rfl dX6_everOpened_13 ?_
      refine lv_iload_n hx hb dX6_everOpened_16 rfl (lv_at hl 1 rfl) ?_
      refine g_aald (n := 8) (v := .ref (L (11, (p).toNatClampNeg, 0))) hx hb hK hG (9, 0, 0) ⟨rfl, rfl⟩ 2 rfl rfl rfl (g_vp (by omega) (by omega)) (by rw [if_pos (show (p).toNatClampNeg < ns from (by rw [g_cl]; omega))]; rfl) dX6_everOpened_17 ?_
      refine lv_goto (tgt := 22) hx hb dX6_everOpened_18 (by decide) ?_
      exact s_aret hx hb hr hlk hG hS dX6_everOpened_22 (Or.inr ⟨_, rfl⟩) (by rw [if_pos (by omega)]) rfl
set_option maxHeartbeats 4000000 in
set_option maxRecDepth 100000 in
theorem c_X6_openSession (l : Launch) (D : va_G) (cy : Nat → ClassId) (L : g_S → Nat) (ns : Nat) (kk : Nat → Nat) (σ : g_S → Nat → Int32) (p : Int32) (hs : (σ (0, 0, 0) 3).toInt = (ns : Int)) (h8 : ns ≤ 8) (hz4 : ∀ i, i < ns → σ (11, i, 0) 4 = 0 ∨ σ (11, i, 0) 4 = 1) : x_Met l D cy L ns kk yX6_openSession (.code yX6_openSession cX6_openSession 3 (some (.object "SearchWire$Session"))) 1 σ [.ref (L (0, 0, 0)), .int (p)] (some (if (0 ≤ (p).toInt ∧ (p).toInt < (ns : Int)) ∧ ¬ (σ (11, (p).toNatClampNeg, 0) 4).toInt = 0 then .ref (L (11, p.toNatClampNeg, 0)) else .null)) σ := by
  refine g_Met.of (by decide) (Nat.le_of_ble_eq_true rfl) ?_
  intro pg e s m below meth c hx hb hr hlk hml hown hts hK hN H locs hG hS ls hl
  have hown : s.vm.findClass RX6 = some m.cls := hown
  have hl : lv_has ls 3 [(0, .ref (L (0, 0, 0))), (1, .int (p))] := hl
  refine lv_aload_n hx hb dX6_openSession_0 rfl (lv_at hl 0 rfl) ?_
  refine lv_iload_n hx hb dX6_openSession_1 rfl (lv_at hl 1 rfl) ?_
  refine g_cont (va_runV (As := [.int (p)]) (rest := []) ⟨hx, hb, hml, hown, hts⟩ (c_X6_everOpened l D cy L ns kk σ (p) hs h8) (cwV 1 hts gV_X6_106 rfl rfl rfl (by decide +kernel) ⟨Nat.le_of_ble_eq_true rfl, Nat.le_of_ble_eq_true rfl⟩) (g_preV hK hN hG (x := (0, 0, 0)) ⟨rfl, rfl⟩ (q := (RX6, TX6, 4)) (x_at_0 cy L ns kk (0) (0) (σ (0, 0, 0))) rfl) rfl rfl hl.1 rfl (lv_room (Nat.le_of_ble_eq_true rfl)) dX6_openSession_2 ⟨Nat.zero_le _, Nat.zero_le _⟩) hS (fun H locs hG hS => ?_)
  refine W.eq (g2 := F0 m 5 ls [(if 0 ≤ (p).toInt ∧ (p).toInt < (ns : Int) then .ref (L (11, (p).toNatClampNeg, 0)) else .null)]) rfl ?_
  by_cases c_2_1 : 0 ≤ (p).toInt ∧ (p).toInt < (ns : Int)
  · rw [if_pos c_2_1]
    refine lv_astore_n (lv' := [(2, .ref (L (11, (p).toNatClampNeg, 0))), (0, .ref (L (0, 0, 0))), (1, .int (p))]) hx hb dX6_openSession_5 rfl hl (by decide) rfl (fun ls hl => ?_)
    refine lv_aload_n hx hb dX6_openSession_6 rfl (lv_at hl 0 rfl) ?_
    refine lv_ifnull hx hb dX6_openSession_7 ?_
    refine lv_aload_n hx hb dX6_openSession_10 rfl (lv_at hl 0 rfl) ?_
    refine g_cont (va_runV (As := []) (rest := []) ⟨hx, hb, hml, hown, hts⟩ (c_X5_isOpen l D cy L ns kk σ ((p).toNatClampNeg) (by rw [g_cl]; omega) (g_nar01 (hz4 _ (by rw [g_cl]; omega)))) (cwV 0 hts gV_X6_169 rfl rfl rfl (by decide +kernel) ⟨Nat.le_of_ble_eq_true rfl, Nat.le_of_ble_eq_true rfl⟩) (g_preV hK hN hG (x := (11, (p).toNatClampNeg, 0)) ⟨(by rw [g_cl]; omega), rfl⟩ (q := (RX5, TX5, 7)) (x_at_11 cy L ns kk ((p).toNatClampNeg) (0) (σ (11, (p).toNatClampNeg, 0))) rfl) rfl rfl hl.1 rfl (lv_room (Nat.le_of_ble_eq_true rfl)) dX6_openSession_11 ⟨Nat.zero_le _, Nat.zero_le _⟩) hS (fun H locs hG hS => ?_)
    refine W.eq (g2 := F0 m 14 ls [.int (σ (11, (p).toNatClampNeg, 0) 4)]) rfl ?_
    refine kz_if_eq (X := (σ (11, (p).toNatClampNeg, 0) 4).toInt) hx hb rfl dX6_openSession_14 (tgt := 21) (by decide) (fun c_14_2 => ?_) (fun c_14_2 => ?_)
    · refine lv_null hx hb dX6_openSession_21 ?_
      exact s_aret hx hb hr hlk hG hS dX6_openSession_22 (Or.inl rfl) (by rw [if_neg (by omega)]) rfl
    · refine lv_aload_n hx hb dX6_openSession_17 rfl (lv_at hl 0 rfl) ?_
      refine lv_goto (tgt := 22) hx hb dX6_openSession_18 (by decide) ?_
      exact s_aret hx hb hr hlk hG hS dX6_openSession_22 (Or.inr ⟨_, rfl⟩) (by rw [if_pos (by omega)]) rfl
  · rw [if_neg c_2_1]
    refine lv_astore_nN (lv' := [(2, .null), (0, .ref (L (0, 0, 0))), (1, .int (p))]) hx hb dX6_openSession_5 rfl hl (by decide) rfl (fun ls hl => ?_)
    refine lv_aload_nN hx hb dX6_openSession_6 rfl (lv_at hl 0 rfl) ?_
    refine lv_ifnullN (tgt := 21) hx hb dX6_openSession_7 (by decide) ?_
    refine lv_null hx hb dX6_openSession_21 ?_
    exact s_aret hx hb hr hlk hG hS dX6_openSession_22 (Or.inl rfl) (by rw [if_neg (by omega)]) rfl
set_option maxHeartbeats 4000000 in
set_option maxRecDepth 100000 in
theorem lp_back (l : Launch) (D : va_G) (cy : Nat → ClassId) (L : g_S → Nat) (ns : Nat) (kk : Nat → Nat) (σ : g_S → Nat → Int32) {pg : Program} {e : Env} {s : State} {m : MethodId} {args : Array Value} {below : List Frame} {meth : Method} {c : Code} {Q : State → Prop} (C0 : g_C pg s m meth c args cX6_stepBack (some .int) 7 RX6 D (x_tys cy)) (h0 : 0 ≤ (σ (1, 0, 0) 2).toInt) (hn : (σ (1, 0, 0) 2).toInt ≤ 100) (x pl : Int32) :
    ∀ (n : Nat) (k : Nat) (b : Int32) (H : Heap) (locs : List Loc) (ls : Array Slot), k + n = pl.toInt.toNat → g_H D vwCl (x_dom ns kk) L (fun z => x_K cy L ns kk z (σ z)) H → va_S (g_A (x_dom ns kk) L) s.heap H locs → lv_has ls 7 [(5, .int (nI k)), (4, .int (b)), (0, .ref (L (0, 0, 0))), (1, .int (x)), (3, .int (pl))] →
    (∀ (H : Heap) (locs : List Loc) (ls : Array Slot), g_H D vwCl (x_dom ns kk) L (fun z => x_K cy L ns kk z (σ z)) H → va_S (g_A (x_dom ns kk) L) s.heap H locs → lv_has ls 7 [(4, .int (x_backGo σ x n b))] → W pg l e (g_R 3) s m args below meth c H locs 0 0 Q (F0 m 43 ls [])) →
    (∀ (H : Heap) (locs : List Loc) (ls : Array Slot), g_H D vwCl (x_dom ns kk) L (fun z => x_K cy L ns kk z (σ z)) H → va_S (g_A (x_dom ns kk) L) s.heap H locs → lv_has ls 7 [(4, .int (x_backGo σ x n b))] → W pg l e (g_R 3) s m args below meth c H locs 0 0 Q (F0 m 30 ls [])) →
    W pg l e (g_R 3) s m args below meth c H locs 0 0 Q (F0 m 6 ls []) := by
  obtain ⟨hx, hb, hr, hlk, hml, hown, hts, hK, hN⟩ := C0
  intro n
  induction n with
  | zero =>
    intro k b H locs ls hv9 hG hS hl kk9 kk8
    have hr9 := g_rng pl
    have hz9 := g_nIT (show k < 2147483648 by omega)
    refine lv_iload hx hb dX6_stepBack_6 (lv_at hl 0 rfl) ?_
    refine lv_iload_n hx hb dX6_stepBack_8 rfl (lv_at hl 4 rfl) ?_
    refine kz_icmp_ge (X := ((k : Nat) : Int)) (Y := (pl).toInt) hx hb (g_nIT (by omega)) rfl dX6_stepBack_9 (tgt := 43) (by decide) (fun c_9_1 => ?_) (fun c_9_1 => ?_)
    · exact kk9 H locs ls hG hS (lv_sub hl [1] rfl)
    · exact absurd c_9_1 (by omega)
  | succ n ih =>
    intro k b H locs ls hv9 hG hS hl kk9 kk8
    have hr9 := g_rng pl
    have hz9 := g_nIT (show k < 2147483648 by omega)
    refine lv_iload hx hb dX6_stepBack_6 (lv_at hl 0 rfl) ?_
    refine lv_iload_n hx hb dX6_stepBack_8 rfl (lv_at hl 4 rfl) ?_
    refine kz_icmp_ge (X := ((k : Nat) : Int)) (Y := (pl).toInt) hx hb (g_nIT (by omega)) rfl dX6_stepBack_9 (tgt := 43) (by decide) (fun c_9_1 => ?_) (fun c_9_1 => ?_)
    · exact absurd c_9_1 (by omega)
    · refine lv_aload_n hx hb dX6_stepBack_12 rfl (lv_at hl 2 rfl) ?_
      refine g_get (C := RX6) (T := TX6) (N := 4) (v := .ref (L (1, 0, 0))) hx hb hts inX6g hown hK hG (0, 0, 0) ⟨rfl, rfl⟩ (x_at_0 cy L ns kk (0) (0) (σ (0, 0, 0))) rfl 0 (by decide) fl_X6_10 rfl dX6_stepBack_13 ?_
      refine lv_iload_n hx hb dX6_stepBack_16 rfl (lv_at hl 3 rfl) ?_
      refine lv_iload hx hb dX6_stepBack_17 (lv_at hl 1 rfl) ?_
      refine g_cont (va_runV (As := [.int (x), .int (b)]) (rest := []) ⟨hx, hb, hml, hown, hts⟩ (c_X2_greatestTermBelow l D cy L ns kk σ (x) (b) h0 hn) (cwV 2 hts gV_X6_173 rfl rfl rfl (by decide +kernel) ⟨Nat.le_of_ble_eq_true rfl, Nat.le_of_ble_eq_true rfl⟩) (g_preV hK hN hG (x := (1, 0, 0)) ⟨rfl, rfl⟩ (q := (RX2, TX2, 3)) (x_at_1 cy L ns kk (0) (0) (σ (1, 0, 0))) rfl) rfl rfl hl.1 rfl (lv_room (Nat.le_of_ble_eq_true rfl)) dX6_stepBack_19 ⟨Nat.zero_le _, Nat.zero_le _⟩) hS (fun H locs hG hS => ?_)
      refine W.eq (g2 := F0 m 22 ls [.int (x_great σ (x) (b))]) rfl ?_
      refine lv_istore (lv' := [(6, .int (x_great σ (x) (b))), (5, .int (nI k)), (4, .int (b)), (0, .ref (L (0, 0, 0))), (1, .int (x)), (3, .int (pl))]) hx hb dX6_stepBack_22 hl (by decide) rfl (fun ls hl => ?_)
      refine lv_iload hx hb dX6_stepBack_24 (lv_at hl 0 rfl) ?_
      refine lv_iconst (v := (-1)) hx hb dX6_stepBack_26 (by decide) ?_
      refine kz_icmp_ne (X := (x_great σ (x) (b)).toInt) (Y := (-1)) hx hb rfl (by decide) dX6_stepBack_27 (tgt := 33) (by decide) (fun c_27_2 => ?_) (fun c_27_2 => ?_)
      · refine lv_iload hx hb dX6_stepBack_33 (lv_at hl 0 rfl) ?_
        refine lv_istore (lv' := [(4, .int (x_great σ (x) (b))), (6, .int (x_great σ (x) (b))), (5, .int (nI k)), (0, .ref (L (0, 0, 0))), (1, .int (x)), (3, .int (pl))]) hx hb dX6_stepBack_35 hl (by decide) rfl (fun ls hl => ?_)
        refine lv_iinc (v := nI (k + 1)) (lv' := [(5, .int (nI (k + 1))), (4, .int (x_great σ (x) (b))), (6, .int (x_great σ (x) (b))), (0, .ref (L (0, 0, 0))), (1, .int (x)), (3, .int (pl))]) hx hb dX6_stepBack_37 hl (k := 2) rfl (nI_1 (k)) (by decide) rfl (fun ls hl => ?_)
        refine lv_goto (tgt := 6) hx hb dX6_stepBack_40 (by decide) ?_
        have e90 : x_backGo σ x (n + 1) b = x_backGo σ x n (x_great σ (x) (b)) := (by rw [x_backGo_s]; (repeat' split) <;> first | rfl | (exfalso; omega))
        rw [e90] at kk9 kk8
        exact ih (k + 1) (x_great σ (x) (b)) H locs ls (by omega) hG hS (lv_sub hl [0, 1, 3, 4, 5] rfl) kk9 kk8
      · have e90 : x_backGo σ x (n + 1) b = b := (by rw [x_backGo_s]; (repeat' split) <;> first | rfl | (exfalso; omega))
        rw [e90] at kk8
        exact kk8 H locs ls hG hS (lv_sub hl [2] rfl)
set_option maxHeartbeats 4000000 in
set_option maxRecDepth 100000 in
theorem c_X6_stepBack (l : Launch) (D : va_G) (cy : Nat → ClassId) (L : g_S → Nat) (ns : Nat) (kk : Nat → Nat) (σ : g_S → Nat → Int32) (x t pl : Int32) (h0 : 0 ≤ (σ (1, 0, 0) 2).toInt) (hn : (σ (1, 0, 0) 2).toInt ≤ 100) (hp : 0 ≤ pl.toInt) : x_Met l D cy L ns kk yX6_stepBack (.code yX6_stepBack cX6_stepBack 7 (some .int)) 3 σ [.ref (L (0, 0, 0)), .int (x), .int (t), .int (pl)] (some (.int (x_backGo σ x pl.toInt.toNat t))) σ := by
  refine g_Met.of (by decide) (Nat.le_of_ble_eq_true rfl) ?_
  intro pg e s m below meth c hx hb hr hlk hml hown hts hK hN H locs hG hS ls hl
  have hown : s.vm.findClass RX6 = some m.cls := hown
  have hl : lv_has ls 7 [(0, .ref (L (0, 0, 0))), (1, .int (x)), (2, .int (t)), (3, .int (pl))] := hl
  refine lv_iload_n hx hb dX6_stepBack_0 rfl (lv_at hl 2 rfl) ?_
  refine lv_istore (lv' := [(4, .int (t)), (0, .ref (L (0, 0, 0))), (1, .int (x)), (2, .int (t)), (3, .int (pl))]) hx hb dX6_stepBack_1 hl (by decide) rfl (fun ls hl => ?_)
  refine lv_iconst (v := 0) hx hb dX6_stepBack_3 (by decide) ?_
  refine lv_istore (lv' := [(5, .int 0), (4, .int (t)), (0, .ref (L (0, 0, 0))), (1, .int (x)), (2, .int (t)), (3, .int (pl))]) hx hb dX6_stepBack_4 hl (by decide) rfl (fun ls hl => ?_)
  refine lp_back l D cy L ns kk σ ⟨hx, hb, hr, hlk, hml, hown, hts, hK, hN⟩ h0 hn x pl pl.toInt.toNat 0 t H locs ls (by omega) hG hS (lv_sub hl [0, 1, 2, 3, 5] rfl) (fun H locs ls hG hS hl => ?_) (fun H locs ls hG hS hl => ?_)
  · refine lv_iload hx hb dX6_stepBack_43 (lv_at hl 0 rfl) ?_
    exact s_iret hx hb hr hlk hG hS dX6_stepBack_45 rfl rfl
  · refine lv_iload hx hb dX6_stepBack_30 (lv_at hl 0 rfl) ?_
    exact s_iret hx hb hr hlk hG hS dX6_stepBack_32 rfl rfl
end
section
/-! the class's own methods -/
def x_I (ns : Nat) (kk : Nat → Nat) (σ : g_S → Nat → Int32) : Prop := (0 ≤ (σ (1, 0, 0) 2).toInt ∧ (σ (1, 0, 0) 2).toInt ≤ 100) ∧ (0 ≤ (σ (2, 0, 0) 4).toInt ∧ (σ (2, 0, 0) 4).toInt ≤ 40) ∧ ((σ (0, 0, 0) 3).toInt = (ns : Int) ∧ ns ≤ 8) ∧ (∀ i, i < ns → kk i ≤ 5) ∧ (∀ i, i < ns → σ (11, i, 0) 4 = 0 ∨ σ (11, i, 0) 4 = 1) ∧ (∀ i, i < ns → ∀ j, j < kk i → σ (18, i, j) 2 = 0 ∨ σ (18, i, j) 2 = 1) ∧ (∀ i, i < ns → ∀ j, j < kk i → 0 ≤ (σ (18, i, j) 1).toInt ∧ (σ (18, i, j) 1).toInt ≤ 100) ∧ (∀ i, i < ns → 0 ≤ (σ (13, i, 0) 5).toInt ∧ (σ (13, i, 0) 5).toInt ≤ (σ (13, i, 0) 4).toInt ∧ (σ (13, i, 0) 4).toInt ≤ 100) ∧ (∀ i, i < ns → 0 ≤ (σ (17, i, 0) 2).toInt ∧ (σ (17, i, 0) 2).toInt ≤ 20)
theorem x_ord_row {σ : g_S → Nat → Int32} {i j : Nat} {x down : Int32} {y : g_S} (hy : y ≠ (19, i, j)) : x_ord σ i j x down y = σ y := x_ordGo_row i j x down hy _ _ _
def x_qsR (σ : g_S → Nat → Int32) (k a b d : Int32) : Int32 := if k.toInt = 0 then x_rngR σ a b b else if k.toInt = 1 then x_rngR σ a b d else x_pairR σ k a b
def x_qsM (σ : g_S → Nat → Int32) (k a b d : Int32) : g_S → Nat → Int32 := if k.toInt = 0 then x_rngM σ a b b else if k.toInt = 1 then x_rngM σ a b d else x_pairM σ k a b
def x_srchGo (i j : Nat) (q : Int32) : Nat → Nat → (g_S → Nat → Int32) → (g_S → Nat → Int32)
  | 0, _, σ => σ
  | n + 1, r, σ => x_srchGo i j q n (r + 1) (if x_findsP σ q (nI r) then x_rsAdd σ i j (nI r) else σ)
theorem x_srchGo_s (i j : Nat) (q : Int32) (n r : Nat) (σ : g_S → Nat → Int32) : x_srchGo i j q (n + 1) r σ = x_srchGo i j q n (r + 1) (if x_findsP σ q (nI r) then x_rsAdd σ i j (nI r) else σ) := rfl
def x_srI (N i j : Nat) (σ : g_S → Nat → Int32) : Prop := (σ (1, 0, 0) 2).toInt = (N : Int) ∧ (σ (2, 0, 0) 4).toInt ≤ 40 ∧ 0 ≤ (σ (18, i, j) 1).toInt
theorem x_srI_add {N i j : Nat} {σ : g_S → Nat → Int32} {r : Int32} (h : x_srI N i j σ) : x_srI N i j (x_rsAdd σ i j r) := by
  obtain ⟨h1, h2, h3⟩ := h
  unfold x_rsAdd
  split
  · exact ⟨h1, h2, h3⟩
  · have z1 : (1 : Int32).toInt = 1 := rfl
    refine ⟨by simpa [g_up_at] using h1, by simpa [g_up_at] using h2, ?_⟩
    rw [g_up_same, g_addI (by omega) (by omega)]
    omega
def x_srch (σ : g_S → Nat → Int32) (i j : Nat) (q : Int32) : g_S → Nat → Int32 := x_srchGo i j q (σ (1, 0, 0) 2).toInt.toNat 0 (x_make σ i j)
def x_searchR (σ : g_S → Nat → Int32) (ns : Nat) (kk : Nat → Nat) (u q v : Int32) : Int32 := if (0 ≤ (u).toInt ∧ (u).toInt < (ns : Int)) ∧ ¬ (σ (11, (u).toNatClampNeg, 0) 4).toInt = 0 then (if 0 ≤ q.toInt ∧ q.toInt < (σ (2, 0, 0) 4).toInt then (if 0 ≤ (v).toInt ∧ (v).toInt < ((kk (u).toNatClampNeg : Nat) : Int) then (if (x_srch σ (u).toNatClampNeg (v).toNatClampNeg q (18, (u).toNatClampNeg, (v).toNatClampNeg) 1).toInt = 0 then -108 else x_srch σ (u).toNatClampNeg (v).toNatClampNeg q (18, (u).toNatClampNeg, (v).toNatClampNeg) 1) else -104) else -103) else -101
def x_searchM (σ : g_S → Nat → Int32) (ns : Nat) (kk : Nat → Nat) (u q v : Int32) : g_S → Nat → Int32 := if (0 ≤ (u).toInt ∧ (u).toInt < (ns : Int)) ∧ ¬ (σ (11, (u).toNatClampNeg, 0) 4).toInt = 0 then (if 0 ≤ q.toInt ∧ q.toInt < (σ (2, 0, 0) 4).toInt then (if 0 ≤ (v).toInt ∧ (v).toInt < ((kk (u).toNatClampNeg : Nat) : Int) then (if (x_srch σ (u).toNatClampNeg (v).toNatClampNeg q (18, (u).toNatClampNeg, (v).toNatClampNeg) 1).toInt = 0 then x_dgM (x_srch σ (u).toNatClampNeg (v).toNatClampNeg q) (kk (u).toNatClampNeg) (u).toNatClampNeg 108 else x_srch σ (u).toNatClampNeg (v).toNatClampNeg q) else x_dgM σ (kk (u).toNatClampNeg) (u).toNatClampNeg 104) else x_dgM σ (kk (u).toNatClampNeg) (u).toNatClampNeg 103) else σ
def x_sizeR (σ : g_S → Nat → Int32) (ns : Nat) (kk : Nat → Nat) (u v : Int32) : Int32 := if (0 ≤ (u).toInt ∧ (u).toInt < (ns : Int)) ∧ ¬ (σ (11, (u).toNatClampNeg, 0) 4).toInt = 0 then (if (0 ≤ (v).toInt ∧ (v).toInt < ((kk (u).toNatClampNeg : Nat) : Int)) ∧ ¬ (σ (18, (u).toNatClampNeg, (v).toNatClampNeg) 2).toInt = 0 then σ (18, (u).toNatClampNeg, (v).toNatClampNeg) 1 else -104) else -101
def x_presGo (i j : Nat) (fr : Int32) : Nat → Nat → (g_S → Nat → Int32) → (g_S → Nat → Int32)
  | 0, _, σ => σ
  | n + 1, k, σ => x_presGo i j fr n (k + 1) (x_preAdd σ i (x_rsAt σ i j (fr + nI k)) (x_bytesOf σ (x_rsAt σ i j (fr + nI k))))
theorem x_presGo_s (i j : Nat) (fr : Int32) (n k : Nat) (σ : g_S → Nat → Int32) : x_presGo i j fr (n + 1) k σ = x_presGo i j fr n (k + 1) (x_preAdd σ i (x_rsAt σ i j (fr + nI k)) (x_bytesOf σ (x_rsAt σ i j (fr + nI k)))) := rfl
def x_prI (i j : Nat) (σ : g_S → Nat → Int32) : Prop := (σ (1, 0, 0) 2).toInt ≤ 100 ∧ (σ (18, i, j) 1).toInt ≤ 100 ∧ 0 ≤ (σ (13, i, 0) 5).toInt ∧ (σ (13, i, 0) 5).toInt ≤ (σ (13, i, 0) 4).toInt
theorem x_preAdd_row {i : Nat} {σ : g_S → Nat → Int32} {r z : Int32} {y : g_S} (h3 : y.1 ≠ 13) (h4 : y.1 ≠ 14) (h5 : y.1 ≠ 15) (h6 : y.1 ≠ 16) : x_preAdd σ i r z y = σ y := by
  have e3 : y ≠ (13, i, 0) := fun q => h3 (by rw [q])
  have e4 : y ≠ (14, i, 0) := fun q => h4 (by rw [q])
  have e5 : y ≠ (15, i, 0) := fun q => h5 (by rw [q])
  have e6 : y ≠ (16, i, 0) := fun q => h6 (by rw [q])
  unfold x_preAdd
  split
  · rfl
  · split
    · unfold x_segPut x_segNew
      rw [g_up_row e3, g_up_row e4, g_up_row e6, g_up_row e3, g_up_row e6, g_up_row e5]
    · unfold x_segPut
      rw [g_up_row e3, g_up_row e4, g_up_row e6]
theorem x_prI_add {i j : Nat} {σ : g_S → Nat → Int32} {r z : Int32} (h : x_prI i j σ) : x_prI i j (x_preAdd σ i r z) := by
  obtain ⟨h1, h2, h3, h4⟩ := h
  have z1 : (1 : Int32).toInt = 1 := rfl
  refine ⟨by rw [x_preAdd_row (by simp) (by simp) (by simp) (by simp)]; exact h1, by rw [x_preAdd_row (by simp) (by simp) (by simp) (by simp)]; exact h2, ?_⟩
  unfold x_preAdd
  split
  · exact ⟨h3, h4⟩
  · have a1 : (σ (13, i, 0) 4 + 1).toInt = (σ (13, i, 0) 4).toInt + 1 := by rw [g_addI (by omega) (by omega)]; omega
    have a2 : (σ (13, i, 0) 5 + 1).toInt = (σ (13, i, 0) 5).toInt + 1 := by rw [g_addI (by omega) (by omega)]; omega
    split
    · have e5 : ∀ k : Nat, x_segPut (x_segNew σ i) i k (σ (13, i, 0) 4) r z (13, i, 0) 5 = σ (13, i, 0) 5 + 1 := fun k => by simp [x_segPut, x_segNew, g_up_at]
      have e4 : ∀ k : Nat, x_segPut (x_segNew σ i) i k (σ (13, i, 0) 4) r z (13, i, 0) 4 = σ (13, i, 0) 4 + 1 := fun k => by simp [x_segPut, g_up_at]
      rw [e5, e4]
      omega
    · have e5 : ∀ k : Nat, x_segPut σ i k (σ (13, i, 0) 4) r z (13, i, 0) 5 = σ (13, i, 0) 5 := fun k => by simp [x_segPut, g_up_at]
      have e4 : ∀ k : Nat, x_segPut σ i k (σ (13, i, 0) 4) r z (13, i, 0) 4 = σ (13, i, 0) 4 + 1 := fun k => by simp [x_segPut, g_up_at]
      rw [e5, e4]
      omega
def x_pres (σ : g_S → Nat → Int32) (i j : Nat) (fr nn : Int32) : g_S → Nat → Int32 := x_presGo i j fr nn.toInt.toNat 0 (x_clear σ i)
def x_presentR (σ : g_S → Nat → Int32) (ns : Nat) (kk : Nat → Nat) (u v fr nn : Int32) : Int32 := if (0 ≤ (u).toInt ∧ (u).toInt < (ns : Int)) ∧ ¬ (σ (11, (u).toNatClampNeg, 0) 4).toInt = 0 then (if (0 ≤ (v).toInt ∧ (v).toInt < ((kk (u).toNatClampNeg : Nat) : Int)) ∧ ¬ (σ (18, (u).toNatClampNeg, (v).toNatClampNeg) 2).toInt = 0 then (if 1 ≤ nn.toInt then (if fr.toInt < 0 ∨ (σ (18, (u).toNatClampNeg, (v).toNatClampNeg) 1).toInt - nn.toInt < fr.toInt then -105 else x_pres σ (u).toNatClampNeg (v).toNatClampNeg fr nn (13, (u).toNatClampNeg, 0) 5) else -107) else -104) else -101
def x_presentM (σ : g_S → Nat → Int32) (ns : Nat) (kk : Nat → Nat) (u v fr nn : Int32) : g_S → Nat → Int32 := if (0 ≤ (u).toInt ∧ (u).toInt < (ns : Int)) ∧ ¬ (σ (11, (u).toNatClampNeg, 0) 4).toInt = 0 then (if (0 ≤ (v).toInt ∧ (v).toInt < ((kk (u).toNatClampNeg : Nat) : Int)) ∧ ¬ (σ (18, (u).toNatClampNeg, (v).toNatClampNeg) 2).toInt = 0 then (if 1 ≤ nn.toInt then (if fr.toInt < 0 ∨ (σ (18, (u).toNatClampNeg, (v).toNatClampNeg) 1).toInt - nn.toInt < fr.toInt then x_dgM σ (kk (u).toNatClampNeg) (u).toNatClampNeg 105 else x_pres σ (u).toNatClampNeg (v).toNatClampNeg fr nn) else x_dgM σ (kk (u).toNatClampNeg) (u).toNatClampNeg 107) else x_dgM σ (kk (u).toNatClampNeg) (u).toNatClampNeg 104) else σ
def x_segmentR (σ : g_S → Nat → Int32) (ns : Nat) (u p w : Int32) : Int32 := if 0 ≤ (u).toInt ∧ (u).toInt < (ns : Int) then x_tellSeg σ (u).toNatClampNeg p w else -1
def x_atR (σ : g_S → Nat → Int32) (ns : Nat) (u p : Int32) : Int32 := if 0 ≤ (u).toInt ∧ (u).toInt < (ns : Int) then x_preAt σ (u).toNatClampNeg p else -1
def x_sortR (σ : g_S → Nat → Int32) (ns : Nat) (kk : Nat → Nat) (u v x down : Int32) : Int32 := if (0 ≤ (u).toInt ∧ (u).toInt < (ns : Int)) ∧ ¬ (σ (11, (u).toNatClampNeg, 0) 4).toInt = 0 then (if ¬ (σ (11, (u).toNatClampNeg, 0) 0 &&& 1).toInt = 0 then (if (0 ≤ (v).toInt ∧ (v).toInt < ((kk (u).toNatClampNeg : Nat) : Int)) ∧ ¬ (σ (18, (u).toNatClampNeg, (v).toNatClampNeg) 2).toInt = 0 then (if 0 ≤ x.toInt ∧ x.toInt < 5 then x_cwt (x_ord σ (u).toNatClampNeg (v).toNatClampNeg x down) (u).toNatClampNeg (v).toNatClampNeg x else -106) else -104) else -102) else -101
def x_sortM (σ : g_S → Nat → Int32) (ns : Nat) (kk : Nat → Nat) (u v x down : Int32) : g_S → Nat → Int32 := if (0 ≤ (u).toInt ∧ (u).toInt < (ns : Int)) ∧ ¬ (σ (11, (u).toNatClampNeg, 0) 4).toInt = 0 then (if ¬ (σ (11, (u).toNatClampNeg, 0) 0 &&& 1).toInt = 0 then (if (0 ≤ (v).toInt ∧ (v).toInt < ((kk (u).toNatClampNeg : Nat) : Int)) ∧ ¬ (σ (18, (u).toNatClampNeg, (v).toNatClampNeg) 2).toInt = 0 then (if 0 ≤ x.toInt ∧ x.toInt < 5 then x_ord σ (u).toNatClampNeg (v).toNatClampNeg x down else x_dgM σ (kk (u).toNatClampNeg) (u).toNatClampNeg 106) else x_dgM σ (kk (u).toNatClampNeg) (u).toNatClampNeg 104) else x_dgM σ (kk (u).toNatClampNeg) (u).toNatClampNeg 102) else σ
def x_scP (t nn pl : Int32) : Prop := (0 ≤ t.toInt ∧ t.toInt ≤ 999) ∧ (1 ≤ nn.toInt ∧ nn.toInt ≤ 20) ∧ (0 ≤ pl.toInt ∧ pl.toInt ≤ 9)
def x_scanR (σ : g_S → Nat → Int32) (ns : Nat) (kk : Nat → Nat) (u x t nn pl : Int32) : Int32 := if (0 ≤ (u).toInt ∧ (u).toInt < (ns : Int)) ∧ ¬ (σ (11, (u).toNatClampNeg, 0) 4).toInt = 0 then (if ¬ (σ (11, (u).toNatClampNeg, 0) 0 &&& 2).toInt = 0 then (if 0 ≤ x.toInt ∧ x.toInt < 5 then (if (0 ≤ t.toInt ∧ t.toInt ≤ 999) ∧ (1 ≤ nn.toInt ∧ nn.toInt ≤ 20) ∧ (0 ≤ pl.toInt ∧ pl.toInt ≤ 9) then (if (x_least σ x 0).toInt = -1 then -108 else x_fillM σ (u).toNatClampNeg x (x_backGo σ x pl.toInt.toNat t) nn (17, (u).toNatClampNeg, 0) 2) else -107) else -106) else -102) else -101
def x_scanM (σ : g_S → Nat → Int32) (ns : Nat) (kk : Nat → Nat) (u x t nn pl : Int32) : g_S → Nat → Int32 := if (0 ≤ (u).toInt ∧ (u).toInt < (ns : Int)) ∧ ¬ (σ (11, (u).toNatClampNeg, 0) 4).toInt = 0 then (if ¬ (σ (11, (u).toNatClampNeg, 0) 0 &&& 2).toInt = 0 then (if 0 ≤ x.toInt ∧ x.toInt < 5 then (if (0 ≤ t.toInt ∧ t.toInt ≤ 999) ∧ (1 ≤ nn.toInt ∧ nn.toInt ≤ 20) ∧ (0 ≤ pl.toInt ∧ pl.toInt ≤ 9) then (if (x_least σ x 0).toInt = -1 then x_dgM σ (kk (u).toNatClampNeg) (u).toNatClampNeg 108 else x_fillM σ (u).toNatClampNeg x (x_backGo σ x pl.toInt.toNat t) nn) else x_dgM σ (kk (u).toNatClampNeg) (u).toNatClampNeg 107) else x_dgM σ (kk (u).toNatClampNeg) (u).toNatClampNeg 106) else x_dgM σ (kk (u).toNatClampNeg) (u).toNatClampNeg 102) else σ
def x_dropR (σ : g_S → Nat → Int32) (ns : Nat) (kk : Nat → Nat) (u v : Int32) : Int32 := if (0 ≤ (u).toInt ∧ (u).toInt < (ns : Int)) ∧ ¬ (σ (11, (u).toNatClampNeg, 0) 4).toInt = 0 then (if (0 ≤ (v).toInt ∧ (v).toInt < ((kk (u).toNatClampNeg : Nat) : Int)) ∧ ¬ (σ (18, (u).toNatClampNeg, (v).toNatClampNeg) 2).toInt = 0 then 1 else -104) else -101
def x_dropM (σ : g_S → Nat → Int32) (ns : Nat) (kk : Nat → Nat) (u v : Int32) : g_S → Nat → Int32 := if (0 ≤ (u).toInt ∧ (u).toInt < (ns : Int)) ∧ ¬ (σ (11, (u).toNatClampNeg, 0) 4).toInt = 0 then (if (0 ≤ (v).toInt ∧ (v).toInt < ((kk (u).toNatClampNeg : Nat) : Int)) ∧ ¬ (σ (18, (u).toNatClampNeg, (v).toNatClampNeg) 2).toInt = 0 then x_forget σ (u).toNatClampNeg (v).toNatClampNeg else x_dgM σ (kk (u).toNatClampNeg) (u).toNatClampNeg 104) else σ
def x_closeR (σ : g_S → Nat → Int32) (ns : Nat) (kk : Nat → Nat) (u : Int32) : Int32 := if (0 ≤ (u).toInt ∧ (u).toInt < (ns : Int)) ∧ ¬ (σ (11, (u).toNatClampNeg, 0) 4).toInt = 0 then x_setsGo σ (u).toNatClampNeg (kk (u).toNatClampNeg) 0 0 else -101
def x_closeM (σ : g_S → Nat → Int32) (ns : Nat) (kk : Nat → Nat) (u : Int32) : g_S → Nat → Int32 := if (0 ≤ (u).toInt ∧ (u).toInt < (ns : Int)) ∧ ¬ (σ (11, (u).toNatClampNeg, 0) 4).toInt = 0 then x_shut σ (kk (u).toNatClampNeg) (u).toNatClampNeg else σ
def x_stateR (σ : g_S → Nat → Int32) (ns : Nat) (kk : Nat → Nat) (u w : Int32) : Int32 := if (0 ≤ u.toInt ∧ u.toInt < 8) ∧ (0 ≤ w.toInt ∧ w.toInt ≤ 3) then (if 0 ≤ (u).toInt ∧ (u).toInt < (ns : Int) then x_sTell σ (kk (u).toNatClampNeg) (u).toNatClampNeg w else 0) else -1
set_option maxHeartbeats 4000000 in
set_option maxRecDepth 100000 in
theorem c_X6_record (l : Launch) (D : va_G) (cy : Nat → ClassId) (L : g_S → Nat) (ns : Nat) (kk : Nat → Nat) (σ : g_S → Nat → Int32) (z : Int32) (hI : x_I ns kk σ) : x_Met l D cy L ns kk yX6_record (.code yX6_record cX6_record 2 (some .int)) 1 σ [.ref (L (0, 0, 0)), .int (z)] (some (.int (x_addR σ z))) (x_addM σ z) := by
  refine g_Met.of (by decide) (Nat.le_of_ble_eq_true rfl) ?_
  intro pg e s m below meth c hx hb hr hlk hml hown hts hK hN H locs hG hS ls hl
  have hown : s.vm.findClass RX6 = some m.cls := hown
  have hl : lv_has ls 2 [(0, .ref (L (0, 0, 0))), (1, .int (z))] := hl
  obtain ⟨⟨h0, hn⟩, ⟨q0, q40⟩, ⟨hs, h8⟩, hkA, hz4, hzA, hcA, hpA, htA⟩ := hI
  refine lv_aload_n hx hb dX6_record_0 rfl (lv_at hl 0 rfl) ?_
  refine g_get (C := RX6) (T := TX6) (N := 4) (v := .ref (L (1, 0, 0))) hx hb hts inX6g hown hK hG (0, 0, 0) ⟨rfl, rfl⟩ (x_at_0 cy L ns kk (0) (0) (σ (0, 0, 0))) rfl 0 (by decide) fl_X6_10 rfl dX6_record_1 ?_
  refine lv_iload_n hx hb dX6_record_4 rfl (lv_at hl 1 rfl) ?_
  refine g_cont (va_runV (As := [.int (z)]) (rest := []) ⟨hx, hb, hml, hown, hts⟩ (c_X2_add l D cy L ns kk σ (z) h0 hn) (cwV 1 hts gV_X6_33 rfl rfl rfl (by decide +kernel) ⟨Nat.le_of_ble_eq_true rfl, Nat.le_of_ble_eq_true rfl⟩) (g_preV hK hN hG (x := (1, 0, 0)) ⟨rfl, rfl⟩ (q := (RX2, TX2, 3)) (x_at_1 cy L ns kk (0) (0) (σ (1, 0, 0))) rfl) rfl rfl hl.1 rfl (lv_room (Nat.le_of_ble_eq_true rfl)) dX6_record_5 ⟨Nat.zero_le _, Nat.zero_le _⟩) hS (fun H locs hG hS => ?_)
  refine W.eq (g2 := F0 m 8 ls [.int (x_addR σ (z))]) rfl ?_
  exact s_iret hx hb hr hlk hG hS dX6_record_8 rfl rfl
set_option maxHeartbeats 4000000 in
set_option maxRecDepth 100000 in
theorem c_X6_term (l : Launch) (D : va_G) (cy : Nat → ClassId) (L : g_S → Nat) (ns : Nat) (kk : Nat → Nat) (σ : g_S → Nat → Int32) (p x v : Int32) (hI : x_I ns kk σ) : x_Met l D cy L ns kk yX6_term (.code yX6_term cX6_term 4 (some .int)) 2 σ [.ref (L (0, 0, 0)), .int (p), .int (x), .int (v)] (some (.int (if (0 ≤ p.toInt ∧ p.toInt < (σ (1, 0, 0) 2).toInt) ∧ (0 ≤ x.toInt ∧ x.toInt < 5) ∧ (v.toInt = -1 ∨ (0 ≤ v.toInt ∧ v.toInt ≤ 999)) then 1 else -1))) (x_putM σ p x v) := by
  refine g_Met.of (by decide) (Nat.le_of_ble_eq_true rfl) ?_
  intro pg e s m below meth c hx hb hr hlk hml hown hts hK hN H locs hG hS ls hl
  have hown : s.vm.findClass RX6 = some m.cls := hown
  have hl : lv_has ls 4 [(0, .ref (L (0, 0, 0))), (1, .int (p)), (2, .int (x)), (3, .int (v))] := hl
  obtain ⟨⟨h0, hn⟩, ⟨q0, q40⟩, ⟨hs, h8⟩, hkA, hz4, hzA, hcA, hpA, htA⟩ := hI
  refine lv_aload_n hx hb dX6_term_0 rfl (lv_at hl 0 rfl) ?_
  refine g_get (C := RX6) (T := TX6) (N := 4) (v := .ref (L (1, 0, 0))) hx hb hts inX6g hown hK hG (0, 0, 0) ⟨rfl, rfl⟩ (x_at_0 cy L ns kk (0) (0) (σ (0, 0, 0))) rfl 0 (by decide) fl_X6_10 rfl dX6_term_1 ?_
  refine lv_iload_n hx hb dX6_term_4 rfl (lv_at hl 1 rfl) ?_
  refine lv_iload_n hx hb dX6_term_5 rfl (lv_at hl 2 rfl) ?_
  refine lv_iload_n hx hb dX6_term_6 rfl (lv_at hl 3 rfl) ?_
  refine g_cont (va_runV (As := [.int (p), .int (x), .int (v)]) (rest := []) ⟨hx, hb, hml, hown, hts⟩ (c_X2_putTerm l D cy L ns kk σ (p) (x) (v) h0 hn) (cwV 3 hts gV_X6_37 rfl rfl rfl (by decide +kernel) ⟨Nat.le_of_ble_eq_true rfl, Nat.le_of_ble_eq_true rfl⟩) (g_preV hK hN hG (x := (1, 0, 0)) ⟨rfl, rfl⟩ (q := (RX2, TX2, 3)) (x_at_1 cy L ns kk (0) (0) (σ (1, 0, 0))) rfl) rfl rfl hl.1 rfl (lv_room (Nat.le_of_ble_eq_true rfl)) dX6_term_7 ⟨Nat.zero_le _, Nat.zero_le _⟩) hS (fun H locs hG hS => ?_)
  refine W.eq (g2 := F0 m 10 ls [.int (g_b ((0 ≤ (p).toInt ∧ (p).toInt < (σ (1, 0, 0) 2).toInt) ∧ (0 ≤ (x).toInt ∧ (x).toInt < 5) ∧ ((v).toInt = -1 ∨ (0 ≤ (v).toInt ∧ (v).toInt ≤ 999))))]) rfl ?_
  refine kz_b_eq (tgt := 17) hx hb dX6_term_10 (by decide) (fun c_10_1 => ?_) (fun c_10_1 => ?_)
  · refine lv_iconst (v := (-1)) hx hb dX6_term_17 (by decide) ?_
    exact s_iret hx hb hr hlk hG hS dX6_term_18 (by rw [if_neg (by omega)]) rfl
  · refine lv_iconst (v := 1) hx hb dX6_term_13 (by decide) ?_
    refine lv_goto (tgt := 18) hx hb dX6_term_14 (by decide) ?_
    exact s_iret hx hb hr hlk hG hS dX6_term_18 (by rw [if_pos (by omega)]) rfl
set_option maxHeartbeats 4000000 in
set_option maxRecDepth 100000 in
theorem c_X6_question (l : Launch) (D : va_G) (cy : Nat → ClassId) (L : g_S → Nat) (ns : Nat) (kk : Nat → Nat) (σ : g_S → Nat → Int32) (k a b d : Int32) (hI : x_I ns kk σ) : x_Met l D cy L ns kk yX6_question (.code yX6_question cX6_question 5 (some .int)) 2 σ [.ref (L (0, 0, 0)), .int (k), .int (a), .int (b), .int (d)] (some (.int (x_qsR σ k a b d))) (x_qsM σ k a b d) := by
  refine g_Met.of (by decide) (Nat.le_of_ble_eq_true rfl) ?_
  intro pg e s m below meth c hx hb hr hlk hml hown hts hK hN H locs hG hS ls hl
  have hown : s.vm.findClass RX6 = some m.cls := hown
  have hl : lv_has ls 5 [(0, .ref (L (0, 0, 0))), (1, .int (k)), (2, .int (a)), (3, .int (b)), (4, .int (d))] := hl
  obtain ⟨⟨h0, hn⟩, ⟨q0, q40⟩, ⟨hs, h8⟩, hkA, hz4, hzA, hcA, hpA, htA⟩ := hI
  refine lv_iload_n hx hb dX6_question_0 rfl (lv_at hl 1 rfl) ?_
  refine kz_if_ne (X := (k).toInt) hx hb rfl dX6_question_1 (tgt := 15) (by decide) (fun c_1_1 => ?_) (fun c_1_1 => ?_)
  · refine lv_iload_n hx hb dX6_question_15 rfl (lv_at hl 1 rfl) ?_
    refine lv_iconst (v := 1) hx hb dX6_question_16 (by decide) ?_
    refine kz_icmp_ne (X := (k).toInt) (Y := 1) hx hb rfl (by decide) dX6_question_17 (tgt := 32) (by decide) (fun c_17_2 => ?_) (fun c_17_2 => ?_)
    · refine lv_aload_n hx hb dX6_question_32 rfl (lv_at hl 0 rfl) ?_
      refine g_get (C := RX6) (T := TX6) (N := 4) (v := .ref (L (2, 0, 0))) hx hb hts inX6g hown hK hG (0, 0, 0) ⟨rfl, rfl⟩ (x_at_0 cy L ns kk (0) (0) (σ (0, 0, 0))) rfl 1 (by decide) fl_X6_19 rfl dX6_question_33 ?_
      refine lv_iload_n hx hb dX6_question_36 rfl (lv_at hl 1 rfl) ?_
      refine lv_iload_n hx hb dX6_question_37 rfl (lv_at hl 2 rfl) ?_
      refine lv_iload_n hx hb dX6_question_38 rfl (lv_at hl 3 rfl) ?_
      refine g_cont (va_runV (As := [.int (k), .int (a), .int (b)]) (rest := []) ⟨hx, hb, hml, hown, hts⟩ (c_X1_addPair l D cy L ns kk σ (k) (a) (b) q0) (cwV 3 hts gV_X6_45 rfl rfl rfl (by decide +kernel) ⟨Nat.le_of_ble_eq_true rfl, Nat.le_of_ble_eq_true rfl⟩) (g_preV hK hN hG (x := (2, 0, 0)) ⟨rfl, rfl⟩ (q := (RX1, TX1, 5)) (x_at_2 cy L ns kk (0) (0) (σ (2, 0, 0))) rfl) rfl rfl hl.1 rfl (lv_room (Nat.le_of_ble_eq_true rfl)) dX6_question_39 ⟨Nat.zero_le _, Nat.zero_le _⟩) hS (fun H locs hG hS => ?_)
      refine W.eq (g2 := F0 m 42 ls [.int (x_pairR σ (k) (a) (b))]) rfl ?_
      exact s_iret hx hb hr hlk hG hS dX6_question_42 (by unfold x_qsR; (repeat' split) <;> first | rfl | (exfalso; omega)) (by unfold x_qsM; (repeat' split) <;> first | rfl | (exfalso; omega))
    · refine lv_aload_n hx hb dX6_question_20 rfl (lv_at hl 0 rfl) ?_
      refine g_get (C := RX6) (T := TX6) (N := 4) (v := .ref (L (2, 0, 0))) hx hb hts inX6g hown hK hG (0, 0, 0) ⟨rfl, rfl⟩ (x_at_0 cy L ns kk (0) (0) (σ (0, 0, 0))) rfl 1 (by decide) fl_X6_19 rfl dX6_question_21 ?_
      refine lv_iload_n hx hb dX6_question_24 rfl (lv_at hl 2 rfl) ?_
      refine lv_iload_n hx hb dX6_question_25 rfl (lv_at hl 3 rfl) ?_
      refine lv_iload hx hb dX6_question_26 (lv_at hl 4 rfl) ?_
      refine g_cont (va_runV (As := [.int (a), .int (b), .int (d)]) (rest := []) ⟨hx, hb, hml, hown, hts⟩ (c_X1_addRange l D cy L ns kk σ (a) (b) (d) q0) (cwV 3 hts gV_X6_41 rfl rfl rfl (by decide +kernel) ⟨Nat.le_of_ble_eq_true rfl, Nat.le_of_ble_eq_true rfl⟩) (g_preV hK hN hG (x := (2, 0, 0)) ⟨rfl, rfl⟩ (q := (RX1, TX1, 5)) (x_at_2 cy L ns kk (0) (0) (σ (2, 0, 0))) rfl) rfl rfl hl.1 rfl (lv_room (Nat.le_of_ble_eq_true rfl)) dX6_question_28 ⟨Nat.zero_le _, Nat.zero_le _⟩) hS (fun H locs hG hS => ?_)
      refine W.eq (g2 := F0 m 31 ls [.int (x_rngR σ (a) (b) (d))]) rfl ?_
      exact s_iret hx hb hr hlk hG hS dX6_question_31 (by unfold x_qsR; (repeat' split) <;> first | rfl | (exfalso; omega)) (by unfold x_qsM; (repeat' split) <;> first | rfl | (exfalso; omega))
  · refine lv_aload_n hx hb dX6_question_4 rfl (lv_at hl 0 rfl) ?_
    refine g_get (C := RX6) (T := TX6) (N := 4) (v := .ref (L (2, 0, 0))) hx hb hts inX6g hown hK hG (0, 0, 0) ⟨rfl, rfl⟩ (x_at_0 cy L ns kk (0) (0) (σ (0, 0, 0))) rfl 1 (by decide) fl_X6_19 rfl dX6_question_5 ?_
    refine lv_iload_n hx hb dX6_question_8 rfl (lv_at hl 2 rfl) ?_
    refine lv_iload_n hx hb dX6_question_9 rfl (lv_at hl 3 rfl) ?_
    refine lv_iload_n hx hb dX6_question_10 rfl (lv_at hl 3 rfl) ?_
    refine g_cont (va_runV (As := [.int (a), .int (b), .int (b)]) (rest := []) ⟨hx, hb, hml, hown, hts⟩ (c_X1_addRange l D cy L ns kk σ (a) (b) (b) q0) (cwV 3 hts gV_X6_41 rfl rfl rfl (by decide +kernel) ⟨Nat.le_of_ble_eq_true rfl, Nat.le_of_ble_eq_true rfl⟩) (g_preV hK hN hG (x := (2, 0, 0)) ⟨rfl, rfl⟩ (q := (RX1, TX1, 5)) (x_at_2 cy L ns kk (0) (0) (σ (2, 0, 0))) rfl) rfl rfl hl.1 rfl (lv_room (Nat.le_of_ble_eq_true rfl)) dX6_question_11 ⟨Nat.zero_le _, Nat.zero_le _⟩) hS (fun H locs hG hS => ?_)
    refine W.eq (g2 := F0 m 14 ls [.int (x_rngR σ (a) (b) (b))]) rfl ?_
    exact s_iret hx hb hr hlk hG hS dX6_question_14 (by unfold x_qsR; (repeat' split) <;> first | rfl | (exfalso; omega)) (by unfold x_qsM; (repeat' split) <;> first | rfl | (exfalso; omega))
set_option maxHeartbeats 4000000 in
set_option maxRecDepth 100000 in
theorem lp_srch (l : Launch) (D : va_G) (cy : Nat → ClassId) (L : g_S → Nat) (ns : Nat) (kk : Nat → Nat) {pg : Program} {e : Env} {s : State} {m : MethodId} {args : Array Value} {below : List Frame} {meth : Method} {c : Code} {Q : State → Prop} (C0 : g_C pg s m meth c args cX6_search (some .int) 7 RX6 D (x_tys cy)) (i j : Nat) (hi : i < ns) (hj : j < kk i) (N : Nat) (hN9 : N ≤ 100) (q : Int32) :
    ∀ (n : Nat) (σ : g_S → Nat → Int32) (r : Nat) (H : Heap) (locs : List Loc) (ls : Array Slot), r + n = N → (x_srI N i j σ) → g_H D vwCl (x_dom ns kk) L (fun z => x_K cy L ns kk z (σ z)) H → va_S (g_A (x_dom ns kk) L) s.heap H locs → lv_has ls 7 [(6, .int (nI r)), (0, .ref (L (0, 0, 0))), (2, .int (q)), (4, .ref (L (11, i, 0))), (5, .ref (L (18, i, j)))] →
    (∀ (H : Heap) (locs : List Loc) (ls : Array Slot), g_H D vwCl (x_dom ns kk) L (fun z => x_K cy L ns kk z ((x_srchGo i j q n r σ) z)) H → va_S (g_A (x_dom ns kk) L) s.heap H locs → lv_has ls 7 [(4, .ref (L (11, i, 0))), (5, .ref (L (18, i, j)))] → W pg l e (g_R 5) s m args below meth c H locs 0 0 Q (F0 m 105 ls [])) →
    W pg l e (g_R 5) s m args below meth c H locs 0 0 Q (F0 m 63 ls []) := by
  obtain ⟨hx, hb, hr, hlk, hml, hown, hts, hK, hN⟩ := C0
  intro n
  induction n with
  | zero =>
    intro σ r H locs ls hv9 hy hG hS hl kk9
    obtain ⟨hc, q40, hr0⟩ := id hy
    have hz9 := g_nIT (show r < 2147483648 by omega)
    refine lv_iload hx hb dX6_search_63 (lv_at hl 0 rfl) ?_
    refine lv_aload_n hx hb dX6_search_65 rfl (lv_at hl 1 rfl) ?_
    refine g_get (C := RX6) (T := TX6) (N := 4) (v := .ref (L (1, 0, 0))) hx hb hts inX6g hown hK hG (0, 0, 0) ⟨rfl, rfl⟩ (x_at_0 cy L ns kk (0) (0) (σ (0, 0, 0))) rfl 0 (by decide) fl_X6_10 rfl dX6_search_66 ?_
    refine g_cont (va_runV (As := []) (rest := [.int (nI r)]) ⟨hx, hb, hml, hown, hts⟩ (c_X2_count l D cy L ns kk σ ) (cwV 0 hts gV_X6_71 rfl rfl rfl (by decide +kernel) ⟨Nat.le_of_ble_eq_true rfl, Nat.le_of_ble_eq_true rfl⟩) (g_preV hK hN hG (x := (1, 0, 0)) ⟨rfl, rfl⟩ (q := (RX2, TX2, 3)) (x_at_1 cy L ns kk (0) (0) (σ (1, 0, 0))) rfl) rfl rfl hl.1 rfl (lv_room (Nat.le_of_ble_eq_true rfl)) dX6_search_69 ⟨Nat.zero_le _, Nat.zero_le _⟩) hS (fun H locs hG hS => ?_)
    refine W.eq (g2 := F0 m 72 ls [.int (σ (1, 0, 0) 2), .int (nI r)]) rfl ?_
    refine kz_icmp_ge (X := ((r : Nat) : Int)) (Y := (σ (1, 0, 0) 2).toInt) hx hb (g_nIT (by omega)) rfl dX6_search_72 (tgt := 105) (by decide) (fun c_72_1 => ?_) (fun c_72_1 => ?_)
    · exact kk9 H locs ls hG hS (lv_sub hl [3, 4] rfl)
    · exact absurd c_72_1 (by omega)
  | succ n ih =>
    intro σ r H locs ls hv9 hy hG hS hl kk9
    obtain ⟨hc, q40, hr0⟩ := id hy
    have hz9 := g_nIT (show r < 2147483648 by omega)
    refine lv_iload hx hb dX6_search_63 (lv_at hl 0 rfl) ?_
    refine lv_aload_n hx hb dX6_search_65 rfl (lv_at hl 1 rfl) ?_
    refine g_get (C := RX6) (T := TX6) (N := 4) (v := .ref (L (1, 0, 0))) hx hb hts inX6g hown hK hG (0, 0, 0) ⟨rfl, rfl⟩ (x_at_0 cy L ns kk (0) (0) (σ (0, 0, 0))) rfl 0 (by decide) fl_X6_10 rfl dX6_search_66 ?_
    refine g_cont (va_runV (As := []) (rest := [.int (nI r)]) ⟨hx, hb, hml, hown, hts⟩ (c_X2_count l D cy L ns kk σ ) (cwV 0 hts gV_X6_71 rfl rfl rfl (by decide +kernel) ⟨Nat.le_of_ble_eq_true rfl, Nat.le_of_ble_eq_true rfl⟩) (g_preV hK hN hG (x := (1, 0, 0)) ⟨rfl, rfl⟩ (q := (RX2, TX2, 3)) (x_at_1 cy L ns kk (0) (0) (σ (1, 0, 0))) rfl) rfl rfl hl.1 rfl (lv_room (Nat.le_of_ble_eq_true rfl)) dX6_search_69 ⟨Nat.zero_le _, Nat.zero_le _⟩) hS (fun H locs hG hS => ?_)
    refine W.eq (g2 := F0 m 72 ls [.int (σ (1, 0, 0) 2), .int (nI r)]) rfl ?_
    refine kz_icmp_ge (X := ((r : Nat) : Int)) (Y := (σ (1, 0, 0) 2).toInt) hx hb (g_nIT (by omega)) rfl dX6_search_72 (tgt := 105) (by decide) (fun c_72_1 => ?_) (fun c_72_1 => ?_)
    · exact absurd c_72_1 (by omega)
    · refine lv_aload_n hx hb dX6_search_75 rfl (lv_at hl 1 rfl) ?_
      refine g_get (C := RX6) (T := TX6) (N := 4) (v := .ref (L (2, 0, 0))) hx hb hts inX6g hown hK hG (0, 0, 0) ⟨rfl, rfl⟩ (x_at_0 cy L ns kk (0) (0) (σ (0, 0, 0))) rfl 1 (by decide) fl_X6_19 rfl dX6_search_76 ?_
      refine lv_iload_n hx hb dX6_search_79 rfl (lv_at hl 2 rfl) ?_
      refine lv_aload_n hx hb dX6_search_80 rfl (lv_at hl 1 rfl) ?_
      refine g_get (C := RX6) (T := TX6) (N := 4) (v := .ref (L (1, 0, 0))) hx hb hts inX6g hown hK hG (0, 0, 0) ⟨rfl, rfl⟩ (x_at_0 cy L ns kk (0) (0) (σ (0, 0, 0))) rfl 0 (by decide) fl_X6_10 rfl dX6_search_81 ?_
      refine lv_iload hx hb dX6_search_84 (lv_at hl 0 rfl) ?_
      refine g_cont (va_runV (As := [.int (q), .ref (L (1, 0, 0)), .int (nI r)]) (rest := []) ⟨hx, hb, hml, hown, hts⟩ (c_X1_finds l D cy L ns kk σ (q) (nI r) (by omega) q40) (cwV 3 hts gV_X6_75 rfl rfl rfl (by decide +kernel) ⟨Nat.le_of_ble_eq_true rfl, Nat.le_of_ble_eq_true rfl⟩) (g_preV hK hN hG (x := (2, 0, 0)) ⟨rfl, rfl⟩ (q := (RX1, TX1, 5)) (x_at_2 cy L ns kk (0) (0) (σ (2, 0, 0))) rfl) rfl rfl hl.1 rfl (lv_room (Nat.le_of_ble_eq_true rfl)) dX6_search_86 ⟨Nat.zero_le _, Nat.zero_le _⟩) hS (fun H locs hG hS => ?_)
      refine W.eq (g2 := F0 m 89 ls [.int (g_b (x_findsP σ (q) (nI r)))]) rfl ?_
      refine kz_b_eq (tgt := 99) hx hb dX6_search_89 (by decide) (fun c_89_2 => ?_) (fun c_89_2 => ?_)
      · refine lv_iinc (v := nI (r + 1)) (lv' := [(6, .int (nI (r + 1))), (0, .ref (L (0, 0, 0))), (2, .int (q)), (4, .ref (L (11, i, 0))), (5, .ref (L (18, i, j)))]) hx hb dX6_search_99 hl (k := 0) rfl (nI_1 (r)) (by decide) rfl (fun ls hl => ?_)
        refine lv_goto (tgt := 63) hx hb dX6_search_102 (by decide) ?_
        have e90 : x_srchGo i j q (n + 1) r σ = x_srchGo i j q n (r + 1) σ := (by rw [x_srchGo_s]; first | (rw [if_pos (by assumption)]) | (rw [if_neg (by assumption)]))
        rw [e90] at kk9
        exact ih σ (r + 1) H locs ls (by omega) (by first | exact hy | exact x_srI_add hy) hG hS (lv_sub hl [0, 1, 2, 3, 4] rfl) kk9
      · refine lv_aload hx hb dX6_search_92 (lv_at hl 4 rfl) ?_
        refine lv_iload hx hb dX6_search_94 (lv_at hl 0 rfl) ?_
        refine g_cont (va_runV (As := [.int (nI r)]) (rest := []) ⟨hx, hb, hml, hown, hts⟩ (c_X3_add l D cy L ns kk σ (i) (j) hi hj (nI r) hr0) (cwV 1 hts gV_X6_79 rfl rfl rfl (by decide +kernel) ⟨Nat.le_of_ble_eq_true rfl, Nat.le_of_ble_eq_true rfl⟩) (g_preV hK hN hG (x := (18, i, j)) ⟨hi, hj⟩ (q := (RX3, TX3, 3)) (x_at_18 cy L ns kk (i) (j) (σ (18, i, j))) rfl) rfl rfl hl.1 rfl (lv_room (Nat.le_of_ble_eq_true rfl)) dX6_search_96 ⟨Nat.zero_le _, Nat.zero_le _⟩) hS (fun H locs hG hS => ?_)
        refine W.eq (g2 := F0 m 99 ls []) rfl ?_
        refine lv_iinc (v := nI (r + 1)) (lv' := [(6, .int (nI (r + 1))), (0, .ref (L (0, 0, 0))), (2, .int (q)), (4, .ref (L (11, i, 0))), (5, .ref (L (18, i, j)))]) hx hb dX6_search_99 hl (k := 0) rfl (nI_1 (r)) (by decide) rfl (fun ls hl => ?_)
        refine lv_goto (tgt := 63) hx hb dX6_search_102 (by decide) ?_
        have e90 : x_srchGo i j q (n + 1) r σ = x_srchGo i j q n (r + 1) (x_rsAdd σ (i) (j) (nI r)) := (by rw [x_srchGo_s]; first | (rw [if_pos (by assumption)]) | (rw [if_neg (by assumption)]))
        rw [e90] at kk9
        exact ih (x_rsAdd σ (i) (j) (nI r)) (r + 1) H locs ls (by omega) (by first | exact hy | exact x_srI_add hy) hG hS (lv_sub hl [0, 1, 2, 3, 4] rfl) kk9
set_option maxHeartbeats 4000000 in
set_option maxRecDepth 100000 in
theorem c_X6_search (l : Launch) (D : va_G) (cy : Nat → ClassId) (L : g_S → Nat) (ns : Nat) (kk : Nat → Nat) (σ : g_S → Nat → Int32) (u q v : Int32) (hI : x_I ns kk σ) : x_Met l D cy L ns kk yX6_search (.code yX6_search cX6_search 7 (some .int)) 5 σ [.ref (L (0, 0, 0)), .int (u), .int (q), .int (v)] (some (.int (x_searchR σ ns kk u q v))) (x_searchM σ ns kk u q v) := by
  refine g_Met.of (by decide) (Nat.le_of_ble_eq_true rfl) ?_
  intro pg e s m below meth c hx hb hr hlk hml hown hts hK hN H locs hG hS ls hl
  have hown : s.vm.findClass RX6 = some m.cls := hown
  have hl : lv_has ls 7 [(0, .ref (L (0, 0, 0))), (1, .int (u)), (2, .int (q)), (3, .int (v))] := hl
  obtain ⟨⟨h0, hn⟩, ⟨q0, q40⟩, ⟨hs, h8⟩, hkA, hz4, hzA, hcA, hpA, htA⟩ := hI
  refine lv_aload_n hx hb dX6_search_0 rfl (lv_at hl 0 rfl) ?_
  refine lv_iload_n hx hb dX6_search_1 rfl (lv_at hl 1 rfl) ?_
  refine g_cont (va_runV (As := [.int (u)]) (rest := []) ⟨hx, hb, hml, hown, hts⟩ (c_X6_openSession l D cy L ns kk σ (u) hs h8 hz4) (cwV 1 hts gV_X6_51 rfl rfl rfl (by decide +kernel) ⟨Nat.le_of_ble_eq_true rfl, Nat.le_of_ble_eq_true rfl⟩) (g_preV hK hN hG (x := (0, 0, 0)) ⟨rfl, rfl⟩ (q := (RX6, TX6, 4)) (x_at_0 cy L ns kk (0) (0) (σ (0, 0, 0))) rfl) rfl rfl hl.1 rfl (lv_room (Nat.le_of_ble_eq_true rfl)) dX6_search_2 ⟨Nat.zero_le _, Nat.zero_le _⟩) hS (fun H locs hG hS => ?_)
  refine W.eq (g2 := F0 m 5 ls [(if (0 ≤ (u).toInt ∧ (u).toInt < (ns : Int)) ∧ ¬ (σ (11, (u).toNatClampNeg, 0) 4).toInt = 0 then .ref (L (11, (u).toNatClampNeg, 0)) else .null)]) rfl ?_
  by_cases c_2_1 : (0 ≤ (u).toInt ∧ (u).toInt < (ns : Int)) ∧ ¬ (σ (11, (u).toNatClampNeg, 0) 4).toInt = 0
  · rw [if_pos c_2_1]
    refine lv_astore (lv' := [(4, .ref (L (11, (u).toNatClampNeg, 0))), (0, .ref (L (0, 0, 0))), (1, .int (u)), (2, .int (q)), (3, .int (v))]) hx hb dX6_search_5 hl (by decide) rfl (fun ls hl => ?_)
    refine lv_aload hx hb dX6_search_7 (lv_at hl 0 rfl) ?_
    refine lv_ifnonnull (tgt := 15) hx hb dX6_search_9 (by decide) ?_
    refine lv_aload_n hx hb dX6_search_15 rfl (lv_at hl 1 rfl) ?_
    refine g_get (C := RX6) (T := TX6) (N := 4) (v := .ref (L (2, 0, 0))) hx hb hts inX6g hown hK hG (0, 0, 0) ⟨rfl, rfl⟩ (x_at_0 cy L ns kk (0) (0) (σ (0, 0, 0))) rfl 1 (by decide) fl_X6_19 rfl dX6_search_16 ?_
    refine lv_iload_n hx hb dX6_search_19 rfl (lv_at hl 3 rfl) ?_
    refine g_cont (va_runV (As := [.int (q)]) (rest := []) ⟨hx, hb, hml, hown, hts⟩ (c_X1_has l D cy L ns kk σ (q)) (cwV 1 hts gV_X6_55 rfl rfl rfl (by decide +kernel) ⟨Nat.le_of_ble_eq_true rfl, Nat.le_of_ble_eq_true rfl⟩) (g_preV hK hN hG (x := (2, 0, 0)) ⟨rfl, rfl⟩ (q := (RX1, TX1, 5)) (x_at_2 cy L ns kk (0) (0) (σ (2, 0, 0))) rfl) rfl rfl hl.1 rfl (lv_room (Nat.le_of_ble_eq_true rfl)) dX6_search_20 ⟨Nat.zero_le _, Nat.zero_le _⟩) hS (fun H locs hG hS => ?_)
    refine W.eq (g2 := F0 m 23 ls [.int (g_b (0 ≤ (q).toInt ∧ (q).toInt < (σ (2, 0, 0) 4).toInt))]) rfl ?_
    refine kz_b_ne (tgt := 34) hx hb dX6_search_23 (by decide) (fun c_23_2 => ?_) (fun c_23_2 => ?_)
    · refine lv_aload hx hb dX6_search_34 (lv_at hl 0 rfl) ?_
      refine lv_iload_n hx hb dX6_search_36 rfl (lv_at hl 4 rfl) ?_
      refine g_cont (va_runV (As := [.int (v)]) (rest := []) ⟨hx, hb, hml, hown, hts⟩ (c_X5_setOfName l D cy L ns kk σ ((u).toNatClampNeg) (by rw [g_cl]; omega) (v) (hkA _ (by rw [g_cl]; omega))) (cwV 1 hts gV_X6_62 rfl rfl rfl (by decide +kernel) ⟨Nat.le_of_ble_eq_true rfl, Nat.le_of_ble_eq_true rfl⟩) (g_preV hK hN hG (x := (11, (u).toNatClampNeg, 0)) ⟨(by rw [g_cl]; omega), rfl⟩ (q := (RX5, TX5, 7)) (x_at_11 cy L ns kk ((u).toNatClampNeg) (0) (σ (11, (u).toNatClampNeg, 0))) rfl) rfl rfl hl.1 rfl (lv_room (Nat.le_of_ble_eq_true rfl)) dX6_search_37 ⟨Nat.zero_le _, Nat.zero_le _⟩) hS (fun H locs hG hS => ?_)
      refine W.eq (g2 := F0 m 40 ls [(if 0 ≤ (v).toInt ∧ (v).toInt < ((kk (u).toNatClampNeg : Nat) : Int) then .ref (L (18, (u).toNatClampNeg, (v).toNatClampNeg)) else .null)]) rfl ?_
      by_cases c_37_3 : 0 ≤ (v).toInt ∧ (v).toInt < ((kk (u).toNatClampNeg : Nat) : Int)
      · rw [if_pos c_37_3]
        refine lv_astore (lv' := [(5, .ref (L (18, (u).toNatClampNeg, (v).toNatClampNeg))), (4, .ref (L (11, (u).toNatClampNeg, 0))), (0, .ref (L (0, 0, 0))), (1, .int (u)), (2, .int (q)), (3, .int (v))]) hx hb dX6_search_40 hl (by decide) rfl (fun ls hl => ?_)
        refine lv_aload hx hb dX6_search_42 (lv_at hl 0 rfl) ?_
        refine lv_ifnonnull (tgt := 55) hx hb dX6_search_44 (by decide) ?_
        refine lv_aload hx hb dX6_search_55 (lv_at hl 0 rfl) ?_
        refine g_cont (va_runV (As := []) (rest := []) ⟨hx, hb, hml, hown, hts⟩ (c_X3_make l D cy L ns kk σ ((u).toNatClampNeg) ((v).toNatClampNeg) (by rw [g_cl]; omega) (by rw [g_cl]; omega)) (cwV 0 hts gV_X6_66 rfl rfl rfl (by decide +kernel) ⟨Nat.le_of_ble_eq_true rfl, Nat.le_of_ble_eq_true rfl⟩) (g_preV hK hN hG (x := (18, (u).toNatClampNeg, (v).toNatClampNeg)) ⟨(by rw [g_cl]; omega), (by rw [g_cl]; omega)⟩ (q := (RX3, TX3, 3)) (x_at_18 cy L ns kk ((u).toNatClampNeg) ((v).toNatClampNeg) (σ (18, (u).toNatClampNeg, (v).toNatClampNeg))) rfl) rfl rfl hl.1 rfl (lv_room (Nat.le_of_ble_eq_true rfl)) dX6_search_57 ⟨Nat.zero_le _, Nat.zero_le _⟩) hS (fun H locs hG hS => ?_)
        refine W.eq (g2 := F0 m 60 ls []) rfl ?_
        refine lv_iconst (v := 0) hx hb dX6_search_60 (by decide) ?_
        refine lv_istore (lv' := [(6, .int 0), (5, .ref (L (18, (u).toNatClampNeg, (v).toNatClampNeg))), (4, .ref (L (11, (u).toNatClampNeg, 0))), (0, .ref (L (0, 0, 0))), (1, .int (u)), (2, .int (q)), (3, .int (v))]) hx hb dX6_search_61 hl (by decide) rfl (fun ls hl => ?_)
        refine lp_srch l D cy L ns kk ⟨hx, hb, hr, hlk, hml, hown, hts, hK, hN⟩ ((u).toNatClampNeg) ((v).toNatClampNeg) (by rw [g_cl]; omega) (by rw [g_cl]; omega) (σ (1, 0, 0) 2).toInt.toNat (by omega) q (σ (1, 0, 0) 2).toInt.toNat (x_make σ ((u).toNatClampNeg) ((v).toNatClampNeg)) 0 H locs ls (by omega) ⟨by rw [show (x_make σ ((u).toNatClampNeg) ((v).toNatClampNeg)) (1, 0, 0) 2 = σ (1, 0, 0) 2 from by simp [x_make, g_up_at]]; omega, by simpa [x_make, g_up_at] using q40, by unfold x_make; rw [g_up_same]; decide⟩ hG hS (lv_sub hl [0, 3, 5, 2, 1] rfl) (fun H locs ls hG hS hl => ?_)
        refine lv_aload hx hb dX6_search_105 (lv_at hl 1 rfl) ?_
        refine g_cont (va_runV (As := []) (rest := []) ⟨hx, hb, hml, hown, hts⟩ (c_X3_count l D cy L ns kk (x_srch σ ((u).toNatClampNeg) ((v).toNatClampNeg) q) ((u).toNatClampNeg) ((v).toNatClampNeg) (by rw [g_cl]; omega) (by rw [g_cl]; omega)) (cwV 0 hts gV_X6_82 rfl rfl rfl (by decide +kernel) ⟨Nat.le_of_ble_eq_true rfl, Nat.le_of_ble_eq_true rfl⟩) (g_preV hK hN hG (x := (18, (u).toNatClampNeg, (v).toNatClampNeg)) ⟨(by rw [g_cl]; omega), (by rw [g_cl]; omega)⟩ (q := (RX3, TX3, 3)) (x_at_18 cy L ns kk ((u).toNatClampNeg) ((v).toNatClampNeg) ((x_srch σ ((u).toNatClampNeg) ((v).toNatClampNeg) q) (18, (u).toNatClampNeg, (v).toNatClampNeg))) rfl) rfl rfl hl.1 rfl (lv_room (Nat.le_of_ble_eq_true rfl)) dX6_search_107 ⟨Nat.zero_le _, Nat.zero_le _⟩) hS (fun H locs hG hS => ?_)
        refine W.eq (g2 := F0 m 110 ls [.int ((x_srch σ ((u).toNatClampNeg) ((v).toNatClampNeg) q) (18, (u).toNatClampNeg, (v).toNatClampNeg) 1)]) rfl ?_
        refine kz_if_ne (X := ((x_srch σ ((u).toNatClampNeg) ((v).toNatClampNeg) q) (18, (u).toNatClampNeg, (v).toNatClampNeg) 1).toInt) hx hb rfl dX6_search_110 (tgt := 123) (by decide) (fun c_110_4 => ?_) (fun c_110_4 => ?_)
        · refine lv_aload hx hb dX6_search_123 (lv_at hl 1 rfl) ?_
          refine g_cont (va_runV (As := []) (rest := []) ⟨hx, hb, hml, hown, hts⟩ (c_X3_count l D cy L ns kk (x_srch σ ((u).toNatClampNeg) ((v).toNatClampNeg) q) ((u).toNatClampNeg) ((v).toNatClampNeg) (by rw [g_cl]; omega) (by rw [g_cl]; omega)) (cwV 0 hts gV_X6_82 rfl rfl rfl (by decide +kernel) ⟨Nat.le_of_ble_eq_true rfl, Nat.le_of_ble_eq_true rfl⟩) (g_preV hK hN hG (x := (18, (u).toNatClampNeg, (v).toNatClampNeg)) ⟨(by rw [g_cl]; omega), (by rw [g_cl]; omega)⟩ (q := (RX3, TX3, 3)) (x_at_18 cy L ns kk ((u).toNatClampNeg) ((v).toNatClampNeg) ((x_srch σ ((u).toNatClampNeg) ((v).toNatClampNeg) q) (18, (u).toNatClampNeg, (v).toNatClampNeg))) rfl) rfl rfl hl.1 rfl (lv_room (Nat.le_of_ble_eq_true rfl)) dX6_search_125 ⟨Nat.zero_le _, Nat.zero_le _⟩) hS (fun H locs hG hS => ?_)
          refine W.eq (g2 := F0 m 128 ls [.int ((x_srch σ ((u).toNatClampNeg) ((v).toNatClampNeg) q) (18, (u).toNatClampNeg, (v).toNatClampNeg) 1)]) rfl ?_
          exact s_iret hx hb hr hlk hG hS dX6_search_128 (by unfold x_searchR; (repeat' split) <;> first | rfl | (exfalso; omega)) (by unfold x_searchM; (repeat' split) <;> first | rfl | (exfalso; omega))
        · refine lv_aload hx hb dX6_search_113 (lv_at hl 0 rfl) ?_
          refine lv_bipush (v := 108) hx hb dX6_search_115 (by decide) ?_
          refine g_cont (va_runV (As := [.int 108]) (rest := []) ⟨hx, hb, hml, hown, hts⟩ (c_X5_diagnose l D cy L ns kk (x_srch σ ((u).toNatClampNeg) ((v).toNatClampNeg) q) ((u).toNatClampNeg) (by rw [g_cl]; omega) (108) (hkA _ (by rw [g_cl]; omega))) (cwV 1 hts gV_X6_59 rfl rfl rfl (by decide +kernel) ⟨Nat.le_of_ble_eq_true rfl, Nat.le_of_ble_eq_true rfl⟩) (g_preV hK hN hG (x := (11, (u).toNatClampNeg, 0)) ⟨(by rw [g_cl]; omega), rfl⟩ (q := (RX5, TX5, 7)) (x_at_11 cy L ns kk ((u).toNatClampNeg) (0) ((x_srch σ ((u).toNatClampNeg) ((v).toNatClampNeg) q) (11, (u).toNatClampNeg, 0))) rfl) rfl rfl hl.1 rfl (lv_room (Nat.le_of_ble_eq_true rfl)) dX6_search_117 ⟨Nat.zero_le _, Nat.zero_le _⟩) hS (fun H locs hG hS => ?_)
          refine W.eq (g2 := F0 m 120 ls [.int (-(108))]) rfl ?_
          refine lv_goto (tgt := 128) hx hb dX6_search_120 (by decide) ?_
          exact s_iret hx hb hr hlk hG hS dX6_search_128 (by unfold x_searchR; (repeat' split) <;> first | rfl | (exfalso; omega)) (by unfold x_searchM; (repeat' split) <;> first | rfl | (exfalso; omega))
      · rw [if_neg c_37_3]
        refine lv_astoreN (lv' := [(5, .null), (4, .ref (L (11, (u).toNatClampNeg, 0))), (0, .ref (L (0, 0, 0))), (1, .int (u)), (2, .int (q)), (3, .int (v))]) hx hb dX6_search_40 hl (by decide) rfl (fun ls hl => ?_)
        refine lv_aloadN hx hb dX6_search_42 (lv_at hl 0 rfl) ?_
        refine lv_ifnonnullN hx hb dX6_search_44 ?_
        refine lv_aload hx hb dX6_search_47 (lv_at hl 1 rfl) ?_
        refine lv_bipush (v := 104) hx hb dX6_search_49 (by decide) ?_
        refine g_cont (va_runV (As := [.int 104]) (rest := []) ⟨hx, hb, hml, hown, hts⟩ (c_X5_diagnose l D cy L ns kk σ ((u).toNatClampNeg) (by rw [g_cl]; omega) (104) (hkA _ (by rw [g_cl]; omega))) (cwV 1 hts gV_X6_59 rfl rfl rfl (by decide +kernel) ⟨Nat.le_of_ble_eq_true rfl, Nat.le_of_ble_eq_true rfl⟩) (g_preV hK hN hG (x := (11, (u).toNatClampNeg, 0)) ⟨(by rw [g_cl]; omega), rfl⟩ (q := (RX5, TX5, 7)) (x_at_11 cy L ns kk ((u).toNatClampNeg) (0) (σ (11, (u).toNatClampNeg, 0))) rfl) rfl rfl hl.1 rfl (lv_room (Nat.le_of_ble_eq_true rfl)) dX6_search_51 ⟨Nat.zero_le _, Nat.zero_le _⟩) hS (fun H locs hG hS => ?_)
        refine W.eq (g2 := F0 m 54 ls [.int (-(104))]) rfl ?_
        exact s_iret hx hb hr hlk hG hS dX6_search_54 (by unfold x_searchR; (repeat' split) <;> first | rfl | (exfalso; omega)) (by unfold x_searchM; (repeat' split) <;> first | rfl | (exfalso; omega))
    · refine lv_aload hx hb dX6_search_26 (lv_at hl 0 rfl) ?_
      refine lv_bipush (v := 103) hx hb dX6_search_28 (by decide) ?_
      refine g_cont (va_runV (As := [.int 103]) (rest := []) ⟨hx, hb, hml, hown, hts⟩ (c_X5_diagnose l D cy L ns kk σ ((u).toNatClampNeg) (by rw [g_cl]; omega) (103) (hkA _ (by rw [g_cl]; omega))) (cwV 1 hts gV_X6_59 rfl rfl rfl (by decide +kernel) ⟨Nat.le_of_ble_eq_true rfl, Nat.le_of_ble_eq_true rfl⟩) (g_preV hK hN hG (x := (11, (u).toNatClampNeg, 0)) ⟨(by rw [g_cl]; omega), rfl⟩ (q := (RX5, TX5, 7)) (x_at_11 cy L ns kk ((u).toNatClampNeg) (0) (σ (11, (u).toNatClampNeg, 0))) rfl) rfl rfl hl.1 rfl (lv_room (Nat.le_of_ble_eq_true rfl)) dX6_search_30 ⟨Nat.zero_le _, Nat.zero_le _⟩) hS (fun H locs hG hS => ?_)
      refine W.eq (g2 := F0 m 33 ls [.int (-(103))]) rfl ?_
      exact s_iret hx hb hr hlk hG hS dX6_search_33 (by unfold x_searchR; (repeat' split) <;> first | rfl | (exfalso; omega)) (by unfold x_searchM; (repeat' split) <;> first | rfl | (exfalso; omega))
  · rw [if_neg c_2_1]
    refine lv_astoreN (lv' := [(4, .null), (0, .ref (L (0, 0, 0))), (1, .int (u)), (2, .int (q)), (3, .int (v))]) hx hb dX6_search_5 hl (by decide) rfl (fun ls hl => ?_)
    refine lv_aloadN hx hb dX6_search_7 (lv_at hl 0 rfl) ?_
    refine lv_ifnonnullN hx hb dX6_search_9 ?_
    refine lv_bipush (v := (-101)) hx hb dX6_search_12 (by decide) ?_
    exact s_iret hx hb hr hlk hG hS dX6_search_14 (by unfold x_searchR; (repeat' split) <;> first | rfl | (exfalso; omega)) (by unfold x_searchM; (repeat' split) <;> first | rfl | (exfalso; omega))
set_option maxHeartbeats 4000000 in
set_option maxRecDepth 100000 in
theorem c_X6_size (l : Launch) (D : va_G) (cy : Nat → ClassId) (L : g_S → Nat) (ns : Nat) (kk : Nat → Nat) (σ : g_S → Nat → Int32) (u v : Int32) (hI : x_I ns kk σ) : x_Met l D cy L ns kk yX6_size (.code yX6_size cX6_size 5 (some .int)) 3 σ [.ref (L (0, 0, 0)), .int (u), .int (v)] (some (.int (x_sizeR σ ns kk u v))) σ := by
  refine g_Met.of (by decide) (Nat.le_of_ble_eq_true rfl) ?_
  intro pg e s m below meth c hx hb hr hlk hml hown hts hK hN H locs hG hS ls hl
  have hown : s.vm.findClass RX6 = some m.cls := hown
  have hl : lv_has ls 5 [(0, .ref (L (0, 0, 0))), (1, .int (u)), (2, .int (v))] := hl
  obtain ⟨⟨h0, hn⟩, ⟨q0, q40⟩, ⟨hs, h8⟩, hkA, hz4, hzA, hcA, hpA, htA⟩ := hI
  refine lv_aload_n hx hb dX6_size_0 rfl (lv_at hl 0 rfl) ?_
  refine lv_iload_n hx hb dX6_size_1 rfl (lv_at hl 1 rfl) ?_
  refine g_cont (va_runV (As := [.int (u)]) (rest := []) ⟨hx, hb, hml, hown, hts⟩ (c_X6_openSession l D cy L ns kk σ (u) hs h8 hz4) (cwV 1 hts gV_X6_51 rfl rfl rfl (by decide +kernel) ⟨Nat.le_of_ble_eq_true rfl, Nat.le_of_ble_eq_true rfl⟩) (g_preV hK hN hG (x := (0, 0, 0)) ⟨rfl, rfl⟩ (q := (RX6, TX6, 4)) (x_at_0 cy L ns kk (0) (0) (σ (0, 0, 0))) rfl) rfl rfl hl.1 rfl (lv_room (Nat.le_of_ble_eq_true rfl)) dX6_size_2 ⟨Nat.zero_le _, Nat.zero_le _⟩) hS (fun H locs hG hS => ?_)
  refine W.eq (g2 := F0 m 5 ls [(if (0 ≤ (u).toInt ∧ (u).toInt < (ns : Int)) ∧ ¬ (σ (11, (u).toNatClampNeg, 0) 4).toInt = 0 then .ref (L (11, (u).toNatClampNeg, 0)) else .null)]) rfl ?_
  by_cases c_2_1 : (0 ≤ (u).toInt ∧ (u).toInt < (ns : Int)) ∧ ¬ (σ (11, (u).toNatClampNeg, 0) 4).toInt = 0
  · rw [if_pos c_2_1]
    refine lv_astore_n (lv' := [(3, .ref (L (11, (u).toNatClampNeg, 0))), (0, .ref (L (0, 0, 0))), (1, .int (u)), (2, .int (v))]) hx hb dX6_size_5 rfl hl (by decide) rfl (fun ls hl => ?_)
    refine lv_aload_n hx hb dX6_size_6 rfl (lv_at hl 0 rfl) ?_
    refine lv_ifnonnull (tgt := 13) hx hb dX6_size_7 (by decide) ?_
    refine lv_aload_n hx hb dX6_size_13 rfl (lv_at hl 0 rfl) ?_
    refine lv_iload_n hx hb dX6_size_14 rfl (lv_at hl 3 rfl) ?_
    refine g_cont (va_runV (As := [.int (v)]) (rest := []) ⟨hx, hb, hml, hown, hts⟩ (c_X5_madeSet l D cy L ns kk σ ((u).toNatClampNeg) (by rw [g_cl]; omega) (v) (hkA _ (by rw [g_cl]; omega)) (hzA _ (by rw [g_cl]; omega))) (cwV 1 hts gV_X6_83 rfl rfl rfl (by decide +kernel) ⟨Nat.le_of_ble_eq_true rfl, Nat.le_of_ble_eq_true rfl⟩) (g_preV hK hN hG (x := (11, (u).toNatClampNeg, 0)) ⟨(by rw [g_cl]; omega), rfl⟩ (q := (RX5, TX5, 7)) (x_at_11 cy L ns kk ((u).toNatClampNeg) (0) (σ (11, (u).toNatClampNeg, 0))) rfl) rfl rfl hl.1 rfl (lv_room (Nat.le_of_ble_eq_true rfl)) dX6_size_15 ⟨Nat.zero_le _, Nat.zero_le _⟩) hS (fun H locs hG hS => ?_)
    refine W.eq (g2 := F0 m 18 ls [(if (0 ≤ (v).toInt ∧ (v).toInt < ((kk (u).toNatClampNeg : Nat) : Int)) ∧ ¬ (σ (18, (u).toNatClampNeg, (v).toNatClampNeg) 2).toInt = 0 then .ref (L (18, (u).toNatClampNeg, (v).toNatClampNeg)) else .null)]) rfl ?_
    by_cases c_15_2 : (0 ≤ (v).toInt ∧ (v).toInt < ((kk (u).toNatClampNeg : Nat) : Int)) ∧ ¬ (σ (18, (u).toNatClampNeg, (v).toNatClampNeg) 2).toInt = 0
    · rw [if_pos c_15_2]
      have hc9 := hcA (u).toNatClampNeg (by rw [g_cl]; omega) (v).toNatClampNeg (by rw [g_cl]; omega)
      refine lv_astore (lv' := [(4, .ref (L (18, (u).toNatClampNeg, (v).toNatClampNeg))), (3, .ref (L (11, (u).toNatClampNeg, 0))), (0, .ref (L (0, 0, 0))), (1, .int (u)), (2, .int (v))]) hx hb dX6_size_18 hl (by decide) rfl (fun ls hl => ?_)
      refine lv_aload hx hb dX6_size_20 (lv_at hl 0 rfl) ?_
      refine lv_ifnonnull (tgt := 30) hx hb dX6_size_22 (by decide) ?_
      refine lv_aload hx hb dX6_size_30 (lv_at hl 0 rfl) ?_
      refine g_cont (va_runV (As := []) (rest := []) ⟨hx, hb, hml, hown, hts⟩ (c_X3_count l D cy L ns kk σ ((u).toNatClampNeg) ((v).toNatClampNeg) (by rw [g_cl]; omega) (by rw [g_cl]; omega)) (cwV 0 hts gV_X6_82 rfl rfl rfl (by decide +kernel) ⟨Nat.le_of_ble_eq_true rfl, Nat.le_of_ble_eq_true rfl⟩) (g_preV hK hN hG (x := (18, (u).toNatClampNeg, (v).toNatClampNeg)) ⟨(by rw [g_cl]; omega), (by rw [g_cl]; omega)⟩ (q := (RX3, TX3, 3)) (x_at_18 cy L ns kk ((u).toNatClampNeg) ((v).toNatClampNeg) (σ (18, (u).toNatClampNeg, (v).toNatClampNeg))) rfl) rfl rfl hl.1 rfl (lv_room (Nat.le_of_ble_eq_true rfl)) dX6_size_32 ⟨Nat.zero_le _, Nat.zero_le _⟩) hS (fun H locs hG hS => ?_)
      refine W.eq (g2 := F0 m 35 ls [.int (σ (18, (u).toNatClampNeg, (v).toNatClampNeg) 1)]) rfl ?_
      exact s_iret hx hb hr hlk hG hS dX6_size_35 (by unfold x_sizeR; (repeat' split) <;> first | rfl | (exfalso; omega)) rfl
    · rw [if_neg c_15_2]
      refine lv_astoreN (lv' := [(4, .null), (3, .ref (L (11, (u).toNatClampNeg, 0))), (0, .ref (L (0, 0, 0))), (1, .int (u)), (2, .int (v))]) hx hb dX6_size_18 hl (by decide) rfl (fun ls hl => ?_)
      refine lv_aloadN hx hb dX6_size_20 (lv_at hl 0 rfl) ?_
      refine lv_ifnonnullN hx hb dX6_size_22 ?_
      refine lv_bipush (v := (-104)) hx hb dX6_size_25 (by decide) ?_
      refine lv_goto (tgt := 35) hx hb dX6_size_27 (by decide) ?_
      exact s_iret hx hb hr hlk hG hS dX6_size_35 (by unfold x_sizeR; (repeat' split) <;> first | rfl | (exfalso; omega)) rfl
  · rw [if_neg c_2_1]
    refine lv_astore_nN (lv' := [(3, .null), (0, .ref (L (0, 0, 0))), (1, .int (u)), (2, .int (v))]) hx hb dX6_size_5 rfl hl (by decide) rfl (fun ls hl => ?_)
    refine lv_aload_nN hx hb dX6_size_6 rfl (lv_at hl 0 rfl) ?_
    refine lv_ifnonnullN hx hb dX6_size_7 ?_
    refine lv_bipush (v := (-101)) hx hb dX6_size_10 (by decide) ?_
    exact s_iret hx hb hr hlk hG hS dX6_size_12 (by unfold x_sizeR; (repeat' split) <;> first | rfl | (exfalso; omega)) rfl
set_option maxHeartbeats 4000000 in
set_option maxRecDepth 100000 in
theorem lp_pres (l : Launch) (D : va_G) (cy : Nat → ClassId) (L : g_S → Nat) (ns : Nat) (kk : Nat → Nat) {pg : Program} {e : Env} {s : State} {m : MethodId} {args : Array Value} {below : List Frame} {meth : Method} {c : Code} {Q : State → Prop} (C0 : g_C pg s m meth c args cX6_present (some .int) 10 RX6 D (x_tys cy)) (i j : Nat) (hi : i < ns) (hj : j < kk i) (fr nn : Int32) :
    ∀ (n : Nat) (σ : g_S → Nat → Int32) (k : Nat) (H : Heap) (locs : List Loc) (ls : Array Slot), k + n = nn.toInt.toNat → (x_prI i j σ) → g_H D vwCl (x_dom ns kk) L (fun z => x_K cy L ns kk z (σ z)) H → va_S (g_A (x_dom ns kk) L) s.heap H locs → lv_has ls 10 [(8, .int (nI k)), (0, .ref (L (0, 0, 0))), (3, .int (fr)), (4, .int (nn)), (6, .ref (L (18, i, j))), (7, .ref (L (13, i, 0)))] →
    (∀ (H : Heap) (locs : List Loc) (ls : Array Slot), g_H D vwCl (x_dom ns kk) L (fun z => x_K cy L ns kk z ((x_presGo i j fr n k σ) z)) H → va_S (g_A (x_dom ns kk) L) s.heap H locs → lv_has ls 10 [(7, .ref (L (13, i, 0)))] → W pg l e (g_R 4) s m args below meth c H locs 0 0 Q (F0 m 129 ls [])) →
    W pg l e (g_R 4) s m args below meth c H locs 0 0 Q (F0 m 89 ls []) := by
  obtain ⟨hx, hb, hr, hlk, hml, hown, hts, hK, hN⟩ := C0
  intro n
  induction n with
  | zero =>
    intro σ k H locs ls hv9 hy hG hS hl kk9
    obtain ⟨hn, hr1, hs0, hs1⟩ := id hy
    have hr9 := g_rng nn
    have hz9 := g_nIT (show k < 2147483648 by omega)
    refine lv_iload hx hb dX6_present_89 (lv_at hl 0 rfl) ?_
    refine lv_iload hx hb dX6_present_91 (lv_at hl 3 rfl) ?_
    refine kz_icmp_ge (X := ((k : Nat) : Int)) (Y := (nn).toInt) hx hb (g_nIT (by omega)) rfl dX6_present_93 (tgt := 129) (by decide) (fun c_93_1 => ?_) (fun c_93_1 => ?_)
    · exact kk9 H locs ls hG hS (lv_sub hl [5] rfl)
    · exact absurd c_93_1 (by omega)
  | succ n ih =>
    intro σ k H locs ls hv9 hy hG hS hl kk9
    obtain ⟨hn, hr1, hs0, hs1⟩ := id hy
    have hr9 := g_rng nn
    have hz9 := g_nIT (show k < 2147483648 by omega)
    refine lv_iload hx hb dX6_present_89 (lv_at hl 0 rfl) ?_
    refine lv_iload hx hb dX6_present_91 (lv_at hl 3 rfl) ?_
    refine kz_icmp_ge (X := ((k : Nat) : Int)) (Y := (nn).toInt) hx hb (g_nIT (by omega)) rfl dX6_present_93 (tgt := 129) (by decide) (fun c_93_1 => ?_) (fun c_93_1 => ?_)
    · exact absurd c_93_1 (by omega)
    · refine lv_aload hx hb dX6_present_96 (lv_at hl 4 rfl) ?_
      refine lv_iload_n hx hb dX6_present_98 rfl (lv_at hl 2 rfl) ?_
      refine lv_iload hx hb dX6_present_99 (lv_at hl 0 rfl) ?_
      refine lv_iadd hx hb dX6_present_101 ?_
      refine g_cont (va_runV (As := [.int ((fr) + (nI k))]) (rest := []) ⟨hx, hb, hml, hown, hts⟩ (c_X3_recordAt l D cy L ns kk σ (i) (j) hi hj ((fr) + (nI k)) hr1) (cwV 1 hts gV_X6_95 rfl rfl rfl (by decide +kernel) ⟨Nat.le_of_ble_eq_true rfl, Nat.le_of_ble_eq_true rfl⟩) (g_preV hK hN hG (x := (18, i, j)) ⟨hi, hj⟩ (q := (RX3, TX3, 3)) (x_at_18 cy L ns kk (i) (j) (σ (18, i, j))) rfl) rfl rfl hl.1 rfl (lv_room (Nat.le_of_ble_eq_true rfl)) dX6_present_102 ⟨Nat.zero_le _, Nat.zero_le _⟩) hS (fun H locs hG hS => ?_)
      refine W.eq (g2 := F0 m 105 ls [.int (x_rsAt σ (i) (j) ((fr) + (nI k)))]) rfl ?_
      refine lv_istore (lv' := [(9, .int (x_rsAt σ (i) (j) ((fr) + (nI k)))), (8, .int (nI k)), (0, .ref (L (0, 0, 0))), (3, .int (fr)), (4, .int (nn)), (6, .ref (L (18, i, j))), (7, .ref (L (13, i, 0)))]) hx hb dX6_present_105 hl (by decide) rfl (fun ls hl => ?_)
      refine lv_aload hx hb dX6_present_107 (lv_at hl 6 rfl) ?_
      refine lv_iload hx hb dX6_present_109 (lv_at hl 0 rfl) ?_
      refine lv_aload_n hx hb dX6_present_111 rfl (lv_at hl 2 rfl) ?_
      refine g_get (C := RX6) (T := TX6) (N := 4) (v := .ref (L (1, 0, 0))) hx hb hts inX6g hown hK hG (0, 0, 0) ⟨rfl, rfl⟩ (x_at_0 cy L ns kk (0) (0) (σ (0, 0, 0))) rfl 0 (by decide) fl_X6_10 rfl dX6_present_112 ?_
      refine lv_iload hx hb dX6_present_115 (lv_at hl 0 rfl) ?_
      refine g_cont (va_runV (As := [.int (x_rsAt σ (i) (j) ((fr) + (nI k)))]) (rest := [.int (x_rsAt σ (i) (j) ((fr) + (nI k))), .ref (L (13, i, 0))]) ⟨hx, hb, hml, hown, hts⟩ (c_X2_bytesOf l D cy L ns kk σ (x_rsAt σ (i) (j) ((fr) + (nI k))) hn) (cwV 1 hts gV_X6_98 rfl rfl rfl (by decide +kernel) ⟨Nat.le_of_ble_eq_true rfl, Nat.le_of_ble_eq_true rfl⟩) (g_preV hK hN hG (x := (1, 0, 0)) ⟨rfl, rfl⟩ (q := (RX2, TX2, 3)) (x_at_1 cy L ns kk (0) (0) (σ (1, 0, 0))) rfl) rfl rfl hl.1 rfl (lv_room (Nat.le_of_ble_eq_true rfl)) dX6_present_117 ⟨Nat.zero_le _, Nat.zero_le _⟩) hS (fun H locs hG hS => ?_)
      refine W.eq (g2 := F0 m 120 ls [.int (x_bytesOf σ (x_rsAt σ (i) (j) ((fr) + (nI k)))), .int (x_rsAt σ (i) (j) ((fr) + (nI k))), .ref (L (13, i, 0))]) rfl ?_
      refine g_cont (va_runV (As := [.int (x_rsAt σ (i) (j) ((fr) + (nI k))), .int (x_bytesOf σ (x_rsAt σ (i) (j) ((fr) + (nI k))))]) (rest := []) ⟨hx, hb, hml, hown, hts⟩ (c_X0_add l D cy L ns kk σ (i) hi (x_rsAt σ (i) (j) ((fr) + (nI k))) (x_bytesOf σ (x_rsAt σ (i) (j) ((fr) + (nI k)))) hs0 hs1) (cwV 2 hts gV_X6_101 rfl rfl rfl (by decide +kernel) ⟨Nat.le_of_ble_eq_true rfl, Nat.le_of_ble_eq_true rfl⟩) (g_preV hK hN hG (x := (13, i, 0)) ⟨hi, rfl⟩ (q := (RX0, TX0, 6)) (x_at_13 cy L ns kk (i) (0) (σ (13, i, 0))) rfl) rfl rfl hl.1 rfl (lv_room (Nat.le_of_ble_eq_true rfl)) dX6_present_120 ⟨Nat.zero_le _, Nat.zero_le _⟩) hS (fun H locs hG hS => ?_)
      refine W.eq (g2 := F0 m 123 ls []) rfl ?_
      refine lv_iinc (v := nI (k + 1)) (lv' := [(8, .int (nI (k + 1))), (9, .int (x_rsAt σ (i) (j) ((fr) + (nI k)))), (0, .ref (L (0, 0, 0))), (3, .int (fr)), (4, .int (nn)), (6, .ref (L (18, i, j))), (7, .ref (L (13, i, 0)))]) hx hb dX6_present_123 hl (k := 1) rfl (nI_1 (k)) (by decide) rfl (fun ls hl => ?_)
      refine lv_goto (tgt := 89) hx hb dX6_present_126 (by decide) ?_
      have e90 : x_presGo i j fr (n + 1) k σ = x_presGo i j fr n (k + 1) (x_preAdd σ (i) (x_rsAt σ (i) (j) ((fr) + (nI k))) (x_bytesOf σ (x_rsAt σ (i) (j) ((fr) + (nI k))))) := (by rw [x_presGo_s])
      rw [e90] at kk9
      exact ih (x_preAdd σ (i) (x_rsAt σ (i) (j) ((fr) + (nI k))) (x_bytesOf σ (x_rsAt σ (i) (j) ((fr) + (nI k))))) (k + 1) H locs ls (by omega) (x_prI_add hy) hG hS (lv_sub hl [0, 2, 3, 4, 5, 6] rfl) kk9
set_option maxHeartbeats 4000000 in
set_option maxRecDepth 100000 in
theorem c_X6_present (l : Launch) (D : va_G) (cy : Nat → ClassId) (L : g_S → Nat) (ns : Nat) (kk : Nat → Nat) (σ : g_S → Nat → Int32) (u v fr nn : Int32) (hI : x_I ns kk σ) : x_Met l D cy L ns kk yX6_present (.code yX6_present cX6_present 10 (some .int)) 4 σ [.ref (L (0, 0, 0)), .int (u), .int (v), .int (fr), .int (nn)] (some (.int (x_presentR σ ns kk u v fr nn))) (x_presentM σ ns kk u v fr nn) := by
  refine g_Met.of (by decide) (Nat.le_of_ble_eq_true rfl) ?_
  intro pg e s m below meth c hx hb hr hlk hml hown hts hK hN H locs hG hS ls hl
  have hown : s.vm.findClass RX6 = some m.cls := hown
  have hl : lv_has ls 10 [(0, .ref (L (0, 0, 0))), (1, .int (u)), (2, .int (v)), (3, .int (fr)), (4, .int (nn))] := hl
  obtain ⟨⟨h0, hn⟩, ⟨q0, q40⟩, ⟨hs, h8⟩, hkA, hz4, hzA, hcA, hpA, htA⟩ := hI
  refine lv_aload_n hx hb dX6_present_0 rfl (lv_at hl 0 rfl) ?_
  refine lv_iload_n hx hb dX6_present_1 rfl (lv_at hl 1 rfl) ?_
  refine g_cont (va_runV (As := [.int (u)]) (rest := []) ⟨hx, hb, hml, hown, hts⟩ (c_X6_openSession l D cy L ns kk σ (u) hs h8 hz4) (cwV 1 hts gV_X6_51 rfl rfl rfl (by decide +kernel) ⟨Nat.le_of_ble_eq_true rfl, Nat.le_of_ble_eq_true rfl⟩) (g_preV hK hN hG (x := (0, 0, 0)) ⟨rfl, rfl⟩ (q := (RX6, TX6, 4)) (x_at_0 cy L ns kk (0) (0) (σ (0, 0, 0))) rfl) rfl rfl hl.1 rfl (lv_room (Nat.le_of_ble_eq_true rfl)) dX6_present_2 ⟨Nat.zero_le _, Nat.zero_le _⟩) hS (fun H locs hG hS => ?_)
  refine W.eq (g2 := F0 m 5 ls [(if (0 ≤ (u).toInt ∧ (u).toInt < (ns : Int)) ∧ ¬ (σ (11, (u).toNatClampNeg, 0) 4).toInt = 0 then .ref (L (11, (u).toNatClampNeg, 0)) else .null)]) rfl ?_
  by_cases c_2_1 : (0 ≤ (u).toInt ∧ (u).toInt < (ns : Int)) ∧ ¬ (σ (11, (u).toNatClampNeg, 0) 4).toInt = 0
  · rw [if_pos c_2_1]
    refine lv_astore (lv' := [(5, .ref (L (11, (u).toNatClampNeg, 0))), (0, .ref (L (0, 0, 0))), (1, .int (u)), (2, .int (v)), (3, .int (fr)), (4, .int (nn))]) hx hb dX6_present_5 hl (by decide) rfl (fun ls hl => ?_)
    refine lv_aload hx hb dX6_present_7 (lv_at hl 0 rfl) ?_
    refine lv_ifnonnull (tgt := 15) hx hb dX6_present_9 (by decide) ?_
    refine lv_aload hx hb dX6_present_15 (lv_at hl 0 rfl) ?_
    refine lv_iload_n hx hb dX6_present_17 rfl (lv_at hl 3 rfl) ?_
    refine g_cont (va_runV (As := [.int (v)]) (rest := []) ⟨hx, hb, hml, hown, hts⟩ (c_X5_madeSet l D cy L ns kk σ ((u).toNatClampNeg) (by rw [g_cl]; omega) (v) (hkA _ (by rw [g_cl]; omega)) (hzA _ (by rw [g_cl]; omega))) (cwV 1 hts gV_X6_83 rfl rfl rfl (by decide +kernel) ⟨Nat.le_of_ble_eq_true rfl, Nat.le_of_ble_eq_true rfl⟩) (g_preV hK hN hG (x := (11, (u).toNatClampNeg, 0)) ⟨(by rw [g_cl]; omega), rfl⟩ (q := (RX5, TX5, 7)) (x_at_11 cy L ns kk ((u).toNatClampNeg) (0) (σ (11, (u).toNatClampNeg, 0))) rfl) rfl rfl hl.1 rfl (lv_room (Nat.le_of_ble_eq_true rfl)) dX6_present_18 ⟨Nat.zero_le _, Nat.zero_le _⟩) hS (fun H locs hG hS => ?_)
    refine W.eq (g2 := F0 m 21 ls [(if (0 ≤ (v).toInt ∧ (v).toInt < ((kk (u).toNatClampNeg : Nat) : Int)) ∧ ¬ (σ (18, (u).toNatClampNeg, (v).toNatClampNeg) 2).toInt = 0 then .ref (L (18, (u).toNatClampNeg, (v).toNatClampNeg)) else .null)]) rfl ?_
    by_cases c_18_2 : (0 ≤ (v).toInt ∧ (v).toInt < ((kk (u).toNatClampNeg : Nat) : Int)) ∧ ¬ (σ (18, (u).toNatClampNeg, (v).toNatClampNeg) 2).toInt = 0
    · rw [if_pos c_18_2]
      have hc9 := hcA (u).toNatClampNeg (by rw [g_cl]; omega) (v).toNatClampNeg (by rw [g_cl]; omega)
      have hr9 := g_rng nn
      refine lv_astore (lv' := [(6, .ref (L (18, (u).toNatClampNeg, (v).toNatClampNeg))), (5, .ref (L (11, (u).toNatClampNeg, 0))), (0, .ref (L (0, 0, 0))), (1, .int (u)), (2, .int (v)), (3, .int (fr)), (4, .int (nn))]) hx hb dX6_present_21 hl (by decide) rfl (fun ls hl => ?_)
      refine lv_aload hx hb dX6_present_23 (lv_at hl 0 rfl) ?_
      refine lv_ifnonnull (tgt := 36) hx hb dX6_present_25 (by decide) ?_
      refine lv_iload hx hb dX6_present_36 (lv_at hl 6 rfl) ?_
      refine lv_iconst (v := 1) hx hb dX6_present_38 (by decide) ?_
      refine kz_icmp_ge (X := (nn).toInt) (Y := 1) hx hb rfl (by decide) dX6_present_39 (tgt := 50) (by decide) (fun c_39_3 => ?_) (fun c_39_3 => ?_)
      · refine lv_iload_n hx hb dX6_present_50 rfl (lv_at hl 5 rfl) ?_
        refine kz_if_lt (X := (fr).toInt) hx hb rfl dX6_present_51 (tgt := 66) (by decide) (fun c_51_4 => ?_) (fun c_51_4 => ?_)
        · refine lv_aload hx hb dX6_present_66 (lv_at hl 1 rfl) ?_
          refine lv_bipush (v := 105) hx hb dX6_present_68 (by decide) ?_
          refine g_cont (va_runV (As := [.int 105]) (rest := []) ⟨hx, hb, hml, hown, hts⟩ (c_X5_diagnose l D cy L ns kk σ ((u).toNatClampNeg) (by rw [g_cl]; omega) (105) (hkA _ (by rw [g_cl]; omega))) (cwV 1 hts gV_X6_59 rfl rfl rfl (by decide +kernel) ⟨Nat.le_of_ble_eq_true rfl, Nat.le_of_ble_eq_true rfl⟩) (g_preV hK hN hG (x := (11, (u).toNatClampNeg, 0)) ⟨(by rw [g_cl]; omega), rfl⟩ (q := (RX5, TX5, 7)) (x_at_11 cy L ns kk ((u).toNatClampNeg) (0) (σ (11, (u).toNatClampNeg, 0))) rfl) rfl rfl hl.1 rfl (lv_room (Nat.le_of_ble_eq_true rfl)) dX6_present_70 ⟨Nat.zero_le _, Nat.zero_le _⟩) hS (fun H locs hG hS => ?_)
          refine W.eq (g2 := F0 m 73 ls [.int (-(105))]) rfl ?_
          exact s_iret hx hb hr hlk hG hS dX6_present_73 (by unfold x_presentR; (repeat' split) <;> first | rfl | (exfalso; omega)) (by unfold x_presentM; (repeat' split) <;> first | rfl | (exfalso; omega))
        · refine lv_iload_n hx hb dX6_present_54 rfl (lv_at hl 5 rfl) ?_
          refine lv_aload hx hb dX6_present_55 (lv_at hl 0 rfl) ?_
          refine g_cont (va_runV (As := []) (rest := [.int (fr)]) ⟨hx, hb, hml, hown, hts⟩ (c_X3_count l D cy L ns kk σ ((u).toNatClampNeg) ((v).toNatClampNeg) (by rw [g_cl]; omega) (by rw [g_cl]; omega)) (cwV 0 hts gV_X6_82 rfl rfl rfl (by decide +kernel) ⟨Nat.le_of_ble_eq_true rfl, Nat.le_of_ble_eq_true rfl⟩) (g_preV hK hN hG (x := (18, (u).toNatClampNeg, (v).toNatClampNeg)) ⟨(by rw [g_cl]; omega), (by rw [g_cl]; omega)⟩ (q := (RX3, TX3, 3)) (x_at_18 cy L ns kk ((u).toNatClampNeg) ((v).toNatClampNeg) (σ (18, (u).toNatClampNeg, (v).toNatClampNeg))) rfl) rfl rfl hl.1 rfl (lv_room (Nat.le_of_ble_eq_true rfl)) dX6_present_57 ⟨Nat.zero_le _, Nat.zero_le _⟩) hS (fun H locs hG hS => ?_)
          refine W.eq (g2 := F0 m 60 ls [.int (σ (18, (u).toNatClampNeg, (v).toNatClampNeg) 1), .int (fr)]) rfl ?_
          refine lv_iload hx hb dX6_present_60 (lv_at hl 6 rfl) ?_
          refine lv_isub hx hb dX6_present_62 ?_
          have z_5 : ((σ (18, (u).toNatClampNeg, (v).toNatClampNeg) 1) - (nn)).toInt = ((σ (18, (u).toNatClampNeg, (v).toNatClampNeg) 1).toInt - (nn).toInt) := by have h1 : (σ (18, (u).toNatClampNeg, (v).toNatClampNeg) 1 : Int32).toInt = (σ (18, (u).toNatClampNeg, (v).toNatClampNeg) 1).toInt := rfl; have h2 : (nn : Int32).toInt = (nn).toInt := rfl; rw [g_subI (by omega) (by omega)] <;> omega
          refine kz_icmp_le (X := (fr).toInt) (Y := ((σ (18, (u).toNatClampNeg, (v).toNatClampNeg) 1).toInt - (nn).toInt)) hx hb rfl z_5 dX6_present_63 (tgt := 74) (by decide) (fun c_63_6 => ?_) (fun c_63_6 => ?_)
          · refine lv_aload hx hb dX6_present_74 (lv_at hl 1 rfl) ?_
            refine g_cont (va_runV (As := []) (rest := []) ⟨hx, hb, hml, hown, hts⟩ (c_X5_presented l D cy L ns kk σ ((u).toNatClampNeg) (by rw [g_cl]; omega)) (cwV 0 hts gV_X6_86 rfl rfl rfl (by decide +kernel) ⟨Nat.le_of_ble_eq_true rfl, Nat.le_of_ble_eq_true rfl⟩) (g_preV hK hN hG (x := (11, (u).toNatClampNeg, 0)) ⟨(by rw [g_cl]; omega), rfl⟩ (q := (RX5, TX5, 7)) (x_at_11 cy L ns kk ((u).toNatClampNeg) (0) (σ (11, (u).toNatClampNeg, 0))) rfl) rfl rfl hl.1 rfl (lv_room (Nat.le_of_ble_eq_true rfl)) dX6_present_76 ⟨Nat.zero_le _, Nat.zero_le _⟩) hS (fun H locs hG hS => ?_)
            refine W.eq (g2 := F0 m 79 ls [.ref (L (13, (u).toNatClampNeg, 0))]) rfl ?_
            refine lv_astore (lv' := [(7, .ref (L (13, (u).toNatClampNeg, 0))), (6, .ref (L (18, (u).toNatClampNeg, (v).toNatClampNeg))), (5, .ref (L (11, (u).toNatClampNeg, 0))), (0, .ref (L (0, 0, 0))), (1, .int (u)), (2, .int (v)), (3, .int (fr)), (4, .int (nn))]) hx hb dX6_present_79 hl (by decide) rfl (fun ls hl => ?_)
            refine lv_aload hx hb dX6_present_81 (lv_at hl 0 rfl) ?_
            refine g_cont (va_runV (As := []) (rest := []) ⟨hx, hb, hml, hown, hts⟩ (c_X0_clear l D cy L ns kk σ ((u).toNatClampNeg) (by rw [g_cl]; omega)) (cwV 0 hts gV_X6_90 rfl rfl rfl (by decide +kernel) ⟨Nat.le_of_ble_eq_true rfl, Nat.le_of_ble_eq_true rfl⟩) (g_preV hK hN hG (x := (13, (u).toNatClampNeg, 0)) ⟨(by rw [g_cl]; omega), rfl⟩ (q := (RX0, TX0, 6)) (x_at_13 cy L ns kk ((u).toNatClampNeg) (0) (σ (13, (u).toNatClampNeg, 0))) rfl) rfl rfl hl.1 rfl (lv_room (Nat.le_of_ble_eq_true rfl)) dX6_present_83 ⟨Nat.zero_le _, Nat.zero_le _⟩) hS (fun H locs hG hS => ?_)
            refine W.eq (g2 := F0 m 86 ls []) rfl ?_
            refine lv_iconst (v := 0) hx hb dX6_present_86 (by decide) ?_
            refine lv_istore (lv' := [(8, .int 0), (7, .ref (L (13, (u).toNatClampNeg, 0))), (6, .ref (L (18, (u).toNatClampNeg, (v).toNatClampNeg))), (5, .ref (L (11, (u).toNatClampNeg, 0))), (0, .ref (L (0, 0, 0))), (1, .int (u)), (2, .int (v)), (3, .int (fr)), (4, .int (nn))]) hx hb dX6_present_87 hl (by decide) rfl (fun ls hl => ?_)
            refine lp_pres l D cy L ns kk ⟨hx, hb, hr, hlk, hml, hown, hts, hK, hN⟩ ((u).toNatClampNeg) ((v).toNatClampNeg) (by rw [g_cl]; omega) (by rw [g_cl]; omega) fr nn nn.toInt.toNat (x_clear σ ((u).toNatClampNeg)) 0 H locs ls (by omega) ⟨by simpa [x_clear, g_up_at] using hn, by simpa [x_clear, g_up_at] using hc9.2, by unfold x_clear; simp [g_up_at], by unfold x_clear; simp [g_up_at]⟩ hG hS (lv_sub hl [0, 4, 7, 8, 2, 1] rfl) (fun H locs ls hG hS hl => ?_)
            refine lv_aload hx hb dX6_present_129 (lv_at hl 0 rfl) ?_
            refine g_cont (va_runV (As := []) (rest := []) ⟨hx, hb, hml, hown, hts⟩ (c_X0_segmentCount l D cy L ns kk (x_pres σ ((u).toNatClampNeg) ((v).toNatClampNeg) fr nn) ((u).toNatClampNeg) (by rw [g_cl]; omega)) (cwV 0 hts gV_X6_103 rfl rfl rfl (by decide +kernel) ⟨Nat.le_of_ble_eq_true rfl, Nat.le_of_ble_eq_true rfl⟩) (g_preV hK hN hG (x := (13, (u).toNatClampNeg, 0)) ⟨(by rw [g_cl]; omega), rfl⟩ (q := (RX0, TX0, 6)) (x_at_13 cy L ns kk ((u).toNatClampNeg) (0) ((x_pres σ ((u).toNatClampNeg) ((v).toNatClampNeg) fr nn) (13, (u).toNatClampNeg, 0))) rfl) rfl rfl hl.1 rfl (lv_room (Nat.le_of_ble_eq_true rfl)) dX6_present_131 ⟨Nat.zero_le _, Nat.zero_le _⟩) hS (fun H locs hG hS => ?_)
            refine W.eq (g2 := F0 m 134 ls [.int ((x_pres σ ((u).toNatClampNeg) ((v).toNatClampNeg) fr nn) (13, (u).toNatClampNeg, 0) 5)]) rfl ?_
            exact s_iret hx hb hr hlk hG hS dX6_present_134 (by unfold x_presentR; (repeat' split) <;> first | rfl | (exfalso; omega)) (by unfold x_presentM; (repeat' split) <;> first | rfl | (exfalso; omega))
          · refine lv_aload hx hb dX6_present_66 (lv_at hl 1 rfl) ?_
            refine lv_bipush (v := 105) hx hb dX6_present_68 (by decide) ?_
            refine g_cont (va_runV (As := [.int 105]) (rest := []) ⟨hx, hb, hml, hown, hts⟩ (c_X5_diagnose l D cy L ns kk σ ((u).toNatClampNeg) (by rw [g_cl]; omega) (105) (hkA _ (by rw [g_cl]; omega))) (cwV 1 hts gV_X6_59 rfl rfl rfl (by decide +kernel) ⟨Nat.le_of_ble_eq_true rfl, Nat.le_of_ble_eq_true rfl⟩) (g_preV hK hN hG (x := (11, (u).toNatClampNeg, 0)) ⟨(by rw [g_cl]; omega), rfl⟩ (q := (RX5, TX5, 7)) (x_at_11 cy L ns kk ((u).toNatClampNeg) (0) (σ (11, (u).toNatClampNeg, 0))) rfl) rfl rfl hl.1 rfl (lv_room (Nat.le_of_ble_eq_true rfl)) dX6_present_70 ⟨Nat.zero_le _, Nat.zero_le _⟩) hS (fun H locs hG hS => ?_)
            refine W.eq (g2 := F0 m 73 ls [.int (-(105))]) rfl ?_
            exact s_iret hx hb hr hlk hG hS dX6_present_73 (by unfold x_presentR; (repeat' split) <;> first | rfl | (exfalso; omega)) (by unfold x_presentM; (repeat' split) <;> first | rfl | (exfalso; omega))
      · refine lv_aload hx hb dX6_present_42 (lv_at hl 1 rfl) ?_
        refine lv_bipush (v := 107) hx hb dX6_present_44 (by decide) ?_
        refine g_cont (va_runV (As := [.int 107]) (rest := []) ⟨hx, hb, hml, hown, hts⟩ (c_X5_diagnose l D cy L ns kk σ ((u).toNatClampNeg) (by rw [g_cl]; omega) (107) (hkA _ (by rw [g_cl]; omega))) (cwV 1 hts gV_X6_59 rfl rfl rfl (by decide +kernel) ⟨Nat.le_of_ble_eq_true rfl, Nat.le_of_ble_eq_true rfl⟩) (g_preV hK hN hG (x := (11, (u).toNatClampNeg, 0)) ⟨(by rw [g_cl]; omega), rfl⟩ (q := (RX5, TX5, 7)) (x_at_11 cy L ns kk ((u).toNatClampNeg) (0) (σ (11, (u).toNatClampNeg, 0))) rfl) rfl rfl hl.1 rfl (lv_room (Nat.le_of_ble_eq_true rfl)) dX6_present_46 ⟨Nat.zero_le _, Nat.zero_le _⟩) hS (fun H locs hG hS => ?_)
        refine W.eq (g2 := F0 m 49 ls [.int (-(107))]) rfl ?_
        exact s_iret hx hb hr hlk hG hS dX6_present_49 (by unfold x_presentR; (repeat' split) <;> first | rfl | (exfalso; omega)) (by unfold x_presentM; (repeat' split) <;> first | rfl | (exfalso; omega))
    · rw [if_neg c_18_2]
      refine lv_astoreN (lv' := [(6, .null), (5, .ref (L (11, (u).toNatClampNeg, 0))), (0, .ref (L (0, 0, 0))), (1, .int (u)), (2, .int (v)), (3, .int (fr)), (4, .int (nn))]) hx hb dX6_present_21 hl (by decide) rfl (fun ls hl => ?_)
      refine lv_aloadN hx hb dX6_present_23 (lv_at hl 0 rfl) ?_
      refine lv_ifnonnullN hx hb dX6_present_25 ?_
      refine lv_aload hx hb dX6_present_28 (lv_at hl 1 rfl) ?_
      refine lv_bipush (v := 104) hx hb dX6_present_30 (by decide) ?_
      refine g_cont (va_runV (As := [.int 104]) (rest := []) ⟨hx, hb, hml, hown, hts⟩ (c_X5_diagnose l D cy L ns kk σ ((u).toNatClampNeg) (by rw [g_cl]; omega) (104) (hkA _ (by rw [g_cl]; omega))) (cwV 1 hts gV_X6_59 rfl rfl rfl (by decide +kernel) ⟨Nat.le_of_ble_eq_true rfl, Nat.le_of_ble_eq_true rfl⟩) (g_preV hK hN hG (x := (11, (u).toNatClampNeg, 0)) ⟨(by rw [g_cl]; omega), rfl⟩ (q := (RX5, TX5, 7)) (x_at_11 cy L ns kk ((u).toNatClampNeg) (0) (σ (11, (u).toNatClampNeg, 0))) rfl) rfl rfl hl.1 rfl (lv_room (Nat.le_of_ble_eq_true rfl)) dX6_present_32 ⟨Nat.zero_le _, Nat.zero_le _⟩) hS (fun H locs hG hS => ?_)
      refine W.eq (g2 := F0 m 35 ls [.int (-(104))]) rfl ?_
      exact s_iret hx hb hr hlk hG hS dX6_present_35 (by unfold x_presentR; (repeat' split) <;> first | rfl | (exfalso; omega)) (by unfold x_presentM; (repeat' split) <;> first | rfl | (exfalso; omega))
  · rw [if_neg c_2_1]
    refine lv_astoreN (lv' := [(5, .null), (0, .ref (L (0, 0, 0))), (1, .int (u)), (2, .int (v)), (3, .int (fr)), (4, .int (nn))]) hx hb dX6_present_5 hl (by decide) rfl (fun ls hl => ?_)
    refine lv_aloadN hx hb dX6_present_7 (lv_at hl 0 rfl) ?_
    refine lv_ifnonnullN hx hb dX6_present_9 ?_
    refine lv_bipush (v := (-101)) hx hb dX6_present_12 (by decide) ?_
    exact s_iret hx hb hr hlk hG hS dX6_present_14 (by unfold x_presentR; (repeat' split) <;> first | rfl | (exfalso; omega)) (by unfold x_presentM; (repeat' split) <;> first | rfl | (exfalso; omega))
set_option maxHeartbeats 4000000 in
set_option maxRecDepth 100000 in
theorem c_X6_segment (l : Launch) (D : va_G) (cy : Nat → ClassId) (L : g_S → Nat) (ns : Nat) (kk : Nat → Nat) (σ : g_S → Nat → Int32) (u p w : Int32) (hI : x_I ns kk σ) : x_Met l D cy L ns kk yX6_segment (.code yX6_segment cX6_segment 5 (some .int)) 2 σ [.ref (L (0, 0, 0)), .int (u), .int (p), .int (w)] (some (.int (x_segmentR σ ns u p w))) σ := by
  refine g_Met.of (by decide) (Nat.le_of_ble_eq_true rfl) ?_
  intro pg e s m below meth c hx hb hr hlk hml hown hts hK hN H locs hG hS ls hl
  have hown : s.vm.findClass RX6 = some m.cls := hown
  have hl : lv_has ls 5 [(0, .ref (L (0, 0, 0))), (1, .int (u)), (2, .int (p)), (3, .int (w))] := hl
  obtain ⟨⟨h0, hn⟩, ⟨q0, q40⟩, ⟨hs, h8⟩, hkA, hz4, hzA, hcA, hpA, htA⟩ := hI
  refine lv_aload_n hx hb dX6_segment_0 rfl (lv_at hl 0 rfl) ?_
  refine lv_iload_n hx hb dX6_segment_1 rfl (lv_at hl 1 rfl) ?_
  refine g_cont (va_runV (As := [.int (u)]) (rest := []) ⟨hx, hb, hml, hown, hts⟩ (c_X6_everOpened l D cy L ns kk σ (u) hs h8) (cwV 1 hts gV_X6_106 rfl rfl rfl (by decide +kernel) ⟨Nat.le_of_ble_eq_true rfl, Nat.le_of_ble_eq_true rfl⟩) (g_preV hK hN hG (x := (0, 0, 0)) ⟨rfl, rfl⟩ (q := (RX6, TX6, 4)) (x_at_0 cy L ns kk (0) (0) (σ (0, 0, 0))) rfl) rfl rfl hl.1 rfl (lv_room (Nat.le_of_ble_eq_true rfl)) dX6_segment_2 ⟨Nat.zero_le _, Nat.zero_le _⟩) hS (fun H locs hG hS => ?_)
  refine W.eq (g2 := F0 m 5 ls [(if 0 ≤ (u).toInt ∧ (u).toInt < (ns : Int) then .ref (L (11, (u).toNatClampNeg, 0)) else .null)]) rfl ?_
  by_cases c_2_1 : 0 ≤ (u).toInt ∧ (u).toInt < (ns : Int)
  · rw [if_pos c_2_1]
    refine lv_astore (lv' := [(4, .ref (L (11, (u).toNatClampNeg, 0))), (0, .ref (L (0, 0, 0))), (1, .int (u)), (2, .int (p)), (3, .int (w))]) hx hb dX6_segment_5 hl (by decide) rfl (fun ls hl => ?_)
    refine lv_aload hx hb dX6_segment_7 (lv_at hl 0 rfl) ?_
    refine lv_ifnonnull (tgt := 16) hx hb dX6_segment_9 (by decide) ?_
    refine lv_aload hx hb dX6_segment_16 (lv_at hl 0 rfl) ?_
    refine g_cont (va_runV (As := []) (rest := []) ⟨hx, hb, hml, hown, hts⟩ (c_X5_presented l D cy L ns kk σ ((u).toNatClampNeg) (by rw [g_cl]; omega)) (cwV 0 hts gV_X6_86 rfl rfl rfl (by decide +kernel) ⟨Nat.le_of_ble_eq_true rfl, Nat.le_of_ble_eq_true rfl⟩) (g_preV hK hN hG (x := (11, (u).toNatClampNeg, 0)) ⟨(by rw [g_cl]; omega), rfl⟩ (q := (RX5, TX5, 7)) (x_at_11 cy L ns kk ((u).toNatClampNeg) (0) (σ (11, (u).toNatClampNeg, 0))) rfl) rfl rfl hl.1 rfl (lv_room (Nat.le_of_ble_eq_true rfl)) dX6_segment_18 ⟨Nat.zero_le _, Nat.zero_le _⟩) hS (fun H locs hG hS => ?_)
    refine W.eq (g2 := F0 m 21 ls [.ref (L (13, (u).toNatClampNeg, 0))]) rfl ?_
    refine lv_iload_n hx hb dX6_segment_21 rfl (lv_at hl 3 rfl) ?_
    refine lv_iload_n hx hb dX6_segment_22 rfl (lv_at hl 4 rfl) ?_
    refine g_cont (va_runV (As := [.int (p), .int (w)]) (rest := []) ⟨hx, hb, hml, hown, hts⟩ (c_X0_tellSegment l D cy L ns kk σ ((u).toNatClampNeg) (by rw [g_cl]; omega) (p) (w) (by have := hpA (u).toNatClampNeg (by rw [g_cl]; omega); omega)) (cwV 2 hts gV_X6_109 rfl rfl rfl (by decide +kernel) ⟨Nat.le_of_ble_eq_true rfl, Nat.le_of_ble_eq_true rfl⟩) (g_preV hK hN hG (x := (13, (u).toNatClampNeg, 0)) ⟨(by rw [g_cl]; omega), rfl⟩ (q := (RX0, TX0, 6)) (x_at_13 cy L ns kk ((u).toNatClampNeg) (0) (σ (13, (u).toNatClampNeg, 0))) rfl) rfl rfl hl.1 rfl (lv_room (Nat.le_of_ble_eq_true rfl)) dX6_segment_23 ⟨Nat.zero_le _, Nat.zero_le _⟩) hS (fun H locs hG hS => ?_)
    refine W.eq (g2 := F0 m 26 ls [.int (x_tellSeg σ ((u).toNatClampNeg) (p) (w))]) rfl ?_
    exact s_iret hx hb hr hlk hG hS dX6_segment_26 (by unfold x_segmentR; (repeat' split) <;> first | rfl | (exfalso; omega)) rfl
  · rw [if_neg c_2_1]
    refine lv_astoreN (lv' := [(4, .null), (0, .ref (L (0, 0, 0))), (1, .int (u)), (2, .int (p)), (3, .int (w))]) hx hb dX6_segment_5 hl (by decide) rfl (fun ls hl => ?_)
    refine lv_aloadN hx hb dX6_segment_7 (lv_at hl 0 rfl) ?_
    refine lv_ifnonnullN hx hb dX6_segment_9 ?_
    refine lv_iconst (v := (-1)) hx hb dX6_segment_12 (by decide) ?_
    refine lv_goto (tgt := 26) hx hb dX6_segment_13 (by decide) ?_
    exact s_iret hx hb hr hlk hG hS dX6_segment_26 (by unfold x_segmentR; (repeat' split) <;> first | rfl | (exfalso; omega)) rfl
set_option maxHeartbeats 4000000 in
set_option maxRecDepth 100000 in
theorem c_X6_at (l : Launch) (D : va_G) (cy : Nat → ClassId) (L : g_S → Nat) (ns : Nat) (kk : Nat → Nat) (σ : g_S → Nat → Int32) (u p : Int32) (hI : x_I ns kk σ) : x_Met l D cy L ns kk yX6_at (.code yX6_at cX6_at 4 (some .int)) 1 σ [.ref (L (0, 0, 0)), .int (u), .int (p)] (some (.int (x_atR σ ns u p))) σ := by
  refine g_Met.of (by decide) (Nat.le_of_ble_eq_true rfl) ?_
  intro pg e s m below meth c hx hb hr hlk hml hown hts hK hN H locs hG hS ls hl
  have hown : s.vm.findClass RX6 = some m.cls := hown
  have hl : lv_has ls 4 [(0, .ref (L (0, 0, 0))), (1, .int (u)), (2, .int (p))] := hl
  obtain ⟨⟨h0, hn⟩, ⟨q0, q40⟩, ⟨hs, h8⟩, hkA, hz4, hzA, hcA, hpA, htA⟩ := hI
  refine lv_aload_n hx hb dX6_at_0 rfl (lv_at hl 0 rfl) ?_
  refine lv_iload_n hx hb dX6_at_1 rfl (lv_at hl 1 rfl) ?_
  refine g_cont (va_runV (As := [.int (u)]) (rest := []) ⟨hx, hb, hml, hown, hts⟩ (c_X6_everOpened l D cy L ns kk σ (u) hs h8) (cwV 1 hts gV_X6_106 rfl rfl rfl (by decide +kernel) ⟨Nat.le_of_ble_eq_true rfl, Nat.le_of_ble_eq_true rfl⟩) (g_preV hK hN hG (x := (0, 0, 0)) ⟨rfl, rfl⟩ (q := (RX6, TX6, 4)) (x_at_0 cy L ns kk (0) (0) (σ (0, 0, 0))) rfl) rfl rfl hl.1 rfl (lv_room (Nat.le_of_ble_eq_true rfl)) dX6_at_2 ⟨Nat.zero_le _, Nat.zero_le _⟩) hS (fun H locs hG hS => ?_)
  refine W.eq (g2 := F0 m 5 ls [(if 0 ≤ (u).toInt ∧ (u).toInt < (ns : Int) then .ref (L (11, (u).toNatClampNeg, 0)) else .null)]) rfl ?_
  by_cases c_2_1 : 0 ≤ (u).toInt ∧ (u).toInt < (ns : Int)
  · rw [if_pos c_2_1]
    refine lv_astore_n (lv' := [(3, .ref (L (11, (u).toNatClampNeg, 0))), (0, .ref (L (0, 0, 0))), (1, .int (u)), (2, .int (p))]) hx hb dX6_at_5 rfl hl (by decide) rfl (fun ls hl => ?_)
    refine lv_aload_n hx hb dX6_at_6 rfl (lv_at hl 0 rfl) ?_
    refine lv_ifnonnull (tgt := 14) hx hb dX6_at_7 (by decide) ?_
    refine lv_aload_n hx hb dX6_at_14 rfl (lv_at hl 0 rfl) ?_
    refine g_cont (va_runV (As := []) (rest := []) ⟨hx, hb, hml, hown, hts⟩ (c_X5_presented l D cy L ns kk σ ((u).toNatClampNeg) (by rw [g_cl]; omega)) (cwV 0 hts gV_X6_86 rfl rfl rfl (by decide +kernel) ⟨Nat.le_of_ble_eq_true rfl, Nat.le_of_ble_eq_true rfl⟩) (g_preV hK hN hG (x := (11, (u).toNatClampNeg, 0)) ⟨(by rw [g_cl]; omega), rfl⟩ (q := (RX5, TX5, 7)) (x_at_11 cy L ns kk ((u).toNatClampNeg) (0) (σ (11, (u).toNatClampNeg, 0))) rfl) rfl rfl hl.1 rfl (lv_room (Nat.le_of_ble_eq_true rfl)) dX6_at_15 ⟨Nat.zero_le _, Nat.zero_le _⟩) hS (fun H locs hG hS => ?_)
    refine W.eq (g2 := F0 m 18 ls [.ref (L (13, (u).toNatClampNeg, 0))]) rfl ?_
    refine lv_iload_n hx hb dX6_at_18 rfl (lv_at hl 3 rfl) ?_
    refine g_cont (va_runV (As := [.int (p)]) (rest := []) ⟨hx, hb, hml, hown, hts⟩ (c_X0_recordAt l D cy L ns kk σ ((u).toNatClampNeg) (by rw [g_cl]; omega) (p) (hpA _ (by rw [g_cl]; omega)).2.2) (cwV 1 hts gV_X6_113 rfl rfl rfl (by decide +kernel) ⟨Nat.le_of_ble_eq_true rfl, Nat.le_of_ble_eq_true rfl⟩) (g_preV hK hN hG (x := (13, (u).toNatClampNeg, 0)) ⟨(by rw [g_cl]; omega), rfl⟩ (q := (RX0, TX0, 6)) (x_at_13 cy L ns kk ((u).toNatClampNeg) (0) (σ (13, (u).toNatClampNeg, 0))) rfl) rfl rfl hl.1 rfl (lv_room (Nat.le_of_ble_eq_true rfl)) dX6_at_19 ⟨Nat.zero_le _, Nat.zero_le _⟩) hS (fun H locs hG hS => ?_)
    refine W.eq (g2 := F0 m 22 ls [.int (x_preAt σ ((u).toNatClampNeg) (p))]) rfl ?_
    exact s_iret hx hb hr hlk hG hS dX6_at_22 (by unfold x_atR; (repeat' split) <;> first | rfl | (exfalso; omega)) rfl
  · rw [if_neg c_2_1]
    refine lv_astore_nN (lv' := [(3, .null), (0, .ref (L (0, 0, 0))), (1, .int (u)), (2, .int (p))]) hx hb dX6_at_5 rfl hl (by decide) rfl (fun ls hl => ?_)
    refine lv_aload_nN hx hb dX6_at_6 rfl (lv_at hl 0 rfl) ?_
    refine lv_ifnonnullN hx hb dX6_at_7 ?_
    refine lv_iconst (v := (-1)) hx hb dX6_at_10 (by decide) ?_
    refine lv_goto (tgt := 22) hx hb dX6_at_11 (by decide) ?_
    exact s_iret hx hb hr hlk hG hS dX6_at_22 (by unfold x_atR; (repeat' split) <;> first | rfl | (exfalso; omega)) rfl
set_option maxHeartbeats 4000000 in
set_option maxRecDepth 100000 in
theorem c_X6_sort (l : Launch) (D : va_G) (cy : Nat → ClassId) (L : g_S → Nat) (ns : Nat) (kk : Nat → Nat) (σ : g_S → Nat → Int32) (u v x down : Int32) (hI : x_I ns kk σ) : x_Met l D cy L ns kk yX6_sort (.code yX6_sort cX6_sort 7 (some .int)) 3 σ [.ref (L (0, 0, 0)), .int (u), .int (v), .int (x), .int (down)] (some (.int (x_sortR σ ns kk u v x down))) (x_sortM σ ns kk u v x down) := by
  refine g_Met.of (by decide) (Nat.le_of_ble_eq_true rfl) ?_
  intro pg e s m below meth c hx hb hr hlk hml hown hts hK hN H locs hG hS ls hl
  have hown : s.vm.findClass RX6 = some m.cls := hown
  have hl : lv_has ls 7 [(0, .ref (L (0, 0, 0))), (1, .int (u)), (2, .int (v)), (3, .int (x)), (4, .int (down))] := hl
  obtain ⟨⟨h0, hn⟩, ⟨q0, q40⟩, ⟨hs, h8⟩, hkA, hz4, hzA, hcA, hpA, htA⟩ := hI
  refine lv_aload_n hx hb dX6_sort_0 rfl (lv_at hl 0 rfl) ?_
  refine lv_iload_n hx hb dX6_sort_1 rfl (lv_at hl 1 rfl) ?_
  refine g_cont (va_runV (As := [.int (u)]) (rest := []) ⟨hx, hb, hml, hown, hts⟩ (c_X6_openSession l D cy L ns kk σ (u) hs h8 hz4) (cwV 1 hts gV_X6_51 rfl rfl rfl (by decide +kernel) ⟨Nat.le_of_ble_eq_true rfl, Nat.le_of_ble_eq_true rfl⟩) (g_preV hK hN hG (x := (0, 0, 0)) ⟨rfl, rfl⟩ (q := (RX6, TX6, 4)) (x_at_0 cy L ns kk (0) (0) (σ (0, 0, 0))) rfl) rfl rfl hl.1 rfl (lv_room (Nat.le_of_ble_eq_true rfl)) dX6_sort_2 ⟨Nat.zero_le _, Nat.zero_le _⟩) hS (fun H locs hG hS => ?_)
  refine W.eq (g2 := F0 m 5 ls [(if (0 ≤ (u).toInt ∧ (u).toInt < (ns : Int)) ∧ ¬ (σ (11, (u).toNatClampNeg, 0) 4).toInt = 0 then .ref (L (11, (u).toNatClampNeg, 0)) else .null)]) rfl ?_
  by_cases c_2_1 : (0 ≤ (u).toInt ∧ (u).toInt < (ns : Int)) ∧ ¬ (σ (11, (u).toNatClampNeg, 0) 4).toInt = 0
  · rw [if_pos c_2_1]
    refine lv_astore (lv' := [(5, .ref (L (11, (u).toNatClampNeg, 0))), (0, .ref (L (0, 0, 0))), (1, .int (u)), (2, .int (v)), (3, .int (x)), (4, .int (down))]) hx hb dX6_sort_5 hl (by decide) rfl (fun ls hl => ?_)
    refine lv_aload hx hb dX6_sort_7 (lv_at hl 0 rfl) ?_
    refine lv_ifnonnull (tgt := 15) hx hb dX6_sort_9 (by decide) ?_
    refine lv_aload hx hb dX6_sort_15 (lv_at hl 0 rfl) ?_
    refine lv_iconst (v := 1) hx hb dX6_sort_17 (by decide) ?_
    refine g_cont (va_runV (As := [.int 1]) (rest := []) ⟨hx, hb, hml, hown, hts⟩ (c_X5_may l D cy L ns kk σ ((u).toNatClampNeg) (by rw [g_cl]; omega) (1)) (cwV 1 hts gV_X6_114 rfl rfl rfl (by decide +kernel) ⟨Nat.le_of_ble_eq_true rfl, Nat.le_of_ble_eq_true rfl⟩) (g_preV hK hN hG (x := (11, (u).toNatClampNeg, 0)) ⟨(by rw [g_cl]; omega), rfl⟩ (q := (RX5, TX5, 7)) (x_at_11 cy L ns kk ((u).toNatClampNeg) (0) (σ (11, (u).toNatClampNeg, 0))) rfl) rfl rfl hl.1 rfl (lv_room (Nat.le_of_ble_eq_true rfl)) dX6_sort_18 ⟨Nat.zero_le _, Nat.zero_le _⟩) hS (fun H locs hG hS => ?_)
    refine W.eq (g2 := F0 m 21 ls [.int (g_b (¬ (σ (11, (u).toNatClampNeg, 0) 0 &&& (1)).toInt = 0))]) rfl ?_
    refine kz_b_ne (tgt := 32) hx hb dX6_sort_21 (by decide) (fun c_21_2 => ?_) (fun c_21_2 => ?_)
    · refine lv_aload hx hb dX6_sort_32 (lv_at hl 0 rfl) ?_
      refine lv_iload_n hx hb dX6_sort_34 rfl (lv_at hl 3 rfl) ?_
      refine g_cont (va_runV (As := [.int (v)]) (rest := []) ⟨hx, hb, hml, hown, hts⟩ (c_X5_madeSet l D cy L ns kk σ ((u).toNatClampNeg) (by rw [g_cl]; omega) (v) (hkA _ (by rw [g_cl]; omega)) (hzA _ (by rw [g_cl]; omega))) (cwV 1 hts gV_X6_83 rfl rfl rfl (by decide +kernel) ⟨Nat.le_of_ble_eq_true rfl, Nat.le_of_ble_eq_true rfl⟩) (g_preV hK hN hG (x := (11, (u).toNatClampNeg, 0)) ⟨(by rw [g_cl]; omega), rfl⟩ (q := (RX5, TX5, 7)) (x_at_11 cy L ns kk ((u).toNatClampNeg) (0) (σ (11, (u).toNatClampNeg, 0))) rfl) rfl rfl hl.1 rfl (lv_room (Nat.le_of_ble_eq_true rfl)) dX6_sort_35 ⟨Nat.zero_le _, Nat.zero_le _⟩) hS (fun H locs hG hS => ?_)
      refine W.eq (g2 := F0 m 38 ls [(if (0 ≤ (v).toInt ∧ (v).toInt < ((kk (u).toNatClampNeg : Nat) : Int)) ∧ ¬ (σ (18, (u).toNatClampNeg, (v).toNatClampNeg) 2).toInt = 0 then .ref (L (18, (u).toNatClampNeg, (v).toNatClampNeg)) else .null)]) rfl ?_
      by_cases c_35_3 : (0 ≤ (v).toInt ∧ (v).toInt < ((kk (u).toNatClampNeg : Nat) : Int)) ∧ ¬ (σ (18, (u).toNatClampNeg, (v).toNatClampNeg) 2).toInt = 0
      · rw [if_pos c_35_3]
        have hc9 := hcA (u).toNatClampNeg (by rw [g_cl]; omega) (v).toNatClampNeg (by rw [g_cl]; omega)
        refine lv_astore (lv' := [(6, .ref (L (18, (u).toNatClampNeg, (v).toNatClampNeg))), (5, .ref (L (11, (u).toNatClampNeg, 0))), (0, .ref (L (0, 0, 0))), (1, .int (u)), (2, .int (v)), (3, .int (x)), (4, .int (down))]) hx hb dX6_sort_38 hl (by decide) rfl (fun ls hl => ?_)
        refine lv_aload hx hb dX6_sort_40 (lv_at hl 0 rfl) ?_
        refine lv_ifnonnull (tgt := 53) hx hb dX6_sort_42 (by decide) ?_
        refine lv_iload_n hx hb dX6_sort_53 rfl (lv_at hl 5 rfl) ?_
        refine g_cont (va_runS (As := [.int (x)]) (rest := []) ⟨hx, hb, hml, hown, hts⟩ (c_X6_isIndex l D cy L ns kk σ (x)) (cwS 1 hts gS_X6_117 rfl rfl rfl (by decide +kernel) ⟨Nat.le_of_ble_eq_true rfl, Nat.le_of_ble_eq_true rfl⟩) (g_preS hK hN hG) rfl rfl hl.1 rfl (lv_room (Nat.le_of_ble_eq_true rfl)) dX6_sort_54 ⟨Nat.zero_le _, Nat.zero_le _⟩) hS (fun H locs hG hS => ?_)
        refine W.eq (g2 := F0 m 57 ls [.int (g_b (0 ≤ (x).toInt ∧ (x).toInt < 5))]) rfl ?_
        refine kz_b_ne (tgt := 68) hx hb dX6_sort_57 (by decide) (fun c_57_4 => ?_) (fun c_57_4 => ?_)
        · refine lv_aload hx hb dX6_sort_68 (lv_at hl 0 rfl) ?_
          refine lv_aload_n hx hb dX6_sort_70 rfl (lv_at hl 2 rfl) ?_
          refine g_get (C := RX6) (T := TX6) (N := 4) (v := .ref (L (1, 0, 0))) hx hb hts inX6g hown hK hG (0, 0, 0) ⟨rfl, rfl⟩ (x_at_0 cy L ns kk (0) (0) (σ (0, 0, 0))) rfl 0 (by decide) fl_X6_10 rfl dX6_sort_71 ?_
          refine lv_iload_n hx hb dX6_sort_74 rfl (lv_at hl 5 rfl) ?_
          refine lv_iload hx hb dX6_sort_75 (lv_at hl 6 rfl) ?_
          refine g_cont (va_runV (As := [.ref (L (1, 0, 0)), .int (x), .int (down)]) (rest := []) ⟨hx, hb, hml, hown, hts⟩ (c_X3_putInOrder l D cy L ns kk σ ((u).toNatClampNeg) ((v).toNatClampNeg) (by rw [g_cl]; omega) (by rw [g_cl]; omega) (x) (down) hn (hcA _ (by rw [g_cl]; omega) _ (by rw [g_cl]; omega)).1 (hcA _ (by rw [g_cl]; omega) _ (by rw [g_cl]; omega)).2) (cwV 3 hts gV_X6_120 rfl rfl rfl (by decide +kernel) ⟨Nat.le_of_ble_eq_true rfl, Nat.le_of_ble_eq_true rfl⟩) (g_preV hK hN hG (x := (18, (u).toNatClampNeg, (v).toNatClampNeg)) ⟨(by rw [g_cl]; omega), (by rw [g_cl]; omega)⟩ (q := (RX3, TX3, 3)) (x_at_18 cy L ns kk ((u).toNatClampNeg) ((v).toNatClampNeg) (σ (18, (u).toNatClampNeg, (v).toNatClampNeg))) rfl) rfl rfl hl.1 rfl (lv_room (Nat.le_of_ble_eq_true rfl)) dX6_sort_77 ⟨Nat.zero_le _, Nat.zero_le _⟩) hS (fun H locs hG hS => ?_)
          refine W.eq (g2 := F0 m 80 ls []) rfl ?_
          refine lv_aload hx hb dX6_sort_80 (lv_at hl 0 rfl) ?_
          refine lv_aload_n hx hb dX6_sort_82 rfl (lv_at hl 2 rfl) ?_
          refine g_get (C := RX6) (T := TX6) (N := 4) (v := .ref (L (1, 0, 0))) hx hb hts inX6g hown hK hG (0, 0, 0) ⟨rfl, rfl⟩ (x_at_0 cy L ns kk (0) (0) ((x_ord σ ((u).toNatClampNeg) ((v).toNatClampNeg) (x) (down)) (0, 0, 0))) rfl 0 (by decide) fl_X6_10 rfl dX6_sort_83 ?_
          refine lv_iload_n hx hb dX6_sort_86 rfl (lv_at hl 5 rfl) ?_
          refine g_cont (va_runV (As := [.ref (L (1, 0, 0)), .int (x)]) (rest := []) ⟨hx, hb, hml, hown, hts⟩ (c_X3_countWithoutTerm l D cy L ns kk (x_ord σ ((u).toNatClampNeg) ((v).toNatClampNeg) (x) (down)) ((u).toNatClampNeg) ((v).toNatClampNeg) (by rw [g_cl]; omega) (by rw [g_cl]; omega) (x) (by rw [x_ord_row (by simp)]; exact hn) (by rw [x_ord_row (by simp)]; exact hc9.2)) (cwV 2 hts gV_X6_124 rfl rfl rfl (by decide +kernel) ⟨Nat.le_of_ble_eq_true rfl, Nat.le_of_ble_eq_true rfl⟩) (g_preV hK hN hG (x := (18, (u).toNatClampNeg, (v).toNatClampNeg)) ⟨(by rw [g_cl]; omega), (by rw [g_cl]; omega)⟩ (q := (RX3, TX3, 3)) (x_at_18 cy L ns kk ((u).toNatClampNeg) ((v).toNatClampNeg) ((x_ord σ ((u).toNatClampNeg) ((v).toNatClampNeg) (x) (down)) (18, (u).toNatClampNeg, (v).toNatClampNeg))) rfl) rfl rfl hl.1 rfl (lv_room (Nat.le_of_ble_eq_true rfl)) dX6_sort_87 ⟨Nat.zero_le _, Nat.zero_le _⟩) hS (fun H locs hG hS => ?_)
          refine W.eq (g2 := F0 m 90 ls [.int (x_cwt (x_ord σ ((u).toNatClampNeg) ((v).toNatClampNeg) (x) (down)) ((u).toNatClampNeg) ((v).toNatClampNeg) (x))]) rfl ?_
          exact s_iret hx hb hr hlk hG hS dX6_sort_90 (by unfold x_sortR; (repeat' split) <;> first | rfl | (exfalso; omega)) (by unfold x_sortM; (repeat' split) <;> first | rfl | (exfalso; omega))
        · refine lv_aload hx hb dX6_sort_60 (lv_at hl 1 rfl) ?_
          refine lv_bipush (v := 106) hx hb dX6_sort_62 (by decide) ?_
          refine g_cont (va_runV (As := [.int 106]) (rest := []) ⟨hx, hb, hml, hown, hts⟩ (c_X5_diagnose l D cy L ns kk σ ((u).toNatClampNeg) (by rw [g_cl]; omega) (106) (hkA _ (by rw [g_cl]; omega))) (cwV 1 hts gV_X6_59 rfl rfl rfl (by decide +kernel) ⟨Nat.le_of_ble_eq_true rfl, Nat.le_of_ble_eq_true rfl⟩) (g_preV hK hN hG (x := (11, (u).toNatClampNeg, 0)) ⟨(by rw [g_cl]; omega), rfl⟩ (q := (RX5, TX5, 7)) (x_at_11 cy L ns kk ((u).toNatClampNeg) (0) (σ (11, (u).toNatClampNeg, 0))) rfl) rfl rfl hl.1 rfl (lv_room (Nat.le_of_ble_eq_true rfl)) dX6_sort_64 ⟨Nat.zero_le _, Nat.zero_le _⟩) hS (fun H locs hG hS => ?_)
          refine W.eq (g2 := F0 m 67 ls [.int (-(106))]) rfl ?_
          exact s_iret hx hb hr hlk hG hS dX6_sort_67 (by unfold x_sortR; (repeat' split) <;> first | rfl | (exfalso; omega)) (by unfold x_sortM; (repeat' split) <;> first | rfl | (exfalso; omega))
      · rw [if_neg c_35_3]
        refine lv_astoreN (lv' := [(6, .null), (5, .ref (L (11, (u).toNatClampNeg, 0))), (0, .ref (L (0, 0, 0))), (1, .int (u)), (2, .int (v)), (3, .int (x)), (4, .int (down))]) hx hb dX6_sort_38 hl (by decide) rfl (fun ls hl => ?_)
        refine lv_aloadN hx hb dX6_sort_40 (lv_at hl 0 rfl) ?_
        refine lv_ifnonnullN hx hb dX6_sort_42 ?_
        refine lv_aload hx hb dX6_sort_45 (lv_at hl 1 rfl) ?_
        refine lv_bipush (v := 104) hx hb dX6_sort_47 (by decide) ?_
        refine g_cont (va_runV (As := [.int 104]) (rest := []) ⟨hx, hb, hml, hown, hts⟩ (c_X5_diagnose l D cy L ns kk σ ((u).toNatClampNeg) (by rw [g_cl]; omega) (104) (hkA _ (by rw [g_cl]; omega))) (cwV 1 hts gV_X6_59 rfl rfl rfl (by decide +kernel) ⟨Nat.le_of_ble_eq_true rfl, Nat.le_of_ble_eq_true rfl⟩) (g_preV hK hN hG (x := (11, (u).toNatClampNeg, 0)) ⟨(by rw [g_cl]; omega), rfl⟩ (q := (RX5, TX5, 7)) (x_at_11 cy L ns kk ((u).toNatClampNeg) (0) (σ (11, (u).toNatClampNeg, 0))) rfl) rfl rfl hl.1 rfl (lv_room (Nat.le_of_ble_eq_true rfl)) dX6_sort_49 ⟨Nat.zero_le _, Nat.zero_le _⟩) hS (fun H locs hG hS => ?_)
        refine W.eq (g2 := F0 m 52 ls [.int (-(104))]) rfl ?_
        exact s_iret hx hb hr hlk hG hS dX6_sort_52 (by unfold x_sortR; (repeat' split) <;> first | rfl | (exfalso; omega)) (by unfold x_sortM; (repeat' split) <;> first | rfl | (exfalso; omega))
    · refine lv_aload hx hb dX6_sort_24 (lv_at hl 0 rfl) ?_
      refine lv_bipush (v := 102) hx hb dX6_sort_26 (by decide) ?_
      refine g_cont (va_runV (As := [.int 102]) (rest := []) ⟨hx, hb, hml, hown, hts⟩ (c_X5_diagnose l D cy L ns kk σ ((u).toNatClampNeg) (by rw [g_cl]; omega) (102) (hkA _ (by rw [g_cl]; omega))) (cwV 1 hts gV_X6_59 rfl rfl rfl (by decide +kernel) ⟨Nat.le_of_ble_eq_true rfl, Nat.le_of_ble_eq_true rfl⟩) (g_preV hK hN hG (x := (11, (u).toNatClampNeg, 0)) ⟨(by rw [g_cl]; omega), rfl⟩ (q := (RX5, TX5, 7)) (x_at_11 cy L ns kk ((u).toNatClampNeg) (0) (σ (11, (u).toNatClampNeg, 0))) rfl) rfl rfl hl.1 rfl (lv_room (Nat.le_of_ble_eq_true rfl)) dX6_sort_28 ⟨Nat.zero_le _, Nat.zero_le _⟩) hS (fun H locs hG hS => ?_)
      refine W.eq (g2 := F0 m 31 ls [.int (-(102))]) rfl ?_
      exact s_iret hx hb hr hlk hG hS dX6_sort_31 (by unfold x_sortR; (repeat' split) <;> first | rfl | (exfalso; omega)) (by unfold x_sortM; (repeat' split) <;> first | rfl | (exfalso; omega))
  · rw [if_neg c_2_1]
    refine lv_astoreN (lv' := [(5, .null), (0, .ref (L (0, 0, 0))), (1, .int (u)), (2, .int (v)), (3, .int (x)), (4, .int (down))]) hx hb dX6_sort_5 hl (by decide) rfl (fun ls hl => ?_)
    refine lv_aloadN hx hb dX6_sort_7 (lv_at hl 0 rfl) ?_
    refine lv_ifnonnullN hx hb dX6_sort_9 ?_
    refine lv_bipush (v := (-101)) hx hb dX6_sort_12 (by decide) ?_
    exact s_iret hx hb hr hlk hG hS dX6_sort_14 (by unfold x_sortR; (repeat' split) <;> first | rfl | (exfalso; omega)) (by unfold x_sortM; (repeat' split) <;> first | rfl | (exfalso; omega))
set_option maxHeartbeats 4000000 in
set_option maxRecDepth 100000 in
theorem c_X6_scan (l : Launch) (D : va_G) (cy : Nat → ClassId) (L : g_S → Nat) (ns : Nat) (kk : Nat → Nat) (σ : g_S → Nat → Int32) (u x t nn pl : Int32) (hI : x_I ns kk σ) : x_Met l D cy L ns kk yX6_scan (.code yX6_scan cX6_scan 7 (some .int)) 4 σ [.ref (L (0, 0, 0)), .int (u), .int (x), .int (t), .int (nn), .int (pl)] (some (.int (x_scanR σ ns kk u x t nn pl))) (x_scanM σ ns kk u x t nn pl) := by
  refine g_Met.of (by decide) (Nat.le_of_ble_eq_true rfl) ?_
  intro pg e s m below meth c hx hb hr hlk hml hown hts hK hN H locs hG hS ls hl
  have hown : s.vm.findClass RX6 = some m.cls := hown
  have hl : lv_has ls 7 [(0, .ref (L (0, 0, 0))), (1, .int (u)), (2, .int (x)), (3, .int (t)), (4, .int (nn)), (5, .int (pl))] := hl
  obtain ⟨⟨h0, hn⟩, ⟨q0, q40⟩, ⟨hs, h8⟩, hkA, hz4, hzA, hcA, hpA, htA⟩ := hI
  refine lv_aload_n hx hb dX6_scan_0 rfl (lv_at hl 0 rfl) ?_
  refine lv_iload_n hx hb dX6_scan_1 rfl (lv_at hl 1 rfl) ?_
  refine g_cont (va_runV (As := [.int (u)]) (rest := []) ⟨hx, hb, hml, hown, hts⟩ (c_X6_openSession l D cy L ns kk σ (u) hs h8 hz4) (cwV 1 hts gV_X6_51 rfl rfl rfl (by decide +kernel) ⟨Nat.le_of_ble_eq_true rfl, Nat.le_of_ble_eq_true rfl⟩) (g_preV hK hN hG (x := (0, 0, 0)) ⟨rfl, rfl⟩ (q := (RX6, TX6, 4)) (x_at_0 cy L ns kk (0) (0) (σ (0, 0, 0))) rfl) rfl rfl hl.1 rfl (lv_room (Nat.le_of_ble_eq_true rfl)) dX6_scan_2 ⟨Nat.zero_le _, Nat.zero_le _⟩) hS (fun H locs hG hS => ?_)
  refine W.eq (g2 := F0 m 5 ls [(if (0 ≤ (u).toInt ∧ (u).toInt < (ns : Int)) ∧ ¬ (σ (11, (u).toNatClampNeg, 0) 4).toInt = 0 then .ref (L (11, (u).toNatClampNeg, 0)) else .null)]) rfl ?_
  by_cases c_2_1 : (0 ≤ (u).toInt ∧ (u).toInt < (ns : Int)) ∧ ¬ (σ (11, (u).toNatClampNeg, 0) 4).toInt = 0
  · rw [if_pos c_2_1]
    refine lv_astore (lv' := [(6, .ref (L (11, (u).toNatClampNeg, 0))), (0, .ref (L (0, 0, 0))), (1, .int (u)), (2, .int (x)), (3, .int (t)), (4, .int (nn)), (5, .int (pl))]) hx hb dX6_scan_5 hl (by decide) rfl (fun ls hl => ?_)
    refine lv_aload hx hb dX6_scan_7 (lv_at hl 0 rfl) ?_
    refine lv_ifnonnull (tgt := 15) hx hb dX6_scan_9 (by decide) ?_
    refine lv_aload hx hb dX6_scan_15 (lv_at hl 0 rfl) ?_
    refine lv_iconst (v := 2) hx hb dX6_scan_17 (by decide) ?_
    refine g_cont (va_runV (As := [.int 2]) (rest := []) ⟨hx, hb, hml, hown, hts⟩ (c_X5_may l D cy L ns kk σ ((u).toNatClampNeg) (by rw [g_cl]; omega) (2)) (cwV 1 hts gV_X6_114 rfl rfl rfl (by decide +kernel) ⟨Nat.le_of_ble_eq_true rfl, Nat.le_of_ble_eq_true rfl⟩) (g_preV hK hN hG (x := (11, (u).toNatClampNeg, 0)) ⟨(by rw [g_cl]; omega), rfl⟩ (q := (RX5, TX5, 7)) (x_at_11 cy L ns kk ((u).toNatClampNeg) (0) (σ (11, (u).toNatClampNeg, 0))) rfl) rfl rfl hl.1 rfl (lv_room (Nat.le_of_ble_eq_true rfl)) dX6_scan_18 ⟨Nat.zero_le _, Nat.zero_le _⟩) hS (fun H locs hG hS => ?_)
    refine W.eq (g2 := F0 m 21 ls [.int (g_b (¬ (σ (11, (u).toNatClampNeg, 0) 0 &&& (2)).toInt = 0))]) rfl ?_
    refine kz_b_ne (tgt := 32) hx hb dX6_scan_21 (by decide) (fun c_21_2 => ?_) (fun c_21_2 => ?_)
    · refine lv_iload_n hx hb dX6_scan_32 rfl (lv_at hl 3 rfl) ?_
      refine g_cont (va_runS (As := [.int (x)]) (rest := []) ⟨hx, hb, hml, hown, hts⟩ (c_X6_isIndex l D cy L ns kk σ (x)) (cwS 1 hts gS_X6_117 rfl rfl rfl (by decide +kernel) ⟨Nat.le_of_ble_eq_true rfl, Nat.le_of_ble_eq_true rfl⟩) (g_preS hK hN hG) rfl rfl hl.1 rfl (lv_room (Nat.le_of_ble_eq_true rfl)) dX6_scan_33 ⟨Nat.zero_le _, Nat.zero_le _⟩) hS (fun H locs hG hS => ?_)
      refine W.eq (g2 := F0 m 36 ls [.int (g_b (0 ≤ (x).toInt ∧ (x).toInt < 5))]) rfl ?_
      refine kz_b_ne (tgt := 47) hx hb dX6_scan_36 (by decide) (fun c_36_3 => ?_) (fun c_36_3 => ?_)
      · refine lv_iload_n hx hb dX6_scan_47 rfl (lv_at hl 4 rfl) ?_
        refine g_cont (va_runS (As := [.int (t)]) (rest := []) ⟨hx, hb, hml, hown, hts⟩ (c_X6_isTerm l D cy L ns kk σ (t)) (cwS 1 hts gS_X6_128 rfl rfl rfl (by decide +kernel) ⟨Nat.le_of_ble_eq_true rfl, Nat.le_of_ble_eq_true rfl⟩) (g_preS hK hN hG) rfl rfl hl.1 rfl (lv_room (Nat.le_of_ble_eq_true rfl)) dX6_scan_48 ⟨Nat.zero_le _, Nat.zero_le _⟩) hS (fun H locs hG hS => ?_)
        refine W.eq (g2 := F0 m 51 ls [.int (g_b (0 ≤ (t).toInt ∧ (t).toInt ≤ 999))]) rfl ?_
        refine kz_b_eq (tgt := 79) hx hb dX6_scan_51 (by decide) (fun c_51_4 => ?_) (fun c_51_4 => ?_)
        · refine lv_aload hx hb dX6_scan_79 (lv_at hl 0 rfl) ?_
          refine lv_bipush (v := 107) hx hb dX6_scan_81 (by decide) ?_
          refine g_cont (va_runV (As := [.int 107]) (rest := []) ⟨hx, hb, hml, hown, hts⟩ (c_X5_diagnose l D cy L ns kk σ ((u).toNatClampNeg) (by rw [g_cl]; omega) (107) (hkA _ (by rw [g_cl]; omega))) (cwV 1 hts gV_X6_59 rfl rfl rfl (by decide +kernel) ⟨Nat.le_of_ble_eq_true rfl, Nat.le_of_ble_eq_true rfl⟩) (g_preV hK hN hG (x := (11, (u).toNatClampNeg, 0)) ⟨(by rw [g_cl]; omega), rfl⟩ (q := (RX5, TX5, 7)) (x_at_11 cy L ns kk ((u).toNatClampNeg) (0) (σ (11, (u).toNatClampNeg, 0))) rfl) rfl rfl hl.1 rfl (lv_room (Nat.le_of_ble_eq_true rfl)) dX6_scan_83 ⟨Nat.zero_le _, Nat.zero_le _⟩) hS (fun H locs hG hS => ?_)
          refine W.eq (g2 := F0 m 86 ls [.int (-(107))]) rfl ?_
          exact s_iret hx hb hr hlk hG hS dX6_scan_86 (by unfold x_scanR; (repeat' split) <;> first | rfl | (exfalso; omega)) (by unfold x_scanM; (repeat' split) <;> first | rfl | (exfalso; omega))
        · refine lv_iload hx hb dX6_scan_54 (lv_at hl 5 rfl) ?_
          refine lv_iconst (v := 1) hx hb dX6_scan_56 (by decide) ?_
          refine kz_icmp_lt (X := (nn).toInt) (Y := 1) hx hb rfl (by decide) dX6_scan_57 (tgt := 79) (by decide) (fun c_57_5 => ?_) (fun c_57_5 => ?_)
          · refine lv_aload hx hb dX6_scan_79 (lv_at hl 0 rfl) ?_
            refine lv_bipush (v := 107) hx hb dX6_scan_81 (by decide) ?_
            refine g_cont (va_runV (As := [.int 107]) (rest := []) ⟨hx, hb, hml, hown, hts⟩ (c_X5_diagnose l D cy L ns kk σ ((u).toNatClampNeg) (by rw [g_cl]; omega) (107) (hkA _ (by rw [g_cl]; omega))) (cwV 1 hts gV_X6_59 rfl rfl rfl (by decide +kernel) ⟨Nat.le_of_ble_eq_true rfl, Nat.le_of_ble_eq_true rfl⟩) (g_preV hK hN hG (x := (11, (u).toNatClampNeg, 0)) ⟨(by rw [g_cl]; omega), rfl⟩ (q := (RX5, TX5, 7)) (x_at_11 cy L ns kk ((u).toNatClampNeg) (0) (σ (11, (u).toNatClampNeg, 0))) rfl) rfl rfl hl.1 rfl (lv_room (Nat.le_of_ble_eq_true rfl)) dX6_scan_83 ⟨Nat.zero_le _, Nat.zero_le _⟩) hS (fun H locs hG hS => ?_)
            refine W.eq (g2 := F0 m 86 ls [.int (-(107))]) rfl ?_
            exact s_iret hx hb hr hlk hG hS dX6_scan_86 (by unfold x_scanR; (repeat' split) <;> first | rfl | (exfalso; omega)) (by unfold x_scanM; (repeat' split) <;> first | rfl | (exfalso; omega))
          · refine lv_iload hx hb dX6_scan_60 (lv_at hl 5 rfl) ?_
            refine lv_bipush (v := 20) hx hb dX6_scan_62 (by decide) ?_
            refine kz_icmp_gt (X := (nn).toInt) (Y := 20) hx hb rfl (by decide) dX6_scan_64 (tgt := 79) (by decide) (fun c_64_6 => ?_) (fun c_64_6 => ?_)
            · refine lv_aload hx hb dX6_scan_79 (lv_at hl 0 rfl) ?_
              refine lv_bipush (v := 107) hx hb dX6_scan_81 (by decide) ?_
              refine g_cont (va_runV (As := [.int 107]) (rest := []) ⟨hx, hb, hml, hown, hts⟩ (c_X5_diagnose l D cy L ns kk σ ((u).toNatClampNeg) (by rw [g_cl]; omega) (107) (hkA _ (by rw [g_cl]; omega))) (cwV 1 hts gV_X6_59 rfl rfl rfl (by decide +kernel) ⟨Nat.le_of_ble_eq_true rfl, Nat.le_of_ble_eq_true rfl⟩) (g_preV hK hN hG (x := (11, (u).toNatClampNeg, 0)) ⟨(by rw [g_cl]; omega), rfl⟩ (q := (RX5, TX5, 7)) (x_at_11 cy L ns kk ((u).toNatClampNeg) (0) (σ (11, (u).toNatClampNeg, 0))) rfl) rfl rfl hl.1 rfl (lv_room (Nat.le_of_ble_eq_true rfl)) dX6_scan_83 ⟨Nat.zero_le _, Nat.zero_le _⟩) hS (fun H locs hG hS => ?_)
              refine W.eq (g2 := F0 m 86 ls [.int (-(107))]) rfl ?_
              exact s_iret hx hb hr hlk hG hS dX6_scan_86 (by unfold x_scanR; (repeat' split) <;> first | rfl | (exfalso; omega)) (by unfold x_scanM; (repeat' split) <;> first | rfl | (exfalso; omega))
            · refine lv_iload hx hb dX6_scan_67 (lv_at hl 6 rfl) ?_
              refine kz_if_lt (X := (pl).toInt) hx hb rfl dX6_scan_69 (tgt := 79) (by decide) (fun c_69_7 => ?_) (fun c_69_7 => ?_)
              · refine lv_aload hx hb dX6_scan_79 (lv_at hl 0 rfl) ?_
                refine lv_bipush (v := 107) hx hb dX6_scan_81 (by decide) ?_
                refine g_cont (va_runV (As := [.int 107]) (rest := []) ⟨hx, hb, hml, hown, hts⟩ (c_X5_diagnose l D cy L ns kk σ ((u).toNatClampNeg) (by rw [g_cl]; omega) (107) (hkA _ (by rw [g_cl]; omega))) (cwV 1 hts gV_X6_59 rfl rfl rfl (by decide +kernel) ⟨Nat.le_of_ble_eq_true rfl, Nat.le_of_ble_eq_true rfl⟩) (g_preV hK hN hG (x := (11, (u).toNatClampNeg, 0)) ⟨(by rw [g_cl]; omega), rfl⟩ (q := (RX5, TX5, 7)) (x_at_11 cy L ns kk ((u).toNatClampNeg) (0) (σ (11, (u).toNatClampNeg, 0))) rfl) rfl rfl hl.1 rfl (lv_room (Nat.le_of_ble_eq_true rfl)) dX6_scan_83 ⟨Nat.zero_le _, Nat.zero_le _⟩) hS (fun H locs hG hS => ?_)
                refine W.eq (g2 := F0 m 86 ls [.int (-(107))]) rfl ?_
                exact s_iret hx hb hr hlk hG hS dX6_scan_86 (by unfold x_scanR; (repeat' split) <;> first | rfl | (exfalso; omega)) (by unfold x_scanM; (repeat' split) <;> first | rfl | (exfalso; omega))
              · refine lv_iload hx hb dX6_scan_72 (lv_at hl 6 rfl) ?_
                refine lv_bipush (v := 9) hx hb dX6_scan_74 (by decide) ?_
                refine kz_icmp_le (X := (pl).toInt) (Y := 9) hx hb rfl (by decide) dX6_scan_76 (tgt := 87) (by decide) (fun c_76_8 => ?_) (fun c_76_8 => ?_)
                · refine lv_aload_n hx hb dX6_scan_87 rfl (lv_at hl 1 rfl) ?_
                  refine g_get (C := RX6) (T := TX6) (N := 4) (v := .ref (L (1, 0, 0))) hx hb hts inX6g hown hK hG (0, 0, 0) ⟨rfl, rfl⟩ (x_at_0 cy L ns kk (0) (0) (σ (0, 0, 0))) rfl 0 (by decide) fl_X6_10 rfl dX6_scan_88 ?_
                  refine lv_iload_n hx hb dX6_scan_91 rfl (lv_at hl 3 rfl) ?_
                  refine lv_iconst (v := 0) hx hb dX6_scan_92 (by decide) ?_
                  refine g_cont (va_runV (As := [.int (x), .int 0]) (rest := []) ⟨hx, hb, hml, hown, hts⟩ (c_X2_leastTermFrom l D cy L ns kk σ (x) (0) h0 hn) (cwV 2 hts gV_X6_131 rfl rfl rfl (by decide +kernel) ⟨Nat.le_of_ble_eq_true rfl, Nat.le_of_ble_eq_true rfl⟩) (g_preV hK hN hG (x := (1, 0, 0)) ⟨rfl, rfl⟩ (q := (RX2, TX2, 3)) (x_at_1 cy L ns kk (0) (0) (σ (1, 0, 0))) rfl) rfl rfl hl.1 rfl (lv_room (Nat.le_of_ble_eq_true rfl)) dX6_scan_93 ⟨Nat.zero_le _, Nat.zero_le _⟩) hS (fun H locs hG hS => ?_)
                  refine W.eq (g2 := F0 m 96 ls [.int (x_least σ (x) (0))]) rfl ?_
                  refine lv_iconst (v := (-1)) hx hb dX6_scan_96 (by decide) ?_
                  refine kz_icmp_ne (X := (x_least σ (x) (0)).toInt) (Y := (-1)) hx hb rfl (by decide) dX6_scan_97 (tgt := 108) (by decide) (fun c_97_9 => ?_) (fun c_97_9 => ?_)
                  · refine lv_aload hx hb dX6_scan_108 (lv_at hl 0 rfl) ?_
                    refine g_cont (va_runV (As := []) (rest := []) ⟨hx, hb, hml, hown, hts⟩ (c_X5_scannedTerms l D cy L ns kk σ ((u).toNatClampNeg) (by rw [g_cl]; omega)) (cwV 0 hts gV_X6_134 rfl rfl rfl (by decide +kernel) ⟨Nat.le_of_ble_eq_true rfl, Nat.le_of_ble_eq_true rfl⟩) (g_preV hK hN hG (x := (11, (u).toNatClampNeg, 0)) ⟨(by rw [g_cl]; omega), rfl⟩ (q := (RX5, TX5, 7)) (x_at_11 cy L ns kk ((u).toNatClampNeg) (0) (σ (11, (u).toNatClampNeg, 0))) rfl) rfl rfl hl.1 rfl (lv_room (Nat.le_of_ble_eq_true rfl)) dX6_scan_110 ⟨Nat.zero_le _, Nat.zero_le _⟩) hS (fun H locs hG hS => ?_)
                    refine W.eq (g2 := F0 m 113 ls [.ref (L (17, (u).toNatClampNeg, 0))]) rfl ?_
                    refine lv_aload_n hx hb dX6_scan_113 rfl (lv_at hl 1 rfl) ?_
                    refine g_get (C := RX6) (T := TX6) (N := 4) (v := .ref (L (1, 0, 0))) hx hb hts inX6g hown hK hG (0, 0, 0) ⟨rfl, rfl⟩ (x_at_0 cy L ns kk (0) (0) (σ (0, 0, 0))) rfl 0 (by decide) fl_X6_10 rfl dX6_scan_114 ?_
                    refine lv_iload_n hx hb dX6_scan_117 rfl (lv_at hl 3 rfl) ?_
                    refine lv_aload_n hx hb dX6_scan_118 rfl (lv_at hl 1 rfl) ?_
                    refine lv_iload_n hx hb dX6_scan_119 rfl (lv_at hl 3 rfl) ?_
                    refine lv_iload_n hx hb dX6_scan_120 rfl (lv_at hl 4 rfl) ?_
                    refine lv_iload hx hb dX6_scan_121 (lv_at hl 6 rfl) ?_
                    refine g_cont (va_runV (As := [.int (x), .int (t), .int (pl)]) (rest := [.int (x), .ref (L (1, 0, 0)), .ref (L (17, (u).toNatClampNeg, 0))]) ⟨hx, hb, hml, hown, hts⟩ (c_X6_stepBack l D cy L ns kk σ (x) (t) (pl) h0 hn (by omega)) (cwV 3 hts gV_X6_138 rfl rfl rfl (by decide +kernel) ⟨Nat.le_of_ble_eq_true rfl, Nat.le_of_ble_eq_true rfl⟩) (g_preV hK hN hG (x := (0, 0, 0)) ⟨rfl, rfl⟩ (q := (RX6, TX6, 4)) (x_at_0 cy L ns kk (0) (0) (σ (0, 0, 0))) rfl) rfl rfl hl.1 rfl (lv_room (Nat.le_of_ble_eq_true rfl)) dX6_scan_123 ⟨Nat.zero_le _, Nat.zero_le _⟩) hS (fun H locs hG hS => ?_)
                    refine W.eq (g2 := F0 m 126 ls [.int (x_backGo σ (x) (pl).toInt.toNat (t)), .int (x), .ref (L (1, 0, 0)), .ref (L (17, (u).toNatClampNeg, 0))]) rfl ?_
                    refine lv_iload hx hb dX6_scan_126 (lv_at hl 5 rfl) ?_
                    refine g_cont (va_runV (As := [.ref (L (1, 0, 0)), .int (x), .int (x_backGo σ (x) (pl).toInt.toNat (t)), .int (nn)]) (rest := []) ⟨hx, hb, hml, hown, hts⟩ (c_X4_fill l D cy L ns kk σ ((u).toNatClampNeg) (by rw [g_cl]; omega) (x) (x_backGo σ (x) (pl).toInt.toNat (t)) (nn) h0 hn) (cwV 4 hts gV_X6_141 rfl rfl rfl (by decide +kernel) ⟨Nat.le_of_ble_eq_true rfl, Nat.le_of_ble_eq_true rfl⟩) (g_preV hK hN hG (x := (17, (u).toNatClampNeg, 0)) ⟨(by rw [g_cl]; omega), rfl⟩ (q := (RX4, TX4, 3)) (x_at_17 cy L ns kk ((u).toNatClampNeg) (0) (σ (17, (u).toNatClampNeg, 0))) rfl) rfl rfl hl.1 rfl (lv_room (Nat.le_of_ble_eq_true rfl)) dX6_scan_128 ⟨Nat.zero_le _, Nat.zero_le _⟩) hS (fun H locs hG hS => ?_)
                    refine W.eq (g2 := F0 m 131 ls [.int ((x_fillM σ ((u).toNatClampNeg) (x) (x_backGo σ (x) (pl).toInt.toNat (t)) (nn)) (17, (u).toNatClampNeg, 0) 2)]) rfl ?_
                    exact s_iret hx hb hr hlk hG hS dX6_scan_131 (by unfold x_scanR; (repeat' split) <;> first | rfl | (exfalso; omega)) (by unfold x_scanM; (repeat' split) <;> first | rfl | (exfalso; omega))
                  · refine lv_aload hx hb dX6_scan_100 (lv_at hl 0 rfl) ?_
                    refine lv_bipush (v := 108) hx hb dX6_scan_102 (by decide) ?_
                    refine g_cont (va_runV (As := [.int 108]) (rest := []) ⟨hx, hb, hml, hown, hts⟩ (c_X5_diagnose l D cy L ns kk σ ((u).toNatClampNeg) (by rw [g_cl]; omega) (108) (hkA _ (by rw [g_cl]; omega))) (cwV 1 hts gV_X6_59 rfl rfl rfl (by decide +kernel) ⟨Nat.le_of_ble_eq_true rfl, Nat.le_of_ble_eq_true rfl⟩) (g_preV hK hN hG (x := (11, (u).toNatClampNeg, 0)) ⟨(by rw [g_cl]; omega), rfl⟩ (q := (RX5, TX5, 7)) (x_at_11 cy L ns kk ((u).toNatClampNeg) (0) (σ (11, (u).toNatClampNeg, 0))) rfl) rfl rfl hl.1 rfl (lv_room (Nat.le_of_ble_eq_true rfl)) dX6_scan_104 ⟨Nat.zero_le _, Nat.zero_le _⟩) hS (fun H locs hG hS => ?_)
                    refine W.eq (g2 := F0 m 107 ls [.int (-(108))]) rfl ?_
                    exact s_iret hx hb hr hlk hG hS dX6_scan_107 (by unfold x_scanR; (repeat' split) <;> first | rfl | (exfalso; omega)) (by unfold x_scanM; (repeat' split) <;> first | rfl | (exfalso; omega))
                · refine lv_aload hx hb dX6_scan_79 (lv_at hl 0 rfl) ?_
                  refine lv_bipush (v := 107) hx hb dX6_scan_81 (by decide) ?_
                  refine g_cont (va_runV (As := [.int 107]) (rest := []) ⟨hx, hb, hml, hown, hts⟩ (c_X5_diagnose l D cy L ns kk σ ((u).toNatClampNeg) (by rw [g_cl]; omega) (107) (hkA _ (by rw [g_cl]; omega))) (cwV 1 hts gV_X6_59 rfl rfl rfl (by decide +kernel) ⟨Nat.le_of_ble_eq_true rfl, Nat.le_of_ble_eq_true rfl⟩) (g_preV hK hN hG (x := (11, (u).toNatClampNeg, 0)) ⟨(by rw [g_cl]; omega), rfl⟩ (q := (RX5, TX5, 7)) (x_at_11 cy L ns kk ((u).toNatClampNeg) (0) (σ (11, (u).toNatClampNeg, 0))) rfl) rfl rfl hl.1 rfl (lv_room (Nat.le_of_ble_eq_true rfl)) dX6_scan_83 ⟨Nat.zero_le _, Nat.zero_le _⟩) hS (fun H locs hG hS => ?_)
                  refine W.eq (g2 := F0 m 86 ls [.int (-(107))]) rfl ?_
                  exact s_iret hx hb hr hlk hG hS dX6_scan_86 (by unfold x_scanR; (repeat' split) <;> first | rfl | (exfalso; omega)) (by unfold x_scanM; (repeat' split) <;> first | rfl | (exfalso; omega))
      · refine lv_aload hx hb dX6_scan_39 (lv_at hl 0 rfl) ?_
        refine lv_bipush (v := 106) hx hb dX6_scan_41 (by decide) ?_
        refine g_cont (va_runV (As := [.int 106]) (rest := []) ⟨hx, hb, hml, hown, hts⟩ (c_X5_diagnose l D cy L ns kk σ ((u).toNatClampNeg) (by rw [g_cl]; omega) (106) (hkA _ (by rw [g_cl]; omega))) (cwV 1 hts gV_X6_59 rfl rfl rfl (by decide +kernel) ⟨Nat.le_of_ble_eq_true rfl, Nat.le_of_ble_eq_true rfl⟩) (g_preV hK hN hG (x := (11, (u).toNatClampNeg, 0)) ⟨(by rw [g_cl]; omega), rfl⟩ (q := (RX5, TX5, 7)) (x_at_11 cy L ns kk ((u).toNatClampNeg) (0) (σ (11, (u).toNatClampNeg, 0))) rfl) rfl rfl hl.1 rfl (lv_room (Nat.le_of_ble_eq_true rfl)) dX6_scan_43 ⟨Nat.zero_le _, Nat.zero_le _⟩) hS (fun H locs hG hS => ?_)
        refine W.eq (g2 := F0 m 46 ls [.int (-(106))]) rfl ?_
        exact s_iret hx hb hr hlk hG hS dX6_scan_46 (by unfold x_scanR; (repeat' split) <;> first | rfl | (exfalso; omega)) (by unfold x_scanM; (repeat' split) <;> first | rfl | (exfalso; omega))
    · refine lv_aload hx hb dX6_scan_24 (lv_at hl 0 rfl) ?_
      refine lv_bipush (v := 102) hx hb dX6_scan_26 (by decide) ?_
      refine g_cont (va_runV (As := [.int 102]) (rest := []) ⟨hx, hb, hml, hown, hts⟩ (c_X5_diagnose l D cy L ns kk σ ((u).toNatClampNeg) (by rw [g_cl]; omega) (102) (hkA _ (by rw [g_cl]; omega))) (cwV 1 hts gV_X6_59 rfl rfl rfl (by decide +kernel) ⟨Nat.le_of_ble_eq_true rfl, Nat.le_of_ble_eq_true rfl⟩) (g_preV hK hN hG (x := (11, (u).toNatClampNeg, 0)) ⟨(by rw [g_cl]; omega), rfl⟩ (q := (RX5, TX5, 7)) (x_at_11 cy L ns kk ((u).toNatClampNeg) (0) (σ (11, (u).toNatClampNeg, 0))) rfl) rfl rfl hl.1 rfl (lv_room (Nat.le_of_ble_eq_true rfl)) dX6_scan_28 ⟨Nat.zero_le _, Nat.zero_le _⟩) hS (fun H locs hG hS => ?_)
      refine W.eq (g2 := F0 m 31 ls [.int (-(102))]) rfl ?_
      exact s_iret hx hb hr hlk hG hS dX6_scan_31 (by unfold x_scanR; (repeat' split) <;> first | rfl | (exfalso; omega)) (by unfold x_scanM; (repeat' split) <;> first | rfl | (exfalso; omega))
  · rw [if_neg c_2_1]
    refine lv_astoreN (lv' := [(6, .null), (0, .ref (L (0, 0, 0))), (1, .int (u)), (2, .int (x)), (3, .int (t)), (4, .int (nn)), (5, .int (pl))]) hx hb dX6_scan_5 hl (by decide) rfl (fun ls hl => ?_)
    refine lv_aloadN hx hb dX6_scan_7 (lv_at hl 0 rfl) ?_
    refine lv_ifnonnullN hx hb dX6_scan_9 ?_
    refine lv_bipush (v := (-101)) hx hb dX6_scan_12 (by decide) ?_
    exact s_iret hx hb hr hlk hG hS dX6_scan_14 (by unfold x_scanR; (repeat' split) <;> first | rfl | (exfalso; omega)) (by unfold x_scanM; (repeat' split) <;> first | rfl | (exfalso; omega))
set_option maxHeartbeats 4000000 in
set_option maxRecDepth 100000 in
theorem c_X6_drop (l : Launch) (D : va_G) (cy : Nat → ClassId) (L : g_S → Nat) (ns : Nat) (kk : Nat → Nat) (σ : g_S → Nat → Int32) (u v : Int32) (hI : x_I ns kk σ) : x_Met l D cy L ns kk yX6_drop (.code yX6_drop cX6_drop 5 (some .int)) 3 σ [.ref (L (0, 0, 0)), .int (u), .int (v)] (some (.int (x_dropR σ ns kk u v))) (x_dropM σ ns kk u v) := by
  refine g_Met.of (by decide) (Nat.le_of_ble_eq_true rfl) ?_
  intro pg e s m below meth c hx hb hr hlk hml hown hts hK hN H locs hG hS ls hl
  have hown : s.vm.findClass RX6 = some m.cls := hown
  have hl : lv_has ls 5 [(0, .ref (L (0, 0, 0))), (1, .int (u)), (2, .int (v))] := hl
  obtain ⟨⟨h0, hn⟩, ⟨q0, q40⟩, ⟨hs, h8⟩, hkA, hz4, hzA, hcA, hpA, htA⟩ := hI
  refine lv_aload_n hx hb dX6_drop_0 rfl (lv_at hl 0 rfl) ?_
  refine lv_iload_n hx hb dX6_drop_1 rfl (lv_at hl 1 rfl) ?_
  refine g_cont (va_runV (As := [.int (u)]) (rest := []) ⟨hx, hb, hml, hown, hts⟩ (c_X6_openSession l D cy L ns kk σ (u) hs h8 hz4) (cwV 1 hts gV_X6_51 rfl rfl rfl (by decide +kernel) ⟨Nat.le_of_ble_eq_true rfl, Nat.le_of_ble_eq_true rfl⟩) (g_preV hK hN hG (x := (0, 0, 0)) ⟨rfl, rfl⟩ (q := (RX6, TX6, 4)) (x_at_0 cy L ns kk (0) (0) (σ (0, 0, 0))) rfl) rfl rfl hl.1 rfl (lv_room (Nat.le_of_ble_eq_true rfl)) dX6_drop_2 ⟨Nat.zero_le _, Nat.zero_le _⟩) hS (fun H locs hG hS => ?_)
  refine W.eq (g2 := F0 m 5 ls [(if (0 ≤ (u).toInt ∧ (u).toInt < (ns : Int)) ∧ ¬ (σ (11, (u).toNatClampNeg, 0) 4).toInt = 0 then .ref (L (11, (u).toNatClampNeg, 0)) else .null)]) rfl ?_
  by_cases c_2_1 : (0 ≤ (u).toInt ∧ (u).toInt < (ns : Int)) ∧ ¬ (σ (11, (u).toNatClampNeg, 0) 4).toInt = 0
  · rw [if_pos c_2_1]
    refine lv_astore_n (lv' := [(3, .ref (L (11, (u).toNatClampNeg, 0))), (0, .ref (L (0, 0, 0))), (1, .int (u)), (2, .int (v))]) hx hb dX6_drop_5 rfl hl (by decide) rfl (fun ls hl => ?_)
    refine lv_aload_n hx hb dX6_drop_6 rfl (lv_at hl 0 rfl) ?_
    refine lv_ifnonnull (tgt := 13) hx hb dX6_drop_7 (by decide) ?_
    refine lv_aload_n hx hb dX6_drop_13 rfl (lv_at hl 0 rfl) ?_
    refine lv_iload_n hx hb dX6_drop_14 rfl (lv_at hl 3 rfl) ?_
    refine g_cont (va_runV (As := [.int (v)]) (rest := []) ⟨hx, hb, hml, hown, hts⟩ (c_X5_madeSet l D cy L ns kk σ ((u).toNatClampNeg) (by rw [g_cl]; omega) (v) (hkA _ (by rw [g_cl]; omega)) (hzA _ (by rw [g_cl]; omega))) (cwV 1 hts gV_X6_83 rfl rfl rfl (by decide +kernel) ⟨Nat.le_of_ble_eq_true rfl, Nat.le_of_ble_eq_true rfl⟩) (g_preV hK hN hG (x := (11, (u).toNatClampNeg, 0)) ⟨(by rw [g_cl]; omega), rfl⟩ (q := (RX5, TX5, 7)) (x_at_11 cy L ns kk ((u).toNatClampNeg) (0) (σ (11, (u).toNatClampNeg, 0))) rfl) rfl rfl hl.1 rfl (lv_room (Nat.le_of_ble_eq_true rfl)) dX6_drop_15 ⟨Nat.zero_le _, Nat.zero_le _⟩) hS (fun H locs hG hS => ?_)
    refine W.eq (g2 := F0 m 18 ls [(if (0 ≤ (v).toInt ∧ (v).toInt < ((kk (u).toNatClampNeg : Nat) : Int)) ∧ ¬ (σ (18, (u).toNatClampNeg, (v).toNatClampNeg) 2).toInt = 0 then .ref (L (18, (u).toNatClampNeg, (v).toNatClampNeg)) else .null)]) rfl ?_
    by_cases c_15_2 : (0 ≤ (v).toInt ∧ (v).toInt < ((kk (u).toNatClampNeg : Nat) : Int)) ∧ ¬ (σ (18, (u).toNatClampNeg, (v).toNatClampNeg) 2).toInt = 0
    · rw [if_pos c_15_2]
      have hc9 := hcA (u).toNatClampNeg (by rw [g_cl]; omega) (v).toNatClampNeg (by rw [g_cl]; omega)
      refine lv_astore (lv' := [(4, .ref (L (18, (u).toNatClampNeg, (v).toNatClampNeg))), (3, .ref (L (11, (u).toNatClampNeg, 0))), (0, .ref (L (0, 0, 0))), (1, .int (u)), (2, .int (v))]) hx hb dX6_drop_18 hl (by decide) rfl (fun ls hl => ?_)
      refine lv_aload hx hb dX6_drop_20 (lv_at hl 0 rfl) ?_
      refine lv_ifnonnull (tgt := 32) hx hb dX6_drop_22 (by decide) ?_
      refine lv_aload hx hb dX6_drop_32 (lv_at hl 0 rfl) ?_
      refine g_cont (va_runV (As := []) (rest := []) ⟨hx, hb, hml, hown, hts⟩ (c_X3_forget l D cy L ns kk σ ((u).toNatClampNeg) ((v).toNatClampNeg) (by rw [g_cl]; omega) (by rw [g_cl]; omega)) (cwV 0 hts gV_X6_158 rfl rfl rfl (by decide +kernel) ⟨Nat.le_of_ble_eq_true rfl, Nat.le_of_ble_eq_true rfl⟩) (g_preV hK hN hG (x := (18, (u).toNatClampNeg, (v).toNatClampNeg)) ⟨(by rw [g_cl]; omega), (by rw [g_cl]; omega)⟩ (q := (RX3, TX3, 3)) (x_at_18 cy L ns kk ((u).toNatClampNeg) ((v).toNatClampNeg) (σ (18, (u).toNatClampNeg, (v).toNatClampNeg))) rfl) rfl rfl hl.1 rfl (lv_room (Nat.le_of_ble_eq_true rfl)) dX6_drop_34 ⟨Nat.zero_le _, Nat.zero_le _⟩) hS (fun H locs hG hS => ?_)
      refine W.eq (g2 := F0 m 37 ls []) rfl ?_
      refine lv_iconst (v := 1) hx hb dX6_drop_37 (by decide) ?_
      exact s_iret hx hb hr hlk hG hS dX6_drop_38 (by unfold x_dropR; (repeat' split) <;> first | rfl | (exfalso; omega)) (by unfold x_dropM; (repeat' split) <;> first | rfl | (exfalso; omega))
    · rw [if_neg c_15_2]
      refine lv_astoreN (lv' := [(4, .null), (3, .ref (L (11, (u).toNatClampNeg, 0))), (0, .ref (L (0, 0, 0))), (1, .int (u)), (2, .int (v))]) hx hb dX6_drop_18 hl (by decide) rfl (fun ls hl => ?_)
      refine lv_aloadN hx hb dX6_drop_20 (lv_at hl 0 rfl) ?_
      refine lv_ifnonnullN hx hb dX6_drop_22 ?_
      refine lv_aload_n hx hb dX6_drop_25 rfl (lv_at hl 1 rfl) ?_
      refine lv_bipush (v := 104) hx hb dX6_drop_26 (by decide) ?_
      refine g_cont (va_runV (As := [.int 104]) (rest := []) ⟨hx, hb, hml, hown, hts⟩ (c_X5_diagnose l D cy L ns kk σ ((u).toNatClampNeg) (by rw [g_cl]; omega) (104) (hkA _ (by rw [g_cl]; omega))) (cwV 1 hts gV_X6_59 rfl rfl rfl (by decide +kernel) ⟨Nat.le_of_ble_eq_true rfl, Nat.le_of_ble_eq_true rfl⟩) (g_preV hK hN hG (x := (11, (u).toNatClampNeg, 0)) ⟨(by rw [g_cl]; omega), rfl⟩ (q := (RX5, TX5, 7)) (x_at_11 cy L ns kk ((u).toNatClampNeg) (0) (σ (11, (u).toNatClampNeg, 0))) rfl) rfl rfl hl.1 rfl (lv_room (Nat.le_of_ble_eq_true rfl)) dX6_drop_28 ⟨Nat.zero_le _, Nat.zero_le _⟩) hS (fun H locs hG hS => ?_)
      refine W.eq (g2 := F0 m 31 ls [.int (-(104))]) rfl ?_
      exact s_iret hx hb hr hlk hG hS dX6_drop_31 (by unfold x_dropR; (repeat' split) <;> first | rfl | (exfalso; omega)) (by unfold x_dropM; (repeat' split) <;> first | rfl | (exfalso; omega))
  · rw [if_neg c_2_1]
    refine lv_astore_nN (lv' := [(3, .null), (0, .ref (L (0, 0, 0))), (1, .int (u)), (2, .int (v))]) hx hb dX6_drop_5 rfl hl (by decide) rfl (fun ls hl => ?_)
    refine lv_aload_nN hx hb dX6_drop_6 rfl (lv_at hl 0 rfl) ?_
    refine lv_ifnonnullN hx hb dX6_drop_7 ?_
    refine lv_bipush (v := (-101)) hx hb dX6_drop_10 (by decide) ?_
    exact s_iret hx hb hr hlk hG hS dX6_drop_12 (by unfold x_dropR; (repeat' split) <;> first | rfl | (exfalso; omega)) (by unfold x_dropM; (repeat' split) <;> first | rfl | (exfalso; omega))
set_option maxHeartbeats 4000000 in
set_option maxRecDepth 100000 in
theorem c_X6_close (l : Launch) (D : va_G) (cy : Nat → ClassId) (L : g_S → Nat) (ns : Nat) (kk : Nat → Nat) (σ : g_S → Nat → Int32) (u : Int32) (hI : x_I ns kk σ) : x_Met l D cy L ns kk yX6_close (.code yX6_close cX6_close 4 (some .int)) 2 σ [.ref (L (0, 0, 0)), .int (u)] (some (.int (x_closeR σ ns kk u))) (x_closeM σ ns kk u) := by
  refine g_Met.of (by decide) (Nat.le_of_ble_eq_true rfl) ?_
  intro pg e s m below meth c hx hb hr hlk hml hown hts hK hN H locs hG hS ls hl
  have hown : s.vm.findClass RX6 = some m.cls := hown
  have hl : lv_has ls 4 [(0, .ref (L (0, 0, 0))), (1, .int (u))] := hl
  obtain ⟨⟨h0, hn⟩, ⟨q0, q40⟩, ⟨hs, h8⟩, hkA, hz4, hzA, hcA, hpA, htA⟩ := hI
  refine lv_aload_n hx hb dX6_close_0 rfl (lv_at hl 0 rfl) ?_
  refine lv_iload_n hx hb dX6_close_1 rfl (lv_at hl 1 rfl) ?_
  refine g_cont (va_runV (As := [.int (u)]) (rest := []) ⟨hx, hb, hml, hown, hts⟩ (c_X6_openSession l D cy L ns kk σ (u) hs h8 hz4) (cwV 1 hts gV_X6_51 rfl rfl rfl (by decide +kernel) ⟨Nat.le_of_ble_eq_true rfl, Nat.le_of_ble_eq_true rfl⟩) (g_preV hK hN hG (x := (0, 0, 0)) ⟨rfl, rfl⟩ (q := (RX6, TX6, 4)) (x_at_0 cy L ns kk (0) (0) (σ (0, 0, 0))) rfl) rfl rfl hl.1 rfl (lv_room (Nat.le_of_ble_eq_true rfl)) dX6_close_2 ⟨Nat.zero_le _, Nat.zero_le _⟩) hS (fun H locs hG hS => ?_)
  refine W.eq (g2 := F0 m 5 ls [(if (0 ≤ (u).toInt ∧ (u).toInt < (ns : Int)) ∧ ¬ (σ (11, (u).toNatClampNeg, 0) 4).toInt = 0 then .ref (L (11, (u).toNatClampNeg, 0)) else .null)]) rfl ?_
  by_cases c_2_1 : (0 ≤ (u).toInt ∧ (u).toInt < (ns : Int)) ∧ ¬ (σ (11, (u).toNatClampNeg, 0) 4).toInt = 0
  · rw [if_pos c_2_1]
    refine lv_astore_n (lv' := [(2, .ref (L (11, (u).toNatClampNeg, 0))), (0, .ref (L (0, 0, 0))), (1, .int (u))]) hx hb dX6_close_5 rfl hl (by decide) rfl (fun ls hl => ?_)
    refine lv_aload_n hx hb dX6_close_6 rfl (lv_at hl 0 rfl) ?_
    refine lv_ifnonnull (tgt := 13) hx hb dX6_close_7 (by decide) ?_
    refine lv_aload_n hx hb dX6_close_13 rfl (lv_at hl 0 rfl) ?_
    refine g_cont (va_runV (As := []) (rest := []) ⟨hx, hb, hml, hown, hts⟩ (c_X5_setCount l D cy L ns kk σ ((u).toNatClampNeg) (by rw [g_cl]; omega) (hkA _ (by rw [g_cl]; omega)) (hzA _ (by rw [g_cl]; omega))) (cwV 0 hts gV_X6_161 rfl rfl rfl (by decide +kernel) ⟨Nat.le_of_ble_eq_true rfl, Nat.le_of_ble_eq_true rfl⟩) (g_preV hK hN hG (x := (11, (u).toNatClampNeg, 0)) ⟨(by rw [g_cl]; omega), rfl⟩ (q := (RX5, TX5, 7)) (x_at_11 cy L ns kk ((u).toNatClampNeg) (0) (σ (11, (u).toNatClampNeg, 0))) rfl) rfl rfl hl.1 rfl (lv_room (Nat.le_of_ble_eq_true rfl)) dX6_close_14 ⟨Nat.zero_le _, Nat.zero_le _⟩) hS (fun H locs hG hS => ?_)
    refine W.eq (g2 := F0 m 17 ls [.int (x_setsGo σ ((u).toNatClampNeg) (kk ((u).toNatClampNeg)) 0 0)]) rfl ?_
    refine lv_istore_n (lv' := [(3, .int (x_setsGo σ ((u).toNatClampNeg) (kk ((u).toNatClampNeg)) 0 0)), (2, .ref (L (11, (u).toNatClampNeg, 0))), (0, .ref (L (0, 0, 0))), (1, .int (u))]) hx hb dX6_close_17 rfl hl (by decide) rfl (fun ls hl => ?_)
    refine lv_aload_n hx hb dX6_close_18 rfl (lv_at hl 1 rfl) ?_
    refine g_cont (va_runV (As := []) (rest := []) ⟨hx, hb, hml, hown, hts⟩ (c_X5_shut l D cy L ns kk σ ((u).toNatClampNeg) (by rw [g_cl]; omega) (hkA _ (by rw [g_cl]; omega))) (cwV 0 hts gV_X6_164 rfl rfl rfl (by decide +kernel) ⟨Nat.le_of_ble_eq_true rfl, Nat.le_of_ble_eq_true rfl⟩) (g_preV hK hN hG (x := (11, (u).toNatClampNeg, 0)) ⟨(by rw [g_cl]; omega), rfl⟩ (q := (RX5, TX5, 7)) (x_at_11 cy L ns kk ((u).toNatClampNeg) (0) (σ (11, (u).toNatClampNeg, 0))) rfl) rfl rfl hl.1 rfl (lv_room (Nat.le_of_ble_eq_true rfl)) dX6_close_19 ⟨Nat.zero_le _, Nat.zero_le _⟩) hS (fun H locs hG hS => ?_)
    refine W.eq (g2 := F0 m 22 ls []) rfl ?_
    refine lv_iload_n hx hb dX6_close_22 rfl (lv_at hl 0 rfl) ?_
    exact s_iret hx hb hr hlk hG hS dX6_close_23 (by unfold x_closeR; (repeat' split) <;> first | rfl | (exfalso; omega)) (by unfold x_closeM; (repeat' split) <;> first | rfl | (exfalso; omega))
  · rw [if_neg c_2_1]
    refine lv_astore_nN (lv' := [(2, .null), (0, .ref (L (0, 0, 0))), (1, .int (u))]) hx hb dX6_close_5 rfl hl (by decide) rfl (fun ls hl => ?_)
    refine lv_aload_nN hx hb dX6_close_6 rfl (lv_at hl 0 rfl) ?_
    refine lv_ifnonnullN hx hb dX6_close_7 ?_
    refine lv_bipush (v := (-101)) hx hb dX6_close_10 (by decide) ?_
    exact s_iret hx hb hr hlk hG hS dX6_close_12 (by unfold x_closeR; (repeat' split) <;> first | rfl | (exfalso; omega)) (by unfold x_closeM; (repeat' split) <;> first | rfl | (exfalso; omega))
set_option maxHeartbeats 4000000 in
set_option maxRecDepth 100000 in
theorem c_X6_state (l : Launch) (D : va_G) (cy : Nat → ClassId) (L : g_S → Nat) (ns : Nat) (kk : Nat → Nat) (σ : g_S → Nat → Int32) (u w : Int32) (hI : x_I ns kk σ) : x_Met l D cy L ns kk yX6_state (.code yX6_state cX6_state 4 (some .int)) 3 σ [.ref (L (0, 0, 0)), .int (u), .int (w)] (some (.int (x_stateR σ ns kk u w))) σ := by
  refine g_Met.of (by decide) (Nat.le_of_ble_eq_true rfl) ?_
  intro pg e s m below meth c hx hb hr hlk hml hown hts hK hN H locs hG hS ls hl
  have hown : s.vm.findClass RX6 = some m.cls := hown
  have hl : lv_has ls 4 [(0, .ref (L (0, 0, 0))), (1, .int (u)), (2, .int (w))] := hl
  obtain ⟨⟨h0, hn⟩, ⟨q0, q40⟩, ⟨hs, h8⟩, hkA, hz4, hzA, hcA, hpA, htA⟩ := hI
  refine lv_iload_n hx hb dX6_state_0 rfl (lv_at hl 1 rfl) ?_
  refine kz_if_lt (X := (u).toInt) hx hb rfl dX6_state_1 (tgt := 19) (by decide) (fun c_1_1 => ?_) (fun c_1_1 => ?_)
  · refine lv_iconst (v := (-1)) hx hb dX6_state_19 (by decide) ?_
    exact s_iret hx hb hr hlk hG hS dX6_state_20 (by unfold x_stateR; (repeat' split) <;> first | rfl | (exfalso; omega)) rfl
  · refine lv_iload_n hx hb dX6_state_4 rfl (lv_at hl 1 rfl) ?_
    refine lv_bipush (v := 8) hx hb dX6_state_5 (by decide) ?_
    refine kz_icmp_ge (X := (u).toInt) (Y := 8) hx hb rfl (by decide) dX6_state_7 (tgt := 19) (by decide) (fun c_7_2 => ?_) (fun c_7_2 => ?_)
    · refine lv_iconst (v := (-1)) hx hb dX6_state_19 (by decide) ?_
      exact s_iret hx hb hr hlk hG hS dX6_state_20 (by unfold x_stateR; (repeat' split) <;> first | rfl | (exfalso; omega)) rfl
    · refine lv_iload_n hx hb dX6_state_10 rfl (lv_at hl 2 rfl) ?_
      refine kz_if_lt (X := (w).toInt) hx hb rfl dX6_state_11 (tgt := 19) (by decide) (fun c_11_3 => ?_) (fun c_11_3 => ?_)
      · refine lv_iconst (v := (-1)) hx hb dX6_state_19 (by decide) ?_
        exact s_iret hx hb hr hlk hG hS dX6_state_20 (by unfold x_stateR; (repeat' split) <;> first | rfl | (exfalso; omega)) rfl
      · refine lv_iload_n hx hb dX6_state_14 rfl (lv_at hl 2 rfl) ?_
        refine lv_iconst (v := 3) hx hb dX6_state_15 (by decide) ?_
        refine kz_icmp_le (X := (w).toInt) (Y := 3) hx hb rfl (by decide) dX6_state_16 (tgt := 21) (by decide) (fun c_16_4 => ?_) (fun c_16_4 => ?_)
        · refine lv_aload_n hx hb dX6_state_21 rfl (lv_at hl 0 rfl) ?_
          refine lv_iload_n hx hb dX6_state_22 rfl (lv_at hl 1 rfl) ?_
          refine g_cont (va_runV (As := [.int (u)]) (rest := []) ⟨hx, hb, hml, hown, hts⟩ (c_X6_everOpened l D cy L ns kk σ (u) hs h8) (cwV 1 hts gV_X6_106 rfl rfl rfl (by decide +kernel) ⟨Nat.le_of_ble_eq_true rfl, Nat.le_of_ble_eq_true rfl⟩) (g_preV hK hN hG (x := (0, 0, 0)) ⟨rfl, rfl⟩ (q := (RX6, TX6, 4)) (x_at_0 cy L ns kk (0) (0) (σ (0, 0, 0))) rfl) rfl rfl hl.1 rfl (lv_room (Nat.le_of_ble_eq_true rfl)) dX6_state_23 ⟨Nat.zero_le _, Nat.zero_le _⟩) hS (fun H locs hG hS => ?_)
          refine W.eq (g2 := F0 m 26 ls [(if 0 ≤ (u).toInt ∧ (u).toInt < (ns : Int) then .ref (L (11, (u).toNatClampNeg, 0)) else .null)]) rfl ?_
          by_cases c_23_5 : 0 ≤ (u).toInt ∧ (u).toInt < (ns : Int)
          · rw [if_pos c_23_5]
            refine lv_astore_n (lv' := [(3, .ref (L (11, (u).toNatClampNeg, 0))), (0, .ref (L (0, 0, 0))), (1, .int (u)), (2, .int (w))]) hx hb dX6_state_26 rfl hl (by decide) rfl (fun ls hl => ?_)
            refine lv_aload_n hx hb dX6_state_27 rfl (lv_at hl 0 rfl) ?_
            refine lv_ifnonnull (tgt := 35) hx hb dX6_state_28 (by decide) ?_
            refine lv_aload_n hx hb dX6_state_35 rfl (lv_at hl 0 rfl) ?_
            refine lv_iload_n hx hb dX6_state_36 rfl (lv_at hl 3 rfl) ?_
            refine g_cont (va_runV (As := [.int (w)]) (rest := []) ⟨hx, hb, hml, hown, hts⟩ (c_X5_tell l D cy L ns kk σ ((u).toNatClampNeg) (by rw [g_cl]; omega) (w) (hkA _ (by rw [g_cl]; omega)) (hzA _ (by rw [g_cl]; omega))) (cwV 1 hts gV_X6_167 rfl rfl rfl (by decide +kernel) ⟨Nat.le_of_ble_eq_true rfl, Nat.le_of_ble_eq_true rfl⟩) (g_preV hK hN hG (x := (11, (u).toNatClampNeg, 0)) ⟨(by rw [g_cl]; omega), rfl⟩ (q := (RX5, TX5, 7)) (x_at_11 cy L ns kk ((u).toNatClampNeg) (0) (σ (11, (u).toNatClampNeg, 0))) rfl) rfl rfl hl.1 rfl (lv_room (Nat.le_of_ble_eq_true rfl)) dX6_state_37 ⟨Nat.zero_le _, Nat.zero_le _⟩) hS (fun H locs hG hS => ?_)
            refine W.eq (g2 := F0 m 40 ls [.int (x_sTell σ (kk ((u).toNatClampNeg)) ((u).toNatClampNeg) (w))]) rfl ?_
            exact s_iret hx hb hr hlk hG hS dX6_state_40 (by unfold x_stateR; (repeat' split) <;> first | rfl | (exfalso; omega)) rfl
          · rw [if_neg c_23_5]
            refine lv_astore_nN (lv' := [(3, .null), (0, .ref (L (0, 0, 0))), (1, .int (u)), (2, .int (w))]) hx hb dX6_state_26 rfl hl (by decide) rfl (fun ls hl => ?_)
            refine lv_aload_nN hx hb dX6_state_27 rfl (lv_at hl 0 rfl) ?_
            refine lv_ifnonnullN hx hb dX6_state_28 ?_
            refine lv_iconst (v := 0) hx hb dX6_state_31 (by decide) ?_
            refine lv_goto (tgt := 40) hx hb dX6_state_32 (by decide) ?_
            exact s_iret hx hb hr hlk hG hS dX6_state_40 (by unfold x_stateR; (repeat' split) <;> first | rfl | (exfalso; omega)) rfl
        · refine lv_iconst (v := (-1)) hx hb dX6_state_19 (by decide) ?_
          exact s_iret hx hb hr hlk hG hS dX6_state_20 (by unfold x_stateR; (repeat' split) <;> first | rfl | (exfalso; omega)) rfl
end
section
theorem zz_last : True := trivial
end
