-- ===== PART A: goes FIRST, ahead of the names: the tables' words, and 'selects' of the private methods out of them =====
/-- a private method of a class that the tables say can be made, by its rows of tables_1 -/
def lw_okq (q : MethodName × Nat) : Prop := (q.1.cls ≠ "java/lang/invoke/MethodHandle" ∧ q.1.cls ≠ "java/lang/invoke/VarHandle") ∧ Cond.instantiable q.1.cls q.2 ∈ tables_1 ∧ Cond.privateMethod q.1 ∈ tables_1 ∧ Cond.instanceMethod q.1 ∈ tables_1
theorem lw_p0 : lw_okq (⟨"SearchWire$Questions", "add", "(IIII)I"⟩, 5) := ⟨⟨by decide +kernel, by decide +kernel⟩, List.mem_of_getElem? (i := 43) (by decide +kernel), List.mem_of_getElem? (i := 116) (by decide +kernel), List.mem_of_getElem? (i := 117) (by decide +kernel)⟩
theorem lw_p1 : lw_okq (⟨"SearchWire", "openSession", "(I)LSearchWire$Session;"⟩, 4) := ⟨⟨by decide +kernel, by decide +kernel⟩, List.mem_of_getElem? (i := 16) (by decide +kernel), List.mem_of_getElem? (i := 221) (by decide +kernel), List.mem_of_getElem? (i := 222) (by decide +kernel)⟩
theorem lw_p2 : lw_okq (⟨"SearchWire", "everOpened", "(I)LSearchWire$Session;"⟩, 4) := ⟨⟨by decide +kernel, by decide +kernel⟩, List.mem_of_getElem? (i := 16) (by decide +kernel), List.mem_of_getElem? (i := 225) (by decide +kernel), List.mem_of_getElem? (i := 226) (by decide +kernel)⟩
theorem lw_p3 : lw_okq (⟨"SearchWire$Questions", "holds", "(ILSearchWire$Records;IJ)Z"⟩, 5) := ⟨⟨by decide +kernel, by decide +kernel⟩, List.mem_of_getElem? (i := 43) (by decide +kernel), List.mem_of_getElem? (i := 262) (by decide +kernel), List.mem_of_getElem? (i := 263) (by decide +kernel)⟩
theorem lw_p4 : lw_okq (⟨"SearchWire$Presented", "endOfSegment", "(I)I"⟩, 6) := ⟨⟨by decide +kernel, by decide +kernel⟩, List.mem_of_getElem? (i := 154) (by decide +kernel), List.mem_of_getElem? (i := 330) (by decide +kernel), List.mem_of_getElem? (i := 331) (by decide +kernel)⟩
theorem lw_p5 : lw_okq (⟨"SearchWire", "stepBack", "(III)I"⟩, 4) := ⟨⟨by decide +kernel, by decide +kernel⟩, List.mem_of_getElem? (i := 16) (by decide +kernel), List.mem_of_getElem? (i := 377) (by decide +kernel), List.mem_of_getElem? (i := 378) (by decide +kernel)⟩
theorem lw_p6 : lw_okq (⟨"java/lang/Throwable", "fillInStackTrace", "(I)Ljava/lang/Throwable;"⟩, 6) := ⟨⟨by decide +kernel, by decide +kernel⟩, List.mem_of_getElem? (i := 448) (by decide +kernel), List.mem_of_getElem? (i := 446) (by decide +kernel), List.mem_of_getElem? (i := 447) (by decide +kernel)⟩
theorem lw_p7 : lw_okq (⟨"SearchWireModel", "isQuestion", "(I)Z"⟩, 28) := ⟨⟨by decide +kernel, by decide +kernel⟩, List.mem_of_getElem? (i := 510) (by decide +kernel), List.mem_of_getElem? (i := 627) (by decide +kernel), List.mem_of_getElem? (i := 628) (by decide +kernel)⟩
theorem lw_p8 : lw_okq (⟨"SearchWireModel", "isOpen", "(I)Z"⟩, 28) := ⟨⟨by decide +kernel, by decide +kernel⟩, List.mem_of_getElem? (i := 510) (by decide +kernel), List.mem_of_getElem? (i := 639) (by decide +kernel), List.mem_of_getElem? (i := 640) (by decide +kernel)⟩
theorem lw_p9 : lw_okq (⟨"SearchWireModel", "tell", "(II)I"⟩, 28) := ⟨⟨by decide +kernel, by decide +kernel⟩, List.mem_of_getElem? (i := 510) (by decide +kernel), List.mem_of_getElem? (i := 643) (by decide +kernel), List.mem_of_getElem? (i := 644) (by decide +kernel)⟩
theorem lw_p10 : lw_okq (⟨"SearchWireModel", "end", "(I)V"⟩, 28) := ⟨⟨by decide +kernel, by decide +kernel⟩, List.mem_of_getElem? (i := 510) (by decide +kernel), List.mem_of_getElem? (i := 647) (by decide +kernel), List.mem_of_getElem? (i := 648) (by decide +kernel)⟩
theorem lw_p11 : lw_okq (⟨"SearchWireModel", "isName", "(II)Z"⟩, 28) := ⟨⟨by decide +kernel, by decide +kernel⟩, List.mem_of_getElem? (i := 510) (by decide +kernel), List.mem_of_getElem? (i := 651) (by decide +kernel), List.mem_of_getElem? (i := 652) (by decide +kernel)⟩
theorem lw_p12 : lw_okq (⟨"SearchWireModel", "meets", "(II)Z"⟩, 28) := ⟨⟨by decide +kernel, by decide +kernel⟩, List.mem_of_getElem? (i := 510) (by decide +kernel), List.mem_of_getElem? (i := 655) (by decide +kernel), List.mem_of_getElem? (i := 656) (by decide +kernel)⟩
theorem lw_p13 : lw_okq (⟨"SearchWireModel", "isSet", "(II)Z"⟩, 28) := ⟨⟨by decide +kernel, by decide +kernel⟩, List.mem_of_getElem? (i := 510) (by decide +kernel), List.mem_of_getElem? (i := 663) (by decide +kernel), List.mem_of_getElem? (i := 664) (by decide +kernel)⟩
theorem lw_p14 : lw_okq (⟨"SearchWireModel", "isBehind", "(IIIZ)Z"⟩, 28) := ⟨⟨by decide +kernel, by decide +kernel⟩, List.mem_of_getElem? (i := 510) (by decide +kernel), List.mem_of_getElem? (i := 683) (by decide +kernel), List.mem_of_getElem? (i := 684) (by decide +kernel)⟩
theorem lw_p15 : lw_okq (⟨"SearchWireModel", "reckon", "(I)V"⟩, 28) := ⟨⟨by decide +kernel, by decide +kernel⟩, List.mem_of_getElem? (i := 510) (by decide +kernel), List.mem_of_getElem? (i := 691) (by decide +kernel), List.mem_of_getElem? (i := 692) (by decide +kernel)⟩
def lw_privs_1 : List (MethodName × Nat) := [(⟨"SearchWire$Questions", "add", "(IIII)I"⟩, 5), (⟨"SearchWire", "openSession", "(I)LSearchWire$Session;"⟩, 4), (⟨"SearchWire", "everOpened", "(I)LSearchWire$Session;"⟩, 4), (⟨"SearchWire$Questions", "holds", "(ILSearchWire$Records;IJ)Z"⟩, 5), (⟨"SearchWire$Presented", "endOfSegment", "(I)I"⟩, 6), (⟨"SearchWire", "stepBack", "(III)I"⟩, 4), (⟨"java/lang/Throwable", "fillInStackTrace", "(I)Ljava/lang/Throwable;"⟩, 6), (⟨"SearchWireModel", "isQuestion", "(I)Z"⟩, 28), (⟨"SearchWireModel", "isOpen", "(I)Z"⟩, 28), (⟨"SearchWireModel", "tell", "(II)I"⟩, 28), (⟨"SearchWireModel", "end", "(I)V"⟩, 28), (⟨"SearchWireModel", "isName", "(II)Z"⟩, 28), (⟨"SearchWireModel", "meets", "(II)Z"⟩, 28), (⟨"SearchWireModel", "isSet", "(II)Z"⟩, 28), (⟨"SearchWireModel", "isBehind", "(IIIZ)Z"⟩, 28), (⟨"SearchWireModel", "reckon", "(I)V"⟩, 28)]
theorem lw_r1 : ∀ q ∈ lw_privs_1, lw_okq q := List.forall_mem_cons.mpr ⟨lw_p0, List.forall_mem_cons.mpr ⟨lw_p1, List.forall_mem_cons.mpr ⟨lw_p2, List.forall_mem_cons.mpr ⟨lw_p3, List.forall_mem_cons.mpr ⟨lw_p4, List.forall_mem_cons.mpr ⟨lw_p5, List.forall_mem_cons.mpr ⟨lw_p6, List.forall_mem_cons.mpr ⟨lw_p7, List.forall_mem_cons.mpr ⟨lw_p8, List.forall_mem_cons.mpr ⟨lw_p9, List.forall_mem_cons.mpr ⟨lw_p10, List.forall_mem_cons.mpr ⟨lw_p11, List.forall_mem_cons.mpr ⟨lw_p12, List.forall_mem_cons.mpr ⟨lw_p13, List.forall_mem_cons.mpr ⟨lw_p14, List.forall_mem_cons.mpr ⟨lw_p15, fun _ h => absurd h List.not_mem_nil⟩⟩⟩⟩⟩⟩⟩⟩⟩⟩⟩⟩⟩⟩⟩⟩
theorem lw_p16 : lw_okq (⟨"SearchWireModel", "sets", "(I)I"⟩, 28) := ⟨⟨by decide +kernel, by decide +kernel⟩, List.mem_of_getElem? (i := 510) (by decide +kernel), List.mem_of_getElem? (i := 707) (by decide +kernel), List.mem_of_getElem? (i := 708) (by decide +kernel)⟩
def lw_privs_2 : List (MethodName × Nat) := [(⟨"SearchWireModel", "sets", "(I)I"⟩, 28)]
theorem lw_r2 : ∀ q ∈ lw_privs_2, lw_okq q := List.forall_mem_cons.mpr ⟨lw_p16, fun _ h => absurd h List.not_mem_nil⟩
def lw_privs : List (MethodName × Nat) := lw_privs_1 ++ (lw_privs_2)
def lw_tbl : List Cond := k2_sels lw_privs ++ tables_1
theorem lw_privs_ok : ∀ q ∈ lw_privs, lw_okq q := by
  show ∀ q ∈ lw_privs_1 ++ (lw_privs_2), lw_okq q
  exact List.forall_mem_append.mpr ⟨lw_r1, lw_r2⟩

/-! ===== BEGIN words of one list among another's, by their places ===== -/
theorem goodIn_r {big : List Cond} (ws : List Cond) (ps : List Nat) (hp : ws = ps.filterMap (fun i => big[i]?)) (h : ws.all goodWord = true) : GoodIn big ws := by
  intro w hw
  have h1 := List.all_eq_true.mp h w hw
  rw [hp] at hw
  obtain ⟨i, -, hi⟩ := List.mem_filterMap.mp hw
  have hm : w ∈ big := by first | exact List.mem_of_getElem? hi | exact List.getElem?_mem hi
  exact ⟨hm, good_of_word h1⟩
theorem goodIn_app {big a b : List Cond} (ha : GoodIn big a) (hb : GoodIn big b) : GoodIn big (a ++ b) := fun w h => (List.mem_append.mp h).elim (ha w) (hb w)
theorem goodIn_ca {big a b : List Cond} {c : Cond} (ha : GoodIn big (c :: a)) (hb : GoodIn big b) : GoodIn big (c :: (a ++ b)) := fun w h => (List.mem_cons.mp h).elim (fun e => ha w (List.mem_cons.mpr (Or.inl e))) (fun h => (List.mem_append.mp h).elim (fun h => ha w (List.mem_cons.mpr (Or.inr h))) (hb w))
theorem goodIn_sub {big ws : List Cond} (hm : ∀ w ∈ ws, w ∈ big) (h : ws.all goodWord = true) : GoodIn big ws := fun w hw => ⟨hm w hw, good_of_word (List.all_eq_true.mp h w hw)⟩
/-! ===== END ===== -/
def RX0 : String := "SearchWire$Presented"
def TX0 : u_T := fun k => match k with
  | 0 => ("SearchWire$Presented", "limit", "I", true)
  | 1 => ("SearchWire$Presented", "row", "[I", true)
  | 2 => ("SearchWire$Presented", "starts", "[I", true)
  | 3 => ("SearchWire$Presented", "bytes", "[I", true)
  | 4 => ("SearchWire$Presented", "count", "I", false)
  | _ => ("SearchWire$Presented", "segmentCount", "I", false)
def tyX0 : Nat → FieldType := fun k => match k with
  | 0 => .int
  | 1 => .array .int
  | 2 => .array .int
  | 3 => .array .int
  | 4 => .int
  | _ => .int
abbrev wsX00 : List Cond := u_ws RX0 TX0 6
theorem nmX0 : ∀ a, a < 6 → ∀ b, b < 6 → a ≠ b → (TX0 a).2.1 ≠ (TX0 b).2.1 := by decide +kernel
theorem tyX0_ok : ∀ k, k < 6 → parseFieldDescriptor (TX0 k).2.2.1 = some (tyX0 k) := by decide +kernel
abbrev cX0_init : ByteArray := prog_2_method_1_code
def yX0_init : MethodName := ⟨RX0, "<init>", "(I)V"⟩
abbrev cX0_clear : ByteArray := prog_2_method_2_code
def yX0_clear : MethodName := ⟨RX0, "clear", "()V"⟩
abbrev cX0_segmentCount : ByteArray := prog_2_method_3_code
def yX0_segmentCount : MethodName := ⟨RX0, "segmentCount", "()I"⟩
abbrev cX0_add : ByteArray := prog_2_method_4_code
def yX0_add : MethodName := ⟨RX0, "add", "(II)V"⟩
abbrev cX0_recordAt : ByteArray := prog_2_method_5_code
def yX0_recordAt : MethodName := ⟨RX0, "recordAt", "(I)I"⟩
abbrev cX0_tellSegment : ByteArray := prog_2_method_6_code
def yX0_tellSegment : MethodName := ⟨RX0, "tellSegment", "(II)I"⟩
abbrev cX0_endOfSegment : ByteArray := prog_2_method_7_code
def yX0_endOfSegment : MethodName := ⟨RX0, "endOfSegment", "(I)I"⟩
def RX1 : String := "SearchWire$Questions"
def TX1 : u_T := fun k => match k with
  | 0 => ("SearchWire$Questions", "kinds", "[I", true)
  | 1 => ("SearchWire$Questions", "firsts", "[I", true)
  | 2 => ("SearchWire$Questions", "seconds", "[I", true)
  | 3 => ("SearchWire$Questions", "thirds", "[I", true)
  | _ => ("SearchWire$Questions", "count", "I", false)
def tyX1 : Nat → FieldType := fun k => match k with
  | 0 => .array .int
  | 1 => .array .int
  | 2 => .array .int
  | 3 => .array .int
  | _ => .int
abbrev wsX10 : List Cond := u_ws RX1 TX1 5
theorem nmX1 : ∀ a, a < 5 → ∀ b, b < 5 → a ≠ b → (TX1 a).2.1 ≠ (TX1 b).2.1 := by decide +kernel
theorem tyX1_ok : ∀ k, k < 5 → parseFieldDescriptor (TX1 k).2.2.1 = some (tyX1 k) := by decide +kernel
abbrev cX1_init : ByteArray := prog_3_method_1_code
def yX1_init : MethodName := ⟨RX1, "<init>", "()V"⟩
abbrev cX1_has : ByteArray := prog_3_method_2_code
def yX1_has : MethodName := ⟨RX1, "has", "(I)Z"⟩
abbrev cX1_addRange : ByteArray := prog_3_method_3_code
def yX1_addRange : MethodName := ⟨RX1, "addRange", "(III)I"⟩
abbrev cX1_addPair : ByteArray := prog_3_method_4_code
def yX1_addPair : MethodName := ⟨RX1, "addPair", "(III)I"⟩
abbrev cX1_add : ByteArray := prog_3_method_5_code
def yX1_add : MethodName := ⟨RX1, "add", "(IIII)I"⟩
abbrev cX1_finds : ByteArray := prog_3_method_6_code
def yX1_finds : MethodName := ⟨RX1, "finds", "(ILSearchWire$Records;I)Z"⟩
abbrev cX1_holds : ByteArray := prog_3_method_7_code
def yX1_holds : MethodName := ⟨RX1, "holds", "(ILSearchWire$Records;IJ)Z"⟩
abbrev cX1_isYes : ByteArray := prog_3_method_8_code
def yX1_isYes : MethodName := ⟨RX1, "isYes", "(JI)Z"⟩
def RX2 : String := "SearchWire$Records"
def TX2 : u_T := fun k => match k with
  | 0 => ("SearchWire$Records", "bytes", "[I", true)
  | 1 => ("SearchWire$Records", "terms", "[[I", true)
  | _ => ("SearchWire$Records", "count", "I", false)
def tyX2 : Nat → FieldType := fun k => match k with
  | 0 => .array .int
  | 1 => .array (.array .int)
  | _ => .int
abbrev wsX20 : List Cond := u_ws RX2 TX2 3
theorem nmX2 : ∀ a, a < 3 → ∀ b, b < 3 → a ≠ b → (TX2 a).2.1 ≠ (TX2 b).2.1 := by decide +kernel
theorem tyX2_ok : ∀ k, k < 3 → parseFieldDescriptor (TX2 k).2.2.1 = some (tyX2 k) := by decide +kernel
abbrev cX2_init : ByteArray := prog_4_method_1_code
def yX2_init : MethodName := ⟨RX2, "<init>", "()V"⟩
abbrev cX2_count : ByteArray := prog_4_method_2_code
def yX2_count : MethodName := ⟨RX2, "count", "()I"⟩
abbrev cX2_add : ByteArray := prog_4_method_3_code
def yX2_add : MethodName := ⟨RX2, "add", "(I)I"⟩
abbrev cX2_has : ByteArray := prog_4_method_4_code
def yX2_has : MethodName := ⟨RX2, "has", "(I)Z"⟩
abbrev cX2_putTerm : ByteArray := prog_4_method_5_code
def yX2_putTerm : MethodName := ⟨RX2, "putTerm", "(III)Z"⟩
abbrev cX2_bytesOf : ByteArray := prog_4_method_6_code
def yX2_bytesOf : MethodName := ⟨RX2, "bytesOf", "(I)I"⟩
abbrev cX2_termOf : ByteArray := prog_4_method_7_code
def yX2_termOf : MethodName := ⟨RX2, "termOf", "(II)I"⟩
abbrev cX2_leastTermFrom : ByteArray := prog_4_method_8_code
def yX2_leastTermFrom : MethodName := ⟨RX2, "leastTermFrom", "(II)I"⟩
abbrev cX2_greatestTermBelow : ByteArray := prog_4_method_9_code
def yX2_greatestTermBelow : MethodName := ⟨RX2, "greatestTermBelow", "(II)I"⟩
abbrev cX2_countOfTerm : ByteArray := prog_4_method_10_code
def yX2_countOfTerm : MethodName := ⟨RX2, "countOfTerm", "(II)I"⟩
def RX3 : String := "SearchWire$ResultSet"
def TX3 : u_T := fun k => match k with
  | 0 => ("SearchWire$ResultSet", "row", "[I", true)
  | 1 => ("SearchWire$ResultSet", "count", "I", false)
  | _ => ("SearchWire$ResultSet", "made", "Z", false)
def tyX3 : Nat → FieldType := fun k => match k with
  | 0 => .array .int
  | 1 => .int
  | _ => .boolean
abbrev wsX30 : List Cond := u_ws RX3 TX3 3
theorem nmX3 : ∀ a, a < 3 → ∀ b, b < 3 → a ≠ b → (TX3 a).2.1 ≠ (TX3 b).2.1 := by decide +kernel
theorem tyX3_ok : ∀ k, k < 3 → parseFieldDescriptor (TX3 k).2.2.1 = some (tyX3 k) := by decide +kernel
abbrev cX3_init : ByteArray := prog_5_method_1_code
def yX3_init : MethodName := ⟨RX3, "<init>", "()V"⟩
abbrev cX3_make : ByteArray := prog_5_method_2_code
def yX3_make : MethodName := ⟨RX3, "make", "()V"⟩
abbrev cX3_forget : ByteArray := prog_5_method_3_code
def yX3_forget : MethodName := ⟨RX3, "forget", "()V"⟩
abbrev cX3_isMade : ByteArray := prog_5_method_4_code
def yX3_isMade : MethodName := ⟨RX3, "isMade", "()Z"⟩
abbrev cX3_count : ByteArray := prog_5_method_5_code
def yX3_count : MethodName := ⟨RX3, "count", "()I"⟩
abbrev cX3_add : ByteArray := prog_5_method_6_code
def yX3_add : MethodName := ⟨RX3, "add", "(I)V"⟩
abbrev cX3_recordAt : ByteArray := prog_5_method_7_code
def yX3_recordAt : MethodName := ⟨RX3, "recordAt", "(I)I"⟩
abbrev cX3_putInOrder : ByteArray := prog_5_method_8_code
def yX3_putInOrder : MethodName := ⟨RX3, "putInOrder", "(LSearchWire$Records;IZ)V"⟩
abbrev cX3_keyOf : ByteArray := prog_5_method_9_code
def yX3_keyOf : MethodName := ⟨RX3, "keyOf", "(IZ)I"⟩
abbrev cX3_countWithoutTerm : ByteArray := prog_5_method_10_code
def yX3_countWithoutTerm : MethodName := ⟨RX3, "countWithoutTerm", "(LSearchWire$Records;I)I"⟩
def RX4 : String := "SearchWire$ScannedTerms"
def TX4 : u_T := fun k => match k with
  | 0 => ("SearchWire$ScannedTerms", "terms", "[I", true)
  | 1 => ("SearchWire$ScannedTerms", "havers", "[I", true)
  | _ => ("SearchWire$ScannedTerms", "count", "I", false)
def tyX4 : Nat → FieldType := fun k => match k with
  | 0 => .array .int
  | 1 => .array .int
  | _ => .int
abbrev wsX40 : List Cond := u_ws RX4 TX4 3
theorem nmX4 : ∀ a, a < 3 → ∀ b, b < 3 → a ≠ b → (TX4 a).2.1 ≠ (TX4 b).2.1 := by decide +kernel
theorem tyX4_ok : ∀ k, k < 3 → parseFieldDescriptor (TX4 k).2.2.1 = some (tyX4 k) := by decide +kernel
abbrev cX4_init : ByteArray := prog_6_method_1_code
def yX4_init : MethodName := ⟨RX4, "<init>", "()V"⟩
abbrev cX4_fill : ByteArray := prog_6_method_2_code
def yX4_fill : MethodName := ⟨RX4, "fill", "(LSearchWire$Records;III)I"⟩
abbrev cX4_has : ByteArray := prog_6_method_3_code
def yX4_has : MethodName := ⟨RX4, "has", "(I)Z"⟩
abbrev cX4_tell : ByteArray := prog_6_method_4_code
def yX4_tell : MethodName := ⟨RX4, "tell", "(II)I"⟩
def RX5 : String := "SearchWire$Session"
def TX5 : u_T := fun k => match k with
  | 0 => ("SearchWire$Session", "options", "I", true)
  | 1 => ("SearchWire$Session", "sets", "[LSearchWire$ResultSet;", true)
  | 2 => ("SearchWire$Session", "presented", "LSearchWire$Presented;", true)
  | 3 => ("SearchWire$Session", "scannedTerms", "LSearchWire$ScannedTerms;", true)
  | 4 => ("SearchWire$Session", "open", "Z", false)
  | 5 => ("SearchWire$Session", "diagnostics", "I", false)
  | _ => ("SearchWire$Session", "latestCode", "I", false)
def tyX5 : Nat → FieldType := fun k => match k with
  | 0 => .int
  | 1 => .array (.object "SearchWire$ResultSet")
  | 2 => .object "SearchWire$Presented"
  | 3 => .object "SearchWire$ScannedTerms"
  | 4 => .boolean
  | 5 => .int
  | _ => .int
abbrev wsX50 : List Cond := u_ws RX5 TX5 7
theorem nmX5 : ∀ a, a < 7 → ∀ b, b < 7 → a ≠ b → (TX5 a).2.1 ≠ (TX5 b).2.1 := by decide +kernel
theorem tyX5_ok : ∀ k, k < 7 → parseFieldDescriptor (TX5 k).2.2.1 = some (tyX5 k) := by decide +kernel
abbrev cX5_init : ByteArray := prog_7_method_1_code
def yX5_init : MethodName := ⟨RX5, "<init>", "(II)V"⟩
abbrev cX5_isOpen : ByteArray := prog_7_method_2_code
def yX5_isOpen : MethodName := ⟨RX5, "isOpen", "()Z"⟩
abbrev cX5_may : ByteArray := prog_7_method_3_code
def yX5_may : MethodName := ⟨RX5, "may", "(I)Z"⟩
abbrev cX5_presented : ByteArray := prog_7_method_4_code
def yX5_presented : MethodName := ⟨RX5, "presented", "()LSearchWire$Presented;"⟩
abbrev cX5_scannedTerms : ByteArray := prog_7_method_5_code
def yX5_scannedTerms : MethodName := ⟨RX5, "scannedTerms", "()LSearchWire$ScannedTerms;"⟩
abbrev cX5_setOfName : ByteArray := prog_7_method_6_code
def yX5_setOfName : MethodName := ⟨RX5, "setOfName", "(I)LSearchWire$ResultSet;"⟩
abbrev cX5_madeSet : ByteArray := prog_7_method_7_code
def yX5_madeSet : MethodName := ⟨RX5, "madeSet", "(I)LSearchWire$ResultSet;"⟩
abbrev cX5_setCount : ByteArray := prog_7_method_8_code
def yX5_setCount : MethodName := ⟨RX5, "setCount", "()I"⟩
abbrev cX5_diagnose : ByteArray := prog_7_method_9_code
def yX5_diagnose : MethodName := ⟨RX5, "diagnose", "(I)I"⟩
abbrev cX5_shut : ByteArray := prog_7_method_10_code
def yX5_shut : MethodName := ⟨RX5, "shut", "()V"⟩
abbrev cX5_tell : ByteArray := prog_7_method_11_code
def yX5_tell : MethodName := ⟨RX5, "tell", "(I)I"⟩
def RX6 : String := "SearchWire"
def TX6 : u_T := fun k => match k with
  | 0 => ("SearchWire", "records", "LSearchWire$Records;", true)
  | 1 => ("SearchWire", "questions", "LSearchWire$Questions;", true)
  | 2 => ("SearchWire", "sessions", "[LSearchWire$Session;", true)
  | _ => ("SearchWire", "sessionCount", "I", false)
def tyX6 : Nat → FieldType := fun k => match k with
  | 0 => .object "SearchWire$Records"
  | 1 => .object "SearchWire$Questions"
  | 2 => .array (.object "SearchWire$Session")
  | _ => .int
abbrev wsX60 : List Cond := u_ws RX6 TX6 4
theorem nmX6 : ∀ a, a < 4 → ∀ b, b < 4 → a ≠ b → (TX6 a).2.1 ≠ (TX6 b).2.1 := by decide +kernel
theorem tyX6_ok : ∀ k, k < 4 → parseFieldDescriptor (TX6 k).2.2.1 = some (tyX6 k) := by decide +kernel
abbrev cX6_init : ByteArray := prog_1_method_1_code
def yX6_init : MethodName := ⟨RX6, "<init>", "()V"⟩
abbrev cX6_record : ByteArray := prog_1_method_2_code
def yX6_record : MethodName := ⟨RX6, "record", "(I)I"⟩
abbrev cX6_term : ByteArray := prog_1_method_3_code
def yX6_term : MethodName := ⟨RX6, "term", "(III)I"⟩
abbrev cX6_question : ByteArray := prog_1_method_4_code
def yX6_question : MethodName := ⟨RX6, "question", "(IIII)I"⟩
abbrev cX6_session : ByteArray := prog_1_method_5_code
def yX6_session : MethodName := ⟨RX6, "session", "(II)I"⟩
abbrev cX6_search : ByteArray := prog_1_method_6_code
def yX6_search : MethodName := ⟨RX6, "search", "(III)I"⟩
abbrev cX6_size : ByteArray := prog_1_method_7_code
def yX6_size : MethodName := ⟨RX6, "size", "(II)I"⟩
abbrev cX6_present : ByteArray := prog_1_method_8_code
def yX6_present : MethodName := ⟨RX6, "present", "(IIII)I"⟩
abbrev cX6_segment : ByteArray := prog_1_method_9_code
def yX6_segment : MethodName := ⟨RX6, "segment", "(III)I"⟩
abbrev cX6_at : ByteArray := prog_1_method_10_code
def yX6_at : MethodName := ⟨RX6, "at", "(II)I"⟩
abbrev cX6_sort : ByteArray := prog_1_method_11_code
def yX6_sort : MethodName := ⟨RX6, "sort", "(IIIZ)I"⟩
abbrev cX6_scan : ByteArray := prog_1_method_12_code
def yX6_scan : MethodName := ⟨RX6, "scan", "(IIIII)I"⟩
abbrev cX6_scanned : ByteArray := prog_1_method_13_code
def yX6_scanned : MethodName := ⟨RX6, "scanned", "(III)I"⟩
abbrev cX6_drop : ByteArray := prog_1_method_14_code
def yX6_drop : MethodName := ⟨RX6, "drop", "(II)I"⟩
abbrev cX6_close : ByteArray := prog_1_method_15_code
def yX6_close : MethodName := ⟨RX6, "close", "(I)I"⟩
abbrev cX6_state : ByteArray := prog_1_method_16_code
def yX6_state : MethodName := ⟨RX6, "state", "(II)I"⟩
abbrev cX6_everOpened : ByteArray := prog_1_method_17_code
def yX6_everOpened : MethodName := ⟨RX6, "everOpened", "(I)LSearchWire$Session;"⟩
abbrev cX6_openSession : ByteArray := prog_1_method_18_code
def yX6_openSession : MethodName := ⟨RX6, "openSession", "(I)LSearchWire$Session;"⟩
abbrev cX6_stepBack : ByteArray := prog_1_method_19_code
def yX6_stepBack : MethodName := ⟨RX6, "stepBack", "(III)I"⟩
abbrev cX6_isIndex : ByteArray := prog_1_method_20_code
def yX6_isIndex : MethodName := ⟨RX6, "isIndex", "(I)Z"⟩
abbrev cX6_isTerm : ByteArray := prog_1_method_21_code
def yX6_isTerm : MethodName := ⟨RX6, "isTerm", "(I)Z"⟩
def RX7 : String := "SearchWireModel"
def TX7 : u_T := fun k => match k with
  | 0 => ("SearchWireModel", "thrown", "I", false)
  | 1 => ("SearchWireModel", "records", "I", false)
  | 2 => ("SearchWireModel", "sizes", "[I", true)
  | 3 => ("SearchWireModel", "terms", "[I", true)
  | 4 => ("SearchWireModel", "questions", "I", false)
  | 5 => ("SearchWireModel", "kind", "[I", true)
  | 6 => ("SearchWireModel", "first", "[I", true)
  | 7 => ("SearchWireModel", "second", "[I", true)
  | 8 => ("SearchWireModel", "third", "[I", true)
  | 9 => ("SearchWireModel", "holds", "[Z", true)
  | 10 => ("SearchWireModel", "sessions", "I", false)
  | 11 => ("SearchWireModel", "options", "[I", true)
  | 12 => ("SearchWireModel", "limit", "[I", true)
  | 13 => ("SearchWireModel", "closed", "[Z", true)
  | 14 => ("SearchWireModel", "faults", "[I", true)
  | 15 => ("SearchWireModel", "fault", "[I", true)
  | 16 => ("SearchWireModel", "many", "[I", true)
  | 17 => ("SearchWireModel", "members", "[I", true)
  | 18 => ("SearchWireModel", "presented", "[I", true)
  | 19 => ("SearchWireModel", "shown", "[I", true)
  | 20 => ("SearchWireModel", "segments", "[I", true)
  | 21 => ("SearchWireModel", "segmentFrom", "[I", true)
  | 22 => ("SearchWireModel", "segmentMany", "[I", true)
  | 23 => ("SearchWireModel", "segmentBytes", "[I", true)
  | 24 => ("SearchWireModel", "scanned", "[I", true)
  | 25 => ("SearchWireModel", "scanTerm", "[I", true)
  | 26 => ("SearchWireModel", "scanMany", "[I", true)
  | _ => ("SearchWireModel", "row", "[I", true)
def tyX7 : Nat → FieldType := fun k => match k with
  | 0 => .int
  | 1 => .int
  | 2 => .array .int
  | 3 => .array .int
  | 4 => .int
  | 5 => .array .int
  | 6 => .array .int
  | 7 => .array .int
  | 8 => .array .int
  | 9 => .array .boolean
  | 10 => .int
  | 11 => .array .int
  | 12 => .array .int
  | 13 => .array .boolean
  | 14 => .array .int
  | 15 => .array .int
  | 16 => .array .int
  | 17 => .array .int
  | 18 => .array .int
  | 19 => .array .int
  | 20 => .array .int
  | 21 => .array .int
  | 22 => .array .int
  | 23 => .array .int
  | 24 => .array .int
  | 25 => .array .int
  | 26 => .array .int
  | _ => .array .int
abbrev wsX70 : List Cond := u_ws RX7 TX7 28
theorem nmX7 : ∀ a, a < 28 → ∀ b, b < 28 → a ≠ b → (TX7 a).2.1 ≠ (TX7 b).2.1 := by decide +kernel
theorem tyX7_ok : ∀ k, k < 28 → parseFieldDescriptor (TX7 k).2.2.1 = some (tyX7 k) := by decide +kernel
abbrev cX7_init : ByteArray := prog_9_method_1_code
def yX7_init : MethodName := ⟨RX7, "<init>", "()V"⟩
abbrev cX7_thrown : ByteArray := prog_9_method_2_code
def yX7_thrown : MethodName := ⟨RX7, "thrown", "()I"⟩
abbrev cX7_in : ByteArray := prog_9_method_3_code
def yX7_in : MethodName := ⟨RX7, "in", "(III)Z"⟩
abbrev cX7_isIndex : ByteArray := prog_9_method_4_code
def yX7_isIndex : MethodName := ⟨RX7, "isIndex", "(I)Z"⟩
abbrev cX7_isValue : ByteArray := prog_9_method_5_code
def yX7_isValue : MethodName := ⟨RX7, "isValue", "(I)Z"⟩
abbrev cX7_record : ByteArray := prog_9_method_6_code
def yX7_record : MethodName := ⟨RX7, "record", "(I)I"⟩
abbrev cX7_term : ByteArray := prog_9_method_7_code
def yX7_term : MethodName := ⟨RX7, "term", "(III)I"⟩
abbrev cX7_isQuestion : ByteArray := prog_9_method_8_code
def yX7_isQuestion : MethodName := ⟨RX7, "isQuestion", "(I)Z"⟩
abbrev cX7_question : ByteArray := prog_9_method_9_code
def yX7_question : MethodName := ⟨RX7, "question", "(IIII)I"⟩
abbrev cX7_session : ByteArray := prog_9_method_10_code
def yX7_session : MethodName := ⟨RX7, "session", "(II)I"⟩
abbrev cX7_isOpen : ByteArray := prog_9_method_11_code
def yX7_isOpen : MethodName := ⟨RX7, "isOpen", "(I)Z"⟩
abbrev cX7_end : ByteArray := prog_9_method_12_code
def yX7_end : MethodName := ⟨RX7, "end", "(I)V"⟩
abbrev cX7_tell : ByteArray := prog_9_method_13_code
def yX7_tell : MethodName := ⟨RX7, "tell", "(II)I"⟩
abbrev cX7_isName : ByteArray := prog_9_method_14_code
def yX7_isName : MethodName := ⟨RX7, "isName", "(II)Z"⟩
abbrev cX7_isSet : ByteArray := prog_9_method_15_code
def yX7_isSet : MethodName := ⟨RX7, "isSet", "(II)Z"⟩
abbrev cX7_meets : ByteArray := prog_9_method_16_code
def yX7_meets : MethodName := ⟨RX7, "meets", "(II)Z"⟩
abbrev cX7_search : ByteArray := prog_9_method_17_code
def yX7_search : MethodName := ⟨RX7, "search", "(III)I"⟩
abbrev cX7_size : ByteArray := prog_9_method_18_code
def yX7_size : MethodName := ⟨RX7, "size", "(II)I"⟩
abbrev cX7_present : ByteArray := prog_9_method_19_code
def yX7_present : MethodName := ⟨RX7, "present", "(IIII)I"⟩
abbrev cX7_segment : ByteArray := prog_9_method_20_code
def yX7_segment : MethodName := ⟨RX7, "segment", "(III)I"⟩
abbrev cX7_at : ByteArray := prog_9_method_21_code
def yX7_at : MethodName := ⟨RX7, "at", "(II)I"⟩
abbrev cX7_isBehind : ByteArray := prog_9_method_22_code
def yX7_isBehind : MethodName := ⟨RX7, "isBehind", "(IIIZ)Z"⟩
abbrev cX7_sort : ByteArray := prog_9_method_23_code
def yX7_sort : MethodName := ⟨RX7, "sort", "(IIIZ)I"⟩
abbrev cX7_reckon : ByteArray := prog_9_method_24_code
def yX7_reckon : MethodName := ⟨RX7, "reckon", "(I)V"⟩
abbrev cX7_scan : ByteArray := prog_9_method_25_code
def yX7_scan : MethodName := ⟨RX7, "scan", "(IIIII)I"⟩
abbrev cX7_scanned : ByteArray := prog_9_method_26_code
def yX7_scanned : MethodName := ⟨RX7, "scanned", "(III)I"⟩
abbrev cX7_drop : ByteArray := prog_9_method_27_code
def yX7_drop : MethodName := ⟨RX7, "drop", "(II)I"⟩
abbrev cX7_sets : ByteArray := prog_9_method_28_code
def yX7_sets : MethodName := ⟨RX7, "sets", "(I)I"⟩
abbrev cX7_close : ByteArray := prog_9_method_29_code
def yX7_close : MethodName := ⟨RX7, "close", "(I)I"⟩
abbrev cX7_state : ByteArray := prog_9_method_30_code
def yX7_state : MethodName := ⟨RX7, "state", "(II)I"⟩
def RJx00060 : String := "java/lang/ArrayIndexOutOfBoundsException"
def TJx00060 : u_T := fun k => match k with
  | 0 => ("java/lang/Throwable", "backtrace", "Ljava/lang/Object;", false)
  | 1 => ("java/lang/Throwable", "detailMessage", "Ljava/lang/String;", false)
  | 2 => ("java/lang/Throwable", "cause", "Ljava/lang/Throwable;", false)
  | 3 => ("java/lang/Throwable", "stackTrace", "[Ljava/lang/StackTraceElement;", false)
  | 4 => ("java/lang/Throwable", "depth", "I", false)
  | _ => ("java/lang/Throwable", "suppressedExceptions", "Ljava/util/List;", false)
def tyJx00060 : Nat → FieldType := fun k => match k with
  | 0 => .object "java/lang/Object"
  | 1 => .object "java/lang/String"
  | 2 => .object "java/lang/Throwable"
  | 3 => .array (.object "java/lang/StackTraceElement")
  | 4 => .int
  | _ => .object "java/util/List"
abbrev wsJx000600 : List Cond := u_ws RJx00060 TJx00060 6
theorem nmJx00060 : ∀ a, a < 6 → ∀ b, b < 6 → a ≠ b → (TJx00060 a).2.1 ≠ (TJx00060 b).2.1 := by decide +kernel
theorem tyJx00060_ok : ∀ k, k < 6 → parseFieldDescriptor (TJx00060 k).2.2.1 = some (tyJx00060 k) := by decide +kernel
abbrev cJx00060_init_a7421 : ByteArray := prog_10_method_2_code
def yJx00060_init_a7421 : MethodName := ⟨RJx00060, "<init>", "(Ljava/lang/String;)V"⟩
def RJ0 : String := "java/lang/String"
def TJ0 : u_T := fun k => match k with
  | 0 => ("java/lang/String", "value", "[B", true)
  | _ => ("java/lang/String", "coder", "B", true)
def tyJ0 : Nat → FieldType := fun k => match k with
  | 0 => .array .byte
  | _ => .byte
abbrev wsJ00 : List Cond := u_ws RJ0 TJ0 2
theorem nmJ0 : ∀ a, a < 2 → ∀ b, b < 2 → a ≠ b → (TJ0 a).2.1 ≠ (TJ0 b).2.1 := by decide +kernel
theorem tyJ0_ok : ∀ k, k < 2 → parseFieldDescriptor (TJ0 k).2.2.1 = some (tyJ0 k) := by decide +kernel
def RL : String := "SearchWireLaw"
abbrev cL_scanned : ByteArray := method_3_code
def yL_scanned : MethodName := ⟨RL, "scanned", "(LSearchWire;III[J)I"⟩
abbrev cL_law : ByteArray := code
def yL_law : MethodName := ⟨RL, "law", "([I)Z"⟩
abbrev vwCl : List vw_C := [(RJ0, TJ0, 2), (RJx00060, TJx00060, 6), (RX0, TX0, 6), (RX1, TX1, 5), (RX2, TX2, 3), (RX3, TX3, 3), (RX4, TX4, 3), (RX5, TX5, 7), (RX6, TX6, 4), (RX7, TX7, 28)]
