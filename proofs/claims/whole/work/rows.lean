section
-- ===== PART A: goes FIRST, ahead of the names: the tables' words, and 'selects' of the private methods out of them =====
/-- a private method of a class that the tables say can be made, by its rows of tables_1 -/
def lw_okq (q : MethodName × Nat) : Prop := (q.1.cls ≠ "java/lang/invoke/MethodHandle" ∧ q.1.cls ≠ "java/lang/invoke/VarHandle") ∧ Cond.instantiable q.1.cls q.2 ∈ tables_1 ∧ Cond.privateMethod q.1 ∈ tables_1 ∧ Cond.instanceMethod q.1 ∈ tables_1
theorem lw_p0 : lw_okq (⟨"NestTables", "isFull", "()Z"⟩, 10) := ⟨⟨by decide +kernel, by decide +kernel⟩, List.mem_of_getElem? (i := 10) (by decide +kernel), List.mem_of_getElem? (i := 78) (by decide +kernel), List.mem_of_getElem? (i := 79) (by decide +kernel)⟩
theorem lw_p1 : lw_okq (⟨"NestTables", "failed", "(I)I"⟩, 10) := ⟨⟨by decide +kernel, by decide +kernel⟩, List.mem_of_getElem? (i := 10) (by decide +kernel), List.mem_of_getElem? (i := 83) (by decide +kernel), List.mem_of_getElem? (i := 84) (by decide +kernel)⟩
theorem lw_p2 : lw_okq (⟨"NestTables", "begun", "(II)I"⟩, 10) := ⟨⟨by decide +kernel, by decide +kernel⟩, List.mem_of_getElem? (i := 10) (by decide +kernel), List.mem_of_getElem? (i := 88) (by decide +kernel), List.mem_of_getElem? (i := 89) (by decide +kernel)⟩
theorem lw_p3 : lw_okq (⟨"NestTables", "isUnknown", "(I)Z"⟩, 10) := ⟨⟨by decide +kernel, by decide +kernel⟩, List.mem_of_getElem? (i := 10) (by decide +kernel), List.mem_of_getElem? (i := 100) (by decide +kernel), List.mem_of_getElem? (i := 101) (by decide +kernel)⟩
theorem lw_p4 : lw_okq (⟨"NestTables", "begunWithRows", "(III)I"⟩, 10) := ⟨⟨by decide +kernel, by decide +kernel⟩, List.mem_of_getElem? (i := 10) (by decide +kernel), List.mem_of_getElem? (i := 224) (by decide +kernel), List.mem_of_getElem? (i := 225) (by decide +kernel)⟩
theorem lw_p5 : lw_okq (⟨"NestTables", "packRow", "([II)V"⟩, 10) := ⟨⟨by decide +kernel, by decide +kernel⟩, List.mem_of_getElem? (i := 10) (by decide +kernel), List.mem_of_getElem? (i := 285) (by decide +kernel), List.mem_of_getElem? (i := 286) (by decide +kernel)⟩
theorem lw_p6 : lw_okq (⟨"NestTables", "totalOfTable", "(II)I"⟩, 10) := ⟨⟨by decide +kernel, by decide +kernel⟩, List.mem_of_getElem? (i := 10) (by decide +kernel), List.mem_of_getElem? (i := 319) (by decide +kernel), List.mem_of_getElem? (i := 320) (by decide +kernel)⟩
theorem lw_p7 : lw_okq (⟨"NestTables", "totalOfRow", "(LNestTables$Row;I)I"⟩, 10) := ⟨⟨by decide +kernel, by decide +kernel⟩, List.mem_of_getElem? (i := 10) (by decide +kernel), List.mem_of_getElem? (i := 323) (by decide +kernel), List.mem_of_getElem? (i := 324) (by decide +kernel)⟩
theorem lw_p8 : lw_okq (⟨"NestTables", "totalOfLinks", "(LNestTables$Row;I)I"⟩, 10) := ⟨⟨by decide +kernel, by decide +kernel⟩, List.mem_of_getElem? (i := 10) (by decide +kernel), List.mem_of_getElem? (i := 327) (by decide +kernel), List.mem_of_getElem? (i := 328) (by decide +kernel)⟩
theorem lw_p9 : lw_okq (⟨"NestTables", "depthOfTable", "(II)I"⟩, 10) := ⟨⟨by decide +kernel, by decide +kernel⟩, List.mem_of_getElem? (i := 10) (by decide +kernel), List.mem_of_getElem? (i := 344) (by decide +kernel), List.mem_of_getElem? (i := 345) (by decide +kernel)⟩
theorem lw_p10 : lw_okq (⟨"NestTables", "deepestLink", "(LNestTables$Row;I)I"⟩, 10) := ⟨⟨by decide +kernel, by decide +kernel⟩, List.mem_of_getElem? (i := 10) (by decide +kernel), List.mem_of_getElem? (i := 348) (by decide +kernel), List.mem_of_getElem? (i := 349) (by decide +kernel)⟩
theorem lw_p11 : lw_okq (⟨"NestTables", "standingRows", "()I"⟩, 10) := ⟨⟨by decide +kernel, by decide +kernel⟩, List.mem_of_getElem? (i := 10) (by decide +kernel), List.mem_of_getElem? (i := 359) (by decide +kernel), List.mem_of_getElem? (i := 360) (by decide +kernel)⟩
theorem lw_p12 : lw_okq (⟨"NestTables", "allFallenPlaces", "()I"⟩, 10) := ⟨⟨by decide +kernel, by decide +kernel⟩, List.mem_of_getElem? (i := 10) (by decide +kernel), List.mem_of_getElem? (i := 367) (by decide +kernel), List.mem_of_getElem? (i := 368) (by decide +kernel)⟩
theorem lw_p13 : lw_okq (⟨"NestTablesModel", "fails", "(I)I"⟩, 21) := ⟨⟨by decide +kernel, by decide +kernel⟩, List.mem_of_getElem? (i := 375) (by decide +kernel), List.mem_of_getElem? (i := 454) (by decide +kernel), List.mem_of_getElem? (i := 455) (by decide +kernel)⟩
theorem lw_p14 : lw_okq (⟨"NestTablesModel", "newTable", "(II)I"⟩, 21) := ⟨⟨by decide +kernel, by decide +kernel⟩, List.mem_of_getElem? (i := 375) (by decide +kernel), List.mem_of_getElem? (i := 459) (by decide +kernel), List.mem_of_getElem? (i := 460) (by decide +kernel)⟩
theorem lw_p15 : lw_okq (⟨"NestTablesModel", "isTable", "(I)Z"⟩, 21) := ⟨⟨by decide +kernel, by decide +kernel⟩, List.mem_of_getElem? (i := 375) (by decide +kernel), List.mem_of_getElem? (i := 467) (by decide +kernel), List.mem_of_getElem? (i := 468) (by decide +kernel)⟩
def lw_privs_1 : List (MethodName × Nat) := [(⟨"NestTables", "isFull", "()Z"⟩, 10), (⟨"NestTables", "failed", "(I)I"⟩, 10), (⟨"NestTables", "begun", "(II)I"⟩, 10), (⟨"NestTables", "isUnknown", "(I)Z"⟩, 10), (⟨"NestTables", "begunWithRows", "(III)I"⟩, 10), (⟨"NestTables", "packRow", "([II)V"⟩, 10), (⟨"NestTables", "totalOfTable", "(II)I"⟩, 10), (⟨"NestTables", "totalOfRow", "(LNestTables$Row;I)I"⟩, 10), (⟨"NestTables", "totalOfLinks", "(LNestTables$Row;I)I"⟩, 10), (⟨"NestTables", "depthOfTable", "(II)I"⟩, 10), (⟨"NestTables", "deepestLink", "(LNestTables$Row;I)I"⟩, 10), (⟨"NestTables", "standingRows", "()I"⟩, 10), (⟨"NestTables", "allFallenPlaces", "()I"⟩, 10), (⟨"NestTablesModel", "fails", "(I)I"⟩, 21), (⟨"NestTablesModel", "newTable", "(II)I"⟩, 21), (⟨"NestTablesModel", "isTable", "(I)Z"⟩, 21)]
theorem lw_r1 : ∀ q ∈ lw_privs_1, lw_okq q := List.forall_mem_cons.mpr ⟨lw_p0, List.forall_mem_cons.mpr ⟨lw_p1, List.forall_mem_cons.mpr ⟨lw_p2, List.forall_mem_cons.mpr ⟨lw_p3, List.forall_mem_cons.mpr ⟨lw_p4, List.forall_mem_cons.mpr ⟨lw_p5, List.forall_mem_cons.mpr ⟨lw_p6, List.forall_mem_cons.mpr ⟨lw_p7, List.forall_mem_cons.mpr ⟨lw_p8, List.forall_mem_cons.mpr ⟨lw_p9, List.forall_mem_cons.mpr ⟨lw_p10, List.forall_mem_cons.mpr ⟨lw_p11, List.forall_mem_cons.mpr ⟨lw_p12, List.forall_mem_cons.mpr ⟨lw_p13, List.forall_mem_cons.mpr ⟨lw_p14, List.forall_mem_cons.mpr ⟨lw_p15, fun _ h => absurd h List.not_mem_nil⟩⟩⟩⟩⟩⟩⟩⟩⟩⟩⟩⟩⟩⟩⟩⟩
theorem lw_p16 : lw_okq (⟨"NestTablesModel", "isPlace", "(II)Z"⟩, 21) := ⟨⟨by decide +kernel, by decide +kernel⟩, List.mem_of_getElem? (i := 375) (by decide +kernel), List.mem_of_getElem? (i := 472) (by decide +kernel), List.mem_of_getElem? (i := 473) (by decide +kernel)⟩
theorem lw_p17 : lw_okq (⟨"NestTablesModel", "squeeze", "()V"⟩, 21) := ⟨⟨by decide +kernel, by decide +kernel⟩, List.mem_of_getElem? (i := 375) (by decide +kernel), List.mem_of_getElem? (i := 476) (by decide +kernel), List.mem_of_getElem? (i := 477) (by decide +kernel)⟩
theorem lw_p18 : lw_okq (⟨"NestTablesModel", "newRow", "(II)I"⟩, 21) := ⟨⟨by decide +kernel, by decide +kernel⟩, List.mem_of_getElem? (i := 375) (by decide +kernel), List.mem_of_getElem? (i := 480) (by decide +kernel), List.mem_of_getElem? (i := 481) (by decide +kernel)⟩
theorem lw_p19 : lw_okq (⟨"NestTablesModel", "cellCause", "(III)I"⟩, 21) := ⟨⟨by decide +kernel, by decide +kernel⟩, List.mem_of_getElem? (i := 375) (by decide +kernel), List.mem_of_getElem? (i := 497) (by decide +kernel), List.mem_of_getElem? (i := 498) (by decide +kernel)⟩
theorem lw_p20 : lw_okq (⟨"NestTablesModel", "toldAt", "(II)I"⟩, 21) := ⟨⟨by decide +kernel, by decide +kernel⟩, List.mem_of_getElem? (i := 375) (by decide +kernel), List.mem_of_getElem? (i := 506) (by decide +kernel), List.mem_of_getElem? (i := 507) (by decide +kernel)⟩
theorem lw_p21 : lw_okq (⟨"NestTablesModel", "firstOdd", "(I)I"⟩, 21) := ⟨⟨by decide +kernel, by decide +kernel⟩, List.mem_of_getElem? (i := 375) (by decide +kernel), List.mem_of_getElem? (i := 522) (by decide +kernel), List.mem_of_getElem? (i := 523) (by decide +kernel)⟩
theorem lw_p22 : lw_okq (⟨"NestTablesModel", "isEven", "(I)Z"⟩, 21) := ⟨⟨by decide +kernel, by decide +kernel⟩, List.mem_of_getElem? (i := 375) (by decide +kernel), List.mem_of_getElem? (i := 534) (by decide +kernel), List.mem_of_getElem? (i := 535) (by decide +kernel)⟩
theorem lw_p23 : lw_okq (⟨"NestTablesModel", "wideOf", "(I)I"⟩, 21) := ⟨⟨by decide +kernel, by decide +kernel⟩, List.mem_of_getElem? (i := 375) (by decide +kernel), List.mem_of_getElem? (i := 538) (by decide +kernel), List.mem_of_getElem? (i := 539) (by decide +kernel)⟩
theorem lw_p24 : lw_okq (⟨"NestTablesModel", "newEven", "(III)I"⟩, 21) := ⟨⟨by decide +kernel, by decide +kernel⟩, List.mem_of_getElem? (i := 375) (by decide +kernel), List.mem_of_getElem? (i := 543) (by decide +kernel), List.mem_of_getElem? (i := 544) (by decide +kernel)⟩
theorem lw_p25 : lw_okq (⟨"NestTablesModel", "cellOf", "(III)I"⟩, 21) := ⟨⟨by decide +kernel, by decide +kernel⟩, List.mem_of_getElem? (i := 375) (by decide +kernel), List.mem_of_getElem? (i := 547) (by decide +kernel), List.mem_of_getElem? (i := 548) (by decide +kernel)⟩
theorem lw_p26 : lw_okq (⟨"NestTablesModel", "areAlike", "(III)Z"⟩, 21) := ⟨⟨by decide +kernel, by decide +kernel⟩, List.mem_of_getElem? (i := 375) (by decide +kernel), List.mem_of_getElem? (i := 586) (by decide +kernel), List.mem_of_getElem? (i := 587) (by decide +kernel)⟩
theorem lw_p27 : lw_okq (⟨"NestTablesModel", "find", "(IZ)I"⟩, 21) := ⟨⟨by decide +kernel, by decide +kernel⟩, List.mem_of_getElem? (i := 375) (by decide +kernel), List.mem_of_getElem? (i := 598) (by decide +kernel), List.mem_of_getElem? (i := 599) (by decide +kernel)⟩
theorem lw_p28 : lw_okq (⟨"NestTablesModel", "enter", "(IIZ)V"⟩, 21) := ⟨⟨by decide +kernel, by decide +kernel⟩, List.mem_of_getElem? (i := 375) (by decide +kernel), List.mem_of_getElem? (i := 602) (by decide +kernel), List.mem_of_getElem? (i := 603) (by decide +kernel)⟩
theorem lw_p29 : lw_okq (⟨"NestTablesModel", "goOn", "(IZ)I"⟩, 21) := ⟨⟨by decide +kernel, by decide +kernel⟩, List.mem_of_getElem? (i := 375) (by decide +kernel), List.mem_of_getElem? (i := 606) (by decide +kernel), List.mem_of_getElem? (i := 607) (by decide +kernel)⟩
def lw_privs_2 : List (MethodName × Nat) := [(⟨"NestTablesModel", "isPlace", "(II)Z"⟩, 21), (⟨"NestTablesModel", "squeeze", "()V"⟩, 21), (⟨"NestTablesModel", "newRow", "(II)I"⟩, 21), (⟨"NestTablesModel", "cellCause", "(III)I"⟩, 21), (⟨"NestTablesModel", "toldAt", "(II)I"⟩, 21), (⟨"NestTablesModel", "firstOdd", "(I)I"⟩, 21), (⟨"NestTablesModel", "isEven", "(I)Z"⟩, 21), (⟨"NestTablesModel", "wideOf", "(I)I"⟩, 21), (⟨"NestTablesModel", "newEven", "(III)I"⟩, 21), (⟨"NestTablesModel", "cellOf", "(III)I"⟩, 21), (⟨"NestTablesModel", "areAlike", "(III)Z"⟩, 21), (⟨"NestTablesModel", "find", "(IZ)I"⟩, 21), (⟨"NestTablesModel", "enter", "(IIZ)V"⟩, 21), (⟨"NestTablesModel", "goOn", "(IZ)I"⟩, 21)]
theorem lw_r2 : ∀ q ∈ lw_privs_2, lw_okq q := List.forall_mem_cons.mpr ⟨lw_p16, List.forall_mem_cons.mpr ⟨lw_p17, List.forall_mem_cons.mpr ⟨lw_p18, List.forall_mem_cons.mpr ⟨lw_p19, List.forall_mem_cons.mpr ⟨lw_p20, List.forall_mem_cons.mpr ⟨lw_p21, List.forall_mem_cons.mpr ⟨lw_p22, List.forall_mem_cons.mpr ⟨lw_p23, List.forall_mem_cons.mpr ⟨lw_p24, List.forall_mem_cons.mpr ⟨lw_p25, List.forall_mem_cons.mpr ⟨lw_p26, List.forall_mem_cons.mpr ⟨lw_p27, List.forall_mem_cons.mpr ⟨lw_p28, List.forall_mem_cons.mpr ⟨lw_p29, fun _ h => absurd h List.not_mem_nil⟩⟩⟩⟩⟩⟩⟩⟩⟩⟩⟩⟩⟩⟩
def lw_privs : List (MethodName × Nat) := lw_privs_1 ++ (lw_privs_2)
def lw_tbl : List Cond := k2_sels lw_privs ++ tables_1
theorem lw_privs_ok : ∀ q ∈ lw_privs, lw_okq q := by
  show ∀ q ∈ lw_privs_1 ++ (lw_privs_2), lw_okq q
  exact List.forall_mem_append.mpr ⟨lw_r1, lw_r2⟩
/-- the streams that the claim lets the run draw from -/
abbrev lw_cs : List Choice := [Jvm.Choice.named "NaN.bits", Jvm.Choice.named "NaN.copy"]
theorem lw_bits : nanBits ∈ lw_cs := by first | decide | exact List.mem_cons_self | simp [lw_cs, nanBits]
def RX0 : String := "NestTables$Row"
def TX0 : u_T := fun k => match k with
  | 0 => ("NestTables$Row", "kind", "I", true)
  | 1 => ("NestTables$Row", "whole", "[I", true)
  | 2 => ("NestTables$Row", "reals", "[D", true)
  | _ => ("NestTables$Row", "countedIn", "I", false)
def tyX0 : Nat → FieldType := fun k => match k with
  | 0 => .int
  | 1 => .array .int
  | 2 => .array .double
  | _ => .int
abbrev wsX00 : List Cond := u_ws RX0 TX0 4
theorem nmX0 : ∀ a, a < 4 → ∀ b, b < 4 → a ≠ b → (TX0 a).2.1 ≠ (TX0 b).2.1 := by decide +kernel
theorem tyX0_ok : ∀ k, k < 4 → parseFieldDescriptor (TX0 k).2.2.1 = some (tyX0 k) := by decide +kernel
abbrev cX0_init : ByteArray := prog_2_method_1_code
def yX0_init : MethodName := ⟨RX0, "<init>", "(II)V"⟩
abbrev cX0_length : ByteArray := prog_2_method_2_code
def yX0_length : MethodName := ⟨RX0, "length", "()I"⟩
abbrev cX0_hasCells : ByteArray := prog_2_method_3_code
def yX0_hasCells : MethodName := ⟨RX0, "hasCells", "(II)Z"⟩
abbrev cX0_write : ByteArray := prog_2_method_4_code
def yX0_write : MethodName := ⟨RX0, "write", "(II)V"⟩
abbrev cX0_cut : ByteArray := prog_2_method_5_code
def yX0_cut : MethodName := ⟨RX0, "cut", "(I)I"⟩
abbrev cX0_sumOfCells : ByteArray := prog_2_method_6_code
def yX0_sumOfCells : MethodName := ⟨RX0, "sumOfCells", "()I"⟩
abbrev cX0_isNoNumber : ByteArray := prog_2_method_7_code
def yX0_isNoNumber : MethodName := ⟨RX0, "isNoNumber", "(I)Z"⟩
abbrev cX0_markNoNumber : ByteArray := prog_2_method_8_code
def yX0_markNoNumber : MethodName := ⟨RX0, "markNoNumber", "(I)V"⟩
abbrev cX0_takeCells : ByteArray := prog_2_method_9_code
def yX0_takeCells : MethodName := ⟨RX0, "takeCells", "(ILNestTables$Row;II)V"⟩
abbrev cX0_hasTheCellsOf : ByteArray := prog_2_method_10_code
def yX0_hasTheCellsOf : MethodName := ⟨RX0, "hasTheCellsOf", "(LNestTables$Row;)Z"⟩
abbrev cX0_hasTheCellOf : ByteArray := prog_2_method_11_code
def yX0_hasTheCellOf : MethodName := ⟨RX0, "hasTheCellOf", "(LNestTables$Row;I)Z"⟩
def RX1 : String := "NestTables$Table"
def TX1 : u_T := fun k => match k with
  | 0 => ("NestTables$Table", "rows", "[LNestTables$Row;", true)
  | 1 => ("NestTables$Table", "kind", "I", false)
  | _ => ("NestTables$Table", "high", "I", false)
def tyX1 : Nat → FieldType := fun k => match k with
  | 0 => .array (.object "NestTables$Row")
  | 1 => .int
  | _ => .int
abbrev wsX10 : List Cond := u_ws RX1 TX1 3
theorem nmX1 : ∀ a, a < 3 → ∀ b, b < 3 → a ≠ b → (TX1 a).2.1 ≠ (TX1 b).2.1 := by decide +kernel
theorem tyX1_ok : ∀ k, k < 3 → parseFieldDescriptor (TX1 k).2.2.1 = some (tyX1 k) := by decide +kernel
abbrev cX1_init : ByteArray := prog_3_method_1_code
def yX1_init : MethodName := ⟨RX1, "<init>", "()V"⟩
abbrev cX1_begin : ByteArray := prog_3_method_2_code
def yX1_begin : MethodName := ⟨RX1, "begin", "(II)V"⟩
abbrev cX1_hasPlace : ByteArray := prog_3_method_3_code
def yX1_hasPlace : MethodName := ⟨RX1, "hasPlace", "(I)Z"⟩
abbrev cX1_placeCause : ByteArray := prog_3_method_4_code
def yX1_placeCause : MethodName := ⟨RX1, "placeCause", "(I)I"⟩
abbrev cX1_cellCause : ByteArray := prog_3_method_5_code
def yX1_cellCause : MethodName := ⟨RX1, "cellCause", "(II)I"⟩
abbrev cX1_isEven : ByteArray := prog_3_method_6_code
def yX1_isEven : MethodName := ⟨RX1, "isEven", "()Z"⟩
abbrev cX1_wide : ByteArray := prog_3_method_7_code
def yX1_wide : MethodName := ⟨RX1, "wide", "()I"⟩
abbrev cX1_firstNotSquare : ByteArray := prog_3_method_8_code
def yX1_firstNotSquare : MethodName := ⟨RX1, "firstNotSquare", "()I"⟩
abbrev cX1_fallenPlaces : ByteArray := prog_3_method_9_code
def yX1_fallenPlaces : MethodName := ⟨RX1, "fallenPlaces", "()I"⟩
abbrev cX1_rowsNotYetCounted : ByteArray := prog_3_method_10_code
def yX1_rowsNotYetCounted : MethodName := ⟨RX1, "rowsNotYetCounted", "(I)I"⟩
abbrev cX1_agreesWith : ByteArray := prog_3_method_11_code
def yX1_agreesWith : MethodName := ⟨RX1, "agreesWith", "(LNestTables$Table;)Z"⟩
def RX2 : String := "NestTables"
def TX2 : u_T := fun k => match k with
  | 0 => ("NestTables", "tables", "[LNestTables$Table;", true)
  | 1 => ("NestTables", "tableCount", "I", false)
  | 2 => ("NestTables", "failures", "I", false)
  | 3 => ("NestTables", "words", "[I", true)
  | 4 => ("NestTables", "wordCount", "I", false)
  | 5 => ("NestTables", "open", "[Z", true)
  | 6 => ("NestTables", "enteredCount", "I", false)
  | 7 => ("NestTables", "totalCause", "I", false)
  | 8 => ("NestTables", "depths", "[I", true)
  | _ => ("NestTables", "countings", "I", false)
def tyX2 : Nat → FieldType := fun k => match k with
  | 0 => .array (.object "NestTables$Table")
  | 1 => .int
  | 2 => .int
  | 3 => .array .int
  | 4 => .int
  | 5 => .array .boolean
  | 6 => .int
  | 7 => .int
  | 8 => .array .int
  | _ => .int
abbrev wsX20 : List Cond := u_ws RX2 TX2 10
theorem nmX2 : ∀ a, a < 10 → ∀ b, b < 10 → a ≠ b → (TX2 a).2.1 ≠ (TX2 b).2.1 := by decide +kernel
theorem tyX2_ok : ∀ k, k < 10 → parseFieldDescriptor (TX2 k).2.2.1 = some (tyX2 k) := by decide +kernel
abbrev cX2_init : ByteArray := prog_1_method_1_code
def yX2_init : MethodName := ⟨RX2, "<init>", "()V"⟩
abbrev cX2_table : ByteArray := prog_1_method_2_code
def yX2_table : MethodName := ⟨RX2, "table", "(II)I"⟩
abbrev cX2_row : ByteArray := prog_1_method_3_code
def yX2_row : MethodName := ⟨RX2, "row", "(III)I"⟩
abbrev cX2_share : ByteArray := prog_1_method_4_code
def yX2_share : MethodName := ⟨RX2, "share", "(IIII)I"⟩
abbrev cX2_fall : ByteArray := prog_1_method_5_code
def yX2_fall : MethodName := ⟨RX2, "fall", "(II)I"⟩
abbrev cX2_put : ByteArray := prog_1_method_6_code
def yX2_put : MethodName := ⟨RX2, "put", "(IIII)I"⟩
abbrev cX2_get : ByteArray := prog_1_method_7_code
def yX2_get : MethodName := ⟨RX2, "get", "(III)I"⟩
abbrev cX2_real : ByteArray := prog_1_method_8_code
def yX2_real : MethodName := ⟨RX2, "real", "(III)D"⟩
abbrev cX2_told : ByteArray := prog_1_method_9_code
def yX2_told : MethodName := ⟨RX2, "told", "(III)I"⟩
abbrev cX2_odd : ByteArray := prog_1_method_10_code
def yX2_odd : MethodName := ⟨RX2, "odd", "(I)I"⟩
abbrev cX2_copy : ByteArray := prog_1_method_11_code
def yX2_copy : MethodName := ⟨RX2, "copy", "(IIIIIII)I"⟩
abbrev cX2_turned : ByteArray := prog_1_method_12_code
def yX2_turned : MethodName := ⟨RX2, "turned", "(I)I"⟩
abbrev cX2_product : ByteArray := prog_1_method_13_code
def yX2_product : MethodName := ⟨RX2, "product", "(II)I"⟩
abbrev cX2_distances : ByteArray := prog_1_method_14_code
def yX2_distances : MethodName := ⟨RX2, "distances", "(I)I"⟩
abbrev cX2_pack : ByteArray := prog_1_method_15_code
def yX2_pack : MethodName := ⟨RX2, "pack", "(I)I"⟩
abbrev cX2_word : ByteArray := prog_1_method_16_code
def yX2_word : MethodName := ⟨RX2, "word", "(I)I"⟩
abbrev cX2_alike : ByteArray := prog_1_method_17_code
def yX2_alike : MethodName := ⟨RX2, "alike", "(II)I"⟩
abbrev cX2_same : ByteArray := prog_1_method_18_code
def yX2_same : MethodName := ⟨RX2, "same", "(IIII)I"⟩
abbrev cX2_total : ByteArray := prog_1_method_19_code
def yX2_total : MethodName := ⟨RX2, "total", "(I)I"⟩
abbrev cX2_entered : ByteArray := prog_1_method_20_code
def yX2_entered : MethodName := ⟨RX2, "entered", "()I"⟩
abbrev cX2_deep : ByteArray := prog_1_method_21_code
def yX2_deep : MethodName := ⟨RX2, "deep", "(I)I"⟩
abbrev cX2_count : ByteArray := prog_1_method_22_code
def yX2_count : MethodName := ⟨RX2, "count", "(I)I"⟩
abbrev cX2_clear : ByteArray := prog_1_method_23_code
def yX2_clear : MethodName := ⟨RX2, "clear", "()I"⟩
abbrev cX2_isUnknown : ByteArray := prog_1_method_24_code
def yX2_isUnknown : MethodName := ⟨RX2, "isUnknown", "(I)Z"⟩
abbrev cX2_isFull : ByteArray := prog_1_method_25_code
def yX2_isFull : MethodName := ⟨RX2, "isFull", "()Z"⟩
abbrev cX2_failed : ByteArray := prog_1_method_26_code
def yX2_failed : MethodName := ⟨RX2, "failed", "(I)I"⟩
abbrev cX2_begun : ByteArray := prog_1_method_27_code
def yX2_begun : MethodName := ⟨RX2, "begun", "(II)I"⟩
abbrev cX2_begunWithRows : ByteArray := prog_1_method_28_code
def yX2_begunWithRows : MethodName := ⟨RX2, "begunWithRows", "(III)I"⟩
abbrev cX2_canMultiply : ByteArray := prog_1_method_29_code
def yX2_canMultiply : MethodName := ⟨RX2, "canMultiply", "(LNestTables$Table;LNestTables$Table;)Z"⟩
abbrev cX2_multiply : ByteArray := prog_1_method_30_code
def yX2_multiply : MethodName := ⟨RX2, "multiply", "(LNestTables$Row;ILNestTables$Row;LNestTables$Table;)V"⟩
abbrev cX2_multiplyBits : ByteArray := prog_1_method_31_code
def yX2_multiplyBits : MethodName := ⟨RX2, "multiplyBits", "(LNestTables$Row;ILNestTables$Row;LNestTables$Table;)V"⟩
abbrev cX2_multiplyNumbers : ByteArray := prog_1_method_32_code
def yX2_multiplyNumbers : MethodName := ⟨RX2, "multiplyNumbers", "(LNestTables$Row;ILNestTables$Row;LNestTables$Table;)V"⟩
abbrev cX2_multiplyReals : ByteArray := prog_1_method_33_code
def yX2_multiplyReals : MethodName := ⟨RX2, "multiplyReals", "(LNestTables$Row;ILNestTables$Row;LNestTables$Table;)V"⟩
abbrev cX2_isNoProduct : ByteArray := prog_1_method_34_code
def yX2_isNoProduct : MethodName := ⟨RX2, "isNoProduct", "(DD)Z"⟩
abbrev cX2_isNoSum : ByteArray := prog_1_method_35_code
def yX2_isNoSum : MethodName := ⟨RX2, "isNoSum", "(DD)Z"⟩
abbrev cX2_isEndless : ByteArray := prog_1_method_36_code
def yX2_isEndless : MethodName := ⟨RX2, "isEndless", "(D)Z"⟩
abbrev cX2_writeSteps : ByteArray := prog_1_method_37_code
def yX2_writeSteps : MethodName := ⟨RX2, "writeSteps", "([I[II)V"⟩
abbrev cX2_shortenThrough : ByteArray := prog_1_method_38_code
def yX2_shortenThrough : MethodName := ⟨RX2, "shortenThrough", "(I[I[I)V"⟩
abbrev cX2_packRow : ByteArray := prog_1_method_39_code
def yX2_packRow : MethodName := ⟨RX2, "packRow", "([II)V"⟩
abbrev cX2_totalOfTable : ByteArray := prog_1_method_40_code
def yX2_totalOfTable : MethodName := ⟨RX2, "totalOfTable", "(II)I"⟩
abbrev cX2_totalOfRow : ByteArray := prog_1_method_41_code
def yX2_totalOfRow : MethodName := ⟨RX2, "totalOfRow", "(LNestTables$Row;I)I"⟩
abbrev cX2_totalOfLinks : ByteArray := prog_1_method_42_code
def yX2_totalOfLinks : MethodName := ⟨RX2, "totalOfLinks", "(LNestTables$Row;I)I"⟩
abbrev cX2_depthOfTable : ByteArray := prog_1_method_43_code
def yX2_depthOfTable : MethodName := ⟨RX2, "depthOfTable", "(II)I"⟩
abbrev cX2_deepestLink : ByteArray := prog_1_method_44_code
def yX2_deepestLink : MethodName := ⟨RX2, "deepestLink", "(LNestTables$Row;I)I"⟩
abbrev cX2_standingRows : ByteArray := prog_1_method_45_code
def yX2_standingRows : MethodName := ⟨RX2, "standingRows", "()I"⟩
abbrev cX2_allFallenPlaces : ByteArray := prog_1_method_46_code
def yX2_allFallenPlaces : MethodName := ⟨RX2, "allFallenPlaces", "()I"⟩
def RX3 : String := "NestTablesModel"
def TX3 : u_T := fun k => match k with
  | 0 => ("NestTablesModel", "tables", "I", false)
  | 1 => ("NestTablesModel", "kinds", "[I", true)
  | 2 => ("NestTablesModel", "highs", "[I", true)
  | 3 => ("NestTablesModel", "places", "[I", true)
  | 4 => ("NestTablesModel", "rows", "I", false)
  | 5 => ("NestTablesModel", "longs", "[I", true)
  | 6 => ("NestTablesModel", "cells", "[I", true)
  | 7 => ("NestTablesModel", "reals", "[D", true)
  | 8 => ("NestTablesModel", "failed", "I", false)
  | 9 => ("NestTablesModel", "comesTo", "[I", true)
  | 10 => ("NestTablesModel", "wordMany", "I", false)
  | 11 => ("NestTablesModel", "words", "[I", true)
  | 12 => ("NestTablesModel", "entered", "I", false)
  | 13 => ("NestTablesModel", "pile", "[I", true)
  | 14 => ("NestTablesModel", "pileAt", "[I", true)
  | 15 => ("NestTablesModel", "states", "[I", true)
  | 16 => ("NestTablesModel", "found", "[I", true)
  | 17 => ("NestTablesModel", "enteredBy", "[I", true)
  | 18 => ("NestTablesModel", "cause", "I", false)
  | 19 => ("NestTablesModel", "entering", "I", false)
  | _ => ("NestTablesModel", "justDone", "I", false)
def tyX3 : Nat → FieldType := fun k => match k with
  | 0 => .int
  | 1 => .array .int
  | 2 => .array .int
  | 3 => .array .int
  | 4 => .int
  | 5 => .array .int
  | 6 => .array .int
  | 7 => .array .double
  | 8 => .int
  | 9 => .array .int
  | 10 => .int
  | 11 => .array .int
  | 12 => .int
  | 13 => .array .int
  | 14 => .array .int
  | 15 => .array .int
  | 16 => .array .int
  | 17 => .array .int
  | 18 => .int
  | 19 => .int
  | _ => .int
abbrev wsX30 : List Cond := u_ws RX3 TX3 21
theorem nmX3 : ∀ a, a < 21 → ∀ b, b < 21 → a ≠ b → (TX3 a).2.1 ≠ (TX3 b).2.1 := by decide +kernel
theorem tyX3_ok : ∀ k, k < 21 → parseFieldDescriptor (TX3 k).2.2.1 = some (tyX3 k) := by decide +kernel
abbrev cX3_init : ByteArray := prog_5_method_1_code
def yX3_init : MethodName := ⟨RX3, "<init>", "()V"⟩
abbrev cX3_in : ByteArray := prog_5_method_3_code
def yX3_in : MethodName := ⟨RX3, "in", "(III)Z"⟩
abbrev cX3_fails : ByteArray := prog_5_method_4_code
def yX3_fails : MethodName := ⟨RX3, "fails", "(I)I"⟩
abbrev cX3_isTable : ByteArray := prog_5_method_5_code
def yX3_isTable : MethodName := ⟨RX3, "isTable", "(I)Z"⟩
abbrev cX3_newTable : ByteArray := prog_5_method_6_code
def yX3_newTable : MethodName := ⟨RX3, "newTable", "(II)I"⟩
abbrev cX3_newRow : ByteArray := prog_5_method_7_code
def yX3_newRow : MethodName := ⟨RX3, "newRow", "(II)I"⟩
abbrev cX3_newEven : ByteArray := prog_5_method_8_code
def yX3_newEven : MethodName := ⟨RX3, "newEven", "(III)I"⟩
abbrev cX3_table : ByteArray := prog_5_method_9_code
def yX3_table : MethodName := ⟨RX3, "table", "(II)I"⟩
abbrev cX3_isPlace : ByteArray := prog_5_method_10_code
def yX3_isPlace : MethodName := ⟨RX3, "isPlace", "(II)Z"⟩
abbrev cX3_row : ByteArray := prog_5_method_11_code
def yX3_row : MethodName := ⟨RX3, "row", "(III)I"⟩
abbrev cX3_squeeze : ByteArray := prog_5_method_12_code
def yX3_squeeze : MethodName := ⟨RX3, "squeeze", "()V"⟩
abbrev cX3_share : ByteArray := prog_5_method_13_code
def yX3_share : MethodName := ⟨RX3, "share", "(IIII)I"⟩
abbrev cX3_fall : ByteArray := prog_5_method_14_code
def yX3_fall : MethodName := ⟨RX3, "fall", "(II)I"⟩
abbrev cX3_cellCause : ByteArray := prog_5_method_15_code
def yX3_cellCause : MethodName := ⟨RX3, "cellCause", "(III)I"⟩
abbrev cX3_put : ByteArray := prog_5_method_16_code
def yX3_put : MethodName := ⟨RX3, "put", "(IIII)I"⟩
abbrev cX3_get : ByteArray := prog_5_method_17_code
def yX3_get : MethodName := ⟨RX3, "get", "(III)I"⟩
abbrev cX3_toldAt : ByteArray := prog_5_method_18_code
def yX3_toldAt : MethodName := ⟨RX3, "toldAt", "(II)I"⟩
abbrev cX3_real : ByteArray := prog_5_method_19_code
def yX3_real : MethodName := ⟨RX3, "real", "(III)D"⟩
abbrev cX3_told : ByteArray := prog_5_method_20_code
def yX3_told : MethodName := ⟨RX3, "told", "(III)I"⟩
abbrev cX3_firstOdd : ByteArray := prog_5_method_21_code
def yX3_firstOdd : MethodName := ⟨RX3, "firstOdd", "(I)I"⟩
abbrev cX3_odd : ByteArray := prog_5_method_22_code
def yX3_odd : MethodName := ⟨RX3, "odd", "(I)I"⟩
abbrev cX3_copy : ByteArray := prog_5_method_23_code
def yX3_copy : MethodName := ⟨RX3, "copy", "(IIIIIII)I"⟩
abbrev cX3_isEven : ByteArray := prog_5_method_24_code
def yX3_isEven : MethodName := ⟨RX3, "isEven", "(I)Z"⟩
abbrev cX3_wideOf : ByteArray := prog_5_method_25_code
def yX3_wideOf : MethodName := ⟨RX3, "wideOf", "(I)I"⟩
abbrev cX3_cellOf : ByteArray := prog_5_method_26_code
def yX3_cellOf : MethodName := ⟨RX3, "cellOf", "(III)I"⟩
abbrev cX3_turned : ByteArray := prog_5_method_27_code
def yX3_turned : MethodName := ⟨RX3, "turned", "(I)I"⟩
abbrev cX3_hasNone : ByteArray := prog_5_method_28_code
def yX3_hasNone : MethodName := ⟨RX3, "hasNone", "(IDD)Z"⟩
abbrev cX3_noNumber : ByteArray := prog_5_method_29_code
def yX3_noNumber : MethodName := ⟨RX3, "noNumber", "()D"⟩
abbrev cX3_reckoned : ByteArray := prog_5_method_30_code
def yX3_reckoned : MethodName := ⟨RX3, "reckoned", "(IDD)D"⟩
abbrev cX3_product : ByteArray := prog_5_method_31_code
def yX3_product : MethodName := ⟨RX3, "product", "(II)I"⟩
abbrev cX3_distances : ByteArray := prog_5_method_32_code
def yX3_distances : MethodName := ⟨RX3, "distances", "(I)I"⟩
abbrev cX3_pack : ByteArray := prog_5_method_33_code
def yX3_pack : MethodName := ⟨RX3, "pack", "(I)I"⟩
abbrev cX3_word : ByteArray := prog_5_method_34_code
def yX3_word : MethodName := ⟨RX3, "word", "(I)I"⟩
abbrev cX3_areAlike : ByteArray := prog_5_method_35_code
def yX3_areAlike : MethodName := ⟨RX3, "areAlike", "(III)Z"⟩
abbrev cX3_alike : ByteArray := prog_5_method_36_code
def yX3_alike : MethodName := ⟨RX3, "alike", "(II)I"⟩
abbrev cX3_same : ByteArray := prog_5_method_37_code
def yX3_same : MethodName := ⟨RX3, "same", "(IIII)I"⟩
abbrev cX3_goOn : ByteArray := prog_5_method_38_code
def yX3_goOn : MethodName := ⟨RX3, "goOn", "(IZ)I"⟩
abbrev cX3_enter : ByteArray := prog_5_method_39_code
def yX3_enter : MethodName := ⟨RX3, "enter", "(IIZ)V"⟩
abbrev cX3_find : ByteArray := prog_5_method_40_code
def yX3_find : MethodName := ⟨RX3, "find", "(IZ)I"⟩
abbrev cX3_total : ByteArray := prog_5_method_41_code
def yX3_total : MethodName := ⟨RX3, "total", "(I)I"⟩
abbrev cX3_entered : ByteArray := prog_5_method_42_code
def yX3_entered : MethodName := ⟨RX3, "entered", "()I"⟩
abbrev cX3_deep : ByteArray := prog_5_method_43_code
def yX3_deep : MethodName := ⟨RX3, "deep", "(I)I"⟩
abbrev cX3_count : ByteArray := prog_5_method_44_code
def yX3_count : MethodName := ⟨RX3, "count", "(I)I"⟩
abbrev cX3_clear : ByteArray := prog_5_method_45_code
def yX3_clear : MethodName := ⟨RX3, "clear", "()I"⟩
def RJxe99ae : String := "java/lang/Double"
def TJxe99ae : u_T := fun k => match k with
  | _ => ("", "", "", false)
def tyJxe99ae : Nat → FieldType := fun k => match k with
  | _ => .int
abbrev wsJxe99ae0 : List Cond := u_ws RJxe99ae TJxe99ae 0
theorem nmJxe99ae : ∀ a, a < 0 → ∀ b, b < 0 → a ≠ b → (TJxe99ae a).2.1 ≠ (TJxe99ae b).2.1 := by decide +kernel
theorem tyJxe99ae_ok : ∀ k, k < 0 → parseFieldDescriptor (TJxe99ae k).2.2.1 = some (tyJxe99ae k) := by decide +kernel
def RJ9 : String := "java/lang/Math"
def TJ9 : u_T := fun k => match k with
  | _ => ("", "", "", false)
def tyJ9 : Nat → FieldType := fun k => match k with
  | _ => .int
abbrev wsJ90 : List Cond := u_ws RJ9 TJ9 0
theorem nmJ9 : ∀ a, a < 0 → ∀ b, b < 0 → a ≠ b → (TJ9 a).2.1 ≠ (TJ9 b).2.1 := by decide +kernel
theorem tyJ9_ok : ∀ k, k < 0 → parseFieldDescriptor (TJ9 k).2.2.1 = some (tyJ9 k) := by decide +kernel
abbrev cJ9_max_7cf53 : ByteArray := prog_7_method_65_code
def yJ9_max_7cf53 : MethodName := ⟨RJ9, "max", "(II)I"⟩
def RJ10 : String := "java/lang/System"
def TJ10 : u_T := fun k => match k with
  | _ => ("", "", "", false)
def tyJ10 : Nat → FieldType := fun k => match k with
  | _ => .int
abbrev wsJ100 : List Cond := u_ws RJ10 TJ10 0
theorem nmJ10 : ∀ a, a < 0 → ∀ b, b < 0 → a ≠ b → (TJ10 a).2.1 ≠ (TJ10 b).2.1 := by decide +kernel
theorem tyJ10_ok : ∀ k, k < 0 → parseFieldDescriptor (TJ10 k).2.2.1 = some (tyJ10 k) := by decide +kernel
def RJ7 : String := "java/util/Arrays"
def TJ7 : u_T := fun k => match k with
  | _ => ("", "", "", false)
def tyJ7 : Nat → FieldType := fun k => match k with
  | _ => .int
abbrev wsJ70 : List Cond := u_ws RJ7 TJ7 0
theorem nmJ7 : ∀ a, a < 0 → ∀ b, b < 0 → a ≠ b → (TJ7 a).2.1 ≠ (TJ7 b).2.1 := by decide +kernel
theorem tyJ7_ok : ∀ k, k < 0 → parseFieldDescriptor (TJ7 k).2.2.1 = some (tyJ7 k) := by decide +kernel
abbrev cJ7_fill_53178 : ByteArray := prog_9_method_103_code
def yJ7_fill_53178 : MethodName := ⟨RJ7, "fill", "([II)V"⟩
def RL : String := "NestTablesLaw"
abbrev cL_law : ByteArray := code
def yL_law : MethodName := ⟨RL, "law", "([I)Z"⟩
abbrev vwCl : List vw_C := [(RX0, TX0, 4), (RX1, TX1, 3), (RX2, TX2, 10), (RX3, TX3, 21)]
end
section
theorem dX0_init_0 : decode cX0_init 0 = .ok (.aload_n 0, 1) := by decide +kernel
theorem dX0_init_1 : decode cX0_init 1 = .ok (.invokespecial 3, 3) := by decide +kernel
theorem dX0_init_4 : decode cX0_init 4 = .ok (.aload_n 0, 1) := by decide +kernel
theorem dX0_init_5 : decode cX0_init 5 = .ok (.iload_n 1, 1) := by decide +kernel
theorem dX0_init_6 : decode cX0_init 6 = .ok (.putfield 9, 3) := by decide +kernel
theorem dX0_init_9 : decode cX0_init 9 = .ok (.aload_n 0, 1) := by decide +kernel
theorem dX0_init_10 : decode cX0_init 10 = .ok (.iload_n 2, 1) := by decide +kernel
theorem dX0_init_11 : decode cX0_init 11 = .ok (.newarray .int, 2) := by decide +kernel
theorem dX0_init_13 : decode cX0_init 13 = .ok (.putfield 15, 3) := by decide +kernel
theorem dX0_init_16 : decode cX0_init 16 = .ok (.aload_n 0, 1) := by decide +kernel
theorem dX0_init_17 : decode cX0_init 17 = .ok (.iload_n 1, 1) := by decide +kernel
theorem dX0_init_18 : decode cX0_init 18 = .ok (.iconst 2, 1) := by decide +kernel
theorem dX0_init_19 : decode cX0_init 19 = .ok (.if_icmp .ne 7, 3) := by decide +kernel
theorem dX0_init_22 : decode cX0_init 22 = .ok (.iload_n 2, 1) := by decide +kernel
theorem dX0_init_23 : decode cX0_init 23 = .ok (.goto 4, 3) := by decide +kernel
theorem dX0_init_26 : decode cX0_init 26 = .ok (.iconst 0, 1) := by decide +kernel
theorem dX0_init_27 : decode cX0_init 27 = .ok (.newarray .double, 2) := by decide +kernel
theorem dX0_init_29 : decode cX0_init 29 = .ok (.putfield 19, 3) := by decide +kernel
theorem dX0_init_32 : decode cX0_init 32 = .ok (.iload_n 1, 1) := by decide +kernel
theorem dX0_init_33 : decode cX0_init 33 = .ok (.iconst 3, 1) := by decide +kernel
theorem dX0_init_34 : decode cX0_init 34 = .ok (.if_icmp .ne 12, 3) := by decide +kernel
theorem dX0_init_37 : decode cX0_init 37 = .ok (.aload_n 0, 1) := by decide +kernel
theorem dX0_init_38 : decode cX0_init 38 = .ok (.getfield 15, 3) := by decide +kernel
theorem dX0_init_41 : decode cX0_init 41 = .ok (.ldc 23, 2) := by decide +kernel
theorem dX0_init_43 : decode cX0_init 43 = .ok (.invokestatic 24, 3) := by decide +kernel
theorem dX0_init_46 : decode cX0_init 46 = .ok (.return_, 1) := by decide +kernel
theorem dX0_length_0 : decode cX0_length 0 = .ok (.aload_n 0, 1) := by decide +kernel
theorem dX0_length_1 : decode cX0_length 1 = .ok (.getfield 15, 3) := by decide +kernel
theorem dX0_length_4 : decode cX0_length 4 = .ok (.arraylength, 1) := by decide +kernel
theorem dX0_length_5 : decode cX0_length 5 = .ok (.ireturn, 1) := by decide +kernel
theorem dX0_hasCells_0 : decode cX0_hasCells 0 = .ok (.iload_n 1, 1) := by decide +kernel
theorem dX0_hasCells_1 : decode cX0_hasCells 1 = .ok (.ifCond .lt 22, 3) := by decide +kernel
theorem dX0_hasCells_4 : decode cX0_hasCells 4 = .ok (.iload_n 2, 1) := by decide +kernel
theorem dX0_hasCells_5 : decode cX0_hasCells 5 = .ok (.ifCond .lt 18, 3) := by decide +kernel
theorem dX0_hasCells_8 : decode cX0_hasCells 8 = .ok (.iload_n 1, 1) := by decide +kernel
theorem dX0_hasCells_9 : decode cX0_hasCells 9 = .ok (.aload_n 0, 1) := by decide +kernel
theorem dX0_hasCells_10 : decode cX0_hasCells 10 = .ok (.getfield 15, 3) := by decide +kernel
theorem dX0_hasCells_13 : decode cX0_hasCells 13 = .ok (.arraylength, 1) := by decide +kernel
theorem dX0_hasCells_14 : decode cX0_hasCells 14 = .ok (.iload_n 2, 1) := by decide +kernel
theorem dX0_hasCells_15 : decode cX0_hasCells 15 = .ok (.isub, 1) := by decide +kernel
theorem dX0_hasCells_16 : decode cX0_hasCells 16 = .ok (.if_icmp .gt 7, 3) := by decide +kernel
theorem dX0_hasCells_19 : decode cX0_hasCells 19 = .ok (.iconst 1, 1) := by decide +kernel
theorem dX0_hasCells_20 : decode cX0_hasCells 20 = .ok (.goto 4, 3) := by decide +kernel
theorem dX0_hasCells_23 : decode cX0_hasCells 23 = .ok (.iconst 0, 1) := by decide +kernel
theorem dX0_hasCells_24 : decode cX0_hasCells 24 = .ok (.ireturn, 1) := by decide +kernel
theorem dX0_write_0 : decode cX0_write 0 = .ok (.aload_n 0, 1) := by decide +kernel
theorem dX0_write_1 : decode cX0_write 1 = .ok (.getfield 9, 3) := by decide +kernel
theorem dX0_write_4 : decode cX0_write 4 = .ok (.lookupswitch 68 #[(0, 28), (2, 46)], 28) := by decide +kernel
theorem dX0_write_32 : decode cX0_write 32 = .ok (.aload_n 0, 1) := by decide +kernel
theorem dX0_write_33 : decode cX0_write 33 = .ok (.getfield 15, 3) := by decide +kernel
theorem dX0_write_36 : decode cX0_write 36 = .ok (.iload_n 1, 1) := by decide +kernel
theorem dX0_write_37 : decode cX0_write 37 = .ok (.iload_n 2, 1) := by decide +kernel
theorem dX0_write_38 : decode cX0_write 38 = .ok (.ifCond .eq 7, 3) := by decide +kernel
theorem dX0_write_41 : decode cX0_write 41 = .ok (.iconst 1, 1) := by decide +kernel
theorem dX0_write_42 : decode cX0_write 42 = .ok (.goto 4, 3) := by decide +kernel
theorem dX0_write_45 : decode cX0_write 45 = .ok (.iconst 0, 1) := by decide +kernel
theorem dX0_write_46 : decode cX0_write 46 = .ok (.iastore, 1) := by decide +kernel
theorem dX0_write_47 : decode cX0_write 47 = .ok (.goto 32, 3) := by decide +kernel
theorem dX0_write_50 : decode cX0_write 50 = .ok (.aload_n 0, 1) := by decide +kernel
theorem dX0_write_51 : decode cX0_write 51 = .ok (.getfield 15, 3) := by decide +kernel
theorem dX0_write_54 : decode cX0_write 54 = .ok (.iload_n 1, 1) := by decide +kernel
theorem dX0_write_55 : decode cX0_write 55 = .ok (.iconst 0, 1) := by decide +kernel
theorem dX0_write_56 : decode cX0_write 56 = .ok (.iastore, 1) := by decide +kernel
theorem dX0_write_57 : decode cX0_write 57 = .ok (.aload_n 0, 1) := by decide +kernel
theorem dX0_write_58 : decode cX0_write 58 = .ok (.getfield 19, 3) := by decide +kernel
theorem dX0_write_61 : decode cX0_write 61 = .ok (.iload_n 1, 1) := by decide +kernel
theorem dX0_write_62 : decode cX0_write 62 = .ok (.iload_n 2, 1) := by decide +kernel
theorem dX0_write_63 : decode cX0_write 63 = .ok (.i2d, 1) := by decide +kernel
theorem dX0_write_64 : decode cX0_write 64 = .ok (.ldc2_w 30, 3) := by decide +kernel
theorem dX0_write_67 : decode cX0_write 67 = .ok (.ddiv, 1) := by decide +kernel
theorem dX0_write_68 : decode cX0_write 68 = .ok (.dastore, 1) := by decide +kernel
theorem dX0_write_69 : decode cX0_write 69 = .ok (.goto 10, 3) := by decide +kernel
theorem dX0_write_72 : decode cX0_write 72 = .ok (.aload_n 0, 1) := by decide +kernel
theorem dX0_write_73 : decode cX0_write 73 = .ok (.getfield 15, 3) := by decide +kernel
theorem dX0_write_76 : decode cX0_write 76 = .ok (.iload_n 1, 1) := by decide +kernel
theorem dX0_write_77 : decode cX0_write 77 = .ok (.iload_n 2, 1) := by decide +kernel
theorem dX0_write_78 : decode cX0_write 78 = .ok (.iastore, 1) := by decide +kernel
theorem dX0_write_79 : decode cX0_write 79 = .ok (.return_, 1) := by decide +kernel
theorem dX0_cut_0 : decode cX0_cut 0 = .ok (.aload_n 0, 1) := by decide +kernel
theorem dX0_cut_1 : decode cX0_cut 1 = .ok (.getfield 9, 3) := by decide +kernel
theorem dX0_cut_4 : decode cX0_cut 4 = .ok (.iconst 2, 1) := by decide +kernel
theorem dX0_cut_5 : decode cX0_cut 5 = .ok (.if_icmp .ne 13, 3) := by decide +kernel
theorem dX0_cut_8 : decode cX0_cut 8 = .ok (.aload_n 0, 1) := by decide +kernel
theorem dX0_cut_9 : decode cX0_cut 9 = .ok (.getfield 19, 3) := by decide +kernel
theorem dX0_cut_12 : decode cX0_cut 12 = .ok (.iload_n 1, 1) := by decide +kernel
theorem dX0_cut_13 : decode cX0_cut 13 = .ok (.daload, 1) := by decide +kernel
theorem dX0_cut_14 : decode cX0_cut 14 = .ok (.d2i, 1) := by decide +kernel
theorem dX0_cut_15 : decode cX0_cut 15 = .ok (.goto 9, 3) := by decide +kernel
theorem dX0_cut_18 : decode cX0_cut 18 = .ok (.aload_n 0, 1) := by decide +kernel
theorem dX0_cut_19 : decode cX0_cut 19 = .ok (.getfield 15, 3) := by decide +kernel
theorem dX0_cut_22 : decode cX0_cut 22 = .ok (.iload_n 1, 1) := by decide +kernel
theorem dX0_cut_23 : decode cX0_cut 23 = .ok (.iaload, 1) := by decide +kernel
theorem dX0_cut_24 : decode cX0_cut 24 = .ok (.ireturn, 1) := by decide +kernel
theorem dX0_sumOfCells_0 : decode cX0_sumOfCells 0 = .ok (.iconst 0, 1) := by decide +kernel
theorem dX0_sumOfCells_1 : decode cX0_sumOfCells 1 = .ok (.istore_n 1, 1) := by decide +kernel
theorem dX0_sumOfCells_2 : decode cX0_sumOfCells 2 = .ok (.iconst 0, 1) := by decide +kernel
theorem dX0_sumOfCells_3 : decode cX0_sumOfCells 3 = .ok (.istore_n 2, 1) := by decide +kernel
theorem dX0_sumOfCells_4 : decode cX0_sumOfCells 4 = .ok (.iload_n 2, 1) := by decide +kernel
theorem dX0_sumOfCells_5 : decode cX0_sumOfCells 5 = .ok (.aload_n 0, 1) := by decide +kernel
theorem dX0_sumOfCells_6 : decode cX0_sumOfCells 6 = .ok (.getfield 15, 3) := by decide +kernel
theorem dX0_sumOfCells_9 : decode cX0_sumOfCells 9 = .ok (.arraylength, 1) := by decide +kernel
theorem dX0_sumOfCells_10 : decode cX0_sumOfCells 10 = .ok (.if_icmp .ge 17, 3) := by decide +kernel
theorem dX0_sumOfCells_13 : decode cX0_sumOfCells 13 = .ok (.iload_n 1, 1) := by decide +kernel
theorem dX0_sumOfCells_14 : decode cX0_sumOfCells 14 = .ok (.aload_n 0, 1) := by decide +kernel
theorem dX0_sumOfCells_15 : decode cX0_sumOfCells 15 = .ok (.iload_n 2, 1) := by decide +kernel
theorem dX0_sumOfCells_16 : decode cX0_sumOfCells 16 = .ok (.invokevirtual 32, 3) := by decide +kernel
theorem dX0_sumOfCells_19 : decode cX0_sumOfCells 19 = .ok (.iadd, 1) := by decide +kernel
theorem dX0_sumOfCells_20 : decode cX0_sumOfCells 20 = .ok (.istore_n 1, 1) := by decide +kernel
theorem dX0_sumOfCells_21 : decode cX0_sumOfCells 21 = .ok (.iinc 2 1, 3) := by decide +kernel
theorem dX0_sumOfCells_24 : decode cX0_sumOfCells 24 = .ok (.goto (-20), 3) := by decide +kernel
theorem dX0_sumOfCells_27 : decode cX0_sumOfCells 27 = .ok (.iload_n 1, 1) := by decide +kernel
theorem dX0_sumOfCells_28 : decode cX0_sumOfCells 28 = .ok (.ireturn, 1) := by decide +kernel
theorem dX0_isNoNumber_0 : decode cX0_isNoNumber 0 = .ok (.aload_n 0, 1) := by decide +kernel
theorem dX0_isNoNumber_1 : decode cX0_isNoNumber 1 = .ok (.getfield 9, 3) := by decide +kernel
theorem dX0_isNoNumber_4 : decode cX0_isNoNumber 4 = .ok (.iconst 2, 1) := by decide +kernel
theorem dX0_isNoNumber_5 : decode cX0_isNoNumber 5 = .ok (.if_icmp .ne 16, 3) := by decide +kernel
theorem dX0_isNoNumber_8 : decode cX0_isNoNumber 8 = .ok (.aload_n 0, 1) := by decide +kernel
theorem dX0_isNoNumber_9 : decode cX0_isNoNumber 9 = .ok (.getfield 15, 3) := by decide +kernel
theorem dX0_isNoNumber_12 : decode cX0_isNoNumber 12 = .ok (.iload_n 1, 1) := by decide +kernel
theorem dX0_isNoNumber_13 : decode cX0_isNoNumber 13 = .ok (.iaload, 1) := by decide +kernel
theorem dX0_isNoNumber_14 : decode cX0_isNoNumber 14 = .ok (.ifCond .eq 7, 3) := by decide +kernel
theorem dX0_isNoNumber_17 : decode cX0_isNoNumber 17 = .ok (.iconst 1, 1) := by decide +kernel
theorem dX0_isNoNumber_18 : decode cX0_isNoNumber 18 = .ok (.goto 4, 3) := by decide +kernel
theorem dX0_isNoNumber_21 : decode cX0_isNoNumber 21 = .ok (.iconst 0, 1) := by decide +kernel
theorem dX0_isNoNumber_22 : decode cX0_isNoNumber 22 = .ok (.ireturn, 1) := by decide +kernel
theorem dX0_markNoNumber_0 : decode cX0_markNoNumber 0 = .ok (.aload_n 0, 1) := by decide +kernel
theorem dX0_markNoNumber_1 : decode cX0_markNoNumber 1 = .ok (.getfield 15, 3) := by decide +kernel
theorem dX0_markNoNumber_4 : decode cX0_markNoNumber 4 = .ok (.iload_n 1, 1) := by decide +kernel
theorem dX0_markNoNumber_5 : decode cX0_markNoNumber 5 = .ok (.iconst 1, 1) := by decide +kernel
theorem dX0_markNoNumber_6 : decode cX0_markNoNumber 6 = .ok (.iastore, 1) := by decide +kernel
theorem dX0_markNoNumber_7 : decode cX0_markNoNumber 7 = .ok (.aload_n 0, 1) := by decide +kernel
theorem dX0_markNoNumber_8 : decode cX0_markNoNumber 8 = .ok (.getfield 19, 3) := by decide +kernel
theorem dX0_markNoNumber_11 : decode cX0_markNoNumber 11 = .ok (.iload_n 1, 1) := by decide +kernel
theorem dX0_markNoNumber_12 : decode cX0_markNoNumber 12 = .ok (.dconst 0, 1) := by decide +kernel
theorem dX0_markNoNumber_13 : decode cX0_markNoNumber 13 = .ok (.dastore, 1) := by decide +kernel
theorem dX0_markNoNumber_14 : decode cX0_markNoNumber 14 = .ok (.return_, 1) := by decide +kernel
theorem dX0_takeCells_0 : decode cX0_takeCells 0 = .ok (.aload_n 2, 1) := by decide +kernel
theorem dX0_takeCells_1 : decode cX0_takeCells 1 = .ok (.getfield 15, 3) := by decide +kernel
theorem dX0_takeCells_4 : decode cX0_takeCells 4 = .ok (.iload_n 3, 1) := by decide +kernel
theorem dX0_takeCells_5 : decode cX0_takeCells 5 = .ok (.aload_n 0, 1) := by decide +kernel
theorem dX0_takeCells_6 : decode cX0_takeCells 6 = .ok (.getfield 15, 3) := by decide +kernel
theorem dX0_takeCells_9 : decode cX0_takeCells 9 = .ok (.iload_n 1, 1) := by decide +kernel
theorem dX0_takeCells_10 : decode cX0_takeCells 10 = .ok (.iload 4, 2) := by decide +kernel
theorem dX0_takeCells_12 : decode cX0_takeCells 12 = .ok (.invokestatic 36, 3) := by decide +kernel
theorem dX0_takeCells_15 : decode cX0_takeCells 15 = .ok (.aload_n 0, 1) := by decide +kernel
theorem dX0_takeCells_16 : decode cX0_takeCells 16 = .ok (.getfield 9, 3) := by decide +kernel
theorem dX0_takeCells_19 : decode cX0_takeCells 19 = .ok (.iconst 2, 1) := by decide +kernel
theorem dX0_takeCells_20 : decode cX0_takeCells 20 = .ok (.if_icmp .ne 18, 3) := by decide +kernel
theorem dX0_takeCells_23 : decode cX0_takeCells 23 = .ok (.aload_n 2, 1) := by decide +kernel
theorem dX0_takeCells_24 : decode cX0_takeCells 24 = .ok (.getfield 19, 3) := by decide +kernel
theorem dX0_takeCells_27 : decode cX0_takeCells 27 = .ok (.iload_n 3, 1) := by decide +kernel
theorem dX0_takeCells_28 : decode cX0_takeCells 28 = .ok (.aload_n 0, 1) := by decide +kernel
theorem dX0_takeCells_29 : decode cX0_takeCells 29 = .ok (.getfield 19, 3) := by decide +kernel
theorem dX0_takeCells_32 : decode cX0_takeCells 32 = .ok (.iload_n 1, 1) := by decide +kernel
theorem dX0_takeCells_33 : decode cX0_takeCells 33 = .ok (.iload 4, 2) := by decide +kernel
theorem dX0_takeCells_35 : decode cX0_takeCells 35 = .ok (.invokestatic 36, 3) := by decide +kernel
theorem dX0_takeCells_38 : decode cX0_takeCells 38 = .ok (.return_, 1) := by decide +kernel
theorem dX0_hasTheCellsOf_0 : decode cX0_hasTheCellsOf 0 = .ok (.aload_n 0, 1) := by decide +kernel
theorem dX0_hasTheCellsOf_1 : decode cX0_hasTheCellsOf 1 = .ok (.invokevirtual 42, 3) := by decide +kernel
theorem dX0_hasTheCellsOf_4 : decode cX0_hasTheCellsOf 4 = .ok (.aload_n 1, 1) := by decide +kernel
theorem dX0_hasTheCellsOf_5 : decode cX0_hasTheCellsOf 5 = .ok (.invokevirtual 42, 3) := by decide +kernel
theorem dX0_hasTheCellsOf_8 : decode cX0_hasTheCellsOf 8 = .ok (.if_icmp .eq 5, 3) := by decide +kernel
theorem dX0_hasTheCellsOf_11 : decode cX0_hasTheCellsOf 11 = .ok (.iconst 0, 1) := by decide +kernel
theorem dX0_hasTheCellsOf_12 : decode cX0_hasTheCellsOf 12 = .ok (.ireturn, 1) := by decide +kernel
theorem dX0_hasTheCellsOf_13 : decode cX0_hasTheCellsOf 13 = .ok (.iconst 0, 1) := by decide +kernel
theorem dX0_hasTheCellsOf_14 : decode cX0_hasTheCellsOf 14 = .ok (.istore_n 2, 1) := by decide +kernel
theorem dX0_hasTheCellsOf_15 : decode cX0_hasTheCellsOf 15 = .ok (.iload_n 2, 1) := by decide +kernel
theorem dX0_hasTheCellsOf_16 : decode cX0_hasTheCellsOf 16 = .ok (.aload_n 0, 1) := by decide +kernel
theorem dX0_hasTheCellsOf_17 : decode cX0_hasTheCellsOf 17 = .ok (.invokevirtual 42, 3) := by decide +kernel
theorem dX0_hasTheCellsOf_20 : decode cX0_hasTheCellsOf 20 = .ok (.if_icmp .ge 20, 3) := by decide +kernel
theorem dX0_hasTheCellsOf_23 : decode cX0_hasTheCellsOf 23 = .ok (.aload_n 0, 1) := by decide +kernel
theorem dX0_hasTheCellsOf_24 : decode cX0_hasTheCellsOf 24 = .ok (.aload_n 1, 1) := by decide +kernel
theorem dX0_hasTheCellsOf_25 : decode cX0_hasTheCellsOf 25 = .ok (.iload_n 2, 1) := by decide +kernel
theorem dX0_hasTheCellsOf_26 : decode cX0_hasTheCellsOf 26 = .ok (.invokevirtual 46, 3) := by decide +kernel
theorem dX0_hasTheCellsOf_29 : decode cX0_hasTheCellsOf 29 = .ok (.ifCond .ne 5, 3) := by decide +kernel
theorem dX0_hasTheCellsOf_32 : decode cX0_hasTheCellsOf 32 = .ok (.iconst 0, 1) := by decide +kernel
theorem dX0_hasTheCellsOf_33 : decode cX0_hasTheCellsOf 33 = .ok (.ireturn, 1) := by decide +kernel
theorem dX0_hasTheCellsOf_34 : decode cX0_hasTheCellsOf 34 = .ok (.iinc 2 1, 3) := by decide +kernel
theorem dX0_hasTheCellsOf_37 : decode cX0_hasTheCellsOf 37 = .ok (.goto (-22), 3) := by decide +kernel
theorem dX0_hasTheCellsOf_40 : decode cX0_hasTheCellsOf 40 = .ok (.iconst 1, 1) := by decide +kernel
theorem dX0_hasTheCellsOf_41 : decode cX0_hasTheCellsOf 41 = .ok (.ireturn, 1) := by decide +kernel
theorem dX0_hasTheCellOf_0 : decode cX0_hasTheCellOf 0 = .ok (.aload_n 0, 1) := by decide +kernel
theorem dX0_hasTheCellOf_1 : decode cX0_hasTheCellOf 1 = .ok (.getfield 9, 3) := by decide +kernel
theorem dX0_hasTheCellOf_4 : decode cX0_hasTheCellOf 4 = .ok (.iconst 2, 1) := by decide +kernel
theorem dX0_hasTheCellOf_5 : decode cX0_hasTheCellOf 5 = .ok (.if_icmp .eq 24, 3) := by decide +kernel
theorem dX0_hasTheCellOf_8 : decode cX0_hasTheCellOf 8 = .ok (.aload_n 0, 1) := by decide +kernel
theorem dX0_hasTheCellOf_9 : decode cX0_hasTheCellOf 9 = .ok (.getfield 15, 3) := by decide +kernel
theorem dX0_hasTheCellOf_12 : decode cX0_hasTheCellOf 12 = .ok (.iload_n 2, 1) := by decide +kernel
theorem dX0_hasTheCellOf_13 : decode cX0_hasTheCellOf 13 = .ok (.iaload, 1) := by decide +kernel
theorem dX0_hasTheCellOf_14 : decode cX0_hasTheCellOf 14 = .ok (.aload_n 1, 1) := by decide +kernel
theorem dX0_hasTheCellOf_15 : decode cX0_hasTheCellOf 15 = .ok (.getfield 15, 3) := by decide +kernel
theorem dX0_hasTheCellOf_18 : decode cX0_hasTheCellOf 18 = .ok (.iload_n 2, 1) := by decide +kernel
theorem dX0_hasTheCellOf_19 : decode cX0_hasTheCellOf 19 = .ok (.iaload, 1) := by decide +kernel
theorem dX0_hasTheCellOf_20 : decode cX0_hasTheCellOf 20 = .ok (.if_icmp .ne 7, 3) := by decide +kernel
theorem dX0_hasTheCellOf_23 : decode cX0_hasTheCellOf 23 = .ok (.iconst 1, 1) := by decide +kernel
theorem dX0_hasTheCellOf_24 : decode cX0_hasTheCellOf 24 = .ok (.goto 4, 3) := by decide +kernel
theorem dX0_hasTheCellOf_27 : decode cX0_hasTheCellOf 27 = .ok (.iconst 0, 1) := by decide +kernel
theorem dX0_hasTheCellOf_28 : decode cX0_hasTheCellOf 28 = .ok (.ireturn, 1) := by decide +kernel
theorem dX0_hasTheCellOf_29 : decode cX0_hasTheCellOf 29 = .ok (.aload_n 0, 1) := by decide +kernel
theorem dX0_hasTheCellOf_30 : decode cX0_hasTheCellOf 30 = .ok (.iload_n 2, 1) := by decide +kernel
theorem dX0_hasTheCellOf_31 : decode cX0_hasTheCellOf 31 = .ok (.invokevirtual 50, 3) := by decide +kernel
theorem dX0_hasTheCellOf_34 : decode cX0_hasTheCellOf 34 = .ok (.ifCond .ne 31, 3) := by decide +kernel
theorem dX0_hasTheCellOf_37 : decode cX0_hasTheCellOf 37 = .ok (.aload_n 1, 1) := by decide +kernel
theorem dX0_hasTheCellOf_38 : decode cX0_hasTheCellOf 38 = .ok (.iload_n 2, 1) := by decide +kernel
theorem dX0_hasTheCellOf_39 : decode cX0_hasTheCellOf 39 = .ok (.invokevirtual 50, 3) := by decide +kernel
theorem dX0_hasTheCellOf_42 : decode cX0_hasTheCellOf 42 = .ok (.ifCond .ne 23, 3) := by decide +kernel
theorem dX0_hasTheCellOf_45 : decode cX0_hasTheCellOf 45 = .ok (.aload_n 0, 1) := by decide +kernel
theorem dX0_hasTheCellOf_46 : decode cX0_hasTheCellOf 46 = .ok (.getfield 19, 3) := by decide +kernel
theorem dX0_hasTheCellOf_49 : decode cX0_hasTheCellOf 49 = .ok (.iload_n 2, 1) := by decide +kernel
theorem dX0_hasTheCellOf_50 : decode cX0_hasTheCellOf 50 = .ok (.daload, 1) := by decide +kernel
theorem dX0_hasTheCellOf_51 : decode cX0_hasTheCellOf 51 = .ok (.aload_n 1, 1) := by decide +kernel
theorem dX0_hasTheCellOf_52 : decode cX0_hasTheCellOf 52 = .ok (.getfield 19, 3) := by decide +kernel
theorem dX0_hasTheCellOf_55 : decode cX0_hasTheCellOf 55 = .ok (.iload_n 2, 1) := by decide +kernel
theorem dX0_hasTheCellOf_56 : decode cX0_hasTheCellOf 56 = .ok (.daload, 1) := by decide +kernel
theorem dX0_hasTheCellOf_57 : decode cX0_hasTheCellOf 57 = .ok (.dcmp .l, 1) := by decide +kernel
theorem dX0_hasTheCellOf_58 : decode cX0_hasTheCellOf 58 = .ok (.ifCond .ne 7, 3) := by decide +kernel
theorem dX0_hasTheCellOf_61 : decode cX0_hasTheCellOf 61 = .ok (.iconst 1, 1) := by decide +kernel
theorem dX0_hasTheCellOf_62 : decode cX0_hasTheCellOf 62 = .ok (.goto 4, 3) := by decide +kernel
theorem dX0_hasTheCellOf_65 : decode cX0_hasTheCellOf 65 = .ok (.iconst 0, 1) := by decide +kernel
theorem dX0_hasTheCellOf_66 : decode cX0_hasTheCellOf 66 = .ok (.ireturn, 1) := by decide +kernel
theorem dX1_init_0 : decode cX1_init 0 = .ok (.aload_n 0, 1) := by decide +kernel
theorem dX1_init_1 : decode cX1_init 1 = .ok (.invokespecial 3, 3) := by decide +kernel
theorem dX1_init_4 : decode cX1_init 4 = .ok (.aload_n 0, 1) := by decide +kernel
theorem dX1_init_5 : decode cX1_init 5 = .ok (.bipush 12, 2) := by decide +kernel
theorem dX1_init_7 : decode cX1_init 7 = .ok (.anewarray 9, 3) := by decide +kernel
theorem dX1_init_10 : decode cX1_init 10 = .ok (.putfield 11, 3) := by decide +kernel
theorem dX1_init_13 : decode cX1_init 13 = .ok (.return_, 1) := by decide +kernel
theorem dX1_begin_0 : decode cX1_begin 0 = .ok (.aload_n 0, 1) := by decide +kernel
theorem dX1_begin_1 : decode cX1_begin 1 = .ok (.iload_n 1, 1) := by decide +kernel
theorem dX1_begin_2 : decode cX1_begin 2 = .ok (.putfield 17, 3) := by decide +kernel
theorem dX1_begin_5 : decode cX1_begin 5 = .ok (.aload_n 0, 1) := by decide +kernel
theorem dX1_begin_6 : decode cX1_begin 6 = .ok (.iload_n 2, 1) := by decide +kernel
theorem dX1_begin_7 : decode cX1_begin 7 = .ok (.putfield 21, 3) := by decide +kernel
theorem dX1_begin_10 : decode cX1_begin 10 = .ok (.iconst 0, 1) := by decide +kernel
theorem dX1_begin_11 : decode cX1_begin 11 = .ok (.istore_n 3, 1) := by decide +kernel
theorem dX1_begin_12 : decode cX1_begin 12 = .ok (.iload_n 3, 1) := by decide +kernel
theorem dX1_begin_13 : decode cX1_begin 13 = .ok (.aload_n 0, 1) := by decide +kernel
theorem dX1_begin_14 : decode cX1_begin 14 = .ok (.getfield 11, 3) := by decide +kernel
theorem dX1_begin_17 : decode cX1_begin 17 = .ok (.arraylength, 1) := by decide +kernel
theorem dX1_begin_18 : decode cX1_begin 18 = .ok (.if_icmp .ge 16, 3) := by decide +kernel
theorem dX1_begin_21 : decode cX1_begin 21 = .ok (.aload_n 0, 1) := by decide +kernel
theorem dX1_begin_22 : decode cX1_begin 22 = .ok (.getfield 11, 3) := by decide +kernel
theorem dX1_begin_25 : decode cX1_begin 25 = .ok (.iload_n 3, 1) := by decide +kernel
theorem dX1_begin_26 : decode cX1_begin 26 = .ok (.aconst_null, 1) := by decide +kernel
theorem dX1_begin_27 : decode cX1_begin 27 = .ok (.aastore, 1) := by decide +kernel
theorem dX1_begin_28 : decode cX1_begin 28 = .ok (.iinc 3 1, 3) := by decide +kernel
theorem dX1_begin_31 : decode cX1_begin 31 = .ok (.goto (-19), 3) := by decide +kernel
theorem dX1_begin_34 : decode cX1_begin 34 = .ok (.return_, 1) := by decide +kernel
theorem dX1_hasPlace_0 : decode cX1_hasPlace 0 = .ok (.iload_n 1, 1) := by decide +kernel
theorem dX1_hasPlace_1 : decode cX1_hasPlace 1 = .ok (.ifCond .lt 15, 3) := by decide +kernel
theorem dX1_hasPlace_4 : decode cX1_hasPlace 4 = .ok (.iload_n 1, 1) := by decide +kernel
theorem dX1_hasPlace_5 : decode cX1_hasPlace 5 = .ok (.aload_n 0, 1) := by decide +kernel
theorem dX1_hasPlace_6 : decode cX1_hasPlace 6 = .ok (.getfield 21, 3) := by decide +kernel
theorem dX1_hasPlace_9 : decode cX1_hasPlace 9 = .ok (.if_icmp .ge 7, 3) := by decide +kernel
theorem dX1_hasPlace_12 : decode cX1_hasPlace 12 = .ok (.iconst 1, 1) := by decide +kernel
theorem dX1_hasPlace_13 : decode cX1_hasPlace 13 = .ok (.goto 4, 3) := by decide +kernel
theorem dX1_hasPlace_16 : decode cX1_hasPlace 16 = .ok (.iconst 0, 1) := by decide +kernel
theorem dX1_hasPlace_17 : decode cX1_hasPlace 17 = .ok (.ireturn, 1) := by decide +kernel
theorem dX1_placeCause_0 : decode cX1_placeCause 0 = .ok (.aload_n 0, 1) := by decide +kernel
theorem dX1_placeCause_1 : decode cX1_placeCause 1 = .ok (.iload_n 1, 1) := by decide +kernel
theorem dX1_placeCause_2 : decode cX1_placeCause 2 = .ok (.invokevirtual 24, 3) := by decide +kernel
theorem dX1_placeCause_5 : decode cX1_placeCause 5 = .ok (.ifCond .ne 5, 3) := by decide +kernel
theorem dX1_placeCause_8 : decode cX1_placeCause 8 = .ok (.iconst 2, 1) := by decide +kernel
theorem dX1_placeCause_9 : decode cX1_placeCause 9 = .ok (.ireturn, 1) := by decide +kernel
theorem dX1_placeCause_10 : decode cX1_placeCause 10 = .ok (.aload_n 0, 1) := by decide +kernel
theorem dX1_placeCause_11 : decode cX1_placeCause 11 = .ok (.getfield 11, 3) := by decide +kernel
theorem dX1_placeCause_14 : decode cX1_placeCause 14 = .ok (.iload_n 1, 1) := by decide +kernel
theorem dX1_placeCause_15 : decode cX1_placeCause 15 = .ok (.aaload, 1) := by decide +kernel
theorem dX1_placeCause_16 : decode cX1_placeCause 16 = .ok (.ifnonnull 7, 3) := by decide +kernel
theorem dX1_placeCause_19 : decode cX1_placeCause 19 = .ok (.iconst 1, 1) := by decide +kernel
theorem dX1_placeCause_20 : decode cX1_placeCause 20 = .ok (.goto 4, 3) := by decide +kernel
theorem dX1_placeCause_23 : decode cX1_placeCause 23 = .ok (.iconst 0, 1) := by decide +kernel
theorem dX1_placeCause_24 : decode cX1_placeCause 24 = .ok (.ireturn, 1) := by decide +kernel
theorem dX1_cellCause_0 : decode cX1_cellCause 0 = .ok (.aload_n 0, 1) := by decide +kernel
theorem dX1_cellCause_1 : decode cX1_cellCause 1 = .ok (.iload_n 1, 1) := by decide +kernel
theorem dX1_cellCause_2 : decode cX1_cellCause 2 = .ok (.invokevirtual 28, 3) := by decide +kernel
theorem dX1_cellCause_5 : decode cX1_cellCause 5 = .ok (.istore_n 3, 1) := by decide +kernel
theorem dX1_cellCause_6 : decode cX1_cellCause 6 = .ok (.iload_n 3, 1) := by decide +kernel
theorem dX1_cellCause_7 : decode cX1_cellCause 7 = .ok (.ifCond .eq 5, 3) := by decide +kernel
theorem dX1_cellCause_10 : decode cX1_cellCause 10 = .ok (.iload_n 3, 1) := by decide +kernel
theorem dX1_cellCause_11 : decode cX1_cellCause 11 = .ok (.ireturn, 1) := by decide +kernel
theorem dX1_cellCause_12 : decode cX1_cellCause 12 = .ok (.aload_n 0, 1) := by decide +kernel
theorem dX1_cellCause_13 : decode cX1_cellCause 13 = .ok (.getfield 11, 3) := by decide +kernel
theorem dX1_cellCause_16 : decode cX1_cellCause 16 = .ok (.iload_n 1, 1) := by decide +kernel
theorem dX1_cellCause_17 : decode cX1_cellCause 17 = .ok (.aaload, 1) := by decide +kernel
theorem dX1_cellCause_18 : decode cX1_cellCause 18 = .ok (.iload_n 2, 1) := by decide +kernel
theorem dX1_cellCause_19 : decode cX1_cellCause 19 = .ok (.iconst 1, 1) := by decide +kernel
theorem dX1_cellCause_20 : decode cX1_cellCause 20 = .ok (.invokevirtual 32, 3) := by decide +kernel
theorem dX1_cellCause_23 : decode cX1_cellCause 23 = .ok (.ifCond .eq 7, 3) := by decide +kernel
theorem dX1_cellCause_26 : decode cX1_cellCause 26 = .ok (.iconst 0, 1) := by decide +kernel
theorem dX1_cellCause_27 : decode cX1_cellCause 27 = .ok (.goto 4, 3) := by decide +kernel
theorem dX1_cellCause_30 : decode cX1_cellCause 30 = .ok (.iconst 2, 1) := by decide +kernel
theorem dX1_cellCause_31 : decode cX1_cellCause 31 = .ok (.ireturn, 1) := by decide +kernel
theorem dX1_isEven_0 : decode cX1_isEven 0 = .ok (.iconst 0, 1) := by decide +kernel
theorem dX1_isEven_1 : decode cX1_isEven 1 = .ok (.istore_n 1, 1) := by decide +kernel
theorem dX1_isEven_2 : decode cX1_isEven 2 = .ok (.iload_n 1, 1) := by decide +kernel
theorem dX1_isEven_3 : decode cX1_isEven 3 = .ok (.aload_n 0, 1) := by decide +kernel
theorem dX1_isEven_4 : decode cX1_isEven 4 = .ok (.getfield 21, 3) := by decide +kernel
theorem dX1_isEven_7 : decode cX1_isEven 7 = .ok (.if_icmp .ge 36, 3) := by decide +kernel
theorem dX1_isEven_10 : decode cX1_isEven 10 = .ok (.aload_n 0, 1) := by decide +kernel
theorem dX1_isEven_11 : decode cX1_isEven 11 = .ok (.getfield 11, 3) := by decide +kernel
theorem dX1_isEven_14 : decode cX1_isEven 14 = .ok (.iload_n 1, 1) := by decide +kernel
theorem dX1_isEven_15 : decode cX1_isEven 15 = .ok (.aaload, 1) := by decide +kernel
theorem dX1_isEven_16 : decode cX1_isEven 16 = .ok (.ifnull 19, 3) := by decide +kernel
theorem dX1_isEven_19 : decode cX1_isEven 19 = .ok (.aload_n 0, 1) := by decide +kernel
theorem dX1_isEven_20 : decode cX1_isEven 20 = .ok (.getfield 11, 3) := by decide +kernel
theorem dX1_isEven_23 : decode cX1_isEven 23 = .ok (.iload_n 1, 1) := by decide +kernel
theorem dX1_isEven_24 : decode cX1_isEven 24 = .ok (.aaload, 1) := by decide +kernel
theorem dX1_isEven_25 : decode cX1_isEven 25 = .ok (.invokevirtual 36, 3) := by decide +kernel
theorem dX1_isEven_28 : decode cX1_isEven 28 = .ok (.aload_n 0, 1) := by decide +kernel
theorem dX1_isEven_29 : decode cX1_isEven 29 = .ok (.invokevirtual 40, 3) := by decide +kernel
theorem dX1_isEven_32 : decode cX1_isEven 32 = .ok (.if_icmp .eq 5, 3) := by decide +kernel
theorem dX1_isEven_35 : decode cX1_isEven 35 = .ok (.iconst 0, 1) := by decide +kernel
theorem dX1_isEven_36 : decode cX1_isEven 36 = .ok (.ireturn, 1) := by decide +kernel
theorem dX1_isEven_37 : decode cX1_isEven 37 = .ok (.iinc 1 1, 3) := by decide +kernel
theorem dX1_isEven_40 : decode cX1_isEven 40 = .ok (.goto (-38), 3) := by decide +kernel
theorem dX1_isEven_43 : decode cX1_isEven 43 = .ok (.iconst 1, 1) := by decide +kernel
theorem dX1_isEven_44 : decode cX1_isEven 44 = .ok (.ireturn, 1) := by decide +kernel
theorem dX1_wide_0 : decode cX1_wide 0 = .ok (.aload_n 0, 1) := by decide +kernel
theorem dX1_wide_1 : decode cX1_wide 1 = .ok (.getfield 21, 3) := by decide +kernel
theorem dX1_wide_4 : decode cX1_wide 4 = .ok (.ifCond .eq 12, 3) := by decide +kernel
theorem dX1_wide_7 : decode cX1_wide 7 = .ok (.aload_n 0, 1) := by decide +kernel
theorem dX1_wide_8 : decode cX1_wide 8 = .ok (.getfield 11, 3) := by decide +kernel
theorem dX1_wide_11 : decode cX1_wide 11 = .ok (.iconst 0, 1) := by decide +kernel
theorem dX1_wide_12 : decode cX1_wide 12 = .ok (.aaload, 1) := by decide +kernel
theorem dX1_wide_13 : decode cX1_wide 13 = .ok (.ifnonnull 7, 3) := by decide +kernel
theorem dX1_wide_16 : decode cX1_wide 16 = .ok (.iconst 0, 1) := by decide +kernel
theorem dX1_wide_17 : decode cX1_wide 17 = .ok (.goto 12, 3) := by decide +kernel
theorem dX1_wide_20 : decode cX1_wide 20 = .ok (.aload_n 0, 1) := by decide +kernel
theorem dX1_wide_21 : decode cX1_wide 21 = .ok (.getfield 11, 3) := by decide +kernel
theorem dX1_wide_24 : decode cX1_wide 24 = .ok (.iconst 0, 1) := by decide +kernel
theorem dX1_wide_25 : decode cX1_wide 25 = .ok (.aaload, 1) := by decide +kernel
theorem dX1_wide_26 : decode cX1_wide 26 = .ok (.invokevirtual 36, 3) := by decide +kernel
theorem dX1_wide_29 : decode cX1_wide 29 = .ok (.ireturn, 1) := by decide +kernel
theorem dX1_firstNotSquare_0 : decode cX1_firstNotSquare 0 = .ok (.iconst 0, 1) := by decide +kernel
theorem dX1_firstNotSquare_1 : decode cX1_firstNotSquare 1 = .ok (.istore_n 1, 1) := by decide +kernel
theorem dX1_firstNotSquare_2 : decode cX1_firstNotSquare 2 = .ok (.iload_n 1, 1) := by decide +kernel
theorem dX1_firstNotSquare_3 : decode cX1_firstNotSquare 3 = .ok (.aload_n 0, 1) := by decide +kernel
theorem dX1_firstNotSquare_4 : decode cX1_firstNotSquare 4 = .ok (.getfield 21, 3) := by decide +kernel
theorem dX1_firstNotSquare_7 : decode cX1_firstNotSquare 7 = .ok (.if_icmp .ge 36, 3) := by decide +kernel
theorem dX1_firstNotSquare_10 : decode cX1_firstNotSquare 10 = .ok (.aload_n 0, 1) := by decide +kernel
theorem dX1_firstNotSquare_11 : decode cX1_firstNotSquare 11 = .ok (.getfield 11, 3) := by decide +kernel
theorem dX1_firstNotSquare_14 : decode cX1_firstNotSquare 14 = .ok (.iload_n 1, 1) := by decide +kernel
theorem dX1_firstNotSquare_15 : decode cX1_firstNotSquare 15 = .ok (.aaload, 1) := by decide +kernel
theorem dX1_firstNotSquare_16 : decode cX1_firstNotSquare 16 = .ok (.ifnull 19, 3) := by decide +kernel
theorem dX1_firstNotSquare_19 : decode cX1_firstNotSquare 19 = .ok (.aload_n 0, 1) := by decide +kernel
theorem dX1_firstNotSquare_20 : decode cX1_firstNotSquare 20 = .ok (.getfield 11, 3) := by decide +kernel
theorem dX1_firstNotSquare_23 : decode cX1_firstNotSquare 23 = .ok (.iload_n 1, 1) := by decide +kernel
theorem dX1_firstNotSquare_24 : decode cX1_firstNotSquare 24 = .ok (.aaload, 1) := by decide +kernel
theorem dX1_firstNotSquare_25 : decode cX1_firstNotSquare 25 = .ok (.invokevirtual 36, 3) := by decide +kernel
theorem dX1_firstNotSquare_28 : decode cX1_firstNotSquare 28 = .ok (.aload_n 0, 1) := by decide +kernel
theorem dX1_firstNotSquare_29 : decode cX1_firstNotSquare 29 = .ok (.getfield 21, 3) := by decide +kernel
theorem dX1_firstNotSquare_32 : decode cX1_firstNotSquare 32 = .ok (.if_icmp .eq 5, 3) := by decide +kernel
theorem dX1_firstNotSquare_35 : decode cX1_firstNotSquare 35 = .ok (.iload_n 1, 1) := by decide +kernel
theorem dX1_firstNotSquare_36 : decode cX1_firstNotSquare 36 = .ok (.ireturn, 1) := by decide +kernel
theorem dX1_firstNotSquare_37 : decode cX1_firstNotSquare 37 = .ok (.iinc 1 1, 3) := by decide +kernel
theorem dX1_firstNotSquare_40 : decode cX1_firstNotSquare 40 = .ok (.goto (-38), 3) := by decide +kernel
theorem dX1_firstNotSquare_43 : decode cX1_firstNotSquare 43 = .ok (.ldc 43, 2) := by decide +kernel
theorem dX1_firstNotSquare_45 : decode cX1_firstNotSquare 45 = .ok (.ireturn, 1) := by decide +kernel
theorem dX1_fallenPlaces_0 : decode cX1_fallenPlaces 0 = .ok (.iconst 0, 1) := by decide +kernel
theorem dX1_fallenPlaces_1 : decode cX1_fallenPlaces 1 = .ok (.istore_n 1, 1) := by decide +kernel
theorem dX1_fallenPlaces_2 : decode cX1_fallenPlaces 2 = .ok (.iconst 0, 1) := by decide +kernel
theorem dX1_fallenPlaces_3 : decode cX1_fallenPlaces 3 = .ok (.istore_n 2, 1) := by decide +kernel
theorem dX1_fallenPlaces_4 : decode cX1_fallenPlaces 4 = .ok (.iload_n 2, 1) := by decide +kernel
theorem dX1_fallenPlaces_5 : decode cX1_fallenPlaces 5 = .ok (.aload_n 0, 1) := by decide +kernel
theorem dX1_fallenPlaces_6 : decode cX1_fallenPlaces 6 = .ok (.getfield 21, 3) := by decide +kernel
theorem dX1_fallenPlaces_9 : decode cX1_fallenPlaces 9 = .ok (.if_icmp .ge 21, 3) := by decide +kernel
theorem dX1_fallenPlaces_12 : decode cX1_fallenPlaces 12 = .ok (.aload_n 0, 1) := by decide +kernel
theorem dX1_fallenPlaces_13 : decode cX1_fallenPlaces 13 = .ok (.getfield 11, 3) := by decide +kernel
theorem dX1_fallenPlaces_16 : decode cX1_fallenPlaces 16 = .ok (.iload_n 2, 1) := by decide +kernel
theorem dX1_fallenPlaces_17 : decode cX1_fallenPlaces 17 = .ok (.aaload, 1) := by decide +kernel
theorem dX1_fallenPlaces_18 : decode cX1_fallenPlaces 18 = .ok (.ifnonnull 6, 3) := by decide +kernel
theorem dX1_fallenPlaces_21 : decode cX1_fallenPlaces 21 = .ok (.iinc 1 1, 3) := by decide +kernel
theorem dX1_fallenPlaces_24 : decode cX1_fallenPlaces 24 = .ok (.iinc 2 1, 3) := by decide +kernel
theorem dX1_fallenPlaces_27 : decode cX1_fallenPlaces 27 = .ok (.goto (-23), 3) := by decide +kernel
theorem dX1_fallenPlaces_30 : decode cX1_fallenPlaces 30 = .ok (.iload_n 1, 1) := by decide +kernel
theorem dX1_fallenPlaces_31 : decode cX1_fallenPlaces 31 = .ok (.ireturn, 1) := by decide +kernel
theorem dX1_rowsNotYetCounted_0 : decode cX1_rowsNotYetCounted 0 = .ok (.iconst 0, 1) := by decide +kernel
theorem dX1_rowsNotYetCounted_1 : decode cX1_rowsNotYetCounted 1 = .ok (.istore_n 2, 1) := by decide +kernel
theorem dX1_rowsNotYetCounted_2 : decode cX1_rowsNotYetCounted 2 = .ok (.iconst 0, 1) := by decide +kernel
theorem dX1_rowsNotYetCounted_3 : decode cX1_rowsNotYetCounted 3 = .ok (.istore_n 3, 1) := by decide +kernel
theorem dX1_rowsNotYetCounted_4 : decode cX1_rowsNotYetCounted 4 = .ok (.iload_n 3, 1) := by decide +kernel
theorem dX1_rowsNotYetCounted_5 : decode cX1_rowsNotYetCounted 5 = .ok (.aload_n 0, 1) := by decide +kernel
theorem dX1_rowsNotYetCounted_6 : decode cX1_rowsNotYetCounted 6 = .ok (.getfield 21, 3) := by decide +kernel
theorem dX1_rowsNotYetCounted_9 : decode cX1_rowsNotYetCounted 9 = .ok (.if_icmp .ge 44, 3) := by decide +kernel
theorem dX1_rowsNotYetCounted_12 : decode cX1_rowsNotYetCounted 12 = .ok (.aload_n 0, 1) := by decide +kernel
theorem dX1_rowsNotYetCounted_13 : decode cX1_rowsNotYetCounted 13 = .ok (.getfield 11, 3) := by decide +kernel
theorem dX1_rowsNotYetCounted_16 : decode cX1_rowsNotYetCounted 16 = .ok (.iload_n 3, 1) := by decide +kernel
theorem dX1_rowsNotYetCounted_17 : decode cX1_rowsNotYetCounted 17 = .ok (.aaload, 1) := by decide +kernel
theorem dX1_rowsNotYetCounted_18 : decode cX1_rowsNotYetCounted 18 = .ok (.ifnull 29, 3) := by decide +kernel
theorem dX1_rowsNotYetCounted_21 : decode cX1_rowsNotYetCounted 21 = .ok (.aload_n 0, 1) := by decide +kernel
theorem dX1_rowsNotYetCounted_22 : decode cX1_rowsNotYetCounted 22 = .ok (.getfield 11, 3) := by decide +kernel
theorem dX1_rowsNotYetCounted_25 : decode cX1_rowsNotYetCounted 25 = .ok (.iload_n 3, 1) := by decide +kernel
theorem dX1_rowsNotYetCounted_26 : decode cX1_rowsNotYetCounted 26 = .ok (.aaload, 1) := by decide +kernel
theorem dX1_rowsNotYetCounted_27 : decode cX1_rowsNotYetCounted 27 = .ok (.getfield 44, 3) := by decide +kernel
theorem dX1_rowsNotYetCounted_30 : decode cX1_rowsNotYetCounted 30 = .ok (.iload_n 1, 1) := by decide +kernel
theorem dX1_rowsNotYetCounted_31 : decode cX1_rowsNotYetCounted 31 = .ok (.if_icmp .eq 16, 3) := by decide +kernel
theorem dX1_rowsNotYetCounted_34 : decode cX1_rowsNotYetCounted 34 = .ok (.aload_n 0, 1) := by decide +kernel
theorem dX1_rowsNotYetCounted_35 : decode cX1_rowsNotYetCounted 35 = .ok (.getfield 11, 3) := by decide +kernel
theorem dX1_rowsNotYetCounted_38 : decode cX1_rowsNotYetCounted 38 = .ok (.iload_n 3, 1) := by decide +kernel
theorem dX1_rowsNotYetCounted_39 : decode cX1_rowsNotYetCounted 39 = .ok (.aaload, 1) := by decide +kernel
theorem dX1_rowsNotYetCounted_40 : decode cX1_rowsNotYetCounted 40 = .ok (.iload_n 1, 1) := by decide +kernel
theorem dX1_rowsNotYetCounted_41 : decode cX1_rowsNotYetCounted 41 = .ok (.putfield 44, 3) := by decide +kernel
theorem dX1_rowsNotYetCounted_44 : decode cX1_rowsNotYetCounted 44 = .ok (.iinc 2 1, 3) := by decide +kernel
theorem dX1_rowsNotYetCounted_47 : decode cX1_rowsNotYetCounted 47 = .ok (.iinc 3 1, 3) := by decide +kernel
theorem dX1_rowsNotYetCounted_50 : decode cX1_rowsNotYetCounted 50 = .ok (.goto (-46), 3) := by decide +kernel
theorem dX1_rowsNotYetCounted_53 : decode cX1_rowsNotYetCounted 53 = .ok (.iload_n 2, 1) := by decide +kernel
theorem dX1_rowsNotYetCounted_54 : decode cX1_rowsNotYetCounted 54 = .ok (.ireturn, 1) := by decide +kernel
theorem dX1_agreesWith_0 : decode cX1_agreesWith 0 = .ok (.aload_n 0, 1) := by decide +kernel
theorem dX1_agreesWith_1 : decode cX1_agreesWith 1 = .ok (.getfield 17, 3) := by decide +kernel
theorem dX1_agreesWith_4 : decode cX1_agreesWith 4 = .ok (.aload_n 1, 1) := by decide +kernel
theorem dX1_agreesWith_5 : decode cX1_agreesWith 5 = .ok (.getfield 17, 3) := by decide +kernel
theorem dX1_agreesWith_8 : decode cX1_agreesWith 8 = .ok (.if_icmp .ne 14, 3) := by decide +kernel
theorem dX1_agreesWith_11 : decode cX1_agreesWith 11 = .ok (.aload_n 0, 1) := by decide +kernel
theorem dX1_agreesWith_12 : decode cX1_agreesWith 12 = .ok (.getfield 21, 3) := by decide +kernel
theorem dX1_agreesWith_15 : decode cX1_agreesWith 15 = .ok (.aload_n 1, 1) := by decide +kernel
theorem dX1_agreesWith_16 : decode cX1_agreesWith 16 = .ok (.getfield 21, 3) := by decide +kernel
theorem dX1_agreesWith_19 : decode cX1_agreesWith 19 = .ok (.if_icmp .eq 5, 3) := by decide +kernel
theorem dX1_agreesWith_22 : decode cX1_agreesWith 22 = .ok (.iconst 0, 1) := by decide +kernel
theorem dX1_agreesWith_23 : decode cX1_agreesWith 23 = .ok (.ireturn, 1) := by decide +kernel
theorem dX1_agreesWith_24 : decode cX1_agreesWith 24 = .ok (.iconst 0, 1) := by decide +kernel
theorem dX1_agreesWith_25 : decode cX1_agreesWith 25 = .ok (.istore_n 2, 1) := by decide +kernel
theorem dX1_agreesWith_26 : decode cX1_agreesWith 26 = .ok (.iload_n 2, 1) := by decide +kernel
theorem dX1_agreesWith_27 : decode cX1_agreesWith 27 = .ok (.aload_n 0, 1) := by decide +kernel
theorem dX1_agreesWith_28 : decode cX1_agreesWith 28 = .ok (.getfield 21, 3) := by decide +kernel
theorem dX1_agreesWith_31 : decode cX1_agreesWith 31 = .ok (.if_icmp .ge 62, 3) := by decide +kernel
theorem dX1_agreesWith_34 : decode cX1_agreesWith 34 = .ok (.aload_n 0, 1) := by decide +kernel
theorem dX1_agreesWith_35 : decode cX1_agreesWith 35 = .ok (.getfield 11, 3) := by decide +kernel
theorem dX1_agreesWith_38 : decode cX1_agreesWith 38 = .ok (.iload_n 2, 1) := by decide +kernel
theorem dX1_agreesWith_39 : decode cX1_agreesWith 39 = .ok (.aaload, 1) := by decide +kernel
theorem dX1_agreesWith_40 : decode cX1_agreesWith 40 = .ok (.astore_n 3, 1) := by decide +kernel
theorem dX1_agreesWith_41 : decode cX1_agreesWith 41 = .ok (.aload_n 1, 1) := by decide +kernel
theorem dX1_agreesWith_42 : decode cX1_agreesWith 42 = .ok (.getfield 11, 3) := by decide +kernel
theorem dX1_agreesWith_45 : decode cX1_agreesWith 45 = .ok (.iload_n 2, 1) := by decide +kernel
theorem dX1_agreesWith_46 : decode cX1_agreesWith 46 = .ok (.aaload, 1) := by decide +kernel
theorem dX1_agreesWith_47 : decode cX1_agreesWith 47 = .ok (.astore 4, 2) := by decide +kernel
theorem dX1_agreesWith_49 : decode cX1_agreesWith 49 = .ok (.aload_n 3, 1) := by decide +kernel
theorem dX1_agreesWith_50 : decode cX1_agreesWith 50 = .ok (.ifnull 8, 3) := by decide +kernel
theorem dX1_agreesWith_53 : decode cX1_agreesWith 53 = .ok (.aload 4, 2) := by decide +kernel
theorem dX1_agreesWith_55 : decode cX1_agreesWith 55 = .ok (.ifnonnull 17, 3) := by decide +kernel
theorem dX1_agreesWith_58 : decode cX1_agreesWith 58 = .ok (.aload_n 3, 1) := by decide +kernel
theorem dX1_agreesWith_59 : decode cX1_agreesWith 59 = .ok (.aload 4, 2) := by decide +kernel
theorem dX1_agreesWith_61 : decode cX1_agreesWith 61 = .ok (.if_acmp .ne 7, 3) := by decide +kernel
theorem dX1_agreesWith_64 : decode cX1_agreesWith 64 = .ok (.iconst 1, 1) := by decide +kernel
theorem dX1_agreesWith_65 : decode cX1_agreesWith 65 = .ok (.goto 13, 3) := by decide +kernel
theorem dX1_agreesWith_68 : decode cX1_agreesWith 68 = .ok (.iconst 0, 1) := by decide +kernel
theorem dX1_agreesWith_69 : decode cX1_agreesWith 69 = .ok (.goto 9, 3) := by decide +kernel
theorem dX1_agreesWith_72 : decode cX1_agreesWith 72 = .ok (.aload_n 3, 1) := by decide +kernel
theorem dX1_agreesWith_73 : decode cX1_agreesWith 73 = .ok (.aload 4, 2) := by decide +kernel
theorem dX1_agreesWith_75 : decode cX1_agreesWith 75 = .ok (.invokevirtual 47, 3) := by decide +kernel
theorem dX1_agreesWith_78 : decode cX1_agreesWith 78 = .ok (.istore 5, 2) := by decide +kernel
theorem dX1_agreesWith_80 : decode cX1_agreesWith 80 = .ok (.iload 5, 2) := by decide +kernel
theorem dX1_agreesWith_82 : decode cX1_agreesWith 82 = .ok (.ifCond .ne 5, 3) := by decide +kernel
theorem dX1_agreesWith_85 : decode cX1_agreesWith 85 = .ok (.iconst 0, 1) := by decide +kernel
theorem dX1_agreesWith_86 : decode cX1_agreesWith 86 = .ok (.ireturn, 1) := by decide +kernel
theorem dX1_agreesWith_87 : decode cX1_agreesWith 87 = .ok (.iinc 2 1, 3) := by decide +kernel
theorem dX1_agreesWith_90 : decode cX1_agreesWith 90 = .ok (.goto (-64), 3) := by decide +kernel
theorem dX1_agreesWith_93 : decode cX1_agreesWith 93 = .ok (.iconst 1, 1) := by decide +kernel
theorem dX1_agreesWith_94 : decode cX1_agreesWith 94 = .ok (.ireturn, 1) := by decide +kernel
theorem dX2_init_0 : decode cX2_init 0 = .ok (.aload_n 0, 1) := by decide +kernel
theorem dX2_init_1 : decode cX2_init 1 = .ok (.invokespecial 3, 3) := by decide +kernel
theorem dX2_init_4 : decode cX2_init 4 = .ok (.aload_n 0, 1) := by decide +kernel
theorem dX2_init_5 : decode cX2_init 5 = .ok (.bipush 16, 2) := by decide +kernel
theorem dX2_init_7 : decode cX2_init 7 = .ok (.anewarray 9, 3) := by decide +kernel
theorem dX2_init_10 : decode cX2_init 10 = .ok (.putfield 11, 3) := by decide +kernel
theorem dX2_init_13 : decode cX2_init 13 = .ok (.iconst 0, 1) := by decide +kernel
theorem dX2_init_14 : decode cX2_init 14 = .ok (.istore_n 1, 1) := by decide +kernel
theorem dX2_init_15 : decode cX2_init 15 = .ok (.iload_n 1, 1) := by decide +kernel
theorem dX2_init_16 : decode cX2_init 16 = .ok (.bipush 16, 2) := by decide +kernel
theorem dX2_init_18 : decode cX2_init 18 = .ok (.if_icmp .ge 22, 3) := by decide +kernel
theorem dX2_init_21 : decode cX2_init 21 = .ok (.aload_n 0, 1) := by decide +kernel
theorem dX2_init_22 : decode cX2_init 22 = .ok (.getfield 11, 3) := by decide +kernel
theorem dX2_init_25 : decode cX2_init 25 = .ok (.iload_n 1, 1) := by decide +kernel
theorem dX2_init_26 : decode cX2_init 26 = .ok (.new 9, 3) := by decide +kernel
theorem dX2_init_29 : decode cX2_init 29 = .ok (.dup, 1) := by decide +kernel
theorem dX2_init_30 : decode cX2_init 30 = .ok (.invokespecial 15, 3) := by decide +kernel
theorem dX2_init_33 : decode cX2_init 33 = .ok (.aastore, 1) := by decide +kernel
theorem dX2_init_34 : decode cX2_init 34 = .ok (.iinc 1 1, 3) := by decide +kernel
theorem dX2_init_37 : decode cX2_init 37 = .ok (.goto (-22), 3) := by decide +kernel
theorem dX2_init_40 : decode cX2_init 40 = .ok (.aload_n 0, 1) := by decide +kernel
theorem dX2_init_41 : decode cX2_init 41 = .ok (.bipush 6, 2) := by decide +kernel
theorem dX2_init_43 : decode cX2_init 43 = .ok (.newarray .int, 2) := by decide +kernel
theorem dX2_init_45 : decode cX2_init 45 = .ok (.putfield 16, 3) := by decide +kernel
theorem dX2_init_48 : decode cX2_init 48 = .ok (.aload_n 0, 1) := by decide +kernel
theorem dX2_init_49 : decode cX2_init 49 = .ok (.bipush 16, 2) := by decide +kernel
theorem dX2_init_51 : decode cX2_init 51 = .ok (.newarray .boolean, 2) := by decide +kernel
theorem dX2_init_53 : decode cX2_init 53 = .ok (.putfield 20, 3) := by decide +kernel
theorem dX2_init_56 : decode cX2_init 56 = .ok (.aload_n 0, 1) := by decide +kernel
theorem dX2_init_57 : decode cX2_init 57 = .ok (.bipush 16, 2) := by decide +kernel
theorem dX2_init_59 : decode cX2_init 59 = .ok (.newarray .int, 2) := by decide +kernel
theorem dX2_init_61 : decode cX2_init 61 = .ok (.putfield 24, 3) := by decide +kernel
theorem dX2_init_64 : decode cX2_init 64 = .ok (.return_, 1) := by decide +kernel
theorem dX2_table_0 : decode cX2_table 0 = .ok (.iload_n 1, 1) := by decide +kernel
theorem dX2_table_1 : decode cX2_table 1 = .ok (.ifCond .lt 14, 3) := by decide +kernel
theorem dX2_table_4 : decode cX2_table 4 = .ok (.iload_n 1, 1) := by decide +kernel
theorem dX2_table_5 : decode cX2_table 5 = .ok (.iconst 3, 1) := by decide +kernel
theorem dX2_table_6 : decode cX2_table 6 = .ok (.if_icmp .gt 9, 3) := by decide +kernel
theorem dX2_table_9 : decode cX2_table 9 = .ok (.iload_n 2, 1) := by decide +kernel
theorem dX2_table_10 : decode cX2_table 10 = .ok (.bipush 12, 2) := by decide +kernel
theorem dX2_table_12 : decode cX2_table 12 = .ok (.if_icmp .le 6, 3) := by decide +kernel
theorem dX2_table_15 : decode cX2_table 15 = .ok (.ldc 27, 2) := by decide +kernel
theorem dX2_table_17 : decode cX2_table 17 = .ok (.ireturn, 1) := by decide +kernel
theorem dX2_table_18 : decode cX2_table 18 = .ok (.aload_n 0, 1) := by decide +kernel
theorem dX2_table_19 : decode cX2_table 19 = .ok (.invokevirtual 28, 3) := by decide +kernel
theorem dX2_table_22 : decode cX2_table 22 = .ok (.ifCond .eq 6, 3) := by decide +kernel
theorem dX2_table_25 : decode cX2_table 25 = .ok (.ldc 32, 2) := by decide +kernel
theorem dX2_table_27 : decode cX2_table 27 = .ok (.ireturn, 1) := by decide +kernel
theorem dX2_table_28 : decode cX2_table 28 = .ok (.iload_n 2, 1) := by decide +kernel
theorem dX2_table_29 : decode cX2_table 29 = .ok (.ifCond .ge 9, 3) := by decide +kernel
theorem dX2_table_32 : decode cX2_table 32 = .ok (.aload_n 0, 1) := by decide +kernel
theorem dX2_table_33 : decode cX2_table 33 = .ok (.iconst 4, 1) := by decide +kernel
theorem dX2_table_34 : decode cX2_table 34 = .ok (.invokevirtual 33, 3) := by decide +kernel
theorem dX2_table_37 : decode cX2_table 37 = .ok (.ireturn, 1) := by decide +kernel
theorem dX2_table_38 : decode cX2_table 38 = .ok (.aload_n 0, 1) := by decide +kernel
theorem dX2_table_39 : decode cX2_table 39 = .ok (.iload_n 1, 1) := by decide +kernel
theorem dX2_table_40 : decode cX2_table 40 = .ok (.iload_n 2, 1) := by decide +kernel
theorem dX2_table_41 : decode cX2_table 41 = .ok (.invokevirtual 37, 3) := by decide +kernel
theorem dX2_table_44 : decode cX2_table 44 = .ok (.ireturn, 1) := by decide +kernel
theorem dX2_row_0 : decode cX2_row 0 = .ok (.aload_n 0, 1) := by decide +kernel
theorem dX2_row_1 : decode cX2_row 1 = .ok (.iload_n 1, 1) := by decide +kernel
theorem dX2_row_2 : decode cX2_row 2 = .ok (.invokevirtual 41, 3) := by decide +kernel
theorem dX2_row_5 : decode cX2_row 5 = .ok (.ifCond .eq 6, 3) := by decide +kernel
theorem dX2_row_8 : decode cX2_row 8 = .ok (.ldc 45, 2) := by decide +kernel
theorem dX2_row_10 : decode cX2_row 10 = .ok (.ireturn, 1) := by decide +kernel
theorem dX2_row_11 : decode cX2_row 11 = .ok (.iload_n 3, 1) := by decide +kernel
theorem dX2_row_12 : decode cX2_row 12 = .ok (.bipush 16, 2) := by decide +kernel
theorem dX2_row_14 : decode cX2_row 14 = .ok (.if_icmp .le 6, 3) := by decide +kernel
theorem dX2_row_17 : decode cX2_row 17 = .ok (.ldc 27, 2) := by decide +kernel
theorem dX2_row_19 : decode cX2_row 19 = .ok (.ireturn, 1) := by decide +kernel
theorem dX2_row_20 : decode cX2_row 20 = .ok (.iload_n 3, 1) := by decide +kernel
theorem dX2_row_21 : decode cX2_row 21 = .ok (.ifCond .ge 9, 3) := by decide +kernel
theorem dX2_row_24 : decode cX2_row 24 = .ok (.aload_n 0, 1) := by decide +kernel
theorem dX2_row_25 : decode cX2_row 25 = .ok (.iconst 4, 1) := by decide +kernel
theorem dX2_row_26 : decode cX2_row 26 = .ok (.invokevirtual 33, 3) := by decide +kernel
theorem dX2_row_29 : decode cX2_row 29 = .ok (.ireturn, 1) := by decide +kernel
theorem dX2_row_30 : decode cX2_row 30 = .ok (.aload_n 0, 1) := by decide +kernel
theorem dX2_row_31 : decode cX2_row 31 = .ok (.getfield 11, 3) := by decide +kernel
theorem dX2_row_34 : decode cX2_row 34 = .ok (.iload_n 1, 1) := by decide +kernel
theorem dX2_row_35 : decode cX2_row 35 = .ok (.aaload, 1) := by decide +kernel
theorem dX2_row_36 : decode cX2_row 36 = .ok (.astore 4, 2) := by decide +kernel
theorem dX2_row_38 : decode cX2_row 38 = .ok (.aload 4, 2) := by decide +kernel
theorem dX2_row_40 : decode cX2_row 40 = .ok (.iload_n 2, 1) := by decide +kernel
theorem dX2_row_41 : decode cX2_row 41 = .ok (.invokevirtual 46, 3) := by decide +kernel
theorem dX2_row_44 : decode cX2_row 44 = .ok (.ifCond .ne 9, 3) := by decide +kernel
theorem dX2_row_47 : decode cX2_row 47 = .ok (.aload_n 0, 1) := by decide +kernel
theorem dX2_row_48 : decode cX2_row 48 = .ok (.iconst 2, 1) := by decide +kernel
theorem dX2_row_49 : decode cX2_row 49 = .ok (.invokevirtual 33, 3) := by decide +kernel
theorem dX2_row_52 : decode cX2_row 52 = .ok (.ireturn, 1) := by decide +kernel
theorem dX2_row_53 : decode cX2_row 53 = .ok (.aload 4, 2) := by decide +kernel
theorem dX2_row_55 : decode cX2_row 55 = .ok (.getfield 49, 3) := by decide +kernel
theorem dX2_row_58 : decode cX2_row 58 = .ok (.iload_n 2, 1) := by decide +kernel
theorem dX2_row_59 : decode cX2_row 59 = .ok (.new 53, 3) := by decide +kernel
theorem dX2_row_62 : decode cX2_row 62 = .ok (.dup, 1) := by decide +kernel
theorem dX2_row_63 : decode cX2_row 63 = .ok (.aload 4, 2) := by decide +kernel
theorem dX2_row_65 : decode cX2_row 65 = .ok (.getfield 55, 3) := by decide +kernel
theorem dX2_row_68 : decode cX2_row 68 = .ok (.iload_n 3, 1) := by decide +kernel
theorem dX2_row_69 : decode cX2_row 69 = .ok (.invokespecial 59, 3) := by decide +kernel
theorem dX2_row_72 : decode cX2_row 72 = .ok (.aastore, 1) := by decide +kernel
theorem dX2_row_73 : decode cX2_row 73 = .ok (.iconst 1, 1) := by decide +kernel
theorem dX2_row_74 : decode cX2_row 74 = .ok (.ireturn, 1) := by decide +kernel
theorem dX2_share_0 : decode cX2_share 0 = .ok (.aload_n 0, 1) := by decide +kernel
theorem dX2_share_1 : decode cX2_share 1 = .ok (.iload_n 1, 1) := by decide +kernel
theorem dX2_share_2 : decode cX2_share 2 = .ok (.invokevirtual 41, 3) := by decide +kernel
theorem dX2_share_5 : decode cX2_share 5 = .ok (.ifCond .ne 11, 3) := by decide +kernel
theorem dX2_share_8 : decode cX2_share 8 = .ok (.aload_n 0, 1) := by decide +kernel
theorem dX2_share_9 : decode cX2_share 9 = .ok (.iload_n 3, 1) := by decide +kernel
theorem dX2_share_10 : decode cX2_share 10 = .ok (.invokevirtual 41, 3) := by decide +kernel
theorem dX2_share_13 : decode cX2_share 13 = .ok (.ifCond .eq 6, 3) := by decide +kernel
theorem dX2_share_16 : decode cX2_share 16 = .ok (.ldc 45, 2) := by decide +kernel
theorem dX2_share_18 : decode cX2_share 18 = .ok (.ireturn, 1) := by decide +kernel
theorem dX2_share_19 : decode cX2_share 19 = .ok (.aload_n 0, 1) := by decide +kernel
theorem dX2_share_20 : decode cX2_share 20 = .ok (.getfield 11, 3) := by decide +kernel
theorem dX2_share_23 : decode cX2_share 23 = .ok (.iload_n 1, 1) := by decide +kernel
theorem dX2_share_24 : decode cX2_share 24 = .ok (.aaload, 1) := by decide +kernel
theorem dX2_share_25 : decode cX2_share 25 = .ok (.astore 5, 2) := by decide +kernel
theorem dX2_share_27 : decode cX2_share 27 = .ok (.aload_n 0, 1) := by decide +kernel
theorem dX2_share_28 : decode cX2_share 28 = .ok (.getfield 11, 3) := by decide +kernel
theorem dX2_share_31 : decode cX2_share 31 = .ok (.iload_n 3, 1) := by decide +kernel
theorem dX2_share_32 : decode cX2_share 32 = .ok (.aaload, 1) := by decide +kernel
theorem dX2_share_33 : decode cX2_share 33 = .ok (.astore 6, 2) := by decide +kernel
theorem dX2_share_35 : decode cX2_share 35 = .ok (.aload 6, 2) := by decide +kernel
theorem dX2_share_37 : decode cX2_share 37 = .ok (.iload 4, 2) := by decide +kernel
theorem dX2_share_39 : decode cX2_share 39 = .ok (.invokevirtual 46, 3) := by decide +kernel
theorem dX2_share_42 : decode cX2_share 42 = .ok (.ifCond .eq 12, 3) := by decide +kernel
theorem dX2_share_45 : decode cX2_share 45 = .ok (.aload 5, 2) := by decide +kernel
theorem dX2_share_47 : decode cX2_share 47 = .ok (.iload_n 2, 1) := by decide +kernel
theorem dX2_share_48 : decode cX2_share 48 = .ok (.invokevirtual 46, 3) := by decide +kernel
theorem dX2_share_51 : decode cX2_share 51 = .ok (.ifCond .ne 9, 3) := by decide +kernel
theorem dX2_share_54 : decode cX2_share 54 = .ok (.aload_n 0, 1) := by decide +kernel
theorem dX2_share_55 : decode cX2_share 55 = .ok (.iconst 2, 1) := by decide +kernel
theorem dX2_share_56 : decode cX2_share 56 = .ok (.invokevirtual 33, 3) := by decide +kernel
theorem dX2_share_59 : decode cX2_share 59 = .ok (.ireturn, 1) := by decide +kernel
theorem dX2_share_60 : decode cX2_share 60 = .ok (.aload 6, 2) := by decide +kernel
theorem dX2_share_62 : decode cX2_share 62 = .ok (.getfield 49, 3) := by decide +kernel
theorem dX2_share_65 : decode cX2_share 65 = .ok (.iload 4, 2) := by decide +kernel
theorem dX2_share_67 : decode cX2_share 67 = .ok (.aaload, 1) := by decide +kernel
theorem dX2_share_68 : decode cX2_share 68 = .ok (.ifnonnull 9, 3) := by decide +kernel
theorem dX2_share_71 : decode cX2_share 71 = .ok (.aload_n 0, 1) := by decide +kernel
theorem dX2_share_72 : decode cX2_share 72 = .ok (.iconst 1, 1) := by decide +kernel
theorem dX2_share_73 : decode cX2_share 73 = .ok (.invokevirtual 33, 3) := by decide +kernel
theorem dX2_share_76 : decode cX2_share 76 = .ok (.ireturn, 1) := by decide +kernel
theorem dX2_share_77 : decode cX2_share 77 = .ok (.aload 6, 2) := by decide +kernel
theorem dX2_share_79 : decode cX2_share 79 = .ok (.getfield 55, 3) := by decide +kernel
theorem dX2_share_82 : decode cX2_share 82 = .ok (.aload 5, 2) := by decide +kernel
theorem dX2_share_84 : decode cX2_share 84 = .ok (.getfield 55, 3) := by decide +kernel
theorem dX2_share_87 : decode cX2_share 87 = .ok (.if_icmp .eq 9, 3) := by decide +kernel
theorem dX2_share_90 : decode cX2_share 90 = .ok (.aload_n 0, 1) := by decide +kernel
theorem dX2_share_91 : decode cX2_share 91 = .ok (.iconst 3, 1) := by decide +kernel
theorem dX2_share_92 : decode cX2_share 92 = .ok (.invokevirtual 33, 3) := by decide +kernel
theorem dX2_share_95 : decode cX2_share 95 = .ok (.ireturn, 1) := by decide +kernel
theorem dX2_share_96 : decode cX2_share 96 = .ok (.aload 5, 2) := by decide +kernel
theorem dX2_share_98 : decode cX2_share 98 = .ok (.getfield 49, 3) := by decide +kernel
theorem dX2_share_101 : decode cX2_share 101 = .ok (.iload_n 2, 1) := by decide +kernel
theorem dX2_share_102 : decode cX2_share 102 = .ok (.aload 6, 2) := by decide +kernel
theorem dX2_share_104 : decode cX2_share 104 = .ok (.getfield 49, 3) := by decide +kernel
theorem dX2_share_107 : decode cX2_share 107 = .ok (.iload 4, 2) := by decide +kernel
theorem dX2_share_109 : decode cX2_share 109 = .ok (.aaload, 1) := by decide +kernel
theorem dX2_share_110 : decode cX2_share 110 = .ok (.aastore, 1) := by decide +kernel
theorem dX2_share_111 : decode cX2_share 111 = .ok (.iconst 1, 1) := by decide +kernel
theorem dX2_share_112 : decode cX2_share 112 = .ok (.ireturn, 1) := by decide +kernel
theorem dX2_fall_0 : decode cX2_fall 0 = .ok (.aload_n 0, 1) := by decide +kernel
theorem dX2_fall_1 : decode cX2_fall 1 = .ok (.iload_n 1, 1) := by decide +kernel
theorem dX2_fall_2 : decode cX2_fall 2 = .ok (.invokevirtual 41, 3) := by decide +kernel
theorem dX2_fall_5 : decode cX2_fall 5 = .ok (.ifCond .eq 6, 3) := by decide +kernel
theorem dX2_fall_8 : decode cX2_fall 8 = .ok (.ldc 45, 2) := by decide +kernel
theorem dX2_fall_10 : decode cX2_fall 10 = .ok (.ireturn, 1) := by decide +kernel
theorem dX2_fall_11 : decode cX2_fall 11 = .ok (.aload_n 0, 1) := by decide +kernel
theorem dX2_fall_12 : decode cX2_fall 12 = .ok (.getfield 11, 3) := by decide +kernel
theorem dX2_fall_15 : decode cX2_fall 15 = .ok (.iload_n 1, 1) := by decide +kernel
theorem dX2_fall_16 : decode cX2_fall 16 = .ok (.aaload, 1) := by decide +kernel
theorem dX2_fall_17 : decode cX2_fall 17 = .ok (.astore_n 3, 1) := by decide +kernel
theorem dX2_fall_18 : decode cX2_fall 18 = .ok (.aload_n 3, 1) := by decide +kernel
theorem dX2_fall_19 : decode cX2_fall 19 = .ok (.iload_n 2, 1) := by decide +kernel
theorem dX2_fall_20 : decode cX2_fall 20 = .ok (.invokevirtual 46, 3) := by decide +kernel
theorem dX2_fall_23 : decode cX2_fall 23 = .ok (.ifCond .ne 9, 3) := by decide +kernel
theorem dX2_fall_26 : decode cX2_fall 26 = .ok (.aload_n 0, 1) := by decide +kernel
theorem dX2_fall_27 : decode cX2_fall 27 = .ok (.iconst 2, 1) := by decide +kernel
theorem dX2_fall_28 : decode cX2_fall 28 = .ok (.invokevirtual 33, 3) := by decide +kernel
theorem dX2_fall_31 : decode cX2_fall 31 = .ok (.ireturn, 1) := by decide +kernel
theorem dX2_fall_32 : decode cX2_fall 32 = .ok (.aload_n 3, 1) := by decide +kernel
theorem dX2_fall_33 : decode cX2_fall 33 = .ok (.getfield 49, 3) := by decide +kernel
theorem dX2_fall_36 : decode cX2_fall 36 = .ok (.iload_n 2, 1) := by decide +kernel
theorem dX2_fall_37 : decode cX2_fall 37 = .ok (.aaload, 1) := by decide +kernel
theorem dX2_fall_38 : decode cX2_fall 38 = .ok (.ifnull 7, 3) := by decide +kernel
theorem dX2_fall_41 : decode cX2_fall 41 = .ok (.iconst 1, 1) := by decide +kernel
theorem dX2_fall_42 : decode cX2_fall 42 = .ok (.goto 4, 3) := by decide +kernel
theorem dX2_fall_45 : decode cX2_fall 45 = .ok (.iconst 0, 1) := by decide +kernel
theorem dX2_fall_46 : decode cX2_fall 46 = .ok (.istore 4, 2) := by decide +kernel
theorem dX2_fall_48 : decode cX2_fall 48 = .ok (.aload_n 3, 1) := by decide +kernel
theorem dX2_fall_49 : decode cX2_fall 49 = .ok (.getfield 49, 3) := by decide +kernel
theorem dX2_fall_52 : decode cX2_fall 52 = .ok (.iload_n 2, 1) := by decide +kernel
theorem dX2_fall_53 : decode cX2_fall 53 = .ok (.aconst_null, 1) := by decide +kernel
theorem dX2_fall_54 : decode cX2_fall 54 = .ok (.aastore, 1) := by decide +kernel
theorem dX2_fall_55 : decode cX2_fall 55 = .ok (.iload 4, 2) := by decide +kernel
theorem dX2_fall_57 : decode cX2_fall 57 = .ok (.ireturn, 1) := by decide +kernel
theorem dX2_put_0 : decode cX2_put 0 = .ok (.aload_n 0, 1) := by decide +kernel
theorem dX2_put_1 : decode cX2_put 1 = .ok (.iload_n 1, 1) := by decide +kernel
theorem dX2_put_2 : decode cX2_put 2 = .ok (.invokevirtual 41, 3) := by decide +kernel
theorem dX2_put_5 : decode cX2_put 5 = .ok (.ifCond .eq 6, 3) := by decide +kernel
theorem dX2_put_8 : decode cX2_put 8 = .ok (.ldc 45, 2) := by decide +kernel
theorem dX2_put_10 : decode cX2_put 10 = .ok (.ireturn, 1) := by decide +kernel
theorem dX2_put_11 : decode cX2_put 11 = .ok (.aload_n 0, 1) := by decide +kernel
theorem dX2_put_12 : decode cX2_put 12 = .ok (.getfield 11, 3) := by decide +kernel
theorem dX2_put_15 : decode cX2_put 15 = .ok (.iload_n 1, 1) := by decide +kernel
theorem dX2_put_16 : decode cX2_put 16 = .ok (.aaload, 1) := by decide +kernel
theorem dX2_put_17 : decode cX2_put 17 = .ok (.astore 5, 2) := by decide +kernel
theorem dX2_put_19 : decode cX2_put 19 = .ok (.aload 5, 2) := by decide +kernel
theorem dX2_put_21 : decode cX2_put 21 = .ok (.getfield 55, 3) := by decide +kernel
theorem dX2_put_24 : decode cX2_put 24 = .ok (.iconst 3, 1) := by decide +kernel
theorem dX2_put_25 : decode cX2_put 25 = .ok (.if_icmp .ne 22, 3) := by decide +kernel
theorem dX2_put_28 : decode cX2_put 28 = .ok (.iload 4, 2) := by decide +kernel
theorem dX2_put_30 : decode cX2_put 30 = .ok (.ldc 62, 2) := by decide +kernel
theorem dX2_put_32 : decode cX2_put 32 = .ok (.if_icmp .eq 15, 3) := by decide +kernel
theorem dX2_put_35 : decode cX2_put 35 = .ok (.aload_n 0, 1) := by decide +kernel
theorem dX2_put_36 : decode cX2_put 36 = .ok (.iload 4, 2) := by decide +kernel
theorem dX2_put_38 : decode cX2_put 38 = .ok (.invokevirtual 41, 3) := by decide +kernel
theorem dX2_put_41 : decode cX2_put 41 = .ok (.ifCond .eq 6, 3) := by decide +kernel
theorem dX2_put_44 : decode cX2_put 44 = .ok (.ldc 45, 2) := by decide +kernel
theorem dX2_put_46 : decode cX2_put 46 = .ok (.ireturn, 1) := by decide +kernel
theorem dX2_put_47 : decode cX2_put 47 = .ok (.aload 5, 2) := by decide +kernel
theorem dX2_put_49 : decode cX2_put 49 = .ok (.iload_n 2, 1) := by decide +kernel
theorem dX2_put_50 : decode cX2_put 50 = .ok (.iload_n 3, 1) := by decide +kernel
theorem dX2_put_51 : decode cX2_put 51 = .ok (.invokevirtual 63, 3) := by decide +kernel
theorem dX2_put_54 : decode cX2_put 54 = .ok (.istore 6, 2) := by decide +kernel
theorem dX2_put_56 : decode cX2_put 56 = .ok (.iload 6, 2) := by decide +kernel
theorem dX2_put_58 : decode cX2_put 58 = .ok (.ifCond .eq 10, 3) := by decide +kernel
theorem dX2_put_61 : decode cX2_put 61 = .ok (.aload_n 0, 1) := by decide +kernel
theorem dX2_put_62 : decode cX2_put 62 = .ok (.iload 6, 2) := by decide +kernel
theorem dX2_put_64 : decode cX2_put 64 = .ok (.invokevirtual 33, 3) := by decide +kernel
theorem dX2_put_67 : decode cX2_put 67 = .ok (.ireturn, 1) := by decide +kernel
theorem dX2_put_68 : decode cX2_put 68 = .ok (.aload 5, 2) := by decide +kernel
theorem dX2_put_70 : decode cX2_put 70 = .ok (.getfield 49, 3) := by decide +kernel
theorem dX2_put_73 : decode cX2_put 73 = .ok (.iload_n 2, 1) := by decide +kernel
theorem dX2_put_74 : decode cX2_put 74 = .ok (.aaload, 1) := by decide +kernel
theorem dX2_put_75 : decode cX2_put 75 = .ok (.iload_n 3, 1) := by decide +kernel
theorem dX2_put_76 : decode cX2_put 76 = .ok (.iload 4, 2) := by decide +kernel
theorem dX2_put_78 : decode cX2_put 78 = .ok (.invokevirtual 66, 3) := by decide +kernel
theorem dX2_put_81 : decode cX2_put 81 = .ok (.iconst 1, 1) := by decide +kernel
theorem dX2_put_82 : decode cX2_put 82 = .ok (.ireturn, 1) := by decide +kernel
theorem dX2_get_0 : decode cX2_get 0 = .ok (.aload_n 0, 1) := by decide +kernel
theorem dX2_get_1 : decode cX2_get 1 = .ok (.iload_n 1, 1) := by decide +kernel
theorem dX2_get_2 : decode cX2_get 2 = .ok (.invokevirtual 41, 3) := by decide +kernel
theorem dX2_get_5 : decode cX2_get 5 = .ok (.ifCond .eq 6, 3) := by decide +kernel
theorem dX2_get_8 : decode cX2_get 8 = .ok (.ldc 45, 2) := by decide +kernel
theorem dX2_get_10 : decode cX2_get 10 = .ok (.ireturn, 1) := by decide +kernel
theorem dX2_get_11 : decode cX2_get 11 = .ok (.aload_n 0, 1) := by decide +kernel
theorem dX2_get_12 : decode cX2_get 12 = .ok (.getfield 11, 3) := by decide +kernel
theorem dX2_get_15 : decode cX2_get 15 = .ok (.iload_n 1, 1) := by decide +kernel
theorem dX2_get_16 : decode cX2_get 16 = .ok (.aaload, 1) := by decide +kernel
theorem dX2_get_17 : decode cX2_get 17 = .ok (.astore 4, 2) := by decide +kernel
theorem dX2_get_19 : decode cX2_get 19 = .ok (.aload 4, 2) := by decide +kernel
theorem dX2_get_21 : decode cX2_get 21 = .ok (.iload_n 2, 1) := by decide +kernel
theorem dX2_get_22 : decode cX2_get 22 = .ok (.iload_n 3, 1) := by decide +kernel
theorem dX2_get_23 : decode cX2_get 23 = .ok (.invokevirtual 63, 3) := by decide +kernel
theorem dX2_get_26 : decode cX2_get 26 = .ok (.istore 5, 2) := by decide +kernel
theorem dX2_get_28 : decode cX2_get 28 = .ok (.iload 5, 2) := by decide +kernel
theorem dX2_get_30 : decode cX2_get 30 = .ok (.ifCond .eq 10, 3) := by decide +kernel
theorem dX2_get_33 : decode cX2_get 33 = .ok (.aload_n 0, 1) := by decide +kernel
theorem dX2_get_34 : decode cX2_get 34 = .ok (.iload 5, 2) := by decide +kernel
theorem dX2_get_36 : decode cX2_get 36 = .ok (.invokevirtual 33, 3) := by decide +kernel
theorem dX2_get_39 : decode cX2_get 39 = .ok (.ireturn, 1) := by decide +kernel
theorem dX2_get_40 : decode cX2_get 40 = .ok (.aload 4, 2) := by decide +kernel
theorem dX2_get_42 : decode cX2_get 42 = .ok (.getfield 49, 3) := by decide +kernel
theorem dX2_get_45 : decode cX2_get 45 = .ok (.iload_n 2, 1) := by decide +kernel
theorem dX2_get_46 : decode cX2_get 46 = .ok (.aaload, 1) := by decide +kernel
theorem dX2_get_47 : decode cX2_get 47 = .ok (.iload_n 3, 1) := by decide +kernel
theorem dX2_get_48 : decode cX2_get 48 = .ok (.invokevirtual 69, 3) := by decide +kernel
theorem dX2_get_51 : decode cX2_get 51 = .ok (.ireturn, 1) := by decide +kernel
theorem dX2_real_0 : decode cX2_real 0 = .ok (.aload_n 0, 1) := by decide +kernel
theorem dX2_real_1 : decode cX2_real 1 = .ok (.iload_n 1, 1) := by decide +kernel
theorem dX2_real_2 : decode cX2_real 2 = .ok (.invokevirtual 41, 3) := by decide +kernel
theorem dX2_real_5 : decode cX2_real 5 = .ok (.ifCond .eq 5, 3) := by decide +kernel
theorem dX2_real_8 : decode cX2_real 8 = .ok (.dconst 0, 1) := by decide +kernel
theorem dX2_real_9 : decode cX2_real 9 = .ok (.dreturn, 1) := by decide +kernel
theorem dX2_real_10 : decode cX2_real 10 = .ok (.aload_n 0, 1) := by decide +kernel
theorem dX2_real_11 : decode cX2_real 11 = .ok (.getfield 11, 3) := by decide +kernel
theorem dX2_real_14 : decode cX2_real 14 = .ok (.iload_n 1, 1) := by decide +kernel
theorem dX2_real_15 : decode cX2_real 15 = .ok (.aaload, 1) := by decide +kernel
theorem dX2_real_16 : decode cX2_real 16 = .ok (.astore 4, 2) := by decide +kernel
theorem dX2_real_18 : decode cX2_real 18 = .ok (.aload 4, 2) := by decide +kernel
theorem dX2_real_20 : decode cX2_real 20 = .ok (.getfield 55, 3) := by decide +kernel
theorem dX2_real_23 : decode cX2_real 23 = .ok (.iconst 2, 1) := by decide +kernel
theorem dX2_real_24 : decode cX2_real 24 = .ok (.if_icmp .ne 13, 3) := by decide +kernel
theorem dX2_real_27 : decode cX2_real 27 = .ok (.aload 4, 2) := by decide +kernel
theorem dX2_real_29 : decode cX2_real 29 = .ok (.iload_n 2, 1) := by decide +kernel
theorem dX2_real_30 : decode cX2_real 30 = .ok (.iload_n 3, 1) := by decide +kernel
theorem dX2_real_31 : decode cX2_real 31 = .ok (.invokevirtual 63, 3) := by decide +kernel
theorem dX2_real_34 : decode cX2_real 34 = .ok (.ifCond .eq 5, 3) := by decide +kernel
theorem dX2_real_37 : decode cX2_real 37 = .ok (.dconst 0, 1) := by decide +kernel
theorem dX2_real_38 : decode cX2_real 38 = .ok (.dreturn, 1) := by decide +kernel
theorem dX2_real_39 : decode cX2_real 39 = .ok (.aload 4, 2) := by decide +kernel
theorem dX2_real_41 : decode cX2_real 41 = .ok (.getfield 49, 3) := by decide +kernel
theorem dX2_real_44 : decode cX2_real 44 = .ok (.iload_n 2, 1) := by decide +kernel
theorem dX2_real_45 : decode cX2_real 45 = .ok (.aaload, 1) := by decide +kernel
theorem dX2_real_46 : decode cX2_real 46 = .ok (.getfield 72, 3) := by decide +kernel
theorem dX2_real_49 : decode cX2_real 49 = .ok (.iload_n 3, 1) := by decide +kernel
theorem dX2_real_50 : decode cX2_real 50 = .ok (.daload, 1) := by decide +kernel
theorem dX2_real_51 : decode cX2_real 51 = .ok (.dreturn, 1) := by decide +kernel
theorem dX2_told_0 : decode cX2_told 0 = .ok (.aload_n 0, 1) := by decide +kernel
theorem dX2_told_1 : decode cX2_told 1 = .ok (.iload_n 1, 1) := by decide +kernel
theorem dX2_told_2 : decode cX2_told 2 = .ok (.invokevirtual 41, 3) := by decide +kernel
theorem dX2_told_5 : decode cX2_told 5 = .ok (.ifCond .eq 6, 3) := by decide +kernel
theorem dX2_told_8 : decode cX2_told 8 = .ok (.ldc 45, 2) := by decide +kernel
theorem dX2_told_10 : decode cX2_told 10 = .ok (.ireturn, 1) := by decide +kernel
theorem dX2_told_11 : decode cX2_told 11 = .ok (.aload_n 0, 1) := by decide +kernel
theorem dX2_told_12 : decode cX2_told 12 = .ok (.getfield 11, 3) := by decide +kernel
theorem dX2_told_15 : decode cX2_told 15 = .ok (.iload_n 1, 1) := by decide +kernel
theorem dX2_told_16 : decode cX2_told 16 = .ok (.aaload, 1) := by decide +kernel
theorem dX2_told_17 : decode cX2_told 17 = .ok (.astore 4, 2) := by decide +kernel
theorem dX2_told_19 : decode cX2_told 19 = .ok (.iload_n 3, 1) := by decide +kernel
theorem dX2_told_20 : decode cX2_told 20 = .ok (.tableswitch 73 0 2 #[28, 34, 40], 28) := by decide +kernel
theorem dX2_told_48 : decode cX2_told 48 = .ok (.aload 4, 2) := by decide +kernel
theorem dX2_told_50 : decode cX2_told 50 = .ok (.getfield 55, 3) := by decide +kernel
theorem dX2_told_53 : decode cX2_told 53 = .ok (.ireturn, 1) := by decide +kernel
theorem dX2_told_54 : decode cX2_told 54 = .ok (.aload 4, 2) := by decide +kernel
theorem dX2_told_56 : decode cX2_told 56 = .ok (.getfield 76, 3) := by decide +kernel
theorem dX2_told_59 : decode cX2_told 59 = .ok (.ireturn, 1) := by decide +kernel
theorem dX2_told_60 : decode cX2_told 60 = .ok (.aload 4, 2) := by decide +kernel
theorem dX2_told_62 : decode cX2_told 62 = .ok (.iload_n 2, 1) := by decide +kernel
theorem dX2_told_63 : decode cX2_told 63 = .ok (.invokevirtual 79, 3) := by decide +kernel
theorem dX2_told_66 : decode cX2_told 66 = .ok (.istore 5, 2) := by decide +kernel
theorem dX2_told_68 : decode cX2_told 68 = .ok (.iload 5, 2) := by decide +kernel
theorem dX2_told_70 : decode cX2_told 70 = .ok (.ifCond .eq 12, 3) := by decide +kernel
theorem dX2_told_73 : decode cX2_told 73 = .ok (.aload_n 0, 1) := by decide +kernel
theorem dX2_told_74 : decode cX2_told 74 = .ok (.iload 5, 2) := by decide +kernel
theorem dX2_told_76 : decode cX2_told 76 = .ok (.invokevirtual 33, 3) := by decide +kernel
theorem dX2_told_79 : decode cX2_told 79 = .ok (.goto 13, 3) := by decide +kernel
theorem dX2_told_82 : decode cX2_told 82 = .ok (.aload 4, 2) := by decide +kernel
theorem dX2_told_84 : decode cX2_told 84 = .ok (.getfield 49, 3) := by decide +kernel
theorem dX2_told_87 : decode cX2_told 87 = .ok (.iload_n 2, 1) := by decide +kernel
theorem dX2_told_88 : decode cX2_told 88 = .ok (.aaload, 1) := by decide +kernel
theorem dX2_told_89 : decode cX2_told 89 = .ok (.invokevirtual 82, 3) := by decide +kernel
theorem dX2_told_92 : decode cX2_told 92 = .ok (.ireturn, 1) := by decide +kernel
theorem dX2_told_93 : decode cX2_told 93 = .ok (.ldc 27, 2) := by decide +kernel
theorem dX2_told_95 : decode cX2_told 95 = .ok (.ireturn, 1) := by decide +kernel
theorem dX2_odd_0 : decode cX2_odd 0 = .ok (.aload_n 0, 1) := by decide +kernel
theorem dX2_odd_1 : decode cX2_odd 1 = .ok (.iload_n 1, 1) := by decide +kernel
theorem dX2_odd_2 : decode cX2_odd 2 = .ok (.invokevirtual 41, 3) := by decide +kernel
theorem dX2_odd_5 : decode cX2_odd 5 = .ok (.ifCond .eq 8, 3) := by decide +kernel
theorem dX2_odd_8 : decode cX2_odd 8 = .ok (.ldc 45, 2) := by decide +kernel
theorem dX2_odd_10 : decode cX2_odd 10 = .ok (.goto 12, 3) := by decide +kernel
theorem dX2_odd_13 : decode cX2_odd 13 = .ok (.aload_n 0, 1) := by decide +kernel
theorem dX2_odd_14 : decode cX2_odd 14 = .ok (.getfield 11, 3) := by decide +kernel
theorem dX2_odd_17 : decode cX2_odd 17 = .ok (.iload_n 1, 1) := by decide +kernel
theorem dX2_odd_18 : decode cX2_odd 18 = .ok (.aaload, 1) := by decide +kernel
theorem dX2_odd_19 : decode cX2_odd 19 = .ok (.invokevirtual 86, 3) := by decide +kernel
theorem dX2_odd_22 : decode cX2_odd 22 = .ok (.ireturn, 1) := by decide +kernel
theorem dX2_copy_0 : decode cX2_copy 0 = .ok (.aload_n 0, 1) := by decide +kernel
theorem dX2_copy_1 : decode cX2_copy 1 = .ok (.iload_n 1, 1) := by decide +kernel
theorem dX2_copy_2 : decode cX2_copy 2 = .ok (.invokevirtual 41, 3) := by decide +kernel
theorem dX2_copy_5 : decode cX2_copy 5 = .ok (.ifCond .ne 12, 3) := by decide +kernel
theorem dX2_copy_8 : decode cX2_copy 8 = .ok (.aload_n 0, 1) := by decide +kernel
theorem dX2_copy_9 : decode cX2_copy 9 = .ok (.iload 4, 2) := by decide +kernel
theorem dX2_copy_11 : decode cX2_copy 11 = .ok (.invokevirtual 41, 3) := by decide +kernel
theorem dX2_copy_14 : decode cX2_copy 14 = .ok (.ifCond .eq 6, 3) := by decide +kernel
theorem dX2_copy_17 : decode cX2_copy 17 = .ok (.ldc 45, 2) := by decide +kernel
theorem dX2_copy_19 : decode cX2_copy 19 = .ok (.ireturn, 1) := by decide +kernel
theorem dX2_copy_20 : decode cX2_copy 20 = .ok (.aload_n 0, 1) := by decide +kernel
theorem dX2_copy_21 : decode cX2_copy 21 = .ok (.getfield 11, 3) := by decide +kernel
theorem dX2_copy_24 : decode cX2_copy 24 = .ok (.iload_n 1, 1) := by decide +kernel
theorem dX2_copy_25 : decode cX2_copy 25 = .ok (.aaload, 1) := by decide +kernel
theorem dX2_copy_26 : decode cX2_copy 26 = .ok (.astore 8, 2) := by decide +kernel
theorem dX2_copy_28 : decode cX2_copy 28 = .ok (.aload_n 0, 1) := by decide +kernel
theorem dX2_copy_29 : decode cX2_copy 29 = .ok (.getfield 11, 3) := by decide +kernel
theorem dX2_copy_32 : decode cX2_copy 32 = .ok (.iload 4, 2) := by decide +kernel
theorem dX2_copy_34 : decode cX2_copy 34 = .ok (.aaload, 1) := by decide +kernel
theorem dX2_copy_35 : decode cX2_copy 35 = .ok (.astore 9, 2) := by decide +kernel
theorem dX2_copy_37 : decode cX2_copy 37 = .ok (.aload 8, 2) := by decide +kernel
theorem dX2_copy_39 : decode cX2_copy 39 = .ok (.iload_n 2, 1) := by decide +kernel
theorem dX2_copy_40 : decode cX2_copy 40 = .ok (.invokevirtual 46, 3) := by decide +kernel
theorem dX2_copy_43 : decode cX2_copy 43 = .ok (.ifCond .eq 13, 3) := by decide +kernel
theorem dX2_copy_46 : decode cX2_copy 46 = .ok (.aload 9, 2) := by decide +kernel
theorem dX2_copy_48 : decode cX2_copy 48 = .ok (.iload 5, 2) := by decide +kernel
theorem dX2_copy_50 : decode cX2_copy 50 = .ok (.invokevirtual 46, 3) := by decide +kernel
theorem dX2_copy_53 : decode cX2_copy 53 = .ok (.ifCond .ne 9, 3) := by decide +kernel
theorem dX2_copy_56 : decode cX2_copy 56 = .ok (.aload_n 0, 1) := by decide +kernel
theorem dX2_copy_57 : decode cX2_copy 57 = .ok (.iconst 2, 1) := by decide +kernel
theorem dX2_copy_58 : decode cX2_copy 58 = .ok (.invokevirtual 33, 3) := by decide +kernel
theorem dX2_copy_61 : decode cX2_copy 61 = .ok (.ireturn, 1) := by decide +kernel
theorem dX2_copy_62 : decode cX2_copy 62 = .ok (.aload 8, 2) := by decide +kernel
theorem dX2_copy_64 : decode cX2_copy 64 = .ok (.getfield 49, 3) := by decide +kernel
theorem dX2_copy_67 : decode cX2_copy 67 = .ok (.iload_n 2, 1) := by decide +kernel
theorem dX2_copy_68 : decode cX2_copy 68 = .ok (.aaload, 1) := by decide +kernel
theorem dX2_copy_69 : decode cX2_copy 69 = .ok (.astore 10, 2) := by decide +kernel
theorem dX2_copy_71 : decode cX2_copy 71 = .ok (.aload 9, 2) := by decide +kernel
theorem dX2_copy_73 : decode cX2_copy 73 = .ok (.getfield 49, 3) := by decide +kernel
theorem dX2_copy_76 : decode cX2_copy 76 = .ok (.iload 5, 2) := by decide +kernel
theorem dX2_copy_78 : decode cX2_copy 78 = .ok (.aaload, 1) := by decide +kernel
theorem dX2_copy_79 : decode cX2_copy 79 = .ok (.astore 11, 2) := by decide +kernel
theorem dX2_copy_81 : decode cX2_copy 81 = .ok (.aload 10, 2) := by decide +kernel
theorem dX2_copy_83 : decode cX2_copy 83 = .ok (.ifnull 8, 3) := by decide +kernel
theorem dX2_copy_86 : decode cX2_copy 86 = .ok (.aload 11, 2) := by decide +kernel
theorem dX2_copy_88 : decode cX2_copy 88 = .ok (.ifnonnull 9, 3) := by decide +kernel
theorem dX2_copy_91 : decode cX2_copy 91 = .ok (.aload_n 0, 1) := by decide +kernel
theorem dX2_copy_92 : decode cX2_copy 92 = .ok (.iconst 1, 1) := by decide +kernel
theorem dX2_copy_93 : decode cX2_copy 93 = .ok (.invokevirtual 33, 3) := by decide +kernel
theorem dX2_copy_96 : decode cX2_copy 96 = .ok (.ireturn, 1) := by decide +kernel
theorem dX2_copy_97 : decode cX2_copy 97 = .ok (.aload 8, 2) := by decide +kernel
theorem dX2_copy_99 : decode cX2_copy 99 = .ok (.getfield 55, 3) := by decide +kernel
theorem dX2_copy_102 : decode cX2_copy 102 = .ok (.aload 9, 2) := by decide +kernel
theorem dX2_copy_104 : decode cX2_copy 104 = .ok (.getfield 55, 3) := by decide +kernel
theorem dX2_copy_107 : decode cX2_copy 107 = .ok (.if_icmp .eq 9, 3) := by decide +kernel
theorem dX2_copy_110 : decode cX2_copy 110 = .ok (.aload_n 0, 1) := by decide +kernel
theorem dX2_copy_111 : decode cX2_copy 111 = .ok (.iconst 3, 1) := by decide +kernel
theorem dX2_copy_112 : decode cX2_copy 112 = .ok (.invokevirtual 33, 3) := by decide +kernel
theorem dX2_copy_115 : decode cX2_copy 115 = .ok (.ireturn, 1) := by decide +kernel
theorem dX2_copy_116 : decode cX2_copy 116 = .ok (.aload 10, 2) := by decide +kernel
theorem dX2_copy_118 : decode cX2_copy 118 = .ok (.iload_n 3, 1) := by decide +kernel
theorem dX2_copy_119 : decode cX2_copy 119 = .ok (.iload 7, 2) := by decide +kernel
theorem dX2_copy_121 : decode cX2_copy 121 = .ok (.invokevirtual 89, 3) := by decide +kernel
theorem dX2_copy_124 : decode cX2_copy 124 = .ok (.ifCond .eq 15, 3) := by decide +kernel
theorem dX2_copy_127 : decode cX2_copy 127 = .ok (.aload 11, 2) := by decide +kernel
theorem dX2_copy_129 : decode cX2_copy 129 = .ok (.iload 6, 2) := by decide +kernel
theorem dX2_copy_131 : decode cX2_copy 131 = .ok (.iload 7, 2) := by decide +kernel
theorem dX2_copy_133 : decode cX2_copy 133 = .ok (.invokevirtual 89, 3) := by decide +kernel
theorem dX2_copy_136 : decode cX2_copy 136 = .ok (.ifCond .ne 9, 3) := by decide +kernel
theorem dX2_copy_139 : decode cX2_copy 139 = .ok (.aload_n 0, 1) := by decide +kernel
theorem dX2_copy_140 : decode cX2_copy 140 = .ok (.iconst 2, 1) := by decide +kernel
theorem dX2_copy_141 : decode cX2_copy 141 = .ok (.invokevirtual 33, 3) := by decide +kernel
theorem dX2_copy_144 : decode cX2_copy 144 = .ok (.ireturn, 1) := by decide +kernel
theorem dX2_copy_145 : decode cX2_copy 145 = .ok (.aload 11, 2) := by decide +kernel
theorem dX2_copy_147 : decode cX2_copy 147 = .ok (.iload 6, 2) := by decide +kernel
theorem dX2_copy_149 : decode cX2_copy 149 = .ok (.aload 10, 2) := by decide +kernel
theorem dX2_copy_151 : decode cX2_copy 151 = .ok (.iload_n 3, 1) := by decide +kernel
theorem dX2_copy_152 : decode cX2_copy 152 = .ok (.iload 7, 2) := by decide +kernel
theorem dX2_copy_154 : decode cX2_copy 154 = .ok (.invokevirtual 93, 3) := by decide +kernel
theorem dX2_copy_157 : decode cX2_copy 157 = .ok (.iconst 1, 1) := by decide +kernel
theorem dX2_copy_158 : decode cX2_copy 158 = .ok (.ireturn, 1) := by decide +kernel
theorem dX2_turned_0 : decode cX2_turned 0 = .ok (.aload_n 0, 1) := by decide +kernel
theorem dX2_turned_1 : decode cX2_turned 1 = .ok (.iload_n 1, 1) := by decide +kernel
theorem dX2_turned_2 : decode cX2_turned 2 = .ok (.invokevirtual 41, 3) := by decide +kernel
theorem dX2_turned_5 : decode cX2_turned 5 = .ok (.ifCond .eq 6, 3) := by decide +kernel
theorem dX2_turned_8 : decode cX2_turned 8 = .ok (.ldc 45, 2) := by decide +kernel
theorem dX2_turned_10 : decode cX2_turned 10 = .ok (.ireturn, 1) := by decide +kernel
theorem dX2_turned_11 : decode cX2_turned 11 = .ok (.aload_n 0, 1) := by decide +kernel
theorem dX2_turned_12 : decode cX2_turned 12 = .ok (.getfield 11, 3) := by decide +kernel
theorem dX2_turned_15 : decode cX2_turned 15 = .ok (.iload_n 1, 1) := by decide +kernel
theorem dX2_turned_16 : decode cX2_turned 16 = .ok (.aaload, 1) := by decide +kernel
theorem dX2_turned_17 : decode cX2_turned 17 = .ok (.astore_n 2, 1) := by decide +kernel
theorem dX2_turned_18 : decode cX2_turned 18 = .ok (.aload_n 2, 1) := by decide +kernel
theorem dX2_turned_19 : decode cX2_turned 19 = .ok (.invokevirtual 97, 3) := by decide +kernel
theorem dX2_turned_22 : decode cX2_turned 22 = .ok (.ifCond .eq 12, 3) := by decide +kernel
theorem dX2_turned_25 : decode cX2_turned 25 = .ok (.aload_n 2, 1) := by decide +kernel
theorem dX2_turned_26 : decode cX2_turned 26 = .ok (.invokevirtual 100, 3) := by decide +kernel
theorem dX2_turned_29 : decode cX2_turned 29 = .ok (.bipush 12, 2) := by decide +kernel
theorem dX2_turned_31 : decode cX2_turned 31 = .ok (.if_icmp .le 6, 3) := by decide +kernel
theorem dX2_turned_34 : decode cX2_turned 34 = .ok (.ldc 103, 2) := by decide +kernel
theorem dX2_turned_36 : decode cX2_turned 36 = .ok (.ireturn, 1) := by decide +kernel
theorem dX2_turned_37 : decode cX2_turned 37 = .ok (.aload_n 0, 1) := by decide +kernel
theorem dX2_turned_38 : decode cX2_turned 38 = .ok (.invokevirtual 28, 3) := by decide +kernel
theorem dX2_turned_41 : decode cX2_turned 41 = .ok (.ifCond .eq 6, 3) := by decide +kernel
theorem dX2_turned_44 : decode cX2_turned 44 = .ok (.ldc 32, 2) := by decide +kernel
theorem dX2_turned_46 : decode cX2_turned 46 = .ok (.ireturn, 1) := by decide +kernel
theorem dX2_turned_47 : decode cX2_turned 47 = .ok (.aload_n 0, 1) := by decide +kernel
theorem dX2_turned_48 : decode cX2_turned 48 = .ok (.aload_n 2, 1) := by decide +kernel
theorem dX2_turned_49 : decode cX2_turned 49 = .ok (.getfield 55, 3) := by decide +kernel
theorem dX2_turned_52 : decode cX2_turned 52 = .ok (.aload_n 2, 1) := by decide +kernel
theorem dX2_turned_53 : decode cX2_turned 53 = .ok (.invokevirtual 100, 3) := by decide +kernel
theorem dX2_turned_56 : decode cX2_turned 56 = .ok (.aload_n 2, 1) := by decide +kernel
theorem dX2_turned_57 : decode cX2_turned 57 = .ok (.getfield 76, 3) := by decide +kernel
theorem dX2_turned_60 : decode cX2_turned 60 = .ok (.invokevirtual 104, 3) := by decide +kernel
theorem dX2_turned_63 : decode cX2_turned 63 = .ok (.istore_n 3, 1) := by decide +kernel
theorem dX2_turned_64 : decode cX2_turned 64 = .ok (.aload_n 0, 1) := by decide +kernel
theorem dX2_turned_65 : decode cX2_turned 65 = .ok (.getfield 11, 3) := by decide +kernel
theorem dX2_turned_68 : decode cX2_turned 68 = .ok (.iload_n 3, 1) := by decide +kernel
theorem dX2_turned_69 : decode cX2_turned 69 = .ok (.aaload, 1) := by decide +kernel
theorem dX2_turned_70 : decode cX2_turned 70 = .ok (.astore 4, 2) := by decide +kernel
theorem dX2_turned_72 : decode cX2_turned 72 = .ok (.iconst 0, 1) := by decide +kernel
theorem dX2_turned_73 : decode cX2_turned 73 = .ok (.istore 5, 2) := by decide +kernel
theorem dX2_turned_75 : decode cX2_turned 75 = .ok (.iload 5, 2) := by decide +kernel
theorem dX2_turned_77 : decode cX2_turned 77 = .ok (.aload 4, 2) := by decide +kernel
theorem dX2_turned_79 : decode cX2_turned 79 = .ok (.getfield 76, 3) := by decide +kernel
theorem dX2_turned_82 : decode cX2_turned 82 = .ok (.if_icmp .ge 50, 3) := by decide +kernel
theorem dX2_turned_85 : decode cX2_turned 85 = .ok (.iconst 0, 1) := by decide +kernel
theorem dX2_turned_86 : decode cX2_turned 86 = .ok (.istore 6, 2) := by decide +kernel
theorem dX2_turned_88 : decode cX2_turned 88 = .ok (.iload 6, 2) := by decide +kernel
theorem dX2_turned_90 : decode cX2_turned 90 = .ok (.aload_n 2, 1) := by decide +kernel
theorem dX2_turned_91 : decode cX2_turned 91 = .ok (.getfield 76, 3) := by decide +kernel
theorem dX2_turned_94 : decode cX2_turned 94 = .ok (.if_icmp .ge 32, 3) := by decide +kernel
theorem dX2_turned_97 : decode cX2_turned 97 = .ok (.aload 4, 2) := by decide +kernel
theorem dX2_turned_99 : decode cX2_turned 99 = .ok (.getfield 49, 3) := by decide +kernel
theorem dX2_turned_102 : decode cX2_turned 102 = .ok (.iload 5, 2) := by decide +kernel
theorem dX2_turned_104 : decode cX2_turned 104 = .ok (.aaload, 1) := by decide +kernel
theorem dX2_turned_105 : decode cX2_turned 105 = .ok (.iload 6, 2) := by decide +kernel
theorem dX2_turned_107 : decode cX2_turned 107 = .ok (.aload_n 2, 1) := by decide +kernel
theorem dX2_turned_108 : decode cX2_turned 108 = .ok (.getfield 49, 3) := by decide +kernel
theorem dX2_turned_111 : decode cX2_turned 111 = .ok (.iload 6, 2) := by decide +kernel
theorem dX2_turned_113 : decode cX2_turned 113 = .ok (.aaload, 1) := by decide +kernel
theorem dX2_turned_114 : decode cX2_turned 114 = .ok (.iload 5, 2) := by decide +kernel
theorem dX2_turned_116 : decode cX2_turned 116 = .ok (.iconst 1, 1) := by decide +kernel
theorem dX2_turned_117 : decode cX2_turned 117 = .ok (.invokevirtual 93, 3) := by decide +kernel
theorem dX2_turned_120 : decode cX2_turned 120 = .ok (.iinc 6 1, 3) := by decide +kernel
theorem dX2_turned_123 : decode cX2_turned 123 = .ok (.goto (-35), 3) := by decide +kernel
theorem dX2_turned_126 : decode cX2_turned 126 = .ok (.iinc 5 1, 3) := by decide +kernel
theorem dX2_turned_129 : decode cX2_turned 129 = .ok (.goto (-54), 3) := by decide +kernel
theorem dX2_turned_132 : decode cX2_turned 132 = .ok (.iload_n 3, 1) := by decide +kernel
theorem dX2_turned_133 : decode cX2_turned 133 = .ok (.ireturn, 1) := by decide +kernel
theorem dX2_product_0 : decode cX2_product 0 = .ok (.aload_n 0, 1) := by decide +kernel
theorem dX2_product_1 : decode cX2_product 1 = .ok (.iload_n 1, 1) := by decide +kernel
theorem dX2_product_2 : decode cX2_product 2 = .ok (.invokevirtual 41, 3) := by decide +kernel
theorem dX2_product_5 : decode cX2_product 5 = .ok (.ifCond .ne 11, 3) := by decide +kernel
theorem dX2_product_8 : decode cX2_product 8 = .ok (.aload_n 0, 1) := by decide +kernel
theorem dX2_product_9 : decode cX2_product 9 = .ok (.iload_n 2, 1) := by decide +kernel
theorem dX2_product_10 : decode cX2_product 10 = .ok (.invokevirtual 41, 3) := by decide +kernel
theorem dX2_product_13 : decode cX2_product 13 = .ok (.ifCond .eq 6, 3) := by decide +kernel
theorem dX2_product_16 : decode cX2_product 16 = .ok (.ldc 45, 2) := by decide +kernel
theorem dX2_product_18 : decode cX2_product 18 = .ok (.ireturn, 1) := by decide +kernel
theorem dX2_product_19 : decode cX2_product 19 = .ok (.aload_n 0, 1) := by decide +kernel
theorem dX2_product_20 : decode cX2_product 20 = .ok (.getfield 11, 3) := by decide +kernel
theorem dX2_product_23 : decode cX2_product 23 = .ok (.iload_n 1, 1) := by decide +kernel
theorem dX2_product_24 : decode cX2_product 24 = .ok (.aaload, 1) := by decide +kernel
theorem dX2_product_25 : decode cX2_product 25 = .ok (.astore_n 3, 1) := by decide +kernel
theorem dX2_product_26 : decode cX2_product 26 = .ok (.aload_n 0, 1) := by decide +kernel
theorem dX2_product_27 : decode cX2_product 27 = .ok (.getfield 11, 3) := by decide +kernel
theorem dX2_product_30 : decode cX2_product 30 = .ok (.iload_n 2, 1) := by decide +kernel
theorem dX2_product_31 : decode cX2_product 31 = .ok (.aaload, 1) := by decide +kernel
theorem dX2_product_32 : decode cX2_product 32 = .ok (.astore 4, 2) := by decide +kernel
theorem dX2_product_34 : decode cX2_product 34 = .ok (.aload_n 3, 1) := by decide +kernel
theorem dX2_product_35 : decode cX2_product 35 = .ok (.aload 4, 2) := by decide +kernel
theorem dX2_product_37 : decode cX2_product 37 = .ok (.invokestatic 108, 3) := by decide +kernel
theorem dX2_product_40 : decode cX2_product 40 = .ok (.ifCond .ne 6, 3) := by decide +kernel
theorem dX2_product_43 : decode cX2_product 43 = .ok (.ldc 103, 2) := by decide +kernel
theorem dX2_product_45 : decode cX2_product 45 = .ok (.ireturn, 1) := by decide +kernel
theorem dX2_product_46 : decode cX2_product 46 = .ok (.aload_n 0, 1) := by decide +kernel
theorem dX2_product_47 : decode cX2_product 47 = .ok (.invokevirtual 28, 3) := by decide +kernel
theorem dX2_product_50 : decode cX2_product 50 = .ok (.ifCond .eq 6, 3) := by decide +kernel
theorem dX2_product_53 : decode cX2_product 53 = .ok (.ldc 32, 2) := by decide +kernel
theorem dX2_product_55 : decode cX2_product 55 = .ok (.ireturn, 1) := by decide +kernel
theorem dX2_product_56 : decode cX2_product 56 = .ok (.aload_n 0, 1) := by decide +kernel
theorem dX2_product_57 : decode cX2_product 57 = .ok (.aload_n 3, 1) := by decide +kernel
theorem dX2_product_58 : decode cX2_product 58 = .ok (.getfield 55, 3) := by decide +kernel
theorem dX2_product_61 : decode cX2_product 61 = .ok (.aload_n 3, 1) := by decide +kernel
theorem dX2_product_62 : decode cX2_product 62 = .ok (.getfield 76, 3) := by decide +kernel
theorem dX2_product_65 : decode cX2_product 65 = .ok (.aload 4, 2) := by decide +kernel
theorem dX2_product_67 : decode cX2_product 67 = .ok (.invokevirtual 100, 3) := by decide +kernel
theorem dX2_product_70 : decode cX2_product 70 = .ok (.invokevirtual 104, 3) := by decide +kernel
theorem dX2_product_73 : decode cX2_product 73 = .ok (.istore 5, 2) := by decide +kernel
theorem dX2_product_75 : decode cX2_product 75 = .ok (.aload_n 0, 1) := by decide +kernel
theorem dX2_product_76 : decode cX2_product 76 = .ok (.getfield 11, 3) := by decide +kernel
theorem dX2_product_79 : decode cX2_product 79 = .ok (.iload 5, 2) := by decide +kernel
theorem dX2_product_81 : decode cX2_product 81 = .ok (.aaload, 1) := by decide +kernel
theorem dX2_product_82 : decode cX2_product 82 = .ok (.astore 6, 2) := by decide +kernel
theorem dX2_product_84 : decode cX2_product 84 = .ok (.iconst 0, 1) := by decide +kernel
theorem dX2_product_85 : decode cX2_product 85 = .ok (.istore 7, 2) := by decide +kernel
theorem dX2_product_87 : decode cX2_product 87 = .ok (.iload 7, 2) := by decide +kernel
theorem dX2_product_89 : decode cX2_product 89 = .ok (.aload 6, 2) := by decide +kernel
theorem dX2_product_91 : decode cX2_product 91 = .ok (.getfield 76, 3) := by decide +kernel
theorem dX2_product_94 : decode cX2_product 94 = .ok (.if_icmp .ge 56, 3) := by decide +kernel
theorem dX2_product_97 : decode cX2_product 97 = .ok (.iconst 0, 1) := by decide +kernel
theorem dX2_product_98 : decode cX2_product 98 = .ok (.istore 8, 2) := by decide +kernel
theorem dX2_product_100 : decode cX2_product 100 = .ok (.iload 8, 2) := by decide +kernel
theorem dX2_product_102 : decode cX2_product 102 = .ok (.aload 6, 2) := by decide +kernel
theorem dX2_product_104 : decode cX2_product 104 = .ok (.getfield 49, 3) := by decide +kernel
theorem dX2_product_107 : decode cX2_product 107 = .ok (.iload 7, 2) := by decide +kernel
theorem dX2_product_109 : decode cX2_product 109 = .ok (.aaload, 1) := by decide +kernel
theorem dX2_product_110 : decode cX2_product 110 = .ok (.invokevirtual 82, 3) := by decide +kernel
theorem dX2_product_113 : decode cX2_product 113 = .ok (.if_icmp .ge 31, 3) := by decide +kernel
theorem dX2_product_116 : decode cX2_product 116 = .ok (.aload 6, 2) := by decide +kernel
theorem dX2_product_118 : decode cX2_product 118 = .ok (.getfield 49, 3) := by decide +kernel
theorem dX2_product_121 : decode cX2_product 121 = .ok (.iload 7, 2) := by decide +kernel
theorem dX2_product_123 : decode cX2_product 123 = .ok (.aaload, 1) := by decide +kernel
theorem dX2_product_124 : decode cX2_product 124 = .ok (.iload 8, 2) := by decide +kernel
theorem dX2_product_126 : decode cX2_product 126 = .ok (.aload_n 3, 1) := by decide +kernel
theorem dX2_product_127 : decode cX2_product 127 = .ok (.getfield 49, 3) := by decide +kernel
theorem dX2_product_130 : decode cX2_product 130 = .ok (.iload 7, 2) := by decide +kernel
theorem dX2_product_132 : decode cX2_product 132 = .ok (.aaload, 1) := by decide +kernel
theorem dX2_product_133 : decode cX2_product 133 = .ok (.aload 4, 2) := by decide +kernel
theorem dX2_product_135 : decode cX2_product 135 = .ok (.invokestatic 112, 3) := by decide +kernel
theorem dX2_product_138 : decode cX2_product 138 = .ok (.iinc 8 1, 3) := by decide +kernel
theorem dX2_product_141 : decode cX2_product 141 = .ok (.goto (-41), 3) := by decide +kernel
theorem dX2_product_144 : decode cX2_product 144 = .ok (.iinc 7 1, 3) := by decide +kernel
theorem dX2_product_147 : decode cX2_product 147 = .ok (.goto (-60), 3) := by decide +kernel
theorem dX2_product_150 : decode cX2_product 150 = .ok (.iload 5, 2) := by decide +kernel
theorem dX2_product_152 : decode cX2_product 152 = .ok (.ireturn, 1) := by decide +kernel
theorem dX2_distances_0 : decode cX2_distances 0 = .ok (.aload_n 0, 1) := by decide +kernel
theorem dX2_distances_1 : decode cX2_distances 1 = .ok (.iload_n 1, 1) := by decide +kernel
theorem dX2_distances_2 : decode cX2_distances 2 = .ok (.invokevirtual 41, 3) := by decide +kernel
theorem dX2_distances_5 : decode cX2_distances 5 = .ok (.ifCond .eq 6, 3) := by decide +kernel
theorem dX2_distances_8 : decode cX2_distances 8 = .ok (.ldc 45, 2) := by decide +kernel
theorem dX2_distances_10 : decode cX2_distances 10 = .ok (.ireturn, 1) := by decide +kernel
theorem dX2_distances_11 : decode cX2_distances 11 = .ok (.aload_n 0, 1) := by decide +kernel
theorem dX2_distances_12 : decode cX2_distances 12 = .ok (.getfield 11, 3) := by decide +kernel
theorem dX2_distances_15 : decode cX2_distances 15 = .ok (.iload_n 1, 1) := by decide +kernel
theorem dX2_distances_16 : decode cX2_distances 16 = .ok (.aaload, 1) := by decide +kernel
theorem dX2_distances_17 : decode cX2_distances 17 = .ok (.astore_n 2, 1) := by decide +kernel
theorem dX2_distances_18 : decode cX2_distances 18 = .ok (.aload_n 2, 1) := by decide +kernel
theorem dX2_distances_19 : decode cX2_distances 19 = .ok (.getfield 55, 3) := by decide +kernel
theorem dX2_distances_22 : decode cX2_distances 22 = .ok (.ifCond .ne 12, 3) := by decide +kernel
theorem dX2_distances_25 : decode cX2_distances 25 = .ok (.aload_n 2, 1) := by decide +kernel
theorem dX2_distances_26 : decode cX2_distances 26 = .ok (.invokevirtual 86, 3) := by decide +kernel
theorem dX2_distances_29 : decode cX2_distances 29 = .ok (.ldc 62, 2) := by decide +kernel
theorem dX2_distances_31 : decode cX2_distances 31 = .ok (.if_icmp .eq 6, 3) := by decide +kernel
theorem dX2_distances_34 : decode cX2_distances 34 = .ok (.ldc 103, 2) := by decide +kernel
theorem dX2_distances_36 : decode cX2_distances 36 = .ok (.ireturn, 1) := by decide +kernel
theorem dX2_distances_37 : decode cX2_distances 37 = .ok (.aload_n 0, 1) := by decide +kernel
theorem dX2_distances_38 : decode cX2_distances 38 = .ok (.invokevirtual 28, 3) := by decide +kernel
theorem dX2_distances_41 : decode cX2_distances 41 = .ok (.ifCond .eq 6, 3) := by decide +kernel
theorem dX2_distances_44 : decode cX2_distances 44 = .ok (.ldc 32, 2) := by decide +kernel
theorem dX2_distances_46 : decode cX2_distances 46 = .ok (.ireturn, 1) := by decide +kernel
theorem dX2_distances_47 : decode cX2_distances 47 = .ok (.aload_n 0, 1) := by decide +kernel
theorem dX2_distances_48 : decode cX2_distances 48 = .ok (.iconst 1, 1) := by decide +kernel
theorem dX2_distances_49 : decode cX2_distances 49 = .ok (.aload_n 2, 1) := by decide +kernel
theorem dX2_distances_50 : decode cX2_distances 50 = .ok (.getfield 76, 3) := by decide +kernel
theorem dX2_distances_53 : decode cX2_distances 53 = .ok (.aload_n 2, 1) := by decide +kernel
theorem dX2_distances_54 : decode cX2_distances 54 = .ok (.getfield 76, 3) := by decide +kernel
theorem dX2_distances_57 : decode cX2_distances 57 = .ok (.invokevirtual 104, 3) := by decide +kernel
theorem dX2_distances_60 : decode cX2_distances 60 = .ok (.istore_n 3, 1) := by decide +kernel
theorem dX2_distances_61 : decode cX2_distances 61 = .ok (.aload_n 0, 1) := by decide +kernel
theorem dX2_distances_62 : decode cX2_distances 62 = .ok (.getfield 11, 3) := by decide +kernel
theorem dX2_distances_65 : decode cX2_distances 65 = .ok (.iload_n 3, 1) := by decide +kernel
theorem dX2_distances_66 : decode cX2_distances 66 = .ok (.aaload, 1) := by decide +kernel
theorem dX2_distances_67 : decode cX2_distances 67 = .ok (.astore 4, 2) := by decide +kernel
theorem dX2_distances_69 : decode cX2_distances 69 = .ok (.iconst 0, 1) := by decide +kernel
theorem dX2_distances_70 : decode cX2_distances 70 = .ok (.istore 5, 2) := by decide +kernel
theorem dX2_distances_72 : decode cX2_distances 72 = .ok (.iload 5, 2) := by decide +kernel
theorem dX2_distances_74 : decode cX2_distances 74 = .ok (.aload 4, 2) := by decide +kernel
theorem dX2_distances_76 : decode cX2_distances 76 = .ok (.getfield 76, 3) := by decide +kernel
theorem dX2_distances_79 : decode cX2_distances 79 = .ok (.if_icmp .ge 35, 3) := by decide +kernel
theorem dX2_distances_82 : decode cX2_distances 82 = .ok (.aload 4, 2) := by decide +kernel
theorem dX2_distances_84 : decode cX2_distances 84 = .ok (.getfield 49, 3) := by decide +kernel
theorem dX2_distances_87 : decode cX2_distances 87 = .ok (.iload 5, 2) := by decide +kernel
theorem dX2_distances_89 : decode cX2_distances 89 = .ok (.aaload, 1) := by decide +kernel
theorem dX2_distances_90 : decode cX2_distances 90 = .ok (.getfield 116, 3) := by decide +kernel
theorem dX2_distances_93 : decode cX2_distances 93 = .ok (.aload_n 2, 1) := by decide +kernel
theorem dX2_distances_94 : decode cX2_distances 94 = .ok (.getfield 49, 3) := by decide +kernel
theorem dX2_distances_97 : decode cX2_distances 97 = .ok (.iload 5, 2) := by decide +kernel
theorem dX2_distances_99 : decode cX2_distances 99 = .ok (.aaload, 1) := by decide +kernel
theorem dX2_distances_100 : decode cX2_distances 100 = .ok (.getfield 116, 3) := by decide +kernel
theorem dX2_distances_103 : decode cX2_distances 103 = .ok (.iload 5, 2) := by decide +kernel
theorem dX2_distances_105 : decode cX2_distances 105 = .ok (.invokestatic 119, 3) := by decide +kernel
theorem dX2_distances_108 : decode cX2_distances 108 = .ok (.iinc 5 1, 3) := by decide +kernel
theorem dX2_distances_111 : decode cX2_distances 111 = .ok (.goto (-39), 3) := by decide +kernel
theorem dX2_distances_114 : decode cX2_distances 114 = .ok (.iconst 0, 1) := by decide +kernel
theorem dX2_distances_115 : decode cX2_distances 115 = .ok (.istore 5, 2) := by decide +kernel
theorem dX2_distances_117 : decode cX2_distances 117 = .ok (.iload 5, 2) := by decide +kernel
theorem dX2_distances_119 : decode cX2_distances 119 = .ok (.aload 4, 2) := by decide +kernel
theorem dX2_distances_121 : decode cX2_distances 121 = .ok (.getfield 76, 3) := by decide +kernel
theorem dX2_distances_124 : decode cX2_distances 124 = .ok (.if_icmp .ge 55, 3) := by decide +kernel
theorem dX2_distances_127 : decode cX2_distances 127 = .ok (.iconst 0, 1) := by decide +kernel
theorem dX2_distances_128 : decode cX2_distances 128 = .ok (.istore 6, 2) := by decide +kernel
theorem dX2_distances_130 : decode cX2_distances 130 = .ok (.iload 6, 2) := by decide +kernel
theorem dX2_distances_132 : decode cX2_distances 132 = .ok (.aload 4, 2) := by decide +kernel
theorem dX2_distances_134 : decode cX2_distances 134 = .ok (.getfield 76, 3) := by decide +kernel
theorem dX2_distances_137 : decode cX2_distances 137 = .ok (.if_icmp .ge 36, 3) := by decide +kernel
theorem dX2_distances_140 : decode cX2_distances 140 = .ok (.iload 5, 2) := by decide +kernel
theorem dX2_distances_142 : decode cX2_distances 142 = .ok (.aload 4, 2) := by decide +kernel
theorem dX2_distances_144 : decode cX2_distances 144 = .ok (.getfield 49, 3) := by decide +kernel
theorem dX2_distances_147 : decode cX2_distances 147 = .ok (.iload 6, 2) := by decide +kernel
theorem dX2_distances_149 : decode cX2_distances 149 = .ok (.aaload, 1) := by decide +kernel
theorem dX2_distances_150 : decode cX2_distances 150 = .ok (.getfield 116, 3) := by decide +kernel
theorem dX2_distances_153 : decode cX2_distances 153 = .ok (.aload 4, 2) := by decide +kernel
theorem dX2_distances_155 : decode cX2_distances 155 = .ok (.getfield 49, 3) := by decide +kernel
theorem dX2_distances_158 : decode cX2_distances 158 = .ok (.iload 5, 2) := by decide +kernel
theorem dX2_distances_160 : decode cX2_distances 160 = .ok (.aaload, 1) := by decide +kernel
theorem dX2_distances_161 : decode cX2_distances 161 = .ok (.getfield 116, 3) := by decide +kernel
theorem dX2_distances_164 : decode cX2_distances 164 = .ok (.invokestatic 123, 3) := by decide +kernel
theorem dX2_distances_167 : decode cX2_distances 167 = .ok (.iinc 6 1, 3) := by decide +kernel
theorem dX2_distances_170 : decode cX2_distances 170 = .ok (.goto (-40), 3) := by decide +kernel
theorem dX2_distances_173 : decode cX2_distances 173 = .ok (.iinc 5 1, 3) := by decide +kernel
theorem dX2_distances_176 : decode cX2_distances 176 = .ok (.goto (-59), 3) := by decide +kernel
theorem dX2_distances_179 : decode cX2_distances 179 = .ok (.iload_n 3, 1) := by decide +kernel
theorem dX2_distances_180 : decode cX2_distances 180 = .ok (.ireturn, 1) := by decide +kernel
theorem dX2_pack_0 : decode cX2_pack 0 = .ok (.aload_n 0, 1) := by decide +kernel
theorem dX2_pack_1 : decode cX2_pack 1 = .ok (.iload_n 1, 1) := by decide +kernel
theorem dX2_pack_2 : decode cX2_pack 2 = .ok (.invokevirtual 41, 3) := by decide +kernel
theorem dX2_pack_5 : decode cX2_pack 5 = .ok (.ifCond .eq 6, 3) := by decide +kernel
theorem dX2_pack_8 : decode cX2_pack 8 = .ok (.ldc 45, 2) := by decide +kernel
theorem dX2_pack_10 : decode cX2_pack 10 = .ok (.ireturn, 1) := by decide +kernel
theorem dX2_pack_11 : decode cX2_pack 11 = .ok (.aload_n 0, 1) := by decide +kernel
theorem dX2_pack_12 : decode cX2_pack 12 = .ok (.getfield 11, 3) := by decide +kernel
theorem dX2_pack_15 : decode cX2_pack 15 = .ok (.iload_n 1, 1) := by decide +kernel
theorem dX2_pack_16 : decode cX2_pack 16 = .ok (.aaload, 1) := by decide +kernel
theorem dX2_pack_17 : decode cX2_pack 17 = .ok (.astore_n 2, 1) := by decide +kernel
theorem dX2_pack_18 : decode cX2_pack 18 = .ok (.aload_n 2, 1) := by decide +kernel
theorem dX2_pack_19 : decode cX2_pack 19 = .ok (.getfield 55, 3) := by decide +kernel
theorem dX2_pack_22 : decode cX2_pack 22 = .ok (.ifCond .eq 6, 3) := by decide +kernel
theorem dX2_pack_25 : decode cX2_pack 25 = .ok (.ldc 103, 2) := by decide +kernel
theorem dX2_pack_27 : decode cX2_pack 27 = .ok (.ireturn, 1) := by decide +kernel
theorem dX2_pack_28 : decode cX2_pack 28 = .ok (.aload_n 2, 1) := by decide +kernel
theorem dX2_pack_29 : decode cX2_pack 29 = .ok (.invokevirtual 127, 3) := by decide +kernel
theorem dX2_pack_32 : decode cX2_pack 32 = .ok (.ifCond .le 9, 3) := by decide +kernel
theorem dX2_pack_35 : decode cX2_pack 35 = .ok (.aload_n 0, 1) := by decide +kernel
theorem dX2_pack_36 : decode cX2_pack 36 = .ok (.iconst 1, 1) := by decide +kernel
theorem dX2_pack_37 : decode cX2_pack 37 = .ok (.invokevirtual 33, 3) := by decide +kernel
theorem dX2_pack_40 : decode cX2_pack 40 = .ok (.ireturn, 1) := by decide +kernel
theorem dX2_pack_41 : decode cX2_pack 41 = .ok (.aload_n 0, 1) := by decide +kernel
theorem dX2_pack_42 : decode cX2_pack 42 = .ok (.getfield 16, 3) := by decide +kernel
theorem dX2_pack_45 : decode cX2_pack 45 = .ok (.iconst 0, 1) := by decide +kernel
theorem dX2_pack_46 : decode cX2_pack 46 = .ok (.invokestatic 130, 3) := by decide +kernel
theorem dX2_pack_49 : decode cX2_pack 49 = .ok (.iconst 0, 1) := by decide +kernel
theorem dX2_pack_50 : decode cX2_pack 50 = .ok (.istore_n 3, 1) := by decide +kernel
theorem dX2_pack_51 : decode cX2_pack 51 = .ok (.iconst 0, 1) := by decide +kernel
theorem dX2_pack_52 : decode cX2_pack 52 = .ok (.istore 4, 2) := by decide +kernel
theorem dX2_pack_54 : decode cX2_pack 54 = .ok (.iload 4, 2) := by decide +kernel
theorem dX2_pack_56 : decode cX2_pack 56 = .ok (.aload_n 2, 1) := by decide +kernel
theorem dX2_pack_57 : decode cX2_pack 57 = .ok (.getfield 76, 3) := by decide +kernel
theorem dX2_pack_60 : decode cX2_pack 60 = .ok (.if_icmp .ge 37, 3) := by decide +kernel
theorem dX2_pack_63 : decode cX2_pack 63 = .ok (.aload_n 0, 1) := by decide +kernel
theorem dX2_pack_64 : decode cX2_pack 64 = .ok (.aload_n 2, 1) := by decide +kernel
theorem dX2_pack_65 : decode cX2_pack 65 = .ok (.getfield 49, 3) := by decide +kernel
theorem dX2_pack_68 : decode cX2_pack 68 = .ok (.iload 4, 2) := by decide +kernel
theorem dX2_pack_70 : decode cX2_pack 70 = .ok (.aaload, 1) := by decide +kernel
theorem dX2_pack_71 : decode cX2_pack 71 = .ok (.getfield 116, 3) := by decide +kernel
theorem dX2_pack_74 : decode cX2_pack 74 = .ok (.iload_n 3, 1) := by decide +kernel
theorem dX2_pack_75 : decode cX2_pack 75 = .ok (.invokevirtual 136, 3) := by decide +kernel
theorem dX2_pack_78 : decode cX2_pack 78 = .ok (.iload_n 3, 1) := by decide +kernel
theorem dX2_pack_79 : decode cX2_pack 79 = .ok (.aload_n 2, 1) := by decide +kernel
theorem dX2_pack_80 : decode cX2_pack 80 = .ok (.getfield 49, 3) := by decide +kernel
theorem dX2_pack_83 : decode cX2_pack 83 = .ok (.iload 4, 2) := by decide +kernel
theorem dX2_pack_85 : decode cX2_pack 85 = .ok (.aaload, 1) := by decide +kernel
theorem dX2_pack_86 : decode cX2_pack 86 = .ok (.invokevirtual 82, 3) := by decide +kernel
theorem dX2_pack_89 : decode cX2_pack 89 = .ok (.iadd, 1) := by decide +kernel
theorem dX2_pack_90 : decode cX2_pack 90 = .ok (.istore_n 3, 1) := by decide +kernel
theorem dX2_pack_91 : decode cX2_pack 91 = .ok (.iinc 4 1, 3) := by decide +kernel
theorem dX2_pack_94 : decode cX2_pack 94 = .ok (.goto (-40), 3) := by decide +kernel
theorem dX2_pack_97 : decode cX2_pack 97 = .ok (.aload_n 0, 1) := by decide +kernel
theorem dX2_pack_98 : decode cX2_pack 98 = .ok (.iload_n 3, 1) := by decide +kernel
theorem dX2_pack_99 : decode cX2_pack 99 = .ok (.bipush 32, 2) := by decide +kernel
theorem dX2_pack_101 : decode cX2_pack 101 = .ok (.iadd, 1) := by decide +kernel
theorem dX2_pack_102 : decode cX2_pack 102 = .ok (.iconst 1, 1) := by decide +kernel
theorem dX2_pack_103 : decode cX2_pack 103 = .ok (.isub, 1) := by decide +kernel
theorem dX2_pack_104 : decode cX2_pack 104 = .ok (.bipush 32, 2) := by decide +kernel
theorem dX2_pack_106 : decode cX2_pack 106 = .ok (.idiv, 1) := by decide +kernel
theorem dX2_pack_107 : decode cX2_pack 107 = .ok (.putfield 139, 3) := by decide +kernel
theorem dX2_pack_110 : decode cX2_pack 110 = .ok (.aload_n 0, 1) := by decide +kernel
theorem dX2_pack_111 : decode cX2_pack 111 = .ok (.getfield 139, 3) := by decide +kernel
theorem dX2_pack_114 : decode cX2_pack 114 = .ok (.ireturn, 1) := by decide +kernel
theorem dX2_word_0 : decode cX2_word 0 = .ok (.iload_n 1, 1) := by decide +kernel
theorem dX2_word_1 : decode cX2_word 1 = .ok (.ifCond .lt 20, 3) := by decide +kernel
theorem dX2_word_4 : decode cX2_word 4 = .ok (.iload_n 1, 1) := by decide +kernel
theorem dX2_word_5 : decode cX2_word 5 = .ok (.aload_n 0, 1) := by decide +kernel
theorem dX2_word_6 : decode cX2_word 6 = .ok (.getfield 139, 3) := by decide +kernel
theorem dX2_word_9 : decode cX2_word 9 = .ok (.if_icmp .ge 12, 3) := by decide +kernel
theorem dX2_word_12 : decode cX2_word 12 = .ok (.aload_n 0, 1) := by decide +kernel
theorem dX2_word_13 : decode cX2_word 13 = .ok (.getfield 16, 3) := by decide +kernel
theorem dX2_word_16 : decode cX2_word 16 = .ok (.iload_n 1, 1) := by decide +kernel
theorem dX2_word_17 : decode cX2_word 17 = .ok (.iaload, 1) := by decide +kernel
theorem dX2_word_18 : decode cX2_word 18 = .ok (.goto 5, 3) := by decide +kernel
theorem dX2_word_21 : decode cX2_word 21 = .ok (.ldc 62, 2) := by decide +kernel
theorem dX2_word_23 : decode cX2_word 23 = .ok (.ireturn, 1) := by decide +kernel
theorem dX2_alike_0 : decode cX2_alike 0 = .ok (.aload_n 0, 1) := by decide +kernel
theorem dX2_alike_1 : decode cX2_alike 1 = .ok (.iload_n 1, 1) := by decide +kernel
theorem dX2_alike_2 : decode cX2_alike 2 = .ok (.invokevirtual 41, 3) := by decide +kernel
theorem dX2_alike_5 : decode cX2_alike 5 = .ok (.ifCond .ne 11, 3) := by decide +kernel
theorem dX2_alike_8 : decode cX2_alike 8 = .ok (.aload_n 0, 1) := by decide +kernel
theorem dX2_alike_9 : decode cX2_alike 9 = .ok (.iload_n 2, 1) := by decide +kernel
theorem dX2_alike_10 : decode cX2_alike 10 = .ok (.invokevirtual 41, 3) := by decide +kernel
theorem dX2_alike_13 : decode cX2_alike 13 = .ok (.ifCond .eq 6, 3) := by decide +kernel
theorem dX2_alike_16 : decode cX2_alike 16 = .ok (.ldc 45, 2) := by decide +kernel
theorem dX2_alike_18 : decode cX2_alike 18 = .ok (.ireturn, 1) := by decide +kernel
theorem dX2_alike_19 : decode cX2_alike 19 = .ok (.aload_n 0, 1) := by decide +kernel
theorem dX2_alike_20 : decode cX2_alike 20 = .ok (.getfield 11, 3) := by decide +kernel
theorem dX2_alike_23 : decode cX2_alike 23 = .ok (.iload_n 1, 1) := by decide +kernel
theorem dX2_alike_24 : decode cX2_alike 24 = .ok (.aaload, 1) := by decide +kernel
theorem dX2_alike_25 : decode cX2_alike 25 = .ok (.aload_n 0, 1) := by decide +kernel
theorem dX2_alike_26 : decode cX2_alike 26 = .ok (.getfield 11, 3) := by decide +kernel
theorem dX2_alike_29 : decode cX2_alike 29 = .ok (.iload_n 2, 1) := by decide +kernel
theorem dX2_alike_30 : decode cX2_alike 30 = .ok (.aaload, 1) := by decide +kernel
theorem dX2_alike_31 : decode cX2_alike 31 = .ok (.invokevirtual 142, 3) := by decide +kernel
theorem dX2_alike_34 : decode cX2_alike 34 = .ok (.ifCond .eq 7, 3) := by decide +kernel
theorem dX2_alike_37 : decode cX2_alike 37 = .ok (.iconst 1, 1) := by decide +kernel
theorem dX2_alike_38 : decode cX2_alike 38 = .ok (.goto 4, 3) := by decide +kernel
theorem dX2_alike_41 : decode cX2_alike 41 = .ok (.iconst 0, 1) := by decide +kernel
theorem dX2_alike_42 : decode cX2_alike 42 = .ok (.ireturn, 1) := by decide +kernel
theorem dX2_same_0 : decode cX2_same 0 = .ok (.aload_n 0, 1) := by decide +kernel
theorem dX2_same_1 : decode cX2_same 1 = .ok (.iload_n 1, 1) := by decide +kernel
theorem dX2_same_2 : decode cX2_same 2 = .ok (.invokevirtual 41, 3) := by decide +kernel
theorem dX2_same_5 : decode cX2_same 5 = .ok (.ifCond .ne 11, 3) := by decide +kernel
theorem dX2_same_8 : decode cX2_same 8 = .ok (.aload_n 0, 1) := by decide +kernel
theorem dX2_same_9 : decode cX2_same 9 = .ok (.iload_n 3, 1) := by decide +kernel
theorem dX2_same_10 : decode cX2_same 10 = .ok (.invokevirtual 41, 3) := by decide +kernel
theorem dX2_same_13 : decode cX2_same 13 = .ok (.ifCond .eq 6, 3) := by decide +kernel
theorem dX2_same_16 : decode cX2_same 16 = .ok (.ldc 45, 2) := by decide +kernel
theorem dX2_same_18 : decode cX2_same 18 = .ok (.ireturn, 1) := by decide +kernel
theorem dX2_same_19 : decode cX2_same 19 = .ok (.aload_n 0, 1) := by decide +kernel
theorem dX2_same_20 : decode cX2_same 20 = .ok (.getfield 11, 3) := by decide +kernel
theorem dX2_same_23 : decode cX2_same 23 = .ok (.iload_n 1, 1) := by decide +kernel
theorem dX2_same_24 : decode cX2_same 24 = .ok (.aaload, 1) := by decide +kernel
theorem dX2_same_25 : decode cX2_same 25 = .ok (.astore 5, 2) := by decide +kernel
theorem dX2_same_27 : decode cX2_same 27 = .ok (.aload_n 0, 1) := by decide +kernel
theorem dX2_same_28 : decode cX2_same 28 = .ok (.getfield 11, 3) := by decide +kernel
theorem dX2_same_31 : decode cX2_same 31 = .ok (.iload_n 3, 1) := by decide +kernel
theorem dX2_same_32 : decode cX2_same 32 = .ok (.aaload, 1) := by decide +kernel
theorem dX2_same_33 : decode cX2_same 33 = .ok (.astore 6, 2) := by decide +kernel
theorem dX2_same_35 : decode cX2_same 35 = .ok (.aload 5, 2) := by decide +kernel
theorem dX2_same_37 : decode cX2_same 37 = .ok (.iload_n 2, 1) := by decide +kernel
theorem dX2_same_38 : decode cX2_same 38 = .ok (.invokevirtual 46, 3) := by decide +kernel
theorem dX2_same_41 : decode cX2_same 41 = .ok (.ifCond .eq 13, 3) := by decide +kernel
theorem dX2_same_44 : decode cX2_same 44 = .ok (.aload 6, 2) := by decide +kernel
theorem dX2_same_46 : decode cX2_same 46 = .ok (.iload 4, 2) := by decide +kernel
theorem dX2_same_48 : decode cX2_same 48 = .ok (.invokevirtual 46, 3) := by decide +kernel
theorem dX2_same_51 : decode cX2_same 51 = .ok (.ifCond .ne 9, 3) := by decide +kernel
theorem dX2_same_54 : decode cX2_same 54 = .ok (.aload_n 0, 1) := by decide +kernel
theorem dX2_same_55 : decode cX2_same 55 = .ok (.iconst 2, 1) := by decide +kernel
theorem dX2_same_56 : decode cX2_same 56 = .ok (.invokevirtual 33, 3) := by decide +kernel
theorem dX2_same_59 : decode cX2_same 59 = .ok (.ireturn, 1) := by decide +kernel
theorem dX2_same_60 : decode cX2_same 60 = .ok (.aload 5, 2) := by decide +kernel
theorem dX2_same_62 : decode cX2_same 62 = .ok (.getfield 49, 3) := by decide +kernel
theorem dX2_same_65 : decode cX2_same 65 = .ok (.iload_n 2, 1) := by decide +kernel
theorem dX2_same_66 : decode cX2_same 66 = .ok (.aaload, 1) := by decide +kernel
theorem dX2_same_67 : decode cX2_same 67 = .ok (.ifnull 25, 3) := by decide +kernel
theorem dX2_same_70 : decode cX2_same 70 = .ok (.aload 5, 2) := by decide +kernel
theorem dX2_same_72 : decode cX2_same 72 = .ok (.getfield 49, 3) := by decide +kernel
theorem dX2_same_75 : decode cX2_same 75 = .ok (.iload_n 2, 1) := by decide +kernel
theorem dX2_same_76 : decode cX2_same 76 = .ok (.aaload, 1) := by decide +kernel
theorem dX2_same_77 : decode cX2_same 77 = .ok (.aload 6, 2) := by decide +kernel
theorem dX2_same_79 : decode cX2_same 79 = .ok (.getfield 49, 3) := by decide +kernel
theorem dX2_same_82 : decode cX2_same 82 = .ok (.iload 4, 2) := by decide +kernel
theorem dX2_same_84 : decode cX2_same 84 = .ok (.aaload, 1) := by decide +kernel
theorem dX2_same_85 : decode cX2_same 85 = .ok (.if_acmp .ne 7, 3) := by decide +kernel
theorem dX2_same_88 : decode cX2_same 88 = .ok (.iconst 1, 1) := by decide +kernel
theorem dX2_same_89 : decode cX2_same 89 = .ok (.goto 4, 3) := by decide +kernel
theorem dX2_same_92 : decode cX2_same 92 = .ok (.iconst 0, 1) := by decide +kernel
theorem dX2_same_93 : decode cX2_same 93 = .ok (.ireturn, 1) := by decide +kernel
theorem dX2_total_0 : decode cX2_total 0 = .ok (.aload_n 0, 1) := by decide +kernel
theorem dX2_total_1 : decode cX2_total 1 = .ok (.iload_n 1, 1) := by decide +kernel
theorem dX2_total_2 : decode cX2_total 2 = .ok (.invokevirtual 41, 3) := by decide +kernel
theorem dX2_total_5 : decode cX2_total 5 = .ok (.ifCond .eq 6, 3) := by decide +kernel
theorem dX2_total_8 : decode cX2_total 8 = .ok (.ldc 45, 2) := by decide +kernel
theorem dX2_total_10 : decode cX2_total 10 = .ok (.ireturn, 1) := by decide +kernel
theorem dX2_total_11 : decode cX2_total 11 = .ok (.aload_n 0, 1) := by decide +kernel
theorem dX2_total_12 : decode cX2_total 12 = .ok (.iconst 0, 1) := by decide +kernel
theorem dX2_total_13 : decode cX2_total 13 = .ok (.putfield 146, 3) := by decide +kernel
theorem dX2_total_16 : decode cX2_total 16 = .ok (.aload_n 0, 1) := by decide +kernel
theorem dX2_total_17 : decode cX2_total 17 = .ok (.iconst 0, 1) := by decide +kernel
theorem dX2_total_18 : decode cX2_total 18 = .ok (.putfield 149, 3) := by decide +kernel
theorem dX2_total_21 : decode cX2_total 21 = .ok (.aload_n 0, 1) := by decide +kernel
theorem dX2_total_22 : decode cX2_total 22 = .ok (.iload_n 1, 1) := by decide +kernel
theorem dX2_total_23 : decode cX2_total 23 = .ok (.iconst 0, 1) := by decide +kernel
theorem dX2_total_24 : decode cX2_total 24 = .ok (.invokevirtual 152, 3) := by decide +kernel
theorem dX2_total_27 : decode cX2_total 27 = .ok (.istore_n 2, 1) := by decide +kernel
theorem dX2_total_28 : decode cX2_total 28 = .ok (.aload_n 0, 1) := by decide +kernel
theorem dX2_total_29 : decode cX2_total 29 = .ok (.getfield 149, 3) := by decide +kernel
theorem dX2_total_32 : decode cX2_total 32 = .ok (.ifCond .eq 14, 3) := by decide +kernel
theorem dX2_total_35 : decode cX2_total 35 = .ok (.aload_n 0, 1) := by decide +kernel
theorem dX2_total_36 : decode cX2_total 36 = .ok (.aload_n 0, 1) := by decide +kernel
theorem dX2_total_37 : decode cX2_total 37 = .ok (.getfield 149, 3) := by decide +kernel
theorem dX2_total_40 : decode cX2_total 40 = .ok (.invokevirtual 33, 3) := by decide +kernel
theorem dX2_total_43 : decode cX2_total 43 = .ok (.goto 4, 3) := by decide +kernel
end
section
theorem dX2_total_46 : decode cX2_total 46 = .ok (.iload_n 2, 1) := by decide +kernel
theorem dX2_total_47 : decode cX2_total 47 = .ok (.ireturn, 1) := by decide +kernel
theorem dX2_entered_0 : decode cX2_entered 0 = .ok (.aload_n 0, 1) := by decide +kernel
theorem dX2_entered_1 : decode cX2_entered 1 = .ok (.getfield 146, 3) := by decide +kernel
theorem dX2_entered_4 : decode cX2_entered 4 = .ok (.ireturn, 1) := by decide +kernel
theorem dX2_deep_0 : decode cX2_deep 0 = .ok (.aload_n 0, 1) := by decide +kernel
theorem dX2_deep_1 : decode cX2_deep 1 = .ok (.iload_n 1, 1) := by decide +kernel
theorem dX2_deep_2 : decode cX2_deep 2 = .ok (.invokevirtual 41, 3) := by decide +kernel
theorem dX2_deep_5 : decode cX2_deep 5 = .ok (.ifCond .eq 6, 3) := by decide +kernel
theorem dX2_deep_8 : decode cX2_deep 8 = .ok (.ldc 45, 2) := by decide +kernel
theorem dX2_deep_10 : decode cX2_deep 10 = .ok (.ireturn, 1) := by decide +kernel
theorem dX2_deep_11 : decode cX2_deep 11 = .ok (.aload_n 0, 1) := by decide +kernel
theorem dX2_deep_12 : decode cX2_deep 12 = .ok (.getfield 24, 3) := by decide +kernel
theorem dX2_deep_15 : decode cX2_deep 15 = .ok (.bipush (-2), 2) := by decide +kernel
theorem dX2_deep_17 : decode cX2_deep 17 = .ok (.invokestatic 130, 3) := by decide +kernel
theorem dX2_deep_20 : decode cX2_deep 20 = .ok (.aload_n 0, 1) := by decide +kernel
theorem dX2_deep_21 : decode cX2_deep 21 = .ok (.iload_n 1, 1) := by decide +kernel
theorem dX2_deep_22 : decode cX2_deep 22 = .ok (.iconst 0, 1) := by decide +kernel
theorem dX2_deep_23 : decode cX2_deep 23 = .ok (.invokevirtual 155, 3) := by decide +kernel
theorem dX2_deep_26 : decode cX2_deep 26 = .ok (.istore_n 2, 1) := by decide +kernel
theorem dX2_deep_27 : decode cX2_deep 27 = .ok (.iload_n 2, 1) := by decide +kernel
theorem dX2_deep_28 : decode cX2_deep 28 = .ok (.iconst (-1), 1) := by decide +kernel
theorem dX2_deep_29 : decode cX2_deep 29 = .ok (.if_icmp .ne 11, 3) := by decide +kernel
theorem dX2_deep_32 : decode cX2_deep 32 = .ok (.aload_n 0, 1) := by decide +kernel
theorem dX2_deep_33 : decode cX2_deep 33 = .ok (.iconst 5, 1) := by decide +kernel
theorem dX2_deep_34 : decode cX2_deep 34 = .ok (.invokevirtual 33, 3) := by decide +kernel
theorem dX2_deep_37 : decode cX2_deep 37 = .ok (.goto 4, 3) := by decide +kernel
theorem dX2_deep_40 : decode cX2_deep 40 = .ok (.iload_n 2, 1) := by decide +kernel
theorem dX2_deep_41 : decode cX2_deep 41 = .ok (.ireturn, 1) := by decide +kernel
theorem dX2_count_0 : decode cX2_count 0 = .ok (.iload_n 1, 1) := by decide +kernel
theorem dX2_count_1 : decode cX2_count 1 = .ok (.tableswitch 51 0 3 #[31, 36, 41, 46], 31) := by decide +kernel
theorem dX2_count_32 : decode cX2_count 32 = .ok (.aload_n 0, 1) := by decide +kernel
theorem dX2_count_33 : decode cX2_count 33 = .ok (.getfield 158, 3) := by decide +kernel
theorem dX2_count_36 : decode cX2_count 36 = .ok (.ireturn, 1) := by decide +kernel
theorem dX2_count_37 : decode cX2_count 37 = .ok (.aload_n 0, 1) := by decide +kernel
theorem dX2_count_38 : decode cX2_count 38 = .ok (.invokevirtual 161, 3) := by decide +kernel
theorem dX2_count_41 : decode cX2_count 41 = .ok (.ireturn, 1) := by decide +kernel
theorem dX2_count_42 : decode cX2_count 42 = .ok (.aload_n 0, 1) := by decide +kernel
theorem dX2_count_43 : decode cX2_count 43 = .ok (.invokevirtual 164, 3) := by decide +kernel
theorem dX2_count_46 : decode cX2_count 46 = .ok (.ireturn, 1) := by decide +kernel
theorem dX2_count_47 : decode cX2_count 47 = .ok (.aload_n 0, 1) := by decide +kernel
theorem dX2_count_48 : decode cX2_count 48 = .ok (.getfield 167, 3) := by decide +kernel
theorem dX2_count_51 : decode cX2_count 51 = .ok (.ireturn, 1) := by decide +kernel
theorem dX2_count_52 : decode cX2_count 52 = .ok (.ldc 27, 2) := by decide +kernel
theorem dX2_count_54 : decode cX2_count 54 = .ok (.ireturn, 1) := by decide +kernel
theorem dX2_clear_0 : decode cX2_clear 0 = .ok (.aload_n 0, 1) := by decide +kernel
theorem dX2_clear_1 : decode cX2_clear 1 = .ok (.getfield 158, 3) := by decide +kernel
theorem dX2_clear_4 : decode cX2_clear 4 = .ok (.istore_n 1, 1) := by decide +kernel
theorem dX2_clear_5 : decode cX2_clear 5 = .ok (.aload_n 0, 1) := by decide +kernel
theorem dX2_clear_6 : decode cX2_clear 6 = .ok (.iconst 0, 1) := by decide +kernel
theorem dX2_clear_7 : decode cX2_clear 7 = .ok (.putfield 158, 3) := by decide +kernel
theorem dX2_clear_10 : decode cX2_clear 10 = .ok (.aload_n 0, 1) := by decide +kernel
theorem dX2_clear_11 : decode cX2_clear 11 = .ok (.iconst 0, 1) := by decide +kernel
theorem dX2_clear_12 : decode cX2_clear 12 = .ok (.putfield 167, 3) := by decide +kernel
theorem dX2_clear_15 : decode cX2_clear 15 = .ok (.aload_n 0, 1) := by decide +kernel
theorem dX2_clear_16 : decode cX2_clear 16 = .ok (.iconst 0, 1) := by decide +kernel
theorem dX2_clear_17 : decode cX2_clear 17 = .ok (.putfield 139, 3) := by decide +kernel
theorem dX2_clear_20 : decode cX2_clear 20 = .ok (.aload_n 0, 1) := by decide +kernel
theorem dX2_clear_21 : decode cX2_clear 21 = .ok (.iconst 0, 1) := by decide +kernel
theorem dX2_clear_22 : decode cX2_clear 22 = .ok (.putfield 146, 3) := by decide +kernel
theorem dX2_clear_25 : decode cX2_clear 25 = .ok (.iload_n 1, 1) := by decide +kernel
theorem dX2_clear_26 : decode cX2_clear 26 = .ok (.ireturn, 1) := by decide +kernel
theorem dX2_isUnknown_0 : decode cX2_isUnknown 0 = .ok (.iload_n 1, 1) := by decide +kernel
theorem dX2_isUnknown_1 : decode cX2_isUnknown 1 = .ok (.ifCond .lt 11, 3) := by decide +kernel
theorem dX2_isUnknown_4 : decode cX2_isUnknown 4 = .ok (.iload_n 1, 1) := by decide +kernel
theorem dX2_isUnknown_5 : decode cX2_isUnknown 5 = .ok (.aload_n 0, 1) := by decide +kernel
theorem dX2_isUnknown_6 : decode cX2_isUnknown 6 = .ok (.getfield 158, 3) := by decide +kernel
theorem dX2_isUnknown_9 : decode cX2_isUnknown 9 = .ok (.if_icmp .lt 7, 3) := by decide +kernel
theorem dX2_isUnknown_12 : decode cX2_isUnknown 12 = .ok (.iconst 1, 1) := by decide +kernel
theorem dX2_isUnknown_13 : decode cX2_isUnknown 13 = .ok (.goto 4, 3) := by decide +kernel
theorem dX2_isUnknown_16 : decode cX2_isUnknown 16 = .ok (.iconst 0, 1) := by decide +kernel
theorem dX2_isUnknown_17 : decode cX2_isUnknown 17 = .ok (.ireturn, 1) := by decide +kernel
theorem dX2_isFull_0 : decode cX2_isFull 0 = .ok (.aload_n 0, 1) := by decide +kernel
theorem dX2_isFull_1 : decode cX2_isFull 1 = .ok (.getfield 158, 3) := by decide +kernel
theorem dX2_isFull_4 : decode cX2_isFull 4 = .ok (.bipush 16, 2) := by decide +kernel
theorem dX2_isFull_6 : decode cX2_isFull 6 = .ok (.if_icmp .lt 7, 3) := by decide +kernel
theorem dX2_isFull_9 : decode cX2_isFull 9 = .ok (.iconst 1, 1) := by decide +kernel
theorem dX2_isFull_10 : decode cX2_isFull 10 = .ok (.goto 4, 3) := by decide +kernel
theorem dX2_isFull_13 : decode cX2_isFull 13 = .ok (.iconst 0, 1) := by decide +kernel
theorem dX2_isFull_14 : decode cX2_isFull 14 = .ok (.ireturn, 1) := by decide +kernel
theorem dX2_failed_0 : decode cX2_failed 0 = .ok (.aload_n 0, 1) := by decide +kernel
theorem dX2_failed_1 : decode cX2_failed 1 = .ok (.dup, 1) := by decide +kernel
theorem dX2_failed_2 : decode cX2_failed 2 = .ok (.getfield 167, 3) := by decide +kernel
theorem dX2_failed_5 : decode cX2_failed 5 = .ok (.iconst 1, 1) := by decide +kernel
theorem dX2_failed_6 : decode cX2_failed 6 = .ok (.iadd, 1) := by decide +kernel
theorem dX2_failed_7 : decode cX2_failed 7 = .ok (.putfield 167, 3) := by decide +kernel
theorem dX2_failed_10 : decode cX2_failed 10 = .ok (.ldc 170, 2) := by decide +kernel
theorem dX2_failed_12 : decode cX2_failed 12 = .ok (.iload_n 1, 1) := by decide +kernel
theorem dX2_failed_13 : decode cX2_failed 13 = .ok (.isub, 1) := by decide +kernel
theorem dX2_failed_14 : decode cX2_failed 14 = .ok (.ireturn, 1) := by decide +kernel
theorem dX2_begun_0 : decode cX2_begun 0 = .ok (.aload_n 0, 1) := by decide +kernel
theorem dX2_begun_1 : decode cX2_begun 1 = .ok (.getfield 158, 3) := by decide +kernel
theorem dX2_begun_4 : decode cX2_begun 4 = .ok (.istore_n 3, 1) := by decide +kernel
theorem dX2_begun_5 : decode cX2_begun 5 = .ok (.aload_n 0, 1) := by decide +kernel
theorem dX2_begun_6 : decode cX2_begun 6 = .ok (.getfield 11, 3) := by decide +kernel
theorem dX2_begun_9 : decode cX2_begun 9 = .ok (.iload_n 3, 1) := by decide +kernel
theorem dX2_begun_10 : decode cX2_begun 10 = .ok (.aaload, 1) := by decide +kernel
theorem dX2_begun_11 : decode cX2_begun 11 = .ok (.iload_n 1, 1) := by decide +kernel
theorem dX2_begun_12 : decode cX2_begun 12 = .ok (.iload_n 2, 1) := by decide +kernel
theorem dX2_begun_13 : decode cX2_begun 13 = .ok (.invokevirtual 171, 3) := by decide +kernel
theorem dX2_begun_16 : decode cX2_begun 16 = .ok (.aload_n 0, 1) := by decide +kernel
theorem dX2_begun_17 : decode cX2_begun 17 = .ok (.dup, 1) := by decide +kernel
theorem dX2_begun_18 : decode cX2_begun 18 = .ok (.getfield 158, 3) := by decide +kernel
theorem dX2_begun_21 : decode cX2_begun 21 = .ok (.iconst 1, 1) := by decide +kernel
theorem dX2_begun_22 : decode cX2_begun 22 = .ok (.iadd, 1) := by decide +kernel
theorem dX2_begun_23 : decode cX2_begun 23 = .ok (.putfield 158, 3) := by decide +kernel
theorem dX2_begun_26 : decode cX2_begun 26 = .ok (.iload_n 3, 1) := by decide +kernel
theorem dX2_begun_27 : decode cX2_begun 27 = .ok (.ireturn, 1) := by decide +kernel
theorem dX2_begunWithRows_0 : decode cX2_begunWithRows 0 = .ok (.aload_n 0, 1) := by decide +kernel
theorem dX2_begunWithRows_1 : decode cX2_begunWithRows 1 = .ok (.iload_n 1, 1) := by decide +kernel
theorem dX2_begunWithRows_2 : decode cX2_begunWithRows 2 = .ok (.iload_n 2, 1) := by decide +kernel
theorem dX2_begunWithRows_3 : decode cX2_begunWithRows 3 = .ok (.invokevirtual 37, 3) := by decide +kernel
theorem dX2_begunWithRows_6 : decode cX2_begunWithRows 6 = .ok (.istore 4, 2) := by decide +kernel
theorem dX2_begunWithRows_8 : decode cX2_begunWithRows 8 = .ok (.aload_n 0, 1) := by decide +kernel
theorem dX2_begunWithRows_9 : decode cX2_begunWithRows 9 = .ok (.getfield 11, 3) := by decide +kernel
theorem dX2_begunWithRows_12 : decode cX2_begunWithRows 12 = .ok (.iload 4, 2) := by decide +kernel
theorem dX2_begunWithRows_14 : decode cX2_begunWithRows 14 = .ok (.aaload, 1) := by decide +kernel
theorem dX2_begunWithRows_15 : decode cX2_begunWithRows 15 = .ok (.astore 5, 2) := by decide +kernel
theorem dX2_begunWithRows_17 : decode cX2_begunWithRows 17 = .ok (.iconst 0, 1) := by decide +kernel
theorem dX2_begunWithRows_18 : decode cX2_begunWithRows 18 = .ok (.istore 6, 2) := by decide +kernel
theorem dX2_begunWithRows_20 : decode cX2_begunWithRows 20 = .ok (.iload 6, 2) := by decide +kernel
theorem dX2_begunWithRows_22 : decode cX2_begunWithRows 22 = .ok (.aload 5, 2) := by decide +kernel
theorem dX2_begunWithRows_24 : decode cX2_begunWithRows 24 = .ok (.getfield 76, 3) := by decide +kernel
theorem dX2_begunWithRows_27 : decode cX2_begunWithRows 27 = .ok (.if_icmp .ge 26, 3) := by decide +kernel
theorem dX2_begunWithRows_30 : decode cX2_begunWithRows 30 = .ok (.aload 5, 2) := by decide +kernel
theorem dX2_begunWithRows_32 : decode cX2_begunWithRows 32 = .ok (.getfield 49, 3) := by decide +kernel
theorem dX2_begunWithRows_35 : decode cX2_begunWithRows 35 = .ok (.iload 6, 2) := by decide +kernel
theorem dX2_begunWithRows_37 : decode cX2_begunWithRows 37 = .ok (.new 53, 3) := by decide +kernel
theorem dX2_begunWithRows_40 : decode cX2_begunWithRows 40 = .ok (.dup, 1) := by decide +kernel
theorem dX2_begunWithRows_41 : decode cX2_begunWithRows 41 = .ok (.iload_n 1, 1) := by decide +kernel
theorem dX2_begunWithRows_42 : decode cX2_begunWithRows 42 = .ok (.iload_n 3, 1) := by decide +kernel
theorem dX2_begunWithRows_43 : decode cX2_begunWithRows 43 = .ok (.invokespecial 59, 3) := by decide +kernel
theorem dX2_begunWithRows_46 : decode cX2_begunWithRows 46 = .ok (.aastore, 1) := by decide +kernel
theorem dX2_begunWithRows_47 : decode cX2_begunWithRows 47 = .ok (.iinc 6 1, 3) := by decide +kernel
theorem dX2_begunWithRows_50 : decode cX2_begunWithRows 50 = .ok (.goto (-30), 3) := by decide +kernel
theorem dX2_begunWithRows_53 : decode cX2_begunWithRows 53 = .ok (.iload 4, 2) := by decide +kernel
theorem dX2_begunWithRows_55 : decode cX2_begunWithRows 55 = .ok (.ireturn, 1) := by decide +kernel
theorem dX2_canMultiply_0 : decode cX2_canMultiply 0 = .ok (.aload_n 0, 1) := by decide +kernel
theorem dX2_canMultiply_1 : decode cX2_canMultiply 1 = .ok (.getfield 55, 3) := by decide +kernel
theorem dX2_canMultiply_4 : decode cX2_canMultiply 4 = .ok (.iconst 3, 1) := by decide +kernel
theorem dX2_canMultiply_5 : decode cX2_canMultiply 5 = .ok (.if_icmp .eq 43, 3) := by decide +kernel
theorem dX2_canMultiply_8 : decode cX2_canMultiply 8 = .ok (.aload_n 0, 1) := by decide +kernel
theorem dX2_canMultiply_9 : decode cX2_canMultiply 9 = .ok (.getfield 55, 3) := by decide +kernel
theorem dX2_canMultiply_12 : decode cX2_canMultiply 12 = .ok (.aload_n 1, 1) := by decide +kernel
theorem dX2_canMultiply_13 : decode cX2_canMultiply 13 = .ok (.getfield 55, 3) := by decide +kernel
theorem dX2_canMultiply_16 : decode cX2_canMultiply 16 = .ok (.if_icmp .ne 32, 3) := by decide +kernel
theorem dX2_canMultiply_19 : decode cX2_canMultiply 19 = .ok (.aload_n 0, 1) := by decide +kernel
theorem dX2_canMultiply_20 : decode cX2_canMultiply 20 = .ok (.invokevirtual 97, 3) := by decide +kernel
theorem dX2_canMultiply_23 : decode cX2_canMultiply 23 = .ok (.ifCond .eq 25, 3) := by decide +kernel
theorem dX2_canMultiply_26 : decode cX2_canMultiply 26 = .ok (.aload_n 1, 1) := by decide +kernel
theorem dX2_canMultiply_27 : decode cX2_canMultiply 27 = .ok (.invokevirtual 97, 3) := by decide +kernel
theorem dX2_canMultiply_30 : decode cX2_canMultiply 30 = .ok (.ifCond .eq 18, 3) := by decide +kernel
theorem dX2_canMultiply_33 : decode cX2_canMultiply 33 = .ok (.aload_n 0, 1) := by decide +kernel
theorem dX2_canMultiply_34 : decode cX2_canMultiply 34 = .ok (.invokevirtual 100, 3) := by decide +kernel
theorem dX2_canMultiply_37 : decode cX2_canMultiply 37 = .ok (.aload_n 1, 1) := by decide +kernel
theorem dX2_canMultiply_38 : decode cX2_canMultiply 38 = .ok (.getfield 76, 3) := by decide +kernel
theorem dX2_canMultiply_41 : decode cX2_canMultiply 41 = .ok (.if_icmp .ne 7, 3) := by decide +kernel
theorem dX2_canMultiply_44 : decode cX2_canMultiply 44 = .ok (.iconst 1, 1) := by decide +kernel
theorem dX2_canMultiply_45 : decode cX2_canMultiply 45 = .ok (.goto 4, 3) := by decide +kernel
theorem dX2_canMultiply_48 : decode cX2_canMultiply 48 = .ok (.iconst 0, 1) := by decide +kernel
theorem dX2_canMultiply_49 : decode cX2_canMultiply 49 = .ok (.ireturn, 1) := by decide +kernel
theorem dX2_multiply_0 : decode cX2_multiply 0 = .ok (.aload_n 0, 1) := by decide +kernel
theorem dX2_multiply_1 : decode cX2_multiply 1 = .ok (.getfield 174, 3) := by decide +kernel
theorem dX2_multiply_4 : decode cX2_multiply 4 = .ok (.lookupswitch 48 #[(0, 28), (1, 38)], 28) := by decide +kernel
theorem dX2_multiply_32 : decode cX2_multiply 32 = .ok (.aload_n 0, 1) := by decide +kernel
theorem dX2_multiply_33 : decode cX2_multiply 33 = .ok (.iload_n 1, 1) := by decide +kernel
theorem dX2_multiply_34 : decode cX2_multiply 34 = .ok (.aload_n 2, 1) := by decide +kernel
theorem dX2_multiply_35 : decode cX2_multiply 35 = .ok (.aload_n 3, 1) := by decide +kernel
theorem dX2_multiply_36 : decode cX2_multiply 36 = .ok (.invokestatic 175, 3) := by decide +kernel
theorem dX2_multiply_39 : decode cX2_multiply 39 = .ok (.goto 20, 3) := by decide +kernel
theorem dX2_multiply_42 : decode cX2_multiply 42 = .ok (.aload_n 0, 1) := by decide +kernel
theorem dX2_multiply_43 : decode cX2_multiply 43 = .ok (.iload_n 1, 1) := by decide +kernel
theorem dX2_multiply_44 : decode cX2_multiply 44 = .ok (.aload_n 2, 1) := by decide +kernel
theorem dX2_multiply_45 : decode cX2_multiply 45 = .ok (.aload_n 3, 1) := by decide +kernel
theorem dX2_multiply_46 : decode cX2_multiply 46 = .ok (.invokestatic 178, 3) := by decide +kernel
theorem dX2_multiply_49 : decode cX2_multiply 49 = .ok (.goto 10, 3) := by decide +kernel
theorem dX2_multiply_52 : decode cX2_multiply 52 = .ok (.aload_n 0, 1) := by decide +kernel
theorem dX2_multiply_53 : decode cX2_multiply 53 = .ok (.iload_n 1, 1) := by decide +kernel
theorem dX2_multiply_54 : decode cX2_multiply 54 = .ok (.aload_n 2, 1) := by decide +kernel
theorem dX2_multiply_55 : decode cX2_multiply 55 = .ok (.aload_n 3, 1) := by decide +kernel
theorem dX2_multiply_56 : decode cX2_multiply 56 = .ok (.invokestatic 181, 3) := by decide +kernel
theorem dX2_multiply_59 : decode cX2_multiply 59 = .ok (.return_, 1) := by decide +kernel
theorem dX2_multiplyBits_0 : decode cX2_multiplyBits 0 = .ok (.iconst 0, 1) := by decide +kernel
theorem dX2_multiplyBits_1 : decode cX2_multiplyBits 1 = .ok (.istore 4, 2) := by decide +kernel
theorem dX2_multiplyBits_3 : decode cX2_multiplyBits 3 = .ok (.iconst 0, 1) := by decide +kernel
theorem dX2_multiplyBits_4 : decode cX2_multiplyBits 4 = .ok (.istore 5, 2) := by decide +kernel
theorem dX2_multiplyBits_6 : decode cX2_multiplyBits 6 = .ok (.iload 5, 2) := by decide +kernel
theorem dX2_multiplyBits_8 : decode cX2_multiplyBits 8 = .ok (.aload_n 2, 1) := by decide +kernel
theorem dX2_multiplyBits_9 : decode cX2_multiplyBits 9 = .ok (.invokevirtual 82, 3) := by decide +kernel
theorem dX2_multiplyBits_12 : decode cX2_multiplyBits 12 = .ok (.if_icmp .ge 34, 3) := by decide +kernel
theorem dX2_multiplyBits_15 : decode cX2_multiplyBits 15 = .ok (.iload 4, 2) := by decide +kernel
theorem dX2_multiplyBits_17 : decode cX2_multiplyBits 17 = .ok (.aload_n 2, 1) := by decide +kernel
theorem dX2_multiplyBits_18 : decode cX2_multiplyBits 18 = .ok (.getfield 116, 3) := by decide +kernel
theorem dX2_multiplyBits_21 : decode cX2_multiplyBits 21 = .ok (.iload 5, 2) := by decide +kernel
theorem dX2_multiplyBits_23 : decode cX2_multiplyBits 23 = .ok (.iaload, 1) := by decide +kernel
theorem dX2_multiplyBits_24 : decode cX2_multiplyBits 24 = .ok (.aload_n 3, 1) := by decide +kernel
theorem dX2_multiplyBits_25 : decode cX2_multiplyBits 25 = .ok (.getfield 49, 3) := by decide +kernel
theorem dX2_multiplyBits_28 : decode cX2_multiplyBits 28 = .ok (.iload 5, 2) := by decide +kernel
theorem dX2_multiplyBits_30 : decode cX2_multiplyBits 30 = .ok (.aaload, 1) := by decide +kernel
theorem dX2_multiplyBits_31 : decode cX2_multiplyBits 31 = .ok (.getfield 116, 3) := by decide +kernel
theorem dX2_multiplyBits_34 : decode cX2_multiplyBits 34 = .ok (.iload_n 1, 1) := by decide +kernel
theorem dX2_multiplyBits_35 : decode cX2_multiplyBits 35 = .ok (.iaload, 1) := by decide +kernel
theorem dX2_multiplyBits_36 : decode cX2_multiplyBits 36 = .ok (.iand, 1) := by decide +kernel
theorem dX2_multiplyBits_37 : decode cX2_multiplyBits 37 = .ok (.ior, 1) := by decide +kernel
theorem dX2_multiplyBits_38 : decode cX2_multiplyBits 38 = .ok (.istore 4, 2) := by decide +kernel
theorem dX2_multiplyBits_40 : decode cX2_multiplyBits 40 = .ok (.iinc 5 1, 3) := by decide +kernel
theorem dX2_multiplyBits_43 : decode cX2_multiplyBits 43 = .ok (.goto (-37), 3) := by decide +kernel
theorem dX2_multiplyBits_46 : decode cX2_multiplyBits 46 = .ok (.aload_n 0, 1) := by decide +kernel
theorem dX2_multiplyBits_47 : decode cX2_multiplyBits 47 = .ok (.getfield 116, 3) := by decide +kernel
theorem dX2_multiplyBits_50 : decode cX2_multiplyBits 50 = .ok (.iload_n 1, 1) := by decide +kernel
theorem dX2_multiplyBits_51 : decode cX2_multiplyBits 51 = .ok (.iload 4, 2) := by decide +kernel
theorem dX2_multiplyBits_53 : decode cX2_multiplyBits 53 = .ok (.iastore, 1) := by decide +kernel
theorem dX2_multiplyBits_54 : decode cX2_multiplyBits 54 = .ok (.return_, 1) := by decide +kernel
theorem dX2_multiplyNumbers_0 : decode cX2_multiplyNumbers 0 = .ok (.iconst 0, 1) := by decide +kernel
theorem dX2_multiplyNumbers_1 : decode cX2_multiplyNumbers 1 = .ok (.istore 4, 2) := by decide +kernel
theorem dX2_multiplyNumbers_3 : decode cX2_multiplyNumbers 3 = .ok (.iconst 0, 1) := by decide +kernel
theorem dX2_multiplyNumbers_4 : decode cX2_multiplyNumbers 4 = .ok (.istore 5, 2) := by decide +kernel
theorem dX2_multiplyNumbers_6 : decode cX2_multiplyNumbers 6 = .ok (.iload 5, 2) := by decide +kernel
theorem dX2_multiplyNumbers_8 : decode cX2_multiplyNumbers 8 = .ok (.aload_n 2, 1) := by decide +kernel
theorem dX2_multiplyNumbers_9 : decode cX2_multiplyNumbers 9 = .ok (.invokevirtual 82, 3) := by decide +kernel
theorem dX2_multiplyNumbers_12 : decode cX2_multiplyNumbers 12 = .ok (.if_icmp .ge 34, 3) := by decide +kernel
theorem dX2_multiplyNumbers_15 : decode cX2_multiplyNumbers 15 = .ok (.iload 4, 2) := by decide +kernel
theorem dX2_multiplyNumbers_17 : decode cX2_multiplyNumbers 17 = .ok (.aload_n 2, 1) := by decide +kernel
theorem dX2_multiplyNumbers_18 : decode cX2_multiplyNumbers 18 = .ok (.getfield 116, 3) := by decide +kernel
theorem dX2_multiplyNumbers_21 : decode cX2_multiplyNumbers 21 = .ok (.iload 5, 2) := by decide +kernel
theorem dX2_multiplyNumbers_23 : decode cX2_multiplyNumbers 23 = .ok (.iaload, 1) := by decide +kernel
theorem dX2_multiplyNumbers_24 : decode cX2_multiplyNumbers 24 = .ok (.aload_n 3, 1) := by decide +kernel
theorem dX2_multiplyNumbers_25 : decode cX2_multiplyNumbers 25 = .ok (.getfield 49, 3) := by decide +kernel
theorem dX2_multiplyNumbers_28 : decode cX2_multiplyNumbers 28 = .ok (.iload 5, 2) := by decide +kernel
theorem dX2_multiplyNumbers_30 : decode cX2_multiplyNumbers 30 = .ok (.aaload, 1) := by decide +kernel
theorem dX2_multiplyNumbers_31 : decode cX2_multiplyNumbers 31 = .ok (.getfield 116, 3) := by decide +kernel
theorem dX2_multiplyNumbers_34 : decode cX2_multiplyNumbers 34 = .ok (.iload_n 1, 1) := by decide +kernel
theorem dX2_multiplyNumbers_35 : decode cX2_multiplyNumbers 35 = .ok (.iaload, 1) := by decide +kernel
theorem dX2_multiplyNumbers_36 : decode cX2_multiplyNumbers 36 = .ok (.imul, 1) := by decide +kernel
theorem dX2_multiplyNumbers_37 : decode cX2_multiplyNumbers 37 = .ok (.iadd, 1) := by decide +kernel
theorem dX2_multiplyNumbers_38 : decode cX2_multiplyNumbers 38 = .ok (.istore 4, 2) := by decide +kernel
theorem dX2_multiplyNumbers_40 : decode cX2_multiplyNumbers 40 = .ok (.iinc 5 1, 3) := by decide +kernel
theorem dX2_multiplyNumbers_43 : decode cX2_multiplyNumbers 43 = .ok (.goto (-37), 3) := by decide +kernel
theorem dX2_multiplyNumbers_46 : decode cX2_multiplyNumbers 46 = .ok (.aload_n 0, 1) := by decide +kernel
theorem dX2_multiplyNumbers_47 : decode cX2_multiplyNumbers 47 = .ok (.getfield 116, 3) := by decide +kernel
theorem dX2_multiplyNumbers_50 : decode cX2_multiplyNumbers 50 = .ok (.iload_n 1, 1) := by decide +kernel
theorem dX2_multiplyNumbers_51 : decode cX2_multiplyNumbers 51 = .ok (.iload 4, 2) := by decide +kernel
theorem dX2_multiplyNumbers_53 : decode cX2_multiplyNumbers 53 = .ok (.iastore, 1) := by decide +kernel
theorem dX2_multiplyNumbers_54 : decode cX2_multiplyNumbers 54 = .ok (.return_, 1) := by decide +kernel
theorem dX2_multiplyReals_0 : decode cX2_multiplyReals 0 = .ok (.dconst 0, 1) := by decide +kernel
theorem dX2_multiplyReals_1 : decode cX2_multiplyReals 1 = .ok (.dstore 4, 2) := by decide +kernel
theorem dX2_multiplyReals_3 : decode cX2_multiplyReals 3 = .ok (.iconst 0, 1) := by decide +kernel
theorem dX2_multiplyReals_4 : decode cX2_multiplyReals 4 = .ok (.istore 6, 2) := by decide +kernel
theorem dX2_multiplyReals_6 : decode cX2_multiplyReals 6 = .ok (.iload 6, 2) := by decide +kernel
theorem dX2_multiplyReals_8 : decode cX2_multiplyReals 8 = .ok (.aload_n 2, 1) := by decide +kernel
theorem dX2_multiplyReals_9 : decode cX2_multiplyReals 9 = .ok (.invokevirtual 82, 3) := by decide +kernel
theorem dX2_multiplyReals_12 : decode cX2_multiplyReals 12 = .ok (.if_icmp .ge 102, 3) := by decide +kernel
theorem dX2_multiplyReals_15 : decode cX2_multiplyReals 15 = .ok (.aload_n 3, 1) := by decide +kernel
theorem dX2_multiplyReals_16 : decode cX2_multiplyReals 16 = .ok (.getfield 49, 3) := by decide +kernel
theorem dX2_multiplyReals_19 : decode cX2_multiplyReals 19 = .ok (.iload 6, 2) := by decide +kernel
theorem dX2_multiplyReals_21 : decode cX2_multiplyReals 21 = .ok (.aaload, 1) := by decide +kernel
theorem dX2_multiplyReals_22 : decode cX2_multiplyReals 22 = .ok (.astore 7, 2) := by decide +kernel
theorem dX2_multiplyReals_24 : decode cX2_multiplyReals 24 = .ok (.aload_n 2, 1) := by decide +kernel
theorem dX2_multiplyReals_25 : decode cX2_multiplyReals 25 = .ok (.iload 6, 2) := by decide +kernel
theorem dX2_multiplyReals_27 : decode cX2_multiplyReals 27 = .ok (.invokevirtual 184, 3) := by decide +kernel
theorem dX2_multiplyReals_30 : decode cX2_multiplyReals 30 = .ok (.ifCond .ne 32, 3) := by decide +kernel
theorem dX2_multiplyReals_33 : decode cX2_multiplyReals 33 = .ok (.aload 7, 2) := by decide +kernel
theorem dX2_multiplyReals_35 : decode cX2_multiplyReals 35 = .ok (.iload_n 1, 1) := by decide +kernel
theorem dX2_multiplyReals_36 : decode cX2_multiplyReals 36 = .ok (.invokevirtual 184, 3) := by decide +kernel
theorem dX2_multiplyReals_39 : decode cX2_multiplyReals 39 = .ok (.ifCond .ne 23, 3) := by decide +kernel
theorem dX2_multiplyReals_42 : decode cX2_multiplyReals 42 = .ok (.aload_n 2, 1) := by decide +kernel
theorem dX2_multiplyReals_43 : decode cX2_multiplyReals 43 = .ok (.getfield 72, 3) := by decide +kernel
theorem dX2_multiplyReals_46 : decode cX2_multiplyReals 46 = .ok (.iload 6, 2) := by decide +kernel
theorem dX2_multiplyReals_48 : decode cX2_multiplyReals 48 = .ok (.daload, 1) := by decide +kernel
theorem dX2_multiplyReals_49 : decode cX2_multiplyReals 49 = .ok (.aload 7, 2) := by decide +kernel
theorem dX2_multiplyReals_51 : decode cX2_multiplyReals 51 = .ok (.getfield 72, 3) := by decide +kernel
theorem dX2_multiplyReals_54 : decode cX2_multiplyReals 54 = .ok (.iload_n 1, 1) := by decide +kernel
theorem dX2_multiplyReals_55 : decode cX2_multiplyReals 55 = .ok (.daload, 1) := by decide +kernel
theorem dX2_multiplyReals_56 : decode cX2_multiplyReals 56 = .ok (.invokestatic 187, 3) := by decide +kernel
theorem dX2_multiplyReals_59 : decode cX2_multiplyReals 59 = .ok (.ifCond .eq 9, 3) := by decide +kernel
theorem dX2_multiplyReals_62 : decode cX2_multiplyReals 62 = .ok (.aload_n 0, 1) := by decide +kernel
theorem dX2_multiplyReals_63 : decode cX2_multiplyReals 63 = .ok (.iload_n 1, 1) := by decide +kernel
theorem dX2_multiplyReals_64 : decode cX2_multiplyReals 64 = .ok (.invokevirtual 191, 3) := by decide +kernel
theorem dX2_multiplyReals_67 : decode cX2_multiplyReals 67 = .ok (.return_, 1) := by decide +kernel
theorem dX2_multiplyReals_68 : decode cX2_multiplyReals 68 = .ok (.aload_n 2, 1) := by decide +kernel
theorem dX2_multiplyReals_69 : decode cX2_multiplyReals 69 = .ok (.getfield 72, 3) := by decide +kernel
theorem dX2_multiplyReals_72 : decode cX2_multiplyReals 72 = .ok (.iload 6, 2) := by decide +kernel
theorem dX2_multiplyReals_74 : decode cX2_multiplyReals 74 = .ok (.daload, 1) := by decide +kernel
theorem dX2_multiplyReals_75 : decode cX2_multiplyReals 75 = .ok (.aload 7, 2) := by decide +kernel
theorem dX2_multiplyReals_77 : decode cX2_multiplyReals 77 = .ok (.getfield 72, 3) := by decide +kernel
theorem dX2_multiplyReals_80 : decode cX2_multiplyReals 80 = .ok (.iload_n 1, 1) := by decide +kernel
theorem dX2_multiplyReals_81 : decode cX2_multiplyReals 81 = .ok (.daload, 1) := by decide +kernel
theorem dX2_multiplyReals_82 : decode cX2_multiplyReals 82 = .ok (.dmul, 1) := by decide +kernel
theorem dX2_multiplyReals_83 : decode cX2_multiplyReals 83 = .ok (.dstore 8, 2) := by decide +kernel
theorem dX2_multiplyReals_85 : decode cX2_multiplyReals 85 = .ok (.dload 4, 2) := by decide +kernel
theorem dX2_multiplyReals_87 : decode cX2_multiplyReals 87 = .ok (.dload 8, 2) := by decide +kernel
theorem dX2_multiplyReals_89 : decode cX2_multiplyReals 89 = .ok (.invokestatic 195, 3) := by decide +kernel
theorem dX2_multiplyReals_92 : decode cX2_multiplyReals 92 = .ok (.ifCond .eq 9, 3) := by decide +kernel
theorem dX2_multiplyReals_95 : decode cX2_multiplyReals 95 = .ok (.aload_n 0, 1) := by decide +kernel
theorem dX2_multiplyReals_96 : decode cX2_multiplyReals 96 = .ok (.iload_n 1, 1) := by decide +kernel
theorem dX2_multiplyReals_97 : decode cX2_multiplyReals 97 = .ok (.invokevirtual 191, 3) := by decide +kernel
theorem dX2_multiplyReals_100 : decode cX2_multiplyReals 100 = .ok (.return_, 1) := by decide +kernel
theorem dX2_multiplyReals_101 : decode cX2_multiplyReals 101 = .ok (.dload 4, 2) := by decide +kernel
theorem dX2_multiplyReals_103 : decode cX2_multiplyReals 103 = .ok (.dload 8, 2) := by decide +kernel
theorem dX2_multiplyReals_105 : decode cX2_multiplyReals 105 = .ok (.dadd, 1) := by decide +kernel
theorem dX2_multiplyReals_106 : decode cX2_multiplyReals 106 = .ok (.dstore 4, 2) := by decide +kernel
theorem dX2_multiplyReals_108 : decode cX2_multiplyReals 108 = .ok (.iinc 6 1, 3) := by decide +kernel
theorem dX2_multiplyReals_111 : decode cX2_multiplyReals 111 = .ok (.goto (-105), 3) := by decide +kernel
theorem dX2_multiplyReals_114 : decode cX2_multiplyReals 114 = .ok (.aload_n 0, 1) := by decide +kernel
theorem dX2_multiplyReals_115 : decode cX2_multiplyReals 115 = .ok (.getfield 72, 3) := by decide +kernel
theorem dX2_multiplyReals_118 : decode cX2_multiplyReals 118 = .ok (.iload_n 1, 1) := by decide +kernel
theorem dX2_multiplyReals_119 : decode cX2_multiplyReals 119 = .ok (.dload 4, 2) := by decide +kernel
theorem dX2_multiplyReals_121 : decode cX2_multiplyReals 121 = .ok (.dastore, 1) := by decide +kernel
theorem dX2_multiplyReals_122 : decode cX2_multiplyReals 122 = .ok (.return_, 1) := by decide +kernel
theorem dX2_isNoProduct_0 : decode cX2_isNoProduct 0 = .ok (.dload_n 0, 1) := by decide +kernel
theorem dX2_isNoProduct_1 : decode cX2_isNoProduct 1 = .ok (.dconst 0, 1) := by decide +kernel
theorem dX2_isNoProduct_2 : decode cX2_isNoProduct 2 = .ok (.dcmp .l, 1) := by decide +kernel
theorem dX2_isNoProduct_3 : decode cX2_isNoProduct 3 = .ok (.ifCond .ne 10, 3) := by decide +kernel
theorem dX2_isNoProduct_6 : decode cX2_isNoProduct 6 = .ok (.dload_n 2, 1) := by decide +kernel
theorem dX2_isNoProduct_7 : decode cX2_isNoProduct 7 = .ok (.invokestatic 198, 3) := by decide +kernel
theorem dX2_isNoProduct_10 : decode cX2_isNoProduct 10 = .ok (.ifCond .ne 16, 3) := by decide +kernel
theorem dX2_isNoProduct_13 : decode cX2_isNoProduct 13 = .ok (.dload_n 2, 1) := by decide +kernel
theorem dX2_isNoProduct_14 : decode cX2_isNoProduct 14 = .ok (.dconst 0, 1) := by decide +kernel
theorem dX2_isNoProduct_15 : decode cX2_isNoProduct 15 = .ok (.dcmp .l, 1) := by decide +kernel
theorem dX2_isNoProduct_16 : decode cX2_isNoProduct 16 = .ok (.ifCond .ne 14, 3) := by decide +kernel
theorem dX2_isNoProduct_19 : decode cX2_isNoProduct 19 = .ok (.dload_n 0, 1) := by decide +kernel
theorem dX2_isNoProduct_20 : decode cX2_isNoProduct 20 = .ok (.invokestatic 198, 3) := by decide +kernel
theorem dX2_isNoProduct_23 : decode cX2_isNoProduct 23 = .ok (.ifCond .eq 7, 3) := by decide +kernel
theorem dX2_isNoProduct_26 : decode cX2_isNoProduct 26 = .ok (.iconst 1, 1) := by decide +kernel
theorem dX2_isNoProduct_27 : decode cX2_isNoProduct 27 = .ok (.goto 4, 3) := by decide +kernel
theorem dX2_isNoProduct_30 : decode cX2_isNoProduct 30 = .ok (.iconst 0, 1) := by decide +kernel
theorem dX2_isNoProduct_31 : decode cX2_isNoProduct 31 = .ok (.ireturn, 1) := by decide +kernel
theorem dX2_isNoSum_0 : decode cX2_isNoSum 0 = .ok (.dload_n 0, 1) := by decide +kernel
theorem dX2_isNoSum_1 : decode cX2_isNoSum 1 = .ok (.invokestatic 198, 3) := by decide +kernel
theorem dX2_isNoSum_4 : decode cX2_isNoSum 4 = .ok (.ifCond .eq 20, 3) := by decide +kernel
theorem dX2_isNoSum_7 : decode cX2_isNoSum 7 = .ok (.dload_n 2, 1) := by decide +kernel
theorem dX2_isNoSum_8 : decode cX2_isNoSum 8 = .ok (.invokestatic 198, 3) := by decide +kernel
theorem dX2_isNoSum_11 : decode cX2_isNoSum 11 = .ok (.ifCond .eq 13, 3) := by decide +kernel
theorem dX2_isNoSum_14 : decode cX2_isNoSum 14 = .ok (.dload_n 0, 1) := by decide +kernel
theorem dX2_isNoSum_15 : decode cX2_isNoSum 15 = .ok (.dload_n 2, 1) := by decide +kernel
theorem dX2_isNoSum_16 : decode cX2_isNoSum 16 = .ok (.dcmp .l, 1) := by decide +kernel
theorem dX2_isNoSum_17 : decode cX2_isNoSum 17 = .ok (.ifCond .eq 7, 3) := by decide +kernel
theorem dX2_isNoSum_20 : decode cX2_isNoSum 20 = .ok (.iconst 1, 1) := by decide +kernel
theorem dX2_isNoSum_21 : decode cX2_isNoSum 21 = .ok (.goto 4, 3) := by decide +kernel
theorem dX2_isNoSum_24 : decode cX2_isNoSum 24 = .ok (.iconst 0, 1) := by decide +kernel
theorem dX2_isNoSum_25 : decode cX2_isNoSum 25 = .ok (.ireturn, 1) := by decide +kernel
theorem dX2_isEndless_0 : decode cX2_isEndless 0 = .ok (.dload_n 0, 1) := by decide +kernel
theorem dX2_isEndless_1 : decode cX2_isEndless 1 = .ok (.ldc2_w 202, 3) := by decide +kernel
theorem dX2_isEndless_4 : decode cX2_isEndless 4 = .ok (.dcmp .l, 1) := by decide +kernel
theorem dX2_isEndless_5 : decode cX2_isEndless 5 = .ok (.ifCond .gt 11, 3) := by decide +kernel
theorem dX2_isEndless_8 : decode cX2_isEndless 8 = .ok (.dload_n 0, 1) := by decide +kernel
theorem dX2_isEndless_9 : decode cX2_isEndless 9 = .ok (.ldc2_w 204, 3) := by decide +kernel
theorem dX2_isEndless_12 : decode cX2_isEndless 12 = .ok (.dcmp .g, 1) := by decide +kernel
theorem dX2_isEndless_13 : decode cX2_isEndless 13 = .ok (.ifCond .ge 7, 3) := by decide +kernel
theorem dX2_isEndless_16 : decode cX2_isEndless 16 = .ok (.iconst 1, 1) := by decide +kernel
theorem dX2_isEndless_17 : decode cX2_isEndless 17 = .ok (.goto 4, 3) := by decide +kernel
theorem dX2_isEndless_20 : decode cX2_isEndless 20 = .ok (.iconst 0, 1) := by decide +kernel
theorem dX2_isEndless_21 : decode cX2_isEndless 21 = .ok (.ireturn, 1) := by decide +kernel
theorem dX2_writeSteps_0 : decode cX2_writeSteps 0 = .ok (.iconst 0, 1) := by decide +kernel
theorem dX2_writeSteps_1 : decode cX2_writeSteps 1 = .ok (.istore_n 3, 1) := by decide +kernel
theorem dX2_writeSteps_2 : decode cX2_writeSteps 2 = .ok (.iload_n 3, 1) := by decide +kernel
theorem dX2_writeSteps_3 : decode cX2_writeSteps 3 = .ok (.aload_n 0, 1) := by decide +kernel
theorem dX2_writeSteps_4 : decode cX2_writeSteps 4 = .ok (.arraylength, 1) := by decide +kernel
theorem dX2_writeSteps_5 : decode cX2_writeSteps 5 = .ok (.if_icmp .ge 41, 3) := by decide +kernel
theorem dX2_writeSteps_8 : decode cX2_writeSteps 8 = .ok (.iload_n 3, 1) := by decide +kernel
theorem dX2_writeSteps_9 : decode cX2_writeSteps 9 = .ok (.aload_n 1, 1) := by decide +kernel
theorem dX2_writeSteps_10 : decode cX2_writeSteps 10 = .ok (.arraylength, 1) := by decide +kernel
theorem dX2_writeSteps_11 : decode cX2_writeSteps 11 = .ok (.if_icmp .ge 35, 3) := by decide +kernel
theorem dX2_writeSteps_14 : decode cX2_writeSteps 14 = .ok (.iload_n 3, 1) := by decide +kernel
theorem dX2_writeSteps_15 : decode cX2_writeSteps 15 = .ok (.iload_n 2, 1) := by decide +kernel
theorem dX2_writeSteps_16 : decode cX2_writeSteps 16 = .ok (.if_icmp .ne 10, 3) := by decide +kernel
theorem dX2_writeSteps_19 : decode cX2_writeSteps 19 = .ok (.aload_n 0, 1) := by decide +kernel
theorem dX2_writeSteps_20 : decode cX2_writeSteps 20 = .ok (.iload_n 3, 1) := by decide +kernel
theorem dX2_writeSteps_21 : decode cX2_writeSteps 21 = .ok (.iconst 0, 1) := by decide +kernel
theorem dX2_writeSteps_22 : decode cX2_writeSteps 22 = .ok (.iastore, 1) := by decide +kernel
theorem dX2_writeSteps_23 : decode cX2_writeSteps 23 = .ok (.goto 17, 3) := by decide +kernel
theorem dX2_writeSteps_26 : decode cX2_writeSteps 26 = .ok (.aload_n 0, 1) := by decide +kernel
theorem dX2_writeSteps_27 : decode cX2_writeSteps 27 = .ok (.iload_n 3, 1) := by decide +kernel
theorem dX2_writeSteps_28 : decode cX2_writeSteps 28 = .ok (.aload_n 1, 1) := by decide +kernel
theorem dX2_writeSteps_29 : decode cX2_writeSteps 29 = .ok (.iload_n 3, 1) := by decide +kernel
theorem dX2_writeSteps_30 : decode cX2_writeSteps 30 = .ok (.iaload, 1) := by decide +kernel
theorem dX2_writeSteps_31 : decode cX2_writeSteps 31 = .ok (.ifCond .eq 7, 3) := by decide +kernel
theorem dX2_writeSteps_34 : decode cX2_writeSteps 34 = .ok (.iconst 1, 1) := by decide +kernel
theorem dX2_writeSteps_35 : decode cX2_writeSteps 35 = .ok (.goto 4, 3) := by decide +kernel
theorem dX2_writeSteps_38 : decode cX2_writeSteps 38 = .ok (.iconst (-1), 1) := by decide +kernel
theorem dX2_writeSteps_39 : decode cX2_writeSteps 39 = .ok (.iastore, 1) := by decide +kernel
theorem dX2_writeSteps_40 : decode cX2_writeSteps 40 = .ok (.iinc 3 1, 3) := by decide +kernel
theorem dX2_writeSteps_43 : decode cX2_writeSteps 43 = .ok (.goto (-41), 3) := by decide +kernel
theorem dX2_writeSteps_46 : decode cX2_writeSteps 46 = .ok (.return_, 1) := by decide +kernel
theorem dX2_shortenThrough_0 : decode cX2_shortenThrough 0 = .ok (.aload_n 1, 1) := by decide +kernel
theorem dX2_shortenThrough_1 : decode cX2_shortenThrough 1 = .ok (.iload_n 0, 1) := by decide +kernel
theorem dX2_shortenThrough_2 : decode cX2_shortenThrough 2 = .ok (.iaload, 1) := by decide +kernel
theorem dX2_shortenThrough_3 : decode cX2_shortenThrough 3 = .ok (.iconst (-1), 1) := by decide +kernel
theorem dX2_shortenThrough_4 : decode cX2_shortenThrough 4 = .ok (.if_icmp .ne 4, 3) := by decide +kernel
theorem dX2_shortenThrough_7 : decode cX2_shortenThrough 7 = .ok (.return_, 1) := by decide +kernel
theorem dX2_shortenThrough_8 : decode cX2_shortenThrough 8 = .ok (.iconst 0, 1) := by decide +kernel
theorem dX2_shortenThrough_9 : decode cX2_shortenThrough 9 = .ok (.istore_n 3, 1) := by decide +kernel
theorem dX2_shortenThrough_10 : decode cX2_shortenThrough 10 = .ok (.iload_n 3, 1) := by decide +kernel
theorem dX2_shortenThrough_11 : decode cX2_shortenThrough 11 = .ok (.aload_n 1, 1) := by decide +kernel
theorem dX2_shortenThrough_12 : decode cX2_shortenThrough 12 = .ok (.arraylength, 1) := by decide +kernel
theorem dX2_shortenThrough_13 : decode cX2_shortenThrough 13 = .ok (.if_icmp .ge 51, 3) := by decide +kernel
theorem dX2_shortenThrough_16 : decode cX2_shortenThrough 16 = .ok (.iload_n 3, 1) := by decide +kernel
theorem dX2_shortenThrough_17 : decode cX2_shortenThrough 17 = .ok (.aload_n 2, 1) := by decide +kernel
theorem dX2_shortenThrough_18 : decode cX2_shortenThrough 18 = .ok (.arraylength, 1) := by decide +kernel
theorem dX2_shortenThrough_19 : decode cX2_shortenThrough 19 = .ok (.if_icmp .ge 45, 3) := by decide +kernel
theorem dX2_shortenThrough_22 : decode cX2_shortenThrough 22 = .ok (.aload_n 2, 1) := by decide +kernel
theorem dX2_shortenThrough_23 : decode cX2_shortenThrough 23 = .ok (.iload_n 3, 1) := by decide +kernel
theorem dX2_shortenThrough_24 : decode cX2_shortenThrough 24 = .ok (.iaload, 1) := by decide +kernel
theorem dX2_shortenThrough_25 : decode cX2_shortenThrough 25 = .ok (.iconst (-1), 1) := by decide +kernel
theorem dX2_shortenThrough_26 : decode cX2_shortenThrough 26 = .ok (.if_icmp .eq 32, 3) := by decide +kernel
theorem dX2_shortenThrough_29 : decode cX2_shortenThrough 29 = .ok (.aload_n 1, 1) := by decide +kernel
theorem dX2_shortenThrough_30 : decode cX2_shortenThrough 30 = .ok (.iload_n 0, 1) := by decide +kernel
theorem dX2_shortenThrough_31 : decode cX2_shortenThrough 31 = .ok (.iaload, 1) := by decide +kernel
theorem dX2_shortenThrough_32 : decode cX2_shortenThrough 32 = .ok (.aload_n 2, 1) := by decide +kernel
theorem dX2_shortenThrough_33 : decode cX2_shortenThrough 33 = .ok (.iload_n 3, 1) := by decide +kernel
theorem dX2_shortenThrough_34 : decode cX2_shortenThrough 34 = .ok (.iaload, 1) := by decide +kernel
theorem dX2_shortenThrough_35 : decode cX2_shortenThrough 35 = .ok (.iadd, 1) := by decide +kernel
theorem dX2_shortenThrough_36 : decode cX2_shortenThrough 36 = .ok (.istore 4, 2) := by decide +kernel
theorem dX2_shortenThrough_38 : decode cX2_shortenThrough 38 = .ok (.aload_n 1, 1) := by decide +kernel
theorem dX2_shortenThrough_39 : decode cX2_shortenThrough 39 = .ok (.iload_n 3, 1) := by decide +kernel
theorem dX2_shortenThrough_40 : decode cX2_shortenThrough 40 = .ok (.iaload, 1) := by decide +kernel
theorem dX2_shortenThrough_41 : decode cX2_shortenThrough 41 = .ok (.iconst (-1), 1) := by decide +kernel
theorem dX2_shortenThrough_42 : decode cX2_shortenThrough 42 = .ok (.if_icmp .eq 11, 3) := by decide +kernel
theorem dX2_shortenThrough_45 : decode cX2_shortenThrough 45 = .ok (.iload 4, 2) := by decide +kernel
theorem dX2_shortenThrough_47 : decode cX2_shortenThrough 47 = .ok (.aload_n 1, 1) := by decide +kernel
theorem dX2_shortenThrough_48 : decode cX2_shortenThrough 48 = .ok (.iload_n 3, 1) := by decide +kernel
theorem dX2_shortenThrough_49 : decode cX2_shortenThrough 49 = .ok (.iaload, 1) := by decide +kernel
theorem dX2_shortenThrough_50 : decode cX2_shortenThrough 50 = .ok (.if_icmp .ge 8, 3) := by decide +kernel
theorem dX2_shortenThrough_53 : decode cX2_shortenThrough 53 = .ok (.aload_n 1, 1) := by decide +kernel
theorem dX2_shortenThrough_54 : decode cX2_shortenThrough 54 = .ok (.iload_n 3, 1) := by decide +kernel
theorem dX2_shortenThrough_55 : decode cX2_shortenThrough 55 = .ok (.iload 4, 2) := by decide +kernel
theorem dX2_shortenThrough_57 : decode cX2_shortenThrough 57 = .ok (.iastore, 1) := by decide +kernel
theorem dX2_shortenThrough_58 : decode cX2_shortenThrough 58 = .ok (.iinc 3 1, 3) := by decide +kernel
theorem dX2_shortenThrough_61 : decode cX2_shortenThrough 61 = .ok (.goto (-51), 3) := by decide +kernel
theorem dX2_shortenThrough_64 : decode cX2_shortenThrough 64 = .ok (.return_, 1) := by decide +kernel
theorem dX2_packRow_0 : decode cX2_packRow 0 = .ok (.iconst 0, 1) := by decide +kernel
theorem dX2_packRow_1 : decode cX2_packRow 1 = .ok (.istore_n 3, 1) := by decide +kernel
theorem dX2_packRow_2 : decode cX2_packRow 2 = .ok (.iload_n 3, 1) := by decide +kernel
theorem dX2_packRow_3 : decode cX2_packRow 3 = .ok (.aload_n 1, 1) := by decide +kernel
theorem dX2_packRow_4 : decode cX2_packRow 4 = .ok (.arraylength, 1) := by decide +kernel
theorem dX2_packRow_5 : decode cX2_packRow 5 = .ok (.if_icmp .ge 40, 3) := by decide +kernel
theorem dX2_packRow_8 : decode cX2_packRow 8 = .ok (.iload_n 2, 1) := by decide +kernel
theorem dX2_packRow_9 : decode cX2_packRow 9 = .ok (.iload_n 3, 1) := by decide +kernel
theorem dX2_packRow_10 : decode cX2_packRow 10 = .ok (.iadd, 1) := by decide +kernel
theorem dX2_packRow_11 : decode cX2_packRow 11 = .ok (.istore 4, 2) := by decide +kernel
theorem dX2_packRow_13 : decode cX2_packRow 13 = .ok (.aload_n 1, 1) := by decide +kernel
theorem dX2_packRow_14 : decode cX2_packRow 14 = .ok (.iload_n 3, 1) := by decide +kernel
theorem dX2_packRow_15 : decode cX2_packRow 15 = .ok (.iaload, 1) := by decide +kernel
theorem dX2_packRow_16 : decode cX2_packRow 16 = .ok (.ifCond .eq 23, 3) := by decide +kernel
theorem dX2_packRow_19 : decode cX2_packRow 19 = .ok (.aload_n 0, 1) := by decide +kernel
theorem dX2_packRow_20 : decode cX2_packRow 20 = .ok (.getfield 16, 3) := by decide +kernel
theorem dX2_packRow_23 : decode cX2_packRow 23 = .ok (.iload 4, 2) := by decide +kernel
theorem dX2_packRow_25 : decode cX2_packRow 25 = .ok (.bipush 32, 2) := by decide +kernel
theorem dX2_packRow_27 : decode cX2_packRow 27 = .ok (.idiv, 1) := by decide +kernel
theorem dX2_packRow_28 : decode cX2_packRow 28 = .ok (.dup2, 1) := by decide +kernel
theorem dX2_packRow_29 : decode cX2_packRow 29 = .ok (.iaload, 1) := by decide +kernel
theorem dX2_packRow_30 : decode cX2_packRow 30 = .ok (.iconst 1, 1) := by decide +kernel
theorem dX2_packRow_31 : decode cX2_packRow 31 = .ok (.iload 4, 2) := by decide +kernel
theorem dX2_packRow_33 : decode cX2_packRow 33 = .ok (.bipush 32, 2) := by decide +kernel
theorem dX2_packRow_35 : decode cX2_packRow 35 = .ok (.irem, 1) := by decide +kernel
theorem dX2_packRow_36 : decode cX2_packRow 36 = .ok (.ishl, 1) := by decide +kernel
theorem dX2_packRow_37 : decode cX2_packRow 37 = .ok (.ior, 1) := by decide +kernel
theorem dX2_packRow_38 : decode cX2_packRow 38 = .ok (.iastore, 1) := by decide +kernel
theorem dX2_packRow_39 : decode cX2_packRow 39 = .ok (.iinc 3 1, 3) := by decide +kernel
theorem dX2_packRow_42 : decode cX2_packRow 42 = .ok (.goto (-40), 3) := by decide +kernel
theorem dX2_packRow_45 : decode cX2_packRow 45 = .ok (.return_, 1) := by decide +kernel
theorem dX2_totalOfTable_0 : decode cX2_totalOfTable 0 = .ok (.aload_n 0, 1) := by decide +kernel
theorem dX2_totalOfTable_1 : decode cX2_totalOfTable 1 = .ok (.getfield 20, 3) := by decide +kernel
theorem dX2_totalOfTable_4 : decode cX2_totalOfTable 4 = .ok (.iload_n 1, 1) := by decide +kernel
theorem dX2_totalOfTable_5 : decode cX2_totalOfTable 5 = .ok (.baload, 1) := by decide +kernel
theorem dX2_totalOfTable_6 : decode cX2_totalOfTable 6 = .ok (.ifCond .ne 9, 3) := by decide +kernel
theorem dX2_totalOfTable_9 : decode cX2_totalOfTable 9 = .ok (.iload_n 2, 1) := by decide +kernel
theorem dX2_totalOfTable_10 : decode cX2_totalOfTable 10 = .ok (.bipush 16, 2) := by decide +kernel
theorem dX2_totalOfTable_12 : decode cX2_totalOfTable 12 = .ok (.if_icmp .lt 10, 3) := by decide +kernel
theorem dX2_totalOfTable_15 : decode cX2_totalOfTable 15 = .ok (.aload_n 0, 1) := by decide +kernel
theorem dX2_totalOfTable_16 : decode cX2_totalOfTable 16 = .ok (.iconst 5, 1) := by decide +kernel
theorem dX2_totalOfTable_17 : decode cX2_totalOfTable 17 = .ok (.putfield 149, 3) := by decide +kernel
theorem dX2_totalOfTable_20 : decode cX2_totalOfTable 20 = .ok (.iconst 0, 1) := by decide +kernel
theorem dX2_totalOfTable_21 : decode cX2_totalOfTable 21 = .ok (.ireturn, 1) := by decide +kernel
theorem dX2_totalOfTable_22 : decode cX2_totalOfTable 22 = .ok (.aload_n 0, 1) := by decide +kernel
theorem dX2_totalOfTable_23 : decode cX2_totalOfTable 23 = .ok (.getfield 146, 3) := by decide +kernel
theorem dX2_totalOfTable_26 : decode cX2_totalOfTable 26 = .ok (.sipush 1000, 3) := by decide +kernel
theorem dX2_totalOfTable_29 : decode cX2_totalOfTable 29 = .ok (.if_icmp .lt 11, 3) := by decide +kernel
theorem dX2_totalOfTable_32 : decode cX2_totalOfTable 32 = .ok (.aload_n 0, 1) := by decide +kernel
theorem dX2_totalOfTable_33 : decode cX2_totalOfTable 33 = .ok (.bipush 6, 2) := by decide +kernel
theorem dX2_totalOfTable_35 : decode cX2_totalOfTable 35 = .ok (.putfield 149, 3) := by decide +kernel
theorem dX2_totalOfTable_38 : decode cX2_totalOfTable 38 = .ok (.iconst 0, 1) := by decide +kernel
theorem dX2_totalOfTable_39 : decode cX2_totalOfTable 39 = .ok (.ireturn, 1) := by decide +kernel
theorem dX2_totalOfTable_40 : decode cX2_totalOfTable 40 = .ok (.aload_n 0, 1) := by decide +kernel
theorem dX2_totalOfTable_41 : decode cX2_totalOfTable 41 = .ok (.dup, 1) := by decide +kernel
theorem dX2_totalOfTable_42 : decode cX2_totalOfTable 42 = .ok (.getfield 146, 3) := by decide +kernel
theorem dX2_totalOfTable_45 : decode cX2_totalOfTable 45 = .ok (.iconst 1, 1) := by decide +kernel
theorem dX2_totalOfTable_46 : decode cX2_totalOfTable 46 = .ok (.iadd, 1) := by decide +kernel
theorem dX2_totalOfTable_47 : decode cX2_totalOfTable 47 = .ok (.putfield 146, 3) := by decide +kernel
theorem dX2_totalOfTable_50 : decode cX2_totalOfTable 50 = .ok (.aload_n 0, 1) := by decide +kernel
theorem dX2_totalOfTable_51 : decode cX2_totalOfTable 51 = .ok (.getfield 20, 3) := by decide +kernel
theorem dX2_totalOfTable_54 : decode cX2_totalOfTable 54 = .ok (.iload_n 1, 1) := by decide +kernel
theorem dX2_totalOfTable_55 : decode cX2_totalOfTable 55 = .ok (.iconst 1, 1) := by decide +kernel
theorem dX2_totalOfTable_56 : decode cX2_totalOfTable 56 = .ok (.bastore, 1) := by decide +kernel
theorem dX2_totalOfTable_57 : decode cX2_totalOfTable 57 = .ok (.aload_n 0, 1) := by decide +kernel
theorem dX2_totalOfTable_58 : decode cX2_totalOfTable 58 = .ok (.getfield 11, 3) := by decide +kernel
theorem dX2_totalOfTable_61 : decode cX2_totalOfTable 61 = .ok (.iload_n 1, 1) := by decide +kernel
theorem dX2_totalOfTable_62 : decode cX2_totalOfTable 62 = .ok (.aaload, 1) := by decide +kernel
theorem dX2_totalOfTable_63 : decode cX2_totalOfTable 63 = .ok (.astore_n 3, 1) := by decide +kernel
theorem dX2_totalOfTable_64 : decode cX2_totalOfTable 64 = .ok (.iconst 0, 1) := by decide +kernel
theorem dX2_totalOfTable_65 : decode cX2_totalOfTable 65 = .ok (.istore 4, 2) := by decide +kernel
theorem dX2_totalOfTable_67 : decode cX2_totalOfTable 67 = .ok (.iconst 0, 1) := by decide +kernel
theorem dX2_totalOfTable_68 : decode cX2_totalOfTable 68 = .ok (.istore 5, 2) := by decide +kernel
theorem dX2_totalOfTable_70 : decode cX2_totalOfTable 70 = .ok (.iload 5, 2) := by decide +kernel
theorem dX2_totalOfTable_72 : decode cX2_totalOfTable 72 = .ok (.aload_n 3, 1) := by decide +kernel
theorem dX2_totalOfTable_73 : decode cX2_totalOfTable 73 = .ok (.getfield 76, 3) := by decide +kernel
theorem dX2_totalOfTable_76 : decode cX2_totalOfTable 76 = .ok (.if_icmp .ge 33, 3) := by decide +kernel
theorem dX2_totalOfTable_79 : decode cX2_totalOfTable 79 = .ok (.aload_n 0, 1) := by decide +kernel
theorem dX2_totalOfTable_80 : decode cX2_totalOfTable 80 = .ok (.getfield 149, 3) := by decide +kernel
theorem dX2_totalOfTable_83 : decode cX2_totalOfTable 83 = .ok (.ifCond .ne 26, 3) := by decide +kernel
theorem dX2_totalOfTable_86 : decode cX2_totalOfTable 86 = .ok (.iload 4, 2) := by decide +kernel
theorem dX2_totalOfTable_88 : decode cX2_totalOfTable 88 = .ok (.aload_n 0, 1) := by decide +kernel
theorem dX2_totalOfTable_89 : decode cX2_totalOfTable 89 = .ok (.aload_n 3, 1) := by decide +kernel
theorem dX2_totalOfTable_90 : decode cX2_totalOfTable 90 = .ok (.getfield 49, 3) := by decide +kernel
theorem dX2_totalOfTable_93 : decode cX2_totalOfTable 93 = .ok (.iload 5, 2) := by decide +kernel
theorem dX2_totalOfTable_95 : decode cX2_totalOfTable 95 = .ok (.aaload, 1) := by decide +kernel
theorem dX2_totalOfTable_96 : decode cX2_totalOfTable 96 = .ok (.iload_n 2, 1) := by decide +kernel
theorem dX2_totalOfTable_97 : decode cX2_totalOfTable 97 = .ok (.invokevirtual 206, 3) := by decide +kernel
theorem dX2_totalOfTable_100 : decode cX2_totalOfTable 100 = .ok (.iadd, 1) := by decide +kernel
theorem dX2_totalOfTable_101 : decode cX2_totalOfTable 101 = .ok (.istore 4, 2) := by decide +kernel
theorem dX2_totalOfTable_103 : decode cX2_totalOfTable 103 = .ok (.iinc 5 1, 3) := by decide +kernel
theorem dX2_totalOfTable_106 : decode cX2_totalOfTable 106 = .ok (.goto (-36), 3) := by decide +kernel
theorem dX2_totalOfTable_109 : decode cX2_totalOfTable 109 = .ok (.aload_n 0, 1) := by decide +kernel
theorem dX2_totalOfTable_110 : decode cX2_totalOfTable 110 = .ok (.getfield 20, 3) := by decide +kernel
theorem dX2_totalOfTable_113 : decode cX2_totalOfTable 113 = .ok (.iload_n 1, 1) := by decide +kernel
theorem dX2_totalOfTable_114 : decode cX2_totalOfTable 114 = .ok (.iconst 0, 1) := by decide +kernel
theorem dX2_totalOfTable_115 : decode cX2_totalOfTable 115 = .ok (.bastore, 1) := by decide +kernel
theorem dX2_totalOfTable_116 : decode cX2_totalOfTable 116 = .ok (.iload 4, 2) := by decide +kernel
theorem dX2_totalOfTable_118 : decode cX2_totalOfTable 118 = .ok (.ireturn, 1) := by decide +kernel
theorem dX2_totalOfRow_0 : decode cX2_totalOfRow 0 = .ok (.aload_n 1, 1) := by decide +kernel
theorem dX2_totalOfRow_1 : decode cX2_totalOfRow 1 = .ok (.ifnonnull 10, 3) := by decide +kernel
theorem dX2_totalOfRow_4 : decode cX2_totalOfRow 4 = .ok (.aload_n 0, 1) := by decide +kernel
theorem dX2_totalOfRow_5 : decode cX2_totalOfRow 5 = .ok (.iconst 1, 1) := by decide +kernel
theorem dX2_totalOfRow_6 : decode cX2_totalOfRow 6 = .ok (.putfield 149, 3) := by decide +kernel
theorem dX2_totalOfRow_9 : decode cX2_totalOfRow 9 = .ok (.iconst 0, 1) := by decide +kernel
theorem dX2_totalOfRow_10 : decode cX2_totalOfRow 10 = .ok (.ireturn, 1) := by decide +kernel
theorem dX2_totalOfRow_11 : decode cX2_totalOfRow 11 = .ok (.aload_n 1, 1) := by decide +kernel
theorem dX2_totalOfRow_12 : decode cX2_totalOfRow 12 = .ok (.getfield 174, 3) := by decide +kernel
theorem dX2_totalOfRow_15 : decode cX2_totalOfRow 15 = .ok (.iconst 3, 1) := by decide +kernel
theorem dX2_totalOfRow_16 : decode cX2_totalOfRow 16 = .ok (.if_icmp .ne 12, 3) := by decide +kernel
theorem dX2_totalOfRow_19 : decode cX2_totalOfRow 19 = .ok (.aload_n 0, 1) := by decide +kernel
theorem dX2_totalOfRow_20 : decode cX2_totalOfRow 20 = .ok (.aload_n 1, 1) := by decide +kernel
theorem dX2_totalOfRow_21 : decode cX2_totalOfRow 21 = .ok (.iload_n 2, 1) := by decide +kernel
theorem dX2_totalOfRow_22 : decode cX2_totalOfRow 22 = .ok (.invokevirtual 210, 3) := by decide +kernel
theorem dX2_totalOfRow_25 : decode cX2_totalOfRow 25 = .ok (.goto 7, 3) := by decide +kernel
theorem dX2_totalOfRow_28 : decode cX2_totalOfRow 28 = .ok (.aload_n 1, 1) := by decide +kernel
theorem dX2_totalOfRow_29 : decode cX2_totalOfRow 29 = .ok (.invokevirtual 213, 3) := by decide +kernel
theorem dX2_totalOfRow_32 : decode cX2_totalOfRow 32 = .ok (.ireturn, 1) := by decide +kernel
theorem dX2_totalOfLinks_0 : decode cX2_totalOfLinks 0 = .ok (.iconst 0, 1) := by decide +kernel
theorem dX2_totalOfLinks_1 : decode cX2_totalOfLinks 1 = .ok (.istore_n 3, 1) := by decide +kernel
theorem dX2_totalOfLinks_2 : decode cX2_totalOfLinks 2 = .ok (.iconst 0, 1) := by decide +kernel
theorem dX2_totalOfLinks_3 : decode cX2_totalOfLinks 3 = .ok (.istore 4, 2) := by decide +kernel
theorem dX2_totalOfLinks_5 : decode cX2_totalOfLinks 5 = .ok (.iload 4, 2) := by decide +kernel
theorem dX2_totalOfLinks_7 : decode cX2_totalOfLinks 7 = .ok (.aload_n 1, 1) := by decide +kernel
theorem dX2_totalOfLinks_8 : decode cX2_totalOfLinks 8 = .ok (.invokevirtual 82, 3) := by decide +kernel
theorem dX2_totalOfLinks_11 : decode cX2_totalOfLinks 11 = .ok (.if_icmp .ge 47, 3) := by decide +kernel
theorem dX2_totalOfLinks_14 : decode cX2_totalOfLinks 14 = .ok (.aload_n 0, 1) := by decide +kernel
theorem dX2_totalOfLinks_15 : decode cX2_totalOfLinks 15 = .ok (.getfield 149, 3) := by decide +kernel
theorem dX2_totalOfLinks_18 : decode cX2_totalOfLinks 18 = .ok (.ifCond .ne 40, 3) := by decide +kernel
theorem dX2_totalOfLinks_21 : decode cX2_totalOfLinks 21 = .ok (.aload_n 0, 1) := by decide +kernel
theorem dX2_totalOfLinks_22 : decode cX2_totalOfLinks 22 = .ok (.aload_n 1, 1) := by decide +kernel
theorem dX2_totalOfLinks_23 : decode cX2_totalOfLinks 23 = .ok (.getfield 116, 3) := by decide +kernel
theorem dX2_totalOfLinks_26 : decode cX2_totalOfLinks 26 = .ok (.iload 4, 2) := by decide +kernel
theorem dX2_totalOfLinks_28 : decode cX2_totalOfLinks 28 = .ok (.iaload, 1) := by decide +kernel
theorem dX2_totalOfLinks_29 : decode cX2_totalOfLinks 29 = .ok (.invokevirtual 41, 3) := by decide +kernel
theorem dX2_totalOfLinks_32 : decode cX2_totalOfLinks 32 = .ok (.ifCond .ne 20, 3) := by decide +kernel
theorem dX2_totalOfLinks_35 : decode cX2_totalOfLinks 35 = .ok (.iload_n 3, 1) := by decide +kernel
theorem dX2_totalOfLinks_36 : decode cX2_totalOfLinks 36 = .ok (.aload_n 0, 1) := by decide +kernel
theorem dX2_totalOfLinks_37 : decode cX2_totalOfLinks 37 = .ok (.aload_n 1, 1) := by decide +kernel
theorem dX2_totalOfLinks_38 : decode cX2_totalOfLinks 38 = .ok (.getfield 116, 3) := by decide +kernel
theorem dX2_totalOfLinks_41 : decode cX2_totalOfLinks 41 = .ok (.iload 4, 2) := by decide +kernel
theorem dX2_totalOfLinks_43 : decode cX2_totalOfLinks 43 = .ok (.iaload, 1) := by decide +kernel
theorem dX2_totalOfLinks_44 : decode cX2_totalOfLinks 44 = .ok (.iload_n 2, 1) := by decide +kernel
theorem dX2_totalOfLinks_45 : decode cX2_totalOfLinks 45 = .ok (.iconst 1, 1) := by decide +kernel
theorem dX2_totalOfLinks_46 : decode cX2_totalOfLinks 46 = .ok (.iadd, 1) := by decide +kernel
theorem dX2_totalOfLinks_47 : decode cX2_totalOfLinks 47 = .ok (.invokevirtual 152, 3) := by decide +kernel
theorem dX2_totalOfLinks_50 : decode cX2_totalOfLinks 50 = .ok (.iadd, 1) := by decide +kernel
theorem dX2_totalOfLinks_51 : decode cX2_totalOfLinks 51 = .ok (.istore_n 3, 1) := by decide +kernel
theorem dX2_totalOfLinks_52 : decode cX2_totalOfLinks 52 = .ok (.iinc 4 1, 3) := by decide +kernel
theorem dX2_totalOfLinks_55 : decode cX2_totalOfLinks 55 = .ok (.goto (-50), 3) := by decide +kernel
theorem dX2_totalOfLinks_58 : decode cX2_totalOfLinks 58 = .ok (.iload_n 3, 1) := by decide +kernel
theorem dX2_totalOfLinks_59 : decode cX2_totalOfLinks 59 = .ok (.ireturn, 1) := by decide +kernel
theorem dX2_depthOfTable_0 : decode cX2_depthOfTable 0 = .ok (.aload_n 0, 1) := by decide +kernel
theorem dX2_depthOfTable_1 : decode cX2_depthOfTable 1 = .ok (.getfield 24, 3) := by decide +kernel
theorem dX2_depthOfTable_4 : decode cX2_depthOfTable 4 = .ok (.iload_n 1, 1) := by decide +kernel
theorem dX2_depthOfTable_5 : decode cX2_depthOfTable 5 = .ok (.iaload, 1) := by decide +kernel
theorem dX2_depthOfTable_6 : decode cX2_depthOfTable 6 = .ok (.bipush (-2), 2) := by decide +kernel
theorem dX2_depthOfTable_8 : decode cX2_depthOfTable 8 = .ok (.if_icmp .eq 10, 3) := by decide +kernel
theorem dX2_depthOfTable_11 : decode cX2_depthOfTable 11 = .ok (.aload_n 0, 1) := by decide +kernel
theorem dX2_depthOfTable_12 : decode cX2_depthOfTable 12 = .ok (.getfield 24, 3) := by decide +kernel
theorem dX2_depthOfTable_15 : decode cX2_depthOfTable 15 = .ok (.iload_n 1, 1) := by decide +kernel
theorem dX2_depthOfTable_16 : decode cX2_depthOfTable 16 = .ok (.iaload, 1) := by decide +kernel
theorem dX2_depthOfTable_17 : decode cX2_depthOfTable 17 = .ok (.ireturn, 1) := by decide +kernel
theorem dX2_depthOfTable_18 : decode cX2_depthOfTable 18 = .ok (.aload_n 0, 1) := by decide +kernel
theorem dX2_depthOfTable_19 : decode cX2_depthOfTable 19 = .ok (.getfield 11, 3) := by decide +kernel
theorem dX2_depthOfTable_22 : decode cX2_depthOfTable 22 = .ok (.iload_n 1, 1) := by decide +kernel
theorem dX2_depthOfTable_23 : decode cX2_depthOfTable 23 = .ok (.aaload, 1) := by decide +kernel
theorem dX2_depthOfTable_24 : decode cX2_depthOfTable 24 = .ok (.astore_n 3, 1) := by decide +kernel
theorem dX2_depthOfTable_25 : decode cX2_depthOfTable 25 = .ok (.aload_n 3, 1) := by decide +kernel
theorem dX2_depthOfTable_26 : decode cX2_depthOfTable 26 = .ok (.getfield 55, 3) := by decide +kernel
theorem dX2_depthOfTable_29 : decode cX2_depthOfTable 29 = .ok (.iconst 3, 1) := by decide +kernel
theorem dX2_depthOfTable_30 : decode cX2_depthOfTable 30 = .ok (.if_icmp .eq 12, 3) := by decide +kernel
theorem dX2_depthOfTable_33 : decode cX2_depthOfTable 33 = .ok (.aload_n 0, 1) := by decide +kernel
theorem dX2_depthOfTable_34 : decode cX2_depthOfTable 34 = .ok (.getfield 24, 3) := by decide +kernel
theorem dX2_depthOfTable_37 : decode cX2_depthOfTable 37 = .ok (.iload_n 1, 1) := by decide +kernel
theorem dX2_depthOfTable_38 : decode cX2_depthOfTable 38 = .ok (.iconst 0, 1) := by decide +kernel
theorem dX2_depthOfTable_39 : decode cX2_depthOfTable 39 = .ok (.iastore, 1) := by decide +kernel
theorem dX2_depthOfTable_40 : decode cX2_depthOfTable 40 = .ok (.iconst 0, 1) := by decide +kernel
theorem dX2_depthOfTable_41 : decode cX2_depthOfTable 41 = .ok (.ireturn, 1) := by decide +kernel
theorem dX2_depthOfTable_42 : decode cX2_depthOfTable 42 = .ok (.aload_n 0, 1) := by decide +kernel
theorem dX2_depthOfTable_43 : decode cX2_depthOfTable 43 = .ok (.getfield 24, 3) := by decide +kernel
theorem dX2_depthOfTable_46 : decode cX2_depthOfTable 46 = .ok (.iload_n 1, 1) := by decide +kernel
theorem dX2_depthOfTable_47 : decode cX2_depthOfTable 47 = .ok (.iconst (-1), 1) := by decide +kernel
theorem dX2_depthOfTable_48 : decode cX2_depthOfTable 48 = .ok (.iastore, 1) := by decide +kernel
theorem dX2_depthOfTable_49 : decode cX2_depthOfTable 49 = .ok (.iconst 0, 1) := by decide +kernel
theorem dX2_depthOfTable_50 : decode cX2_depthOfTable 50 = .ok (.istore 4, 2) := by decide +kernel
theorem dX2_depthOfTable_52 : decode cX2_depthOfTable 52 = .ok (.iconst 0, 1) := by decide +kernel
theorem dX2_depthOfTable_53 : decode cX2_depthOfTable 53 = .ok (.istore 5, 2) := by decide +kernel
theorem dX2_depthOfTable_55 : decode cX2_depthOfTable 55 = .ok (.iload 5, 2) := by decide +kernel
theorem dX2_depthOfTable_57 : decode cX2_depthOfTable 57 = .ok (.aload_n 3, 1) := by decide +kernel
theorem dX2_depthOfTable_58 : decode cX2_depthOfTable 58 = .ok (.getfield 76, 3) := by decide +kernel
theorem dX2_depthOfTable_61 : decode cX2_depthOfTable 61 = .ok (.if_icmp .ge 40, 3) := by decide +kernel
theorem dX2_depthOfTable_64 : decode cX2_depthOfTable 64 = .ok (.aload_n 0, 1) := by decide +kernel
theorem dX2_depthOfTable_65 : decode cX2_depthOfTable 65 = .ok (.aload_n 3, 1) := by decide +kernel
theorem dX2_depthOfTable_66 : decode cX2_depthOfTable 66 = .ok (.getfield 49, 3) := by decide +kernel
theorem dX2_depthOfTable_69 : decode cX2_depthOfTable 69 = .ok (.iload 5, 2) := by decide +kernel
theorem dX2_depthOfTable_71 : decode cX2_depthOfTable 71 = .ok (.aaload, 1) := by decide +kernel
theorem dX2_depthOfTable_72 : decode cX2_depthOfTable 72 = .ok (.iload_n 2, 1) := by decide +kernel
theorem dX2_depthOfTable_73 : decode cX2_depthOfTable 73 = .ok (.invokevirtual 216, 3) := by decide +kernel
theorem dX2_depthOfTable_76 : decode cX2_depthOfTable 76 = .ok (.istore 6, 2) := by decide +kernel
theorem dX2_depthOfTable_78 : decode cX2_depthOfTable 78 = .ok (.iload 6, 2) := by decide +kernel
theorem dX2_depthOfTable_80 : decode cX2_depthOfTable 80 = .ok (.iconst (-1), 1) := by decide +kernel
theorem dX2_depthOfTable_81 : decode cX2_depthOfTable 81 = .ok (.if_icmp .ne 5, 3) := by decide +kernel
theorem dX2_depthOfTable_84 : decode cX2_depthOfTable 84 = .ok (.iconst (-1), 1) := by decide +kernel
theorem dX2_depthOfTable_85 : decode cX2_depthOfTable 85 = .ok (.ireturn, 1) := by decide +kernel
theorem dX2_depthOfTable_86 : decode cX2_depthOfTable 86 = .ok (.iload 4, 2) := by decide +kernel
theorem dX2_depthOfTable_88 : decode cX2_depthOfTable 88 = .ok (.iload 6, 2) := by decide +kernel
theorem dX2_depthOfTable_90 : decode cX2_depthOfTable 90 = .ok (.invokestatic 219, 3) := by decide +kernel
theorem dX2_depthOfTable_93 : decode cX2_depthOfTable 93 = .ok (.istore 4, 2) := by decide +kernel
theorem dX2_depthOfTable_95 : decode cX2_depthOfTable 95 = .ok (.iinc 5 1, 3) := by decide +kernel
theorem dX2_depthOfTable_98 : decode cX2_depthOfTable 98 = .ok (.goto (-43), 3) := by decide +kernel
theorem dX2_depthOfTable_101 : decode cX2_depthOfTable 101 = .ok (.aload_n 0, 1) := by decide +kernel
theorem dX2_depthOfTable_102 : decode cX2_depthOfTable 102 = .ok (.getfield 24, 3) := by decide +kernel
theorem dX2_depthOfTable_105 : decode cX2_depthOfTable 105 = .ok (.iload_n 1, 1) := by decide +kernel
theorem dX2_depthOfTable_106 : decode cX2_depthOfTable 106 = .ok (.iload 4, 2) := by decide +kernel
theorem dX2_depthOfTable_108 : decode cX2_depthOfTable 108 = .ok (.iconst 1, 1) := by decide +kernel
theorem dX2_depthOfTable_109 : decode cX2_depthOfTable 109 = .ok (.iadd, 1) := by decide +kernel
theorem dX2_depthOfTable_110 : decode cX2_depthOfTable 110 = .ok (.iastore, 1) := by decide +kernel
theorem dX2_depthOfTable_111 : decode cX2_depthOfTable 111 = .ok (.iload 4, 2) := by decide +kernel
theorem dX2_depthOfTable_113 : decode cX2_depthOfTable 113 = .ok (.iconst 1, 1) := by decide +kernel
theorem dX2_depthOfTable_114 : decode cX2_depthOfTable 114 = .ok (.iadd, 1) := by decide +kernel
theorem dX2_depthOfTable_115 : decode cX2_depthOfTable 115 = .ok (.ireturn, 1) := by decide +kernel
theorem dX2_deepestLink_0 : decode cX2_deepestLink 0 = .ok (.aload_n 1, 1) := by decide +kernel
theorem dX2_deepestLink_1 : decode cX2_deepestLink 1 = .ok (.ifnonnull 5, 3) := by decide +kernel
theorem dX2_deepestLink_4 : decode cX2_deepestLink 4 = .ok (.iconst 0, 1) := by decide +kernel
theorem dX2_deepestLink_5 : decode cX2_deepestLink 5 = .ok (.ireturn, 1) := by decide +kernel
theorem dX2_deepestLink_6 : decode cX2_deepestLink 6 = .ok (.iload_n 2, 1) := by decide +kernel
theorem dX2_deepestLink_7 : decode cX2_deepestLink 7 = .ok (.bipush 16, 2) := by decide +kernel
theorem dX2_deepestLink_9 : decode cX2_deepestLink 9 = .ok (.if_icmp .lt 5, 3) := by decide +kernel
theorem dX2_deepestLink_12 : decode cX2_deepestLink 12 = .ok (.iconst (-1), 1) := by decide +kernel
theorem dX2_deepestLink_13 : decode cX2_deepestLink 13 = .ok (.ireturn, 1) := by decide +kernel
theorem dX2_deepestLink_14 : decode cX2_deepestLink 14 = .ok (.iconst 0, 1) := by decide +kernel
theorem dX2_deepestLink_15 : decode cX2_deepestLink 15 = .ok (.istore_n 3, 1) := by decide +kernel
theorem dX2_deepestLink_16 : decode cX2_deepestLink 16 = .ok (.iconst 0, 1) := by decide +kernel
theorem dX2_deepestLink_17 : decode cX2_deepestLink 17 = .ok (.istore 4, 2) := by decide +kernel
theorem dX2_deepestLink_19 : decode cX2_deepestLink 19 = .ok (.iload 4, 2) := by decide +kernel
theorem dX2_deepestLink_21 : decode cX2_deepestLink 21 = .ok (.aload_n 1, 1) := by decide +kernel
theorem dX2_deepestLink_22 : decode cX2_deepestLink 22 = .ok (.invokevirtual 82, 3) := by decide +kernel
theorem dX2_deepestLink_25 : decode cX2_deepestLink 25 = .ok (.if_icmp .ge 57, 3) := by decide +kernel
theorem dX2_deepestLink_28 : decode cX2_deepestLink 28 = .ok (.aload_n 1, 1) := by decide +kernel
theorem dX2_deepestLink_29 : decode cX2_deepestLink 29 = .ok (.getfield 116, 3) := by decide +kernel
theorem dX2_deepestLink_32 : decode cX2_deepestLink 32 = .ok (.iload 4, 2) := by decide +kernel
theorem dX2_deepestLink_34 : decode cX2_deepestLink 34 = .ok (.iaload, 1) := by decide +kernel
theorem dX2_deepestLink_35 : decode cX2_deepestLink 35 = .ok (.istore 5, 2) := by decide +kernel
theorem dX2_deepestLink_37 : decode cX2_deepestLink 37 = .ok (.aload_n 0, 1) := by decide +kernel
theorem dX2_deepestLink_38 : decode cX2_deepestLink 38 = .ok (.iload 5, 2) := by decide +kernel
theorem dX2_deepestLink_40 : decode cX2_deepestLink 40 = .ok (.invokevirtual 41, 3) := by decide +kernel
theorem dX2_deepestLink_43 : decode cX2_deepestLink 43 = .ok (.ifCond .eq 7, 3) := by decide +kernel
theorem dX2_deepestLink_46 : decode cX2_deepestLink 46 = .ok (.iconst 0, 1) := by decide +kernel
theorem dX2_deepestLink_47 : decode cX2_deepestLink 47 = .ok (.goto 12, 3) := by decide +kernel
theorem dX2_deepestLink_50 : decode cX2_deepestLink 50 = .ok (.aload_n 0, 1) := by decide +kernel
theorem dX2_deepestLink_51 : decode cX2_deepestLink 51 = .ok (.iload 5, 2) := by decide +kernel
theorem dX2_deepestLink_53 : decode cX2_deepestLink 53 = .ok (.iload_n 2, 1) := by decide +kernel
theorem dX2_deepestLink_54 : decode cX2_deepestLink 54 = .ok (.iconst 1, 1) := by decide +kernel
theorem dX2_deepestLink_55 : decode cX2_deepestLink 55 = .ok (.iadd, 1) := by decide +kernel
theorem dX2_deepestLink_56 : decode cX2_deepestLink 56 = .ok (.invokevirtual 155, 3) := by decide +kernel
theorem dX2_deepestLink_59 : decode cX2_deepestLink 59 = .ok (.istore 6, 2) := by decide +kernel
theorem dX2_deepestLink_61 : decode cX2_deepestLink 61 = .ok (.iload 6, 2) := by decide +kernel
theorem dX2_deepestLink_63 : decode cX2_deepestLink 63 = .ok (.iconst (-1), 1) := by decide +kernel
theorem dX2_deepestLink_64 : decode cX2_deepestLink 64 = .ok (.if_icmp .ne 5, 3) := by decide +kernel
theorem dX2_deepestLink_67 : decode cX2_deepestLink 67 = .ok (.iconst (-1), 1) := by decide +kernel
theorem dX2_deepestLink_68 : decode cX2_deepestLink 68 = .ok (.ireturn, 1) := by decide +kernel
theorem dX2_deepestLink_69 : decode cX2_deepestLink 69 = .ok (.iload_n 3, 1) := by decide +kernel
theorem dX2_deepestLink_70 : decode cX2_deepestLink 70 = .ok (.iload 6, 2) := by decide +kernel
theorem dX2_deepestLink_72 : decode cX2_deepestLink 72 = .ok (.invokestatic 219, 3) := by decide +kernel
theorem dX2_deepestLink_75 : decode cX2_deepestLink 75 = .ok (.istore_n 3, 1) := by decide +kernel
theorem dX2_deepestLink_76 : decode cX2_deepestLink 76 = .ok (.iinc 4 1, 3) := by decide +kernel
theorem dX2_deepestLink_79 : decode cX2_deepestLink 79 = .ok (.goto (-60), 3) := by decide +kernel
theorem dX2_deepestLink_82 : decode cX2_deepestLink 82 = .ok (.iload_n 3, 1) := by decide +kernel
theorem dX2_deepestLink_83 : decode cX2_deepestLink 83 = .ok (.ireturn, 1) := by decide +kernel
theorem dX2_standingRows_0 : decode cX2_standingRows 0 = .ok (.aload_n 0, 1) := by decide +kernel
theorem dX2_standingRows_1 : decode cX2_standingRows 1 = .ok (.dup, 1) := by decide +kernel
theorem dX2_standingRows_2 : decode cX2_standingRows 2 = .ok (.getfield 224, 3) := by decide +kernel
theorem dX2_standingRows_5 : decode cX2_standingRows 5 = .ok (.iconst 1, 1) := by decide +kernel
theorem dX2_standingRows_6 : decode cX2_standingRows 6 = .ok (.iadd, 1) := by decide +kernel
theorem dX2_standingRows_7 : decode cX2_standingRows 7 = .ok (.putfield 224, 3) := by decide +kernel
theorem dX2_standingRows_10 : decode cX2_standingRows 10 = .ok (.iconst 0, 1) := by decide +kernel
theorem dX2_standingRows_11 : decode cX2_standingRows 11 = .ok (.istore_n 1, 1) := by decide +kernel
theorem dX2_standingRows_12 : decode cX2_standingRows 12 = .ok (.iconst 0, 1) := by decide +kernel
theorem dX2_standingRows_13 : decode cX2_standingRows 13 = .ok (.istore_n 2, 1) := by decide +kernel
theorem dX2_standingRows_14 : decode cX2_standingRows 14 = .ok (.iload_n 2, 1) := by decide +kernel
theorem dX2_standingRows_15 : decode cX2_standingRows 15 = .ok (.aload_n 0, 1) := by decide +kernel
theorem dX2_standingRows_16 : decode cX2_standingRows 16 = .ok (.getfield 158, 3) := by decide +kernel
theorem dX2_standingRows_19 : decode cX2_standingRows 19 = .ok (.if_icmp .ge 25, 3) := by decide +kernel
theorem dX2_standingRows_22 : decode cX2_standingRows 22 = .ok (.iload_n 1, 1) := by decide +kernel
theorem dX2_standingRows_23 : decode cX2_standingRows 23 = .ok (.aload_n 0, 1) := by decide +kernel
theorem dX2_standingRows_24 : decode cX2_standingRows 24 = .ok (.getfield 11, 3) := by decide +kernel
theorem dX2_standingRows_27 : decode cX2_standingRows 27 = .ok (.iload_n 2, 1) := by decide +kernel
theorem dX2_standingRows_28 : decode cX2_standingRows 28 = .ok (.aaload, 1) := by decide +kernel
theorem dX2_standingRows_29 : decode cX2_standingRows 29 = .ok (.aload_n 0, 1) := by decide +kernel
theorem dX2_standingRows_30 : decode cX2_standingRows 30 = .ok (.getfield 224, 3) := by decide +kernel
theorem dX2_standingRows_33 : decode cX2_standingRows 33 = .ok (.invokevirtual 227, 3) := by decide +kernel
theorem dX2_standingRows_36 : decode cX2_standingRows 36 = .ok (.iadd, 1) := by decide +kernel
theorem dX2_standingRows_37 : decode cX2_standingRows 37 = .ok (.istore_n 1, 1) := by decide +kernel
theorem dX2_standingRows_38 : decode cX2_standingRows 38 = .ok (.iinc 2 1, 3) := by decide +kernel
theorem dX2_standingRows_41 : decode cX2_standingRows 41 = .ok (.goto (-27), 3) := by decide +kernel
theorem dX2_standingRows_44 : decode cX2_standingRows 44 = .ok (.iload_n 1, 1) := by decide +kernel
theorem dX2_standingRows_45 : decode cX2_standingRows 45 = .ok (.ireturn, 1) := by decide +kernel
theorem dX2_allFallenPlaces_0 : decode cX2_allFallenPlaces 0 = .ok (.iconst 0, 1) := by decide +kernel
theorem dX2_allFallenPlaces_1 : decode cX2_allFallenPlaces 1 = .ok (.istore_n 1, 1) := by decide +kernel
theorem dX2_allFallenPlaces_2 : decode cX2_allFallenPlaces 2 = .ok (.iconst 0, 1) := by decide +kernel
theorem dX2_allFallenPlaces_3 : decode cX2_allFallenPlaces 3 = .ok (.istore_n 2, 1) := by decide +kernel
theorem dX2_allFallenPlaces_4 : decode cX2_allFallenPlaces 4 = .ok (.iload_n 2, 1) := by decide +kernel
theorem dX2_allFallenPlaces_5 : decode cX2_allFallenPlaces 5 = .ok (.aload_n 0, 1) := by decide +kernel
theorem dX2_allFallenPlaces_6 : decode cX2_allFallenPlaces 6 = .ok (.getfield 158, 3) := by decide +kernel
theorem dX2_allFallenPlaces_9 : decode cX2_allFallenPlaces 9 = .ok (.if_icmp .ge 21, 3) := by decide +kernel
theorem dX2_allFallenPlaces_12 : decode cX2_allFallenPlaces 12 = .ok (.iload_n 1, 1) := by decide +kernel
theorem dX2_allFallenPlaces_13 : decode cX2_allFallenPlaces 13 = .ok (.aload_n 0, 1) := by decide +kernel
theorem dX2_allFallenPlaces_14 : decode cX2_allFallenPlaces 14 = .ok (.getfield 11, 3) := by decide +kernel
theorem dX2_allFallenPlaces_17 : decode cX2_allFallenPlaces 17 = .ok (.iload_n 2, 1) := by decide +kernel
theorem dX2_allFallenPlaces_18 : decode cX2_allFallenPlaces 18 = .ok (.aaload, 1) := by decide +kernel
theorem dX2_allFallenPlaces_19 : decode cX2_allFallenPlaces 19 = .ok (.invokevirtual 127, 3) := by decide +kernel
theorem dX2_allFallenPlaces_22 : decode cX2_allFallenPlaces 22 = .ok (.iadd, 1) := by decide +kernel
theorem dX2_allFallenPlaces_23 : decode cX2_allFallenPlaces 23 = .ok (.istore_n 1, 1) := by decide +kernel
theorem dX2_allFallenPlaces_24 : decode cX2_allFallenPlaces 24 = .ok (.iinc 2 1, 3) := by decide +kernel
theorem dX2_allFallenPlaces_27 : decode cX2_allFallenPlaces 27 = .ok (.goto (-23), 3) := by decide +kernel
theorem dX2_allFallenPlaces_30 : decode cX2_allFallenPlaces 30 = .ok (.iload_n 1, 1) := by decide +kernel
theorem dX2_allFallenPlaces_31 : decode cX2_allFallenPlaces 31 = .ok (.ireturn, 1) := by decide +kernel
theorem dX3_init_0 : decode cX3_init 0 = .ok (.aload_n 0, 1) := by decide +kernel
theorem dX3_init_1 : decode cX3_init 1 = .ok (.invokespecial 1, 3) := by decide +kernel
theorem dX3_init_4 : decode cX3_init 4 = .ok (.aload_n 0, 1) := by decide +kernel
theorem dX3_init_5 : decode cX3_init 5 = .ok (.bipush 16, 2) := by decide +kernel
theorem dX3_init_7 : decode cX3_init 7 = .ok (.newarray .int, 2) := by decide +kernel
theorem dX3_init_9 : decode cX3_init 9 = .ok (.putfield 7, 3) := by decide +kernel
theorem dX3_init_12 : decode cX3_init 12 = .ok (.aload_n 0, 1) := by decide +kernel
theorem dX3_init_13 : decode cX3_init 13 = .ok (.bipush 16, 2) := by decide +kernel
theorem dX3_init_15 : decode cX3_init 15 = .ok (.newarray .int, 2) := by decide +kernel
theorem dX3_init_17 : decode cX3_init 17 = .ok (.putfield 13, 3) := by decide +kernel
theorem dX3_init_20 : decode cX3_init 20 = .ok (.aload_n 0, 1) := by decide +kernel
theorem dX3_init_21 : decode cX3_init 21 = .ok (.sipush 192, 3) := by decide +kernel
theorem dX3_init_24 : decode cX3_init 24 = .ok (.newarray .int, 2) := by decide +kernel
theorem dX3_init_26 : decode cX3_init 26 = .ok (.putfield 16, 3) := by decide +kernel
theorem dX3_init_29 : decode cX3_init 29 = .ok (.aload_n 0, 1) := by decide +kernel
theorem dX3_init_30 : decode cX3_init 30 = .ok (.sipush 900, 3) := by decide +kernel
theorem dX3_init_33 : decode cX3_init 33 = .ok (.newarray .int, 2) := by decide +kernel
theorem dX3_init_35 : decode cX3_init 35 = .ok (.putfield 19, 3) := by decide +kernel
theorem dX3_init_38 : decode cX3_init 38 = .ok (.aload_n 0, 1) := by decide +kernel
theorem dX3_init_39 : decode cX3_init 39 = .ok (.sipush 14400, 3) := by decide +kernel
theorem dX3_init_42 : decode cX3_init 42 = .ok (.newarray .int, 2) := by decide +kernel
theorem dX3_init_44 : decode cX3_init 44 = .ok (.putfield 22, 3) := by decide +kernel
theorem dX3_init_47 : decode cX3_init 47 = .ok (.aload_n 0, 1) := by decide +kernel
theorem dX3_init_48 : decode cX3_init 48 = .ok (.sipush 14400, 3) := by decide +kernel
theorem dX3_init_51 : decode cX3_init 51 = .ok (.newarray .double, 2) := by decide +kernel
theorem dX3_init_53 : decode cX3_init 53 = .ok (.putfield 25, 3) := by decide +kernel
theorem dX3_init_56 : decode cX3_init 56 = .ok (.aload_n 0, 1) := by decide +kernel
theorem dX3_init_57 : decode cX3_init 57 = .ok (.sipush 900, 3) := by decide +kernel
theorem dX3_init_60 : decode cX3_init 60 = .ok (.newarray .int, 2) := by decide +kernel
theorem dX3_init_62 : decode cX3_init 62 = .ok (.putfield 29, 3) := by decide +kernel
theorem dX3_init_65 : decode cX3_init 65 = .ok (.aload_n 0, 1) := by decide +kernel
theorem dX3_init_66 : decode cX3_init 66 = .ok (.bipush 8, 2) := by decide +kernel
theorem dX3_init_68 : decode cX3_init 68 = .ok (.newarray .int, 2) := by decide +kernel
theorem dX3_init_70 : decode cX3_init 70 = .ok (.putfield 32, 3) := by decide +kernel
theorem dX3_init_73 : decode cX3_init 73 = .ok (.aload_n 0, 1) := by decide +kernel
theorem dX3_init_74 : decode cX3_init 74 = .ok (.bipush 17, 2) := by decide +kernel
theorem dX3_init_76 : decode cX3_init 76 = .ok (.newarray .int, 2) := by decide +kernel
theorem dX3_init_78 : decode cX3_init 78 = .ok (.putfield 35, 3) := by decide +kernel
theorem dX3_init_81 : decode cX3_init 81 = .ok (.aload_n 0, 1) := by decide +kernel
theorem dX3_init_82 : decode cX3_init 82 = .ok (.bipush 17, 2) := by decide +kernel
theorem dX3_init_84 : decode cX3_init 84 = .ok (.newarray .int, 2) := by decide +kernel
theorem dX3_init_86 : decode cX3_init 86 = .ok (.putfield 38, 3) := by decide +kernel
theorem dX3_init_89 : decode cX3_init 89 = .ok (.aload_n 0, 1) := by decide +kernel
theorem dX3_init_90 : decode cX3_init 90 = .ok (.bipush 16, 2) := by decide +kernel
theorem dX3_init_92 : decode cX3_init 92 = .ok (.newarray .int, 2) := by decide +kernel
theorem dX3_init_94 : decode cX3_init 94 = .ok (.putfield 41, 3) := by decide +kernel
theorem dX3_init_97 : decode cX3_init 97 = .ok (.aload_n 0, 1) := by decide +kernel
theorem dX3_init_98 : decode cX3_init 98 = .ok (.bipush 16, 2) := by decide +kernel
theorem dX3_init_100 : decode cX3_init 100 = .ok (.newarray .int, 2) := by decide +kernel
theorem dX3_init_102 : decode cX3_init 102 = .ok (.putfield 44, 3) := by decide +kernel
theorem dX3_init_105 : decode cX3_init 105 = .ok (.aload_n 0, 1) := by decide +kernel
theorem dX3_init_106 : decode cX3_init 106 = .ok (.bipush 16, 2) := by decide +kernel
theorem dX3_init_108 : decode cX3_init 108 = .ok (.newarray .int, 2) := by decide +kernel
theorem dX3_init_110 : decode cX3_init 110 = .ok (.putfield 47, 3) := by decide +kernel
theorem dX3_init_113 : decode cX3_init 113 = .ok (.return_, 1) := by decide +kernel
theorem dX3_in_0 : decode cX3_in 0 = .ok (.iload_n 0, 1) := by decide +kernel
theorem dX3_in_1 : decode cX3_in 1 = .ok (.iload_n 1, 1) := by decide +kernel
theorem dX3_in_2 : decode cX3_in 2 = .ok (.if_icmp .lt 12, 3) := by decide +kernel
theorem dX3_in_5 : decode cX3_in 5 = .ok (.iload_n 0, 1) := by decide +kernel
theorem dX3_in_6 : decode cX3_in 6 = .ok (.iload_n 2, 1) := by decide +kernel
theorem dX3_in_7 : decode cX3_in 7 = .ok (.if_icmp .gt 7, 3) := by decide +kernel
theorem dX3_in_10 : decode cX3_in 10 = .ok (.iconst 1, 1) := by decide +kernel
theorem dX3_in_11 : decode cX3_in 11 = .ok (.goto 4, 3) := by decide +kernel
theorem dX3_in_14 : decode cX3_in 14 = .ok (.iconst 0, 1) := by decide +kernel
theorem dX3_in_15 : decode cX3_in 15 = .ok (.ireturn, 1) := by decide +kernel
theorem dX3_fails_0 : decode cX3_fails 0 = .ok (.aload_n 0, 1) := by decide +kernel
theorem dX3_fails_1 : decode cX3_fails 1 = .ok (.dup, 1) := by decide +kernel
theorem dX3_fails_2 : decode cX3_fails 2 = .ok (.getfield 50, 3) := by decide +kernel
theorem dX3_fails_5 : decode cX3_fails 5 = .ok (.iconst 1, 1) := by decide +kernel
theorem dX3_fails_6 : decode cX3_fails 6 = .ok (.iadd, 1) := by decide +kernel
theorem dX3_fails_7 : decode cX3_fails 7 = .ok (.putfield 50, 3) := by decide +kernel
theorem dX3_fails_10 : decode cX3_fails 10 = .ok (.ldc 54, 2) := by decide +kernel
theorem dX3_fails_12 : decode cX3_fails 12 = .ok (.iload_n 1, 1) := by decide +kernel
theorem dX3_fails_13 : decode cX3_fails 13 = .ok (.isub, 1) := by decide +kernel
theorem dX3_fails_14 : decode cX3_fails 14 = .ok (.ireturn, 1) := by decide +kernel
theorem dX3_isTable_0 : decode cX3_isTable 0 = .ok (.iload_n 1, 1) := by decide +kernel
theorem dX3_isTable_1 : decode cX3_isTable 1 = .ok (.iconst 0, 1) := by decide +kernel
theorem dX3_isTable_2 : decode cX3_isTable 2 = .ok (.aload_n 0, 1) := by decide +kernel
theorem dX3_isTable_3 : decode cX3_isTable 3 = .ok (.getfield 55, 3) := by decide +kernel
theorem dX3_isTable_6 : decode cX3_isTable 6 = .ok (.iconst 1, 1) := by decide +kernel
theorem dX3_isTable_7 : decode cX3_isTable 7 = .ok (.isub, 1) := by decide +kernel
theorem dX3_isTable_8 : decode cX3_isTable 8 = .ok (.invokestatic 58, 3) := by decide +kernel
theorem dX3_isTable_11 : decode cX3_isTable 11 = .ok (.ireturn, 1) := by decide +kernel
theorem dX3_newTable_0 : decode cX3_newTable 0 = .ok (.aload_n 0, 1) := by decide +kernel
theorem dX3_newTable_1 : decode cX3_newTable 1 = .ok (.getfield 7, 3) := by decide +kernel
theorem dX3_newTable_4 : decode cX3_newTable 4 = .ok (.aload_n 0, 1) := by decide +kernel
theorem dX3_newTable_5 : decode cX3_newTable 5 = .ok (.getfield 55, 3) := by decide +kernel
theorem dX3_newTable_8 : decode cX3_newTable 8 = .ok (.iload_n 1, 1) := by decide +kernel
theorem dX3_newTable_9 : decode cX3_newTable 9 = .ok (.iastore, 1) := by decide +kernel
theorem dX3_newTable_10 : decode cX3_newTable 10 = .ok (.aload_n 0, 1) := by decide +kernel
theorem dX3_newTable_11 : decode cX3_newTable 11 = .ok (.getfield 13, 3) := by decide +kernel
theorem dX3_newTable_14 : decode cX3_newTable 14 = .ok (.aload_n 0, 1) := by decide +kernel
theorem dX3_newTable_15 : decode cX3_newTable 15 = .ok (.getfield 55, 3) := by decide +kernel
theorem dX3_newTable_18 : decode cX3_newTable 18 = .ok (.iload_n 2, 1) := by decide +kernel
theorem dX3_newTable_19 : decode cX3_newTable 19 = .ok (.iastore, 1) := by decide +kernel
theorem dX3_newTable_20 : decode cX3_newTable 20 = .ok (.iconst 0, 1) := by decide +kernel
theorem dX3_newTable_21 : decode cX3_newTable 21 = .ok (.istore_n 3, 1) := by decide +kernel
theorem dX3_newTable_22 : decode cX3_newTable 22 = .ok (.iload_n 3, 1) := by decide +kernel
theorem dX3_newTable_23 : decode cX3_newTable 23 = .ok (.iload_n 2, 1) := by decide +kernel
theorem dX3_newTable_24 : decode cX3_newTable 24 = .ok (.if_icmp .ge 24, 3) := by decide +kernel
theorem dX3_newTable_27 : decode cX3_newTable 27 = .ok (.aload_n 0, 1) := by decide +kernel
theorem dX3_newTable_28 : decode cX3_newTable 28 = .ok (.getfield 16, 3) := by decide +kernel
theorem dX3_newTable_31 : decode cX3_newTable 31 = .ok (.bipush 12, 2) := by decide +kernel
theorem dX3_newTable_33 : decode cX3_newTable 33 = .ok (.aload_n 0, 1) := by decide +kernel
theorem dX3_newTable_34 : decode cX3_newTable 34 = .ok (.getfield 55, 3) := by decide +kernel
theorem dX3_newTable_37 : decode cX3_newTable 37 = .ok (.imul, 1) := by decide +kernel
theorem dX3_newTable_38 : decode cX3_newTable 38 = .ok (.iload_n 3, 1) := by decide +kernel
theorem dX3_newTable_39 : decode cX3_newTable 39 = .ok (.iadd, 1) := by decide +kernel
theorem dX3_newTable_40 : decode cX3_newTable 40 = .ok (.iconst (-1), 1) := by decide +kernel
theorem dX3_newTable_41 : decode cX3_newTable 41 = .ok (.iastore, 1) := by decide +kernel
theorem dX3_newTable_42 : decode cX3_newTable 42 = .ok (.iinc 3 1, 3) := by decide +kernel
theorem dX3_newTable_45 : decode cX3_newTable 45 = .ok (.goto (-23), 3) := by decide +kernel
theorem dX3_newTable_48 : decode cX3_newTable 48 = .ok (.aload_n 0, 1) := by decide +kernel
theorem dX3_newTable_49 : decode cX3_newTable 49 = .ok (.dup, 1) := by decide +kernel
theorem dX3_newTable_50 : decode cX3_newTable 50 = .ok (.getfield 55, 3) := by decide +kernel
theorem dX3_newTable_53 : decode cX3_newTable 53 = .ok (.iconst 1, 1) := by decide +kernel
theorem dX3_newTable_54 : decode cX3_newTable 54 = .ok (.iadd, 1) := by decide +kernel
theorem dX3_newTable_55 : decode cX3_newTable 55 = .ok (.putfield 55, 3) := by decide +kernel
theorem dX3_newTable_58 : decode cX3_newTable 58 = .ok (.aload_n 0, 1) := by decide +kernel
theorem dX3_newTable_59 : decode cX3_newTable 59 = .ok (.getfield 55, 3) := by decide +kernel
theorem dX3_newTable_62 : decode cX3_newTable 62 = .ok (.iconst 1, 1) := by decide +kernel
theorem dX3_newTable_63 : decode cX3_newTable 63 = .ok (.isub, 1) := by decide +kernel
theorem dX3_newTable_64 : decode cX3_newTable 64 = .ok (.ireturn, 1) := by decide +kernel
theorem dX3_newRow_0 : decode cX3_newRow 0 = .ok (.aload_n 0, 1) := by decide +kernel
theorem dX3_newRow_1 : decode cX3_newRow 1 = .ok (.getfield 19, 3) := by decide +kernel
theorem dX3_newRow_4 : decode cX3_newRow 4 = .ok (.aload_n 0, 1) := by decide +kernel
theorem dX3_newRow_5 : decode cX3_newRow 5 = .ok (.getfield 62, 3) := by decide +kernel
theorem dX3_newRow_8 : decode cX3_newRow 8 = .ok (.iload_n 2, 1) := by decide +kernel
theorem dX3_newRow_9 : decode cX3_newRow 9 = .ok (.iastore, 1) := by decide +kernel
theorem dX3_newRow_10 : decode cX3_newRow 10 = .ok (.iconst 0, 1) := by decide +kernel
theorem dX3_newRow_11 : decode cX3_newRow 11 = .ok (.istore_n 3, 1) := by decide +kernel
theorem dX3_newRow_12 : decode cX3_newRow 12 = .ok (.iload_n 3, 1) := by decide +kernel
theorem dX3_newRow_13 : decode cX3_newRow 13 = .ok (.bipush 16, 2) := by decide +kernel
theorem dX3_newRow_15 : decode cX3_newRow 15 = .ok (.if_icmp .ge 49, 3) := by decide +kernel
theorem dX3_newRow_18 : decode cX3_newRow 18 = .ok (.aload_n 0, 1) := by decide +kernel
theorem dX3_newRow_19 : decode cX3_newRow 19 = .ok (.getfield 22, 3) := by decide +kernel
theorem dX3_newRow_22 : decode cX3_newRow 22 = .ok (.bipush 16, 2) := by decide +kernel
theorem dX3_newRow_24 : decode cX3_newRow 24 = .ok (.aload_n 0, 1) := by decide +kernel
theorem dX3_newRow_25 : decode cX3_newRow 25 = .ok (.getfield 62, 3) := by decide +kernel
theorem dX3_newRow_28 : decode cX3_newRow 28 = .ok (.imul, 1) := by decide +kernel
theorem dX3_newRow_29 : decode cX3_newRow 29 = .ok (.iload_n 3, 1) := by decide +kernel
theorem dX3_newRow_30 : decode cX3_newRow 30 = .ok (.iadd, 1) := by decide +kernel
theorem dX3_newRow_31 : decode cX3_newRow 31 = .ok (.iload_n 1, 1) := by decide +kernel
theorem dX3_newRow_32 : decode cX3_newRow 32 = .ok (.iconst 3, 1) := by decide +kernel
theorem dX3_newRow_33 : decode cX3_newRow 33 = .ok (.if_icmp .ne 8, 3) := by decide +kernel
theorem dX3_newRow_36 : decode cX3_newRow 36 = .ok (.ldc 65, 2) := by decide +kernel
theorem dX3_newRow_38 : decode cX3_newRow 38 = .ok (.goto 4, 3) := by decide +kernel
theorem dX3_newRow_41 : decode cX3_newRow 41 = .ok (.iconst 0, 1) := by decide +kernel
theorem dX3_newRow_42 : decode cX3_newRow 42 = .ok (.iastore, 1) := by decide +kernel
theorem dX3_newRow_43 : decode cX3_newRow 43 = .ok (.aload_n 0, 1) := by decide +kernel
theorem dX3_newRow_44 : decode cX3_newRow 44 = .ok (.getfield 25, 3) := by decide +kernel
theorem dX3_newRow_47 : decode cX3_newRow 47 = .ok (.bipush 16, 2) := by decide +kernel
theorem dX3_newRow_49 : decode cX3_newRow 49 = .ok (.aload_n 0, 1) := by decide +kernel
theorem dX3_newRow_50 : decode cX3_newRow 50 = .ok (.getfield 62, 3) := by decide +kernel
theorem dX3_newRow_53 : decode cX3_newRow 53 = .ok (.imul, 1) := by decide +kernel
theorem dX3_newRow_54 : decode cX3_newRow 54 = .ok (.iload_n 3, 1) := by decide +kernel
theorem dX3_newRow_55 : decode cX3_newRow 55 = .ok (.iadd, 1) := by decide +kernel
theorem dX3_newRow_56 : decode cX3_newRow 56 = .ok (.dconst 0, 1) := by decide +kernel
theorem dX3_newRow_57 : decode cX3_newRow 57 = .ok (.dastore, 1) := by decide +kernel
theorem dX3_newRow_58 : decode cX3_newRow 58 = .ok (.iinc 3 1, 3) := by decide +kernel
theorem dX3_newRow_61 : decode cX3_newRow 61 = .ok (.goto (-49), 3) := by decide +kernel
theorem dX3_newRow_64 : decode cX3_newRow 64 = .ok (.aload_n 0, 1) := by decide +kernel
theorem dX3_newRow_65 : decode cX3_newRow 65 = .ok (.dup, 1) := by decide +kernel
theorem dX3_newRow_66 : decode cX3_newRow 66 = .ok (.getfield 62, 3) := by decide +kernel
theorem dX3_newRow_69 : decode cX3_newRow 69 = .ok (.iconst 1, 1) := by decide +kernel
theorem dX3_newRow_70 : decode cX3_newRow 70 = .ok (.iadd, 1) := by decide +kernel
theorem dX3_newRow_71 : decode cX3_newRow 71 = .ok (.putfield 62, 3) := by decide +kernel
theorem dX3_newRow_74 : decode cX3_newRow 74 = .ok (.aload_n 0, 1) := by decide +kernel
theorem dX3_newRow_75 : decode cX3_newRow 75 = .ok (.getfield 62, 3) := by decide +kernel
theorem dX3_newRow_78 : decode cX3_newRow 78 = .ok (.iconst 1, 1) := by decide +kernel
theorem dX3_newRow_79 : decode cX3_newRow 79 = .ok (.isub, 1) := by decide +kernel
theorem dX3_newRow_80 : decode cX3_newRow 80 = .ok (.ireturn, 1) := by decide +kernel
theorem dX3_newEven_0 : decode cX3_newEven 0 = .ok (.aload_n 0, 1) := by decide +kernel
theorem dX3_newEven_1 : decode cX3_newEven 1 = .ok (.iload_n 1, 1) := by decide +kernel
theorem dX3_newEven_2 : decode cX3_newEven 2 = .ok (.iload_n 2, 1) := by decide +kernel
theorem dX3_newEven_3 : decode cX3_newEven 3 = .ok (.invokevirtual 66, 3) := by decide +kernel
theorem dX3_newEven_6 : decode cX3_newEven 6 = .ok (.istore 4, 2) := by decide +kernel
theorem dX3_newEven_8 : decode cX3_newEven 8 = .ok (.iconst 0, 1) := by decide +kernel
theorem dX3_newEven_9 : decode cX3_newEven 9 = .ok (.istore 5, 2) := by decide +kernel
theorem dX3_newEven_11 : decode cX3_newEven 11 = .ok (.iload 5, 2) := by decide +kernel
theorem dX3_newEven_13 : decode cX3_newEven 13 = .ok (.iload_n 2, 1) := by decide +kernel
theorem dX3_newEven_14 : decode cX3_newEven 14 = .ok (.if_icmp .ge 28, 3) := by decide +kernel
theorem dX3_newEven_17 : decode cX3_newEven 17 = .ok (.aload_n 0, 1) := by decide +kernel
theorem dX3_newEven_18 : decode cX3_newEven 18 = .ok (.getfield 16, 3) := by decide +kernel
theorem dX3_newEven_21 : decode cX3_newEven 21 = .ok (.bipush 12, 2) := by decide +kernel
theorem dX3_newEven_23 : decode cX3_newEven 23 = .ok (.iload 4, 2) := by decide +kernel
theorem dX3_newEven_25 : decode cX3_newEven 25 = .ok (.imul, 1) := by decide +kernel
theorem dX3_newEven_26 : decode cX3_newEven 26 = .ok (.iload 5, 2) := by decide +kernel
theorem dX3_newEven_28 : decode cX3_newEven 28 = .ok (.iadd, 1) := by decide +kernel
theorem dX3_newEven_29 : decode cX3_newEven 29 = .ok (.aload_n 0, 1) := by decide +kernel
theorem dX3_newEven_30 : decode cX3_newEven 30 = .ok (.iload_n 1, 1) := by decide +kernel
theorem dX3_newEven_31 : decode cX3_newEven 31 = .ok (.iload_n 3, 1) := by decide +kernel
theorem dX3_newEven_32 : decode cX3_newEven 32 = .ok (.invokevirtual 70, 3) := by decide +kernel
theorem dX3_newEven_35 : decode cX3_newEven 35 = .ok (.iastore, 1) := by decide +kernel
theorem dX3_newEven_36 : decode cX3_newEven 36 = .ok (.iinc 5 1, 3) := by decide +kernel
theorem dX3_newEven_39 : decode cX3_newEven 39 = .ok (.goto (-28), 3) := by decide +kernel
theorem dX3_newEven_42 : decode cX3_newEven 42 = .ok (.iload 4, 2) := by decide +kernel
theorem dX3_newEven_44 : decode cX3_newEven 44 = .ok (.ireturn, 1) := by decide +kernel
theorem dX3_table_0 : decode cX3_table 0 = .ok (.iload_n 1, 1) := by decide +kernel
theorem dX3_table_1 : decode cX3_table 1 = .ok (.iconst 0, 1) := by decide +kernel
theorem dX3_table_2 : decode cX3_table 2 = .ok (.iconst 3, 1) := by decide +kernel
theorem dX3_table_3 : decode cX3_table 3 = .ok (.invokestatic 58, 3) := by decide +kernel
theorem dX3_table_6 : decode cX3_table 6 = .ok (.ifCond .eq 9, 3) := by decide +kernel
theorem dX3_table_9 : decode cX3_table 9 = .ok (.iload_n 2, 1) := by decide +kernel
theorem dX3_table_10 : decode cX3_table 10 = .ok (.bipush 12, 2) := by decide +kernel
theorem dX3_table_12 : decode cX3_table 12 = .ok (.if_icmp .le 6, 3) := by decide +kernel
theorem dX3_table_15 : decode cX3_table 15 = .ok (.ldc 73, 2) := by decide +kernel
theorem dX3_table_17 : decode cX3_table 17 = .ok (.ireturn, 1) := by decide +kernel
theorem dX3_table_18 : decode cX3_table 18 = .ok (.aload_n 0, 1) := by decide +kernel
theorem dX3_table_19 : decode cX3_table 19 = .ok (.getfield 55, 3) := by decide +kernel
theorem dX3_table_22 : decode cX3_table 22 = .ok (.bipush 16, 2) := by decide +kernel
theorem dX3_table_24 : decode cX3_table 24 = .ok (.if_icmp .ne 6, 3) := by decide +kernel
theorem dX3_table_27 : decode cX3_table 27 = .ok (.ldc 74, 2) := by decide +kernel
theorem dX3_table_29 : decode cX3_table 29 = .ok (.ireturn, 1) := by decide +kernel
theorem dX3_table_30 : decode cX3_table 30 = .ok (.iload_n 2, 1) := by decide +kernel
theorem dX3_table_31 : decode cX3_table 31 = .ok (.ifCond .ge 11, 3) := by decide +kernel
theorem dX3_table_34 : decode cX3_table 34 = .ok (.aload_n 0, 1) := by decide +kernel
theorem dX3_table_35 : decode cX3_table 35 = .ok (.iconst 4, 1) := by decide +kernel
theorem dX3_table_36 : decode cX3_table 36 = .ok (.invokevirtual 75, 3) := by decide +kernel
theorem dX3_table_39 : decode cX3_table 39 = .ok (.goto 9, 3) := by decide +kernel
theorem dX3_table_42 : decode cX3_table 42 = .ok (.aload_n 0, 1) := by decide +kernel
theorem dX3_table_43 : decode cX3_table 43 = .ok (.iload_n 1, 1) := by decide +kernel
theorem dX3_table_44 : decode cX3_table 44 = .ok (.iload_n 2, 1) := by decide +kernel
theorem dX3_table_45 : decode cX3_table 45 = .ok (.invokevirtual 66, 3) := by decide +kernel
theorem dX3_table_48 : decode cX3_table 48 = .ok (.ireturn, 1) := by decide +kernel
theorem dX3_isPlace_0 : decode cX3_isPlace 0 = .ok (.iload_n 2, 1) := by decide +kernel
theorem dX3_isPlace_1 : decode cX3_isPlace 1 = .ok (.iconst 0, 1) := by decide +kernel
theorem dX3_isPlace_2 : decode cX3_isPlace 2 = .ok (.aload_n 0, 1) := by decide +kernel
theorem dX3_isPlace_3 : decode cX3_isPlace 3 = .ok (.getfield 13, 3) := by decide +kernel
theorem dX3_isPlace_6 : decode cX3_isPlace 6 = .ok (.iload_n 1, 1) := by decide +kernel
theorem dX3_isPlace_7 : decode cX3_isPlace 7 = .ok (.iaload, 1) := by decide +kernel
theorem dX3_isPlace_8 : decode cX3_isPlace 8 = .ok (.iconst 1, 1) := by decide +kernel
theorem dX3_isPlace_9 : decode cX3_isPlace 9 = .ok (.isub, 1) := by decide +kernel
theorem dX3_isPlace_10 : decode cX3_isPlace 10 = .ok (.invokestatic 58, 3) := by decide +kernel
theorem dX3_isPlace_13 : decode cX3_isPlace 13 = .ok (.ireturn, 1) := by decide +kernel
theorem dX3_row_0 : decode cX3_row 0 = .ok (.aload_n 0, 1) := by decide +kernel
theorem dX3_row_1 : decode cX3_row 1 = .ok (.iload_n 1, 1) := by decide +kernel
theorem dX3_row_2 : decode cX3_row 2 = .ok (.invokevirtual 79, 3) := by decide +kernel
theorem dX3_row_5 : decode cX3_row 5 = .ok (.ifCond .ne 6, 3) := by decide +kernel
theorem dX3_row_8 : decode cX3_row 8 = .ok (.ldc 83, 2) := by decide +kernel
theorem dX3_row_10 : decode cX3_row 10 = .ok (.ireturn, 1) := by decide +kernel
theorem dX3_row_11 : decode cX3_row 11 = .ok (.iload_n 3, 1) := by decide +kernel
theorem dX3_row_12 : decode cX3_row 12 = .ok (.bipush 16, 2) := by decide +kernel
theorem dX3_row_14 : decode cX3_row 14 = .ok (.if_icmp .le 6, 3) := by decide +kernel
theorem dX3_row_17 : decode cX3_row 17 = .ok (.ldc 73, 2) := by decide +kernel
theorem dX3_row_19 : decode cX3_row 19 = .ok (.ireturn, 1) := by decide +kernel
theorem dX3_row_20 : decode cX3_row 20 = .ok (.iload_n 3, 1) := by decide +kernel
theorem dX3_row_21 : decode cX3_row 21 = .ok (.ifCond .lt 12, 3) := by decide +kernel
theorem dX3_row_24 : decode cX3_row 24 = .ok (.aload_n 0, 1) := by decide +kernel
theorem dX3_row_25 : decode cX3_row 25 = .ok (.iload_n 1, 1) := by decide +kernel
theorem dX3_row_26 : decode cX3_row 26 = .ok (.iload_n 2, 1) := by decide +kernel
theorem dX3_row_27 : decode cX3_row 27 = .ok (.invokevirtual 84, 3) := by decide +kernel
theorem dX3_row_30 : decode cX3_row 30 = .ok (.ifCond .ne 17, 3) := by decide +kernel
theorem dX3_row_33 : decode cX3_row 33 = .ok (.aload_n 0, 1) := by decide +kernel
theorem dX3_row_34 : decode cX3_row 34 = .ok (.iload_n 3, 1) := by decide +kernel
theorem dX3_row_35 : decode cX3_row 35 = .ok (.ifCond .ge 7, 3) := by decide +kernel
theorem dX3_row_38 : decode cX3_row 38 = .ok (.iconst 4, 1) := by decide +kernel
theorem dX3_row_39 : decode cX3_row 39 = .ok (.goto 4, 3) := by decide +kernel
theorem dX3_row_42 : decode cX3_row 42 = .ok (.iconst 2, 1) := by decide +kernel
theorem dX3_row_43 : decode cX3_row 43 = .ok (.invokevirtual 75, 3) := by decide +kernel
theorem dX3_row_46 : decode cX3_row 46 = .ok (.ireturn, 1) := by decide +kernel
theorem dX3_row_47 : decode cX3_row 47 = .ok (.aload_n 0, 1) := by decide +kernel
theorem dX3_row_48 : decode cX3_row 48 = .ok (.invokevirtual 88, 3) := by decide +kernel
theorem dX3_row_51 : decode cX3_row 51 = .ok (.aload_n 0, 1) := by decide +kernel
theorem dX3_row_52 : decode cX3_row 52 = .ok (.getfield 16, 3) := by decide +kernel
theorem dX3_row_55 : decode cX3_row 55 = .ok (.bipush 12, 2) := by decide +kernel
theorem dX3_row_57 : decode cX3_row 57 = .ok (.iload_n 1, 1) := by decide +kernel
theorem dX3_row_58 : decode cX3_row 58 = .ok (.imul, 1) := by decide +kernel
theorem dX3_row_59 : decode cX3_row 59 = .ok (.iload_n 2, 1) := by decide +kernel
theorem dX3_row_60 : decode cX3_row 60 = .ok (.iadd, 1) := by decide +kernel
theorem dX3_row_61 : decode cX3_row 61 = .ok (.aload_n 0, 1) := by decide +kernel
theorem dX3_row_62 : decode cX3_row 62 = .ok (.aload_n 0, 1) := by decide +kernel
theorem dX3_row_63 : decode cX3_row 63 = .ok (.getfield 7, 3) := by decide +kernel
theorem dX3_row_66 : decode cX3_row 66 = .ok (.iload_n 1, 1) := by decide +kernel
theorem dX3_row_67 : decode cX3_row 67 = .ok (.iaload, 1) := by decide +kernel
theorem dX3_row_68 : decode cX3_row 68 = .ok (.iload_n 3, 1) := by decide +kernel
theorem dX3_row_69 : decode cX3_row 69 = .ok (.invokevirtual 70, 3) := by decide +kernel
theorem dX3_row_72 : decode cX3_row 72 = .ok (.iastore, 1) := by decide +kernel
theorem dX3_row_73 : decode cX3_row 73 = .ok (.iconst 1, 1) := by decide +kernel
theorem dX3_row_74 : decode cX3_row 74 = .ok (.ireturn, 1) := by decide +kernel
theorem dX3_squeeze_0 : decode cX3_squeeze 0 = .ok (.aload_n 0, 1) := by decide +kernel
theorem dX3_squeeze_1 : decode cX3_squeeze 1 = .ok (.getfield 62, 3) := by decide +kernel
theorem dX3_squeeze_4 : decode cX3_squeeze 4 = .ok (.sipush 500, 3) := by decide +kernel
theorem dX3_squeeze_7 : decode cX3_squeeze 7 = .ok (.if_icmp .ge 4, 3) := by decide +kernel
theorem dX3_squeeze_10 : decode cX3_squeeze 10 = .ok (.return_, 1) := by decide +kernel
theorem dX3_squeeze_11 : decode cX3_squeeze 11 = .ok (.iconst 0, 1) := by decide +kernel
theorem dX3_squeeze_12 : decode cX3_squeeze 12 = .ok (.istore_n 1, 1) := by decide +kernel
theorem dX3_squeeze_13 : decode cX3_squeeze 13 = .ok (.iload_n 1, 1) := by decide +kernel
theorem dX3_squeeze_14 : decode cX3_squeeze 14 = .ok (.aload_n 0, 1) := by decide +kernel
theorem dX3_squeeze_15 : decode cX3_squeeze 15 = .ok (.getfield 62, 3) := by decide +kernel
theorem dX3_squeeze_18 : decode cX3_squeeze 18 = .ok (.if_icmp .ge 16, 3) := by decide +kernel
theorem dX3_squeeze_21 : decode cX3_squeeze 21 = .ok (.aload_n 0, 1) := by decide +kernel
theorem dX3_squeeze_22 : decode cX3_squeeze 22 = .ok (.getfield 29, 3) := by decide +kernel
theorem dX3_squeeze_25 : decode cX3_squeeze 25 = .ok (.iload_n 1, 1) := by decide +kernel
theorem dX3_squeeze_26 : decode cX3_squeeze 26 = .ok (.iconst (-1), 1) := by decide +kernel
theorem dX3_squeeze_27 : decode cX3_squeeze 27 = .ok (.iastore, 1) := by decide +kernel
theorem dX3_squeeze_28 : decode cX3_squeeze 28 = .ok (.iinc 1 1, 3) := by decide +kernel
theorem dX3_squeeze_31 : decode cX3_squeeze 31 = .ok (.goto (-18), 3) := by decide +kernel
theorem dX3_squeeze_34 : decode cX3_squeeze 34 = .ok (.iconst 0, 1) := by decide +kernel
theorem dX3_squeeze_35 : decode cX3_squeeze 35 = .ok (.istore_n 1, 1) := by decide +kernel
theorem dX3_squeeze_36 : decode cX3_squeeze 36 = .ok (.iload_n 1, 1) := by decide +kernel
theorem dX3_squeeze_37 : decode cX3_squeeze 37 = .ok (.sipush 192, 3) := by decide +kernel
theorem dX3_squeeze_40 : decode cX3_squeeze 40 = .ok (.if_icmp .ge 57, 3) := by decide +kernel
theorem dX3_squeeze_43 : decode cX3_squeeze 43 = .ok (.iload_n 1, 1) := by decide +kernel
theorem dX3_squeeze_44 : decode cX3_squeeze 44 = .ok (.bipush 12, 2) := by decide +kernel
theorem dX3_squeeze_46 : decode cX3_squeeze 46 = .ok (.idiv, 1) := by decide +kernel
theorem dX3_squeeze_47 : decode cX3_squeeze 47 = .ok (.aload_n 0, 1) := by decide +kernel
theorem dX3_squeeze_48 : decode cX3_squeeze 48 = .ok (.getfield 55, 3) := by decide +kernel
theorem dX3_squeeze_51 : decode cX3_squeeze 51 = .ok (.if_icmp .ge 40, 3) := by decide +kernel
theorem dX3_squeeze_54 : decode cX3_squeeze 54 = .ok (.iload_n 1, 1) := by decide +kernel
theorem dX3_squeeze_55 : decode cX3_squeeze 55 = .ok (.bipush 12, 2) := by decide +kernel
theorem dX3_squeeze_57 : decode cX3_squeeze 57 = .ok (.irem, 1) := by decide +kernel
theorem dX3_squeeze_58 : decode cX3_squeeze 58 = .ok (.aload_n 0, 1) := by decide +kernel
theorem dX3_squeeze_59 : decode cX3_squeeze 59 = .ok (.getfield 13, 3) := by decide +kernel
theorem dX3_squeeze_62 : decode cX3_squeeze 62 = .ok (.iload_n 1, 1) := by decide +kernel
theorem dX3_squeeze_63 : decode cX3_squeeze 63 = .ok (.bipush 12, 2) := by decide +kernel
theorem dX3_squeeze_65 : decode cX3_squeeze 65 = .ok (.idiv, 1) := by decide +kernel
theorem dX3_squeeze_66 : decode cX3_squeeze 66 = .ok (.iaload, 1) := by decide +kernel
theorem dX3_squeeze_67 : decode cX3_squeeze 67 = .ok (.if_icmp .ge 24, 3) := by decide +kernel
theorem dX3_squeeze_70 : decode cX3_squeeze 70 = .ok (.aload_n 0, 1) := by decide +kernel
theorem dX3_squeeze_71 : decode cX3_squeeze 71 = .ok (.getfield 16, 3) := by decide +kernel
theorem dX3_squeeze_74 : decode cX3_squeeze 74 = .ok (.iload_n 1, 1) := by decide +kernel
theorem dX3_squeeze_75 : decode cX3_squeeze 75 = .ok (.iaload, 1) := by decide +kernel
theorem dX3_squeeze_76 : decode cX3_squeeze 76 = .ok (.ifCond .lt 15, 3) := by decide +kernel
theorem dX3_squeeze_79 : decode cX3_squeeze 79 = .ok (.aload_n 0, 1) := by decide +kernel
theorem dX3_squeeze_80 : decode cX3_squeeze 80 = .ok (.getfield 29, 3) := by decide +kernel
theorem dX3_squeeze_83 : decode cX3_squeeze 83 = .ok (.aload_n 0, 1) := by decide +kernel
theorem dX3_squeeze_84 : decode cX3_squeeze 84 = .ok (.getfield 16, 3) := by decide +kernel
theorem dX3_squeeze_87 : decode cX3_squeeze 87 = .ok (.iload_n 1, 1) := by decide +kernel
theorem dX3_squeeze_88 : decode cX3_squeeze 88 = .ok (.iaload, 1) := by decide +kernel
theorem dX3_squeeze_89 : decode cX3_squeeze 89 = .ok (.iconst 0, 1) := by decide +kernel
theorem dX3_squeeze_90 : decode cX3_squeeze 90 = .ok (.iastore, 1) := by decide +kernel
theorem dX3_squeeze_91 : decode cX3_squeeze 91 = .ok (.iinc 1 1, 3) := by decide +kernel
theorem dX3_squeeze_94 : decode cX3_squeeze 94 = .ok (.goto (-58), 3) := by decide +kernel
theorem dX3_squeeze_97 : decode cX3_squeeze 97 = .ok (.iconst 0, 1) := by decide +kernel
theorem dX3_squeeze_98 : decode cX3_squeeze 98 = .ok (.istore_n 1, 1) := by decide +kernel
theorem dX3_squeeze_99 : decode cX3_squeeze 99 = .ok (.iconst 0, 1) := by decide +kernel
theorem dX3_squeeze_100 : decode cX3_squeeze 100 = .ok (.istore_n 2, 1) := by decide +kernel
theorem dX3_squeeze_101 : decode cX3_squeeze 101 = .ok (.iload_n 2, 1) := by decide +kernel
theorem dX3_squeeze_102 : decode cX3_squeeze 102 = .ok (.aload_n 0, 1) := by decide +kernel
theorem dX3_squeeze_103 : decode cX3_squeeze 103 = .ok (.getfield 62, 3) := by decide +kernel
theorem dX3_squeeze_106 : decode cX3_squeeze 106 = .ok (.if_icmp .ge 98, 3) := by decide +kernel
theorem dX3_squeeze_109 : decode cX3_squeeze 109 = .ok (.aload_n 0, 1) := by decide +kernel
theorem dX3_squeeze_110 : decode cX3_squeeze 110 = .ok (.getfield 29, 3) := by decide +kernel
theorem dX3_squeeze_113 : decode cX3_squeeze 113 = .ok (.iload_n 2, 1) := by decide +kernel
theorem dX3_squeeze_114 : decode cX3_squeeze 114 = .ok (.iaload, 1) := by decide +kernel
theorem dX3_squeeze_115 : decode cX3_squeeze 115 = .ok (.ifCond .ne 83, 3) := by decide +kernel
theorem dX3_squeeze_118 : decode cX3_squeeze 118 = .ok (.aload_n 0, 1) := by decide +kernel
theorem dX3_squeeze_119 : decode cX3_squeeze 119 = .ok (.getfield 29, 3) := by decide +kernel
theorem dX3_squeeze_122 : decode cX3_squeeze 122 = .ok (.iload_n 2, 1) := by decide +kernel
theorem dX3_squeeze_123 : decode cX3_squeeze 123 = .ok (.iload_n 1, 1) := by decide +kernel
theorem dX3_squeeze_124 : decode cX3_squeeze 124 = .ok (.iastore, 1) := by decide +kernel
theorem dX3_squeeze_125 : decode cX3_squeeze 125 = .ok (.aload_n 0, 1) := by decide +kernel
theorem dX3_squeeze_126 : decode cX3_squeeze 126 = .ok (.getfield 19, 3) := by decide +kernel
theorem dX3_squeeze_129 : decode cX3_squeeze 129 = .ok (.iload_n 1, 1) := by decide +kernel
theorem dX3_squeeze_130 : decode cX3_squeeze 130 = .ok (.aload_n 0, 1) := by decide +kernel
theorem dX3_squeeze_131 : decode cX3_squeeze 131 = .ok (.getfield 19, 3) := by decide +kernel
theorem dX3_squeeze_134 : decode cX3_squeeze 134 = .ok (.iload_n 2, 1) := by decide +kernel
theorem dX3_squeeze_135 : decode cX3_squeeze 135 = .ok (.iaload, 1) := by decide +kernel
theorem dX3_squeeze_136 : decode cX3_squeeze 136 = .ok (.iastore, 1) := by decide +kernel
theorem dX3_squeeze_137 : decode cX3_squeeze 137 = .ok (.iconst 0, 1) := by decide +kernel
theorem dX3_squeeze_138 : decode cX3_squeeze 138 = .ok (.istore_n 3, 1) := by decide +kernel
theorem dX3_squeeze_139 : decode cX3_squeeze 139 = .ok (.iload_n 3, 1) := by decide +kernel
theorem dX3_squeeze_140 : decode cX3_squeeze 140 = .ok (.bipush 16, 2) := by decide +kernel
theorem dX3_squeeze_142 : decode cX3_squeeze 142 = .ok (.if_icmp .ge 53, 3) := by decide +kernel
theorem dX3_squeeze_145 : decode cX3_squeeze 145 = .ok (.aload_n 0, 1) := by decide +kernel
theorem dX3_squeeze_146 : decode cX3_squeeze 146 = .ok (.getfield 22, 3) := by decide +kernel
theorem dX3_squeeze_149 : decode cX3_squeeze 149 = .ok (.bipush 16, 2) := by decide +kernel
theorem dX3_squeeze_151 : decode cX3_squeeze 151 = .ok (.iload_n 1, 1) := by decide +kernel
theorem dX3_squeeze_152 : decode cX3_squeeze 152 = .ok (.imul, 1) := by decide +kernel
theorem dX3_squeeze_153 : decode cX3_squeeze 153 = .ok (.iload_n 3, 1) := by decide +kernel
theorem dX3_squeeze_154 : decode cX3_squeeze 154 = .ok (.iadd, 1) := by decide +kernel
theorem dX3_squeeze_155 : decode cX3_squeeze 155 = .ok (.aload_n 0, 1) := by decide +kernel
theorem dX3_squeeze_156 : decode cX3_squeeze 156 = .ok (.getfield 22, 3) := by decide +kernel
theorem dX3_squeeze_159 : decode cX3_squeeze 159 = .ok (.bipush 16, 2) := by decide +kernel
theorem dX3_squeeze_161 : decode cX3_squeeze 161 = .ok (.iload_n 2, 1) := by decide +kernel
theorem dX3_squeeze_162 : decode cX3_squeeze 162 = .ok (.imul, 1) := by decide +kernel
theorem dX3_squeeze_163 : decode cX3_squeeze 163 = .ok (.iload_n 3, 1) := by decide +kernel
theorem dX3_squeeze_164 : decode cX3_squeeze 164 = .ok (.iadd, 1) := by decide +kernel
theorem dX3_squeeze_165 : decode cX3_squeeze 165 = .ok (.iaload, 1) := by decide +kernel
theorem dX3_squeeze_166 : decode cX3_squeeze 166 = .ok (.iastore, 1) := by decide +kernel
theorem dX3_squeeze_167 : decode cX3_squeeze 167 = .ok (.aload_n 0, 1) := by decide +kernel
theorem dX3_squeeze_168 : decode cX3_squeeze 168 = .ok (.getfield 25, 3) := by decide +kernel
theorem dX3_squeeze_171 : decode cX3_squeeze 171 = .ok (.bipush 16, 2) := by decide +kernel
theorem dX3_squeeze_173 : decode cX3_squeeze 173 = .ok (.iload_n 1, 1) := by decide +kernel
theorem dX3_squeeze_174 : decode cX3_squeeze 174 = .ok (.imul, 1) := by decide +kernel
theorem dX3_squeeze_175 : decode cX3_squeeze 175 = .ok (.iload_n 3, 1) := by decide +kernel
theorem dX3_squeeze_176 : decode cX3_squeeze 176 = .ok (.iadd, 1) := by decide +kernel
theorem dX3_squeeze_177 : decode cX3_squeeze 177 = .ok (.aload_n 0, 1) := by decide +kernel
theorem dX3_squeeze_178 : decode cX3_squeeze 178 = .ok (.getfield 25, 3) := by decide +kernel
theorem dX3_squeeze_181 : decode cX3_squeeze 181 = .ok (.bipush 16, 2) := by decide +kernel
theorem dX3_squeeze_183 : decode cX3_squeeze 183 = .ok (.iload_n 2, 1) := by decide +kernel
theorem dX3_squeeze_184 : decode cX3_squeeze 184 = .ok (.imul, 1) := by decide +kernel
theorem dX3_squeeze_185 : decode cX3_squeeze 185 = .ok (.iload_n 3, 1) := by decide +kernel
theorem dX3_squeeze_186 : decode cX3_squeeze 186 = .ok (.iadd, 1) := by decide +kernel
theorem dX3_squeeze_187 : decode cX3_squeeze 187 = .ok (.daload, 1) := by decide +kernel
theorem dX3_squeeze_188 : decode cX3_squeeze 188 = .ok (.dastore, 1) := by decide +kernel
theorem dX3_squeeze_189 : decode cX3_squeeze 189 = .ok (.iinc 3 1, 3) := by decide +kernel
theorem dX3_squeeze_192 : decode cX3_squeeze 192 = .ok (.goto (-53), 3) := by decide +kernel
theorem dX3_squeeze_195 : decode cX3_squeeze 195 = .ok (.iinc 1 1, 3) := by decide +kernel
theorem dX3_squeeze_198 : decode cX3_squeeze 198 = .ok (.iinc 2 1, 3) := by decide +kernel
theorem dX3_squeeze_201 : decode cX3_squeeze 201 = .ok (.goto (-100), 3) := by decide +kernel
theorem dX3_squeeze_204 : decode cX3_squeeze 204 = .ok (.aload_n 0, 1) := by decide +kernel
theorem dX3_squeeze_205 : decode cX3_squeeze 205 = .ok (.iload_n 1, 1) := by decide +kernel
theorem dX3_squeeze_206 : decode cX3_squeeze 206 = .ok (.putfield 62, 3) := by decide +kernel
theorem dX3_squeeze_209 : decode cX3_squeeze 209 = .ok (.iconst 0, 1) := by decide +kernel
theorem dX3_squeeze_210 : decode cX3_squeeze 210 = .ok (.istore_n 2, 1) := by decide +kernel
theorem dX3_squeeze_211 : decode cX3_squeeze 211 = .ok (.iload_n 2, 1) := by decide +kernel
theorem dX3_squeeze_212 : decode cX3_squeeze 212 = .ok (.sipush 192, 3) := by decide +kernel
theorem dX3_squeeze_215 : decode cX3_squeeze 215 = .ok (.if_icmp .ge 62, 3) := by decide +kernel
theorem dX3_squeeze_218 : decode cX3_squeeze 218 = .ok (.iload_n 2, 1) := by decide +kernel
theorem dX3_squeeze_219 : decode cX3_squeeze 219 = .ok (.bipush 12, 2) := by decide +kernel
theorem dX3_squeeze_221 : decode cX3_squeeze 221 = .ok (.idiv, 1) := by decide +kernel
theorem dX3_squeeze_222 : decode cX3_squeeze 222 = .ok (.aload_n 0, 1) := by decide +kernel
theorem dX3_squeeze_223 : decode cX3_squeeze 223 = .ok (.getfield 55, 3) := by decide +kernel
theorem dX3_squeeze_226 : decode cX3_squeeze 226 = .ok (.if_icmp .ge 45, 3) := by decide +kernel
theorem dX3_squeeze_229 : decode cX3_squeeze 229 = .ok (.iload_n 2, 1) := by decide +kernel
theorem dX3_squeeze_230 : decode cX3_squeeze 230 = .ok (.bipush 12, 2) := by decide +kernel
theorem dX3_squeeze_232 : decode cX3_squeeze 232 = .ok (.irem, 1) := by decide +kernel
theorem dX3_squeeze_233 : decode cX3_squeeze 233 = .ok (.aload_n 0, 1) := by decide +kernel
theorem dX3_squeeze_234 : decode cX3_squeeze 234 = .ok (.getfield 13, 3) := by decide +kernel
theorem dX3_squeeze_237 : decode cX3_squeeze 237 = .ok (.iload_n 2, 1) := by decide +kernel
theorem dX3_squeeze_238 : decode cX3_squeeze 238 = .ok (.bipush 12, 2) := by decide +kernel
theorem dX3_squeeze_240 : decode cX3_squeeze 240 = .ok (.idiv, 1) := by decide +kernel
theorem dX3_squeeze_241 : decode cX3_squeeze 241 = .ok (.iaload, 1) := by decide +kernel
theorem dX3_squeeze_242 : decode cX3_squeeze 242 = .ok (.if_icmp .ge 29, 3) := by decide +kernel
theorem dX3_squeeze_245 : decode cX3_squeeze 245 = .ok (.aload_n 0, 1) := by decide +kernel
theorem dX3_squeeze_246 : decode cX3_squeeze 246 = .ok (.getfield 16, 3) := by decide +kernel
theorem dX3_squeeze_249 : decode cX3_squeeze 249 = .ok (.iload_n 2, 1) := by decide +kernel
theorem dX3_squeeze_250 : decode cX3_squeeze 250 = .ok (.iaload, 1) := by decide +kernel
theorem dX3_squeeze_251 : decode cX3_squeeze 251 = .ok (.ifCond .lt 20, 3) := by decide +kernel
theorem dX3_squeeze_254 : decode cX3_squeeze 254 = .ok (.aload_n 0, 1) := by decide +kernel
theorem dX3_squeeze_255 : decode cX3_squeeze 255 = .ok (.getfield 16, 3) := by decide +kernel
theorem dX3_squeeze_258 : decode cX3_squeeze 258 = .ok (.iload_n 2, 1) := by decide +kernel
theorem dX3_squeeze_259 : decode cX3_squeeze 259 = .ok (.aload_n 0, 1) := by decide +kernel
theorem dX3_squeeze_260 : decode cX3_squeeze 260 = .ok (.getfield 29, 3) := by decide +kernel
theorem dX3_squeeze_263 : decode cX3_squeeze 263 = .ok (.aload_n 0, 1) := by decide +kernel
theorem dX3_squeeze_264 : decode cX3_squeeze 264 = .ok (.getfield 16, 3) := by decide +kernel
theorem dX3_squeeze_267 : decode cX3_squeeze 267 = .ok (.iload_n 2, 1) := by decide +kernel
theorem dX3_squeeze_268 : decode cX3_squeeze 268 = .ok (.iaload, 1) := by decide +kernel
theorem dX3_squeeze_269 : decode cX3_squeeze 269 = .ok (.iaload, 1) := by decide +kernel
theorem dX3_squeeze_270 : decode cX3_squeeze 270 = .ok (.iastore, 1) := by decide +kernel
theorem dX3_squeeze_271 : decode cX3_squeeze 271 = .ok (.iinc 2 1, 3) := by decide +kernel
theorem dX3_squeeze_274 : decode cX3_squeeze 274 = .ok (.goto (-63), 3) := by decide +kernel
theorem dX3_squeeze_277 : decode cX3_squeeze 277 = .ok (.return_, 1) := by decide +kernel
theorem dX3_share_0 : decode cX3_share 0 = .ok (.aload_n 0, 1) := by decide +kernel
theorem dX3_share_1 : decode cX3_share 1 = .ok (.iload_n 1, 1) := by decide +kernel
theorem dX3_share_2 : decode cX3_share 2 = .ok (.invokevirtual 79, 3) := by decide +kernel
theorem dX3_share_5 : decode cX3_share 5 = .ok (.ifCond .eq 11, 3) := by decide +kernel
theorem dX3_share_8 : decode cX3_share 8 = .ok (.aload_n 0, 1) := by decide +kernel
theorem dX3_share_9 : decode cX3_share 9 = .ok (.iload_n 3, 1) := by decide +kernel
theorem dX3_share_10 : decode cX3_share 10 = .ok (.invokevirtual 79, 3) := by decide +kernel
theorem dX3_share_13 : decode cX3_share 13 = .ok (.ifCond .ne 6, 3) := by decide +kernel
theorem dX3_share_16 : decode cX3_share 16 = .ok (.ldc 83, 2) := by decide +kernel
theorem dX3_share_18 : decode cX3_share 18 = .ok (.ireturn, 1) := by decide +kernel
theorem dX3_share_19 : decode cX3_share 19 = .ok (.aload_n 0, 1) := by decide +kernel
theorem dX3_share_20 : decode cX3_share 20 = .ok (.iload_n 3, 1) := by decide +kernel
theorem dX3_share_21 : decode cX3_share 21 = .ok (.iload 4, 2) := by decide +kernel
theorem dX3_share_23 : decode cX3_share 23 = .ok (.invokevirtual 84, 3) := by decide +kernel
theorem dX3_share_26 : decode cX3_share 26 = .ok (.ifCond .eq 12, 3) := by decide +kernel
theorem dX3_share_29 : decode cX3_share 29 = .ok (.aload_n 0, 1) := by decide +kernel
theorem dX3_share_30 : decode cX3_share 30 = .ok (.iload_n 1, 1) := by decide +kernel
theorem dX3_share_31 : decode cX3_share 31 = .ok (.iload_n 2, 1) := by decide +kernel
theorem dX3_share_32 : decode cX3_share 32 = .ok (.invokevirtual 84, 3) := by decide +kernel
theorem dX3_share_35 : decode cX3_share 35 = .ok (.ifCond .ne 9, 3) := by decide +kernel
theorem dX3_share_38 : decode cX3_share 38 = .ok (.aload_n 0, 1) := by decide +kernel
theorem dX3_share_39 : decode cX3_share 39 = .ok (.iconst 2, 1) := by decide +kernel
theorem dX3_share_40 : decode cX3_share 40 = .ok (.invokevirtual 75, 3) := by decide +kernel
theorem dX3_share_43 : decode cX3_share 43 = .ok (.ireturn, 1) := by decide +kernel
theorem dX3_share_44 : decode cX3_share 44 = .ok (.aload_n 0, 1) := by decide +kernel
theorem dX3_share_45 : decode cX3_share 45 = .ok (.getfield 16, 3) := by decide +kernel
theorem dX3_share_48 : decode cX3_share 48 = .ok (.bipush 12, 2) := by decide +kernel
theorem dX3_share_50 : decode cX3_share 50 = .ok (.iload_n 3, 1) := by decide +kernel
theorem dX3_share_51 : decode cX3_share 51 = .ok (.imul, 1) := by decide +kernel
theorem dX3_share_52 : decode cX3_share 52 = .ok (.iload 4, 2) := by decide +kernel
theorem dX3_share_54 : decode cX3_share 54 = .ok (.iadd, 1) := by decide +kernel
theorem dX3_share_55 : decode cX3_share 55 = .ok (.iaload, 1) := by decide +kernel
theorem dX3_share_56 : decode cX3_share 56 = .ok (.istore 5, 2) := by decide +kernel
theorem dX3_share_58 : decode cX3_share 58 = .ok (.iload 5, 2) := by decide +kernel
theorem dX3_share_60 : decode cX3_share 60 = .ok (.ifCond .lt 18, 3) := by decide +kernel
theorem dX3_share_63 : decode cX3_share 63 = .ok (.aload_n 0, 1) := by decide +kernel
theorem dX3_share_64 : decode cX3_share 64 = .ok (.getfield 7, 3) := by decide +kernel
theorem dX3_share_67 : decode cX3_share 67 = .ok (.iload_n 1, 1) := by decide +kernel
theorem dX3_share_68 : decode cX3_share 68 = .ok (.iaload, 1) := by decide +kernel
theorem dX3_share_69 : decode cX3_share 69 = .ok (.aload_n 0, 1) := by decide +kernel
theorem dX3_share_70 : decode cX3_share 70 = .ok (.getfield 7, 3) := by decide +kernel
theorem dX3_share_73 : decode cX3_share 73 = .ok (.iload_n 3, 1) := by decide +kernel
theorem dX3_share_74 : decode cX3_share 74 = .ok (.iaload, 1) := by decide +kernel
theorem dX3_share_75 : decode cX3_share 75 = .ok (.if_icmp .eq 18, 3) := by decide +kernel
theorem dX3_share_78 : decode cX3_share 78 = .ok (.aload_n 0, 1) := by decide +kernel
theorem dX3_share_79 : decode cX3_share 79 = .ok (.iload 5, 2) := by decide +kernel
theorem dX3_share_81 : decode cX3_share 81 = .ok (.ifCond .ge 7, 3) := by decide +kernel
theorem dX3_share_84 : decode cX3_share 84 = .ok (.iconst 1, 1) := by decide +kernel
theorem dX3_share_85 : decode cX3_share 85 = .ok (.goto 4, 3) := by decide +kernel
theorem dX3_share_88 : decode cX3_share 88 = .ok (.iconst 3, 1) := by decide +kernel
theorem dX3_share_89 : decode cX3_share 89 = .ok (.invokevirtual 75, 3) := by decide +kernel
theorem dX3_share_92 : decode cX3_share 92 = .ok (.ireturn, 1) := by decide +kernel
theorem dX3_share_93 : decode cX3_share 93 = .ok (.aload_n 0, 1) := by decide +kernel
theorem dX3_share_94 : decode cX3_share 94 = .ok (.getfield 16, 3) := by decide +kernel
theorem dX3_share_97 : decode cX3_share 97 = .ok (.bipush 12, 2) := by decide +kernel
theorem dX3_share_99 : decode cX3_share 99 = .ok (.iload_n 1, 1) := by decide +kernel
theorem dX3_share_100 : decode cX3_share 100 = .ok (.imul, 1) := by decide +kernel
theorem dX3_share_101 : decode cX3_share 101 = .ok (.iload_n 2, 1) := by decide +kernel
theorem dX3_share_102 : decode cX3_share 102 = .ok (.iadd, 1) := by decide +kernel
theorem dX3_share_103 : decode cX3_share 103 = .ok (.iload 5, 2) := by decide +kernel
theorem dX3_share_105 : decode cX3_share 105 = .ok (.iastore, 1) := by decide +kernel
theorem dX3_share_106 : decode cX3_share 106 = .ok (.iconst 1, 1) := by decide +kernel
theorem dX3_share_107 : decode cX3_share 107 = .ok (.ireturn, 1) := by decide +kernel
theorem dX3_fall_0 : decode cX3_fall 0 = .ok (.aload_n 0, 1) := by decide +kernel
theorem dX3_fall_1 : decode cX3_fall 1 = .ok (.iload_n 1, 1) := by decide +kernel
theorem dX3_fall_2 : decode cX3_fall 2 = .ok (.invokevirtual 79, 3) := by decide +kernel
theorem dX3_fall_5 : decode cX3_fall 5 = .ok (.ifCond .ne 6, 3) := by decide +kernel
theorem dX3_fall_8 : decode cX3_fall 8 = .ok (.ldc 83, 2) := by decide +kernel
theorem dX3_fall_10 : decode cX3_fall 10 = .ok (.ireturn, 1) := by decide +kernel
theorem dX3_fall_11 : decode cX3_fall 11 = .ok (.aload_n 0, 1) := by decide +kernel
theorem dX3_fall_12 : decode cX3_fall 12 = .ok (.iload_n 1, 1) := by decide +kernel
theorem dX3_fall_13 : decode cX3_fall 13 = .ok (.iload_n 2, 1) := by decide +kernel
theorem dX3_fall_14 : decode cX3_fall 14 = .ok (.invokevirtual 84, 3) := by decide +kernel
theorem dX3_fall_17 : decode cX3_fall 17 = .ok (.ifCond .ne 9, 3) := by decide +kernel
theorem dX3_fall_20 : decode cX3_fall 20 = .ok (.aload_n 0, 1) := by decide +kernel
theorem dX3_fall_21 : decode cX3_fall 21 = .ok (.iconst 2, 1) := by decide +kernel
theorem dX3_fall_22 : decode cX3_fall 22 = .ok (.invokevirtual 75, 3) := by decide +kernel
theorem dX3_fall_25 : decode cX3_fall 25 = .ok (.ireturn, 1) := by decide +kernel
theorem dX3_fall_26 : decode cX3_fall 26 = .ok (.aload_n 0, 1) := by decide +kernel
theorem dX3_fall_27 : decode cX3_fall 27 = .ok (.getfield 16, 3) := by decide +kernel
theorem dX3_fall_30 : decode cX3_fall 30 = .ok (.bipush 12, 2) := by decide +kernel
theorem dX3_fall_32 : decode cX3_fall 32 = .ok (.iload_n 1, 1) := by decide +kernel
theorem dX3_fall_33 : decode cX3_fall 33 = .ok (.imul, 1) := by decide +kernel
theorem dX3_fall_34 : decode cX3_fall 34 = .ok (.iload_n 2, 1) := by decide +kernel
theorem dX3_fall_35 : decode cX3_fall 35 = .ok (.iadd, 1) := by decide +kernel
theorem dX3_fall_36 : decode cX3_fall 36 = .ok (.iaload, 1) := by decide +kernel
theorem dX3_fall_37 : decode cX3_fall 37 = .ok (.ifCond .ge 7, 3) := by decide +kernel
theorem dX3_fall_40 : decode cX3_fall 40 = .ok (.iconst 0, 1) := by decide +kernel
theorem dX3_fall_41 : decode cX3_fall 41 = .ok (.goto 4, 3) := by decide +kernel
theorem dX3_fall_44 : decode cX3_fall 44 = .ok (.iconst 1, 1) := by decide +kernel
theorem dX3_fall_45 : decode cX3_fall 45 = .ok (.istore_n 3, 1) := by decide +kernel
theorem dX3_fall_46 : decode cX3_fall 46 = .ok (.aload_n 0, 1) := by decide +kernel
theorem dX3_fall_47 : decode cX3_fall 47 = .ok (.getfield 16, 3) := by decide +kernel
theorem dX3_fall_50 : decode cX3_fall 50 = .ok (.bipush 12, 2) := by decide +kernel
theorem dX3_fall_52 : decode cX3_fall 52 = .ok (.iload_n 1, 1) := by decide +kernel
theorem dX3_fall_53 : decode cX3_fall 53 = .ok (.imul, 1) := by decide +kernel
theorem dX3_fall_54 : decode cX3_fall 54 = .ok (.iload_n 2, 1) := by decide +kernel
theorem dX3_fall_55 : decode cX3_fall 55 = .ok (.iadd, 1) := by decide +kernel
theorem dX3_fall_56 : decode cX3_fall 56 = .ok (.iconst (-1), 1) := by decide +kernel
theorem dX3_fall_57 : decode cX3_fall 57 = .ok (.iastore, 1) := by decide +kernel
theorem dX3_fall_58 : decode cX3_fall 58 = .ok (.iload_n 3, 1) := by decide +kernel
theorem dX3_fall_59 : decode cX3_fall 59 = .ok (.ireturn, 1) := by decide +kernel
theorem dX3_cellCause_0 : decode cX3_cellCause 0 = .ok (.aload_n 0, 1) := by decide +kernel
theorem dX3_cellCause_1 : decode cX3_cellCause 1 = .ok (.iload_n 1, 1) := by decide +kernel
theorem dX3_cellCause_2 : decode cX3_cellCause 2 = .ok (.iload_n 2, 1) := by decide +kernel
theorem dX3_cellCause_3 : decode cX3_cellCause 3 = .ok (.invokevirtual 84, 3) := by decide +kernel
end
section
theorem dX3_cellCause_6 : decode cX3_cellCause 6 = .ok (.ifCond .ne 5, 3) := by decide +kernel
theorem dX3_cellCause_9 : decode cX3_cellCause 9 = .ok (.iconst 2, 1) := by decide +kernel
theorem dX3_cellCause_10 : decode cX3_cellCause 10 = .ok (.ireturn, 1) := by decide +kernel
theorem dX3_cellCause_11 : decode cX3_cellCause 11 = .ok (.aload_n 0, 1) := by decide +kernel
theorem dX3_cellCause_12 : decode cX3_cellCause 12 = .ok (.getfield 16, 3) := by decide +kernel
theorem dX3_cellCause_15 : decode cX3_cellCause 15 = .ok (.bipush 12, 2) := by decide +kernel
theorem dX3_cellCause_17 : decode cX3_cellCause 17 = .ok (.iload_n 1, 1) := by decide +kernel
theorem dX3_cellCause_18 : decode cX3_cellCause 18 = .ok (.imul, 1) := by decide +kernel
theorem dX3_cellCause_19 : decode cX3_cellCause 19 = .ok (.iload_n 2, 1) := by decide +kernel
theorem dX3_cellCause_20 : decode cX3_cellCause 20 = .ok (.iadd, 1) := by decide +kernel
theorem dX3_cellCause_21 : decode cX3_cellCause 21 = .ok (.iaload, 1) := by decide +kernel
theorem dX3_cellCause_22 : decode cX3_cellCause 22 = .ok (.istore 4, 2) := by decide +kernel
theorem dX3_cellCause_24 : decode cX3_cellCause 24 = .ok (.iload 4, 2) := by decide +kernel
theorem dX3_cellCause_26 : decode cX3_cellCause 26 = .ok (.ifCond .ge 7, 3) := by decide +kernel
theorem dX3_cellCause_29 : decode cX3_cellCause 29 = .ok (.iconst 1, 1) := by decide +kernel
theorem dX3_cellCause_30 : decode cX3_cellCause 30 = .ok (.goto 25, 3) := by decide +kernel
theorem dX3_cellCause_33 : decode cX3_cellCause 33 = .ok (.iload_n 3, 1) := by decide +kernel
theorem dX3_cellCause_34 : decode cX3_cellCause 34 = .ok (.iconst 0, 1) := by decide +kernel
theorem dX3_cellCause_35 : decode cX3_cellCause 35 = .ok (.aload_n 0, 1) := by decide +kernel
theorem dX3_cellCause_36 : decode cX3_cellCause 36 = .ok (.getfield 19, 3) := by decide +kernel
theorem dX3_cellCause_39 : decode cX3_cellCause 39 = .ok (.iload 4, 2) := by decide +kernel
theorem dX3_cellCause_41 : decode cX3_cellCause 41 = .ok (.iaload, 1) := by decide +kernel
theorem dX3_cellCause_42 : decode cX3_cellCause 42 = .ok (.iconst 1, 1) := by decide +kernel
theorem dX3_cellCause_43 : decode cX3_cellCause 43 = .ok (.isub, 1) := by decide +kernel
theorem dX3_cellCause_44 : decode cX3_cellCause 44 = .ok (.invokestatic 58, 3) := by decide +kernel
theorem dX3_cellCause_47 : decode cX3_cellCause 47 = .ok (.ifCond .eq 7, 3) := by decide +kernel
theorem dX3_cellCause_50 : decode cX3_cellCause 50 = .ok (.iconst 0, 1) := by decide +kernel
theorem dX3_cellCause_51 : decode cX3_cellCause 51 = .ok (.goto 4, 3) := by decide +kernel
theorem dX3_cellCause_54 : decode cX3_cellCause 54 = .ok (.iconst 2, 1) := by decide +kernel
theorem dX3_cellCause_55 : decode cX3_cellCause 55 = .ok (.ireturn, 1) := by decide +kernel
theorem dX3_put_0 : decode cX3_put 0 = .ok (.aload_n 0, 1) := by decide +kernel
theorem dX3_put_1 : decode cX3_put 1 = .ok (.iload_n 1, 1) := by decide +kernel
theorem dX3_put_2 : decode cX3_put 2 = .ok (.invokevirtual 79, 3) := by decide +kernel
theorem dX3_put_5 : decode cX3_put 5 = .ok (.ifCond .eq 29, 3) := by decide +kernel
theorem dX3_put_8 : decode cX3_put 8 = .ok (.aload_n 0, 1) := by decide +kernel
theorem dX3_put_9 : decode cX3_put 9 = .ok (.getfield 7, 3) := by decide +kernel
theorem dX3_put_12 : decode cX3_put 12 = .ok (.iload_n 1, 1) := by decide +kernel
theorem dX3_put_13 : decode cX3_put 13 = .ok (.iaload, 1) := by decide +kernel
theorem dX3_put_14 : decode cX3_put 14 = .ok (.iconst 3, 1) := by decide +kernel
theorem dX3_put_15 : decode cX3_put 15 = .ok (.if_icmp .ne 22, 3) := by decide +kernel
theorem dX3_put_18 : decode cX3_put 18 = .ok (.iload 4, 2) := by decide +kernel
theorem dX3_put_20 : decode cX3_put 20 = .ok (.ldc 65, 2) := by decide +kernel
theorem dX3_put_22 : decode cX3_put 22 = .ok (.if_icmp .eq 15, 3) := by decide +kernel
theorem dX3_put_25 : decode cX3_put 25 = .ok (.aload_n 0, 1) := by decide +kernel
theorem dX3_put_26 : decode cX3_put 26 = .ok (.iload 4, 2) := by decide +kernel
theorem dX3_put_28 : decode cX3_put 28 = .ok (.invokevirtual 79, 3) := by decide +kernel
theorem dX3_put_31 : decode cX3_put 31 = .ok (.ifCond .ne 6, 3) := by decide +kernel
theorem dX3_put_34 : decode cX3_put 34 = .ok (.ldc 83, 2) := by decide +kernel
theorem dX3_put_36 : decode cX3_put 36 = .ok (.ireturn, 1) := by decide +kernel
theorem dX3_put_37 : decode cX3_put 37 = .ok (.aload_n 0, 1) := by decide +kernel
theorem dX3_put_38 : decode cX3_put 38 = .ok (.iload_n 1, 1) := by decide +kernel
theorem dX3_put_39 : decode cX3_put 39 = .ok (.iload_n 2, 1) := by decide +kernel
theorem dX3_put_40 : decode cX3_put 40 = .ok (.iload_n 3, 1) := by decide +kernel
theorem dX3_put_41 : decode cX3_put 41 = .ok (.invokevirtual 91, 3) := by decide +kernel
theorem dX3_put_44 : decode cX3_put 44 = .ok (.istore 5, 2) := by decide +kernel
theorem dX3_put_46 : decode cX3_put 46 = .ok (.iload 5, 2) := by decide +kernel
theorem dX3_put_48 : decode cX3_put 48 = .ok (.ifCond .le 10, 3) := by decide +kernel
theorem dX3_put_51 : decode cX3_put 51 = .ok (.aload_n 0, 1) := by decide +kernel
theorem dX3_put_52 : decode cX3_put 52 = .ok (.iload 5, 2) := by decide +kernel
theorem dX3_put_54 : decode cX3_put 54 = .ok (.invokevirtual 75, 3) := by decide +kernel
theorem dX3_put_57 : decode cX3_put 57 = .ok (.ireturn, 1) := by decide +kernel
theorem dX3_put_58 : decode cX3_put 58 = .ok (.bipush 16, 2) := by decide +kernel
theorem dX3_put_60 : decode cX3_put 60 = .ok (.aload_n 0, 1) := by decide +kernel
theorem dX3_put_61 : decode cX3_put 61 = .ok (.getfield 16, 3) := by decide +kernel
theorem dX3_put_64 : decode cX3_put 64 = .ok (.bipush 12, 2) := by decide +kernel
theorem dX3_put_66 : decode cX3_put 66 = .ok (.iload_n 1, 1) := by decide +kernel
theorem dX3_put_67 : decode cX3_put 67 = .ok (.imul, 1) := by decide +kernel
theorem dX3_put_68 : decode cX3_put 68 = .ok (.iload_n 2, 1) := by decide +kernel
theorem dX3_put_69 : decode cX3_put 69 = .ok (.iadd, 1) := by decide +kernel
theorem dX3_put_70 : decode cX3_put 70 = .ok (.iaload, 1) := by decide +kernel
theorem dX3_put_71 : decode cX3_put 71 = .ok (.imul, 1) := by decide +kernel
theorem dX3_put_72 : decode cX3_put 72 = .ok (.iload_n 3, 1) := by decide +kernel
theorem dX3_put_73 : decode cX3_put 73 = .ok (.iadd, 1) := by decide +kernel
theorem dX3_put_74 : decode cX3_put 74 = .ok (.istore 6, 2) := by decide +kernel
theorem dX3_put_76 : decode cX3_put 76 = .ok (.aload_n 0, 1) := by decide +kernel
theorem dX3_put_77 : decode cX3_put 77 = .ok (.getfield 22, 3) := by decide +kernel
theorem dX3_put_80 : decode cX3_put 80 = .ok (.iload 6, 2) := by decide +kernel
theorem dX3_put_82 : decode cX3_put 82 = .ok (.aload_n 0, 1) := by decide +kernel
theorem dX3_put_83 : decode cX3_put 83 = .ok (.getfield 7, 3) := by decide +kernel
theorem dX3_put_86 : decode cX3_put 86 = .ok (.iload_n 1, 1) := by decide +kernel
theorem dX3_put_87 : decode cX3_put 87 = .ok (.iaload, 1) := by decide +kernel
theorem dX3_put_88 : decode cX3_put 88 = .ok (.ifCond .ne 16, 3) := by decide +kernel
theorem dX3_put_91 : decode cX3_put 91 = .ok (.iload 4, 2) := by decide +kernel
theorem dX3_put_93 : decode cX3_put 93 = .ok (.ifCond .ne 7, 3) := by decide +kernel
theorem dX3_put_96 : decode cX3_put 96 = .ok (.iconst 0, 1) := by decide +kernel
theorem dX3_put_97 : decode cX3_put 97 = .ok (.goto 9, 3) := by decide +kernel
theorem dX3_put_100 : decode cX3_put 100 = .ok (.iconst 1, 1) := by decide +kernel
theorem dX3_put_101 : decode cX3_put 101 = .ok (.goto 5, 3) := by decide +kernel
theorem dX3_put_104 : decode cX3_put 104 = .ok (.iload 4, 2) := by decide +kernel
theorem dX3_put_106 : decode cX3_put 106 = .ok (.iastore, 1) := by decide +kernel
theorem dX3_put_107 : decode cX3_put 107 = .ok (.aload_n 0, 1) := by decide +kernel
theorem dX3_put_108 : decode cX3_put 108 = .ok (.getfield 25, 3) := by decide +kernel
theorem dX3_put_111 : decode cX3_put 111 = .ok (.iload 6, 2) := by decide +kernel
theorem dX3_put_113 : decode cX3_put 113 = .ok (.iload 4, 2) := by decide +kernel
theorem dX3_put_115 : decode cX3_put 115 = .ok (.i2d, 1) := by decide +kernel
theorem dX3_put_116 : decode cX3_put 116 = .ok (.ldc2_w 95, 3) := by decide +kernel
theorem dX3_put_119 : decode cX3_put 119 = .ok (.ddiv, 1) := by decide +kernel
theorem dX3_put_120 : decode cX3_put 120 = .ok (.dastore, 1) := by decide +kernel
theorem dX3_put_121 : decode cX3_put 121 = .ok (.iconst 1, 1) := by decide +kernel
theorem dX3_put_122 : decode cX3_put 122 = .ok (.ireturn, 1) := by decide +kernel
theorem dX3_get_0 : decode cX3_get 0 = .ok (.aload_n 0, 1) := by decide +kernel
theorem dX3_get_1 : decode cX3_get 1 = .ok (.iload_n 1, 1) := by decide +kernel
theorem dX3_get_2 : decode cX3_get 2 = .ok (.invokevirtual 79, 3) := by decide +kernel
theorem dX3_get_5 : decode cX3_get 5 = .ok (.ifCond .ne 6, 3) := by decide +kernel
theorem dX3_get_8 : decode cX3_get 8 = .ok (.ldc 83, 2) := by decide +kernel
theorem dX3_get_10 : decode cX3_get 10 = .ok (.ireturn, 1) := by decide +kernel
theorem dX3_get_11 : decode cX3_get 11 = .ok (.aload_n 0, 1) := by decide +kernel
theorem dX3_get_12 : decode cX3_get 12 = .ok (.iload_n 1, 1) := by decide +kernel
theorem dX3_get_13 : decode cX3_get 13 = .ok (.iload_n 2, 1) := by decide +kernel
theorem dX3_get_14 : decode cX3_get 14 = .ok (.iload_n 3, 1) := by decide +kernel
theorem dX3_get_15 : decode cX3_get 15 = .ok (.invokevirtual 91, 3) := by decide +kernel
theorem dX3_get_18 : decode cX3_get 18 = .ok (.istore 4, 2) := by decide +kernel
theorem dX3_get_20 : decode cX3_get 20 = .ok (.iload 4, 2) := by decide +kernel
theorem dX3_get_22 : decode cX3_get 22 = .ok (.ifCond .le 12, 3) := by decide +kernel
theorem dX3_get_25 : decode cX3_get 25 = .ok (.aload_n 0, 1) := by decide +kernel
theorem dX3_get_26 : decode cX3_get 26 = .ok (.iload 4, 2) := by decide +kernel
theorem dX3_get_28 : decode cX3_get 28 = .ok (.invokevirtual 75, 3) := by decide +kernel
theorem dX3_get_31 : decode cX3_get 31 = .ok (.goto 29, 3) := by decide +kernel
theorem dX3_get_34 : decode cX3_get 34 = .ok (.aload_n 0, 1) := by decide +kernel
theorem dX3_get_35 : decode cX3_get 35 = .ok (.aload_n 0, 1) := by decide +kernel
theorem dX3_get_36 : decode cX3_get 36 = .ok (.getfield 7, 3) := by decide +kernel
theorem dX3_get_39 : decode cX3_get 39 = .ok (.iload_n 1, 1) := by decide +kernel
theorem dX3_get_40 : decode cX3_get 40 = .ok (.iaload, 1) := by decide +kernel
theorem dX3_get_41 : decode cX3_get 41 = .ok (.bipush 16, 2) := by decide +kernel
theorem dX3_get_43 : decode cX3_get 43 = .ok (.aload_n 0, 1) := by decide +kernel
theorem dX3_get_44 : decode cX3_get 44 = .ok (.getfield 16, 3) := by decide +kernel
theorem dX3_get_47 : decode cX3_get 47 = .ok (.bipush 12, 2) := by decide +kernel
theorem dX3_get_49 : decode cX3_get 49 = .ok (.iload_n 1, 1) := by decide +kernel
theorem dX3_get_50 : decode cX3_get 50 = .ok (.imul, 1) := by decide +kernel
theorem dX3_get_51 : decode cX3_get 51 = .ok (.iload_n 2, 1) := by decide +kernel
theorem dX3_get_52 : decode cX3_get 52 = .ok (.iadd, 1) := by decide +kernel
theorem dX3_get_53 : decode cX3_get 53 = .ok (.iaload, 1) := by decide +kernel
theorem dX3_get_54 : decode cX3_get 54 = .ok (.imul, 1) := by decide +kernel
theorem dX3_get_55 : decode cX3_get 55 = .ok (.iload_n 3, 1) := by decide +kernel
theorem dX3_get_56 : decode cX3_get 56 = .ok (.iadd, 1) := by decide +kernel
theorem dX3_get_57 : decode cX3_get 57 = .ok (.invokevirtual 97, 3) := by decide +kernel
theorem dX3_get_60 : decode cX3_get 60 = .ok (.ireturn, 1) := by decide +kernel
theorem dX3_toldAt_0 : decode cX3_toldAt 0 = .ok (.iload_n 1, 1) := by decide +kernel
theorem dX3_toldAt_1 : decode cX3_toldAt 1 = .ok (.iconst 2, 1) := by decide +kernel
theorem dX3_toldAt_2 : decode cX3_toldAt 2 = .ok (.if_icmp .ne 13, 3) := by decide +kernel
theorem dX3_toldAt_5 : decode cX3_toldAt 5 = .ok (.aload_n 0, 1) := by decide +kernel
theorem dX3_toldAt_6 : decode cX3_toldAt 6 = .ok (.getfield 25, 3) := by decide +kernel
theorem dX3_toldAt_9 : decode cX3_toldAt 9 = .ok (.iload_n 2, 1) := by decide +kernel
theorem dX3_toldAt_10 : decode cX3_toldAt 10 = .ok (.daload, 1) := by decide +kernel
theorem dX3_toldAt_11 : decode cX3_toldAt 11 = .ok (.d2i, 1) := by decide +kernel
theorem dX3_toldAt_12 : decode cX3_toldAt 12 = .ok (.goto 9, 3) := by decide +kernel
theorem dX3_toldAt_15 : decode cX3_toldAt 15 = .ok (.aload_n 0, 1) := by decide +kernel
theorem dX3_toldAt_16 : decode cX3_toldAt 16 = .ok (.getfield 22, 3) := by decide +kernel
theorem dX3_toldAt_19 : decode cX3_toldAt 19 = .ok (.iload_n 2, 1) := by decide +kernel
theorem dX3_toldAt_20 : decode cX3_toldAt 20 = .ok (.iaload, 1) := by decide +kernel
theorem dX3_toldAt_21 : decode cX3_toldAt 21 = .ok (.ireturn, 1) := by decide +kernel
theorem dX3_real_0 : decode cX3_real 0 = .ok (.aload_n 0, 1) := by decide +kernel
theorem dX3_real_1 : decode cX3_real 1 = .ok (.iload_n 1, 1) := by decide +kernel
theorem dX3_real_2 : decode cX3_real 2 = .ok (.invokevirtual 79, 3) := by decide +kernel
theorem dX3_real_5 : decode cX3_real 5 = .ok (.ifCond .ne 5, 3) := by decide +kernel
theorem dX3_real_8 : decode cX3_real 8 = .ok (.dconst 0, 1) := by decide +kernel
theorem dX3_real_9 : decode cX3_real 9 = .ok (.dreturn, 1) := by decide +kernel
theorem dX3_real_10 : decode cX3_real 10 = .ok (.aload_n 0, 1) := by decide +kernel
theorem dX3_real_11 : decode cX3_real 11 = .ok (.iload_n 1, 1) := by decide +kernel
theorem dX3_real_12 : decode cX3_real 12 = .ok (.iload_n 2, 1) := by decide +kernel
theorem dX3_real_13 : decode cX3_real 13 = .ok (.iload_n 3, 1) := by decide +kernel
theorem dX3_real_14 : decode cX3_real 14 = .ok (.invokevirtual 91, 3) := by decide +kernel
theorem dX3_real_17 : decode cX3_real 17 = .ok (.istore 4, 2) := by decide +kernel
theorem dX3_real_19 : decode cX3_real 19 = .ok (.iload 4, 2) := by decide +kernel
theorem dX3_real_21 : decode cX3_real 21 = .ok (.ifCond .gt 13, 3) := by decide +kernel
theorem dX3_real_24 : decode cX3_real 24 = .ok (.aload_n 0, 1) := by decide +kernel
theorem dX3_real_25 : decode cX3_real 25 = .ok (.getfield 7, 3) := by decide +kernel
theorem dX3_real_28 : decode cX3_real 28 = .ok (.iload_n 1, 1) := by decide +kernel
theorem dX3_real_29 : decode cX3_real 29 = .ok (.iaload, 1) := by decide +kernel
theorem dX3_real_30 : decode cX3_real 30 = .ok (.iconst 2, 1) := by decide +kernel
theorem dX3_real_31 : decode cX3_real 31 = .ok (.if_icmp .eq 7, 3) := by decide +kernel
theorem dX3_real_34 : decode cX3_real 34 = .ok (.dconst 0, 1) := by decide +kernel
theorem dX3_real_35 : decode cX3_real 35 = .ok (.goto 24, 3) := by decide +kernel
theorem dX3_real_38 : decode cX3_real 38 = .ok (.aload_n 0, 1) := by decide +kernel
theorem dX3_real_39 : decode cX3_real 39 = .ok (.getfield 25, 3) := by decide +kernel
theorem dX3_real_42 : decode cX3_real 42 = .ok (.bipush 16, 2) := by decide +kernel
theorem dX3_real_44 : decode cX3_real 44 = .ok (.aload_n 0, 1) := by decide +kernel
theorem dX3_real_45 : decode cX3_real 45 = .ok (.getfield 16, 3) := by decide +kernel
theorem dX3_real_48 : decode cX3_real 48 = .ok (.bipush 12, 2) := by decide +kernel
theorem dX3_real_50 : decode cX3_real 50 = .ok (.iload_n 1, 1) := by decide +kernel
theorem dX3_real_51 : decode cX3_real 51 = .ok (.imul, 1) := by decide +kernel
theorem dX3_real_52 : decode cX3_real 52 = .ok (.iload_n 2, 1) := by decide +kernel
theorem dX3_real_53 : decode cX3_real 53 = .ok (.iadd, 1) := by decide +kernel
theorem dX3_real_54 : decode cX3_real 54 = .ok (.iaload, 1) := by decide +kernel
theorem dX3_real_55 : decode cX3_real 55 = .ok (.imul, 1) := by decide +kernel
theorem dX3_real_56 : decode cX3_real 56 = .ok (.iload_n 3, 1) := by decide +kernel
theorem dX3_real_57 : decode cX3_real 57 = .ok (.iadd, 1) := by decide +kernel
theorem dX3_real_58 : decode cX3_real 58 = .ok (.daload, 1) := by decide +kernel
theorem dX3_real_59 : decode cX3_real 59 = .ok (.dstore 5, 2) := by decide +kernel
theorem dX3_real_61 : decode cX3_real 61 = .ok (.dload 5, 2) := by decide +kernel
theorem dX3_real_63 : decode cX3_real 63 = .ok (.dload 5, 2) := by decide +kernel
theorem dX3_real_65 : decode cX3_real 65 = .ok (.dcmp .l, 1) := by decide +kernel
theorem dX3_real_66 : decode cX3_real 66 = .ok (.ifCond .eq 7, 3) := by decide +kernel
theorem dX3_real_69 : decode cX3_real 69 = .ok (.dconst 0, 1) := by decide +kernel
theorem dX3_real_70 : decode cX3_real 70 = .ok (.goto 5, 3) := by decide +kernel
theorem dX3_real_73 : decode cX3_real 73 = .ok (.dload 5, 2) := by decide +kernel
theorem dX3_real_75 : decode cX3_real 75 = .ok (.dreturn, 1) := by decide +kernel
theorem dX3_told_0 : decode cX3_told 0 = .ok (.aload_n 0, 1) := by decide +kernel
theorem dX3_told_1 : decode cX3_told 1 = .ok (.iload_n 1, 1) := by decide +kernel
theorem dX3_told_2 : decode cX3_told 2 = .ok (.invokevirtual 79, 3) := by decide +kernel
theorem dX3_told_5 : decode cX3_told 5 = .ok (.ifCond .ne 6, 3) := by decide +kernel
theorem dX3_told_8 : decode cX3_told 8 = .ok (.ldc 83, 2) := by decide +kernel
theorem dX3_told_10 : decode cX3_told 10 = .ok (.ireturn, 1) := by decide +kernel
theorem dX3_told_11 : decode cX3_told 11 = .ok (.iload_n 3, 1) := by decide +kernel
theorem dX3_told_12 : decode cX3_told 12 = .ok (.iconst 0, 1) := by decide +kernel
theorem dX3_told_13 : decode cX3_told 13 = .ok (.iconst 2, 1) := by decide +kernel
theorem dX3_told_14 : decode cX3_told 14 = .ok (.invokestatic 58, 3) := by decide +kernel
theorem dX3_told_17 : decode cX3_told 17 = .ok (.ifCond .ne 6, 3) := by decide +kernel
theorem dX3_told_20 : decode cX3_told 20 = .ok (.ldc 73, 2) := by decide +kernel
theorem dX3_told_22 : decode cX3_told 22 = .ok (.ireturn, 1) := by decide +kernel
theorem dX3_told_23 : decode cX3_told 23 = .ok (.iload_n 3, 1) := by decide +kernel
theorem dX3_told_24 : decode cX3_told 24 = .ok (.iconst 2, 1) := by decide +kernel
theorem dX3_told_25 : decode cX3_told 25 = .ok (.if_icmp .ge 23, 3) := by decide +kernel
theorem dX3_told_28 : decode cX3_told 28 = .ok (.iload_n 3, 1) := by decide +kernel
theorem dX3_told_29 : decode cX3_told 29 = .ok (.ifCond .ne 12, 3) := by decide +kernel
theorem dX3_told_32 : decode cX3_told 32 = .ok (.aload_n 0, 1) := by decide +kernel
theorem dX3_told_33 : decode cX3_told 33 = .ok (.getfield 7, 3) := by decide +kernel
theorem dX3_told_36 : decode cX3_told 36 = .ok (.iload_n 1, 1) := by decide +kernel
theorem dX3_told_37 : decode cX3_told 37 = .ok (.iaload, 1) := by decide +kernel
theorem dX3_told_38 : decode cX3_told 38 = .ok (.goto 9, 3) := by decide +kernel
theorem dX3_told_41 : decode cX3_told 41 = .ok (.aload_n 0, 1) := by decide +kernel
theorem dX3_told_42 : decode cX3_told 42 = .ok (.getfield 13, 3) := by decide +kernel
theorem dX3_told_45 : decode cX3_told 45 = .ok (.iload_n 1, 1) := by decide +kernel
theorem dX3_told_46 : decode cX3_told 46 = .ok (.iaload, 1) := by decide +kernel
theorem dX3_told_47 : decode cX3_told 47 = .ok (.ireturn, 1) := by decide +kernel
theorem dX3_told_48 : decode cX3_told 48 = .ok (.aload_n 0, 1) := by decide +kernel
theorem dX3_told_49 : decode cX3_told 49 = .ok (.iload_n 1, 1) := by decide +kernel
theorem dX3_told_50 : decode cX3_told 50 = .ok (.iload_n 2, 1) := by decide +kernel
theorem dX3_told_51 : decode cX3_told 51 = .ok (.invokevirtual 84, 3) := by decide +kernel
theorem dX3_told_54 : decode cX3_told 54 = .ok (.ifCond .ne 9, 3) := by decide +kernel
theorem dX3_told_57 : decode cX3_told 57 = .ok (.aload_n 0, 1) := by decide +kernel
theorem dX3_told_58 : decode cX3_told 58 = .ok (.iconst 2, 1) := by decide +kernel
theorem dX3_told_59 : decode cX3_told 59 = .ok (.invokevirtual 75, 3) := by decide +kernel
theorem dX3_told_62 : decode cX3_told 62 = .ok (.ireturn, 1) := by decide +kernel
theorem dX3_told_63 : decode cX3_told 63 = .ok (.aload_n 0, 1) := by decide +kernel
theorem dX3_told_64 : decode cX3_told 64 = .ok (.getfield 16, 3) := by decide +kernel
theorem dX3_told_67 : decode cX3_told 67 = .ok (.bipush 12, 2) := by decide +kernel
theorem dX3_told_69 : decode cX3_told 69 = .ok (.iload_n 1, 1) := by decide +kernel
theorem dX3_told_70 : decode cX3_told 70 = .ok (.imul, 1) := by decide +kernel
theorem dX3_told_71 : decode cX3_told 71 = .ok (.iload_n 2, 1) := by decide +kernel
theorem dX3_told_72 : decode cX3_told 72 = .ok (.iadd, 1) := by decide +kernel
theorem dX3_told_73 : decode cX3_told 73 = .ok (.iaload, 1) := by decide +kernel
theorem dX3_told_74 : decode cX3_told 74 = .ok (.istore 4, 2) := by decide +kernel
theorem dX3_told_76 : decode cX3_told 76 = .ok (.iload 4, 2) := by decide +kernel
theorem dX3_told_78 : decode cX3_told 78 = .ok (.ifCond .ge 11, 3) := by decide +kernel
theorem dX3_told_81 : decode cX3_told 81 = .ok (.aload_n 0, 1) := by decide +kernel
theorem dX3_told_82 : decode cX3_told 82 = .ok (.iconst 1, 1) := by decide +kernel
theorem dX3_told_83 : decode cX3_told 83 = .ok (.invokevirtual 75, 3) := by decide +kernel
theorem dX3_told_86 : decode cX3_told 86 = .ok (.goto 10, 3) := by decide +kernel
theorem dX3_told_89 : decode cX3_told 89 = .ok (.aload_n 0, 1) := by decide +kernel
theorem dX3_told_90 : decode cX3_told 90 = .ok (.getfield 19, 3) := by decide +kernel
theorem dX3_told_93 : decode cX3_told 93 = .ok (.iload 4, 2) := by decide +kernel
theorem dX3_told_95 : decode cX3_told 95 = .ok (.iaload, 1) := by decide +kernel
theorem dX3_told_96 : decode cX3_told 96 = .ok (.ireturn, 1) := by decide +kernel
theorem dX3_firstOdd_0 : decode cX3_firstOdd 0 = .ok (.iconst 0, 1) := by decide +kernel
theorem dX3_firstOdd_1 : decode cX3_firstOdd 1 = .ok (.istore_n 2, 1) := by decide +kernel
theorem dX3_firstOdd_2 : decode cX3_firstOdd 2 = .ok (.iload_n 2, 1) := by decide +kernel
theorem dX3_firstOdd_3 : decode cX3_firstOdd 3 = .ok (.aload_n 0, 1) := by decide +kernel
theorem dX3_firstOdd_4 : decode cX3_firstOdd 4 = .ok (.getfield 13, 3) := by decide +kernel
theorem dX3_firstOdd_7 : decode cX3_firstOdd 7 = .ok (.iload_n 1, 1) := by decide +kernel
theorem dX3_firstOdd_8 : decode cX3_firstOdd 8 = .ok (.iaload, 1) := by decide +kernel
theorem dX3_firstOdd_9 : decode cX3_firstOdd 9 = .ok (.if_icmp .ge 42, 3) := by decide +kernel
theorem dX3_firstOdd_12 : decode cX3_firstOdd 12 = .ok (.aload_n 0, 1) := by decide +kernel
theorem dX3_firstOdd_13 : decode cX3_firstOdd 13 = .ok (.getfield 16, 3) := by decide +kernel
theorem dX3_firstOdd_16 : decode cX3_firstOdd 16 = .ok (.bipush 12, 2) := by decide +kernel
theorem dX3_firstOdd_18 : decode cX3_firstOdd 18 = .ok (.iload_n 1, 1) := by decide +kernel
theorem dX3_firstOdd_19 : decode cX3_firstOdd 19 = .ok (.imul, 1) := by decide +kernel
theorem dX3_firstOdd_20 : decode cX3_firstOdd 20 = .ok (.iload_n 2, 1) := by decide +kernel
theorem dX3_firstOdd_21 : decode cX3_firstOdd 21 = .ok (.iadd, 1) := by decide +kernel
theorem dX3_firstOdd_22 : decode cX3_firstOdd 22 = .ok (.iaload, 1) := by decide +kernel
theorem dX3_firstOdd_23 : decode cX3_firstOdd 23 = .ok (.istore_n 3, 1) := by decide +kernel
theorem dX3_firstOdd_24 : decode cX3_firstOdd 24 = .ok (.iload_n 3, 1) := by decide +kernel
theorem dX3_firstOdd_25 : decode cX3_firstOdd 25 = .ok (.ifCond .lt 18, 3) := by decide +kernel
theorem dX3_firstOdd_28 : decode cX3_firstOdd 28 = .ok (.aload_n 0, 1) := by decide +kernel
theorem dX3_firstOdd_29 : decode cX3_firstOdd 29 = .ok (.getfield 19, 3) := by decide +kernel
theorem dX3_firstOdd_32 : decode cX3_firstOdd 32 = .ok (.iload_n 3, 1) := by decide +kernel
theorem dX3_firstOdd_33 : decode cX3_firstOdd 33 = .ok (.iaload, 1) := by decide +kernel
theorem dX3_firstOdd_34 : decode cX3_firstOdd 34 = .ok (.aload_n 0, 1) := by decide +kernel
theorem dX3_firstOdd_35 : decode cX3_firstOdd 35 = .ok (.getfield 13, 3) := by decide +kernel
theorem dX3_firstOdd_38 : decode cX3_firstOdd 38 = .ok (.iload_n 1, 1) := by decide +kernel
theorem dX3_firstOdd_39 : decode cX3_firstOdd 39 = .ok (.iaload, 1) := by decide +kernel
theorem dX3_firstOdd_40 : decode cX3_firstOdd 40 = .ok (.if_icmp .eq 5, 3) := by decide +kernel
theorem dX3_firstOdd_43 : decode cX3_firstOdd 43 = .ok (.iload_n 2, 1) := by decide +kernel
theorem dX3_firstOdd_44 : decode cX3_firstOdd 44 = .ok (.ireturn, 1) := by decide +kernel
theorem dX3_firstOdd_45 : decode cX3_firstOdd 45 = .ok (.iinc 2 1, 3) := by decide +kernel
theorem dX3_firstOdd_48 : decode cX3_firstOdd 48 = .ok (.goto (-46), 3) := by decide +kernel
theorem dX3_firstOdd_51 : decode cX3_firstOdd 51 = .ok (.ldc 65, 2) := by decide +kernel
theorem dX3_firstOdd_53 : decode cX3_firstOdd 53 = .ok (.ireturn, 1) := by decide +kernel
theorem dX3_odd_0 : decode cX3_odd 0 = .ok (.aload_n 0, 1) := by decide +kernel
theorem dX3_odd_1 : decode cX3_odd 1 = .ok (.iload_n 1, 1) := by decide +kernel
theorem dX3_odd_2 : decode cX3_odd 2 = .ok (.invokevirtual 79, 3) := by decide +kernel
theorem dX3_odd_5 : decode cX3_odd 5 = .ok (.ifCond .eq 11, 3) := by decide +kernel
theorem dX3_odd_8 : decode cX3_odd 8 = .ok (.aload_n 0, 1) := by decide +kernel
theorem dX3_odd_9 : decode cX3_odd 9 = .ok (.iload_n 1, 1) := by decide +kernel
theorem dX3_odd_10 : decode cX3_odd 10 = .ok (.invokevirtual 100, 3) := by decide +kernel
theorem dX3_odd_13 : decode cX3_odd 13 = .ok (.goto 5, 3) := by decide +kernel
theorem dX3_odd_16 : decode cX3_odd 16 = .ok (.ldc 83, 2) := by decide +kernel
theorem dX3_odd_18 : decode cX3_odd 18 = .ok (.ireturn, 1) := by decide +kernel
theorem dX3_copy_0 : decode cX3_copy 0 = .ok (.aload_n 0, 1) := by decide +kernel
theorem dX3_copy_1 : decode cX3_copy 1 = .ok (.iload_n 1, 1) := by decide +kernel
theorem dX3_copy_2 : decode cX3_copy 2 = .ok (.invokevirtual 79, 3) := by decide +kernel
theorem dX3_copy_5 : decode cX3_copy 5 = .ok (.ifCond .eq 12, 3) := by decide +kernel
theorem dX3_copy_8 : decode cX3_copy 8 = .ok (.aload_n 0, 1) := by decide +kernel
theorem dX3_copy_9 : decode cX3_copy 9 = .ok (.iload 4, 2) := by decide +kernel
theorem dX3_copy_11 : decode cX3_copy 11 = .ok (.invokevirtual 79, 3) := by decide +kernel
theorem dX3_copy_14 : decode cX3_copy 14 = .ok (.ifCond .ne 6, 3) := by decide +kernel
theorem dX3_copy_17 : decode cX3_copy 17 = .ok (.ldc 83, 2) := by decide +kernel
theorem dX3_copy_19 : decode cX3_copy 19 = .ok (.ireturn, 1) := by decide +kernel
theorem dX3_copy_20 : decode cX3_copy 20 = .ok (.aload_n 0, 1) := by decide +kernel
theorem dX3_copy_21 : decode cX3_copy 21 = .ok (.iload_n 1, 1) := by decide +kernel
theorem dX3_copy_22 : decode cX3_copy 22 = .ok (.iload_n 2, 1) := by decide +kernel
theorem dX3_copy_23 : decode cX3_copy 23 = .ok (.invokevirtual 84, 3) := by decide +kernel
theorem dX3_copy_26 : decode cX3_copy 26 = .ok (.ifCond .eq 14, 3) := by decide +kernel
theorem dX3_copy_29 : decode cX3_copy 29 = .ok (.aload_n 0, 1) := by decide +kernel
theorem dX3_copy_30 : decode cX3_copy 30 = .ok (.iload 4, 2) := by decide +kernel
theorem dX3_copy_32 : decode cX3_copy 32 = .ok (.iload 5, 2) := by decide +kernel
theorem dX3_copy_34 : decode cX3_copy 34 = .ok (.invokevirtual 84, 3) := by decide +kernel
theorem dX3_copy_37 : decode cX3_copy 37 = .ok (.ifCond .ne 9, 3) := by decide +kernel
theorem dX3_copy_40 : decode cX3_copy 40 = .ok (.aload_n 0, 1) := by decide +kernel
theorem dX3_copy_41 : decode cX3_copy 41 = .ok (.iconst 2, 1) := by decide +kernel
theorem dX3_copy_42 : decode cX3_copy 42 = .ok (.invokevirtual 75, 3) := by decide +kernel
theorem dX3_copy_45 : decode cX3_copy 45 = .ok (.ireturn, 1) := by decide +kernel
theorem dX3_copy_46 : decode cX3_copy 46 = .ok (.aload_n 0, 1) := by decide +kernel
theorem dX3_copy_47 : decode cX3_copy 47 = .ok (.getfield 16, 3) := by decide +kernel
theorem dX3_copy_50 : decode cX3_copy 50 = .ok (.bipush 12, 2) := by decide +kernel
theorem dX3_copy_52 : decode cX3_copy 52 = .ok (.iload_n 1, 1) := by decide +kernel
theorem dX3_copy_53 : decode cX3_copy 53 = .ok (.imul, 1) := by decide +kernel
theorem dX3_copy_54 : decode cX3_copy 54 = .ok (.iload_n 2, 1) := by decide +kernel
theorem dX3_copy_55 : decode cX3_copy 55 = .ok (.iadd, 1) := by decide +kernel
theorem dX3_copy_56 : decode cX3_copy 56 = .ok (.iaload, 1) := by decide +kernel
theorem dX3_copy_57 : decode cX3_copy 57 = .ok (.istore 8, 2) := by decide +kernel
theorem dX3_copy_59 : decode cX3_copy 59 = .ok (.aload_n 0, 1) := by decide +kernel
theorem dX3_copy_60 : decode cX3_copy 60 = .ok (.getfield 16, 3) := by decide +kernel
theorem dX3_copy_63 : decode cX3_copy 63 = .ok (.bipush 12, 2) := by decide +kernel
theorem dX3_copy_65 : decode cX3_copy 65 = .ok (.iload 4, 2) := by decide +kernel
theorem dX3_copy_67 : decode cX3_copy 67 = .ok (.imul, 1) := by decide +kernel
theorem dX3_copy_68 : decode cX3_copy 68 = .ok (.iload 5, 2) := by decide +kernel
theorem dX3_copy_70 : decode cX3_copy 70 = .ok (.iadd, 1) := by decide +kernel
theorem dX3_copy_71 : decode cX3_copy 71 = .ok (.iaload, 1) := by decide +kernel
theorem dX3_copy_72 : decode cX3_copy 72 = .ok (.istore 9, 2) := by decide +kernel
theorem dX3_copy_74 : decode cX3_copy 74 = .ok (.iload 8, 2) := by decide +kernel
theorem dX3_copy_76 : decode cX3_copy 76 = .ok (.ifCond .lt 8, 3) := by decide +kernel
theorem dX3_copy_79 : decode cX3_copy 79 = .ok (.iload 9, 2) := by decide +kernel
theorem dX3_copy_81 : decode cX3_copy 81 = .ok (.ifCond .ge 9, 3) := by decide +kernel
theorem dX3_copy_84 : decode cX3_copy 84 = .ok (.aload_n 0, 1) := by decide +kernel
theorem dX3_copy_85 : decode cX3_copy 85 = .ok (.iconst 1, 1) := by decide +kernel
theorem dX3_copy_86 : decode cX3_copy 86 = .ok (.invokevirtual 75, 3) := by decide +kernel
theorem dX3_copy_89 : decode cX3_copy 89 = .ok (.ireturn, 1) := by decide +kernel
theorem dX3_copy_90 : decode cX3_copy 90 = .ok (.aload_n 0, 1) := by decide +kernel
theorem dX3_copy_91 : decode cX3_copy 91 = .ok (.getfield 7, 3) := by decide +kernel
theorem dX3_copy_94 : decode cX3_copy 94 = .ok (.iload_n 1, 1) := by decide +kernel
theorem dX3_copy_95 : decode cX3_copy 95 = .ok (.iaload, 1) := by decide +kernel
theorem dX3_copy_96 : decode cX3_copy 96 = .ok (.aload_n 0, 1) := by decide +kernel
theorem dX3_copy_97 : decode cX3_copy 97 = .ok (.getfield 7, 3) := by decide +kernel
theorem dX3_copy_100 : decode cX3_copy 100 = .ok (.iload 4, 2) := by decide +kernel
theorem dX3_copy_102 : decode cX3_copy 102 = .ok (.iaload, 1) := by decide +kernel
theorem dX3_copy_103 : decode cX3_copy 103 = .ok (.if_icmp .eq 9, 3) := by decide +kernel
theorem dX3_copy_106 : decode cX3_copy 106 = .ok (.aload_n 0, 1) := by decide +kernel
theorem dX3_copy_107 : decode cX3_copy 107 = .ok (.iconst 3, 1) := by decide +kernel
theorem dX3_copy_108 : decode cX3_copy 108 = .ok (.invokevirtual 75, 3) := by decide +kernel
theorem dX3_copy_111 : decode cX3_copy 111 = .ok (.ireturn, 1) := by decide +kernel
theorem dX3_copy_112 : decode cX3_copy 112 = .ok (.iload_n 3, 1) := by decide +kernel
theorem dX3_copy_113 : decode cX3_copy 113 = .ok (.ifCond .lt 50, 3) := by decide +kernel
theorem dX3_copy_116 : decode cX3_copy 116 = .ok (.iload 6, 2) := by decide +kernel
theorem dX3_copy_118 : decode cX3_copy 118 = .ok (.ifCond .lt 45, 3) := by decide +kernel
theorem dX3_copy_121 : decode cX3_copy 121 = .ok (.iload 7, 2) := by decide +kernel
theorem dX3_copy_123 : decode cX3_copy 123 = .ok (.ifCond .lt 40, 3) := by decide +kernel
theorem dX3_copy_126 : decode cX3_copy 126 = .ok (.iload_n 3, 1) := by decide +kernel
theorem dX3_copy_127 : decode cX3_copy 127 = .ok (.i2l, 1) := by decide +kernel
theorem dX3_copy_128 : decode cX3_copy 128 = .ok (.iload 7, 2) := by decide +kernel
theorem dX3_copy_130 : decode cX3_copy 130 = .ok (.i2l, 1) := by decide +kernel
theorem dX3_copy_131 : decode cX3_copy 131 = .ok (.ladd, 1) := by decide +kernel
theorem dX3_copy_132 : decode cX3_copy 132 = .ok (.aload_n 0, 1) := by decide +kernel
theorem dX3_copy_133 : decode cX3_copy 133 = .ok (.getfield 19, 3) := by decide +kernel
theorem dX3_copy_136 : decode cX3_copy 136 = .ok (.iload 8, 2) := by decide +kernel
theorem dX3_copy_138 : decode cX3_copy 138 = .ok (.iaload, 1) := by decide +kernel
theorem dX3_copy_139 : decode cX3_copy 139 = .ok (.i2l, 1) := by decide +kernel
theorem dX3_copy_140 : decode cX3_copy 140 = .ok (.lcmp, 1) := by decide +kernel
theorem dX3_copy_141 : decode cX3_copy 141 = .ok (.ifCond .gt 22, 3) := by decide +kernel
theorem dX3_copy_144 : decode cX3_copy 144 = .ok (.iload 6, 2) := by decide +kernel
theorem dX3_copy_146 : decode cX3_copy 146 = .ok (.i2l, 1) := by decide +kernel
theorem dX3_copy_147 : decode cX3_copy 147 = .ok (.iload 7, 2) := by decide +kernel
theorem dX3_copy_149 : decode cX3_copy 149 = .ok (.i2l, 1) := by decide +kernel
theorem dX3_copy_150 : decode cX3_copy 150 = .ok (.ladd, 1) := by decide +kernel
theorem dX3_copy_151 : decode cX3_copy 151 = .ok (.aload_n 0, 1) := by decide +kernel
theorem dX3_copy_152 : decode cX3_copy 152 = .ok (.getfield 19, 3) := by decide +kernel
theorem dX3_copy_155 : decode cX3_copy 155 = .ok (.iload 9, 2) := by decide +kernel
theorem dX3_copy_157 : decode cX3_copy 157 = .ok (.iaload, 1) := by decide +kernel
theorem dX3_copy_158 : decode cX3_copy 158 = .ok (.i2l, 1) := by decide +kernel
theorem dX3_copy_159 : decode cX3_copy 159 = .ok (.lcmp, 1) := by decide +kernel
theorem dX3_copy_160 : decode cX3_copy 160 = .ok (.ifCond .le 9, 3) := by decide +kernel
theorem dX3_copy_163 : decode cX3_copy 163 = .ok (.aload_n 0, 1) := by decide +kernel
theorem dX3_copy_164 : decode cX3_copy 164 = .ok (.iconst 2, 1) := by decide +kernel
theorem dX3_copy_165 : decode cX3_copy 165 = .ok (.invokevirtual 75, 3) := by decide +kernel
theorem dX3_copy_168 : decode cX3_copy 168 = .ok (.ireturn, 1) := by decide +kernel
theorem dX3_copy_169 : decode cX3_copy 169 = .ok (.iconst 0, 1) := by decide +kernel
theorem dX3_copy_170 : decode cX3_copy 170 = .ok (.istore 10, 2) := by decide +kernel
theorem dX3_copy_172 : decode cX3_copy 172 = .ok (.iload 10, 2) := by decide +kernel
theorem dX3_copy_174 : decode cX3_copy 174 = .ok (.iload 7, 2) := by decide +kernel
theorem dX3_copy_176 : decode cX3_copy 176 = .ok (.if_icmp .ge 98, 3) := by decide +kernel
theorem dX3_copy_179 : decode cX3_copy 179 = .ok (.iload 8, 2) := by decide +kernel
theorem dX3_copy_181 : decode cX3_copy 181 = .ok (.iload 9, 2) := by decide +kernel
theorem dX3_copy_183 : decode cX3_copy 183 = .ok (.if_icmp .ne 19, 3) := by decide +kernel
theorem dX3_copy_186 : decode cX3_copy 186 = .ok (.iload_n 3, 1) := by decide +kernel
theorem dX3_copy_187 : decode cX3_copy 187 = .ok (.iload 6, 2) := by decide +kernel
theorem dX3_copy_189 : decode cX3_copy 189 = .ok (.if_icmp .ge 13, 3) := by decide +kernel
theorem dX3_copy_192 : decode cX3_copy 192 = .ok (.iload 7, 2) := by decide +kernel
theorem dX3_copy_194 : decode cX3_copy 194 = .ok (.iconst 1, 1) := by decide +kernel
theorem dX3_copy_195 : decode cX3_copy 195 = .ok (.isub, 1) := by decide +kernel
theorem dX3_copy_196 : decode cX3_copy 196 = .ok (.iload 10, 2) := by decide +kernel
theorem dX3_copy_198 : decode cX3_copy 198 = .ok (.isub, 1) := by decide +kernel
theorem dX3_copy_199 : decode cX3_copy 199 = .ok (.goto 5, 3) := by decide +kernel
theorem dX3_copy_202 : decode cX3_copy 202 = .ok (.iload 10, 2) := by decide +kernel
theorem dX3_copy_204 : decode cX3_copy 204 = .ok (.istore 11, 2) := by decide +kernel
theorem dX3_copy_206 : decode cX3_copy 206 = .ok (.aload_n 0, 1) := by decide +kernel
theorem dX3_copy_207 : decode cX3_copy 207 = .ok (.getfield 22, 3) := by decide +kernel
theorem dX3_copy_210 : decode cX3_copy 210 = .ok (.bipush 16, 2) := by decide +kernel
theorem dX3_copy_212 : decode cX3_copy 212 = .ok (.iload 9, 2) := by decide +kernel
theorem dX3_copy_214 : decode cX3_copy 214 = .ok (.imul, 1) := by decide +kernel
theorem dX3_copy_215 : decode cX3_copy 215 = .ok (.iload 6, 2) := by decide +kernel
theorem dX3_copy_217 : decode cX3_copy 217 = .ok (.iadd, 1) := by decide +kernel
theorem dX3_copy_218 : decode cX3_copy 218 = .ok (.iload 11, 2) := by decide +kernel
theorem dX3_copy_220 : decode cX3_copy 220 = .ok (.iadd, 1) := by decide +kernel
theorem dX3_copy_221 : decode cX3_copy 221 = .ok (.aload_n 0, 1) := by decide +kernel
theorem dX3_copy_222 : decode cX3_copy 222 = .ok (.getfield 22, 3) := by decide +kernel
theorem dX3_copy_225 : decode cX3_copy 225 = .ok (.bipush 16, 2) := by decide +kernel
theorem dX3_copy_227 : decode cX3_copy 227 = .ok (.iload 8, 2) := by decide +kernel
theorem dX3_copy_229 : decode cX3_copy 229 = .ok (.imul, 1) := by decide +kernel
theorem dX3_copy_230 : decode cX3_copy 230 = .ok (.iload_n 3, 1) := by decide +kernel
theorem dX3_copy_231 : decode cX3_copy 231 = .ok (.iadd, 1) := by decide +kernel
theorem dX3_copy_232 : decode cX3_copy 232 = .ok (.iload 11, 2) := by decide +kernel
theorem dX3_copy_234 : decode cX3_copy 234 = .ok (.iadd, 1) := by decide +kernel
theorem dX3_copy_235 : decode cX3_copy 235 = .ok (.iaload, 1) := by decide +kernel
theorem dX3_copy_236 : decode cX3_copy 236 = .ok (.iastore, 1) := by decide +kernel
theorem dX3_copy_237 : decode cX3_copy 237 = .ok (.aload_n 0, 1) := by decide +kernel
theorem dX3_copy_238 : decode cX3_copy 238 = .ok (.getfield 25, 3) := by decide +kernel
theorem dX3_copy_241 : decode cX3_copy 241 = .ok (.bipush 16, 2) := by decide +kernel
theorem dX3_copy_243 : decode cX3_copy 243 = .ok (.iload 9, 2) := by decide +kernel
theorem dX3_copy_245 : decode cX3_copy 245 = .ok (.imul, 1) := by decide +kernel
theorem dX3_copy_246 : decode cX3_copy 246 = .ok (.iload 6, 2) := by decide +kernel
theorem dX3_copy_248 : decode cX3_copy 248 = .ok (.iadd, 1) := by decide +kernel
theorem dX3_copy_249 : decode cX3_copy 249 = .ok (.iload 11, 2) := by decide +kernel
theorem dX3_copy_251 : decode cX3_copy 251 = .ok (.iadd, 1) := by decide +kernel
theorem dX3_copy_252 : decode cX3_copy 252 = .ok (.aload_n 0, 1) := by decide +kernel
theorem dX3_copy_253 : decode cX3_copy 253 = .ok (.getfield 25, 3) := by decide +kernel
theorem dX3_copy_256 : decode cX3_copy 256 = .ok (.bipush 16, 2) := by decide +kernel
theorem dX3_copy_258 : decode cX3_copy 258 = .ok (.iload 8, 2) := by decide +kernel
theorem dX3_copy_260 : decode cX3_copy 260 = .ok (.imul, 1) := by decide +kernel
theorem dX3_copy_261 : decode cX3_copy 261 = .ok (.iload_n 3, 1) := by decide +kernel
theorem dX3_copy_262 : decode cX3_copy 262 = .ok (.iadd, 1) := by decide +kernel
theorem dX3_copy_263 : decode cX3_copy 263 = .ok (.iload 11, 2) := by decide +kernel
theorem dX3_copy_265 : decode cX3_copy 265 = .ok (.iadd, 1) := by decide +kernel
theorem dX3_copy_266 : decode cX3_copy 266 = .ok (.daload, 1) := by decide +kernel
theorem dX3_copy_267 : decode cX3_copy 267 = .ok (.dastore, 1) := by decide +kernel
theorem dX3_copy_268 : decode cX3_copy 268 = .ok (.iinc 10 1, 3) := by decide +kernel
theorem dX3_copy_271 : decode cX3_copy 271 = .ok (.goto (-99), 3) := by decide +kernel
theorem dX3_copy_274 : decode cX3_copy 274 = .ok (.iconst 1, 1) := by decide +kernel
theorem dX3_copy_275 : decode cX3_copy 275 = .ok (.ireturn, 1) := by decide +kernel
theorem dX3_isEven_0 : decode cX3_isEven 0 = .ok (.iconst 1, 1) := by decide +kernel
theorem dX3_isEven_1 : decode cX3_isEven 1 = .ok (.istore_n 2, 1) := by decide +kernel
theorem dX3_isEven_2 : decode cX3_isEven 2 = .ok (.iconst 0, 1) := by decide +kernel
theorem dX3_isEven_3 : decode cX3_isEven 3 = .ok (.istore_n 3, 1) := by decide +kernel
theorem dX3_isEven_4 : decode cX3_isEven 4 = .ok (.iload_n 3, 1) := by decide +kernel
theorem dX3_isEven_5 : decode cX3_isEven 5 = .ok (.aload_n 0, 1) := by decide +kernel
theorem dX3_isEven_6 : decode cX3_isEven 6 = .ok (.getfield 13, 3) := by decide +kernel
theorem dX3_isEven_9 : decode cX3_isEven 9 = .ok (.iload_n 1, 1) := by decide +kernel
theorem dX3_isEven_10 : decode cX3_isEven 10 = .ok (.iaload, 1) := by decide +kernel
theorem dX3_isEven_11 : decode cX3_isEven 11 = .ok (.if_icmp .ge 52, 3) := by decide +kernel
theorem dX3_isEven_14 : decode cX3_isEven 14 = .ok (.aload_n 0, 1) := by decide +kernel
theorem dX3_isEven_15 : decode cX3_isEven 15 = .ok (.getfield 16, 3) := by decide +kernel
theorem dX3_isEven_18 : decode cX3_isEven 18 = .ok (.bipush 12, 2) := by decide +kernel
theorem dX3_isEven_20 : decode cX3_isEven 20 = .ok (.iload_n 1, 1) := by decide +kernel
theorem dX3_isEven_21 : decode cX3_isEven 21 = .ok (.imul, 1) := by decide +kernel
theorem dX3_isEven_22 : decode cX3_isEven 22 = .ok (.iload_n 3, 1) := by decide +kernel
theorem dX3_isEven_23 : decode cX3_isEven 23 = .ok (.iadd, 1) := by decide +kernel
theorem dX3_isEven_24 : decode cX3_isEven 24 = .ok (.iaload, 1) := by decide +kernel
theorem dX3_isEven_25 : decode cX3_isEven 25 = .ok (.istore 4, 2) := by decide +kernel
theorem dX3_isEven_27 : decode cX3_isEven 27 = .ok (.iload_n 2, 1) := by decide +kernel
theorem dX3_isEven_28 : decode cX3_isEven 28 = .ok (.ifCond .eq 27, 3) := by decide +kernel
theorem dX3_isEven_31 : decode cX3_isEven 31 = .ok (.iload 4, 2) := by decide +kernel
theorem dX3_isEven_33 : decode cX3_isEven 33 = .ok (.ifCond .lt 22, 3) := by decide +kernel
theorem dX3_isEven_36 : decode cX3_isEven 36 = .ok (.aload_n 0, 1) := by decide +kernel
theorem dX3_isEven_37 : decode cX3_isEven 37 = .ok (.getfield 19, 3) := by decide +kernel
theorem dX3_isEven_40 : decode cX3_isEven 40 = .ok (.iload 4, 2) := by decide +kernel
theorem dX3_isEven_42 : decode cX3_isEven 42 = .ok (.iaload, 1) := by decide +kernel
theorem dX3_isEven_43 : decode cX3_isEven 43 = .ok (.aload_n 0, 1) := by decide +kernel
theorem dX3_isEven_44 : decode cX3_isEven 44 = .ok (.iload_n 1, 1) := by decide +kernel
theorem dX3_isEven_45 : decode cX3_isEven 45 = .ok (.invokevirtual 103, 3) := by decide +kernel
theorem dX3_isEven_48 : decode cX3_isEven 48 = .ok (.if_icmp .ne 7, 3) := by decide +kernel
theorem dX3_isEven_51 : decode cX3_isEven 51 = .ok (.iconst 1, 1) := by decide +kernel
theorem dX3_isEven_52 : decode cX3_isEven 52 = .ok (.goto 4, 3) := by decide +kernel
theorem dX3_isEven_55 : decode cX3_isEven 55 = .ok (.iconst 0, 1) := by decide +kernel
theorem dX3_isEven_56 : decode cX3_isEven 56 = .ok (.istore_n 2, 1) := by decide +kernel
theorem dX3_isEven_57 : decode cX3_isEven 57 = .ok (.iinc 3 1, 3) := by decide +kernel
theorem dX3_isEven_60 : decode cX3_isEven 60 = .ok (.goto (-56), 3) := by decide +kernel
theorem dX3_isEven_63 : decode cX3_isEven 63 = .ok (.iload_n 2, 1) := by decide +kernel
theorem dX3_isEven_64 : decode cX3_isEven 64 = .ok (.ireturn, 1) := by decide +kernel
theorem dX3_wideOf_0 : decode cX3_wideOf 0 = .ok (.aload_n 0, 1) := by decide +kernel
theorem dX3_wideOf_1 : decode cX3_wideOf 1 = .ok (.getfield 13, 3) := by decide +kernel
theorem dX3_wideOf_4 : decode cX3_wideOf 4 = .ok (.iload_n 1, 1) := by decide +kernel
theorem dX3_wideOf_5 : decode cX3_wideOf 5 = .ok (.iaload, 1) := by decide +kernel
theorem dX3_wideOf_6 : decode cX3_wideOf 6 = .ok (.ifCond .eq 15, 3) := by decide +kernel
theorem dX3_wideOf_9 : decode cX3_wideOf 9 = .ok (.aload_n 0, 1) := by decide +kernel
theorem dX3_wideOf_10 : decode cX3_wideOf 10 = .ok (.getfield 16, 3) := by decide +kernel
theorem dX3_wideOf_13 : decode cX3_wideOf 13 = .ok (.bipush 12, 2) := by decide +kernel
theorem dX3_wideOf_15 : decode cX3_wideOf 15 = .ok (.iload_n 1, 1) := by decide +kernel
theorem dX3_wideOf_16 : decode cX3_wideOf 16 = .ok (.imul, 1) := by decide +kernel
theorem dX3_wideOf_17 : decode cX3_wideOf 17 = .ok (.iaload, 1) := by decide +kernel
theorem dX3_wideOf_18 : decode cX3_wideOf 18 = .ok (.ifCond .ge 7, 3) := by decide +kernel
theorem dX3_wideOf_21 : decode cX3_wideOf 21 = .ok (.iconst 0, 1) := by decide +kernel
theorem dX3_wideOf_22 : decode cX3_wideOf 22 = .ok (.goto 17, 3) := by decide +kernel
theorem dX3_wideOf_25 : decode cX3_wideOf 25 = .ok (.aload_n 0, 1) := by decide +kernel
theorem dX3_wideOf_26 : decode cX3_wideOf 26 = .ok (.getfield 19, 3) := by decide +kernel
theorem dX3_wideOf_29 : decode cX3_wideOf 29 = .ok (.aload_n 0, 1) := by decide +kernel
theorem dX3_wideOf_30 : decode cX3_wideOf 30 = .ok (.getfield 16, 3) := by decide +kernel
theorem dX3_wideOf_33 : decode cX3_wideOf 33 = .ok (.bipush 12, 2) := by decide +kernel
theorem dX3_wideOf_35 : decode cX3_wideOf 35 = .ok (.iload_n 1, 1) := by decide +kernel
theorem dX3_wideOf_36 : decode cX3_wideOf 36 = .ok (.imul, 1) := by decide +kernel
theorem dX3_wideOf_37 : decode cX3_wideOf 37 = .ok (.iaload, 1) := by decide +kernel
theorem dX3_wideOf_38 : decode cX3_wideOf 38 = .ok (.iaload, 1) := by decide +kernel
theorem dX3_wideOf_39 : decode cX3_wideOf 39 = .ok (.ireturn, 1) := by decide +kernel
theorem dX3_cellOf_0 : decode cX3_cellOf 0 = .ok (.bipush 16, 2) := by decide +kernel
theorem dX3_cellOf_2 : decode cX3_cellOf 2 = .ok (.aload_n 0, 1) := by decide +kernel
theorem dX3_cellOf_3 : decode cX3_cellOf 3 = .ok (.getfield 16, 3) := by decide +kernel
theorem dX3_cellOf_6 : decode cX3_cellOf 6 = .ok (.bipush 12, 2) := by decide +kernel
theorem dX3_cellOf_8 : decode cX3_cellOf 8 = .ok (.iload_n 1, 1) := by decide +kernel
theorem dX3_cellOf_9 : decode cX3_cellOf 9 = .ok (.imul, 1) := by decide +kernel
theorem dX3_cellOf_10 : decode cX3_cellOf 10 = .ok (.iload_n 2, 1) := by decide +kernel
theorem dX3_cellOf_11 : decode cX3_cellOf 11 = .ok (.iadd, 1) := by decide +kernel
theorem dX3_cellOf_12 : decode cX3_cellOf 12 = .ok (.iaload, 1) := by decide +kernel
theorem dX3_cellOf_13 : decode cX3_cellOf 13 = .ok (.imul, 1) := by decide +kernel
theorem dX3_cellOf_14 : decode cX3_cellOf 14 = .ok (.iload_n 3, 1) := by decide +kernel
theorem dX3_cellOf_15 : decode cX3_cellOf 15 = .ok (.iadd, 1) := by decide +kernel
theorem dX3_cellOf_16 : decode cX3_cellOf 16 = .ok (.ireturn, 1) := by decide +kernel
theorem dX3_turned_0 : decode cX3_turned 0 = .ok (.aload_n 0, 1) := by decide +kernel
theorem dX3_turned_1 : decode cX3_turned 1 = .ok (.iload_n 1, 1) := by decide +kernel
theorem dX3_turned_2 : decode cX3_turned 2 = .ok (.invokevirtual 79, 3) := by decide +kernel
theorem dX3_turned_5 : decode cX3_turned 5 = .ok (.ifCond .ne 6, 3) := by decide +kernel
theorem dX3_turned_8 : decode cX3_turned 8 = .ok (.ldc 83, 2) := by decide +kernel
theorem dX3_turned_10 : decode cX3_turned 10 = .ok (.ireturn, 1) := by decide +kernel
theorem dX3_turned_11 : decode cX3_turned 11 = .ok (.aload_n 0, 1) := by decide +kernel
theorem dX3_turned_12 : decode cX3_turned 12 = .ok (.iload_n 1, 1) := by decide +kernel
theorem dX3_turned_13 : decode cX3_turned 13 = .ok (.invokevirtual 106, 3) := by decide +kernel
theorem dX3_turned_16 : decode cX3_turned 16 = .ok (.ifCond .eq 13, 3) := by decide +kernel
theorem dX3_turned_19 : decode cX3_turned 19 = .ok (.aload_n 0, 1) := by decide +kernel
theorem dX3_turned_20 : decode cX3_turned 20 = .ok (.iload_n 1, 1) := by decide +kernel
theorem dX3_turned_21 : decode cX3_turned 21 = .ok (.invokevirtual 103, 3) := by decide +kernel
theorem dX3_turned_24 : decode cX3_turned 24 = .ok (.bipush 12, 2) := by decide +kernel
theorem dX3_turned_26 : decode cX3_turned 26 = .ok (.if_icmp .le 6, 3) := by decide +kernel
theorem dX3_turned_29 : decode cX3_turned 29 = .ok (.ldc 109, 2) := by decide +kernel
theorem dX3_turned_31 : decode cX3_turned 31 = .ok (.ireturn, 1) := by decide +kernel
theorem dX3_turned_32 : decode cX3_turned 32 = .ok (.aload_n 0, 1) := by decide +kernel
theorem dX3_turned_33 : decode cX3_turned 33 = .ok (.getfield 55, 3) := by decide +kernel
theorem dX3_turned_36 : decode cX3_turned 36 = .ok (.bipush 16, 2) := by decide +kernel
theorem dX3_turned_38 : decode cX3_turned 38 = .ok (.if_icmp .ne 6, 3) := by decide +kernel
theorem dX3_turned_41 : decode cX3_turned 41 = .ok (.ldc 74, 2) := by decide +kernel
theorem dX3_turned_43 : decode cX3_turned 43 = .ok (.ireturn, 1) := by decide +kernel
theorem dX3_turned_44 : decode cX3_turned 44 = .ok (.aload_n 0, 1) := by decide +kernel
theorem dX3_turned_45 : decode cX3_turned 45 = .ok (.invokevirtual 88, 3) := by decide +kernel
theorem dX3_turned_48 : decode cX3_turned 48 = .ok (.aload_n 0, 1) := by decide +kernel
theorem dX3_turned_49 : decode cX3_turned 49 = .ok (.aload_n 0, 1) := by decide +kernel
theorem dX3_turned_50 : decode cX3_turned 50 = .ok (.getfield 7, 3) := by decide +kernel
theorem dX3_turned_53 : decode cX3_turned 53 = .ok (.iload_n 1, 1) := by decide +kernel
theorem dX3_turned_54 : decode cX3_turned 54 = .ok (.iaload, 1) := by decide +kernel
theorem dX3_turned_55 : decode cX3_turned 55 = .ok (.aload_n 0, 1) := by decide +kernel
theorem dX3_turned_56 : decode cX3_turned 56 = .ok (.iload_n 1, 1) := by decide +kernel
theorem dX3_turned_57 : decode cX3_turned 57 = .ok (.invokevirtual 103, 3) := by decide +kernel
theorem dX3_turned_60 : decode cX3_turned 60 = .ok (.aload_n 0, 1) := by decide +kernel
theorem dX3_turned_61 : decode cX3_turned 61 = .ok (.getfield 13, 3) := by decide +kernel
theorem dX3_turned_64 : decode cX3_turned 64 = .ok (.iload_n 1, 1) := by decide +kernel
theorem dX3_turned_65 : decode cX3_turned 65 = .ok (.iaload, 1) := by decide +kernel
theorem dX3_turned_66 : decode cX3_turned 66 = .ok (.invokevirtual 110, 3) := by decide +kernel
theorem dX3_turned_69 : decode cX3_turned 69 = .ok (.istore_n 2, 1) := by decide +kernel
theorem dX3_turned_70 : decode cX3_turned 70 = .ok (.iconst 0, 1) := by decide +kernel
theorem dX3_turned_71 : decode cX3_turned 71 = .ok (.istore_n 3, 1) := by decide +kernel
theorem dX3_turned_72 : decode cX3_turned 72 = .ok (.iload_n 3, 1) := by decide +kernel
theorem dX3_turned_73 : decode cX3_turned 73 = .ok (.aload_n 0, 1) := by decide +kernel
theorem dX3_turned_74 : decode cX3_turned 74 = .ok (.getfield 13, 3) := by decide +kernel
theorem dX3_turned_77 : decode cX3_turned 77 = .ok (.iload_n 2, 1) := by decide +kernel
theorem dX3_turned_78 : decode cX3_turned 78 = .ok (.iaload, 1) := by decide +kernel
theorem dX3_turned_79 : decode cX3_turned 79 = .ok (.if_icmp .ge 81, 3) := by decide +kernel
theorem dX3_turned_82 : decode cX3_turned 82 = .ok (.iconst 0, 1) := by decide +kernel
theorem dX3_turned_83 : decode cX3_turned 83 = .ok (.istore 4, 2) := by decide +kernel
theorem dX3_turned_85 : decode cX3_turned 85 = .ok (.iload 4, 2) := by decide +kernel
theorem dX3_turned_87 : decode cX3_turned 87 = .ok (.aload_n 0, 1) := by decide +kernel
theorem dX3_turned_88 : decode cX3_turned 88 = .ok (.getfield 13, 3) := by decide +kernel
theorem dX3_turned_91 : decode cX3_turned 91 = .ok (.iload_n 1, 1) := by decide +kernel
theorem dX3_turned_92 : decode cX3_turned 92 = .ok (.iaload, 1) := by decide +kernel
theorem dX3_turned_93 : decode cX3_turned 93 = .ok (.if_icmp .ge 61, 3) := by decide +kernel
theorem dX3_turned_96 : decode cX3_turned 96 = .ok (.aload_n 0, 1) := by decide +kernel
theorem dX3_turned_97 : decode cX3_turned 97 = .ok (.getfield 22, 3) := by decide +kernel
theorem dX3_turned_100 : decode cX3_turned 100 = .ok (.aload_n 0, 1) := by decide +kernel
theorem dX3_turned_101 : decode cX3_turned 101 = .ok (.iload_n 2, 1) := by decide +kernel
theorem dX3_turned_102 : decode cX3_turned 102 = .ok (.iload_n 3, 1) := by decide +kernel
theorem dX3_turned_103 : decode cX3_turned 103 = .ok (.iload 4, 2) := by decide +kernel
theorem dX3_turned_105 : decode cX3_turned 105 = .ok (.invokevirtual 113, 3) := by decide +kernel
theorem dX3_turned_108 : decode cX3_turned 108 = .ok (.aload_n 0, 1) := by decide +kernel
theorem dX3_turned_109 : decode cX3_turned 109 = .ok (.getfield 22, 3) := by decide +kernel
theorem dX3_turned_112 : decode cX3_turned 112 = .ok (.aload_n 0, 1) := by decide +kernel
theorem dX3_turned_113 : decode cX3_turned 113 = .ok (.iload_n 1, 1) := by decide +kernel
theorem dX3_turned_114 : decode cX3_turned 114 = .ok (.iload 4, 2) := by decide +kernel
theorem dX3_turned_116 : decode cX3_turned 116 = .ok (.iload_n 3, 1) := by decide +kernel
theorem dX3_turned_117 : decode cX3_turned 117 = .ok (.invokevirtual 113, 3) := by decide +kernel
theorem dX3_turned_120 : decode cX3_turned 120 = .ok (.iaload, 1) := by decide +kernel
theorem dX3_turned_121 : decode cX3_turned 121 = .ok (.iastore, 1) := by decide +kernel
theorem dX3_turned_122 : decode cX3_turned 122 = .ok (.aload_n 0, 1) := by decide +kernel
theorem dX3_turned_123 : decode cX3_turned 123 = .ok (.getfield 25, 3) := by decide +kernel
theorem dX3_turned_126 : decode cX3_turned 126 = .ok (.aload_n 0, 1) := by decide +kernel
theorem dX3_turned_127 : decode cX3_turned 127 = .ok (.iload_n 2, 1) := by decide +kernel
theorem dX3_turned_128 : decode cX3_turned 128 = .ok (.iload_n 3, 1) := by decide +kernel
theorem dX3_turned_129 : decode cX3_turned 129 = .ok (.iload 4, 2) := by decide +kernel
theorem dX3_turned_131 : decode cX3_turned 131 = .ok (.invokevirtual 113, 3) := by decide +kernel
theorem dX3_turned_134 : decode cX3_turned 134 = .ok (.aload_n 0, 1) := by decide +kernel
theorem dX3_turned_135 : decode cX3_turned 135 = .ok (.getfield 25, 3) := by decide +kernel
theorem dX3_turned_138 : decode cX3_turned 138 = .ok (.aload_n 0, 1) := by decide +kernel
theorem dX3_turned_139 : decode cX3_turned 139 = .ok (.iload_n 1, 1) := by decide +kernel
theorem dX3_turned_140 : decode cX3_turned 140 = .ok (.iload 4, 2) := by decide +kernel
theorem dX3_turned_142 : decode cX3_turned 142 = .ok (.iload_n 3, 1) := by decide +kernel
theorem dX3_turned_143 : decode cX3_turned 143 = .ok (.invokevirtual 113, 3) := by decide +kernel
theorem dX3_turned_146 : decode cX3_turned 146 = .ok (.daload, 1) := by decide +kernel
theorem dX3_turned_147 : decode cX3_turned 147 = .ok (.dastore, 1) := by decide +kernel
theorem dX3_turned_148 : decode cX3_turned 148 = .ok (.iinc 4 1, 3) := by decide +kernel
theorem dX3_turned_151 : decode cX3_turned 151 = .ok (.goto (-66), 3) := by decide +kernel
theorem dX3_turned_154 : decode cX3_turned 154 = .ok (.iinc 3 1, 3) := by decide +kernel
theorem dX3_turned_157 : decode cX3_turned 157 = .ok (.goto (-85), 3) := by decide +kernel
theorem dX3_turned_160 : decode cX3_turned 160 = .ok (.iload_n 2, 1) := by decide +kernel
theorem dX3_turned_161 : decode cX3_turned 161 = .ok (.ireturn, 1) := by decide +kernel
theorem dX3_hasNone_0 : decode cX3_hasNone 0 = .ok (.dload_n 1, 1) := by decide +kernel
theorem dX3_hasNone_1 : decode cX3_hasNone 1 = .ok (.ldc2_w 116, 3) := by decide +kernel
theorem dX3_hasNone_4 : decode cX3_hasNone 4 = .ok (.dcmp .l, 1) := by decide +kernel
theorem dX3_hasNone_5 : decode cX3_hasNone 5 = .ok (.ifCond .gt 11, 3) := by decide +kernel
theorem dX3_hasNone_8 : decode cX3_hasNone 8 = .ok (.dload_n 1, 1) := by decide +kernel
theorem dX3_hasNone_9 : decode cX3_hasNone 9 = .ok (.ldc2_w 118, 3) := by decide +kernel
theorem dX3_hasNone_12 : decode cX3_hasNone 12 = .ok (.dcmp .g, 1) := by decide +kernel
theorem dX3_hasNone_13 : decode cX3_hasNone 13 = .ok (.ifCond .ge 7, 3) := by decide +kernel
theorem dX3_hasNone_16 : decode cX3_hasNone 16 = .ok (.iconst 1, 1) := by decide +kernel
theorem dX3_hasNone_17 : decode cX3_hasNone 17 = .ok (.goto 4, 3) := by decide +kernel
theorem dX3_hasNone_20 : decode cX3_hasNone 20 = .ok (.iconst 0, 1) := by decide +kernel
theorem dX3_hasNone_21 : decode cX3_hasNone 21 = .ok (.istore 5, 2) := by decide +kernel
theorem dX3_hasNone_23 : decode cX3_hasNone 23 = .ok (.dload_n 3, 1) := by decide +kernel
theorem dX3_hasNone_24 : decode cX3_hasNone 24 = .ok (.ldc2_w 116, 3) := by decide +kernel
theorem dX3_hasNone_27 : decode cX3_hasNone 27 = .ok (.dcmp .l, 1) := by decide +kernel
theorem dX3_hasNone_28 : decode cX3_hasNone 28 = .ok (.ifCond .gt 11, 3) := by decide +kernel
theorem dX3_hasNone_31 : decode cX3_hasNone 31 = .ok (.dload_n 3, 1) := by decide +kernel
theorem dX3_hasNone_32 : decode cX3_hasNone 32 = .ok (.ldc2_w 118, 3) := by decide +kernel
theorem dX3_hasNone_35 : decode cX3_hasNone 35 = .ok (.dcmp .g, 1) := by decide +kernel
theorem dX3_hasNone_36 : decode cX3_hasNone 36 = .ok (.ifCond .ge 7, 3) := by decide +kernel
theorem dX3_hasNone_39 : decode cX3_hasNone 39 = .ok (.iconst 1, 1) := by decide +kernel
theorem dX3_hasNone_40 : decode cX3_hasNone 40 = .ok (.goto 4, 3) := by decide +kernel
theorem dX3_hasNone_43 : decode cX3_hasNone 43 = .ok (.iconst 0, 1) := by decide +kernel
theorem dX3_hasNone_44 : decode cX3_hasNone 44 = .ok (.istore 6, 2) := by decide +kernel
theorem dX3_hasNone_46 : decode cX3_hasNone 46 = .ok (.iload_n 0, 1) := by decide +kernel
theorem dX3_hasNone_47 : decode cX3_hasNone 47 = .ok (.tableswitch 188 0 4 #[33, 74, 115, 143, 171], 33) := by decide +kernel
theorem dX3_hasNone_80 : decode cX3_hasNone 80 = .ok (.iload 5, 2) := by decide +kernel
theorem dX3_hasNone_82 : decode cX3_hasNone 82 = .ok (.ifCond .eq 37, 3) := by decide +kernel
theorem dX3_hasNone_85 : decode cX3_hasNone 85 = .ok (.iload 6, 2) := by decide +kernel
theorem dX3_hasNone_87 : decode cX3_hasNone 87 = .ok (.ifCond .eq 32, 3) := by decide +kernel
theorem dX3_hasNone_90 : decode cX3_hasNone 90 = .ok (.dload_n 1, 1) := by decide +kernel
theorem dX3_hasNone_91 : decode cX3_hasNone 91 = .ok (.dconst 0, 1) := by decide +kernel
theorem dX3_hasNone_92 : decode cX3_hasNone 92 = .ok (.dcmp .l, 1) := by decide +kernel
theorem dX3_hasNone_93 : decode cX3_hasNone 93 = .ok (.ifCond .le 7, 3) := by decide +kernel
theorem dX3_hasNone_96 : decode cX3_hasNone 96 = .ok (.iconst 1, 1) := by decide +kernel
theorem dX3_hasNone_97 : decode cX3_hasNone 97 = .ok (.goto 4, 3) := by decide +kernel
theorem dX3_hasNone_100 : decode cX3_hasNone 100 = .ok (.iconst 0, 1) := by decide +kernel
theorem dX3_hasNone_101 : decode cX3_hasNone 101 = .ok (.dload_n 3, 1) := by decide +kernel
theorem dX3_hasNone_102 : decode cX3_hasNone 102 = .ok (.dconst 0, 1) := by decide +kernel
theorem dX3_hasNone_103 : decode cX3_hasNone 103 = .ok (.dcmp .l, 1) := by decide +kernel
theorem dX3_hasNone_104 : decode cX3_hasNone 104 = .ok (.ifCond .le 7, 3) := by decide +kernel
theorem dX3_hasNone_107 : decode cX3_hasNone 107 = .ok (.iconst 1, 1) := by decide +kernel
theorem dX3_hasNone_108 : decode cX3_hasNone 108 = .ok (.goto 4, 3) := by decide +kernel
theorem dX3_hasNone_111 : decode cX3_hasNone 111 = .ok (.iconst 0, 1) := by decide +kernel
theorem dX3_hasNone_112 : decode cX3_hasNone 112 = .ok (.if_icmp .eq 7, 3) := by decide +kernel
theorem dX3_hasNone_115 : decode cX3_hasNone 115 = .ok (.iconst 1, 1) := by decide +kernel
theorem dX3_hasNone_116 : decode cX3_hasNone 116 = .ok (.goto 4, 3) := by decide +kernel
theorem dX3_hasNone_119 : decode cX3_hasNone 119 = .ok (.iconst 0, 1) := by decide +kernel
theorem dX3_hasNone_120 : decode cX3_hasNone 120 = .ok (.ireturn, 1) := by decide +kernel
theorem dX3_hasNone_121 : decode cX3_hasNone 121 = .ok (.iload 5, 2) := by decide +kernel
theorem dX3_hasNone_123 : decode cX3_hasNone 123 = .ok (.ifCond .eq 37, 3) := by decide +kernel
theorem dX3_hasNone_126 : decode cX3_hasNone 126 = .ok (.iload 6, 2) := by decide +kernel
theorem dX3_hasNone_128 : decode cX3_hasNone 128 = .ok (.ifCond .eq 32, 3) := by decide +kernel
theorem dX3_hasNone_131 : decode cX3_hasNone 131 = .ok (.dload_n 1, 1) := by decide +kernel
theorem dX3_hasNone_132 : decode cX3_hasNone 132 = .ok (.dconst 0, 1) := by decide +kernel
theorem dX3_hasNone_133 : decode cX3_hasNone 133 = .ok (.dcmp .l, 1) := by decide +kernel
theorem dX3_hasNone_134 : decode cX3_hasNone 134 = .ok (.ifCond .le 7, 3) := by decide +kernel
theorem dX3_hasNone_137 : decode cX3_hasNone 137 = .ok (.iconst 1, 1) := by decide +kernel
theorem dX3_hasNone_138 : decode cX3_hasNone 138 = .ok (.goto 4, 3) := by decide +kernel
theorem dX3_hasNone_141 : decode cX3_hasNone 141 = .ok (.iconst 0, 1) := by decide +kernel
theorem dX3_hasNone_142 : decode cX3_hasNone 142 = .ok (.dload_n 3, 1) := by decide +kernel
theorem dX3_hasNone_143 : decode cX3_hasNone 143 = .ok (.dconst 0, 1) := by decide +kernel
theorem dX3_hasNone_144 : decode cX3_hasNone 144 = .ok (.dcmp .l, 1) := by decide +kernel
theorem dX3_hasNone_145 : decode cX3_hasNone 145 = .ok (.ifCond .le 7, 3) := by decide +kernel
theorem dX3_hasNone_148 : decode cX3_hasNone 148 = .ok (.iconst 1, 1) := by decide +kernel
theorem dX3_hasNone_149 : decode cX3_hasNone 149 = .ok (.goto 4, 3) := by decide +kernel
theorem dX3_hasNone_152 : decode cX3_hasNone 152 = .ok (.iconst 0, 1) := by decide +kernel
theorem dX3_hasNone_153 : decode cX3_hasNone 153 = .ok (.if_icmp .ne 7, 3) := by decide +kernel
theorem dX3_hasNone_156 : decode cX3_hasNone 156 = .ok (.iconst 1, 1) := by decide +kernel
theorem dX3_hasNone_157 : decode cX3_hasNone 157 = .ok (.goto 4, 3) := by decide +kernel
theorem dX3_hasNone_160 : decode cX3_hasNone 160 = .ok (.iconst 0, 1) := by decide +kernel
theorem dX3_hasNone_161 : decode cX3_hasNone 161 = .ok (.ireturn, 1) := by decide +kernel
theorem dX3_hasNone_162 : decode cX3_hasNone 162 = .ok (.iload 5, 2) := by decide +kernel
theorem dX3_hasNone_164 : decode cX3_hasNone 164 = .ok (.ifCond .eq 9, 3) := by decide +kernel
theorem dX3_hasNone_167 : decode cX3_hasNone 167 = .ok (.dload_n 3, 1) := by decide +kernel
theorem dX3_hasNone_168 : decode cX3_hasNone 168 = .ok (.dconst 0, 1) := by decide +kernel
theorem dX3_hasNone_169 : decode cX3_hasNone 169 = .ok (.dcmp .l, 1) := by decide +kernel
theorem dX3_hasNone_170 : decode cX3_hasNone 170 = .ok (.ifCond .eq 14, 3) := by decide +kernel
theorem dX3_hasNone_173 : decode cX3_hasNone 173 = .ok (.dload_n 1, 1) := by decide +kernel
theorem dX3_hasNone_174 : decode cX3_hasNone 174 = .ok (.dconst 0, 1) := by decide +kernel
theorem dX3_hasNone_175 : decode cX3_hasNone 175 = .ok (.dcmp .l, 1) := by decide +kernel
theorem dX3_hasNone_176 : decode cX3_hasNone 176 = .ok (.ifCond .ne 12, 3) := by decide +kernel
theorem dX3_hasNone_179 : decode cX3_hasNone 179 = .ok (.iload 6, 2) := by decide +kernel
theorem dX3_hasNone_181 : decode cX3_hasNone 181 = .ok (.ifCond .eq 7, 3) := by decide +kernel
theorem dX3_hasNone_184 : decode cX3_hasNone 184 = .ok (.iconst 1, 1) := by decide +kernel
theorem dX3_hasNone_185 : decode cX3_hasNone 185 = .ok (.goto 4, 3) := by decide +kernel
theorem dX3_hasNone_188 : decode cX3_hasNone 188 = .ok (.iconst 0, 1) := by decide +kernel
theorem dX3_hasNone_189 : decode cX3_hasNone 189 = .ok (.ireturn, 1) := by decide +kernel
theorem dX3_hasNone_190 : decode cX3_hasNone 190 = .ok (.iload 5, 2) := by decide +kernel
theorem dX3_hasNone_192 : decode cX3_hasNone 192 = .ok (.ifCond .eq 8, 3) := by decide +kernel
theorem dX3_hasNone_195 : decode cX3_hasNone 195 = .ok (.iload 6, 2) := by decide +kernel
theorem dX3_hasNone_197 : decode cX3_hasNone 197 = .ok (.ifCond .ne 15, 3) := by decide +kernel
theorem dX3_hasNone_200 : decode cX3_hasNone 200 = .ok (.dload_n 1, 1) := by decide +kernel
theorem dX3_hasNone_201 : decode cX3_hasNone 201 = .ok (.dconst 0, 1) := by decide +kernel
theorem dX3_hasNone_202 : decode cX3_hasNone 202 = .ok (.dcmp .l, 1) := by decide +kernel
theorem dX3_hasNone_203 : decode cX3_hasNone 203 = .ok (.ifCond .ne 13, 3) := by decide +kernel
theorem dX3_hasNone_206 : decode cX3_hasNone 206 = .ok (.dload_n 3, 1) := by decide +kernel
theorem dX3_hasNone_207 : decode cX3_hasNone 207 = .ok (.dconst 0, 1) := by decide +kernel
theorem dX3_hasNone_208 : decode cX3_hasNone 208 = .ok (.dcmp .l, 1) := by decide +kernel
theorem dX3_hasNone_209 : decode cX3_hasNone 209 = .ok (.ifCond .ne 7, 3) := by decide +kernel
theorem dX3_hasNone_212 : decode cX3_hasNone 212 = .ok (.iconst 1, 1) := by decide +kernel
theorem dX3_hasNone_213 : decode cX3_hasNone 213 = .ok (.goto 4, 3) := by decide +kernel
theorem dX3_hasNone_216 : decode cX3_hasNone 216 = .ok (.iconst 0, 1) := by decide +kernel
theorem dX3_hasNone_217 : decode cX3_hasNone 217 = .ok (.ireturn, 1) := by decide +kernel
theorem dX3_hasNone_218 : decode cX3_hasNone 218 = .ok (.iload 5, 2) := by decide +kernel
theorem dX3_hasNone_220 : decode cX3_hasNone 220 = .ok (.ifCond .ne 9, 3) := by decide +kernel
theorem dX3_hasNone_223 : decode cX3_hasNone 223 = .ok (.dload_n 3, 1) := by decide +kernel
theorem dX3_hasNone_224 : decode cX3_hasNone 224 = .ok (.dconst 0, 1) := by decide +kernel
theorem dX3_hasNone_225 : decode cX3_hasNone 225 = .ok (.dcmp .l, 1) := by decide +kernel
theorem dX3_hasNone_226 : decode cX3_hasNone 226 = .ok (.ifCond .ne 7, 3) := by decide +kernel
theorem dX3_hasNone_229 : decode cX3_hasNone 229 = .ok (.iconst 1, 1) := by decide +kernel
theorem dX3_hasNone_230 : decode cX3_hasNone 230 = .ok (.goto 4, 3) := by decide +kernel
theorem dX3_hasNone_233 : decode cX3_hasNone 233 = .ok (.iconst 0, 1) := by decide +kernel
theorem dX3_hasNone_234 : decode cX3_hasNone 234 = .ok (.ireturn, 1) := by decide +kernel
theorem dX3_hasNone_235 : decode cX3_hasNone 235 = .ok (.iconst 0, 1) := by decide +kernel
theorem dX3_hasNone_236 : decode cX3_hasNone 236 = .ok (.ireturn, 1) := by decide +kernel
theorem dX3_noNumber_0 : decode cX3_noNumber 0 = .ok (.ldc2_w 120, 3) := by decide +kernel
theorem dX3_noNumber_3 : decode cX3_noNumber 3 = .ok (.invokestatic 122, 3) := by decide +kernel
theorem dX3_noNumber_6 : decode cX3_noNumber 6 = .ok (.dreturn, 1) := by decide +kernel
theorem dX3_reckoned_0 : decode cX3_reckoned 0 = .ok (.dload_n 1, 1) := by decide +kernel
theorem dX3_reckoned_1 : decode cX3_reckoned 1 = .ok (.dload_n 1, 1) := by decide +kernel
theorem dX3_reckoned_2 : decode cX3_reckoned 2 = .ok (.dcmp .l, 1) := by decide +kernel
theorem dX3_reckoned_3 : decode cX3_reckoned 3 = .ok (.ifCond .ne 18, 3) := by decide +kernel
theorem dX3_reckoned_6 : decode cX3_reckoned 6 = .ok (.dload_n 3, 1) := by decide +kernel
theorem dX3_reckoned_7 : decode cX3_reckoned 7 = .ok (.dload_n 3, 1) := by decide +kernel
theorem dX3_reckoned_8 : decode cX3_reckoned 8 = .ok (.dcmp .l, 1) := by decide +kernel
theorem dX3_reckoned_9 : decode cX3_reckoned 9 = .ok (.ifCond .ne 12, 3) := by decide +kernel
theorem dX3_reckoned_12 : decode cX3_reckoned 12 = .ok (.iload_n 0, 1) := by decide +kernel
theorem dX3_reckoned_13 : decode cX3_reckoned 13 = .ok (.dload_n 1, 1) := by decide +kernel
theorem dX3_reckoned_14 : decode cX3_reckoned 14 = .ok (.dload_n 3, 1) := by decide +kernel
theorem dX3_reckoned_15 : decode cX3_reckoned 15 = .ok (.invokestatic 128, 3) := by decide +kernel
theorem dX3_reckoned_18 : decode cX3_reckoned 18 = .ok (.ifCond .eq 9, 3) := by decide +kernel
theorem dX3_reckoned_21 : decode cX3_reckoned 21 = .ok (.invokestatic 132, 3) := by decide +kernel
theorem dX3_reckoned_24 : decode cX3_reckoned 24 = .ok (.goto 16, 3) := by decide +kernel
theorem dX3_reckoned_27 : decode cX3_reckoned 27 = .ok (.iload_n 0, 1) := by decide +kernel
theorem dX3_reckoned_28 : decode cX3_reckoned 28 = .ok (.ifCond .ne 9, 3) := by decide +kernel
theorem dX3_reckoned_31 : decode cX3_reckoned 31 = .ok (.dload_n 1, 1) := by decide +kernel
theorem dX3_reckoned_32 : decode cX3_reckoned 32 = .ok (.dload_n 3, 1) := by decide +kernel
theorem dX3_reckoned_33 : decode cX3_reckoned 33 = .ok (.dadd, 1) := by decide +kernel
theorem dX3_reckoned_34 : decode cX3_reckoned 34 = .ok (.goto 6, 3) := by decide +kernel
theorem dX3_reckoned_37 : decode cX3_reckoned 37 = .ok (.dload_n 1, 1) := by decide +kernel
theorem dX3_reckoned_38 : decode cX3_reckoned 38 = .ok (.dload_n 3, 1) := by decide +kernel
theorem dX3_reckoned_39 : decode cX3_reckoned 39 = .ok (.dmul, 1) := by decide +kernel
theorem dX3_reckoned_40 : decode cX3_reckoned 40 = .ok (.dreturn, 1) := by decide +kernel
theorem dX3_product_0 : decode cX3_product 0 = .ok (.aload_n 0, 1) := by decide +kernel
theorem dX3_product_1 : decode cX3_product 1 = .ok (.iload_n 1, 1) := by decide +kernel
theorem dX3_product_2 : decode cX3_product 2 = .ok (.invokevirtual 79, 3) := by decide +kernel
theorem dX3_product_5 : decode cX3_product 5 = .ok (.ifCond .eq 11, 3) := by decide +kernel
theorem dX3_product_8 : decode cX3_product 8 = .ok (.aload_n 0, 1) := by decide +kernel
theorem dX3_product_9 : decode cX3_product 9 = .ok (.iload_n 2, 1) := by decide +kernel
theorem dX3_product_10 : decode cX3_product 10 = .ok (.invokevirtual 79, 3) := by decide +kernel
theorem dX3_product_13 : decode cX3_product 13 = .ok (.ifCond .ne 6, 3) := by decide +kernel
theorem dX3_product_16 : decode cX3_product 16 = .ok (.ldc 83, 2) := by decide +kernel
theorem dX3_product_18 : decode cX3_product 18 = .ok (.ireturn, 1) := by decide +kernel
theorem dX3_product_19 : decode cX3_product 19 = .ok (.aload_n 0, 1) := by decide +kernel
theorem dX3_product_20 : decode cX3_product 20 = .ok (.getfield 7, 3) := by decide +kernel
theorem dX3_product_23 : decode cX3_product 23 = .ok (.iload_n 1, 1) := by decide +kernel
theorem dX3_product_24 : decode cX3_product 24 = .ok (.iaload, 1) := by decide +kernel
theorem dX3_product_25 : decode cX3_product 25 = .ok (.iconst 3, 1) := by decide +kernel
theorem dX3_product_26 : decode cX3_product 26 = .ok (.if_icmp .eq 48, 3) := by decide +kernel
theorem dX3_product_29 : decode cX3_product 29 = .ok (.aload_n 0, 1) := by decide +kernel
theorem dX3_product_30 : decode cX3_product 30 = .ok (.getfield 7, 3) := by decide +kernel
theorem dX3_product_33 : decode cX3_product 33 = .ok (.iload_n 1, 1) := by decide +kernel
theorem dX3_product_34 : decode cX3_product 34 = .ok (.iaload, 1) := by decide +kernel
theorem dX3_product_35 : decode cX3_product 35 = .ok (.aload_n 0, 1) := by decide +kernel
theorem dX3_product_36 : decode cX3_product 36 = .ok (.getfield 7, 3) := by decide +kernel
theorem dX3_product_39 : decode cX3_product 39 = .ok (.iload_n 2, 1) := by decide +kernel
theorem dX3_product_40 : decode cX3_product 40 = .ok (.iaload, 1) := by decide +kernel
theorem dX3_product_41 : decode cX3_product 41 = .ok (.if_icmp .ne 33, 3) := by decide +kernel
theorem dX3_product_44 : decode cX3_product 44 = .ok (.aload_n 0, 1) := by decide +kernel
theorem dX3_product_45 : decode cX3_product 45 = .ok (.iload_n 1, 1) := by decide +kernel
theorem dX3_product_46 : decode cX3_product 46 = .ok (.invokevirtual 106, 3) := by decide +kernel
theorem dX3_product_49 : decode cX3_product 49 = .ok (.ifCond .eq 25, 3) := by decide +kernel
theorem dX3_product_52 : decode cX3_product 52 = .ok (.aload_n 0, 1) := by decide +kernel
theorem dX3_product_53 : decode cX3_product 53 = .ok (.iload_n 2, 1) := by decide +kernel
theorem dX3_product_54 : decode cX3_product 54 = .ok (.invokevirtual 106, 3) := by decide +kernel
theorem dX3_product_57 : decode cX3_product 57 = .ok (.ifCond .eq 17, 3) := by decide +kernel
theorem dX3_product_60 : decode cX3_product 60 = .ok (.aload_n 0, 1) := by decide +kernel
theorem dX3_product_61 : decode cX3_product 61 = .ok (.iload_n 1, 1) := by decide +kernel
theorem dX3_product_62 : decode cX3_product 62 = .ok (.invokevirtual 103, 3) := by decide +kernel
theorem dX3_product_65 : decode cX3_product 65 = .ok (.aload_n 0, 1) := by decide +kernel
theorem dX3_product_66 : decode cX3_product 66 = .ok (.getfield 13, 3) := by decide +kernel
theorem dX3_product_69 : decode cX3_product 69 = .ok (.iload_n 2, 1) := by decide +kernel
theorem dX3_product_70 : decode cX3_product 70 = .ok (.iaload, 1) := by decide +kernel
theorem dX3_product_71 : decode cX3_product 71 = .ok (.if_icmp .eq 6, 3) := by decide +kernel
theorem dX3_product_74 : decode cX3_product 74 = .ok (.ldc 109, 2) := by decide +kernel
theorem dX3_product_76 : decode cX3_product 76 = .ok (.ireturn, 1) := by decide +kernel
theorem dX3_product_77 : decode cX3_product 77 = .ok (.aload_n 0, 1) := by decide +kernel
theorem dX3_product_78 : decode cX3_product 78 = .ok (.getfield 55, 3) := by decide +kernel
theorem dX3_product_81 : decode cX3_product 81 = .ok (.bipush 16, 2) := by decide +kernel
theorem dX3_product_83 : decode cX3_product 83 = .ok (.if_icmp .ne 6, 3) := by decide +kernel
theorem dX3_product_86 : decode cX3_product 86 = .ok (.ldc 74, 2) := by decide +kernel
theorem dX3_product_88 : decode cX3_product 88 = .ok (.ireturn, 1) := by decide +kernel
theorem dX3_product_89 : decode cX3_product 89 = .ok (.aload_n 0, 1) := by decide +kernel
theorem dX3_product_90 : decode cX3_product 90 = .ok (.invokevirtual 88, 3) := by decide +kernel
theorem dX3_product_93 : decode cX3_product 93 = .ok (.aload_n 0, 1) := by decide +kernel
theorem dX3_product_94 : decode cX3_product 94 = .ok (.aload_n 0, 1) := by decide +kernel
theorem dX3_product_95 : decode cX3_product 95 = .ok (.getfield 7, 3) := by decide +kernel
theorem dX3_product_98 : decode cX3_product 98 = .ok (.iload_n 1, 1) := by decide +kernel
theorem dX3_product_99 : decode cX3_product 99 = .ok (.iaload, 1) := by decide +kernel
theorem dX3_product_100 : decode cX3_product 100 = .ok (.aload_n 0, 1) := by decide +kernel
theorem dX3_product_101 : decode cX3_product 101 = .ok (.getfield 13, 3) := by decide +kernel
theorem dX3_product_104 : decode cX3_product 104 = .ok (.iload_n 1, 1) := by decide +kernel
theorem dX3_product_105 : decode cX3_product 105 = .ok (.iaload, 1) := by decide +kernel
theorem dX3_product_106 : decode cX3_product 106 = .ok (.aload_n 0, 1) := by decide +kernel
theorem dX3_product_107 : decode cX3_product 107 = .ok (.iload_n 2, 1) := by decide +kernel
theorem dX3_product_108 : decode cX3_product 108 = .ok (.invokevirtual 103, 3) := by decide +kernel
theorem dX3_product_111 : decode cX3_product 111 = .ok (.invokevirtual 110, 3) := by decide +kernel
theorem dX3_product_114 : decode cX3_product 114 = .ok (.istore_n 3, 1) := by decide +kernel
theorem dX3_product_115 : decode cX3_product 115 = .ok (.iconst 0, 1) := by decide +kernel
theorem dX3_product_116 : decode cX3_product 116 = .ok (.istore 4, 2) := by decide +kernel
theorem dX3_product_118 : decode cX3_product 118 = .ok (.iload 4, 2) := by decide +kernel
theorem dX3_product_120 : decode cX3_product 120 = .ok (.aload_n 0, 1) := by decide +kernel
theorem dX3_product_121 : decode cX3_product 121 = .ok (.getfield 13, 3) := by decide +kernel
theorem dX3_product_124 : decode cX3_product 124 = .ok (.iload_n 1, 1) := by decide +kernel
theorem dX3_product_125 : decode cX3_product 125 = .ok (.iaload, 1) := by decide +kernel
theorem dX3_product_126 : decode cX3_product 126 = .ok (.if_icmp .ge 182, 3) := by decide +kernel
theorem dX3_product_129 : decode cX3_product 129 = .ok (.iconst 0, 1) := by decide +kernel
theorem dX3_product_130 : decode cX3_product 130 = .ok (.istore 5, 2) := by decide +kernel
theorem dX3_product_132 : decode cX3_product 132 = .ok (.iload 5, 2) := by decide +kernel
theorem dX3_product_134 : decode cX3_product 134 = .ok (.aload_n 0, 1) := by decide +kernel
theorem dX3_product_135 : decode cX3_product 135 = .ok (.iload_n 2, 1) := by decide +kernel
theorem dX3_product_136 : decode cX3_product 136 = .ok (.invokevirtual 103, 3) := by decide +kernel
theorem dX3_product_139 : decode cX3_product 139 = .ok (.if_icmp .ge 163, 3) := by decide +kernel
theorem dX3_product_142 : decode cX3_product 142 = .ok (.iconst 0, 1) := by decide +kernel
theorem dX3_product_143 : decode cX3_product 143 = .ok (.istore 6, 2) := by decide +kernel
theorem dX3_product_145 : decode cX3_product 145 = .ok (.dconst 0, 1) := by decide +kernel
theorem dX3_product_146 : decode cX3_product 146 = .ok (.dstore 7, 2) := by decide +kernel
theorem dX3_product_148 : decode cX3_product 148 = .ok (.iconst 0, 1) := by decide +kernel
theorem dX3_product_149 : decode cX3_product 149 = .ok (.istore 9, 2) := by decide +kernel
theorem dX3_product_151 : decode cX3_product 151 = .ok (.iload 9, 2) := by decide +kernel
theorem dX3_product_153 : decode cX3_product 153 = .ok (.aload_n 0, 1) := by decide +kernel
theorem dX3_product_154 : decode cX3_product 154 = .ok (.getfield 13, 3) := by decide +kernel
theorem dX3_product_157 : decode cX3_product 157 = .ok (.iload_n 2, 1) := by decide +kernel
theorem dX3_product_158 : decode cX3_product 158 = .ok (.iaload, 1) := by decide +kernel
theorem dX3_product_159 : decode cX3_product 159 = .ok (.if_icmp .ge 83, 3) := by decide +kernel
theorem dX3_product_162 : decode cX3_product 162 = .ok (.iload 6, 2) := by decide +kernel
theorem dX3_product_164 : decode cX3_product 164 = .ok (.aload_n 0, 1) := by decide +kernel
theorem dX3_product_165 : decode cX3_product 165 = .ok (.getfield 22, 3) := by decide +kernel
theorem dX3_product_168 : decode cX3_product 168 = .ok (.aload_n 0, 1) := by decide +kernel
theorem dX3_product_169 : decode cX3_product 169 = .ok (.iload_n 1, 1) := by decide +kernel
theorem dX3_product_170 : decode cX3_product 170 = .ok (.iload 4, 2) := by decide +kernel
theorem dX3_product_172 : decode cX3_product 172 = .ok (.iload 9, 2) := by decide +kernel
theorem dX3_product_174 : decode cX3_product 174 = .ok (.invokevirtual 113, 3) := by decide +kernel
theorem dX3_product_177 : decode cX3_product 177 = .ok (.iaload, 1) := by decide +kernel
theorem dX3_product_178 : decode cX3_product 178 = .ok (.aload_n 0, 1) := by decide +kernel
theorem dX3_product_179 : decode cX3_product 179 = .ok (.getfield 22, 3) := by decide +kernel
theorem dX3_product_182 : decode cX3_product 182 = .ok (.aload_n 0, 1) := by decide +kernel
theorem dX3_product_183 : decode cX3_product 183 = .ok (.iload_n 2, 1) := by decide +kernel
theorem dX3_product_184 : decode cX3_product 184 = .ok (.iload 9, 2) := by decide +kernel
theorem dX3_product_186 : decode cX3_product 186 = .ok (.iload 5, 2) := by decide +kernel
theorem dX3_product_188 : decode cX3_product 188 = .ok (.invokevirtual 113, 3) := by decide +kernel
theorem dX3_product_191 : decode cX3_product 191 = .ok (.iaload, 1) := by decide +kernel
theorem dX3_product_192 : decode cX3_product 192 = .ok (.imul, 1) := by decide +kernel
theorem dX3_product_193 : decode cX3_product 193 = .ok (.iadd, 1) := by decide +kernel
theorem dX3_product_194 : decode cX3_product 194 = .ok (.istore 6, 2) := by decide +kernel
theorem dX3_product_196 : decode cX3_product 196 = .ok (.iconst 0, 1) := by decide +kernel
theorem dX3_product_197 : decode cX3_product 197 = .ok (.dload 7, 2) := by decide +kernel
theorem dX3_product_199 : decode cX3_product 199 = .ok (.iconst 2, 1) := by decide +kernel
theorem dX3_product_200 : decode cX3_product 200 = .ok (.aload_n 0, 1) := by decide +kernel
theorem dX3_product_201 : decode cX3_product 201 = .ok (.getfield 25, 3) := by decide +kernel
theorem dX3_product_204 : decode cX3_product 204 = .ok (.aload_n 0, 1) := by decide +kernel
theorem dX3_product_205 : decode cX3_product 205 = .ok (.iload_n 1, 1) := by decide +kernel
theorem dX3_product_206 : decode cX3_product 206 = .ok (.iload 4, 2) := by decide +kernel
theorem dX3_product_208 : decode cX3_product 208 = .ok (.iload 9, 2) := by decide +kernel
theorem dX3_product_210 : decode cX3_product 210 = .ok (.invokevirtual 113, 3) := by decide +kernel
theorem dX3_product_213 : decode cX3_product 213 = .ok (.daload, 1) := by decide +kernel
theorem dX3_product_214 : decode cX3_product 214 = .ok (.aload_n 0, 1) := by decide +kernel
theorem dX3_product_215 : decode cX3_product 215 = .ok (.getfield 25, 3) := by decide +kernel
theorem dX3_product_218 : decode cX3_product 218 = .ok (.aload_n 0, 1) := by decide +kernel
theorem dX3_product_219 : decode cX3_product 219 = .ok (.iload_n 2, 1) := by decide +kernel
theorem dX3_product_220 : decode cX3_product 220 = .ok (.iload 9, 2) := by decide +kernel
theorem dX3_product_222 : decode cX3_product 222 = .ok (.iload 5, 2) := by decide +kernel
theorem dX3_product_224 : decode cX3_product 224 = .ok (.invokevirtual 113, 3) := by decide +kernel
theorem dX3_product_227 : decode cX3_product 227 = .ok (.daload, 1) := by decide +kernel
theorem dX3_product_228 : decode cX3_product 228 = .ok (.invokestatic 136, 3) := by decide +kernel
theorem dX3_product_231 : decode cX3_product 231 = .ok (.invokestatic 136, 3) := by decide +kernel
theorem dX3_product_234 : decode cX3_product 234 = .ok (.dstore 7, 2) := by decide +kernel
theorem dX3_product_236 : decode cX3_product 236 = .ok (.iinc 9 1, 3) := by decide +kernel
theorem dX3_product_239 : decode cX3_product 239 = .ok (.goto (-88), 3) := by decide +kernel
theorem dX3_product_242 : decode cX3_product 242 = .ok (.aload_n 0, 1) := by decide +kernel
theorem dX3_product_243 : decode cX3_product 243 = .ok (.getfield 22, 3) := by decide +kernel
theorem dX3_product_246 : decode cX3_product 246 = .ok (.aload_n 0, 1) := by decide +kernel
theorem dX3_product_247 : decode cX3_product 247 = .ok (.iload_n 3, 1) := by decide +kernel
theorem dX3_product_248 : decode cX3_product 248 = .ok (.iload 4, 2) := by decide +kernel
theorem dX3_product_250 : decode cX3_product 250 = .ok (.iload 5, 2) := by decide +kernel
theorem dX3_product_252 : decode cX3_product 252 = .ok (.invokevirtual 113, 3) := by decide +kernel
theorem dX3_product_255 : decode cX3_product 255 = .ok (.aload_n 0, 1) := by decide +kernel
theorem dX3_product_256 : decode cX3_product 256 = .ok (.getfield 7, 3) := by decide +kernel
theorem dX3_product_259 : decode cX3_product 259 = .ok (.iload_n 1, 1) := by decide +kernel
theorem dX3_product_260 : decode cX3_product 260 = .ok (.iaload, 1) := by decide +kernel
theorem dX3_product_261 : decode cX3_product 261 = .ok (.ifCond .ne 16, 3) := by decide +kernel
theorem dX3_product_264 : decode cX3_product 264 = .ok (.iload 6, 2) := by decide +kernel
theorem dX3_product_266 : decode cX3_product 266 = .ok (.ifCond .le 7, 3) := by decide +kernel
theorem dX3_product_269 : decode cX3_product 269 = .ok (.iconst 1, 1) := by decide +kernel
theorem dX3_product_270 : decode cX3_product 270 = .ok (.goto 9, 3) := by decide +kernel
theorem dX3_product_273 : decode cX3_product 273 = .ok (.iconst 0, 1) := by decide +kernel
theorem dX3_product_274 : decode cX3_product 274 = .ok (.goto 5, 3) := by decide +kernel
theorem dX3_product_277 : decode cX3_product 277 = .ok (.iload 6, 2) := by decide +kernel
theorem dX3_product_279 : decode cX3_product 279 = .ok (.iastore, 1) := by decide +kernel
theorem dX3_product_280 : decode cX3_product 280 = .ok (.aload_n 0, 1) := by decide +kernel
theorem dX3_product_281 : decode cX3_product 281 = .ok (.getfield 25, 3) := by decide +kernel
theorem dX3_product_284 : decode cX3_product 284 = .ok (.aload_n 0, 1) := by decide +kernel
theorem dX3_product_285 : decode cX3_product 285 = .ok (.iload_n 3, 1) := by decide +kernel
theorem dX3_product_286 : decode cX3_product 286 = .ok (.iload 4, 2) := by decide +kernel
theorem dX3_product_288 : decode cX3_product 288 = .ok (.iload 5, 2) := by decide +kernel
theorem dX3_product_290 : decode cX3_product 290 = .ok (.invokevirtual 113, 3) := by decide +kernel
theorem dX3_product_293 : decode cX3_product 293 = .ok (.dload 7, 2) := by decide +kernel
theorem dX3_product_295 : decode cX3_product 295 = .ok (.dastore, 1) := by decide +kernel
theorem dX3_product_296 : decode cX3_product 296 = .ok (.iinc 5 1, 3) := by decide +kernel
theorem dX3_product_299 : decode cX3_product 299 = .ok (.goto (-167), 3) := by decide +kernel
theorem dX3_product_302 : decode cX3_product 302 = .ok (.iinc 4 1, 3) := by decide +kernel
theorem dX3_product_305 : decode cX3_product 305 = .ok (.goto (-187), 3) := by decide +kernel
theorem dX3_product_308 : decode cX3_product 308 = .ok (.iload_n 3, 1) := by decide +kernel
theorem dX3_product_309 : decode cX3_product 309 = .ok (.ireturn, 1) := by decide +kernel
theorem dX3_distances_0 : decode cX3_distances 0 = .ok (.aload_n 0, 1) := by decide +kernel
theorem dX3_distances_1 : decode cX3_distances 1 = .ok (.iload_n 1, 1) := by decide +kernel
theorem dX3_distances_2 : decode cX3_distances 2 = .ok (.invokevirtual 79, 3) := by decide +kernel
theorem dX3_distances_5 : decode cX3_distances 5 = .ok (.ifCond .ne 6, 3) := by decide +kernel
theorem dX3_distances_8 : decode cX3_distances 8 = .ok (.ldc 83, 2) := by decide +kernel
theorem dX3_distances_10 : decode cX3_distances 10 = .ok (.ireturn, 1) := by decide +kernel
theorem dX3_distances_11 : decode cX3_distances 11 = .ok (.aload_n 0, 1) := by decide +kernel
theorem dX3_distances_12 : decode cX3_distances 12 = .ok (.getfield 7, 3) := by decide +kernel
theorem dX3_distances_15 : decode cX3_distances 15 = .ok (.iload_n 1, 1) := by decide +kernel
theorem dX3_distances_16 : decode cX3_distances 16 = .ok (.iaload, 1) := by decide +kernel
theorem dX3_distances_17 : decode cX3_distances 17 = .ok (.ifCond .ne 13, 3) := by decide +kernel
theorem dX3_distances_20 : decode cX3_distances 20 = .ok (.aload_n 0, 1) := by decide +kernel
theorem dX3_distances_21 : decode cX3_distances 21 = .ok (.iload_n 1, 1) := by decide +kernel
theorem dX3_distances_22 : decode cX3_distances 22 = .ok (.invokevirtual 100, 3) := by decide +kernel
theorem dX3_distances_25 : decode cX3_distances 25 = .ok (.ldc 65, 2) := by decide +kernel
theorem dX3_distances_27 : decode cX3_distances 27 = .ok (.if_icmp .eq 6, 3) := by decide +kernel
theorem dX3_distances_30 : decode cX3_distances 30 = .ok (.ldc 109, 2) := by decide +kernel
theorem dX3_distances_32 : decode cX3_distances 32 = .ok (.ireturn, 1) := by decide +kernel
theorem dX3_distances_33 : decode cX3_distances 33 = .ok (.aload_n 0, 1) := by decide +kernel
theorem dX3_distances_34 : decode cX3_distances 34 = .ok (.getfield 55, 3) := by decide +kernel
theorem dX3_distances_37 : decode cX3_distances 37 = .ok (.bipush 16, 2) := by decide +kernel
theorem dX3_distances_39 : decode cX3_distances 39 = .ok (.if_icmp .ne 6, 3) := by decide +kernel
theorem dX3_distances_42 : decode cX3_distances 42 = .ok (.ldc 74, 2) := by decide +kernel
theorem dX3_distances_44 : decode cX3_distances 44 = .ok (.ireturn, 1) := by decide +kernel
theorem dX3_distances_45 : decode cX3_distances 45 = .ok (.aload_n 0, 1) := by decide +kernel
theorem dX3_distances_46 : decode cX3_distances 46 = .ok (.invokevirtual 88, 3) := by decide +kernel
theorem dX3_distances_49 : decode cX3_distances 49 = .ok (.aload_n 0, 1) := by decide +kernel
theorem dX3_distances_50 : decode cX3_distances 50 = .ok (.getfield 13, 3) := by decide +kernel
theorem dX3_distances_53 : decode cX3_distances 53 = .ok (.iload_n 1, 1) := by decide +kernel
theorem dX3_distances_54 : decode cX3_distances 54 = .ok (.iaload, 1) := by decide +kernel
theorem dX3_distances_55 : decode cX3_distances 55 = .ok (.istore_n 2, 1) := by decide +kernel
theorem dX3_distances_56 : decode cX3_distances 56 = .ok (.aload_n 0, 1) := by decide +kernel
theorem dX3_distances_57 : decode cX3_distances 57 = .ok (.iconst 1, 1) := by decide +kernel
theorem dX3_distances_58 : decode cX3_distances 58 = .ok (.iload_n 2, 1) := by decide +kernel
theorem dX3_distances_59 : decode cX3_distances 59 = .ok (.iload_n 2, 1) := by decide +kernel
theorem dX3_distances_60 : decode cX3_distances 60 = .ok (.invokevirtual 110, 3) := by decide +kernel
theorem dX3_distances_63 : decode cX3_distances 63 = .ok (.istore_n 3, 1) := by decide +kernel
theorem dX3_distances_64 : decode cX3_distances 64 = .ok (.iconst 0, 1) := by decide +kernel
theorem dX3_distances_65 : decode cX3_distances 65 = .ok (.istore 4, 2) := by decide +kernel
theorem dX3_distances_67 : decode cX3_distances 67 = .ok (.iload 4, 2) := by decide +kernel
theorem dX3_distances_69 : decode cX3_distances 69 = .ok (.iload_n 2, 1) := by decide +kernel
theorem dX3_distances_70 : decode cX3_distances 70 = .ok (.if_icmp .ge 197, 3) := by decide +kernel
theorem dX3_distances_73 : decode cX3_distances 73 = .ok (.iconst 0, 1) := by decide +kernel
theorem dX3_distances_74 : decode cX3_distances 74 = .ok (.istore 5, 2) := by decide +kernel
theorem dX3_distances_76 : decode cX3_distances 76 = .ok (.iload 5, 2) := by decide +kernel
theorem dX3_distances_78 : decode cX3_distances 78 = .ok (.iload_n 2, 1) := by decide +kernel
theorem dX3_distances_79 : decode cX3_distances 79 = .ok (.if_icmp .ge 35, 3) := by decide +kernel
theorem dX3_distances_82 : decode cX3_distances 82 = .ok (.aload_n 0, 1) := by decide +kernel
theorem dX3_distances_83 : decode cX3_distances 83 = .ok (.getfield 22, 3) := by decide +kernel
theorem dX3_distances_86 : decode cX3_distances 86 = .ok (.aload_n 0, 1) := by decide +kernel
theorem dX3_distances_87 : decode cX3_distances 87 = .ok (.iload_n 3, 1) := by decide +kernel
theorem dX3_distances_88 : decode cX3_distances 88 = .ok (.iload 4, 2) := by decide +kernel
theorem dX3_distances_90 : decode cX3_distances 90 = .ok (.iload 5, 2) := by decide +kernel
theorem dX3_distances_92 : decode cX3_distances 92 = .ok (.invokevirtual 113, 3) := by decide +kernel
theorem dX3_distances_95 : decode cX3_distances 95 = .ok (.iload 4, 2) := by decide +kernel
theorem dX3_distances_97 : decode cX3_distances 97 = .ok (.iload 5, 2) := by decide +kernel
theorem dX3_distances_99 : decode cX3_distances 99 = .ok (.if_icmp .ne 7, 3) := by decide +kernel
theorem dX3_distances_102 : decode cX3_distances 102 = .ok (.iconst 0, 1) := by decide +kernel
theorem dX3_distances_103 : decode cX3_distances 103 = .ok (.goto 4, 3) := by decide +kernel
theorem dX3_distances_106 : decode cX3_distances 106 = .ok (.iconst (-1), 1) := by decide +kernel
theorem dX3_distances_107 : decode cX3_distances 107 = .ok (.iastore, 1) := by decide +kernel
theorem dX3_distances_108 : decode cX3_distances 108 = .ok (.iinc 5 1, 3) := by decide +kernel
theorem dX3_distances_111 : decode cX3_distances 111 = .ok (.goto (-35), 3) := by decide +kernel
theorem dX3_distances_114 : decode cX3_distances 114 = .ok (.iconst 0, 1) := by decide +kernel
theorem dX3_distances_115 : decode cX3_distances 115 = .ok (.istore 5, 2) := by decide +kernel
theorem dX3_distances_117 : decode cX3_distances 117 = .ok (.iload 5, 2) := by decide +kernel
theorem dX3_distances_119 : decode cX3_distances 119 = .ok (.iload_n 2, 1) := by decide +kernel
theorem dX3_distances_120 : decode cX3_distances 120 = .ok (.if_icmp .ge 141, 3) := by decide +kernel
theorem dX3_distances_123 : decode cX3_distances 123 = .ok (.iconst 0, 1) := by decide +kernel
theorem dX3_distances_124 : decode cX3_distances 124 = .ok (.istore 6, 2) := by decide +kernel
theorem dX3_distances_126 : decode cX3_distances 126 = .ok (.iload 6, 2) := by decide +kernel
theorem dX3_distances_128 : decode cX3_distances 128 = .ok (.iload_n 2, 1) := by decide +kernel
theorem dX3_distances_129 : decode cX3_distances 129 = .ok (.if_icmp .ge 126, 3) := by decide +kernel
theorem dX3_distances_132 : decode cX3_distances 132 = .ok (.iconst 0, 1) := by decide +kernel
theorem dX3_distances_133 : decode cX3_distances 133 = .ok (.istore 7, 2) := by decide +kernel
theorem dX3_distances_135 : decode cX3_distances 135 = .ok (.iload 7, 2) := by decide +kernel
theorem dX3_distances_137 : decode cX3_distances 137 = .ok (.iload_n 2, 1) := by decide +kernel
theorem dX3_distances_138 : decode cX3_distances 138 = .ok (.if_icmp .ge 111, 3) := by decide +kernel
theorem dX3_distances_141 : decode cX3_distances 141 = .ok (.aload_n 0, 1) := by decide +kernel
theorem dX3_distances_142 : decode cX3_distances 142 = .ok (.getfield 22, 3) := by decide +kernel
theorem dX3_distances_145 : decode cX3_distances 145 = .ok (.aload_n 0, 1) := by decide +kernel
theorem dX3_distances_146 : decode cX3_distances 146 = .ok (.iload_n 3, 1) := by decide +kernel
theorem dX3_distances_147 : decode cX3_distances 147 = .ok (.iload 4, 2) := by decide +kernel
theorem dX3_distances_149 : decode cX3_distances 149 = .ok (.iload 6, 2) := by decide +kernel
theorem dX3_distances_151 : decode cX3_distances 151 = .ok (.invokevirtual 113, 3) := by decide +kernel
theorem dX3_distances_154 : decode cX3_distances 154 = .ok (.iaload, 1) := by decide +kernel
theorem dX3_distances_155 : decode cX3_distances 155 = .ok (.iload 5, 2) := by decide +kernel
theorem dX3_distances_157 : decode cX3_distances 157 = .ok (.if_icmp .ne 92, 3) := by decide +kernel
theorem dX3_distances_160 : decode cX3_distances 160 = .ok (.aload_n 0, 1) := by decide +kernel
theorem dX3_distances_161 : decode cX3_distances 161 = .ok (.getfield 22, 3) := by decide +kernel
theorem dX3_distances_164 : decode cX3_distances 164 = .ok (.aload_n 0, 1) := by decide +kernel
theorem dX3_distances_165 : decode cX3_distances 165 = .ok (.iload_n 1, 1) := by decide +kernel
theorem dX3_distances_166 : decode cX3_distances 166 = .ok (.iload 6, 2) := by decide +kernel
theorem dX3_distances_168 : decode cX3_distances 168 = .ok (.iload 7, 2) := by decide +kernel
theorem dX3_distances_170 : decode cX3_distances 170 = .ok (.invokevirtual 113, 3) := by decide +kernel
theorem dX3_distances_173 : decode cX3_distances 173 = .ok (.iaload, 1) := by decide +kernel
theorem dX3_distances_174 : decode cX3_distances 174 = .ok (.iconst 1, 1) := by decide +kernel
theorem dX3_distances_175 : decode cX3_distances 175 = .ok (.if_icmp .ne 25, 3) := by decide +kernel
theorem dX3_distances_178 : decode cX3_distances 178 = .ok (.aload_n 0, 1) := by decide +kernel
theorem dX3_distances_179 : decode cX3_distances 179 = .ok (.getfield 22, 3) := by decide +kernel
theorem dX3_distances_182 : decode cX3_distances 182 = .ok (.aload_n 0, 1) := by decide +kernel
theorem dX3_distances_183 : decode cX3_distances 183 = .ok (.iload_n 3, 1) := by decide +kernel
theorem dX3_distances_184 : decode cX3_distances 184 = .ok (.iload 4, 2) := by decide +kernel
theorem dX3_distances_186 : decode cX3_distances 186 = .ok (.iload 7, 2) := by decide +kernel
theorem dX3_distances_188 : decode cX3_distances 188 = .ok (.invokevirtual 113, 3) := by decide +kernel
theorem dX3_distances_191 : decode cX3_distances 191 = .ok (.iaload, 1) := by decide +kernel
theorem dX3_distances_192 : decode cX3_distances 192 = .ok (.iconst (-1), 1) := by decide +kernel
theorem dX3_distances_193 : decode cX3_distances 193 = .ok (.if_icmp .ne 7, 3) := by decide +kernel
theorem dX3_distances_196 : decode cX3_distances 196 = .ok (.iconst 1, 1) := by decide +kernel
theorem dX3_distances_197 : decode cX3_distances 197 = .ok (.goto 4, 3) := by decide +kernel
theorem dX3_distances_200 : decode cX3_distances 200 = .ok (.iconst 0, 1) := by decide +kernel
theorem dX3_distances_201 : decode cX3_distances 201 = .ok (.istore 8, 2) := by decide +kernel
theorem dX3_distances_203 : decode cX3_distances 203 = .ok (.aload_n 0, 1) := by decide +kernel
theorem dX3_distances_204 : decode cX3_distances 204 = .ok (.getfield 22, 3) := by decide +kernel
theorem dX3_distances_207 : decode cX3_distances 207 = .ok (.aload_n 0, 1) := by decide +kernel
theorem dX3_distances_208 : decode cX3_distances 208 = .ok (.iload_n 3, 1) := by decide +kernel
theorem dX3_distances_209 : decode cX3_distances 209 = .ok (.iload 4, 2) := by decide +kernel
theorem dX3_distances_211 : decode cX3_distances 211 = .ok (.iload 7, 2) := by decide +kernel
theorem dX3_distances_213 : decode cX3_distances 213 = .ok (.invokevirtual 113, 3) := by decide +kernel
theorem dX3_distances_216 : decode cX3_distances 216 = .ok (.iload 8, 2) := by decide +kernel
theorem dX3_distances_218 : decode cX3_distances 218 = .ok (.ifCond .eq 10, 3) := by decide +kernel
theorem dX3_distances_221 : decode cX3_distances 221 = .ok (.iload 5, 2) := by decide +kernel
theorem dX3_distances_223 : decode cX3_distances 223 = .ok (.iconst 1, 1) := by decide +kernel
theorem dX3_distances_224 : decode cX3_distances 224 = .ok (.iadd, 1) := by decide +kernel
theorem dX3_distances_225 : decode cX3_distances 225 = .ok (.goto 17, 3) := by decide +kernel
theorem dX3_distances_228 : decode cX3_distances 228 = .ok (.aload_n 0, 1) := by decide +kernel
theorem dX3_distances_229 : decode cX3_distances 229 = .ok (.getfield 22, 3) := by decide +kernel
theorem dX3_distances_232 : decode cX3_distances 232 = .ok (.aload_n 0, 1) := by decide +kernel
theorem dX3_distances_233 : decode cX3_distances 233 = .ok (.iload_n 3, 1) := by decide +kernel
theorem dX3_distances_234 : decode cX3_distances 234 = .ok (.iload 4, 2) := by decide +kernel
theorem dX3_distances_236 : decode cX3_distances 236 = .ok (.iload 7, 2) := by decide +kernel
theorem dX3_distances_238 : decode cX3_distances 238 = .ok (.invokevirtual 113, 3) := by decide +kernel
theorem dX3_distances_241 : decode cX3_distances 241 = .ok (.iaload, 1) := by decide +kernel
theorem dX3_distances_242 : decode cX3_distances 242 = .ok (.iastore, 1) := by decide +kernel
theorem dX3_distances_243 : decode cX3_distances 243 = .ok (.iinc 7 1, 3) := by decide +kernel
theorem dX3_distances_246 : decode cX3_distances 246 = .ok (.goto (-111), 3) := by decide +kernel
theorem dX3_distances_249 : decode cX3_distances 249 = .ok (.iinc 6 1, 3) := by decide +kernel
theorem dX3_distances_252 : decode cX3_distances 252 = .ok (.goto (-126), 3) := by decide +kernel
theorem dX3_distances_255 : decode cX3_distances 255 = .ok (.iinc 5 1, 3) := by decide +kernel
theorem dX3_distances_258 : decode cX3_distances 258 = .ok (.goto (-141), 3) := by decide +kernel
theorem dX3_distances_261 : decode cX3_distances 261 = .ok (.iinc 4 1, 3) := by decide +kernel
theorem dX3_distances_264 : decode cX3_distances 264 = .ok (.goto (-197), 3) := by decide +kernel
theorem dX3_distances_267 : decode cX3_distances 267 = .ok (.iload_n 3, 1) := by decide +kernel
theorem dX3_distances_268 : decode cX3_distances 268 = .ok (.ireturn, 1) := by decide +kernel
theorem dX3_pack_0 : decode cX3_pack 0 = .ok (.aload_n 0, 1) := by decide +kernel
theorem dX3_pack_1 : decode cX3_pack 1 = .ok (.iload_n 1, 1) := by decide +kernel
theorem dX3_pack_2 : decode cX3_pack 2 = .ok (.invokevirtual 79, 3) := by decide +kernel
theorem dX3_pack_5 : decode cX3_pack 5 = .ok (.ifCond .ne 6, 3) := by decide +kernel
theorem dX3_pack_8 : decode cX3_pack 8 = .ok (.ldc 83, 2) := by decide +kernel
theorem dX3_pack_10 : decode cX3_pack 10 = .ok (.ireturn, 1) := by decide +kernel
theorem dX3_pack_11 : decode cX3_pack 11 = .ok (.aload_n 0, 1) := by decide +kernel
theorem dX3_pack_12 : decode cX3_pack 12 = .ok (.getfield 7, 3) := by decide +kernel
theorem dX3_pack_15 : decode cX3_pack 15 = .ok (.iload_n 1, 1) := by decide +kernel
theorem dX3_pack_16 : decode cX3_pack 16 = .ok (.iaload, 1) := by decide +kernel
theorem dX3_pack_17 : decode cX3_pack 17 = .ok (.ifCond .eq 6, 3) := by decide +kernel
theorem dX3_pack_20 : decode cX3_pack 20 = .ok (.ldc 109, 2) := by decide +kernel
theorem dX3_pack_22 : decode cX3_pack 22 = .ok (.ireturn, 1) := by decide +kernel
theorem dX3_pack_23 : decode cX3_pack 23 = .ok (.iconst 0, 1) := by decide +kernel
theorem dX3_pack_24 : decode cX3_pack 24 = .ok (.istore_n 2, 1) := by decide +kernel
theorem dX3_pack_25 : decode cX3_pack 25 = .ok (.iload_n 2, 1) := by decide +kernel
theorem dX3_pack_26 : decode cX3_pack 26 = .ok (.aload_n 0, 1) := by decide +kernel
theorem dX3_pack_27 : decode cX3_pack 27 = .ok (.getfield 13, 3) := by decide +kernel
theorem dX3_pack_30 : decode cX3_pack 30 = .ok (.iload_n 1, 1) := by decide +kernel
theorem dX3_pack_31 : decode cX3_pack 31 = .ok (.iaload, 1) := by decide +kernel
theorem dX3_pack_32 : decode cX3_pack 32 = .ok (.if_icmp .ge 29, 3) := by decide +kernel
theorem dX3_pack_35 : decode cX3_pack 35 = .ok (.aload_n 0, 1) := by decide +kernel
theorem dX3_pack_36 : decode cX3_pack 36 = .ok (.getfield 16, 3) := by decide +kernel
theorem dX3_pack_39 : decode cX3_pack 39 = .ok (.bipush 12, 2) := by decide +kernel
theorem dX3_pack_41 : decode cX3_pack 41 = .ok (.iload_n 1, 1) := by decide +kernel
theorem dX3_pack_42 : decode cX3_pack 42 = .ok (.imul, 1) := by decide +kernel
theorem dX3_pack_43 : decode cX3_pack 43 = .ok (.iload_n 2, 1) := by decide +kernel
theorem dX3_pack_44 : decode cX3_pack 44 = .ok (.iadd, 1) := by decide +kernel
theorem dX3_pack_45 : decode cX3_pack 45 = .ok (.iaload, 1) := by decide +kernel
theorem dX3_pack_46 : decode cX3_pack 46 = .ok (.ifCond .ge 9, 3) := by decide +kernel
theorem dX3_pack_49 : decode cX3_pack 49 = .ok (.aload_n 0, 1) := by decide +kernel
theorem dX3_pack_50 : decode cX3_pack 50 = .ok (.iconst 1, 1) := by decide +kernel
theorem dX3_pack_51 : decode cX3_pack 51 = .ok (.invokevirtual 75, 3) := by decide +kernel
theorem dX3_pack_54 : decode cX3_pack 54 = .ok (.ireturn, 1) := by decide +kernel
theorem dX3_pack_55 : decode cX3_pack 55 = .ok (.iinc 2 1, 3) := by decide +kernel
theorem dX3_pack_58 : decode cX3_pack 58 = .ok (.goto (-33), 3) := by decide +kernel
theorem dX3_pack_61 : decode cX3_pack 61 = .ok (.iconst 0, 1) := by decide +kernel
theorem dX3_pack_62 : decode cX3_pack 62 = .ok (.istore_n 2, 1) := by decide +kernel
theorem dX3_pack_63 : decode cX3_pack 63 = .ok (.iload_n 2, 1) := by decide +kernel
theorem dX3_pack_64 : decode cX3_pack 64 = .ok (.bipush 8, 2) := by decide +kernel
theorem dX3_pack_66 : decode cX3_pack 66 = .ok (.if_icmp .ge 16, 3) := by decide +kernel
theorem dX3_pack_69 : decode cX3_pack 69 = .ok (.aload_n 0, 1) := by decide +kernel
theorem dX3_pack_70 : decode cX3_pack 70 = .ok (.getfield 32, 3) := by decide +kernel
theorem dX3_pack_73 : decode cX3_pack 73 = .ok (.iload_n 2, 1) := by decide +kernel
theorem dX3_pack_74 : decode cX3_pack 74 = .ok (.iconst 0, 1) := by decide +kernel
theorem dX3_pack_75 : decode cX3_pack 75 = .ok (.iastore, 1) := by decide +kernel
theorem dX3_pack_76 : decode cX3_pack 76 = .ok (.iinc 2 1, 3) := by decide +kernel
theorem dX3_pack_79 : decode cX3_pack 79 = .ok (.goto (-16), 3) := by decide +kernel
theorem dX3_pack_82 : decode cX3_pack 82 = .ok (.iconst 0, 1) := by decide +kernel
theorem dX3_pack_83 : decode cX3_pack 83 = .ok (.istore_n 2, 1) := by decide +kernel
theorem dX3_pack_84 : decode cX3_pack 84 = .ok (.iconst 0, 1) := by decide +kernel
theorem dX3_pack_85 : decode cX3_pack 85 = .ok (.istore_n 3, 1) := by decide +kernel
theorem dX3_pack_86 : decode cX3_pack 86 = .ok (.iload_n 3, 1) := by decide +kernel
theorem dX3_pack_87 : decode cX3_pack 87 = .ok (.aload_n 0, 1) := by decide +kernel
theorem dX3_pack_88 : decode cX3_pack 88 = .ok (.getfield 13, 3) := by decide +kernel
theorem dX3_pack_91 : decode cX3_pack 91 = .ok (.iload_n 1, 1) := by decide +kernel
theorem dX3_pack_92 : decode cX3_pack 92 = .ok (.iaload, 1) := by decide +kernel
theorem dX3_pack_93 : decode cX3_pack 93 = .ok (.if_icmp .ge 72, 3) := by decide +kernel
theorem dX3_pack_96 : decode cX3_pack 96 = .ok (.iconst 0, 1) := by decide +kernel
theorem dX3_pack_97 : decode cX3_pack 97 = .ok (.istore 4, 2) := by decide +kernel
theorem dX3_pack_99 : decode cX3_pack 99 = .ok (.iload 4, 2) := by decide +kernel
theorem dX3_pack_101 : decode cX3_pack 101 = .ok (.aload_n 0, 1) := by decide +kernel
theorem dX3_pack_102 : decode cX3_pack 102 = .ok (.getfield 19, 3) := by decide +kernel
theorem dX3_pack_105 : decode cX3_pack 105 = .ok (.aload_n 0, 1) := by decide +kernel
theorem dX3_pack_106 : decode cX3_pack 106 = .ok (.getfield 16, 3) := by decide +kernel
theorem dX3_pack_109 : decode cX3_pack 109 = .ok (.bipush 12, 2) := by decide +kernel
theorem dX3_pack_111 : decode cX3_pack 111 = .ok (.iload_n 1, 1) := by decide +kernel
theorem dX3_pack_112 : decode cX3_pack 112 = .ok (.imul, 1) := by decide +kernel
theorem dX3_pack_113 : decode cX3_pack 113 = .ok (.iload_n 3, 1) := by decide +kernel
theorem dX3_pack_114 : decode cX3_pack 114 = .ok (.iadd, 1) := by decide +kernel
theorem dX3_pack_115 : decode cX3_pack 115 = .ok (.iaload, 1) := by decide +kernel
theorem dX3_pack_116 : decode cX3_pack 116 = .ok (.iaload, 1) := by decide +kernel
theorem dX3_pack_117 : decode cX3_pack 117 = .ok (.if_icmp .ge 42, 3) := by decide +kernel
theorem dX3_pack_120 : decode cX3_pack 120 = .ok (.aload_n 0, 1) := by decide +kernel
theorem dX3_pack_121 : decode cX3_pack 121 = .ok (.getfield 32, 3) := by decide +kernel
theorem dX3_pack_124 : decode cX3_pack 124 = .ok (.iload_n 2, 1) := by decide +kernel
theorem dX3_pack_125 : decode cX3_pack 125 = .ok (.bipush 32, 2) := by decide +kernel
theorem dX3_pack_127 : decode cX3_pack 127 = .ok (.idiv, 1) := by decide +kernel
theorem dX3_pack_128 : decode cX3_pack 128 = .ok (.dup2, 1) := by decide +kernel
theorem dX3_pack_129 : decode cX3_pack 129 = .ok (.iaload, 1) := by decide +kernel
theorem dX3_pack_130 : decode cX3_pack 130 = .ok (.aload_n 0, 1) := by decide +kernel
theorem dX3_pack_131 : decode cX3_pack 131 = .ok (.getfield 22, 3) := by decide +kernel
theorem dX3_pack_134 : decode cX3_pack 134 = .ok (.aload_n 0, 1) := by decide +kernel
theorem dX3_pack_135 : decode cX3_pack 135 = .ok (.iload_n 1, 1) := by decide +kernel
theorem dX3_pack_136 : decode cX3_pack 136 = .ok (.iload_n 3, 1) := by decide +kernel
theorem dX3_pack_137 : decode cX3_pack 137 = .ok (.iload 4, 2) := by decide +kernel
theorem dX3_pack_139 : decode cX3_pack 139 = .ok (.invokevirtual 113, 3) := by decide +kernel
theorem dX3_pack_142 : decode cX3_pack 142 = .ok (.iaload, 1) := by decide +kernel
theorem dX3_pack_143 : decode cX3_pack 143 = .ok (.iload_n 2, 1) := by decide +kernel
theorem dX3_pack_144 : decode cX3_pack 144 = .ok (.bipush 32, 2) := by decide +kernel
theorem dX3_pack_146 : decode cX3_pack 146 = .ok (.irem, 1) := by decide +kernel
theorem dX3_pack_147 : decode cX3_pack 147 = .ok (.ishl, 1) := by decide +kernel
theorem dX3_pack_148 : decode cX3_pack 148 = .ok (.ior, 1) := by decide +kernel
theorem dX3_pack_149 : decode cX3_pack 149 = .ok (.iastore, 1) := by decide +kernel
theorem dX3_pack_150 : decode cX3_pack 150 = .ok (.iinc 2 1, 3) := by decide +kernel
theorem dX3_pack_153 : decode cX3_pack 153 = .ok (.iinc 4 1, 3) := by decide +kernel
theorem dX3_pack_156 : decode cX3_pack 156 = .ok (.goto (-57), 3) := by decide +kernel
theorem dX3_pack_159 : decode cX3_pack 159 = .ok (.iinc 3 1, 3) := by decide +kernel
theorem dX3_pack_162 : decode cX3_pack 162 = .ok (.goto (-76), 3) := by decide +kernel
theorem dX3_pack_165 : decode cX3_pack 165 = .ok (.aload_n 0, 1) := by decide +kernel
theorem dX3_pack_166 : decode cX3_pack 166 = .ok (.iload_n 2, 1) := by decide +kernel
theorem dX3_pack_167 : decode cX3_pack 167 = .ok (.bipush 31, 2) := by decide +kernel
theorem dX3_pack_169 : decode cX3_pack 169 = .ok (.iadd, 1) := by decide +kernel
theorem dX3_pack_170 : decode cX3_pack 170 = .ok (.bipush 32, 2) := by decide +kernel
theorem dX3_pack_172 : decode cX3_pack 172 = .ok (.idiv, 1) := by decide +kernel
theorem dX3_pack_173 : decode cX3_pack 173 = .ok (.putfield 140, 3) := by decide +kernel
theorem dX3_pack_176 : decode cX3_pack 176 = .ok (.aload_n 0, 1) := by decide +kernel
theorem dX3_pack_177 : decode cX3_pack 177 = .ok (.getfield 140, 3) := by decide +kernel
theorem dX3_pack_180 : decode cX3_pack 180 = .ok (.ireturn, 1) := by decide +kernel
theorem dX3_word_0 : decode cX3_word 0 = .ok (.iload_n 1, 1) := by decide +kernel
theorem dX3_word_1 : decode cX3_word 1 = .ok (.iconst 0, 1) := by decide +kernel
theorem dX3_word_2 : decode cX3_word 2 = .ok (.aload_n 0, 1) := by decide +kernel
theorem dX3_word_3 : decode cX3_word 3 = .ok (.getfield 140, 3) := by decide +kernel
theorem dX3_word_6 : decode cX3_word 6 = .ok (.iconst 1, 1) := by decide +kernel
theorem dX3_word_7 : decode cX3_word 7 = .ok (.isub, 1) := by decide +kernel
theorem dX3_word_8 : decode cX3_word 8 = .ok (.invokestatic 58, 3) := by decide +kernel
theorem dX3_word_11 : decode cX3_word 11 = .ok (.ifCond .eq 12, 3) := by decide +kernel
theorem dX3_word_14 : decode cX3_word 14 = .ok (.aload_n 0, 1) := by decide +kernel
theorem dX3_word_15 : decode cX3_word 15 = .ok (.getfield 32, 3) := by decide +kernel
theorem dX3_word_18 : decode cX3_word 18 = .ok (.iload_n 1, 1) := by decide +kernel
theorem dX3_word_19 : decode cX3_word 19 = .ok (.iaload, 1) := by decide +kernel
theorem dX3_word_20 : decode cX3_word 20 = .ok (.goto 5, 3) := by decide +kernel
theorem dX3_word_23 : decode cX3_word 23 = .ok (.ldc 65, 2) := by decide +kernel
theorem dX3_word_25 : decode cX3_word 25 = .ok (.ireturn, 1) := by decide +kernel
theorem dX3_areAlike_0 : decode cX3_areAlike 0 = .ok (.iload_n 2, 1) := by decide +kernel
theorem dX3_areAlike_1 : decode cX3_areAlike 1 = .ok (.ifCond .lt 7, 3) := by decide +kernel
theorem dX3_areAlike_4 : decode cX3_areAlike 4 = .ok (.iload_n 3, 1) := by decide +kernel
theorem dX3_areAlike_5 : decode cX3_areAlike 5 = .ok (.ifCond .ge 17, 3) := by decide +kernel
theorem dX3_areAlike_8 : decode cX3_areAlike 8 = .ok (.iload_n 2, 1) := by decide +kernel
theorem dX3_areAlike_9 : decode cX3_areAlike 9 = .ok (.ifCond .ge 11, 3) := by decide +kernel
theorem dX3_areAlike_12 : decode cX3_areAlike 12 = .ok (.iload_n 3, 1) := by decide +kernel
theorem dX3_areAlike_13 : decode cX3_areAlike 13 = .ok (.ifCond .ge 7, 3) := by decide +kernel
theorem dX3_areAlike_16 : decode cX3_areAlike 16 = .ok (.iconst 1, 1) := by decide +kernel
theorem dX3_areAlike_17 : decode cX3_areAlike 17 = .ok (.goto 4, 3) := by decide +kernel
theorem dX3_areAlike_20 : decode cX3_areAlike 20 = .ok (.iconst 0, 1) := by decide +kernel
theorem dX3_areAlike_21 : decode cX3_areAlike 21 = .ok (.ireturn, 1) := by decide +kernel
theorem dX3_areAlike_22 : decode cX3_areAlike 22 = .ok (.aload_n 0, 1) := by decide +kernel
theorem dX3_areAlike_23 : decode cX3_areAlike 23 = .ok (.getfield 19, 3) := by decide +kernel
theorem dX3_areAlike_26 : decode cX3_areAlike 26 = .ok (.iload_n 2, 1) := by decide +kernel
theorem dX3_areAlike_27 : decode cX3_areAlike 27 = .ok (.iaload, 1) := by decide +kernel
theorem dX3_areAlike_28 : decode cX3_areAlike 28 = .ok (.aload_n 0, 1) := by decide +kernel
theorem dX3_areAlike_29 : decode cX3_areAlike 29 = .ok (.getfield 19, 3) := by decide +kernel
theorem dX3_areAlike_32 : decode cX3_areAlike 32 = .ok (.iload_n 3, 1) := by decide +kernel
theorem dX3_areAlike_33 : decode cX3_areAlike 33 = .ok (.iaload, 1) := by decide +kernel
theorem dX3_areAlike_34 : decode cX3_areAlike 34 = .ok (.if_icmp .ne 7, 3) := by decide +kernel
theorem dX3_areAlike_37 : decode cX3_areAlike 37 = .ok (.iconst 1, 1) := by decide +kernel
theorem dX3_areAlike_38 : decode cX3_areAlike 38 = .ok (.goto 4, 3) := by decide +kernel
theorem dX3_areAlike_41 : decode cX3_areAlike 41 = .ok (.iconst 0, 1) := by decide +kernel
theorem dX3_areAlike_42 : decode cX3_areAlike 42 = .ok (.istore 4, 2) := by decide +kernel
theorem dX3_areAlike_44 : decode cX3_areAlike 44 = .ok (.iconst 0, 1) := by decide +kernel
theorem dX3_areAlike_45 : decode cX3_areAlike 45 = .ok (.istore 5, 2) := by decide +kernel
theorem dX3_areAlike_47 : decode cX3_areAlike 47 = .ok (.iload 5, 2) := by decide +kernel
theorem dX3_areAlike_49 : decode cX3_areAlike 49 = .ok (.aload_n 0, 1) := by decide +kernel
theorem dX3_areAlike_50 : decode cX3_areAlike 50 = .ok (.getfield 19, 3) := by decide +kernel
theorem dX3_areAlike_53 : decode cX3_areAlike 53 = .ok (.iload_n 2, 1) := by decide +kernel
theorem dX3_areAlike_54 : decode cX3_areAlike 54 = .ok (.iaload, 1) := by decide +kernel
theorem dX3_areAlike_55 : decode cX3_areAlike 55 = .ok (.if_icmp .ge 89, 3) := by decide +kernel
theorem dX3_areAlike_58 : decode cX3_areAlike 58 = .ok (.iload 4, 2) := by decide +kernel
theorem dX3_areAlike_60 : decode cX3_areAlike 60 = .ok (.ifCond .eq 84, 3) := by decide +kernel
theorem dX3_areAlike_63 : decode cX3_areAlike 63 = .ok (.iload_n 1, 1) := by decide +kernel
theorem dX3_areAlike_64 : decode cX3_areAlike 64 = .ok (.iconst 2, 1) := by decide +kernel
theorem dX3_areAlike_65 : decode cX3_areAlike 65 = .ok (.if_icmp .ne 39, 3) := by decide +kernel
theorem dX3_areAlike_68 : decode cX3_areAlike 68 = .ok (.aload_n 0, 1) := by decide +kernel
theorem dX3_areAlike_69 : decode cX3_areAlike 69 = .ok (.getfield 25, 3) := by decide +kernel
theorem dX3_areAlike_72 : decode cX3_areAlike 72 = .ok (.bipush 16, 2) := by decide +kernel
theorem dX3_areAlike_74 : decode cX3_areAlike 74 = .ok (.iload_n 2, 1) := by decide +kernel
theorem dX3_areAlike_75 : decode cX3_areAlike 75 = .ok (.imul, 1) := by decide +kernel
theorem dX3_areAlike_76 : decode cX3_areAlike 76 = .ok (.iload 5, 2) := by decide +kernel
theorem dX3_areAlike_78 : decode cX3_areAlike 78 = .ok (.iadd, 1) := by decide +kernel
theorem dX3_areAlike_79 : decode cX3_areAlike 79 = .ok (.daload, 1) := by decide +kernel
theorem dX3_areAlike_80 : decode cX3_areAlike 80 = .ok (.aload_n 0, 1) := by decide +kernel
theorem dX3_areAlike_81 : decode cX3_areAlike 81 = .ok (.getfield 25, 3) := by decide +kernel
theorem dX3_areAlike_84 : decode cX3_areAlike 84 = .ok (.bipush 16, 2) := by decide +kernel
theorem dX3_areAlike_86 : decode cX3_areAlike 86 = .ok (.iload_n 3, 1) := by decide +kernel
theorem dX3_areAlike_87 : decode cX3_areAlike 87 = .ok (.imul, 1) := by decide +kernel
theorem dX3_areAlike_88 : decode cX3_areAlike 88 = .ok (.iload 5, 2) := by decide +kernel
theorem dX3_areAlike_90 : decode cX3_areAlike 90 = .ok (.iadd, 1) := by decide +kernel
theorem dX3_areAlike_91 : decode cX3_areAlike 91 = .ok (.daload, 1) := by decide +kernel
theorem dX3_areAlike_92 : decode cX3_areAlike 92 = .ok (.dcmp .l, 1) := by decide +kernel
theorem dX3_areAlike_93 : decode cX3_areAlike 93 = .ok (.ifCond .ne 7, 3) := by decide +kernel
theorem dX3_areAlike_96 : decode cX3_areAlike 96 = .ok (.iconst 1, 1) := by decide +kernel
theorem dX3_areAlike_97 : decode cX3_areAlike 97 = .ok (.goto 39, 3) := by decide +kernel
theorem dX3_areAlike_100 : decode cX3_areAlike 100 = .ok (.iconst 0, 1) := by decide +kernel
theorem dX3_areAlike_101 : decode cX3_areAlike 101 = .ok (.goto 35, 3) := by decide +kernel
theorem dX3_areAlike_104 : decode cX3_areAlike 104 = .ok (.aload_n 0, 1) := by decide +kernel
theorem dX3_areAlike_105 : decode cX3_areAlike 105 = .ok (.getfield 22, 3) := by decide +kernel
theorem dX3_areAlike_108 : decode cX3_areAlike 108 = .ok (.bipush 16, 2) := by decide +kernel
theorem dX3_areAlike_110 : decode cX3_areAlike 110 = .ok (.iload_n 2, 1) := by decide +kernel
theorem dX3_areAlike_111 : decode cX3_areAlike 111 = .ok (.imul, 1) := by decide +kernel
theorem dX3_areAlike_112 : decode cX3_areAlike 112 = .ok (.iload 5, 2) := by decide +kernel
theorem dX3_areAlike_114 : decode cX3_areAlike 114 = .ok (.iadd, 1) := by decide +kernel
theorem dX3_areAlike_115 : decode cX3_areAlike 115 = .ok (.iaload, 1) := by decide +kernel
theorem dX3_areAlike_116 : decode cX3_areAlike 116 = .ok (.aload_n 0, 1) := by decide +kernel
theorem dX3_areAlike_117 : decode cX3_areAlike 117 = .ok (.getfield 22, 3) := by decide +kernel
theorem dX3_areAlike_120 : decode cX3_areAlike 120 = .ok (.bipush 16, 2) := by decide +kernel
theorem dX3_areAlike_122 : decode cX3_areAlike 122 = .ok (.iload_n 3, 1) := by decide +kernel
theorem dX3_areAlike_123 : decode cX3_areAlike 123 = .ok (.imul, 1) := by decide +kernel
theorem dX3_areAlike_124 : decode cX3_areAlike 124 = .ok (.iload 5, 2) := by decide +kernel
theorem dX3_areAlike_126 : decode cX3_areAlike 126 = .ok (.iadd, 1) := by decide +kernel
theorem dX3_areAlike_127 : decode cX3_areAlike 127 = .ok (.iaload, 1) := by decide +kernel
theorem dX3_areAlike_128 : decode cX3_areAlike 128 = .ok (.if_icmp .ne 7, 3) := by decide +kernel
theorem dX3_areAlike_131 : decode cX3_areAlike 131 = .ok (.iconst 1, 1) := by decide +kernel
theorem dX3_areAlike_132 : decode cX3_areAlike 132 = .ok (.goto 4, 3) := by decide +kernel
theorem dX3_areAlike_135 : decode cX3_areAlike 135 = .ok (.iconst 0, 1) := by decide +kernel
theorem dX3_areAlike_136 : decode cX3_areAlike 136 = .ok (.istore 4, 2) := by decide +kernel
theorem dX3_areAlike_138 : decode cX3_areAlike 138 = .ok (.iinc 5 1, 3) := by decide +kernel
theorem dX3_areAlike_141 : decode cX3_areAlike 141 = .ok (.goto (-94), 3) := by decide +kernel
theorem dX3_areAlike_144 : decode cX3_areAlike 144 = .ok (.iload 4, 2) := by decide +kernel
theorem dX3_areAlike_146 : decode cX3_areAlike 146 = .ok (.ireturn, 1) := by decide +kernel
theorem dX3_alike_0 : decode cX3_alike 0 = .ok (.aload_n 0, 1) := by decide +kernel
theorem dX3_alike_1 : decode cX3_alike 1 = .ok (.iload_n 1, 1) := by decide +kernel
theorem dX3_alike_2 : decode cX3_alike 2 = .ok (.invokevirtual 79, 3) := by decide +kernel
theorem dX3_alike_5 : decode cX3_alike 5 = .ok (.ifCond .eq 11, 3) := by decide +kernel
end
section
theorem dX3_alike_8 : decode cX3_alike 8 = .ok (.aload_n 0, 1) := by decide +kernel
theorem dX3_alike_9 : decode cX3_alike 9 = .ok (.iload_n 2, 1) := by decide +kernel
theorem dX3_alike_10 : decode cX3_alike 10 = .ok (.invokevirtual 79, 3) := by decide +kernel
theorem dX3_alike_13 : decode cX3_alike 13 = .ok (.ifCond .ne 6, 3) := by decide +kernel
theorem dX3_alike_16 : decode cX3_alike 16 = .ok (.ldc 83, 2) := by decide +kernel
theorem dX3_alike_18 : decode cX3_alike 18 = .ok (.ireturn, 1) := by decide +kernel
theorem dX3_alike_19 : decode cX3_alike 19 = .ok (.aload_n 0, 1) := by decide +kernel
theorem dX3_alike_20 : decode cX3_alike 20 = .ok (.getfield 7, 3) := by decide +kernel
theorem dX3_alike_23 : decode cX3_alike 23 = .ok (.iload_n 1, 1) := by decide +kernel
theorem dX3_alike_24 : decode cX3_alike 24 = .ok (.iaload, 1) := by decide +kernel
theorem dX3_alike_25 : decode cX3_alike 25 = .ok (.aload_n 0, 1) := by decide +kernel
theorem dX3_alike_26 : decode cX3_alike 26 = .ok (.getfield 7, 3) := by decide +kernel
theorem dX3_alike_29 : decode cX3_alike 29 = .ok (.iload_n 2, 1) := by decide +kernel
theorem dX3_alike_30 : decode cX3_alike 30 = .ok (.iaload, 1) := by decide +kernel
theorem dX3_alike_31 : decode cX3_alike 31 = .ok (.if_icmp .ne 22, 3) := by decide +kernel
theorem dX3_alike_34 : decode cX3_alike 34 = .ok (.aload_n 0, 1) := by decide +kernel
theorem dX3_alike_35 : decode cX3_alike 35 = .ok (.getfield 13, 3) := by decide +kernel
theorem dX3_alike_38 : decode cX3_alike 38 = .ok (.iload_n 1, 1) := by decide +kernel
theorem dX3_alike_39 : decode cX3_alike 39 = .ok (.iaload, 1) := by decide +kernel
theorem dX3_alike_40 : decode cX3_alike 40 = .ok (.aload_n 0, 1) := by decide +kernel
theorem dX3_alike_41 : decode cX3_alike 41 = .ok (.getfield 13, 3) := by decide +kernel
theorem dX3_alike_44 : decode cX3_alike 44 = .ok (.iload_n 2, 1) := by decide +kernel
theorem dX3_alike_45 : decode cX3_alike 45 = .ok (.iaload, 1) := by decide +kernel
theorem dX3_alike_46 : decode cX3_alike 46 = .ok (.if_icmp .ne 7, 3) := by decide +kernel
theorem dX3_alike_49 : decode cX3_alike 49 = .ok (.iconst 1, 1) := by decide +kernel
theorem dX3_alike_50 : decode cX3_alike 50 = .ok (.goto 4, 3) := by decide +kernel
theorem dX3_alike_53 : decode cX3_alike 53 = .ok (.iconst 0, 1) := by decide +kernel
theorem dX3_alike_54 : decode cX3_alike 54 = .ok (.istore_n 3, 1) := by decide +kernel
theorem dX3_alike_55 : decode cX3_alike 55 = .ok (.iconst 0, 1) := by decide +kernel
theorem dX3_alike_56 : decode cX3_alike 56 = .ok (.istore 4, 2) := by decide +kernel
theorem dX3_alike_58 : decode cX3_alike 58 = .ok (.iload 4, 2) := by decide +kernel
theorem dX3_alike_60 : decode cX3_alike 60 = .ok (.aload_n 0, 1) := by decide +kernel
theorem dX3_alike_61 : decode cX3_alike 61 = .ok (.getfield 13, 3) := by decide +kernel
theorem dX3_alike_64 : decode cX3_alike 64 = .ok (.iload_n 1, 1) := by decide +kernel
theorem dX3_alike_65 : decode cX3_alike 65 = .ok (.iaload, 1) := by decide +kernel
theorem dX3_alike_66 : decode cX3_alike 66 = .ok (.if_icmp .ge 48, 3) := by decide +kernel
theorem dX3_alike_69 : decode cX3_alike 69 = .ok (.iload_n 3, 1) := by decide +kernel
theorem dX3_alike_70 : decode cX3_alike 70 = .ok (.ifCond .eq 44, 3) := by decide +kernel
theorem dX3_alike_73 : decode cX3_alike 73 = .ok (.aload_n 0, 1) := by decide +kernel
theorem dX3_alike_74 : decode cX3_alike 74 = .ok (.aload_n 0, 1) := by decide +kernel
theorem dX3_alike_75 : decode cX3_alike 75 = .ok (.getfield 7, 3) := by decide +kernel
theorem dX3_alike_78 : decode cX3_alike 78 = .ok (.iload_n 1, 1) := by decide +kernel
theorem dX3_alike_79 : decode cX3_alike 79 = .ok (.iaload, 1) := by decide +kernel
theorem dX3_alike_80 : decode cX3_alike 80 = .ok (.aload_n 0, 1) := by decide +kernel
theorem dX3_alike_81 : decode cX3_alike 81 = .ok (.getfield 16, 3) := by decide +kernel
theorem dX3_alike_84 : decode cX3_alike 84 = .ok (.bipush 12, 2) := by decide +kernel
theorem dX3_alike_86 : decode cX3_alike 86 = .ok (.iload_n 1, 1) := by decide +kernel
theorem dX3_alike_87 : decode cX3_alike 87 = .ok (.imul, 1) := by decide +kernel
theorem dX3_alike_88 : decode cX3_alike 88 = .ok (.iload 4, 2) := by decide +kernel
theorem dX3_alike_90 : decode cX3_alike 90 = .ok (.iadd, 1) := by decide +kernel
theorem dX3_alike_91 : decode cX3_alike 91 = .ok (.iaload, 1) := by decide +kernel
theorem dX3_alike_92 : decode cX3_alike 92 = .ok (.aload_n 0, 1) := by decide +kernel
theorem dX3_alike_93 : decode cX3_alike 93 = .ok (.getfield 16, 3) := by decide +kernel
theorem dX3_alike_96 : decode cX3_alike 96 = .ok (.bipush 12, 2) := by decide +kernel
theorem dX3_alike_98 : decode cX3_alike 98 = .ok (.iload_n 2, 1) := by decide +kernel
theorem dX3_alike_99 : decode cX3_alike 99 = .ok (.imul, 1) := by decide +kernel
theorem dX3_alike_100 : decode cX3_alike 100 = .ok (.iload 4, 2) := by decide +kernel
theorem dX3_alike_102 : decode cX3_alike 102 = .ok (.iadd, 1) := by decide +kernel
theorem dX3_alike_103 : decode cX3_alike 103 = .ok (.iaload, 1) := by decide +kernel
theorem dX3_alike_104 : decode cX3_alike 104 = .ok (.invokevirtual 143, 3) := by decide +kernel
theorem dX3_alike_107 : decode cX3_alike 107 = .ok (.istore_n 3, 1) := by decide +kernel
theorem dX3_alike_108 : decode cX3_alike 108 = .ok (.iinc 4 1, 3) := by decide +kernel
theorem dX3_alike_111 : decode cX3_alike 111 = .ok (.goto (-53), 3) := by decide +kernel
theorem dX3_alike_114 : decode cX3_alike 114 = .ok (.iload_n 3, 1) := by decide +kernel
theorem dX3_alike_115 : decode cX3_alike 115 = .ok (.ifCond .eq 7, 3) := by decide +kernel
theorem dX3_alike_118 : decode cX3_alike 118 = .ok (.iconst 1, 1) := by decide +kernel
theorem dX3_alike_119 : decode cX3_alike 119 = .ok (.goto 4, 3) := by decide +kernel
theorem dX3_alike_122 : decode cX3_alike 122 = .ok (.iconst 0, 1) := by decide +kernel
theorem dX3_alike_123 : decode cX3_alike 123 = .ok (.ireturn, 1) := by decide +kernel
theorem dX3_same_0 : decode cX3_same 0 = .ok (.aload_n 0, 1) := by decide +kernel
theorem dX3_same_1 : decode cX3_same 1 = .ok (.iload_n 1, 1) := by decide +kernel
theorem dX3_same_2 : decode cX3_same 2 = .ok (.invokevirtual 79, 3) := by decide +kernel
theorem dX3_same_5 : decode cX3_same 5 = .ok (.ifCond .eq 11, 3) := by decide +kernel
theorem dX3_same_8 : decode cX3_same 8 = .ok (.aload_n 0, 1) := by decide +kernel
theorem dX3_same_9 : decode cX3_same 9 = .ok (.iload_n 3, 1) := by decide +kernel
theorem dX3_same_10 : decode cX3_same 10 = .ok (.invokevirtual 79, 3) := by decide +kernel
theorem dX3_same_13 : decode cX3_same 13 = .ok (.ifCond .ne 6, 3) := by decide +kernel
theorem dX3_same_16 : decode cX3_same 16 = .ok (.ldc 83, 2) := by decide +kernel
theorem dX3_same_18 : decode cX3_same 18 = .ok (.ireturn, 1) := by decide +kernel
theorem dX3_same_19 : decode cX3_same 19 = .ok (.aload_n 0, 1) := by decide +kernel
theorem dX3_same_20 : decode cX3_same 20 = .ok (.iload_n 1, 1) := by decide +kernel
theorem dX3_same_21 : decode cX3_same 21 = .ok (.iload_n 2, 1) := by decide +kernel
theorem dX3_same_22 : decode cX3_same 22 = .ok (.invokevirtual 84, 3) := by decide +kernel
theorem dX3_same_25 : decode cX3_same 25 = .ok (.ifCond .eq 13, 3) := by decide +kernel
theorem dX3_same_28 : decode cX3_same 28 = .ok (.aload_n 0, 1) := by decide +kernel
theorem dX3_same_29 : decode cX3_same 29 = .ok (.iload_n 3, 1) := by decide +kernel
theorem dX3_same_30 : decode cX3_same 30 = .ok (.iload 4, 2) := by decide +kernel
theorem dX3_same_32 : decode cX3_same 32 = .ok (.invokevirtual 84, 3) := by decide +kernel
theorem dX3_same_35 : decode cX3_same 35 = .ok (.ifCond .ne 9, 3) := by decide +kernel
theorem dX3_same_38 : decode cX3_same 38 = .ok (.aload_n 0, 1) := by decide +kernel
theorem dX3_same_39 : decode cX3_same 39 = .ok (.iconst 2, 1) := by decide +kernel
theorem dX3_same_40 : decode cX3_same 40 = .ok (.invokevirtual 75, 3) := by decide +kernel
theorem dX3_same_43 : decode cX3_same 43 = .ok (.ireturn, 1) := by decide +kernel
theorem dX3_same_44 : decode cX3_same 44 = .ok (.aload_n 0, 1) := by decide +kernel
theorem dX3_same_45 : decode cX3_same 45 = .ok (.getfield 16, 3) := by decide +kernel
theorem dX3_same_48 : decode cX3_same 48 = .ok (.bipush 12, 2) := by decide +kernel
theorem dX3_same_50 : decode cX3_same 50 = .ok (.iload_n 1, 1) := by decide +kernel
theorem dX3_same_51 : decode cX3_same 51 = .ok (.imul, 1) := by decide +kernel
theorem dX3_same_52 : decode cX3_same 52 = .ok (.iload_n 2, 1) := by decide +kernel
theorem dX3_same_53 : decode cX3_same 53 = .ok (.iadd, 1) := by decide +kernel
theorem dX3_same_54 : decode cX3_same 54 = .ok (.iaload, 1) := by decide +kernel
theorem dX3_same_55 : decode cX3_same 55 = .ok (.istore 5, 2) := by decide +kernel
theorem dX3_same_57 : decode cX3_same 57 = .ok (.iload 5, 2) := by decide +kernel
theorem dX3_same_59 : decode cX3_same 59 = .ok (.ifCond .lt 24, 3) := by decide +kernel
theorem dX3_same_62 : decode cX3_same 62 = .ok (.iload 5, 2) := by decide +kernel
theorem dX3_same_64 : decode cX3_same 64 = .ok (.aload_n 0, 1) := by decide +kernel
theorem dX3_same_65 : decode cX3_same 65 = .ok (.getfield 16, 3) := by decide +kernel
theorem dX3_same_68 : decode cX3_same 68 = .ok (.bipush 12, 2) := by decide +kernel
theorem dX3_same_70 : decode cX3_same 70 = .ok (.iload_n 3, 1) := by decide +kernel
theorem dX3_same_71 : decode cX3_same 71 = .ok (.imul, 1) := by decide +kernel
theorem dX3_same_72 : decode cX3_same 72 = .ok (.iload 4, 2) := by decide +kernel
theorem dX3_same_74 : decode cX3_same 74 = .ok (.iadd, 1) := by decide +kernel
theorem dX3_same_75 : decode cX3_same 75 = .ok (.iaload, 1) := by decide +kernel
theorem dX3_same_76 : decode cX3_same 76 = .ok (.if_icmp .ne 7, 3) := by decide +kernel
theorem dX3_same_79 : decode cX3_same 79 = .ok (.iconst 1, 1) := by decide +kernel
theorem dX3_same_80 : decode cX3_same 80 = .ok (.goto 4, 3) := by decide +kernel
theorem dX3_same_83 : decode cX3_same 83 = .ok (.iconst 0, 1) := by decide +kernel
theorem dX3_same_84 : decode cX3_same 84 = .ok (.ireturn, 1) := by decide +kernel
theorem dX3_goOn_0 : decode cX3_goOn 0 = .ok (.aload_n 0, 1) := by decide +kernel
theorem dX3_goOn_1 : decode cX3_goOn 1 = .ok (.getfield 35, 3) := by decide +kernel
theorem dX3_goOn_4 : decode cX3_goOn 4 = .ok (.iload_n 1, 1) := by decide +kernel
theorem dX3_goOn_5 : decode cX3_goOn 5 = .ok (.iaload, 1) := by decide +kernel
theorem dX3_goOn_6 : decode cX3_goOn 6 = .ok (.istore_n 3, 1) := by decide +kernel
theorem dX3_goOn_7 : decode cX3_goOn 7 = .ok (.aload_n 0, 1) := by decide +kernel
theorem dX3_goOn_8 : decode cX3_goOn 8 = .ok (.getfield 38, 3) := by decide +kernel
theorem dX3_goOn_11 : decode cX3_goOn 11 = .ok (.iload_n 1, 1) := by decide +kernel
theorem dX3_goOn_12 : decode cX3_goOn 12 = .ok (.iaload, 1) := by decide +kernel
theorem dX3_goOn_13 : decode cX3_goOn 13 = .ok (.bipush 16, 2) := by decide +kernel
theorem dX3_goOn_15 : decode cX3_goOn 15 = .ok (.aload_n 0, 1) := by decide +kernel
theorem dX3_goOn_16 : decode cX3_goOn 16 = .ok (.getfield 13, 3) := by decide +kernel
theorem dX3_goOn_19 : decode cX3_goOn 19 = .ok (.iload_n 3, 1) := by decide +kernel
theorem dX3_goOn_20 : decode cX3_goOn 20 = .ok (.iaload, 1) := by decide +kernel
theorem dX3_goOn_21 : decode cX3_goOn 21 = .ok (.imul, 1) := by decide +kernel
theorem dX3_goOn_22 : decode cX3_goOn 22 = .ok (.if_icmp .ge 380, 3) := by decide +kernel
theorem dX3_goOn_25 : decode cX3_goOn 25 = .ok (.aload_n 0, 1) := by decide +kernel
theorem dX3_goOn_26 : decode cX3_goOn 26 = .ok (.getfield 38, 3) := by decide +kernel
theorem dX3_goOn_29 : decode cX3_goOn 29 = .ok (.iload_n 1, 1) := by decide +kernel
theorem dX3_goOn_30 : decode cX3_goOn 30 = .ok (.iaload, 1) := by decide +kernel
theorem dX3_goOn_31 : decode cX3_goOn 31 = .ok (.bipush 16, 2) := by decide +kernel
theorem dX3_goOn_33 : decode cX3_goOn 33 = .ok (.idiv, 1) := by decide +kernel
theorem dX3_goOn_34 : decode cX3_goOn 34 = .ok (.istore 4, 2) := by decide +kernel
theorem dX3_goOn_36 : decode cX3_goOn 36 = .ok (.aload_n 0, 1) := by decide +kernel
theorem dX3_goOn_37 : decode cX3_goOn 37 = .ok (.getfield 38, 3) := by decide +kernel
theorem dX3_goOn_40 : decode cX3_goOn 40 = .ok (.iload_n 1, 1) := by decide +kernel
theorem dX3_goOn_41 : decode cX3_goOn 41 = .ok (.iaload, 1) := by decide +kernel
theorem dX3_goOn_42 : decode cX3_goOn 42 = .ok (.bipush 16, 2) := by decide +kernel
theorem dX3_goOn_44 : decode cX3_goOn 44 = .ok (.irem, 1) := by decide +kernel
theorem dX3_goOn_45 : decode cX3_goOn 45 = .ok (.istore 5, 2) := by decide +kernel
theorem dX3_goOn_47 : decode cX3_goOn 47 = .ok (.aload_n 0, 1) := by decide +kernel
theorem dX3_goOn_48 : decode cX3_goOn 48 = .ok (.getfield 16, 3) := by decide +kernel
theorem dX3_goOn_51 : decode cX3_goOn 51 = .ok (.bipush 12, 2) := by decide +kernel
theorem dX3_goOn_53 : decode cX3_goOn 53 = .ok (.iload_n 3, 1) := by decide +kernel
theorem dX3_goOn_54 : decode cX3_goOn 54 = .ok (.imul, 1) := by decide +kernel
theorem dX3_goOn_55 : decode cX3_goOn 55 = .ok (.iload 4, 2) := by decide +kernel
theorem dX3_goOn_57 : decode cX3_goOn 57 = .ok (.iadd, 1) := by decide +kernel
theorem dX3_goOn_58 : decode cX3_goOn 58 = .ok (.iaload, 1) := by decide +kernel
theorem dX3_goOn_59 : decode cX3_goOn 59 = .ok (.istore 6, 2) := by decide +kernel
theorem dX3_goOn_61 : decode cX3_goOn 61 = .ok (.iload 6, 2) := by decide +kernel
theorem dX3_goOn_63 : decode cX3_goOn 63 = .ok (.ifCond .ge 14, 3) := by decide +kernel
theorem dX3_goOn_66 : decode cX3_goOn 66 = .ok (.iload_n 2, 1) := by decide +kernel
theorem dX3_goOn_67 : decode cX3_goOn 67 = .ok (.ifCond .ne 10, 3) := by decide +kernel
theorem dX3_goOn_70 : decode cX3_goOn 70 = .ok (.aload_n 0, 1) := by decide +kernel
theorem dX3_goOn_71 : decode cX3_goOn 71 = .ok (.iconst 1, 1) := by decide +kernel
theorem dX3_goOn_72 : decode cX3_goOn 72 = .ok (.putfield 146, 3) := by decide +kernel
theorem dX3_goOn_75 : decode cX3_goOn 75 = .ok (.iconst (-1), 1) := by decide +kernel
theorem dX3_goOn_76 : decode cX3_goOn 76 = .ok (.ireturn, 1) := by decide +kernel
theorem dX3_goOn_77 : decode cX3_goOn 77 = .ok (.iload 6, 2) := by decide +kernel
theorem dX3_goOn_79 : decode cX3_goOn 79 = .ok (.ifCond .lt 25, 3) := by decide +kernel
theorem dX3_goOn_82 : decode cX3_goOn 82 = .ok (.iload 5, 2) := by decide +kernel
theorem dX3_goOn_84 : decode cX3_goOn 84 = .ok (.aload_n 0, 1) := by decide +kernel
theorem dX3_goOn_85 : decode cX3_goOn 85 = .ok (.getfield 19, 3) := by decide +kernel
theorem dX3_goOn_88 : decode cX3_goOn 88 = .ok (.iload 6, 2) := by decide +kernel
theorem dX3_goOn_90 : decode cX3_goOn 90 = .ok (.iaload, 1) := by decide +kernel
theorem dX3_goOn_91 : decode cX3_goOn 91 = .ok (.if_icmp .ge 13, 3) := by decide +kernel
theorem dX3_goOn_94 : decode cX3_goOn 94 = .ok (.aload_n 0, 1) := by decide +kernel
theorem dX3_goOn_95 : decode cX3_goOn 95 = .ok (.getfield 7, 3) := by decide +kernel
theorem dX3_goOn_98 : decode cX3_goOn 98 = .ok (.iload_n 3, 1) := by decide +kernel
theorem dX3_goOn_99 : decode cX3_goOn 99 = .ok (.iaload, 1) := by decide +kernel
theorem dX3_goOn_100 : decode cX3_goOn 100 = .ok (.iconst 3, 1) := by decide +kernel
theorem dX3_goOn_101 : decode cX3_goOn 101 = .ok (.if_icmp .eq 8, 3) := by decide +kernel
theorem dX3_goOn_104 : decode cX3_goOn 104 = .ok (.ldc 65, 2) := by decide +kernel
theorem dX3_goOn_106 : decode cX3_goOn 106 = .ok (.goto 16, 3) := by decide +kernel
theorem dX3_goOn_109 : decode cX3_goOn 109 = .ok (.aload_n 0, 1) := by decide +kernel
theorem dX3_goOn_110 : decode cX3_goOn 110 = .ok (.getfield 22, 3) := by decide +kernel
theorem dX3_goOn_113 : decode cX3_goOn 113 = .ok (.bipush 16, 2) := by decide +kernel
theorem dX3_goOn_115 : decode cX3_goOn 115 = .ok (.iload 6, 2) := by decide +kernel
theorem dX3_goOn_117 : decode cX3_goOn 117 = .ok (.imul, 1) := by decide +kernel
theorem dX3_goOn_118 : decode cX3_goOn 118 = .ok (.iload 5, 2) := by decide +kernel
theorem dX3_goOn_120 : decode cX3_goOn 120 = .ok (.iadd, 1) := by decide +kernel
theorem dX3_goOn_121 : decode cX3_goOn 121 = .ok (.iaload, 1) := by decide +kernel
theorem dX3_goOn_122 : decode cX3_goOn 122 = .ok (.istore 7, 2) := by decide +kernel
theorem dX3_goOn_124 : decode cX3_goOn 124 = .ok (.iload 7, 2) := by decide +kernel
theorem dX3_goOn_126 : decode cX3_goOn 126 = .ok (.ldc 65, 2) := by decide +kernel
theorem dX3_goOn_128 : decode cX3_goOn 128 = .ok (.if_icmp .eq 203, 3) := by decide +kernel
theorem dX3_goOn_131 : decode cX3_goOn 131 = .ok (.aload_n 0, 1) := by decide +kernel
theorem dX3_goOn_132 : decode cX3_goOn 132 = .ok (.getfield 41, 3) := by decide +kernel
theorem dX3_goOn_135 : decode cX3_goOn 135 = .ok (.iload 7, 2) := by decide +kernel
theorem dX3_goOn_137 : decode cX3_goOn 137 = .ok (.iaload, 1) := by decide +kernel
theorem dX3_goOn_138 : decode cX3_goOn 138 = .ok (.iconst 1, 1) := by decide +kernel
theorem dX3_goOn_139 : decode cX3_goOn 139 = .ok (.if_icmp .ne 10, 3) := by decide +kernel
theorem dX3_goOn_142 : decode cX3_goOn 142 = .ok (.aload_n 0, 1) := by decide +kernel
theorem dX3_goOn_143 : decode cX3_goOn 143 = .ok (.iconst 5, 1) := by decide +kernel
theorem dX3_goOn_144 : decode cX3_goOn 144 = .ok (.putfield 146, 3) := by decide +kernel
theorem dX3_goOn_147 : decode cX3_goOn 147 = .ok (.iconst (-1), 1) := by decide +kernel
theorem dX3_goOn_148 : decode cX3_goOn 148 = .ok (.ireturn, 1) := by decide +kernel
theorem dX3_goOn_149 : decode cX3_goOn 149 = .ok (.aload_n 0, 1) := by decide +kernel
theorem dX3_goOn_150 : decode cX3_goOn 150 = .ok (.getfield 41, 3) := by decide +kernel
theorem dX3_goOn_153 : decode cX3_goOn 153 = .ok (.iload 7, 2) := by decide +kernel
theorem dX3_goOn_155 : decode cX3_goOn 155 = .ok (.iaload, 1) := by decide +kernel
theorem dX3_goOn_156 : decode cX3_goOn 156 = .ok (.ifCond .ne 41, 3) := by decide +kernel
theorem dX3_goOn_159 : decode cX3_goOn 159 = .ok (.aload_n 0, 1) := by decide +kernel
theorem dX3_goOn_160 : decode cX3_goOn 160 = .ok (.iload_n 2, 1) := by decide +kernel
theorem dX3_goOn_161 : decode cX3_goOn 161 = .ok (.ifCond .ne 18, 3) := by decide +kernel
theorem dX3_goOn_164 : decode cX3_goOn 164 = .ok (.aload_n 0, 1) := by decide +kernel
theorem dX3_goOn_165 : decode cX3_goOn 165 = .ok (.getfield 149, 3) := by decide +kernel
theorem dX3_goOn_168 : decode cX3_goOn 168 = .ok (.sipush 1000, 3) := by decide +kernel
theorem dX3_goOn_171 : decode cX3_goOn 171 = .ok (.if_icmp .ne 8, 3) := by decide +kernel
theorem dX3_goOn_174 : decode cX3_goOn 174 = .ok (.bipush 6, 2) := by decide +kernel
theorem dX3_goOn_176 : decode cX3_goOn 176 = .ok (.goto 4, 3) := by decide +kernel
theorem dX3_goOn_179 : decode cX3_goOn 179 = .ok (.iconst 0, 1) := by decide +kernel
theorem dX3_goOn_180 : decode cX3_goOn 180 = .ok (.putfield 146, 3) := by decide +kernel
theorem dX3_goOn_183 : decode cX3_goOn 183 = .ok (.aload_n 0, 1) := by decide +kernel
theorem dX3_goOn_184 : decode cX3_goOn 184 = .ok (.getfield 146, 3) := by decide +kernel
theorem dX3_goOn_187 : decode cX3_goOn 187 = .ok (.ifCond .ne 8, 3) := by decide +kernel
theorem dX3_goOn_190 : decode cX3_goOn 190 = .ok (.iload 7, 2) := by decide +kernel
theorem dX3_goOn_192 : decode cX3_goOn 192 = .ok (.goto 4, 3) := by decide +kernel
theorem dX3_goOn_195 : decode cX3_goOn 195 = .ok (.iconst (-1), 1) := by decide +kernel
theorem dX3_goOn_196 : decode cX3_goOn 196 = .ok (.ireturn, 1) := by decide +kernel
theorem dX3_goOn_197 : decode cX3_goOn 197 = .ok (.iload_n 2, 1) := by decide +kernel
theorem dX3_goOn_198 : decode cX3_goOn 198 = .ok (.ifCond .eq 48, 3) := by decide +kernel
theorem dX3_goOn_201 : decode cX3_goOn 201 = .ok (.aload_n 0, 1) := by decide +kernel
theorem dX3_goOn_202 : decode cX3_goOn 202 = .ok (.getfield 44, 3) := by decide +kernel
theorem dX3_goOn_205 : decode cX3_goOn 205 = .ok (.iload_n 3, 1) := by decide +kernel
theorem dX3_goOn_206 : decode cX3_goOn 206 = .ok (.iconst 1, 1) := by decide +kernel
theorem dX3_goOn_207 : decode cX3_goOn 207 = .ok (.aload_n 0, 1) := by decide +kernel
theorem dX3_goOn_208 : decode cX3_goOn 208 = .ok (.getfield 44, 3) := by decide +kernel
theorem dX3_goOn_211 : decode cX3_goOn 211 = .ok (.iload 7, 2) := by decide +kernel
theorem dX3_goOn_213 : decode cX3_goOn 213 = .ok (.iaload, 1) := by decide +kernel
theorem dX3_goOn_214 : decode cX3_goOn 214 = .ok (.iadd, 1) := by decide +kernel
theorem dX3_goOn_215 : decode cX3_goOn 215 = .ok (.aload_n 0, 1) := by decide +kernel
theorem dX3_goOn_216 : decode cX3_goOn 216 = .ok (.getfield 44, 3) := by decide +kernel
theorem dX3_goOn_219 : decode cX3_goOn 219 = .ok (.iload_n 3, 1) := by decide +kernel
theorem dX3_goOn_220 : decode cX3_goOn 220 = .ok (.iaload, 1) := by decide +kernel
theorem dX3_goOn_221 : decode cX3_goOn 221 = .ok (.if_icmp .le 15, 3) := by decide +kernel
theorem dX3_goOn_224 : decode cX3_goOn 224 = .ok (.iconst 1, 1) := by decide +kernel
theorem dX3_goOn_225 : decode cX3_goOn 225 = .ok (.aload_n 0, 1) := by decide +kernel
theorem dX3_goOn_226 : decode cX3_goOn 226 = .ok (.getfield 44, 3) := by decide +kernel
theorem dX3_goOn_229 : decode cX3_goOn 229 = .ok (.iload 7, 2) := by decide +kernel
theorem dX3_goOn_231 : decode cX3_goOn 231 = .ok (.iaload, 1) := by decide +kernel
theorem dX3_goOn_232 : decode cX3_goOn 232 = .ok (.iadd, 1) := by decide +kernel
theorem dX3_goOn_233 : decode cX3_goOn 233 = .ok (.goto 9, 3) := by decide +kernel
theorem dX3_goOn_236 : decode cX3_goOn 236 = .ok (.aload_n 0, 1) := by decide +kernel
theorem dX3_goOn_237 : decode cX3_goOn 237 = .ok (.getfield 44, 3) := by decide +kernel
theorem dX3_goOn_240 : decode cX3_goOn 240 = .ok (.iload_n 3, 1) := by decide +kernel
theorem dX3_goOn_241 : decode cX3_goOn 241 = .ok (.iaload, 1) := by decide +kernel
theorem dX3_goOn_242 : decode cX3_goOn 242 = .ok (.iastore, 1) := by decide +kernel
theorem dX3_goOn_243 : decode cX3_goOn 243 = .ok (.goto 146, 3) := by decide +kernel
theorem dX3_goOn_246 : decode cX3_goOn 246 = .ok (.iload 7, 2) := by decide +kernel
theorem dX3_goOn_248 : decode cX3_goOn 248 = .ok (.aload_n 0, 1) := by decide +kernel
theorem dX3_goOn_249 : decode cX3_goOn 249 = .ok (.getfield 152, 3) := by decide +kernel
theorem dX3_goOn_252 : decode cX3_goOn 252 = .ok (.if_icmp .ne 7, 3) := by decide +kernel
theorem dX3_goOn_255 : decode cX3_goOn 255 = .ok (.iconst 0, 1) := by decide +kernel
theorem dX3_goOn_256 : decode cX3_goOn 256 = .ok (.goto 10, 3) := by decide +kernel
theorem dX3_goOn_259 : decode cX3_goOn 259 = .ok (.aload_n 0, 1) := by decide +kernel
theorem dX3_goOn_260 : decode cX3_goOn 260 = .ok (.getfield 47, 3) := by decide +kernel
theorem dX3_goOn_263 : decode cX3_goOn 263 = .ok (.iload 7, 2) := by decide +kernel
theorem dX3_goOn_265 : decode cX3_goOn 265 = .ok (.iaload, 1) := by decide +kernel
theorem dX3_goOn_266 : decode cX3_goOn 266 = .ok (.istore 8, 2) := by decide +kernel
theorem dX3_goOn_268 : decode cX3_goOn 268 = .ok (.aload_n 0, 1) := by decide +kernel
theorem dX3_goOn_269 : decode cX3_goOn 269 = .ok (.getfield 149, 3) := by decide +kernel
theorem dX3_goOn_272 : decode cX3_goOn 272 = .ok (.iload 8, 2) := by decide +kernel
theorem dX3_goOn_274 : decode cX3_goOn 274 = .ok (.iadd, 1) := by decide +kernel
theorem dX3_goOn_275 : decode cX3_goOn 275 = .ok (.sipush 1000, 3) := by decide +kernel
theorem dX3_goOn_278 : decode cX3_goOn 278 = .ok (.if_icmp .le 18, 3) := by decide +kernel
theorem dX3_goOn_281 : decode cX3_goOn 281 = .ok (.aload_n 0, 1) := by decide +kernel
theorem dX3_goOn_282 : decode cX3_goOn 282 = .ok (.bipush 6, 2) := by decide +kernel
theorem dX3_goOn_284 : decode cX3_goOn 284 = .ok (.putfield 146, 3) := by decide +kernel
theorem dX3_goOn_287 : decode cX3_goOn 287 = .ok (.aload_n 0, 1) := by decide +kernel
theorem dX3_goOn_288 : decode cX3_goOn 288 = .ok (.sipush 1000, 3) := by decide +kernel
theorem dX3_goOn_291 : decode cX3_goOn 291 = .ok (.putfield 149, 3) := by decide +kernel
theorem dX3_goOn_294 : decode cX3_goOn 294 = .ok (.iconst (-1), 1) := by decide +kernel
theorem dX3_goOn_295 : decode cX3_goOn 295 = .ok (.ireturn, 1) := by decide +kernel
theorem dX3_goOn_296 : decode cX3_goOn 296 = .ok (.aload_n 0, 1) := by decide +kernel
theorem dX3_goOn_297 : decode cX3_goOn 297 = .ok (.dup, 1) := by decide +kernel
theorem dX3_goOn_298 : decode cX3_goOn 298 = .ok (.getfield 149, 3) := by decide +kernel
theorem dX3_goOn_301 : decode cX3_goOn 301 = .ok (.iload 8, 2) := by decide +kernel
theorem dX3_goOn_303 : decode cX3_goOn 303 = .ok (.iadd, 1) := by decide +kernel
theorem dX3_goOn_304 : decode cX3_goOn 304 = .ok (.putfield 149, 3) := by decide +kernel
theorem dX3_goOn_307 : decode cX3_goOn 307 = .ok (.aload_n 0, 1) := by decide +kernel
theorem dX3_goOn_308 : decode cX3_goOn 308 = .ok (.getfield 44, 3) := by decide +kernel
theorem dX3_goOn_311 : decode cX3_goOn 311 = .ok (.iload_n 3, 1) := by decide +kernel
theorem dX3_goOn_312 : decode cX3_goOn 312 = .ok (.dup2, 1) := by decide +kernel
theorem dX3_goOn_313 : decode cX3_goOn 313 = .ok (.iaload, 1) := by decide +kernel
theorem dX3_goOn_314 : decode cX3_goOn 314 = .ok (.aload_n 0, 1) := by decide +kernel
theorem dX3_goOn_315 : decode cX3_goOn 315 = .ok (.getfield 44, 3) := by decide +kernel
theorem dX3_goOn_318 : decode cX3_goOn 318 = .ok (.iload 7, 2) := by decide +kernel
theorem dX3_goOn_320 : decode cX3_goOn 320 = .ok (.iaload, 1) := by decide +kernel
theorem dX3_goOn_321 : decode cX3_goOn 321 = .ok (.iadd, 1) := by decide +kernel
theorem dX3_goOn_322 : decode cX3_goOn 322 = .ok (.iastore, 1) := by decide +kernel
theorem dX3_goOn_323 : decode cX3_goOn 323 = .ok (.aload_n 0, 1) := by decide +kernel
theorem dX3_goOn_324 : decode cX3_goOn 324 = .ok (.iconst (-1), 1) := by decide +kernel
theorem dX3_goOn_325 : decode cX3_goOn 325 = .ok (.putfield 152, 3) := by decide +kernel
theorem dX3_goOn_328 : decode cX3_goOn 328 = .ok (.goto 61, 3) := by decide +kernel
theorem dX3_goOn_331 : decode cX3_goOn 331 = .ok (.iload_n 2, 1) := by decide +kernel
theorem dX3_goOn_332 : decode cX3_goOn 332 = .ok (.ifCond .ne 57, 3) := by decide +kernel
theorem dX3_goOn_335 : decode cX3_goOn 335 = .ok (.iload 6, 2) := by decide +kernel
theorem dX3_goOn_337 : decode cX3_goOn 337 = .ok (.ifCond .lt 52, 3) := by decide +kernel
theorem dX3_goOn_340 : decode cX3_goOn 340 = .ok (.iload 5, 2) := by decide +kernel
theorem dX3_goOn_342 : decode cX3_goOn 342 = .ok (.aload_n 0, 1) := by decide +kernel
theorem dX3_goOn_343 : decode cX3_goOn 343 = .ok (.getfield 19, 3) := by decide +kernel
theorem dX3_goOn_346 : decode cX3_goOn 346 = .ok (.iload 6, 2) := by decide +kernel
theorem dX3_goOn_348 : decode cX3_goOn 348 = .ok (.iaload, 1) := by decide +kernel
theorem dX3_goOn_349 : decode cX3_goOn 349 = .ok (.if_icmp .ge 40, 3) := by decide +kernel
theorem dX3_goOn_352 : decode cX3_goOn 352 = .ok (.aload_n 0, 1) := by decide +kernel
theorem dX3_goOn_353 : decode cX3_goOn 353 = .ok (.getfield 7, 3) := by decide +kernel
theorem dX3_goOn_356 : decode cX3_goOn 356 = .ok (.iload_n 3, 1) := by decide +kernel
theorem dX3_goOn_357 : decode cX3_goOn 357 = .ok (.iaload, 1) := by decide +kernel
theorem dX3_goOn_358 : decode cX3_goOn 358 = .ok (.iconst 3, 1) := by decide +kernel
theorem dX3_goOn_359 : decode cX3_goOn 359 = .ok (.if_icmp .eq 30, 3) := by decide +kernel
theorem dX3_goOn_362 : decode cX3_goOn 362 = .ok (.aload_n 0, 1) := by decide +kernel
theorem dX3_goOn_363 : decode cX3_goOn 363 = .ok (.getfield 44, 3) := by decide +kernel
theorem dX3_goOn_366 : decode cX3_goOn 366 = .ok (.iload_n 3, 1) := by decide +kernel
theorem dX3_goOn_367 : decode cX3_goOn 367 = .ok (.dup2, 1) := by decide +kernel
theorem dX3_goOn_368 : decode cX3_goOn 368 = .ok (.iaload, 1) := by decide +kernel
theorem dX3_goOn_369 : decode cX3_goOn 369 = .ok (.aload_n 0, 1) := by decide +kernel
theorem dX3_goOn_370 : decode cX3_goOn 370 = .ok (.aload_n 0, 1) := by decide +kernel
theorem dX3_goOn_371 : decode cX3_goOn 371 = .ok (.getfield 7, 3) := by decide +kernel
theorem dX3_goOn_374 : decode cX3_goOn 374 = .ok (.iload_n 3, 1) := by decide +kernel
theorem dX3_goOn_375 : decode cX3_goOn 375 = .ok (.iaload, 1) := by decide +kernel
theorem dX3_goOn_376 : decode cX3_goOn 376 = .ok (.bipush 16, 2) := by decide +kernel
theorem dX3_goOn_378 : decode cX3_goOn 378 = .ok (.iload 6, 2) := by decide +kernel
theorem dX3_goOn_380 : decode cX3_goOn 380 = .ok (.imul, 1) := by decide +kernel
theorem dX3_goOn_381 : decode cX3_goOn 381 = .ok (.iload 5, 2) := by decide +kernel
theorem dX3_goOn_383 : decode cX3_goOn 383 = .ok (.iadd, 1) := by decide +kernel
theorem dX3_goOn_384 : decode cX3_goOn 384 = .ok (.invokevirtual 97, 3) := by decide +kernel
theorem dX3_goOn_387 : decode cX3_goOn 387 = .ok (.iadd, 1) := by decide +kernel
theorem dX3_goOn_388 : decode cX3_goOn 388 = .ok (.iastore, 1) := by decide +kernel
theorem dX3_goOn_389 : decode cX3_goOn 389 = .ok (.aload_n 0, 1) := by decide +kernel
theorem dX3_goOn_390 : decode cX3_goOn 390 = .ok (.getfield 38, 3) := by decide +kernel
theorem dX3_goOn_393 : decode cX3_goOn 393 = .ok (.iload_n 1, 1) := by decide +kernel
theorem dX3_goOn_394 : decode cX3_goOn 394 = .ok (.dup2, 1) := by decide +kernel
theorem dX3_goOn_395 : decode cX3_goOn 395 = .ok (.iaload, 1) := by decide +kernel
theorem dX3_goOn_396 : decode cX3_goOn 396 = .ok (.iconst 1, 1) := by decide +kernel
theorem dX3_goOn_397 : decode cX3_goOn 397 = .ok (.iadd, 1) := by decide +kernel
theorem dX3_goOn_398 : decode cX3_goOn 398 = .ok (.iastore, 1) := by decide +kernel
theorem dX3_goOn_399 : decode cX3_goOn 399 = .ok (.goto (-392), 3) := by decide +kernel
theorem dX3_goOn_402 : decode cX3_goOn 402 = .ok (.iconst (-1), 1) := by decide +kernel
theorem dX3_goOn_403 : decode cX3_goOn 403 = .ok (.ireturn, 1) := by decide +kernel
theorem dX3_enter_0 : decode cX3_enter 0 = .ok (.aload_n 0, 1) := by decide +kernel
theorem dX3_enter_1 : decode cX3_enter 1 = .ok (.getfield 35, 3) := by decide +kernel
theorem dX3_enter_4 : decode cX3_enter 4 = .ok (.iload_n 1, 1) := by decide +kernel
theorem dX3_enter_5 : decode cX3_enter 5 = .ok (.iload_n 2, 1) := by decide +kernel
theorem dX3_enter_6 : decode cX3_enter 6 = .ok (.iastore, 1) := by decide +kernel
theorem dX3_enter_7 : decode cX3_enter 7 = .ok (.aload_n 0, 1) := by decide +kernel
theorem dX3_enter_8 : decode cX3_enter 8 = .ok (.getfield 38, 3) := by decide +kernel
theorem dX3_enter_11 : decode cX3_enter 11 = .ok (.iload_n 1, 1) := by decide +kernel
theorem dX3_enter_12 : decode cX3_enter 12 = .ok (.iconst 0, 1) := by decide +kernel
theorem dX3_enter_13 : decode cX3_enter 13 = .ok (.iastore, 1) := by decide +kernel
theorem dX3_enter_14 : decode cX3_enter 14 = .ok (.aload_n 0, 1) := by decide +kernel
theorem dX3_enter_15 : decode cX3_enter 15 = .ok (.getfield 41, 3) := by decide +kernel
theorem dX3_enter_18 : decode cX3_enter 18 = .ok (.iload_n 2, 1) := by decide +kernel
theorem dX3_enter_19 : decode cX3_enter 19 = .ok (.iconst 1, 1) := by decide +kernel
theorem dX3_enter_20 : decode cX3_enter 20 = .ok (.iastore, 1) := by decide +kernel
theorem dX3_enter_21 : decode cX3_enter 21 = .ok (.aload_n 0, 1) := by decide +kernel
theorem dX3_enter_22 : decode cX3_enter 22 = .ok (.getfield 44, 3) := by decide +kernel
theorem dX3_enter_25 : decode cX3_enter 25 = .ok (.iload_n 2, 1) := by decide +kernel
theorem dX3_enter_26 : decode cX3_enter 26 = .ok (.iload_n 3, 1) := by decide +kernel
theorem dX3_enter_27 : decode cX3_enter 27 = .ok (.ifCond .eq 17, 3) := by decide +kernel
theorem dX3_enter_30 : decode cX3_enter 30 = .ok (.aload_n 0, 1) := by decide +kernel
theorem dX3_enter_31 : decode cX3_enter 31 = .ok (.getfield 7, 3) := by decide +kernel
theorem dX3_enter_34 : decode cX3_enter 34 = .ok (.iload_n 2, 1) := by decide +kernel
theorem dX3_enter_35 : decode cX3_enter 35 = .ok (.iaload, 1) := by decide +kernel
theorem dX3_enter_36 : decode cX3_enter 36 = .ok (.iconst 3, 1) := by decide +kernel
theorem dX3_enter_37 : decode cX3_enter 37 = .ok (.if_icmp .ne 7, 3) := by decide +kernel
theorem dX3_enter_40 : decode cX3_enter 40 = .ok (.iconst 1, 1) := by decide +kernel
theorem dX3_enter_41 : decode cX3_enter 41 = .ok (.goto 4, 3) := by decide +kernel
theorem dX3_enter_44 : decode cX3_enter 44 = .ok (.iconst 0, 1) := by decide +kernel
theorem dX3_enter_45 : decode cX3_enter 45 = .ok (.iastore, 1) := by decide +kernel
theorem dX3_enter_46 : decode cX3_enter 46 = .ok (.aload_n 0, 1) := by decide +kernel
theorem dX3_enter_47 : decode cX3_enter 47 = .ok (.dup, 1) := by decide +kernel
theorem dX3_enter_48 : decode cX3_enter 48 = .ok (.getfield 149, 3) := by decide +kernel
theorem dX3_enter_51 : decode cX3_enter 51 = .ok (.iconst 1, 1) := by decide +kernel
theorem dX3_enter_52 : decode cX3_enter 52 = .ok (.iadd, 1) := by decide +kernel
theorem dX3_enter_53 : decode cX3_enter 53 = .ok (.putfield 149, 3) := by decide +kernel
theorem dX3_enter_56 : decode cX3_enter 56 = .ok (.aload_n 0, 1) := by decide +kernel
theorem dX3_enter_57 : decode cX3_enter 57 = .ok (.getfield 47, 3) := by decide +kernel
theorem dX3_enter_60 : decode cX3_enter 60 = .ok (.iload_n 2, 1) := by decide +kernel
theorem dX3_enter_61 : decode cX3_enter 61 = .ok (.aload_n 0, 1) := by decide +kernel
theorem dX3_enter_62 : decode cX3_enter 62 = .ok (.getfield 149, 3) := by decide +kernel
theorem dX3_enter_65 : decode cX3_enter 65 = .ok (.iconst 1, 1) := by decide +kernel
theorem dX3_enter_66 : decode cX3_enter 66 = .ok (.isub, 1) := by decide +kernel
theorem dX3_enter_67 : decode cX3_enter 67 = .ok (.iastore, 1) := by decide +kernel
theorem dX3_enter_68 : decode cX3_enter 68 = .ok (.return_, 1) := by decide +kernel
theorem dX3_find_0 : decode cX3_find 0 = .ok (.iconst 0, 1) := by decide +kernel
theorem dX3_find_1 : decode cX3_find 1 = .ok (.istore_n 3, 1) := by decide +kernel
theorem dX3_find_2 : decode cX3_find 2 = .ok (.iload_n 3, 1) := by decide +kernel
theorem dX3_find_3 : decode cX3_find 3 = .ok (.bipush 16, 2) := by decide +kernel
theorem dX3_find_5 : decode cX3_find 5 = .ok (.if_icmp .ge 16, 3) := by decide +kernel
theorem dX3_find_8 : decode cX3_find 8 = .ok (.aload_n 0, 1) := by decide +kernel
theorem dX3_find_9 : decode cX3_find 9 = .ok (.getfield 41, 3) := by decide +kernel
theorem dX3_find_12 : decode cX3_find 12 = .ok (.iload_n 3, 1) := by decide +kernel
theorem dX3_find_13 : decode cX3_find 13 = .ok (.iconst 0, 1) := by decide +kernel
theorem dX3_find_14 : decode cX3_find 14 = .ok (.iastore, 1) := by decide +kernel
theorem dX3_find_15 : decode cX3_find 15 = .ok (.iinc 3 1, 3) := by decide +kernel
theorem dX3_find_18 : decode cX3_find 18 = .ok (.goto (-16), 3) := by decide +kernel
theorem dX3_find_21 : decode cX3_find 21 = .ok (.aload_n 0, 1) := by decide +kernel
theorem dX3_find_22 : decode cX3_find 22 = .ok (.iconst 0, 1) := by decide +kernel
theorem dX3_find_23 : decode cX3_find 23 = .ok (.putfield 146, 3) := by decide +kernel
theorem dX3_find_26 : decode cX3_find 26 = .ok (.aload_n 0, 1) := by decide +kernel
theorem dX3_find_27 : decode cX3_find 27 = .ok (.iconst 0, 1) := by decide +kernel
theorem dX3_find_28 : decode cX3_find 28 = .ok (.putfield 149, 3) := by decide +kernel
theorem dX3_find_31 : decode cX3_find 31 = .ok (.aload_n 0, 1) := by decide +kernel
theorem dX3_find_32 : decode cX3_find 32 = .ok (.iconst (-1), 1) := by decide +kernel
theorem dX3_find_33 : decode cX3_find 33 = .ok (.putfield 152, 3) := by decide +kernel
theorem dX3_find_36 : decode cX3_find 36 = .ok (.aload_n 0, 1) := by decide +kernel
theorem dX3_find_37 : decode cX3_find 37 = .ok (.iconst 0, 1) := by decide +kernel
theorem dX3_find_38 : decode cX3_find 38 = .ok (.iload_n 1, 1) := by decide +kernel
theorem dX3_find_39 : decode cX3_find 39 = .ok (.iload_n 2, 1) := by decide +kernel
theorem dX3_find_40 : decode cX3_find 40 = .ok (.invokevirtual 155, 3) := by decide +kernel
theorem dX3_find_43 : decode cX3_find 43 = .ok (.iconst 0, 1) := by decide +kernel
theorem dX3_find_44 : decode cX3_find 44 = .ok (.istore_n 3, 1) := by decide +kernel
theorem dX3_find_45 : decode cX3_find 45 = .ok (.iload_n 3, 1) := by decide +kernel
theorem dX3_find_46 : decode cX3_find 46 = .ok (.ifCond .lt 93, 3) := by decide +kernel
theorem dX3_find_49 : decode cX3_find 49 = .ok (.aload_n 0, 1) := by decide +kernel
theorem dX3_find_50 : decode cX3_find 50 = .ok (.getfield 146, 3) := by decide +kernel
theorem dX3_find_53 : decode cX3_find 53 = .ok (.ifCond .ne 86, 3) := by decide +kernel
theorem dX3_find_56 : decode cX3_find 56 = .ok (.aload_n 0, 1) := by decide +kernel
theorem dX3_find_57 : decode cX3_find 57 = .ok (.iload_n 3, 1) := by decide +kernel
theorem dX3_find_58 : decode cX3_find 58 = .ok (.iload_n 2, 1) := by decide +kernel
theorem dX3_find_59 : decode cX3_find 59 = .ok (.invokevirtual 159, 3) := by decide +kernel
theorem dX3_find_62 : decode cX3_find 62 = .ok (.istore 4, 2) := by decide +kernel
theorem dX3_find_64 : decode cX3_find 64 = .ok (.iload 4, 2) := by decide +kernel
theorem dX3_find_66 : decode cX3_find 66 = .ok (.ifCond .lt 17, 3) := by decide +kernel
theorem dX3_find_69 : decode cX3_find 69 = .ok (.iinc 3 1, 3) := by decide +kernel
theorem dX3_find_72 : decode cX3_find 72 = .ok (.aload_n 0, 1) := by decide +kernel
theorem dX3_find_73 : decode cX3_find 73 = .ok (.iload_n 3, 1) := by decide +kernel
theorem dX3_find_74 : decode cX3_find 74 = .ok (.iload 4, 2) := by decide +kernel
theorem dX3_find_76 : decode cX3_find 76 = .ok (.iload_n 2, 1) := by decide +kernel
theorem dX3_find_77 : decode cX3_find 77 = .ok (.invokevirtual 155, 3) := by decide +kernel
theorem dX3_find_80 : decode cX3_find 80 = .ok (.goto 56, 3) := by decide +kernel
theorem dX3_find_83 : decode cX3_find 83 = .ok (.aload_n 0, 1) := by decide +kernel
theorem dX3_find_84 : decode cX3_find 84 = .ok (.getfield 146, 3) := by decide +kernel
theorem dX3_find_87 : decode cX3_find 87 = .ok (.ifCond .ne 49, 3) := by decide +kernel
theorem dX3_find_90 : decode cX3_find 90 = .ok (.aload_n 0, 1) := by decide +kernel
theorem dX3_find_91 : decode cX3_find 91 = .ok (.aload_n 0, 1) := by decide +kernel
theorem dX3_find_92 : decode cX3_find 92 = .ok (.getfield 35, 3) := by decide +kernel
theorem dX3_find_95 : decode cX3_find 95 = .ok (.iload_n 3, 1) := by decide +kernel
theorem dX3_find_96 : decode cX3_find 96 = .ok (.iaload, 1) := by decide +kernel
theorem dX3_find_97 : decode cX3_find 97 = .ok (.putfield 152, 3) := by decide +kernel
theorem dX3_find_100 : decode cX3_find 100 = .ok (.aload_n 0, 1) := by decide +kernel
theorem dX3_find_101 : decode cX3_find 101 = .ok (.getfield 41, 3) := by decide +kernel
theorem dX3_find_104 : decode cX3_find 104 = .ok (.aload_n 0, 1) := by decide +kernel
theorem dX3_find_105 : decode cX3_find 105 = .ok (.getfield 152, 3) := by decide +kernel
theorem dX3_find_108 : decode cX3_find 108 = .ok (.iconst 2, 1) := by decide +kernel
theorem dX3_find_109 : decode cX3_find 109 = .ok (.iastore, 1) := by decide +kernel
theorem dX3_find_110 : decode cX3_find 110 = .ok (.aload_n 0, 1) := by decide +kernel
theorem dX3_find_111 : decode cX3_find 111 = .ok (.getfield 47, 3) := by decide +kernel
theorem dX3_find_114 : decode cX3_find 114 = .ok (.aload_n 0, 1) := by decide +kernel
theorem dX3_find_115 : decode cX3_find 115 = .ok (.getfield 152, 3) := by decide +kernel
theorem dX3_find_118 : decode cX3_find 118 = .ok (.aload_n 0, 1) := by decide +kernel
theorem dX3_find_119 : decode cX3_find 119 = .ok (.getfield 149, 3) := by decide +kernel
theorem dX3_find_122 : decode cX3_find 122 = .ok (.aload_n 0, 1) := by decide +kernel
theorem dX3_find_123 : decode cX3_find 123 = .ok (.getfield 47, 3) := by decide +kernel
theorem dX3_find_126 : decode cX3_find 126 = .ok (.aload_n 0, 1) := by decide +kernel
theorem dX3_find_127 : decode cX3_find 127 = .ok (.getfield 152, 3) := by decide +kernel
theorem dX3_find_130 : decode cX3_find 130 = .ok (.iaload, 1) := by decide +kernel
theorem dX3_find_131 : decode cX3_find 131 = .ok (.isub, 1) := by decide +kernel
theorem dX3_find_132 : decode cX3_find 132 = .ok (.iastore, 1) := by decide +kernel
theorem dX3_find_133 : decode cX3_find 133 = .ok (.iinc 3 (-1), 3) := by decide +kernel
theorem dX3_find_136 : decode cX3_find 136 = .ok (.goto (-91), 3) := by decide +kernel
theorem dX3_find_139 : decode cX3_find 139 = .ok (.iload_n 2, 1) := by decide +kernel
theorem dX3_find_140 : decode cX3_find 140 = .ok (.ifCond .ne 11, 3) := by decide +kernel
theorem dX3_find_143 : decode cX3_find 143 = .ok (.aload_n 0, 1) := by decide +kernel
theorem dX3_find_144 : decode cX3_find 144 = .ok (.aload_n 0, 1) := by decide +kernel
theorem dX3_find_145 : decode cX3_find 145 = .ok (.getfield 149, 3) := by decide +kernel
theorem dX3_find_148 : decode cX3_find 148 = .ok (.putfield 163, 3) := by decide +kernel
theorem dX3_find_151 : decode cX3_find 151 = .ok (.aload_n 0, 1) := by decide +kernel
theorem dX3_find_152 : decode cX3_find 152 = .ok (.getfield 146, 3) := by decide +kernel
theorem dX3_find_155 : decode cX3_find 155 = .ok (.ifCond .ne 12, 3) := by decide +kernel
theorem dX3_find_158 : decode cX3_find 158 = .ok (.aload_n 0, 1) := by decide +kernel
theorem dX3_find_159 : decode cX3_find 159 = .ok (.getfield 44, 3) := by decide +kernel
theorem dX3_find_162 : decode cX3_find 162 = .ok (.iload_n 1, 1) := by decide +kernel
theorem dX3_find_163 : decode cX3_find 163 = .ok (.iaload, 1) := by decide +kernel
theorem dX3_find_164 : decode cX3_find 164 = .ok (.goto 11, 3) := by decide +kernel
theorem dX3_find_167 : decode cX3_find 167 = .ok (.aload_n 0, 1) := by decide +kernel
theorem dX3_find_168 : decode cX3_find 168 = .ok (.aload_n 0, 1) := by decide +kernel
theorem dX3_find_169 : decode cX3_find 169 = .ok (.getfield 146, 3) := by decide +kernel
theorem dX3_find_172 : decode cX3_find 172 = .ok (.invokevirtual 75, 3) := by decide +kernel
theorem dX3_find_175 : decode cX3_find 175 = .ok (.ireturn, 1) := by decide +kernel
theorem dX3_total_0 : decode cX3_total 0 = .ok (.aload_n 0, 1) := by decide +kernel
theorem dX3_total_1 : decode cX3_total 1 = .ok (.iload_n 1, 1) := by decide +kernel
theorem dX3_total_2 : decode cX3_total 2 = .ok (.invokevirtual 79, 3) := by decide +kernel
theorem dX3_total_5 : decode cX3_total 5 = .ok (.ifCond .eq 12, 3) := by decide +kernel
theorem dX3_total_8 : decode cX3_total 8 = .ok (.aload_n 0, 1) := by decide +kernel
theorem dX3_total_9 : decode cX3_total 9 = .ok (.iload_n 1, 1) := by decide +kernel
theorem dX3_total_10 : decode cX3_total 10 = .ok (.iconst 0, 1) := by decide +kernel
theorem dX3_total_11 : decode cX3_total 11 = .ok (.invokevirtual 166, 3) := by decide +kernel
theorem dX3_total_14 : decode cX3_total 14 = .ok (.goto 5, 3) := by decide +kernel
theorem dX3_total_17 : decode cX3_total 17 = .ok (.ldc 83, 2) := by decide +kernel
theorem dX3_total_19 : decode cX3_total 19 = .ok (.ireturn, 1) := by decide +kernel
theorem dX3_entered_0 : decode cX3_entered 0 = .ok (.aload_n 0, 1) := by decide +kernel
theorem dX3_entered_1 : decode cX3_entered 1 = .ok (.getfield 163, 3) := by decide +kernel
theorem dX3_entered_4 : decode cX3_entered 4 = .ok (.ireturn, 1) := by decide +kernel
theorem dX3_deep_0 : decode cX3_deep 0 = .ok (.aload_n 0, 1) := by decide +kernel
theorem dX3_deep_1 : decode cX3_deep 1 = .ok (.iload_n 1, 1) := by decide +kernel
theorem dX3_deep_2 : decode cX3_deep 2 = .ok (.invokevirtual 79, 3) := by decide +kernel
theorem dX3_deep_5 : decode cX3_deep 5 = .ok (.ifCond .eq 12, 3) := by decide +kernel
theorem dX3_deep_8 : decode cX3_deep 8 = .ok (.aload_n 0, 1) := by decide +kernel
theorem dX3_deep_9 : decode cX3_deep 9 = .ok (.iload_n 1, 1) := by decide +kernel
theorem dX3_deep_10 : decode cX3_deep 10 = .ok (.iconst 1, 1) := by decide +kernel
theorem dX3_deep_11 : decode cX3_deep 11 = .ok (.invokevirtual 166, 3) := by decide +kernel
theorem dX3_deep_14 : decode cX3_deep 14 = .ok (.goto 5, 3) := by decide +kernel
theorem dX3_deep_17 : decode cX3_deep 17 = .ok (.ldc 83, 2) := by decide +kernel
theorem dX3_deep_19 : decode cX3_deep 19 = .ok (.ireturn, 1) := by decide +kernel
theorem dX3_count_0 : decode cX3_count 0 = .ok (.iconst 0, 1) := by decide +kernel
theorem dX3_count_1 : decode cX3_count 1 = .ok (.istore_n 2, 1) := by decide +kernel
theorem dX3_count_2 : decode cX3_count 2 = .ok (.iconst 0, 1) := by decide +kernel
theorem dX3_count_3 : decode cX3_count 3 = .ok (.istore_n 3, 1) := by decide +kernel
theorem dX3_count_4 : decode cX3_count 4 = .ok (.iconst 0, 1) := by decide +kernel
theorem dX3_count_5 : decode cX3_count 5 = .ok (.istore 4, 2) := by decide +kernel
theorem dX3_count_7 : decode cX3_count 7 = .ok (.iload 4, 2) := by decide +kernel
theorem dX3_count_9 : decode cX3_count 9 = .ok (.aload_n 0, 1) := by decide +kernel
theorem dX3_count_10 : decode cX3_count 10 = .ok (.getfield 62, 3) := by decide +kernel
theorem dX3_count_13 : decode cX3_count 13 = .ok (.if_icmp .ge 17, 3) := by decide +kernel
theorem dX3_count_16 : decode cX3_count 16 = .ok (.aload_n 0, 1) := by decide +kernel
theorem dX3_count_17 : decode cX3_count 17 = .ok (.getfield 29, 3) := by decide +kernel
theorem dX3_count_20 : decode cX3_count 20 = .ok (.iload 4, 2) := by decide +kernel
theorem dX3_count_22 : decode cX3_count 22 = .ok (.iconst 0, 1) := by decide +kernel
theorem dX3_count_23 : decode cX3_count 23 = .ok (.iastore, 1) := by decide +kernel
theorem dX3_count_24 : decode cX3_count 24 = .ok (.iinc 4 1, 3) := by decide +kernel
theorem dX3_count_27 : decode cX3_count 27 = .ok (.goto (-20), 3) := by decide +kernel
theorem dX3_count_30 : decode cX3_count 30 = .ok (.iconst 0, 1) := by decide +kernel
theorem dX3_count_31 : decode cX3_count 31 = .ok (.istore 4, 2) := by decide +kernel
theorem dX3_count_33 : decode cX3_count 33 = .ok (.iload 4, 2) := by decide +kernel
theorem dX3_count_35 : decode cX3_count 35 = .ok (.aload_n 0, 1) := by decide +kernel
theorem dX3_count_36 : decode cX3_count 36 = .ok (.getfield 55, 3) := by decide +kernel
theorem dX3_count_39 : decode cX3_count 39 = .ok (.if_icmp .ge 82, 3) := by decide +kernel
theorem dX3_count_42 : decode cX3_count 42 = .ok (.iconst 0, 1) := by decide +kernel
theorem dX3_count_43 : decode cX3_count 43 = .ok (.istore 5, 2) := by decide +kernel
theorem dX3_count_45 : decode cX3_count 45 = .ok (.iload 5, 2) := by decide +kernel
theorem dX3_count_47 : decode cX3_count 47 = .ok (.aload_n 0, 1) := by decide +kernel
theorem dX3_count_48 : decode cX3_count 48 = .ok (.getfield 13, 3) := by decide +kernel
theorem dX3_count_51 : decode cX3_count 51 = .ok (.iload 4, 2) := by decide +kernel
theorem dX3_count_53 : decode cX3_count 53 = .ok (.iaload, 1) := by decide +kernel
theorem dX3_count_54 : decode cX3_count 54 = .ok (.if_icmp .ge 61, 3) := by decide +kernel
theorem dX3_count_57 : decode cX3_count 57 = .ok (.aload_n 0, 1) := by decide +kernel
theorem dX3_count_58 : decode cX3_count 58 = .ok (.getfield 16, 3) := by decide +kernel
theorem dX3_count_61 : decode cX3_count 61 = .ok (.bipush 12, 2) := by decide +kernel
theorem dX3_count_63 : decode cX3_count 63 = .ok (.iload 4, 2) := by decide +kernel
theorem dX3_count_65 : decode cX3_count 65 = .ok (.imul, 1) := by decide +kernel
theorem dX3_count_66 : decode cX3_count 66 = .ok (.iload 5, 2) := by decide +kernel
theorem dX3_count_68 : decode cX3_count 68 = .ok (.iadd, 1) := by decide +kernel
theorem dX3_count_69 : decode cX3_count 69 = .ok (.iaload, 1) := by decide +kernel
theorem dX3_count_70 : decode cX3_count 70 = .ok (.istore 6, 2) := by decide +kernel
theorem dX3_count_72 : decode cX3_count 72 = .ok (.iload 6, 2) := by decide +kernel
theorem dX3_count_74 : decode cX3_count 74 = .ok (.ifCond .ge 9, 3) := by decide +kernel
theorem dX3_count_77 : decode cX3_count 77 = .ok (.iinc 3 1, 3) := by decide +kernel
theorem dX3_count_80 : decode cX3_count 80 = .ok (.goto 29, 3) := by decide +kernel
theorem dX3_count_83 : decode cX3_count 83 = .ok (.iload_n 2, 1) := by decide +kernel
theorem dX3_count_84 : decode cX3_count 84 = .ok (.aload_n 0, 1) := by decide +kernel
theorem dX3_count_85 : decode cX3_count 85 = .ok (.getfield 29, 3) := by decide +kernel
theorem dX3_count_88 : decode cX3_count 88 = .ok (.iload 6, 2) := by decide +kernel
theorem dX3_count_90 : decode cX3_count 90 = .ok (.iaload, 1) := by decide +kernel
theorem dX3_count_91 : decode cX3_count 91 = .ok (.ifCond .ne 7, 3) := by decide +kernel
theorem dX3_count_94 : decode cX3_count 94 = .ok (.iconst 1, 1) := by decide +kernel
theorem dX3_count_95 : decode cX3_count 95 = .ok (.goto 4, 3) := by decide +kernel
theorem dX3_count_98 : decode cX3_count 98 = .ok (.iconst 0, 1) := by decide +kernel
theorem dX3_count_99 : decode cX3_count 99 = .ok (.iadd, 1) := by decide +kernel
theorem dX3_count_100 : decode cX3_count 100 = .ok (.istore_n 2, 1) := by decide +kernel
theorem dX3_count_101 : decode cX3_count 101 = .ok (.aload_n 0, 1) := by decide +kernel
theorem dX3_count_102 : decode cX3_count 102 = .ok (.getfield 29, 3) := by decide +kernel
theorem dX3_count_105 : decode cX3_count 105 = .ok (.iload 6, 2) := by decide +kernel
theorem dX3_count_107 : decode cX3_count 107 = .ok (.iconst 1, 1) := by decide +kernel
theorem dX3_count_108 : decode cX3_count 108 = .ok (.iastore, 1) := by decide +kernel
theorem dX3_count_109 : decode cX3_count 109 = .ok (.iinc 5 1, 3) := by decide +kernel
theorem dX3_count_112 : decode cX3_count 112 = .ok (.goto (-67), 3) := by decide +kernel
theorem dX3_count_115 : decode cX3_count 115 = .ok (.iinc 4 1, 3) := by decide +kernel
theorem dX3_count_118 : decode cX3_count 118 = .ok (.goto (-85), 3) := by decide +kernel
theorem dX3_count_121 : decode cX3_count 121 = .ok (.iload_n 1, 1) := by decide +kernel
theorem dX3_count_122 : decode cX3_count 122 = .ok (.tableswitch 44 0 3 #[30, 35, 37, 39], 30) := by decide +kernel
theorem dX3_count_152 : decode cX3_count 152 = .ok (.aload_n 0, 1) := by decide +kernel
theorem dX3_count_153 : decode cX3_count 153 = .ok (.getfield 55, 3) := by decide +kernel
theorem dX3_count_156 : decode cX3_count 156 = .ok (.ireturn, 1) := by decide +kernel
theorem dX3_count_157 : decode cX3_count 157 = .ok (.iload_n 2, 1) := by decide +kernel
theorem dX3_count_158 : decode cX3_count 158 = .ok (.ireturn, 1) := by decide +kernel
theorem dX3_count_159 : decode cX3_count 159 = .ok (.iload_n 3, 1) := by decide +kernel
theorem dX3_count_160 : decode cX3_count 160 = .ok (.ireturn, 1) := by decide +kernel
theorem dX3_count_161 : decode cX3_count 161 = .ok (.aload_n 0, 1) := by decide +kernel
theorem dX3_count_162 : decode cX3_count 162 = .ok (.getfield 50, 3) := by decide +kernel
theorem dX3_count_165 : decode cX3_count 165 = .ok (.ireturn, 1) := by decide +kernel
theorem dX3_count_166 : decode cX3_count 166 = .ok (.ldc 73, 2) := by decide +kernel
theorem dX3_count_168 : decode cX3_count 168 = .ok (.ireturn, 1) := by decide +kernel
theorem dX3_clear_0 : decode cX3_clear 0 = .ok (.aload_n 0, 1) := by decide +kernel
theorem dX3_clear_1 : decode cX3_clear 1 = .ok (.getfield 55, 3) := by decide +kernel
theorem dX3_clear_4 : decode cX3_clear 4 = .ok (.istore_n 1, 1) := by decide +kernel
theorem dX3_clear_5 : decode cX3_clear 5 = .ok (.aload_n 0, 1) := by decide +kernel
theorem dX3_clear_6 : decode cX3_clear 6 = .ok (.iconst 0, 1) := by decide +kernel
theorem dX3_clear_7 : decode cX3_clear 7 = .ok (.putfield 55, 3) := by decide +kernel
theorem dX3_clear_10 : decode cX3_clear 10 = .ok (.aload_n 0, 1) := by decide +kernel
theorem dX3_clear_11 : decode cX3_clear 11 = .ok (.iconst 0, 1) := by decide +kernel
theorem dX3_clear_12 : decode cX3_clear 12 = .ok (.putfield 62, 3) := by decide +kernel
theorem dX3_clear_15 : decode cX3_clear 15 = .ok (.aload_n 0, 1) := by decide +kernel
theorem dX3_clear_16 : decode cX3_clear 16 = .ok (.iconst 0, 1) := by decide +kernel
theorem dX3_clear_17 : decode cX3_clear 17 = .ok (.putfield 50, 3) := by decide +kernel
theorem dX3_clear_20 : decode cX3_clear 20 = .ok (.aload_n 0, 1) := by decide +kernel
theorem dX3_clear_21 : decode cX3_clear 21 = .ok (.iconst 0, 1) := by decide +kernel
theorem dX3_clear_22 : decode cX3_clear 22 = .ok (.putfield 140, 3) := by decide +kernel
theorem dX3_clear_25 : decode cX3_clear 25 = .ok (.aload_n 0, 1) := by decide +kernel
theorem dX3_clear_26 : decode cX3_clear 26 = .ok (.iconst 0, 1) := by decide +kernel
theorem dX3_clear_27 : decode cX3_clear 27 = .ok (.putfield 163, 3) := by decide +kernel
theorem dX3_clear_30 : decode cX3_clear 30 = .ok (.iload_n 1, 1) := by decide +kernel
theorem dX3_clear_31 : decode cX3_clear 31 = .ok (.ireturn, 1) := by decide +kernel
theorem dJ9_max_7cf53_0 : decode cJ9_max_7cf53 0 = .ok (.iload_n 0, 1) := by decide +kernel
theorem dJ9_max_7cf53_1 : decode cJ9_max_7cf53 1 = .ok (.iload_n 1, 1) := by decide +kernel
theorem dJ9_max_7cf53_2 : decode cJ9_max_7cf53 2 = .ok (.if_icmp .lt 7, 3) := by decide +kernel
theorem dJ9_max_7cf53_5 : decode cJ9_max_7cf53 5 = .ok (.iload_n 0, 1) := by decide +kernel
theorem dJ9_max_7cf53_6 : decode cJ9_max_7cf53 6 = .ok (.goto 4, 3) := by decide +kernel
theorem dJ9_max_7cf53_9 : decode cJ9_max_7cf53 9 = .ok (.iload_n 1, 1) := by decide +kernel
theorem dJ9_max_7cf53_10 : decode cJ9_max_7cf53 10 = .ok (.ireturn, 1) := by decide +kernel
theorem dJ7_fill_53178_0 : decode cJ7_fill_53178 0 = .ok (.iconst 0, 1) := by decide +kernel
theorem dJ7_fill_53178_1 : decode cJ7_fill_53178 1 = .ok (.istore_n 2, 1) := by decide +kernel
theorem dJ7_fill_53178_2 : decode cJ7_fill_53178 2 = .ok (.aload_n 0, 1) := by decide +kernel
theorem dJ7_fill_53178_3 : decode cJ7_fill_53178 3 = .ok (.arraylength, 1) := by decide +kernel
theorem dJ7_fill_53178_4 : decode cJ7_fill_53178 4 = .ok (.istore_n 3, 1) := by decide +kernel
theorem dJ7_fill_53178_5 : decode cJ7_fill_53178 5 = .ok (.iload_n 2, 1) := by decide +kernel
theorem dJ7_fill_53178_6 : decode cJ7_fill_53178 6 = .ok (.iload_n 3, 1) := by decide +kernel
theorem dJ7_fill_53178_7 : decode cJ7_fill_53178 7 = .ok (.if_icmp .ge 13, 3) := by decide +kernel
theorem dJ7_fill_53178_10 : decode cJ7_fill_53178 10 = .ok (.aload_n 0, 1) := by decide +kernel
theorem dJ7_fill_53178_11 : decode cJ7_fill_53178 11 = .ok (.iload_n 2, 1) := by decide +kernel
theorem dJ7_fill_53178_12 : decode cJ7_fill_53178 12 = .ok (.iload_n 1, 1) := by decide +kernel
theorem dJ7_fill_53178_13 : decode cJ7_fill_53178 13 = .ok (.iastore, 1) := by decide +kernel
theorem dJ7_fill_53178_14 : decode cJ7_fill_53178 14 = .ok (.iinc 2 1, 3) := by decide +kernel
theorem dJ7_fill_53178_17 : decode cJ7_fill_53178 17 = .ok (.goto (-12), 3) := by decide +kernel
theorem dJ7_fill_53178_20 : decode cJ7_fill_53178 20 = .ok (.return_, 1) := by decide +kernel
theorem dL_law_0 : decode cL_law 0 = .ok (.new 7, 3) := by decide +kernel
theorem dL_law_3 : decode cL_law 3 = .ok (.dup, 1) := by decide +kernel
theorem dL_law_4 : decode cL_law 4 = .ok (.invokespecial 9, 3) := by decide +kernel
theorem dL_law_7 : decode cL_law 7 = .ok (.astore_n 1, 1) := by decide +kernel
theorem dL_law_8 : decode cL_law 8 = .ok (.new 10, 3) := by decide +kernel
theorem dL_law_11 : decode cL_law 11 = .ok (.dup, 1) := by decide +kernel
theorem dL_law_12 : decode cL_law 12 = .ok (.invokespecial 12, 3) := by decide +kernel
theorem dL_law_15 : decode cL_law 15 = .ok (.astore_n 2, 1) := by decide +kernel
theorem dL_law_16 : decode cL_law 16 = .ok (.iconst 0, 1) := by decide +kernel
theorem dL_law_17 : decode cL_law 17 = .ok (.istore_n 3, 1) := by decide +kernel
theorem dL_law_18 : decode cL_law 18 = .ok (.iload_n 3, 1) := by decide +kernel
theorem dL_law_19 : decode cL_law 19 = .ok (.aload_n 0, 1) := by decide +kernel
theorem dL_law_20 : decode cL_law 20 = .ok (.arraylength, 1) := by decide +kernel
theorem dL_law_21 : decode cL_law 21 = .ok (.bipush 8, 2) := by decide +kernel
theorem dL_law_23 : decode cL_law 23 = .ok (.isub, 1) := by decide +kernel
theorem dL_law_24 : decode cL_law 24 = .ok (.if_icmp .gt 906, 3) := by decide +kernel
theorem dL_law_27 : decode cL_law 27 = .ok (.aload_n 0, 1) := by decide +kernel
theorem dL_law_28 : decode cL_law 28 = .ok (.iload_n 3, 1) := by decide +kernel
theorem dL_law_29 : decode cL_law 29 = .ok (.iaload, 1) := by decide +kernel
theorem dL_law_30 : decode cL_law 30 = .ok (.bipush 31, 2) := by decide +kernel
theorem dL_law_32 : decode cL_law 32 = .ok (.iand, 1) := by decide +kernel
theorem dL_law_33 : decode cL_law 33 = .ok (.tableswitch 891 0 21 #[103, 136, 179, 232, 265, 318, 361, 432, 475, 498, 585, 608, 641, 664, 687, 710, 743, 796, 819, 832, 855, 878], 103) := by decide +kernel
theorem dL_law_136 : decode cL_law 136 = .ok (.aload_n 1, 1) := by decide +kernel
theorem dL_law_137 : decode cL_law 137 = .ok (.aload_n 0, 1) := by decide +kernel
theorem dL_law_138 : decode cL_law 138 = .ok (.iload_n 3, 1) := by decide +kernel
theorem dL_law_139 : decode cL_law 139 = .ok (.iconst 1, 1) := by decide +kernel
theorem dL_law_140 : decode cL_law 140 = .ok (.iadd, 1) := by decide +kernel
theorem dL_law_141 : decode cL_law 141 = .ok (.iaload, 1) := by decide +kernel
theorem dL_law_142 : decode cL_law 142 = .ok (.aload_n 0, 1) := by decide +kernel
theorem dL_law_143 : decode cL_law 143 = .ok (.iload_n 3, 1) := by decide +kernel
theorem dL_law_144 : decode cL_law 144 = .ok (.iconst 2, 1) := by decide +kernel
theorem dL_law_145 : decode cL_law 145 = .ok (.iadd, 1) := by decide +kernel
theorem dL_law_146 : decode cL_law 146 = .ok (.iaload, 1) := by decide +kernel
theorem dL_law_147 : decode cL_law 147 = .ok (.invokevirtual 13, 3) := by decide +kernel
theorem dL_law_150 : decode cL_law 150 = .ok (.aload_n 2, 1) := by decide +kernel
theorem dL_law_151 : decode cL_law 151 = .ok (.aload_n 0, 1) := by decide +kernel
theorem dL_law_152 : decode cL_law 152 = .ok (.iload_n 3, 1) := by decide +kernel
theorem dL_law_153 : decode cL_law 153 = .ok (.iconst 1, 1) := by decide +kernel
theorem dL_law_154 : decode cL_law 154 = .ok (.iadd, 1) := by decide +kernel
theorem dL_law_155 : decode cL_law 155 = .ok (.iaload, 1) := by decide +kernel
theorem dL_law_156 : decode cL_law 156 = .ok (.aload_n 0, 1) := by decide +kernel
theorem dL_law_157 : decode cL_law 157 = .ok (.iload_n 3, 1) := by decide +kernel
theorem dL_law_158 : decode cL_law 158 = .ok (.iconst 2, 1) := by decide +kernel
theorem dL_law_159 : decode cL_law 159 = .ok (.iadd, 1) := by decide +kernel
theorem dL_law_160 : decode cL_law 160 = .ok (.iaload, 1) := by decide +kernel
theorem dL_law_161 : decode cL_law 161 = .ok (.invokevirtual 17, 3) := by decide +kernel
theorem dL_law_164 : decode cL_law 164 = .ok (.if_icmp .eq 760, 3) := by decide +kernel
theorem dL_law_167 : decode cL_law 167 = .ok (.iconst 0, 1) := by decide +kernel
theorem dL_law_168 : decode cL_law 168 = .ok (.ireturn, 1) := by decide +kernel
theorem dL_law_169 : decode cL_law 169 = .ok (.aload_n 1, 1) := by decide +kernel
theorem dL_law_170 : decode cL_law 170 = .ok (.aload_n 0, 1) := by decide +kernel
theorem dL_law_171 : decode cL_law 171 = .ok (.iload_n 3, 1) := by decide +kernel
theorem dL_law_172 : decode cL_law 172 = .ok (.iconst 1, 1) := by decide +kernel
theorem dL_law_173 : decode cL_law 173 = .ok (.iadd, 1) := by decide +kernel
theorem dL_law_174 : decode cL_law 174 = .ok (.iaload, 1) := by decide +kernel
theorem dL_law_175 : decode cL_law 175 = .ok (.aload_n 0, 1) := by decide +kernel
theorem dL_law_176 : decode cL_law 176 = .ok (.iload_n 3, 1) := by decide +kernel
theorem dL_law_177 : decode cL_law 177 = .ok (.iconst 2, 1) := by decide +kernel
theorem dL_law_178 : decode cL_law 178 = .ok (.iadd, 1) := by decide +kernel
theorem dL_law_179 : decode cL_law 179 = .ok (.iaload, 1) := by decide +kernel
theorem dL_law_180 : decode cL_law 180 = .ok (.aload_n 0, 1) := by decide +kernel
theorem dL_law_181 : decode cL_law 181 = .ok (.iload_n 3, 1) := by decide +kernel
theorem dL_law_182 : decode cL_law 182 = .ok (.iconst 3, 1) := by decide +kernel
theorem dL_law_183 : decode cL_law 183 = .ok (.iadd, 1) := by decide +kernel
theorem dL_law_184 : decode cL_law 184 = .ok (.iaload, 1) := by decide +kernel
theorem dL_law_185 : decode cL_law 185 = .ok (.invokevirtual 18, 3) := by decide +kernel
theorem dL_law_188 : decode cL_law 188 = .ok (.aload_n 2, 1) := by decide +kernel
theorem dL_law_189 : decode cL_law 189 = .ok (.aload_n 0, 1) := by decide +kernel
theorem dL_law_190 : decode cL_law 190 = .ok (.iload_n 3, 1) := by decide +kernel
theorem dL_law_191 : decode cL_law 191 = .ok (.iconst 1, 1) := by decide +kernel
theorem dL_law_192 : decode cL_law 192 = .ok (.iadd, 1) := by decide +kernel
theorem dL_law_193 : decode cL_law 193 = .ok (.iaload, 1) := by decide +kernel
theorem dL_law_194 : decode cL_law 194 = .ok (.aload_n 0, 1) := by decide +kernel
theorem dL_law_195 : decode cL_law 195 = .ok (.iload_n 3, 1) := by decide +kernel
theorem dL_law_196 : decode cL_law 196 = .ok (.iconst 2, 1) := by decide +kernel
theorem dL_law_197 : decode cL_law 197 = .ok (.iadd, 1) := by decide +kernel
theorem dL_law_198 : decode cL_law 198 = .ok (.iaload, 1) := by decide +kernel
theorem dL_law_199 : decode cL_law 199 = .ok (.aload_n 0, 1) := by decide +kernel
theorem dL_law_200 : decode cL_law 200 = .ok (.iload_n 3, 1) := by decide +kernel
theorem dL_law_201 : decode cL_law 201 = .ok (.iconst 3, 1) := by decide +kernel
theorem dL_law_202 : decode cL_law 202 = .ok (.iadd, 1) := by decide +kernel
theorem dL_law_203 : decode cL_law 203 = .ok (.iaload, 1) := by decide +kernel
theorem dL_law_204 : decode cL_law 204 = .ok (.invokevirtual 22, 3) := by decide +kernel
theorem dL_law_207 : decode cL_law 207 = .ok (.if_icmp .eq 717, 3) := by decide +kernel
theorem dL_law_210 : decode cL_law 210 = .ok (.iconst 0, 1) := by decide +kernel
theorem dL_law_211 : decode cL_law 211 = .ok (.ireturn, 1) := by decide +kernel
theorem dL_law_212 : decode cL_law 212 = .ok (.aload_n 1, 1) := by decide +kernel
theorem dL_law_213 : decode cL_law 213 = .ok (.aload_n 0, 1) := by decide +kernel
theorem dL_law_214 : decode cL_law 214 = .ok (.iload_n 3, 1) := by decide +kernel
theorem dL_law_215 : decode cL_law 215 = .ok (.iconst 1, 1) := by decide +kernel
theorem dL_law_216 : decode cL_law 216 = .ok (.iadd, 1) := by decide +kernel
theorem dL_law_217 : decode cL_law 217 = .ok (.iaload, 1) := by decide +kernel
theorem dL_law_218 : decode cL_law 218 = .ok (.aload_n 0, 1) := by decide +kernel
theorem dL_law_219 : decode cL_law 219 = .ok (.iload_n 3, 1) := by decide +kernel
theorem dL_law_220 : decode cL_law 220 = .ok (.iconst 2, 1) := by decide +kernel
theorem dL_law_221 : decode cL_law 221 = .ok (.iadd, 1) := by decide +kernel
theorem dL_law_222 : decode cL_law 222 = .ok (.iaload, 1) := by decide +kernel
theorem dL_law_223 : decode cL_law 223 = .ok (.aload_n 0, 1) := by decide +kernel
theorem dL_law_224 : decode cL_law 224 = .ok (.iload_n 3, 1) := by decide +kernel
theorem dL_law_225 : decode cL_law 225 = .ok (.iconst 3, 1) := by decide +kernel
theorem dL_law_226 : decode cL_law 226 = .ok (.iadd, 1) := by decide +kernel
theorem dL_law_227 : decode cL_law 227 = .ok (.iaload, 1) := by decide +kernel
theorem dL_law_228 : decode cL_law 228 = .ok (.aload_n 0, 1) := by decide +kernel
theorem dL_law_229 : decode cL_law 229 = .ok (.iload_n 3, 1) := by decide +kernel
theorem dL_law_230 : decode cL_law 230 = .ok (.iconst 4, 1) := by decide +kernel
theorem dL_law_231 : decode cL_law 231 = .ok (.iadd, 1) := by decide +kernel
theorem dL_law_232 : decode cL_law 232 = .ok (.iaload, 1) := by decide +kernel
theorem dL_law_233 : decode cL_law 233 = .ok (.invokevirtual 23, 3) := by decide +kernel
theorem dL_law_236 : decode cL_law 236 = .ok (.aload_n 2, 1) := by decide +kernel
theorem dL_law_237 : decode cL_law 237 = .ok (.aload_n 0, 1) := by decide +kernel
theorem dL_law_238 : decode cL_law 238 = .ok (.iload_n 3, 1) := by decide +kernel
theorem dL_law_239 : decode cL_law 239 = .ok (.iconst 1, 1) := by decide +kernel
theorem dL_law_240 : decode cL_law 240 = .ok (.iadd, 1) := by decide +kernel
theorem dL_law_241 : decode cL_law 241 = .ok (.iaload, 1) := by decide +kernel
theorem dL_law_242 : decode cL_law 242 = .ok (.aload_n 0, 1) := by decide +kernel
theorem dL_law_243 : decode cL_law 243 = .ok (.iload_n 3, 1) := by decide +kernel
theorem dL_law_244 : decode cL_law 244 = .ok (.iconst 2, 1) := by decide +kernel
theorem dL_law_245 : decode cL_law 245 = .ok (.iadd, 1) := by decide +kernel
theorem dL_law_246 : decode cL_law 246 = .ok (.iaload, 1) := by decide +kernel
theorem dL_law_247 : decode cL_law 247 = .ok (.aload_n 0, 1) := by decide +kernel
theorem dL_law_248 : decode cL_law 248 = .ok (.iload_n 3, 1) := by decide +kernel
theorem dL_law_249 : decode cL_law 249 = .ok (.iconst 3, 1) := by decide +kernel
theorem dL_law_250 : decode cL_law 250 = .ok (.iadd, 1) := by decide +kernel
theorem dL_law_251 : decode cL_law 251 = .ok (.iaload, 1) := by decide +kernel
theorem dL_law_252 : decode cL_law 252 = .ok (.aload_n 0, 1) := by decide +kernel
theorem dL_law_253 : decode cL_law 253 = .ok (.iload_n 3, 1) := by decide +kernel
theorem dL_law_254 : decode cL_law 254 = .ok (.iconst 4, 1) := by decide +kernel
theorem dL_law_255 : decode cL_law 255 = .ok (.iadd, 1) := by decide +kernel
theorem dL_law_256 : decode cL_law 256 = .ok (.iaload, 1) := by decide +kernel
theorem dL_law_257 : decode cL_law 257 = .ok (.invokevirtual 27, 3) := by decide +kernel
theorem dL_law_260 : decode cL_law 260 = .ok (.if_icmp .eq 664, 3) := by decide +kernel
theorem dL_law_263 : decode cL_law 263 = .ok (.iconst 0, 1) := by decide +kernel
theorem dL_law_264 : decode cL_law 264 = .ok (.ireturn, 1) := by decide +kernel
theorem dL_law_265 : decode cL_law 265 = .ok (.aload_n 1, 1) := by decide +kernel
theorem dL_law_266 : decode cL_law 266 = .ok (.aload_n 0, 1) := by decide +kernel
theorem dL_law_267 : decode cL_law 267 = .ok (.iload_n 3, 1) := by decide +kernel
theorem dL_law_268 : decode cL_law 268 = .ok (.iconst 1, 1) := by decide +kernel
theorem dL_law_269 : decode cL_law 269 = .ok (.iadd, 1) := by decide +kernel
theorem dL_law_270 : decode cL_law 270 = .ok (.iaload, 1) := by decide +kernel
theorem dL_law_271 : decode cL_law 271 = .ok (.aload_n 0, 1) := by decide +kernel
theorem dL_law_272 : decode cL_law 272 = .ok (.iload_n 3, 1) := by decide +kernel
theorem dL_law_273 : decode cL_law 273 = .ok (.iconst 2, 1) := by decide +kernel
theorem dL_law_274 : decode cL_law 274 = .ok (.iadd, 1) := by decide +kernel
theorem dL_law_275 : decode cL_law 275 = .ok (.iaload, 1) := by decide +kernel
theorem dL_law_276 : decode cL_law 276 = .ok (.invokevirtual 28, 3) := by decide +kernel
theorem dL_law_279 : decode cL_law 279 = .ok (.aload_n 2, 1) := by decide +kernel
theorem dL_law_280 : decode cL_law 280 = .ok (.aload_n 0, 1) := by decide +kernel
theorem dL_law_281 : decode cL_law 281 = .ok (.iload_n 3, 1) := by decide +kernel
theorem dL_law_282 : decode cL_law 282 = .ok (.iconst 1, 1) := by decide +kernel
theorem dL_law_283 : decode cL_law 283 = .ok (.iadd, 1) := by decide +kernel
theorem dL_law_284 : decode cL_law 284 = .ok (.iaload, 1) := by decide +kernel
theorem dL_law_285 : decode cL_law 285 = .ok (.aload_n 0, 1) := by decide +kernel
theorem dL_law_286 : decode cL_law 286 = .ok (.iload_n 3, 1) := by decide +kernel
theorem dL_law_287 : decode cL_law 287 = .ok (.iconst 2, 1) := by decide +kernel
theorem dL_law_288 : decode cL_law 288 = .ok (.iadd, 1) := by decide +kernel
theorem dL_law_289 : decode cL_law 289 = .ok (.iaload, 1) := by decide +kernel
theorem dL_law_290 : decode cL_law 290 = .ok (.invokevirtual 31, 3) := by decide +kernel
theorem dL_law_293 : decode cL_law 293 = .ok (.if_icmp .eq 631, 3) := by decide +kernel
theorem dL_law_296 : decode cL_law 296 = .ok (.iconst 0, 1) := by decide +kernel
theorem dL_law_297 : decode cL_law 297 = .ok (.ireturn, 1) := by decide +kernel
theorem dL_law_298 : decode cL_law 298 = .ok (.aload_n 1, 1) := by decide +kernel
theorem dL_law_299 : decode cL_law 299 = .ok (.aload_n 0, 1) := by decide +kernel
theorem dL_law_300 : decode cL_law 300 = .ok (.iload_n 3, 1) := by decide +kernel
theorem dL_law_301 : decode cL_law 301 = .ok (.iconst 1, 1) := by decide +kernel
theorem dL_law_302 : decode cL_law 302 = .ok (.iadd, 1) := by decide +kernel
theorem dL_law_303 : decode cL_law 303 = .ok (.iaload, 1) := by decide +kernel
theorem dL_law_304 : decode cL_law 304 = .ok (.aload_n 0, 1) := by decide +kernel
theorem dL_law_305 : decode cL_law 305 = .ok (.iload_n 3, 1) := by decide +kernel
theorem dL_law_306 : decode cL_law 306 = .ok (.iconst 2, 1) := by decide +kernel
theorem dL_law_307 : decode cL_law 307 = .ok (.iadd, 1) := by decide +kernel
theorem dL_law_308 : decode cL_law 308 = .ok (.iaload, 1) := by decide +kernel
theorem dL_law_309 : decode cL_law 309 = .ok (.aload_n 0, 1) := by decide +kernel
theorem dL_law_310 : decode cL_law 310 = .ok (.iload_n 3, 1) := by decide +kernel
theorem dL_law_311 : decode cL_law 311 = .ok (.iconst 3, 1) := by decide +kernel
theorem dL_law_312 : decode cL_law 312 = .ok (.iadd, 1) := by decide +kernel
theorem dL_law_313 : decode cL_law 313 = .ok (.iaload, 1) := by decide +kernel
theorem dL_law_314 : decode cL_law 314 = .ok (.aload_n 0, 1) := by decide +kernel
theorem dL_law_315 : decode cL_law 315 = .ok (.iload_n 3, 1) := by decide +kernel
theorem dL_law_316 : decode cL_law 316 = .ok (.iconst 4, 1) := by decide +kernel
theorem dL_law_317 : decode cL_law 317 = .ok (.iadd, 1) := by decide +kernel
theorem dL_law_318 : decode cL_law 318 = .ok (.iaload, 1) := by decide +kernel
theorem dL_law_319 : decode cL_law 319 = .ok (.invokevirtual 32, 3) := by decide +kernel
theorem dL_law_322 : decode cL_law 322 = .ok (.aload_n 2, 1) := by decide +kernel
theorem dL_law_323 : decode cL_law 323 = .ok (.aload_n 0, 1) := by decide +kernel
theorem dL_law_324 : decode cL_law 324 = .ok (.iload_n 3, 1) := by decide +kernel
theorem dL_law_325 : decode cL_law 325 = .ok (.iconst 1, 1) := by decide +kernel
theorem dL_law_326 : decode cL_law 326 = .ok (.iadd, 1) := by decide +kernel
theorem dL_law_327 : decode cL_law 327 = .ok (.iaload, 1) := by decide +kernel
theorem dL_law_328 : decode cL_law 328 = .ok (.aload_n 0, 1) := by decide +kernel
theorem dL_law_329 : decode cL_law 329 = .ok (.iload_n 3, 1) := by decide +kernel
theorem dL_law_330 : decode cL_law 330 = .ok (.iconst 2, 1) := by decide +kernel
theorem dL_law_331 : decode cL_law 331 = .ok (.iadd, 1) := by decide +kernel
theorem dL_law_332 : decode cL_law 332 = .ok (.iaload, 1) := by decide +kernel
theorem dL_law_333 : decode cL_law 333 = .ok (.aload_n 0, 1) := by decide +kernel
theorem dL_law_334 : decode cL_law 334 = .ok (.iload_n 3, 1) := by decide +kernel
theorem dL_law_335 : decode cL_law 335 = .ok (.iconst 3, 1) := by decide +kernel
theorem dL_law_336 : decode cL_law 336 = .ok (.iadd, 1) := by decide +kernel
theorem dL_law_337 : decode cL_law 337 = .ok (.iaload, 1) := by decide +kernel
theorem dL_law_338 : decode cL_law 338 = .ok (.aload_n 0, 1) := by decide +kernel
theorem dL_law_339 : decode cL_law 339 = .ok (.iload_n 3, 1) := by decide +kernel
theorem dL_law_340 : decode cL_law 340 = .ok (.iconst 4, 1) := by decide +kernel
theorem dL_law_341 : decode cL_law 341 = .ok (.iadd, 1) := by decide +kernel
theorem dL_law_342 : decode cL_law 342 = .ok (.iaload, 1) := by decide +kernel
theorem dL_law_343 : decode cL_law 343 = .ok (.invokevirtual 35, 3) := by decide +kernel
theorem dL_law_346 : decode cL_law 346 = .ok (.if_icmp .eq 578, 3) := by decide +kernel
theorem dL_law_349 : decode cL_law 349 = .ok (.iconst 0, 1) := by decide +kernel
theorem dL_law_350 : decode cL_law 350 = .ok (.ireturn, 1) := by decide +kernel
theorem dL_law_351 : decode cL_law 351 = .ok (.aload_n 1, 1) := by decide +kernel
theorem dL_law_352 : decode cL_law 352 = .ok (.aload_n 0, 1) := by decide +kernel
theorem dL_law_353 : decode cL_law 353 = .ok (.iload_n 3, 1) := by decide +kernel
theorem dL_law_354 : decode cL_law 354 = .ok (.iconst 1, 1) := by decide +kernel
theorem dL_law_355 : decode cL_law 355 = .ok (.iadd, 1) := by decide +kernel
theorem dL_law_356 : decode cL_law 356 = .ok (.iaload, 1) := by decide +kernel
theorem dL_law_357 : decode cL_law 357 = .ok (.aload_n 0, 1) := by decide +kernel
theorem dL_law_358 : decode cL_law 358 = .ok (.iload_n 3, 1) := by decide +kernel
theorem dL_law_359 : decode cL_law 359 = .ok (.iconst 2, 1) := by decide +kernel
theorem dL_law_360 : decode cL_law 360 = .ok (.iadd, 1) := by decide +kernel
theorem dL_law_361 : decode cL_law 361 = .ok (.iaload, 1) := by decide +kernel
theorem dL_law_362 : decode cL_law 362 = .ok (.aload_n 0, 1) := by decide +kernel
theorem dL_law_363 : decode cL_law 363 = .ok (.iload_n 3, 1) := by decide +kernel
theorem dL_law_364 : decode cL_law 364 = .ok (.iconst 3, 1) := by decide +kernel
theorem dL_law_365 : decode cL_law 365 = .ok (.iadd, 1) := by decide +kernel
theorem dL_law_366 : decode cL_law 366 = .ok (.iaload, 1) := by decide +kernel
theorem dL_law_367 : decode cL_law 367 = .ok (.invokevirtual 36, 3) := by decide +kernel
theorem dL_law_370 : decode cL_law 370 = .ok (.aload_n 2, 1) := by decide +kernel
theorem dL_law_371 : decode cL_law 371 = .ok (.aload_n 0, 1) := by decide +kernel
theorem dL_law_372 : decode cL_law 372 = .ok (.iload_n 3, 1) := by decide +kernel
theorem dL_law_373 : decode cL_law 373 = .ok (.iconst 1, 1) := by decide +kernel
theorem dL_law_374 : decode cL_law 374 = .ok (.iadd, 1) := by decide +kernel
theorem dL_law_375 : decode cL_law 375 = .ok (.iaload, 1) := by decide +kernel
theorem dL_law_376 : decode cL_law 376 = .ok (.aload_n 0, 1) := by decide +kernel
theorem dL_law_377 : decode cL_law 377 = .ok (.iload_n 3, 1) := by decide +kernel
theorem dL_law_378 : decode cL_law 378 = .ok (.iconst 2, 1) := by decide +kernel
theorem dL_law_379 : decode cL_law 379 = .ok (.iadd, 1) := by decide +kernel
theorem dL_law_380 : decode cL_law 380 = .ok (.iaload, 1) := by decide +kernel
theorem dL_law_381 : decode cL_law 381 = .ok (.aload_n 0, 1) := by decide +kernel
theorem dL_law_382 : decode cL_law 382 = .ok (.iload_n 3, 1) := by decide +kernel
theorem dL_law_383 : decode cL_law 383 = .ok (.iconst 3, 1) := by decide +kernel
theorem dL_law_384 : decode cL_law 384 = .ok (.iadd, 1) := by decide +kernel
theorem dL_law_385 : decode cL_law 385 = .ok (.iaload, 1) := by decide +kernel
theorem dL_law_386 : decode cL_law 386 = .ok (.invokevirtual 39, 3) := by decide +kernel
theorem dL_law_389 : decode cL_law 389 = .ok (.if_icmp .eq 535, 3) := by decide +kernel
theorem dL_law_392 : decode cL_law 392 = .ok (.iconst 0, 1) := by decide +kernel
theorem dL_law_393 : decode cL_law 393 = .ok (.ireturn, 1) := by decide +kernel
theorem dL_law_394 : decode cL_law 394 = .ok (.aload_n 1, 1) := by decide +kernel
theorem dL_law_395 : decode cL_law 395 = .ok (.aload_n 0, 1) := by decide +kernel
theorem dL_law_396 : decode cL_law 396 = .ok (.iload_n 3, 1) := by decide +kernel
theorem dL_law_397 : decode cL_law 397 = .ok (.iconst 1, 1) := by decide +kernel
theorem dL_law_398 : decode cL_law 398 = .ok (.iadd, 1) := by decide +kernel
theorem dL_law_399 : decode cL_law 399 = .ok (.iaload, 1) := by decide +kernel
theorem dL_law_400 : decode cL_law 400 = .ok (.aload_n 0, 1) := by decide +kernel
theorem dL_law_401 : decode cL_law 401 = .ok (.iload_n 3, 1) := by decide +kernel
theorem dL_law_402 : decode cL_law 402 = .ok (.iconst 2, 1) := by decide +kernel
theorem dL_law_403 : decode cL_law 403 = .ok (.iadd, 1) := by decide +kernel
theorem dL_law_404 : decode cL_law 404 = .ok (.iaload, 1) := by decide +kernel
theorem dL_law_405 : decode cL_law 405 = .ok (.aload_n 0, 1) := by decide +kernel
theorem dL_law_406 : decode cL_law 406 = .ok (.iload_n 3, 1) := by decide +kernel
theorem dL_law_407 : decode cL_law 407 = .ok (.iconst 3, 1) := by decide +kernel
theorem dL_law_408 : decode cL_law 408 = .ok (.iadd, 1) := by decide +kernel
theorem dL_law_409 : decode cL_law 409 = .ok (.iaload, 1) := by decide +kernel
theorem dL_law_410 : decode cL_law 410 = .ok (.invokevirtual 40, 3) := by decide +kernel
theorem dL_law_413 : decode cL_law 413 = .ok (.dstore 4, 2) := by decide +kernel
theorem dL_law_415 : decode cL_law 415 = .ok (.aload_n 2, 1) := by decide +kernel
theorem dL_law_416 : decode cL_law 416 = .ok (.aload_n 0, 1) := by decide +kernel
theorem dL_law_417 : decode cL_law 417 = .ok (.iload_n 3, 1) := by decide +kernel
theorem dL_law_418 : decode cL_law 418 = .ok (.iconst 1, 1) := by decide +kernel
theorem dL_law_419 : decode cL_law 419 = .ok (.iadd, 1) := by decide +kernel
theorem dL_law_420 : decode cL_law 420 = .ok (.iaload, 1) := by decide +kernel
theorem dL_law_421 : decode cL_law 421 = .ok (.aload_n 0, 1) := by decide +kernel
theorem dL_law_422 : decode cL_law 422 = .ok (.iload_n 3, 1) := by decide +kernel
theorem dL_law_423 : decode cL_law 423 = .ok (.iconst 2, 1) := by decide +kernel
theorem dL_law_424 : decode cL_law 424 = .ok (.iadd, 1) := by decide +kernel
theorem dL_law_425 : decode cL_law 425 = .ok (.iaload, 1) := by decide +kernel
theorem dL_law_426 : decode cL_law 426 = .ok (.aload_n 0, 1) := by decide +kernel
theorem dL_law_427 : decode cL_law 427 = .ok (.iload_n 3, 1) := by decide +kernel
theorem dL_law_428 : decode cL_law 428 = .ok (.iconst 3, 1) := by decide +kernel
theorem dL_law_429 : decode cL_law 429 = .ok (.iadd, 1) := by decide +kernel
theorem dL_law_430 : decode cL_law 430 = .ok (.iaload, 1) := by decide +kernel
theorem dL_law_431 : decode cL_law 431 = .ok (.invokevirtual 44, 3) := by decide +kernel
theorem dL_law_434 : decode cL_law 434 = .ok (.dstore 6, 2) := by decide +kernel
theorem dL_law_436 : decode cL_law 436 = .ok (.dload 4, 2) := by decide +kernel
theorem dL_law_438 : decode cL_law 438 = .ok (.dload 6, 2) := by decide +kernel
theorem dL_law_440 : decode cL_law 440 = .ok (.dcmp .l, 1) := by decide +kernel
theorem dL_law_441 : decode cL_law 441 = .ok (.ifCond .eq 21, 3) := by decide +kernel
theorem dL_law_444 : decode cL_law 444 = .ok (.dload 4, 2) := by decide +kernel
theorem dL_law_446 : decode cL_law 446 = .ok (.dload 4, 2) := by decide +kernel
theorem dL_law_448 : decode cL_law 448 = .ok (.dcmp .l, 1) := by decide +kernel
theorem dL_law_449 : decode cL_law 449 = .ok (.ifCond .eq 11, 3) := by decide +kernel
theorem dL_law_452 : decode cL_law 452 = .ok (.dload 6, 2) := by decide +kernel
theorem dL_law_454 : decode cL_law 454 = .ok (.dload 6, 2) := by decide +kernel
theorem dL_law_456 : decode cL_law 456 = .ok (.dcmp .l, 1) := by decide +kernel
theorem dL_law_457 : decode cL_law 457 = .ok (.ifCond .ne 5, 3) := by decide +kernel
theorem dL_law_460 : decode cL_law 460 = .ok (.iconst 0, 1) := by decide +kernel
theorem dL_law_461 : decode cL_law 461 = .ok (.ireturn, 1) := by decide +kernel
theorem dL_law_462 : decode cL_law 462 = .ok (.goto 462, 3) := by decide +kernel
theorem dL_law_465 : decode cL_law 465 = .ok (.aload_n 1, 1) := by decide +kernel
theorem dL_law_466 : decode cL_law 466 = .ok (.aload_n 0, 1) := by decide +kernel
theorem dL_law_467 : decode cL_law 467 = .ok (.iload_n 3, 1) := by decide +kernel
theorem dL_law_468 : decode cL_law 468 = .ok (.iconst 1, 1) := by decide +kernel
theorem dL_law_469 : decode cL_law 469 = .ok (.iadd, 1) := by decide +kernel
theorem dL_law_470 : decode cL_law 470 = .ok (.iaload, 1) := by decide +kernel
theorem dL_law_471 : decode cL_law 471 = .ok (.aload_n 0, 1) := by decide +kernel
theorem dL_law_472 : decode cL_law 472 = .ok (.iload_n 3, 1) := by decide +kernel
theorem dL_law_473 : decode cL_law 473 = .ok (.iconst 2, 1) := by decide +kernel
theorem dL_law_474 : decode cL_law 474 = .ok (.iadd, 1) := by decide +kernel
theorem dL_law_475 : decode cL_law 475 = .ok (.iaload, 1) := by decide +kernel
theorem dL_law_476 : decode cL_law 476 = .ok (.aload_n 0, 1) := by decide +kernel
theorem dL_law_477 : decode cL_law 477 = .ok (.iload_n 3, 1) := by decide +kernel
theorem dL_law_478 : decode cL_law 478 = .ok (.iconst 3, 1) := by decide +kernel
theorem dL_law_479 : decode cL_law 479 = .ok (.iadd, 1) := by decide +kernel
theorem dL_law_480 : decode cL_law 480 = .ok (.iaload, 1) := by decide +kernel
theorem dL_law_481 : decode cL_law 481 = .ok (.invokevirtual 45, 3) := by decide +kernel
theorem dL_law_484 : decode cL_law 484 = .ok (.aload_n 2, 1) := by decide +kernel
theorem dL_law_485 : decode cL_law 485 = .ok (.aload_n 0, 1) := by decide +kernel
theorem dL_law_486 : decode cL_law 486 = .ok (.iload_n 3, 1) := by decide +kernel
theorem dL_law_487 : decode cL_law 487 = .ok (.iconst 1, 1) := by decide +kernel
theorem dL_law_488 : decode cL_law 488 = .ok (.iadd, 1) := by decide +kernel
theorem dL_law_489 : decode cL_law 489 = .ok (.iaload, 1) := by decide +kernel
theorem dL_law_490 : decode cL_law 490 = .ok (.aload_n 0, 1) := by decide +kernel
theorem dL_law_491 : decode cL_law 491 = .ok (.iload_n 3, 1) := by decide +kernel
theorem dL_law_492 : decode cL_law 492 = .ok (.iconst 2, 1) := by decide +kernel
theorem dL_law_493 : decode cL_law 493 = .ok (.iadd, 1) := by decide +kernel
theorem dL_law_494 : decode cL_law 494 = .ok (.iaload, 1) := by decide +kernel
theorem dL_law_495 : decode cL_law 495 = .ok (.aload_n 0, 1) := by decide +kernel
theorem dL_law_496 : decode cL_law 496 = .ok (.iload_n 3, 1) := by decide +kernel
theorem dL_law_497 : decode cL_law 497 = .ok (.iconst 3, 1) := by decide +kernel
theorem dL_law_498 : decode cL_law 498 = .ok (.iadd, 1) := by decide +kernel
theorem dL_law_499 : decode cL_law 499 = .ok (.iaload, 1) := by decide +kernel
theorem dL_law_500 : decode cL_law 500 = .ok (.invokevirtual 48, 3) := by decide +kernel
theorem dL_law_503 : decode cL_law 503 = .ok (.if_icmp .eq 421, 3) := by decide +kernel
theorem dL_law_506 : decode cL_law 506 = .ok (.iconst 0, 1) := by decide +kernel
theorem dL_law_507 : decode cL_law 507 = .ok (.ireturn, 1) := by decide +kernel
theorem dL_law_508 : decode cL_law 508 = .ok (.aload_n 1, 1) := by decide +kernel
theorem dL_law_509 : decode cL_law 509 = .ok (.aload_n 0, 1) := by decide +kernel
theorem dL_law_510 : decode cL_law 510 = .ok (.iload_n 3, 1) := by decide +kernel
theorem dL_law_511 : decode cL_law 511 = .ok (.iconst 1, 1) := by decide +kernel
theorem dL_law_512 : decode cL_law 512 = .ok (.iadd, 1) := by decide +kernel
theorem dL_law_513 : decode cL_law 513 = .ok (.iaload, 1) := by decide +kernel
theorem dL_law_514 : decode cL_law 514 = .ok (.invokevirtual 49, 3) := by decide +kernel
theorem dL_law_517 : decode cL_law 517 = .ok (.aload_n 2, 1) := by decide +kernel
theorem dL_law_518 : decode cL_law 518 = .ok (.aload_n 0, 1) := by decide +kernel
theorem dL_law_519 : decode cL_law 519 = .ok (.iload_n 3, 1) := by decide +kernel
theorem dL_law_520 : decode cL_law 520 = .ok (.iconst 1, 1) := by decide +kernel
theorem dL_law_521 : decode cL_law 521 = .ok (.iadd, 1) := by decide +kernel
theorem dL_law_522 : decode cL_law 522 = .ok (.iaload, 1) := by decide +kernel
theorem dL_law_523 : decode cL_law 523 = .ok (.invokevirtual 53, 3) := by decide +kernel
theorem dL_law_526 : decode cL_law 526 = .ok (.if_icmp .eq 398, 3) := by decide +kernel
theorem dL_law_529 : decode cL_law 529 = .ok (.iconst 0, 1) := by decide +kernel
theorem dL_law_530 : decode cL_law 530 = .ok (.ireturn, 1) := by decide +kernel
theorem dL_law_531 : decode cL_law 531 = .ok (.aload_n 1, 1) := by decide +kernel
theorem dL_law_532 : decode cL_law 532 = .ok (.aload_n 0, 1) := by decide +kernel
theorem dL_law_533 : decode cL_law 533 = .ok (.iload_n 3, 1) := by decide +kernel
theorem dL_law_534 : decode cL_law 534 = .ok (.iconst 1, 1) := by decide +kernel
theorem dL_law_535 : decode cL_law 535 = .ok (.iadd, 1) := by decide +kernel
theorem dL_law_536 : decode cL_law 536 = .ok (.iaload, 1) := by decide +kernel
theorem dL_law_537 : decode cL_law 537 = .ok (.aload_n 0, 1) := by decide +kernel
theorem dL_law_538 : decode cL_law 538 = .ok (.iload_n 3, 1) := by decide +kernel
theorem dL_law_539 : decode cL_law 539 = .ok (.iconst 2, 1) := by decide +kernel
theorem dL_law_540 : decode cL_law 540 = .ok (.iadd, 1) := by decide +kernel
theorem dL_law_541 : decode cL_law 541 = .ok (.iaload, 1) := by decide +kernel
theorem dL_law_542 : decode cL_law 542 = .ok (.aload_n 0, 1) := by decide +kernel
theorem dL_law_543 : decode cL_law 543 = .ok (.iload_n 3, 1) := by decide +kernel
theorem dL_law_544 : decode cL_law 544 = .ok (.iconst 3, 1) := by decide +kernel
theorem dL_law_545 : decode cL_law 545 = .ok (.iadd, 1) := by decide +kernel
theorem dL_law_546 : decode cL_law 546 = .ok (.iaload, 1) := by decide +kernel
theorem dL_law_547 : decode cL_law 547 = .ok (.aload_n 0, 1) := by decide +kernel
theorem dL_law_548 : decode cL_law 548 = .ok (.iload_n 3, 1) := by decide +kernel
theorem dL_law_549 : decode cL_law 549 = .ok (.iconst 4, 1) := by decide +kernel
theorem dL_law_550 : decode cL_law 550 = .ok (.iadd, 1) := by decide +kernel
theorem dL_law_551 : decode cL_law 551 = .ok (.iaload, 1) := by decide +kernel
theorem dL_law_552 : decode cL_law 552 = .ok (.aload_n 0, 1) := by decide +kernel
theorem dL_law_553 : decode cL_law 553 = .ok (.iload_n 3, 1) := by decide +kernel
theorem dL_law_554 : decode cL_law 554 = .ok (.iconst 5, 1) := by decide +kernel
theorem dL_law_555 : decode cL_law 555 = .ok (.iadd, 1) := by decide +kernel
theorem dL_law_556 : decode cL_law 556 = .ok (.iaload, 1) := by decide +kernel
theorem dL_law_557 : decode cL_law 557 = .ok (.aload_n 0, 1) := by decide +kernel
theorem dL_law_558 : decode cL_law 558 = .ok (.iload_n 3, 1) := by decide +kernel
theorem dL_law_559 : decode cL_law 559 = .ok (.bipush 6, 2) := by decide +kernel
theorem dL_law_561 : decode cL_law 561 = .ok (.iadd, 1) := by decide +kernel
theorem dL_law_562 : decode cL_law 562 = .ok (.iaload, 1) := by decide +kernel
theorem dL_law_563 : decode cL_law 563 = .ok (.aload_n 0, 1) := by decide +kernel
theorem dL_law_564 : decode cL_law 564 = .ok (.iload_n 3, 1) := by decide +kernel
theorem dL_law_565 : decode cL_law 565 = .ok (.bipush 7, 2) := by decide +kernel
theorem dL_law_567 : decode cL_law 567 = .ok (.iadd, 1) := by decide +kernel
theorem dL_law_568 : decode cL_law 568 = .ok (.iaload, 1) := by decide +kernel
theorem dL_law_569 : decode cL_law 569 = .ok (.invokevirtual 54, 3) := by decide +kernel
theorem dL_law_572 : decode cL_law 572 = .ok (.aload_n 2, 1) := by decide +kernel
theorem dL_law_573 : decode cL_law 573 = .ok (.aload_n 0, 1) := by decide +kernel
theorem dL_law_574 : decode cL_law 574 = .ok (.iload_n 3, 1) := by decide +kernel
theorem dL_law_575 : decode cL_law 575 = .ok (.iconst 1, 1) := by decide +kernel
theorem dL_law_576 : decode cL_law 576 = .ok (.iadd, 1) := by decide +kernel
theorem dL_law_577 : decode cL_law 577 = .ok (.iaload, 1) := by decide +kernel
theorem dL_law_578 : decode cL_law 578 = .ok (.aload_n 0, 1) := by decide +kernel
theorem dL_law_579 : decode cL_law 579 = .ok (.iload_n 3, 1) := by decide +kernel
theorem dL_law_580 : decode cL_law 580 = .ok (.iconst 2, 1) := by decide +kernel
theorem dL_law_581 : decode cL_law 581 = .ok (.iadd, 1) := by decide +kernel
theorem dL_law_582 : decode cL_law 582 = .ok (.iaload, 1) := by decide +kernel
theorem dL_law_583 : decode cL_law 583 = .ok (.aload_n 0, 1) := by decide +kernel
theorem dL_law_584 : decode cL_law 584 = .ok (.iload_n 3, 1) := by decide +kernel
theorem dL_law_585 : decode cL_law 585 = .ok (.iconst 3, 1) := by decide +kernel
theorem dL_law_586 : decode cL_law 586 = .ok (.iadd, 1) := by decide +kernel
theorem dL_law_587 : decode cL_law 587 = .ok (.iaload, 1) := by decide +kernel
theorem dL_law_588 : decode cL_law 588 = .ok (.aload_n 0, 1) := by decide +kernel
theorem dL_law_589 : decode cL_law 589 = .ok (.iload_n 3, 1) := by decide +kernel
theorem dL_law_590 : decode cL_law 590 = .ok (.iconst 4, 1) := by decide +kernel
theorem dL_law_591 : decode cL_law 591 = .ok (.iadd, 1) := by decide +kernel
theorem dL_law_592 : decode cL_law 592 = .ok (.iaload, 1) := by decide +kernel
theorem dL_law_593 : decode cL_law 593 = .ok (.aload_n 0, 1) := by decide +kernel
theorem dL_law_594 : decode cL_law 594 = .ok (.iload_n 3, 1) := by decide +kernel
theorem dL_law_595 : decode cL_law 595 = .ok (.iconst 5, 1) := by decide +kernel
theorem dL_law_596 : decode cL_law 596 = .ok (.iadd, 1) := by decide +kernel
theorem dL_law_597 : decode cL_law 597 = .ok (.iaload, 1) := by decide +kernel
theorem dL_law_598 : decode cL_law 598 = .ok (.aload_n 0, 1) := by decide +kernel
theorem dL_law_599 : decode cL_law 599 = .ok (.iload_n 3, 1) := by decide +kernel
theorem dL_law_600 : decode cL_law 600 = .ok (.bipush 6, 2) := by decide +kernel
theorem dL_law_602 : decode cL_law 602 = .ok (.iadd, 1) := by decide +kernel
theorem dL_law_603 : decode cL_law 603 = .ok (.iaload, 1) := by decide +kernel
theorem dL_law_604 : decode cL_law 604 = .ok (.aload_n 0, 1) := by decide +kernel
theorem dL_law_605 : decode cL_law 605 = .ok (.iload_n 3, 1) := by decide +kernel
theorem dL_law_606 : decode cL_law 606 = .ok (.bipush 7, 2) := by decide +kernel
theorem dL_law_608 : decode cL_law 608 = .ok (.iadd, 1) := by decide +kernel
theorem dL_law_609 : decode cL_law 609 = .ok (.iaload, 1) := by decide +kernel
theorem dL_law_610 : decode cL_law 610 = .ok (.invokevirtual 58, 3) := by decide +kernel
theorem dL_law_613 : decode cL_law 613 = .ok (.if_icmp .eq 311, 3) := by decide +kernel
theorem dL_law_616 : decode cL_law 616 = .ok (.iconst 0, 1) := by decide +kernel
theorem dL_law_617 : decode cL_law 617 = .ok (.ireturn, 1) := by decide +kernel
theorem dL_law_618 : decode cL_law 618 = .ok (.aload_n 1, 1) := by decide +kernel
theorem dL_law_619 : decode cL_law 619 = .ok (.aload_n 0, 1) := by decide +kernel
theorem dL_law_620 : decode cL_law 620 = .ok (.iload_n 3, 1) := by decide +kernel
theorem dL_law_621 : decode cL_law 621 = .ok (.iconst 1, 1) := by decide +kernel
theorem dL_law_622 : decode cL_law 622 = .ok (.iadd, 1) := by decide +kernel
theorem dL_law_623 : decode cL_law 623 = .ok (.iaload, 1) := by decide +kernel
theorem dL_law_624 : decode cL_law 624 = .ok (.invokevirtual 59, 3) := by decide +kernel
theorem dL_law_627 : decode cL_law 627 = .ok (.aload_n 2, 1) := by decide +kernel
theorem dL_law_628 : decode cL_law 628 = .ok (.aload_n 0, 1) := by decide +kernel
theorem dL_law_629 : decode cL_law 629 = .ok (.iload_n 3, 1) := by decide +kernel
theorem dL_law_630 : decode cL_law 630 = .ok (.iconst 1, 1) := by decide +kernel
theorem dL_law_631 : decode cL_law 631 = .ok (.iadd, 1) := by decide +kernel
theorem dL_law_632 : decode cL_law 632 = .ok (.iaload, 1) := by decide +kernel
theorem dL_law_633 : decode cL_law 633 = .ok (.invokevirtual 62, 3) := by decide +kernel
theorem dL_law_636 : decode cL_law 636 = .ok (.if_icmp .eq 288, 3) := by decide +kernel
theorem dL_law_639 : decode cL_law 639 = .ok (.iconst 0, 1) := by decide +kernel
theorem dL_law_640 : decode cL_law 640 = .ok (.ireturn, 1) := by decide +kernel
theorem dL_law_641 : decode cL_law 641 = .ok (.aload_n 1, 1) := by decide +kernel
theorem dL_law_642 : decode cL_law 642 = .ok (.aload_n 0, 1) := by decide +kernel
theorem dL_law_643 : decode cL_law 643 = .ok (.iload_n 3, 1) := by decide +kernel
theorem dL_law_644 : decode cL_law 644 = .ok (.iconst 1, 1) := by decide +kernel
theorem dL_law_645 : decode cL_law 645 = .ok (.iadd, 1) := by decide +kernel
theorem dL_law_646 : decode cL_law 646 = .ok (.iaload, 1) := by decide +kernel
theorem dL_law_647 : decode cL_law 647 = .ok (.aload_n 0, 1) := by decide +kernel
theorem dL_law_648 : decode cL_law 648 = .ok (.iload_n 3, 1) := by decide +kernel
theorem dL_law_649 : decode cL_law 649 = .ok (.iconst 2, 1) := by decide +kernel
theorem dL_law_650 : decode cL_law 650 = .ok (.iadd, 1) := by decide +kernel
theorem dL_law_651 : decode cL_law 651 = .ok (.iaload, 1) := by decide +kernel
theorem dL_law_652 : decode cL_law 652 = .ok (.invokevirtual 63, 3) := by decide +kernel
theorem dL_law_655 : decode cL_law 655 = .ok (.aload_n 2, 1) := by decide +kernel
theorem dL_law_656 : decode cL_law 656 = .ok (.aload_n 0, 1) := by decide +kernel
theorem dL_law_657 : decode cL_law 657 = .ok (.iload_n 3, 1) := by decide +kernel
theorem dL_law_658 : decode cL_law 658 = .ok (.iconst 1, 1) := by decide +kernel
theorem dL_law_659 : decode cL_law 659 = .ok (.iadd, 1) := by decide +kernel
theorem dL_law_660 : decode cL_law 660 = .ok (.iaload, 1) := by decide +kernel
theorem dL_law_661 : decode cL_law 661 = .ok (.aload_n 0, 1) := by decide +kernel
theorem dL_law_662 : decode cL_law 662 = .ok (.iload_n 3, 1) := by decide +kernel
theorem dL_law_663 : decode cL_law 663 = .ok (.iconst 2, 1) := by decide +kernel
theorem dL_law_664 : decode cL_law 664 = .ok (.iadd, 1) := by decide +kernel
theorem dL_law_665 : decode cL_law 665 = .ok (.iaload, 1) := by decide +kernel
theorem dL_law_666 : decode cL_law 666 = .ok (.invokevirtual 66, 3) := by decide +kernel
theorem dL_law_669 : decode cL_law 669 = .ok (.if_icmp .eq 255, 3) := by decide +kernel
theorem dL_law_672 : decode cL_law 672 = .ok (.iconst 0, 1) := by decide +kernel
theorem dL_law_673 : decode cL_law 673 = .ok (.ireturn, 1) := by decide +kernel
theorem dL_law_674 : decode cL_law 674 = .ok (.aload_n 1, 1) := by decide +kernel
theorem dL_law_675 : decode cL_law 675 = .ok (.aload_n 0, 1) := by decide +kernel
theorem dL_law_676 : decode cL_law 676 = .ok (.iload_n 3, 1) := by decide +kernel
theorem dL_law_677 : decode cL_law 677 = .ok (.iconst 1, 1) := by decide +kernel
theorem dL_law_678 : decode cL_law 678 = .ok (.iadd, 1) := by decide +kernel
theorem dL_law_679 : decode cL_law 679 = .ok (.iaload, 1) := by decide +kernel
theorem dL_law_680 : decode cL_law 680 = .ok (.invokevirtual 67, 3) := by decide +kernel
theorem dL_law_683 : decode cL_law 683 = .ok (.aload_n 2, 1) := by decide +kernel
theorem dL_law_684 : decode cL_law 684 = .ok (.aload_n 0, 1) := by decide +kernel
theorem dL_law_685 : decode cL_law 685 = .ok (.iload_n 3, 1) := by decide +kernel
theorem dL_law_686 : decode cL_law 686 = .ok (.iconst 1, 1) := by decide +kernel
theorem dL_law_687 : decode cL_law 687 = .ok (.iadd, 1) := by decide +kernel
theorem dL_law_688 : decode cL_law 688 = .ok (.iaload, 1) := by decide +kernel
theorem dL_law_689 : decode cL_law 689 = .ok (.invokevirtual 70, 3) := by decide +kernel
theorem dL_law_692 : decode cL_law 692 = .ok (.if_icmp .eq 232, 3) := by decide +kernel
theorem dL_law_695 : decode cL_law 695 = .ok (.iconst 0, 1) := by decide +kernel
theorem dL_law_696 : decode cL_law 696 = .ok (.ireturn, 1) := by decide +kernel
theorem dL_law_697 : decode cL_law 697 = .ok (.aload_n 1, 1) := by decide +kernel
theorem dL_law_698 : decode cL_law 698 = .ok (.aload_n 0, 1) := by decide +kernel
theorem dL_law_699 : decode cL_law 699 = .ok (.iload_n 3, 1) := by decide +kernel
theorem dL_law_700 : decode cL_law 700 = .ok (.iconst 1, 1) := by decide +kernel
theorem dL_law_701 : decode cL_law 701 = .ok (.iadd, 1) := by decide +kernel
theorem dL_law_702 : decode cL_law 702 = .ok (.iaload, 1) := by decide +kernel
theorem dL_law_703 : decode cL_law 703 = .ok (.invokevirtual 71, 3) := by decide +kernel
theorem dL_law_706 : decode cL_law 706 = .ok (.aload_n 2, 1) := by decide +kernel
theorem dL_law_707 : decode cL_law 707 = .ok (.aload_n 0, 1) := by decide +kernel
theorem dL_law_708 : decode cL_law 708 = .ok (.iload_n 3, 1) := by decide +kernel
theorem dL_law_709 : decode cL_law 709 = .ok (.iconst 1, 1) := by decide +kernel
theorem dL_law_710 : decode cL_law 710 = .ok (.iadd, 1) := by decide +kernel
theorem dL_law_711 : decode cL_law 711 = .ok (.iaload, 1) := by decide +kernel
theorem dL_law_712 : decode cL_law 712 = .ok (.invokevirtual 74, 3) := by decide +kernel
theorem dL_law_715 : decode cL_law 715 = .ok (.if_icmp .eq 209, 3) := by decide +kernel
theorem dL_law_718 : decode cL_law 718 = .ok (.iconst 0, 1) := by decide +kernel
theorem dL_law_719 : decode cL_law 719 = .ok (.ireturn, 1) := by decide +kernel
theorem dL_law_720 : decode cL_law 720 = .ok (.aload_n 1, 1) := by decide +kernel
theorem dL_law_721 : decode cL_law 721 = .ok (.aload_n 0, 1) := by decide +kernel
theorem dL_law_722 : decode cL_law 722 = .ok (.iload_n 3, 1) := by decide +kernel
theorem dL_law_723 : decode cL_law 723 = .ok (.iconst 1, 1) := by decide +kernel
theorem dL_law_724 : decode cL_law 724 = .ok (.iadd, 1) := by decide +kernel
theorem dL_law_725 : decode cL_law 725 = .ok (.iaload, 1) := by decide +kernel
theorem dL_law_726 : decode cL_law 726 = .ok (.invokevirtual 75, 3) := by decide +kernel
theorem dL_law_729 : decode cL_law 729 = .ok (.aload_n 2, 1) := by decide +kernel
theorem dL_law_730 : decode cL_law 730 = .ok (.aload_n 0, 1) := by decide +kernel
theorem dL_law_731 : decode cL_law 731 = .ok (.iload_n 3, 1) := by decide +kernel
theorem dL_law_732 : decode cL_law 732 = .ok (.iconst 1, 1) := by decide +kernel
theorem dL_law_733 : decode cL_law 733 = .ok (.iadd, 1) := by decide +kernel
theorem dL_law_734 : decode cL_law 734 = .ok (.iaload, 1) := by decide +kernel
theorem dL_law_735 : decode cL_law 735 = .ok (.invokevirtual 78, 3) := by decide +kernel
theorem dL_law_738 : decode cL_law 738 = .ok (.if_icmp .eq 186, 3) := by decide +kernel
theorem dL_law_741 : decode cL_law 741 = .ok (.iconst 0, 1) := by decide +kernel
theorem dL_law_742 : decode cL_law 742 = .ok (.ireturn, 1) := by decide +kernel
theorem dL_law_743 : decode cL_law 743 = .ok (.aload_n 1, 1) := by decide +kernel
theorem dL_law_744 : decode cL_law 744 = .ok (.aload_n 0, 1) := by decide +kernel
theorem dL_law_745 : decode cL_law 745 = .ok (.iload_n 3, 1) := by decide +kernel
theorem dL_law_746 : decode cL_law 746 = .ok (.iconst 1, 1) := by decide +kernel
theorem dL_law_747 : decode cL_law 747 = .ok (.iadd, 1) := by decide +kernel
theorem dL_law_748 : decode cL_law 748 = .ok (.iaload, 1) := by decide +kernel
theorem dL_law_749 : decode cL_law 749 = .ok (.aload_n 0, 1) := by decide +kernel
theorem dL_law_750 : decode cL_law 750 = .ok (.iload_n 3, 1) := by decide +kernel
theorem dL_law_751 : decode cL_law 751 = .ok (.iconst 2, 1) := by decide +kernel
theorem dL_law_752 : decode cL_law 752 = .ok (.iadd, 1) := by decide +kernel
theorem dL_law_753 : decode cL_law 753 = .ok (.iaload, 1) := by decide +kernel
theorem dL_law_754 : decode cL_law 754 = .ok (.invokevirtual 79, 3) := by decide +kernel
theorem dL_law_757 : decode cL_law 757 = .ok (.aload_n 2, 1) := by decide +kernel
theorem dL_law_758 : decode cL_law 758 = .ok (.aload_n 0, 1) := by decide +kernel
theorem dL_law_759 : decode cL_law 759 = .ok (.iload_n 3, 1) := by decide +kernel
theorem dL_law_760 : decode cL_law 760 = .ok (.iconst 1, 1) := by decide +kernel
theorem dL_law_761 : decode cL_law 761 = .ok (.iadd, 1) := by decide +kernel
theorem dL_law_762 : decode cL_law 762 = .ok (.iaload, 1) := by decide +kernel
theorem dL_law_763 : decode cL_law 763 = .ok (.aload_n 0, 1) := by decide +kernel
theorem dL_law_764 : decode cL_law 764 = .ok (.iload_n 3, 1) := by decide +kernel
theorem dL_law_765 : decode cL_law 765 = .ok (.iconst 2, 1) := by decide +kernel
theorem dL_law_766 : decode cL_law 766 = .ok (.iadd, 1) := by decide +kernel
theorem dL_law_767 : decode cL_law 767 = .ok (.iaload, 1) := by decide +kernel
theorem dL_law_768 : decode cL_law 768 = .ok (.invokevirtual 82, 3) := by decide +kernel
theorem dL_law_771 : decode cL_law 771 = .ok (.if_icmp .eq 153, 3) := by decide +kernel
theorem dL_law_774 : decode cL_law 774 = .ok (.iconst 0, 1) := by decide +kernel
theorem dL_law_775 : decode cL_law 775 = .ok (.ireturn, 1) := by decide +kernel
theorem dL_law_776 : decode cL_law 776 = .ok (.aload_n 1, 1) := by decide +kernel
theorem dL_law_777 : decode cL_law 777 = .ok (.aload_n 0, 1) := by decide +kernel
theorem dL_law_778 : decode cL_law 778 = .ok (.iload_n 3, 1) := by decide +kernel
theorem dL_law_779 : decode cL_law 779 = .ok (.iconst 1, 1) := by decide +kernel
theorem dL_law_780 : decode cL_law 780 = .ok (.iadd, 1) := by decide +kernel
theorem dL_law_781 : decode cL_law 781 = .ok (.iaload, 1) := by decide +kernel
theorem dL_law_782 : decode cL_law 782 = .ok (.aload_n 0, 1) := by decide +kernel
theorem dL_law_783 : decode cL_law 783 = .ok (.iload_n 3, 1) := by decide +kernel
theorem dL_law_784 : decode cL_law 784 = .ok (.iconst 2, 1) := by decide +kernel
theorem dL_law_785 : decode cL_law 785 = .ok (.iadd, 1) := by decide +kernel
theorem dL_law_786 : decode cL_law 786 = .ok (.iaload, 1) := by decide +kernel
theorem dL_law_787 : decode cL_law 787 = .ok (.aload_n 0, 1) := by decide +kernel
theorem dL_law_788 : decode cL_law 788 = .ok (.iload_n 3, 1) := by decide +kernel
theorem dL_law_789 : decode cL_law 789 = .ok (.iconst 3, 1) := by decide +kernel
theorem dL_law_790 : decode cL_law 790 = .ok (.iadd, 1) := by decide +kernel
theorem dL_law_791 : decode cL_law 791 = .ok (.iaload, 1) := by decide +kernel
theorem dL_law_792 : decode cL_law 792 = .ok (.aload_n 0, 1) := by decide +kernel
theorem dL_law_793 : decode cL_law 793 = .ok (.iload_n 3, 1) := by decide +kernel
theorem dL_law_794 : decode cL_law 794 = .ok (.iconst 4, 1) := by decide +kernel
theorem dL_law_795 : decode cL_law 795 = .ok (.iadd, 1) := by decide +kernel
theorem dL_law_796 : decode cL_law 796 = .ok (.iaload, 1) := by decide +kernel
theorem dL_law_797 : decode cL_law 797 = .ok (.invokevirtual 83, 3) := by decide +kernel
theorem dL_law_800 : decode cL_law 800 = .ok (.aload_n 2, 1) := by decide +kernel
theorem dL_law_801 : decode cL_law 801 = .ok (.aload_n 0, 1) := by decide +kernel
theorem dL_law_802 : decode cL_law 802 = .ok (.iload_n 3, 1) := by decide +kernel
theorem dL_law_803 : decode cL_law 803 = .ok (.iconst 1, 1) := by decide +kernel
theorem dL_law_804 : decode cL_law 804 = .ok (.iadd, 1) := by decide +kernel
theorem dL_law_805 : decode cL_law 805 = .ok (.iaload, 1) := by decide +kernel
theorem dL_law_806 : decode cL_law 806 = .ok (.aload_n 0, 1) := by decide +kernel
theorem dL_law_807 : decode cL_law 807 = .ok (.iload_n 3, 1) := by decide +kernel
theorem dL_law_808 : decode cL_law 808 = .ok (.iconst 2, 1) := by decide +kernel
theorem dL_law_809 : decode cL_law 809 = .ok (.iadd, 1) := by decide +kernel
theorem dL_law_810 : decode cL_law 810 = .ok (.iaload, 1) := by decide +kernel
theorem dL_law_811 : decode cL_law 811 = .ok (.aload_n 0, 1) := by decide +kernel
theorem dL_law_812 : decode cL_law 812 = .ok (.iload_n 3, 1) := by decide +kernel
theorem dL_law_813 : decode cL_law 813 = .ok (.iconst 3, 1) := by decide +kernel
theorem dL_law_814 : decode cL_law 814 = .ok (.iadd, 1) := by decide +kernel
theorem dL_law_815 : decode cL_law 815 = .ok (.iaload, 1) := by decide +kernel
theorem dL_law_816 : decode cL_law 816 = .ok (.aload_n 0, 1) := by decide +kernel
theorem dL_law_817 : decode cL_law 817 = .ok (.iload_n 3, 1) := by decide +kernel
theorem dL_law_818 : decode cL_law 818 = .ok (.iconst 4, 1) := by decide +kernel
theorem dL_law_819 : decode cL_law 819 = .ok (.iadd, 1) := by decide +kernel
theorem dL_law_820 : decode cL_law 820 = .ok (.iaload, 1) := by decide +kernel
theorem dL_law_821 : decode cL_law 821 = .ok (.invokevirtual 86, 3) := by decide +kernel
theorem dL_law_824 : decode cL_law 824 = .ok (.if_icmp .eq 100, 3) := by decide +kernel
theorem dL_law_827 : decode cL_law 827 = .ok (.iconst 0, 1) := by decide +kernel
theorem dL_law_828 : decode cL_law 828 = .ok (.ireturn, 1) := by decide +kernel
theorem dL_law_829 : decode cL_law 829 = .ok (.aload_n 1, 1) := by decide +kernel
theorem dL_law_830 : decode cL_law 830 = .ok (.aload_n 0, 1) := by decide +kernel
theorem dL_law_831 : decode cL_law 831 = .ok (.iload_n 3, 1) := by decide +kernel
theorem dL_law_832 : decode cL_law 832 = .ok (.iconst 1, 1) := by decide +kernel
theorem dL_law_833 : decode cL_law 833 = .ok (.iadd, 1) := by decide +kernel
theorem dL_law_834 : decode cL_law 834 = .ok (.iaload, 1) := by decide +kernel
theorem dL_law_835 : decode cL_law 835 = .ok (.invokevirtual 87, 3) := by decide +kernel
theorem dL_law_838 : decode cL_law 838 = .ok (.aload_n 2, 1) := by decide +kernel
theorem dL_law_839 : decode cL_law 839 = .ok (.aload_n 0, 1) := by decide +kernel
theorem dL_law_840 : decode cL_law 840 = .ok (.iload_n 3, 1) := by decide +kernel
theorem dL_law_841 : decode cL_law 841 = .ok (.iconst 1, 1) := by decide +kernel
theorem dL_law_842 : decode cL_law 842 = .ok (.iadd, 1) := by decide +kernel
theorem dL_law_843 : decode cL_law 843 = .ok (.iaload, 1) := by decide +kernel
theorem dL_law_844 : decode cL_law 844 = .ok (.invokevirtual 90, 3) := by decide +kernel
theorem dL_law_847 : decode cL_law 847 = .ok (.if_icmp .eq 77, 3) := by decide +kernel
theorem dL_law_850 : decode cL_law 850 = .ok (.iconst 0, 1) := by decide +kernel
theorem dL_law_851 : decode cL_law 851 = .ok (.ireturn, 1) := by decide +kernel
theorem dL_law_852 : decode cL_law 852 = .ok (.aload_n 1, 1) := by decide +kernel
theorem dL_law_853 : decode cL_law 853 = .ok (.invokevirtual 91, 3) := by decide +kernel
theorem dL_law_856 : decode cL_law 856 = .ok (.aload_n 2, 1) := by decide +kernel
theorem dL_law_857 : decode cL_law 857 = .ok (.invokevirtual 95, 3) := by decide +kernel
theorem dL_law_860 : decode cL_law 860 = .ok (.if_icmp .eq 64, 3) := by decide +kernel
theorem dL_law_863 : decode cL_law 863 = .ok (.iconst 0, 1) := by decide +kernel
theorem dL_law_864 : decode cL_law 864 = .ok (.ireturn, 1) := by decide +kernel
theorem dL_law_865 : decode cL_law 865 = .ok (.aload_n 1, 1) := by decide +kernel
theorem dL_law_866 : decode cL_law 866 = .ok (.aload_n 0, 1) := by decide +kernel
theorem dL_law_867 : decode cL_law 867 = .ok (.iload_n 3, 1) := by decide +kernel
theorem dL_law_868 : decode cL_law 868 = .ok (.iconst 1, 1) := by decide +kernel
theorem dL_law_869 : decode cL_law 869 = .ok (.iadd, 1) := by decide +kernel
theorem dL_law_870 : decode cL_law 870 = .ok (.iaload, 1) := by decide +kernel
theorem dL_law_871 : decode cL_law 871 = .ok (.invokevirtual 96, 3) := by decide +kernel
theorem dL_law_874 : decode cL_law 874 = .ok (.aload_n 2, 1) := by decide +kernel
theorem dL_law_875 : decode cL_law 875 = .ok (.aload_n 0, 1) := by decide +kernel
theorem dL_law_876 : decode cL_law 876 = .ok (.iload_n 3, 1) := by decide +kernel
theorem dL_law_877 : decode cL_law 877 = .ok (.iconst 1, 1) := by decide +kernel
theorem dL_law_878 : decode cL_law 878 = .ok (.iadd, 1) := by decide +kernel
theorem dL_law_879 : decode cL_law 879 = .ok (.iaload, 1) := by decide +kernel
theorem dL_law_880 : decode cL_law 880 = .ok (.invokevirtual 99, 3) := by decide +kernel
theorem dL_law_883 : decode cL_law 883 = .ok (.if_icmp .eq 41, 3) := by decide +kernel
theorem dL_law_886 : decode cL_law 886 = .ok (.iconst 0, 1) := by decide +kernel
theorem dL_law_887 : decode cL_law 887 = .ok (.ireturn, 1) := by decide +kernel
theorem dL_law_888 : decode cL_law 888 = .ok (.aload_n 1, 1) := by decide +kernel
theorem dL_law_889 : decode cL_law 889 = .ok (.aload_n 0, 1) := by decide +kernel
theorem dL_law_890 : decode cL_law 890 = .ok (.iload_n 3, 1) := by decide +kernel
theorem dL_law_891 : decode cL_law 891 = .ok (.iconst 1, 1) := by decide +kernel
theorem dL_law_892 : decode cL_law 892 = .ok (.iadd, 1) := by decide +kernel
theorem dL_law_893 : decode cL_law 893 = .ok (.iaload, 1) := by decide +kernel
theorem dL_law_894 : decode cL_law 894 = .ok (.invokevirtual 100, 3) := by decide +kernel
theorem dL_law_897 : decode cL_law 897 = .ok (.aload_n 2, 1) := by decide +kernel
theorem dL_law_898 : decode cL_law 898 = .ok (.aload_n 0, 1) := by decide +kernel
theorem dL_law_899 : decode cL_law 899 = .ok (.iload_n 3, 1) := by decide +kernel
theorem dL_law_900 : decode cL_law 900 = .ok (.iconst 1, 1) := by decide +kernel
theorem dL_law_901 : decode cL_law 901 = .ok (.iadd, 1) := by decide +kernel
theorem dL_law_902 : decode cL_law 902 = .ok (.iaload, 1) := by decide +kernel
theorem dL_law_903 : decode cL_law 903 = .ok (.invokevirtual 103, 3) := by decide +kernel
theorem dL_law_906 : decode cL_law 906 = .ok (.if_icmp .eq 18, 3) := by decide +kernel
theorem dL_law_909 : decode cL_law 909 = .ok (.iconst 0, 1) := by decide +kernel
theorem dL_law_910 : decode cL_law 910 = .ok (.ireturn, 1) := by decide +kernel
theorem dL_law_911 : decode cL_law 911 = .ok (.aload_n 1, 1) := by decide +kernel
theorem dL_law_912 : decode cL_law 912 = .ok (.invokevirtual 104, 3) := by decide +kernel
theorem dL_law_915 : decode cL_law 915 = .ok (.aload_n 2, 1) := by decide +kernel
theorem dL_law_916 : decode cL_law 916 = .ok (.invokevirtual 107, 3) := by decide +kernel
theorem dL_law_919 : decode cL_law 919 = .ok (.if_icmp .eq 5, 3) := by decide +kernel
theorem dL_law_922 : decode cL_law 922 = .ok (.iconst 0, 1) := by decide +kernel
theorem dL_law_923 : decode cL_law 923 = .ok (.ireturn, 1) := by decide +kernel
theorem dL_law_924 : decode cL_law 924 = .ok (.iinc 3 8, 3) := by decide +kernel
theorem dL_law_927 : decode cL_law 927 = .ok (.goto (-909), 3) := by decide +kernel
theorem dL_law_930 : decode cL_law 930 = .ok (.iconst 1, 1) := by decide +kernel
theorem dL_law_931 : decode cL_law 931 = .ok (.ireturn, 1) := by decide +kernel
end
section
/-! The interpreter: a pure picture of the machine over one region of cells. -/
abbrev I_Ce : Type := (Nat × vp_A) ⊕ (Nat × List Value)
abbrev I_H : Type := Nat × Nat × (Nat → I_Ce)
abbrev I_X : Type := Nat × Nat × Nat × (Nat → Int32)
abbrev I_L : Type := List (Option Value)
/-- name, code, locals, answer, own class -/
abbrev I_M : Type := MethodName × ByteArray × Nat × Option FieldType × Nat
def I_ms0 : List I_M := [(yX0_init, cX0_init, 3, none, 0), (yX0_length, cX0_length, 1, (some .int), 0), (yX0_hasCells, cX0_hasCells, 3, (some .boolean), 0), (yX0_write, cX0_write, 3, none, 0), (yX0_cut, cX0_cut, 2, (some .int), 0), (yX0_sumOfCells, cX0_sumOfCells, 3, (some .int), 0), (yX0_isNoNumber, cX0_isNoNumber, 2, (some .boolean), 0), (yX0_markNoNumber, cX0_markNoNumber, 2, none, 0), (yX0_takeCells, cX0_takeCells, 5, none, 0), (yX0_hasTheCellsOf, cX0_hasTheCellsOf, 3, (some .boolean), 0), (yX0_hasTheCellOf, cX0_hasTheCellOf, 3, (some .boolean), 0), (yX1_init, cX1_init, 1, none, 1), (yX1_begin, cX1_begin, 4, none, 1), (yX1_hasPlace, cX1_hasPlace, 2, (some .boolean), 1), (yX1_placeCause, cX1_placeCause, 2, (some .int), 1), (yX1_cellCause, cX1_cellCause, 4, (some .int), 1), (yX1_isEven, cX1_isEven, 2, (some .boolean), 1), (yX1_wide, cX1_wide, 1, (some .int), 1), (yX1_firstNotSquare, cX1_firstNotSquare, 2, (some .int), 1), (yX1_fallenPlaces, cX1_fallenPlaces, 3, (some .int), 1)]
def I_ms1 : List I_M := [(yX1_rowsNotYetCounted, cX1_rowsNotYetCounted, 4, (some .int), 1), (yX1_agreesWith, cX1_agreesWith, 6, (some .boolean), 1), (yX2_init, cX2_init, 2, none, 2), (yX2_table, cX2_table, 3, (some .int), 2), (yX2_row, cX2_row, 5, (some .int), 2), (yX2_share, cX2_share, 7, (some .int), 2), (yX2_fall, cX2_fall, 5, (some .int), 2), (yX2_put, cX2_put, 7, (some .int), 2), (yX2_get, cX2_get, 6, (some .int), 2), (yX2_real, cX2_real, 5, (some .double), 2), (yX2_told, cX2_told, 6, (some .int), 2), (yX2_odd, cX2_odd, 2, (some .int), 2), (yX2_copy, cX2_copy, 12, (some .int), 2), (yX2_turned, cX2_turned, 7, (some .int), 2), (yX2_product, cX2_product, 9, (some .int), 2), (yX2_distances, cX2_distances, 7, (some .int), 2), (yX2_pack, cX2_pack, 5, (some .int), 2), (yX2_word, cX2_word, 2, (some .int), 2), (yX2_alike, cX2_alike, 3, (some .int), 2), (yX2_same, cX2_same, 7, (some .int), 2)]
def I_ms2 : List I_M := [(yX2_total, cX2_total, 3, (some .int), 2), (yX2_entered, cX2_entered, 1, (some .int), 2), (yX2_deep, cX2_deep, 3, (some .int), 2), (yX2_count, cX2_count, 2, (some .int), 2), (yX2_clear, cX2_clear, 2, (some .int), 2), (yX2_isUnknown, cX2_isUnknown, 2, (some .boolean), 2), (yX2_isFull, cX2_isFull, 1, (some .boolean), 2), (yX2_failed, cX2_failed, 2, (some .int), 2), (yX2_begun, cX2_begun, 4, (some .int), 2), (yX2_begunWithRows, cX2_begunWithRows, 7, (some .int), 2), (yX2_canMultiply, cX2_canMultiply, 2, (some .boolean), 2), (yX2_multiply, cX2_multiply, 4, none, 2), (yX2_multiplyBits, cX2_multiplyBits, 6, none, 2), (yX2_multiplyNumbers, cX2_multiplyNumbers, 6, none, 2), (yX2_multiplyReals, cX2_multiplyReals, 10, none, 2), (yX2_isNoProduct, cX2_isNoProduct, 4, (some .boolean), 2), (yX2_isNoSum, cX2_isNoSum, 4, (some .boolean), 2), (yX2_isEndless, cX2_isEndless, 2, (some .boolean), 2), (yX2_writeSteps, cX2_writeSteps, 4, none, 2), (yX2_shortenThrough, cX2_shortenThrough, 5, none, 2)]
def I_ms3 : List I_M := [(yX2_packRow, cX2_packRow, 5, none, 2), (yX2_totalOfTable, cX2_totalOfTable, 6, (some .int), 2), (yX2_totalOfRow, cX2_totalOfRow, 3, (some .int), 2), (yX2_totalOfLinks, cX2_totalOfLinks, 5, (some .int), 2), (yX2_depthOfTable, cX2_depthOfTable, 7, (some .int), 2), (yX2_deepestLink, cX2_deepestLink, 7, (some .int), 2), (yX2_standingRows, cX2_standingRows, 3, (some .int), 2), (yX2_allFallenPlaces, cX2_allFallenPlaces, 3, (some .int), 2), (yX3_init, cX3_init, 1, none, 3), (yX3_in, cX3_in, 3, (some .boolean), 3), (yX3_fails, cX3_fails, 2, (some .int), 3), (yX3_isTable, cX3_isTable, 2, (some .boolean), 3), (yX3_newTable, cX3_newTable, 4, (some .int), 3), (yX3_newRow, cX3_newRow, 4, (some .int), 3), (yX3_newEven, cX3_newEven, 6, (some .int), 3), (yX3_table, cX3_table, 3, (some .int), 3), (yX3_isPlace, cX3_isPlace, 3, (some .boolean), 3), (yX3_row, cX3_row, 4, (some .int), 3), (yX3_squeeze, cX3_squeeze, 4, none, 3), (yX3_share, cX3_share, 6, (some .int), 3)]
def I_ms4 : List I_M := [(yX3_fall, cX3_fall, 4, (some .int), 3), (yX3_cellCause, cX3_cellCause, 5, (some .int), 3), (yX3_put, cX3_put, 7, (some .int), 3), (yX3_get, cX3_get, 5, (some .int), 3), (yX3_toldAt, cX3_toldAt, 3, (some .int), 3), (yX3_real, cX3_real, 7, (some .double), 3), (yX3_told, cX3_told, 5, (some .int), 3), (yX3_firstOdd, cX3_firstOdd, 4, (some .int), 3), (yX3_odd, cX3_odd, 2, (some .int), 3), (yX3_copy, cX3_copy, 12, (some .int), 3), (yX3_isEven, cX3_isEven, 5, (some .boolean), 3), (yX3_wideOf, cX3_wideOf, 2, (some .int), 3), (yX3_cellOf, cX3_cellOf, 4, (some .int), 3), (yX3_turned, cX3_turned, 5, (some .int), 3), (yX3_hasNone, cX3_hasNone, 7, (some .boolean), 3), (yX3_noNumber, cX3_noNumber, 0, (some .double), 3), (yX3_reckoned, cX3_reckoned, 5, (some .double), 3), (yX3_product, cX3_product, 10, (some .int), 3), (yX3_distances, cX3_distances, 9, (some .int), 3), (yX3_pack, cX3_pack, 5, (some .int), 3)]
def I_ms5 : List I_M := [(yX3_word, cX3_word, 2, (some .int), 3), (yX3_areAlike, cX3_areAlike, 6, (some .boolean), 3), (yX3_alike, cX3_alike, 5, (some .int), 3), (yX3_same, cX3_same, 6, (some .int), 3), (yX3_goOn, cX3_goOn, 9, (some .int), 3), (yX3_enter, cX3_enter, 4, none, 3), (yX3_find, cX3_find, 5, (some .int), 3), (yX3_total, cX3_total, 2, (some .int), 3), (yX3_entered, cX3_entered, 1, (some .int), 3), (yX3_deep, cX3_deep, 2, (some .int), 3), (yX3_count, cX3_count, 7, (some .int), 3), (yX3_clear, cX3_clear, 2, (some .int), 3), (yJ7_fill_53178, cJ7_fill_53178, 4, none, 4), (yL_law, cL_law, 8, (some .boolean), 5)]
def I_m (y : Nat) : I_M := (I_ms0 ++ I_ms1 ++ I_ms2 ++ I_ms3 ++ I_ms4 ++ I_ms5).getD y (yL_law, cL_law, 8, some .boolean, 5)
def I_name (y : Nat) : MethodName := (I_m y).1
def I_code (y : Nat) : ByteArray := (I_m y).2.1
def I_maxL (y : Nat) : Nat := (I_m y).2.2.1
def I_ret (y : Nat) : Option FieldType := (I_m y).2.2.2.1
def I_own (y : Nat) : Nat := (I_m y).2.2.2.2
abbrev m_X0_init : Nat := 0
abbrev m_X0_length : Nat := 1
abbrev m_X0_hasCells : Nat := 2
abbrev m_X0_write : Nat := 3
abbrev m_X0_cut : Nat := 4
abbrev m_X0_sumOfCells : Nat := 5
abbrev m_X0_isNoNumber : Nat := 6
abbrev m_X0_markNoNumber : Nat := 7
abbrev m_X0_takeCells : Nat := 8
abbrev m_X0_hasTheCellsOf : Nat := 9
abbrev m_X0_hasTheCellOf : Nat := 10
abbrev m_X1_init : Nat := 11
abbrev m_X1_begin : Nat := 12
abbrev m_X1_hasPlace : Nat := 13
abbrev m_X1_placeCause : Nat := 14
abbrev m_X1_cellCause : Nat := 15
abbrev m_X1_isEven : Nat := 16
abbrev m_X1_wide : Nat := 17
abbrev m_X1_firstNotSquare : Nat := 18
abbrev m_X1_fallenPlaces : Nat := 19
abbrev m_X1_rowsNotYetCounted : Nat := 20
abbrev m_X1_agreesWith : Nat := 21
abbrev m_X2_init : Nat := 22
abbrev m_X2_table : Nat := 23
abbrev m_X2_row : Nat := 24
abbrev m_X2_share : Nat := 25
abbrev m_X2_fall : Nat := 26
abbrev m_X2_put : Nat := 27
abbrev m_X2_get : Nat := 28
abbrev m_X2_real : Nat := 29
abbrev m_X2_told : Nat := 30
abbrev m_X2_odd : Nat := 31
abbrev m_X2_copy : Nat := 32
abbrev m_X2_turned : Nat := 33
abbrev m_X2_product : Nat := 34
abbrev m_X2_distances : Nat := 35
abbrev m_X2_pack : Nat := 36
abbrev m_X2_word : Nat := 37
abbrev m_X2_alike : Nat := 38
abbrev m_X2_same : Nat := 39
abbrev m_X2_total : Nat := 40
abbrev m_X2_entered : Nat := 41
abbrev m_X2_deep : Nat := 42
abbrev m_X2_count : Nat := 43
abbrev m_X2_clear : Nat := 44
abbrev m_X2_isUnknown : Nat := 45
abbrev m_X2_isFull : Nat := 46
abbrev m_X2_failed : Nat := 47
abbrev m_X2_begun : Nat := 48
abbrev m_X2_begunWithRows : Nat := 49
abbrev m_X2_canMultiply : Nat := 50
abbrev m_X2_multiply : Nat := 51
abbrev m_X2_multiplyBits : Nat := 52
abbrev m_X2_multiplyNumbers : Nat := 53
abbrev m_X2_multiplyReals : Nat := 54
abbrev m_X2_isNoProduct : Nat := 55
abbrev m_X2_isNoSum : Nat := 56
abbrev m_X2_isEndless : Nat := 57
abbrev m_X2_writeSteps : Nat := 58
abbrev m_X2_shortenThrough : Nat := 59
abbrev m_X2_packRow : Nat := 60
abbrev m_X2_totalOfTable : Nat := 61
abbrev m_X2_totalOfRow : Nat := 62
abbrev m_X2_totalOfLinks : Nat := 63
abbrev m_X2_depthOfTable : Nat := 64
abbrev m_X2_deepestLink : Nat := 65
abbrev m_X2_standingRows : Nat := 66
abbrev m_X2_allFallenPlaces : Nat := 67
abbrev m_X3_init : Nat := 68
abbrev m_X3_in : Nat := 69
abbrev m_X3_fails : Nat := 70
abbrev m_X3_isTable : Nat := 71
abbrev m_X3_newTable : Nat := 72
abbrev m_X3_newRow : Nat := 73
abbrev m_X3_newEven : Nat := 74
abbrev m_X3_table : Nat := 75
abbrev m_X3_isPlace : Nat := 76
abbrev m_X3_row : Nat := 77
abbrev m_X3_squeeze : Nat := 78
abbrev m_X3_share : Nat := 79
abbrev m_X3_fall : Nat := 80
abbrev m_X3_cellCause : Nat := 81
abbrev m_X3_put : Nat := 82
abbrev m_X3_get : Nat := 83
abbrev m_X3_toldAt : Nat := 84
abbrev m_X3_real : Nat := 85
abbrev m_X3_told : Nat := 86
abbrev m_X3_firstOdd : Nat := 87
abbrev m_X3_odd : Nat := 88
abbrev m_X3_copy : Nat := 89
abbrev m_X3_isEven : Nat := 90
abbrev m_X3_wideOf : Nat := 91
abbrev m_X3_cellOf : Nat := 92
abbrev m_X3_turned : Nat := 93
abbrev m_X3_hasNone : Nat := 94
abbrev m_X3_noNumber : Nat := 95
abbrev m_X3_reckoned : Nat := 96
abbrev m_X3_product : Nat := 97
abbrev m_X3_distances : Nat := 98
abbrev m_X3_pack : Nat := 99
abbrev m_X3_word : Nat := 100
abbrev m_X3_areAlike : Nat := 101
abbrev m_X3_alike : Nat := 102
abbrev m_X3_same : Nat := 103
abbrev m_X3_goOn : Nat := 104
abbrev m_X3_enter : Nat := 105
abbrev m_X3_find : Nat := 106
abbrev m_X3_total : Nat := 107
abbrev m_X3_entered : Nat := 108
abbrev m_X3_deep : Nat := 109
abbrev m_X3_count : Nat := 110
abbrev m_X3_clear : Nat := 111
abbrev m_J7_fill_53178 : Nat := 112
abbrev m_L_law : Nat := 113
def I_cn (o : Nat) : String := match o with
  | 0 => RX0
  | 1 => RX1
  | 2 => RX2
  | 3 => RX3
  | 4 => RJ7
  | _ => RL
/-- 0: called by its object, 1: static, 2: a constructor -/
def I_kd (y : Nat) : Nat := [2, 0, 0, 0, 0, 0, 0, 0, 0, 0, 0, 2, 0, 0, 0, 0, 0, 0, 0, 0, 0, 0, 2, 0, 0, 0, 0, 0, 0, 0, 0, 0, 0, 0, 0, 0, 0, 0, 0, 0, 0, 0, 0, 0, 0, 0, 0, 0, 0, 0, 1, 1, 1, 1, 1, 1, 1, 1, 1, 1, 0, 0, 0, 0, 0, 0, 0, 0, 2, 1, 0, 0, 0, 0, 0, 0, 0, 0, 0, 0, 0, 0, 0, 0, 0, 0, 0, 0, 0, 0, 0, 0, 0, 0, 1, 1, 1, 0, 0, 0, 0, 0, 0, 0, 0, 0, 0, 0, 0, 0, 0, 0, 1, 0].getD y 9
def I_fl : List (Nat × Nat × Nat × Nat) := [(1, 11, 1, 0), (2, 49, 1, 0), (1, 17, 1, 1), (2, 55, 1, 1), (1, 21, 1, 2), (2, 76, 1, 2), (2, 11, 2, 0), (2, 158, 2, 1), (2, 167, 2, 2), (2, 16, 2, 3), (2, 139, 2, 4), (2, 20, 2, 5), (2, 146, 2, 6), (2, 149, 2, 7), (2, 24, 2, 8), (2, 224, 2, 9), (0, 9, 0, 0), (2, 174, 0, 0), (0, 15, 0, 1), (2, 116, 0, 1), (0, 19, 0, 2), (2, 72, 0, 2), (1, 44, 0, 3), (3, 55, 3, 0), (3, 7, 3, 1), (3, 13, 3, 2), (3, 16, 3, 3), (3, 62, 3, 4), (3, 19, 3, 5), (3, 22, 3, 6), (3, 25, 3, 7), (3, 50, 3, 8), (3, 29, 3, 9), (3, 140, 3, 10), (3, 32, 3, 11), (3, 163, 3, 12), (3, 35, 3, 13), (3, 38, 3, 14), (3, 41, 3, 15), (3, 44, 3, 16), (3, 47, 3, 17), (3, 146, 3, 18), (3, 149, 3, 19), (3, 152, 3, 20)]
def I_ml : List (Nat × Nat × Nat) := [(5, 9, 22), (2, 3, 1001), (2, 15, 11), (1, 3, 1001), (5, 13, 23), (2, 28, 46), (2, 33, 47), (2, 37, 48), (2, 171, 12), (5, 18, 24), (2, 41, 45), (2, 46, 13), (2, 59, 0), (0, 3, 1001), (0, 24, 112), (5, 23, 25), (5, 28, 26), (5, 32, 27), (2, 63, 15), (1, 28, 14), (1, 24, 13), (1, 32, 2), (2, 66, 3), (5, 36, 28), (2, 69, 4), (5, 40, 29), (5, 45, 30), (2, 79, 14), (2, 82, 1), (5, 49, 31), (2, 86, 18), (1, 36, 1), (5, 54, 32), (2, 89, 2), (2, 93, 8), (0, 36, 1002), (5, 59, 33), (2, 97, 16), (1, 40, 17), (2, 100, 17), (2, 104, 49), (5, 63, 34), (2, 108, 50), (2, 112, 51), (2, 175, 52), (2, 178, 53), (2, 181, 54), (2, 184, 6), (2, 187, 55), (2, 198, 57), (2, 191, 7), (2, 195, 56), (5, 67, 35), (2, 119, 58), (2, 123, 59), (5, 71, 36), (2, 127, 19), (2, 130, 112), (2, 136, 60), (5, 75, 37), (5, 79, 38), (2, 142, 21), (1, 47, 9), (0, 42, 1), (0, 46, 10), (0, 50, 6), (5, 83, 39), (5, 87, 40), (2, 152, 61), (2, 206, 62), (2, 210, 63), (2, 213, 5), (0, 32, 4), (5, 91, 41), (5, 96, 42), (2, 155, 64), (2, 216, 65), (2, 219, 1004), (5, 100, 43), (2, 161, 66), (2, 227, 20), (2, 164, 67), (5, 104, 44), (5, 12, 68), (3, 1, 1001), (5, 17, 75), (3, 58, 69), (3, 75, 70), (3, 66, 72), (5, 22, 77), (3, 79, 71), (3, 84, 76), (3, 88, 78), (3, 70, 73), (5, 27, 79), (5, 31, 80), (5, 35, 82), (3, 91, 81), (5, 39, 83), (3, 97, 84), (5, 44, 85), (5, 48, 86), (5, 53, 88), (3, 100, 87), (5, 58, 89), (5, 62, 93), (3, 106, 90), (3, 103, 91), (3, 110, 74), (3, 113, 92), (5, 66, 97), (3, 136, 96), (3, 128, 94), (3, 132, 95), (3, 122, 1003), (5, 70, 98), (5, 74, 99), (5, 78, 100), (5, 82, 102), (3, 143, 101), (5, 86, 103), (5, 90, 107), (3, 166, 106), (3, 155, 105), (3, 159, 104), (5, 95, 108), (5, 99, 109), (5, 103, 110), (5, 107, 111)]
def I_ci : List (Nat × Nat × Int32) := [(2, 27, -1000002), (2, 32, -1000004), (2, 170, -1000010), (2, 45, -1000001), (0, 23, -1000009), (2, 62, -1000009), (1, 43, -1000009), (2, 103, -1000003), (3, 73, -1000002), (3, 74, -1000004), (3, 54, -1000010), (3, 83, -1000001), (3, 65, -1000009), (3, 109, -1000003)]
def I_cd : List (Nat × Nat × UInt64) := [(0, 30, 4652007308841189376), (2, 202, 9218868437227405311), (2, 204, 18442240474082181119), (3, 95, 4652007308841189376), (3, 116, 9218868437227405311), (3, 118, 18442240474082181119)]
def I_cl : List (Nat × Nat × Int64) := [(3, 120, 9221120237041090560)]
def I_ck : List (Nat × Nat × Nat) := [(5, 7, 2), (2, 9, 1), (1, 9, 0), (2, 53, 0), (5, 10, 3)]
def I_look {α : Type} (l : List (Nat × Nat × α)) (o i : Nat) : Option α := (l.find? (fun q => q.1 == o && q.2.1 == i)).map (fun q => q.2.2)
/-- how many parameters (the receiver apart) -/
def I_np (y : Nat) : Nat := match parseMethodDescriptor (I_name y).desc with
  | some d => d.parameters.length
  | none => 0
def I_cel (X : I_X) (h : I_H) (a : Nat) : Option I_Ce := if X.1 ≤ a ∧ a < h.1 then some (h.2.2 a) else none
def I_set (h : I_H) (a : Nat) (e : I_Ce) : I_H := (h.1, h.2.1, fun q => if q = a then e else h.2.2 q)
def I_new (h : I_H) (n : Nat) (e : I_Ce) : I_H := (h.1 + 1, h.2.1 + n, fun q => if q = h.1 then e else h.2.2 q)
def I_getf (X : I_X) (h : I_H) (a ci k : Nat) : Option Value := match I_cel X h a with
  | some (.inr o) => if o.1 = ci then o.2[k]? else none
  | _ => none
def I_putf (X : I_X) (h : I_H) (a ci k : Nat) (v : Value) : Option I_H := match I_cel X h a with
  | some (.inr o) => if o.1 = ci ∧ k < o.2.length then some (I_set h a (.inr (ci, o.2.set k v))) else none
  | _ => none
def I_isC (X : I_X) (h : I_H) (a ci : Nat) : Bool := match I_cel X h a with
  | some (.inr o) => o.1 == ci
  | _ => false
def I_arr (X : I_X) (h : I_H) (a : Nat) : Option (Nat × vp_A) := match I_cel X h a with
  | some (.inl q) => some q
  | _ => none
def I_in (i : Int32) (n : Nat) : Bool := !(decide (i < 0) || decide (n ≤ i.toNatClampNeg))
def I_sld (X : I_X) (a : Nat) (i : Int32) : Option Int32 := if a = X.2.1 ∧ I_in i X.2.2.1 = true then some (X.2.2.2 i.toNatClampNeg) else none
def I_slen (X : I_X) (a : Nat) : Option Int32 := if a = X.2.1 then some (Int32.ofNat X.2.2.1) else none
def I_aldi (X : I_X) (h : I_H) (t a : Nat) (i : Int32) : Option Int32 := match I_arr X h a with
  | some (t', n, .inl f) => if t' = t ∧ I_in i n = true then some (f i.toNatClampNeg) else none
  | _ => none
def I_asti (X : I_X) (h : I_H) (t a : Nat) (i v : Int32) : Option I_H := match I_arr X h a with
  | some (t', n, .inl f) => if t' = t ∧ I_in i n = true then some (I_set h a (.inl (t, n, .inl (upd f i.toNatClampNeg v)))) else none
  | _ => none
def I_aldd (X : I_X) (h : I_H) (a : Nat) (i : Int32) : Option UInt64 := match I_arr X h a with
  | some (t', n, .inr (.inr (.inr (.inl f)))) => if t' = 1 ∧ I_in i n = true then some (f i.toNatClampNeg) else none
  | _ => none
def I_astd (X : I_X) (h : I_H) (a : Nat) (i : Int32) (v : UInt64) : Option I_H := match I_arr X h a with
  | some (t', n, .inr (.inr (.inr (.inl f)))) => if t' = 1 ∧ I_in i n = true then some (I_set h a (.inl (1, n, .inr (.inr (.inr (.inl (vf_upd f i.toNatClampNeg v))))))) else none
  | _ => none
def I_aldq (X : I_X) (h : I_H) (a : Nat) (i : Int32) : Option (Option Nat) := match I_arr X h a with
  | some (t', n, .inr (.inr (.inr (.inr f)))) => if (t' = 3 ∨ t' = 4) ∧ I_in i n = true then some (f i.toNatClampNeg) else none
  | _ => none
def I_astq (X : I_X) (h : I_H) (a : Nat) (i : Int32) (v : Option Nat) : Option I_H := match I_arr X h a with
  | some (t', n, .inr (.inr (.inr (.inr f)))) => if ((t' = 3 ∧ (match v with | none => true | some b => I_isC X h b 1) = true) ∨ (t' = 4 ∧ (match v with | none => true | some b => I_isC X h b 0) = true)) ∧ I_in i n = true then some (I_set h a (.inl (t', n, .inr (.inr (.inr (.inr (va_up f i.toNatClampNeg v))))))) else none
  | _ => none
def I_alen (X : I_X) (h : I_H) (a : Nat) : Option Int32 := match I_arr X h a with
  | some q => if q.1 < 5 then some (Int32.ofNat q.2.1) else none
  | none => none
def I_copy (X : I_X) (h : I_H) (a0 : Nat) (sp : Int32) (a : Nat) (dp n : Int32) : Option I_H := match I_arr X h a0, I_arr X h a with
  | some (t0, n0, .inl f), some (t1, n1, .inl g) => if t0 = 0 ∧ t1 = 0 ∧ ¬ sp < 0 ∧ ¬ dp < 0 ∧ ¬ n < 0 ∧ sp.toNatClampNeg + n.toNatClampNeg ≤ n0 ∧ dp.toNatClampNeg + n.toNatClampNeg ≤ n1 then some (I_set h a (.inl (0, n1, .inl (va_cpy f g sp.toNatClampNeg dp.toNatClampNeg n.toNatClampNeg)))) else none
  | some (t0, n0, .inr (.inr (.inr (.inl f)))), some (t1, n1, .inr (.inr (.inr (.inl g)))) => if t0 = 1 ∧ t1 = 1 ∧ ¬ sp < 0 ∧ ¬ dp < 0 ∧ ¬ n < 0 ∧ sp.toNatClampNeg + n.toNatClampNeg ≤ n0 ∧ dp.toNatClampNeg + n.toNatClampNeg ≤ n1 then some (I_set h a (.inl (1, n1, .inr (.inr (.inr (.inl (va_cpy f g sp.toNatClampNeg dp.toNatClampNeg n.toNatClampNeg))))))) else none
  | _, _ => none
def I_lv (L : I_L) (k : Nat) : Option Value := match L[k]? with
  | some (some v) => some v
  | _ => none
/-- is a value of two slots there -/
def I_c2 (x : Option Value) : Bool := match x with
  | some (.double _) => true
  | some (.long _) => true
  | _ => false
def I_prev (L : I_L) (k : Nat) : Bool := match k with
  | 0 => false
  | j + 1 => match L[j]? with
    | some x => I_c2 x
    | none => true
def I_st1 (L : I_L) (k : Nat) (v : Value) : Option I_L := if k < L.length ∧ I_prev L k = false then some (L.set k (some v)) else none
def I_st2 (L : I_L) (k : Nat) (v : Value) : Option I_L := if k + 1 < L.length ∧ I_prev L k = false then some ((L.set k (some v)).set (k + 1) none) else none
def I_cat : List Value → Nat
  | [] => 0
  | v :: st => v.category + I_cat st
/-- what a field may take: an int, or an array by the constructor of its own class -/
def I_fit (o ci k : Nat) (ini : Bool) (v : Value) : Bool := match v with
  | .int _ => (match ci, k with
    | 0, 0 => ini && o == 0
    | 0, 3 => true
    | 1, 1 => true
    | 1, 2 => true
    | 2, 1 => true
    | 2, 2 => true
    | 2, 4 => true
    | 2, 6 => true
    | 2, 7 => true
    | 2, 9 => true
    | 3, 0 => true
    | 3, 4 => true
    | 3, 8 => true
    | 3, 10 => true
    | 3, 12 => true
    | 3, 18 => true
    | 3, 19 => true
    | 3, 20 => true
    | _, _ => false)
  | .ref _ => ini && o == ci && (match ci, k with
    | 0, 1 => true
    | 0, 2 => true
    | 1, 0 => true
    | 2, 0 => true
    | 2, 3 => true
    | 2, 5 => true
    | 2, 8 => true
    | 3, 1 => true
    | 3, 2 => true
    | 3, 3 => true
    | 3, 5 => true
    | 3, 6 => true
    | 3, 7 => true
    | 3, 9 => true
    | 3, 11 => true
    | 3, 13 => true
    | 3, 14 => true
    | 3, 15 => true
    | 3, 16 => true
    | 3, 17 => true
    | _, _ => false)
  | _ => false
def I_init (y : Nat) : Bool := (I_name y).name == "<init>"
def I_def (ci : Nat) : List Value := match ci with
  | 0 => [.int 0, .null, .null, .int 0]
  | 1 => [.null, .int 0, .int 0]
  | 2 => [.null, .int 0, .int 0, .null, .int 0, .null, .int 0, .int 0, .null, .int 0]
  | _ => [.int 0, .null, .null, .null, .int 0, .null, .null, .null, .int 0, .null, .int 0, .null, .int 0, .null, .null, .null, .null, .null, .int 0, .int 0, .int 0]
def I_N (ci : Nat) : Nat := match ci with
  | 0 => 4
  | 1 => 3
  | 2 => 10
  | _ => 21
abbrev I_C : Type := Nat × I_L × List Value × I_H
def I_jmp (pc : Nat) (off : Int) (L : I_L) (st : List Value) (h : I_H) : Option I_C := if 0 ≤ (pc : Int) + off then some (((pc : Int) + off).toNat, L, st, h) else none
def I_br (c : Bool) (pc : Nat) (off : Int) (L : I_L) (st : List Value) (h : I_H) : Option I_C := if 0 ≤ (pc : Int) + off then (if c = true then some (((pc : Int) + off).toNat, L, st, h) else some (pc + 3, L, st, h)) else none
def I_sorted (l : List (Int × Int)) : Bool := (l.zip (l.drop 1)).all (fun (a, next) => a.1 < next.1)
def I_ldi (k pc len : Nat) (L : I_L) (st : List Value) (h : I_H) : Option I_C := match I_lv L k with
  | some (.int x) => some (pc + len, L, .int x :: st, h)
  | _ => none
def I_ldd (k pc len : Nat) (L : I_L) (st : List Value) (h : I_H) : Option I_C := match I_lv L k with
  | some (.double x) => some (pc + len, L, .double x :: st, h)
  | _ => none
def I_lda (k pc len : Nat) (L : I_L) (st : List Value) (h : I_H) : Option I_C := match I_lv L k with
  | some (.ref x) => some (pc + len, L, .ref x :: st, h)
  | some .null => some (pc + len, L, .null :: st, h)
  | _ => none
def I_sti (k pc len : Nat) (L : I_L) (st : List Value) (h : I_H) : Option I_C := match st with
  | .int x :: st => (I_st1 L k (.int x)).map (fun L => (pc + len, L, st, h))
  | _ => none
def I_sta (k pc len : Nat) (L : I_L) (st : List Value) (h : I_H) : Option I_C := match st with
  | .ref x :: st => (I_st1 L k (.ref x)).map (fun L => (pc + len, L, st, h))
  | .null :: st => (I_st1 L k .null).map (fun L => (pc + len, L, st, h))
  | _ => none
def I_std (k pc len : Nat) (L : I_L) (st : List Value) (h : I_H) : Option I_C := match st with
  | .double x :: st => (I_st2 L k (.double x)).map (fun L => (pc + len, L, st, h))
  | _ => none
def I_b2 (f : Int32 → Int32 → Int32) (pc : Nat) (L : I_L) (st : List Value) (h : I_H) : Option I_C := match st with
  | .int y :: .int x :: st => some (pc + 1, L, .int (f x y) :: st, h)
  | _ => none
def I_nan (r : UInt64) : Bool := decide (r &&& 0x7fffffffffffffff ≤ 0x7ff0000000000000)
def I_d2 (f : UInt64 → UInt64 → UInt64) (pc : Nat) (L : I_L) (st : List Value) (h : I_H) : Option I_C := match st with
  | .double y :: .double x :: st => if I_nan (f x y) = true then some (pc + 1, L, .double (f x y) :: st, h) else none
  | _ => none
def I_if (f : Int32 → Bool) (pc : Nat) (off : Int) (L : I_L) (st : List Value) (h : I_H) : Option I_C := match st with
  | .int x :: st => I_br (f x) pc off L st h
  | _ => none
def I_icmp (f : Int32 → Int32 → Bool) (pc : Nat) (off : Int) (L : I_L) (st : List Value) (h : I_H) : Option I_C := match st with
  | .int y :: .int x :: st => I_br (f x y) pc off L st h
  | _ => none
def I_isnull (pc : Nat) (off : Int) (b : Bool) (L : I_L) (st : List Value) (h : I_H) : Option I_C := match st with
  | .ref _ :: st => I_br (!b) pc off L st h
  | .null :: st => I_br b pc off L st h
  | _ => none
def I_rv (v : Value) : Option (Option Nat) := match v with
  | .ref a => some (some a)
  | .null => some none
  | _ => none
def I_acmp (b : Bool) (pc : Nat) (off : Int) (L : I_L) (st : List Value) (h : I_H) : Option I_C := match st with
  | y :: x :: st => (match I_rv y, I_rv x with
    | some ry, some rx => I_br (if rx = ry then b else !b) pc off L st h
    | _, _ => none)
  | _ => none
def I_cat1 (v : Value) : Bool := match v with
  | .int _ => true
  | .ref _ => true
  | .null => true
  | _ => false
def I_hp (r : Option I_H) (pc : Nat) (L : I_L) (st : List Value) : Option I_C := r.map (fun h => (pc, L, st, h))
def I_mk (n : Int32) : Bool := !(decide (n < 0)) && decide (n.toNatClampNeg ≤ 20000)
def I_newa (t : ArrayType) (n : Nat) : Option I_Ce := match t with
  | .int => some (.inl (0, n, .inl (fun _ => 0)))
  | .double => some (.inl (1, n, .inr (.inr (.inr (.inl (fun _ => 0))))))
  | .boolean => some (.inl (2, n, .inl (fun _ => 0)))
  | _ => none
/-- an instruction that is no call and no return; y: the method -/
def I_step (X : I_X) (y : Nat) (i : Instr) (pc len : Nat) (L : I_L) (st : List Value) (h : I_H) : Option I_C := match i with
  | .iconst n => some (pc + 1, L, .int (Int32.ofInt n) :: st, h)
  | .bipush n => some (pc + 2, L, .int (Int8.ofInt n).toInt32 :: st, h)
  | .sipush n => some (pc + 3, L, .int (Int16.ofInt n).toInt32 :: st, h)
  | .dconst n => if n = 0 then some (pc + 1, L, .double FP.dconst0 :: st, h) else none
  | .aconst_null => some (pc + 1, L, .null :: st, h)
  | .ldc idx => (I_look I_ci (I_own y) idx).map (fun v => (pc + 2, L, .int v :: st, h))
  | .ldc2_w idx => (match I_look I_cd (I_own y) idx with
    | some v => some (pc + 3, L, .double v :: st, h)
    | none => (I_look I_cl (I_own y) idx).map (fun v => (pc + 3, L, .long v :: st, h)))
  | .iload k => I_ldi k pc 2 L st h
  | .iload_n k => I_ldi k.val pc 1 L st h
  | .dload k => I_ldd k pc 2 L st h
  | .dload_n k => I_ldd k.val pc 1 L st h
  | .aload k => I_lda k pc 2 L st h
  | .aload_n k => I_lda k.val pc 1 L st h
  | .istore k => I_sti k pc 2 L st h
  | .istore_n k => I_sti k.val pc 1 L st h
  | .astore k => I_sta k pc 2 L st h
  | .astore_n k => I_sta k.val pc 1 L st h
  | .dstore k => I_std k pc 2 L st h
  | .dstore_n k => I_std k.val pc 1 L st h
  | .iinc k n => (match I_lv L k with
    | some (.int x) => (I_st1 L k (.int (x + Int32.ofInt n))).map (fun L => (pc + 3, L, st, h))
    | _ => none)
  | .iadd => I_b2 (fun x y => x + y) pc L st h
  | .isub => I_b2 (fun x y => x - y) pc L st h
  | .imul => I_b2 (fun x y => x * y) pc L st h
  | .iand => I_b2 (fun x y => x &&& y) pc L st h
  | .ior => I_b2 (fun x y => x ||| y) pc L st h
  | .ishl => I_b2 (fun x y => x <<< (y &&& 31)) pc L st h
  | .idiv => (match st with
    | .int y :: .int x :: st => if y = 0 then none else some (pc + 1, L, .int (x / y) :: st, h)
    | _ => none)
  | .irem => (match st with
    | .int y :: .int x :: st => if y = 0 then none else some (pc + 1, L, .int (x - x / y * y) :: st, h)
    | _ => none)
  | .i2l => (match st with
    | .int x :: st => some (pc + 1, L, .long x.toInt64 :: st, h)
    | _ => none)
  | .ladd => (match st with
    | .long y :: .long x :: st => some (pc + 1, L, .long (x + y) :: st, h)
    | _ => none)
  | .lcmp => (match st with
    | .long y :: .long x :: st => some (pc + 1, L, .int (lg_cmp x y) :: st, h)
    | _ => none)
  | .i2d => (match st with
    | .int x :: st => some (pc + 1, L, .double (FP.i2d x) :: st, h)
    | _ => none)
  | .d2i => (match st with
    | .double x :: st => some (pc + 1, L, .int (FP.d2i x) :: st, h)
    | _ => none)
  | .dadd => I_d2 FP.dadd pc L st h
  | .dmul => I_d2 FP.dmul pc L st h
  | .ddiv => I_d2 FP.ddiv pc L st h
  | .dcmp op => (match st with
    | .double y :: .double x :: st => some (pc + 1, L, .int (Op.cmpValue (FP.dcmp x y) op) :: st, h)
    | _ => none)
  | .ifCond .eq off => I_if (fun x => decide (x = 0)) pc off L st h
  | .ifCond .ne off => I_if (fun x => decide (¬ x = 0)) pc off L st h
  | .ifCond .lt off => I_if (fun x => decide (x < 0)) pc off L st h
  | .ifCond .ge off => I_if (fun x => decide (0 ≤ x)) pc off L st h
  | .ifCond .gt off => I_if (fun x => decide (0 < x)) pc off L st h
  | .ifCond .le off => I_if (fun x => decide (x ≤ 0)) pc off L st h
  | .if_icmp .eq off => I_icmp (fun x y => decide (x = y)) pc off L st h
  | .if_icmp .ne off => I_icmp (fun x y => decide (¬ x = y)) pc off L st h
  | .if_icmp .lt off => I_icmp (fun x y => decide (x < y)) pc off L st h
  | .if_icmp .ge off => I_icmp (fun x y => decide (y ≤ x)) pc off L st h
  | .if_icmp .gt off => I_icmp (fun x y => decide (y < x)) pc off L st h
  | .if_icmp .le off => I_icmp (fun x y => decide (x ≤ y)) pc off L st h
  | .if_acmp .eq off => I_acmp true pc off L st h
  | .if_acmp .ne off => I_acmp false pc off L st h
  | .ifnull off => I_isnull pc off true L st h
  | .ifnonnull off => I_isnull pc off false L st h
  | .goto off => I_jmp pc off L st h
  | .tableswitch dflt lo hi offs => (match st with
    | .int x :: st => if x.toInt < lo ∨ hi < x.toInt then I_jmp pc dflt L st h else (match offs[(x.toInt - lo).toNat]? with
      | some off => I_jmp pc off L st h
      | none => none)
    | _ => none)
  | .lookupswitch dflt ps => (match st with
    | .int x :: st => if I_sorted ps.toList = true then I_jmp pc (Op.lookupswitch.offset ps.toList dflt x.toInt) L st h else none
    | _ => none)
  | .dup => (match st with
    | v :: st => if I_cat1 v = true then some (pc + 1, L, v :: v :: st, h) else none
    | _ => none)
  | .dup2 => (match st with
    | v :: u :: st => if I_cat1 v = true ∧ I_cat1 u = true then some (pc + 1, L, v :: u :: v :: u :: st, h) else none
    | _ => none)
  | .getfield idx => (match st with
    | .ref a :: st => (match I_look I_fl (I_own y) idx with
      | some q => (I_getf X h a q.1 q.2).map (fun v => (pc + 3, L, v :: st, h))
      | none => none)
    | _ => none)
  | .putfield idx => (match st with
    | v :: .ref a :: st => (match I_look I_fl (I_own y) idx with
      | some q => if I_fit (I_own y) q.1 q.2 (I_init y) v = true then I_hp (I_putf X h a q.1 q.2 v) (pc + 3) L st else none
      | none => none)
    | _ => none)
  | .iaload => (match st with
    | .int i :: .ref a :: st => if I_own y = 5 then (I_sld X a i).map (fun v => (pc + 1, L, .int v :: st, h)) else (I_aldi X h 0 a i).map (fun v => (pc + 1, L, .int v :: st, h))
    | _ => none)
  | .baload => (match st with
    | .int i :: .ref a :: st => (I_aldi X h 2 a i).map (fun v => (pc + 1, L, .int v :: st, h))
    | _ => none)
  | .daload => (match st with
    | .int i :: .ref a :: st => (I_aldd X h a i).map (fun v => (pc + 1, L, .double v :: st, h))
    | _ => none)
  | .aaload => (match st with
    | .int i :: .ref a :: st => (I_aldq X h a i).map (fun v => (pc + 1, L, va_rf v :: st, h))
    | _ => none)
  | .iastore => (match st with
    | .int v :: .int i :: .ref a :: st => I_hp (I_asti X h 0 a i v) (pc + 1) L st
    | _ => none)
  | .bastore => (match st with
    | .int v :: .int i :: .ref a :: st => if v = 0 ∨ v = 1 then I_hp (I_asti X h 2 a i v) (pc + 1) L st else none
    | _ => none)
  | .dastore => (match st with
    | .double v :: .int i :: .ref a :: st => I_hp (I_astd X h a i v) (pc + 1) L st
    | _ => none)
  | .aastore => (match st with
    | v :: .int i :: .ref a :: st => (match I_rv v with
      | some r => I_hp (I_astq X h a i r) (pc + 1) L st
      | none => none)
    | _ => none)
  | .arraylength => (match st with
    | .ref a :: st => if I_own y = 5 then (I_slen X a).map (fun v => (pc + 1, L, .int v :: st, h)) else (I_alen X h a).map (fun v => (pc + 1, L, .int v :: st, h))
    | _ => none)
  | .newarray t => (match st with
    | .int n :: st => if I_mk n = true then (I_newa t n.toNatClampNeg).map (fun e => (pc + 2, L, va_rf (some h.1) :: st, I_new h n.toNatClampNeg e)) else none
    | _ => none)
  | .anewarray idx => (match st with
    | .int n :: st => if I_mk n = true then (match I_look I_ck (I_own y) idx with
      | some 0 => some (pc + 3, L, va_rf (some h.1) :: st, I_new h n.toNatClampNeg (.inl (4, n.toNatClampNeg, .inr (.inr (.inr (.inr (fun _ => none)))))))
      | some 1 => some (pc + 3, L, va_rf (some h.1) :: st, I_new h n.toNatClampNeg (.inl (3, n.toNatClampNeg, .inr (.inr (.inr (.inr (fun _ => none)))))))
      | _ => none) else none
    | _ => none)
  | .new idx => (match I_look I_ck (I_own y) idx with
    | some ci => if ci < 4 then some (pc + 3, L, va_rf (some h.1) :: st, I_new h (I_N ci) (.inr (ci, I_def ci))) else none
    | none => none)
  | .invokespecial idx => if I_look I_ml (I_own y) idx = some 1001 ∧ I_cat st ≤ 9 then (match st with
    | .ref _ :: st => some (pc + 3, L, st, h)
    | _ => none) else none
  | .invokestatic idx => if I_cat st ≤ 13 then (match I_look I_ml (I_own y) idx, st with
    | some 1002, .int n :: .int dp :: .ref a :: .int sp :: .ref a0 :: st => I_hp (I_copy X h a0 sp a dp n) (pc + 3) L st
    | some 1003, .long b :: st => if vn_snl2d b = false then some (pc + 3, L, .double b.toUInt64 :: st, h) else none
    | some 1004, .int y :: .int x :: st => some (pc + 3, L, .int (if x < y then y else x) :: st, h)
    | _, _ => none) else none
  | _ => none
/-- a call: the method, its arguments, what stays on the stack -/
def I_call (X : I_X) (y : Nat) (i : Instr) (st : List Value) (h : I_H) : Option (Nat × List Value × List Value) := match i with
  | .invokevirtual idx => (match I_look I_ml (I_own y) idx with
    | some t => if t < 1000 then (match st.drop (I_np t) with
      | .ref b :: rest => if I_kd t = 0 ∧ I_np t ≤ st.length ∧ I_isC X h b (I_own t) = true ∧ I_cat rest ≤ 8 then some (t, .ref b :: (st.take (I_np t)).reverse, rest) else none
      | _ => none) else none
    | none => none)
  | .invokespecial idx => (match I_look I_ml (I_own y) idx with
    | some t => if t < 1000 then (match st.drop (I_np t) with
      | .ref b :: rest => if I_kd t = 2 ∧ I_np t ≤ st.length ∧ I_cat rest ≤ 8 then some (t, .ref b :: (st.take (I_np t)).reverse, rest) else none
      | _ => none) else none
    | none => none)
  | .invokestatic idx => (match I_look I_ml (I_own y) idx with
    | some t => if t < 1000 then (if I_kd t = 1 ∧ I_np t ≤ st.length ∧ I_cat (st.drop (I_np t)) ≤ 8 then some (t, (st.take (I_np t)).reverse, st.drop (I_np t)) else none) else none
    | none => none)
  | _ => none
def I_back (y : Nat) (i : Instr) (st : List Value) : Option (Option Value) := match i with
  | .ireturn => (match st with
    | [.int v] => if I_ret y = some .int ∨ (I_ret y = some .boolean ∧ (v = 0 ∨ v = 1)) then some (some (.int v)) else none
    | _ => none)
  | .dreturn => (match st with
    | [.double v] => if I_ret y = some .double then some (some (.double v)) else none
    | _ => none)
  | .return_ => (match st with
    | [] => if I_ret y = none then some none else none
    | _ => none)
  | _ => none
/-- the lengths of the instructions that are taken -/
def I_lk (i : Instr) (len : Nat) : Bool := match i with
  | .bipush _ => len == 2
  | .iload _ => len == 2
  | .dload _ => len == 2
  | .aload _ => len == 2
  | .istore _ => len == 2
  | .dstore _ => len == 2
  | .astore _ => len == 2
  | .ldc _ => len == 2
  | .newarray _ => len == 2
  | .sipush _ => len == 3
  | .ldc2_w _ => len == 3
  | .iinc _ _ => len == 3
  | .ifCond _ _ => len == 3
  | .if_icmp _ _ => len == 3
  | .if_acmp _ _ => len == 3
  | .ifnull _ => len == 3
  | .ifnonnull _ => len == 3
  | .goto _ => len == 3
  | .getfield _ => len == 3
  | .putfield _ => len == 3
  | .anewarray _ => len == 3
  | .new _ => len == 3
  | .invokevirtual _ => len == 3
  | .invokespecial _ => len == 3
  | .invokestatic _ => len == 3
  | .tableswitch _ _ _ _ => true
  | .lookupswitch _ _ => true
  | _ => len == 1
def I_slots (vs : List Value) : I_L := vs.flatMap (fun v => if v.category = 2 then [some v, none] else [some v])
def I_ent (vs : List Value) (n : Nat) : I_L := I_slots vs ++ List.replicate (n - (I_slots vs).length) none
abbrev I_R : Type := Option Value × I_H
def I_run : Nat → I_X → Nat → Nat → Nat → I_L → List Value → I_H → Option I_R
  | 0, _, _, _, _, _, _, _ => none
  | n + 1, X, d, y, pc, L, st, h => match decode (I_code y) pc with
    | .error _ => none
    | .ok (i, len) => if I_lk i len = true then match I_call X y i st h with
      | some q => (match d with
        | 0 => none
        | d' + 1 => if (I_slots q.2.1).length ≤ I_maxL q.1 then (I_run n X d' q.1 0 (I_ent q.2.1 (I_maxL q.1)) [] h).bind (fun r => I_run n X (d' + 1) y (pc + 3) L (r.1.toList ++ q.2.2) r.2) else none)
      | none => match I_back y i st with
        | some r => some (r, h)
        | none => (I_step X y i pc len L st h).bind (fun c => I_run n X d y c.1 c.2.1 c.2.2.1 c.2.2.2)
      else none
end
section
/-! What a run answers, without its fuel; one equation an instruction. -/
theorem I_run_succ (X : I_X) : ∀ (n d y pc : Nat) (L : I_L) (st : List Value) (h : I_H) (r : I_R), I_run n X d y pc L st h = some r → I_run (n + 1) X d y pc L st h = some r := by
  intro n
  induction n with
  | zero => intro d y pc L st h r e; simp [I_run] at e
  | succ n ih =>
    intro d y pc L st h r e
    rw [I_run] at e ⊢
    split at e
    · exact e
    · rename_i i len hdec
      by_cases hlk : I_lk i len = true
      case neg => rw [if_neg hlk] at e; cases e
      rw [if_pos hlk] at e ⊢
      split at e
      · rename_i q hq
        cases d with
        | zero => exact e
        | succ d' =>
          simp only at e ⊢
          by_cases hl : (I_slots q.2.1).length ≤ I_maxL q.1
          · rw [if_pos hl] at e ⊢
            cases h1 : I_run n X d' q.1 0 (I_ent q.2.1 (I_maxL q.1)) [] h with
            | none => rw [h1] at e; simp at e
            | some r1 =>
              rw [h1] at e
              rw [ih _ _ _ _ _ _ _ h1]
              simp only [Option.bind_some] at e ⊢
              exact ih _ _ _ _ _ _ _ e
          · rw [if_neg hl] at e
            cases e
      · split at e
        · exact e
        · rename_i hb
          cases h1 : I_step X y i pc len L st h with
          | none => rw [h1] at e; simp at e
          | some c =>
            rw [h1] at e
            simp only [Option.bind_some] at e ⊢
            exact ih _ _ _ _ _ _ _ e
theorem I_run_le (X : I_X) {n m d y pc : Nat} {L : I_L} {st : List Value} {h : I_H} {r : I_R} (hm : n ≤ m) (e : I_run n X d y pc L st h = some r) : I_run m X d y pc L st h = some r := by
  induction hm with
  | refl => exact e
  | step _ ih => exact I_run_succ X _ _ _ _ _ _ _ _ ih
noncomputable def ev (X : I_X) (d y pc : Nat) (L : I_L) (st : List Value) (h : I_H) : Option I_R :=
  @dite (Option I_R) (∃ r, ∃ n, I_run n X d y pc L st h = some r) (Classical.propDecidable _) (fun w => some w.choose) (fun _ => none)
theorem ev_some {X : I_X} {d y pc : Nat} {L : I_L} {st : List Value} {h : I_H} {r : I_R} : ev X d y pc L st h = some r ↔ ∃ n, I_run n X d y pc L st h = some r := by
  unfold ev
  constructor
  · intro e
    split at e
    · rename_i w
      have := w.choose_spec
      rw [Option.some.inj e] at this
      exact this
    · cases e
  · rintro ⟨n, e⟩
    have w : ∃ r, ∃ n, I_run n X d y pc L st h = some r := ⟨r, n, e⟩
    rw [dif_pos w]
    obtain ⟨m, e2⟩ := w.choose_spec
    have a := I_run_le X (Nat.le_max_left n m) e
    have b := I_run_le X (Nat.le_max_right n m) e2
    rw [a] at b
    exact congrArg some (Option.some.inj b).symm
theorem ev_ext {X : I_X} {d y pc : Nat} {L : I_L} {st : List Value} {h : I_H} {o : Option I_R} (k : ∀ r, (∃ n, I_run n X d y pc L st h = some r) ↔ o = some r) : ev X d y pc L st h = o := by
  cases ho : o with
  | some r => rw [ev_some, k r]; exact ho
  | none =>
    cases he : ev X d y pc L st h with
    | none => rfl
    | some r =>
      have := (k r).mp (ev_some.mp he)
      rw [ho] at this
      cases this
theorem ev_step {X : I_X} {d y pc len : Nat} {i : Instr} {L : I_L} {st : List Value} {h : I_H} (hd : decode (I_code y) pc = .ok (i, len)) (hk : I_lk i len = true) (hc : I_call X y i st h = none) (hb : I_back y i st = none) :
    ev X d y pc L st h = (I_step X y i pc len L st h).bind (fun c => ev X d y c.1 c.2.1 c.2.2.1 c.2.2.2) := by
  refine ev_ext fun r => ?_
  cases hs : I_step X y i pc len L st h with
  | none =>
    simp only [Option.bind_none]
    constructor
    · rintro ⟨n, e⟩
      cases n with
      | zero => simp [I_run] at e
      | succ n => rw [I_run, hd] at e; simp only [hk, if_true, hc, hb, hs, Option.bind_none] at e; cases e
    · intro e; cases e
  | some c =>
    simp only [Option.bind_some]
    rw [ev_some]
    constructor
    · rintro ⟨n, e⟩
      cases n with
      | zero => simp [I_run] at e
      | succ n => rw [I_run, hd] at e; simp only [hk, if_true, hc, hb, hs, Option.bind_some] at e; exact ⟨n, e⟩
    · rintro ⟨n, e⟩
      exact ⟨n + 1, by rw [I_run, hd]; simp only [hk, if_true, hc, hb, hs, Option.bind_some]; exact e⟩
theorem ev_ret {X : I_X} {d y pc len : Nat} {i : Instr} {L : I_L} {st : List Value} {h : I_H} {r : Option Value} (hd : decode (I_code y) pc = .ok (i, len)) (hk : I_lk i len = true) (hc : I_call X y i st h = none) (hb : I_back y i st = some r) : ev X d y pc L st h = some (r, h) := by
  rw [ev_some]
  exact ⟨1, by rw [I_run, hd]; simp only [hk, if_true, hc, hb]⟩
theorem ev_call {X : I_X} {d y pc len : Nat} {i : Instr} {L : I_L} {st : List Value} {h : I_H} {t : Nat} {as rest : List Value} (hd : decode (I_code y) pc = .ok (i, len)) (hk : I_lk i len = true) (hc : I_call X y i st h = some (t, as, rest)) (hl : (I_slots as).length ≤ I_maxL t) :
    ev X (d + 1) y pc L st h = (ev X d t 0 (I_ent as (I_maxL t)) [] h).bind (fun r => ev X (d + 1) y (pc + 3) L (r.1.toList ++ rest) r.2) := by
  refine ev_ext fun r => ?_
  constructor
  · rintro ⟨n, e⟩
    cases n with
    | zero => simp [I_run] at e
    | succ n =>
      rw [I_run, hd] at e
      simp only [hk, if_true, hc, if_pos hl] at e
      cases h1 : I_run n X d t 0 (I_ent as (I_maxL t)) [] h with
      | none => rw [h1] at e; simp at e
      | some r1 =>
        rw [h1] at e
        simp only [Option.bind_some] at e
        rw [ev_some.mpr ⟨n, h1⟩]
        simp only [Option.bind_some]
        exact ev_some.mpr ⟨n, e⟩
  · intro e
    cases h1 : ev X d t 0 (I_ent as (I_maxL t)) [] h with
    | none => rw [h1] at e; simp at e
    | some r1 =>
      rw [h1] at e
      simp only [Option.bind_some] at e
      obtain ⟨n1, e1⟩ := ev_some.mp h1
      obtain ⟨n2, e2⟩ := ev_some.mp e
      refine ⟨max n1 n2 + 1, ?_⟩
      rw [I_run, hd]
      simp only [hk, if_true, hc, if_pos hl]
      rw [I_run_le X (Nat.le_max_left n1 n2) e1]
      simp only [Option.bind_some]
      exact I_run_le X (Nat.le_max_right n1 n2) e2
end
section
section GEN
variable {X : I_X} {d y pc : Nat} {L L' : I_L} {st : List Value} {h : I_H} {n : Int} {a b v x z i : Int32} {off : Int} {t ci k idx : Nat} {r r2 : Option Nat}
theorem I_b_some {o : Option I_C} {c : I_C} (e : o = some c) (f : I_C → Option I_R) : o.bind f = f c := by rw [e]; rfl
theorem g_s {i : Instr} {len : Nat} {c : I_C} (hd : decode (I_code y) pc = .ok (i, len)) (hk : I_lk i len = true) (hc : I_call X y i st h = none) (hb : I_back y i st = none) (hs : I_step X y i pc len L st h = some c) : ev X d y pc L st h = ev X d y c.1 c.2.1 c.2.2.1 c.2.2.2 := (ev_step hd hk hc hb).trans (I_b_some hs _)
theorem g_iconst (hd : decode (I_code y) pc = .ok (.iconst n, 1)) (hv : Int32.ofInt n = v) : ev X d y pc L st h = ev X d y (pc + 1) L (.int v :: st) h := by subst hv; exact g_s hd rfl rfl rfl rfl
theorem g_bipush (hd : decode (I_code y) pc = .ok (.bipush n, 2)) (hv : (Int8.ofInt n).toInt32 = v) : ev X d y pc L st h = ev X d y (pc + 2) L (.int v :: st) h := by subst hv; exact g_s hd rfl rfl rfl rfl
theorem g_sipush (hd : decode (I_code y) pc = .ok (.sipush n, 3)) (hv : (Int16.ofInt n).toInt32 = v) : ev X d y pc L st h = ev X d y (pc + 3) L (.int v :: st) h := by subst hv; exact g_s hd rfl rfl rfl rfl
theorem g_dconst (hd : decode (I_code y) pc = .ok (.dconst 0, 1)) : ev X d y pc L st h = ev X d y (pc + 1) L (.double 0 :: st) h := g_s (c := (pc + 1, L, .double FP.dconst0 :: st, h)) hd rfl rfl rfl rfl
theorem g_null (hd : decode (I_code y) pc = .ok (.aconst_null, 1)) : ev X d y pc L st h = ev X d y (pc + 1) L (va_rf none :: st) h := g_s (c := (pc + 1, L, .null :: st, h)) hd rfl rfl rfl rfl
theorem g_ldc (hd : decode (I_code y) pc = .ok (.ldc idx, 2)) (hv : I_look I_ci (I_own y) idx = some v) : ev X d y pc L st h = ev X d y (pc + 2) L (.int v :: st) h := g_s (c := (pc + 2, L, .int v :: st, h)) hd rfl rfl rfl (by simp only [I_step, hv, Option.map_some])
theorem g_ldcd {w : UInt64} (hd : decode (I_code y) pc = .ok (.ldc2_w idx, 3)) (hv : I_look I_cd (I_own y) idx = some w) : ev X d y pc L st h = ev X d y (pc + 3) L (.double w :: st) h := g_s (c := (pc + 3, L, .double w :: st, h)) hd rfl rfl rfl (by simp only [I_step, hv])
theorem g_ldcl {w : Int64} (hd : decode (I_code y) pc = .ok (.ldc2_w idx, 3)) (hn : I_look I_cd (I_own y) idx = none) (hv : I_look I_cl (I_own y) idx = some w) : ev X d y pc L st h = ev X d y (pc + 3) L (.long w :: st) h := g_s (c := (pc + 3, L, .long w :: st, h)) hd rfl rfl rfl (by simp only [I_step, hn, hv, Option.map_some])
theorem g_iload (hd : decode (I_code y) pc = .ok (.iload k, 2)) (hl : I_lv L k = some (.int a)) : ev X d y pc L st h = ev X d y (pc + 2) L (.int a :: st) h := g_s (c := (pc + 2, L, .int a :: st, h)) hd rfl rfl rfl (by simp only [I_step, I_ldi, hl, if_pos])
theorem g_iload_n {k : Fin 4} (hd : decode (I_code y) pc = .ok (.iload_n k, 1)) (hl : I_lv L k.val = some (.int a)) : ev X d y pc L st h = ev X d y (pc + 1) L (.int a :: st) h := g_s (c := (pc + 1, L, .int a :: st, h)) hd rfl rfl rfl (by simp only [I_step, I_ldi, hl])
theorem g_dload {a : UInt64} (hd : decode (I_code y) pc = .ok (.dload k, 2)) (hl : I_lv L k = some (.double a)) : ev X d y pc L st h = ev X d y (pc + 2) L (.double a :: st) h := g_s (c := (pc + 2, L, .double a :: st, h)) hd rfl rfl rfl (by simp only [I_step, I_ldd, hl, if_pos])
theorem g_dload_n {a : UInt64} {k : Fin 4} (hd : decode (I_code y) pc = .ok (.dload_n k, 1)) (hl : I_lv L k.val = some (.double a)) : ev X d y pc L st h = ev X d y (pc + 1) L (.double a :: st) h := g_s (c := (pc + 1, L, .double a :: st, h)) hd rfl rfl rfl (by simp only [I_step, I_ldd, hl])
theorem g_aload (hd : decode (I_code y) pc = .ok (.aload k, 2)) (hl : I_lv L k = some (va_rf r)) : ev X d y pc L st h = ev X d y (pc + 2) L (va_rf r :: st) h := g_s (c := (pc + 2, L, va_rf r :: st, h)) hd rfl rfl rfl (by cases r <;> simp only [I_step, I_lda, hl, va_rf, if_pos])
theorem g_aload_n {k : Fin 4} (hd : decode (I_code y) pc = .ok (.aload_n k, 1)) (hl : I_lv L k.val = some (va_rf r)) : ev X d y pc L st h = ev X d y (pc + 1) L (va_rf r :: st) h := g_s (c := (pc + 1, L, va_rf r :: st, h)) hd rfl rfl rfl (by cases r <;> simp only [I_step, I_lda, hl, va_rf])
theorem g_istore (hd : decode (I_code y) pc = .ok (.istore k, 2)) (hl : I_st1 L k (.int a) = some L') : ev X d y pc L (.int a :: st) h = ev X d y (pc + 2) L' st h := g_s (c := (pc + 2, L', st, h)) hd rfl rfl rfl (by simp only [I_step, I_sti, hl, Option.map_some, if_pos])
theorem g_istore_n {k : Fin 4} (hd : decode (I_code y) pc = .ok (.istore_n k, 1)) (hl : I_st1 L k.val (.int a) = some L') : ev X d y pc L (.int a :: st) h = ev X d y (pc + 1) L' st h := g_s (c := (pc + 1, L', st, h)) hd rfl rfl rfl (by simp only [I_step, I_sti, hl, Option.map_some])
theorem g_dstore {a : UInt64} (hd : decode (I_code y) pc = .ok (.dstore k, 2)) (hl : I_st2 L k (.double a) = some L') : ev X d y pc L (.double a :: st) h = ev X d y (pc + 2) L' st h := g_s (c := (pc + 2, L', st, h)) hd rfl rfl rfl (by simp only [I_step, I_std, hl, Option.map_some, if_pos])
theorem g_dstore_n {a : UInt64} {k : Fin 4} (hd : decode (I_code y) pc = .ok (.dstore_n k, 1)) (hl : I_st2 L k.val (.double a) = some L') : ev X d y pc L (.double a :: st) h = ev X d y (pc + 1) L' st h := g_s (c := (pc + 1, L', st, h)) hd rfl rfl rfl (by simp only [I_step, I_std, hl, Option.map_some])
theorem g_astore (hd : decode (I_code y) pc = .ok (.astore k, 2)) (hl : I_st1 L k (va_rf r) = some L') : ev X d y pc L (va_rf r :: st) h = ev X d y (pc + 2) L' st h := g_s (c := (pc + 2, L', st, h)) hd rfl (by cases r <;> rfl) (by cases r <;> rfl) (by cases r <;> (simp only [va_rf] at hl; simp only [I_step, I_sta, hl, va_rf, Option.map_some, if_pos]))
theorem g_astore_n {k : Fin 4} (hd : decode (I_code y) pc = .ok (.astore_n k, 1)) (hl : I_st1 L k.val (va_rf r) = some L') : ev X d y pc L (va_rf r :: st) h = ev X d y (pc + 1) L' st h := g_s (c := (pc + 1, L', st, h)) hd rfl (by cases r <;> rfl) (by cases r <;> rfl) (by cases r <;> (simp only [va_rf] at hl; simp only [I_step, I_sta, hl, va_rf, Option.map_some]))
theorem g_iinc (hd : decode (I_code y) pc = .ok (.iinc k n, 3)) (hv : Int32.ofInt n = v) (hl : I_lv L k = some (.int a)) (hs : I_st1 L k (.int (a + v)) = some L') : ev X d y pc L st h = ev X d y (pc + 3) L' st h := by
  subst hv
  exact g_s (c := (pc + 3, L', st, h)) hd rfl rfl rfl (by simp only [I_step, hl, hs, Option.map_some, if_pos])
theorem g_iadd (hd : decode (I_code y) pc = .ok (.iadd, 1)) : ev X d y pc L (.int b :: .int a :: st) h = ev X d y (pc + 1) L (.int (a + b) :: st) h := g_s (c := (pc + 1, L, .int (a + b) :: st, h)) hd rfl rfl rfl rfl
theorem g_isub (hd : decode (I_code y) pc = .ok (.isub, 1)) : ev X d y pc L (.int b :: .int a :: st) h = ev X d y (pc + 1) L (.int (a - b) :: st) h := g_s (c := (pc + 1, L, .int (a - b) :: st, h)) hd rfl rfl rfl rfl
theorem g_imul (hd : decode (I_code y) pc = .ok (.imul, 1)) : ev X d y pc L (.int b :: .int a :: st) h = ev X d y (pc + 1) L (.int (a * b) :: st) h := g_s (c := (pc + 1, L, .int (a * b) :: st, h)) hd rfl rfl rfl rfl
theorem g_iand (hd : decode (I_code y) pc = .ok (.iand, 1)) : ev X d y pc L (.int b :: .int a :: st) h = ev X d y (pc + 1) L (.int (a &&& b) :: st) h := g_s (c := (pc + 1, L, .int (a &&& b) :: st, h)) hd rfl rfl rfl rfl
theorem g_ior (hd : decode (I_code y) pc = .ok (.ior, 1)) : ev X d y pc L (.int b :: .int a :: st) h = ev X d y (pc + 1) L (.int (a ||| b) :: st) h := g_s (c := (pc + 1, L, .int (a ||| b) :: st, h)) hd rfl rfl rfl rfl
theorem g_ishl (hd : decode (I_code y) pc = .ok (.ishl, 1)) : ev X d y pc L (.int b :: .int a :: st) h = ev X d y (pc + 1) L (.int (a <<< (b &&& 31)) :: st) h := g_s (c := (pc + 1, L, .int (a <<< (b &&& 31)) :: st, h)) hd rfl rfl rfl rfl
theorem g_idiv (hd : decode (I_code y) pc = .ok (.idiv, 1)) (hb : ¬ b = 0) : ev X d y pc L (.int b :: .int a :: st) h = ev X d y (pc + 1) L (.int (a / b) :: st) h := g_s (c := (pc + 1, L, .int (a / b) :: st, h)) hd rfl rfl rfl (by simp only [I_step, if_neg hb])
theorem g_irem (hd : decode (I_code y) pc = .ok (.irem, 1)) (hb : ¬ b = 0) : ev X d y pc L (.int b :: .int a :: st) h = ev X d y (pc + 1) L (.int (a - a / b * b) :: st) h := g_s (c := (pc + 1, L, .int (a - a / b * b) :: st, h)) hd rfl rfl rfl (by simp only [I_step, if_neg hb])
theorem g_i2l (hd : decode (I_code y) pc = .ok (.i2l, 1)) : ev X d y pc L (.int a :: st) h = ev X d y (pc + 1) L (.long a.toInt64 :: st) h := g_s (c := (pc + 1, L, .long a.toInt64 :: st, h)) hd rfl rfl rfl rfl
theorem g_ladd {a b : Int64} (hd : decode (I_code y) pc = .ok (.ladd, 1)) : ev X d y pc L (.long b :: .long a :: st) h = ev X d y (pc + 1) L (.long (a + b) :: st) h := g_s (c := (pc + 1, L, .long (a + b) :: st, h)) hd rfl rfl rfl rfl
theorem g_lcmp {a b : Int64} (hd : decode (I_code y) pc = .ok (.lcmp, 1)) : ev X d y pc L (.long b :: .long a :: st) h = ev X d y (pc + 1) L (.int (lg_cmp a b) :: st) h := g_s (c := (pc + 1, L, .int (lg_cmp a b) :: st, h)) hd rfl rfl rfl rfl
theorem g_i2d (hd : decode (I_code y) pc = .ok (.i2d, 1)) : ev X d y pc L (.int a :: st) h = ev X d y (pc + 1) L (.double (FP.i2d a) :: st) h := g_s (c := (pc + 1, L, .double (FP.i2d a) :: st, h)) hd rfl rfl rfl rfl
theorem g_d2i {a : UInt64} (hd : decode (I_code y) pc = .ok (.d2i, 1)) : ev X d y pc L (.double a :: st) h = ev X d y (pc + 1) L (.int (FP.d2i a) :: st) h := g_s (c := (pc + 1, L, .int (FP.d2i a) :: st, h)) hd rfl rfl rfl rfl
theorem g_dadd {a b : UInt64} (hd : decode (I_code y) pc = .ok (.dadd, 1)) (hn : I_nan (FP.dadd a b) = true) : ev X d y pc L (.double b :: .double a :: st) h = ev X d y (pc + 1) L (.double (FP.dadd a b) :: st) h := g_s (c := (pc + 1, L, .double (FP.dadd a b) :: st, h)) hd rfl rfl rfl (by simp only [I_step, I_d2, if_pos hn])
theorem g_dmul {a b : UInt64} (hd : decode (I_code y) pc = .ok (.dmul, 1)) (hn : I_nan (FP.dmul a b) = true) : ev X d y pc L (.double b :: .double a :: st) h = ev X d y (pc + 1) L (.double (FP.dmul a b) :: st) h := g_s (c := (pc + 1, L, .double (FP.dmul a b) :: st, h)) hd rfl rfl rfl (by simp only [I_step, I_d2, if_pos hn])
theorem g_ddiv {a b : UInt64} (hd : decode (I_code y) pc = .ok (.ddiv, 1)) (hn : I_nan (FP.ddiv a b) = true) : ev X d y pc L (.double b :: .double a :: st) h = ev X d y (pc + 1) L (.double (FP.ddiv a b) :: st) h := g_s (c := (pc + 1, L, .double (FP.ddiv a b) :: st, h)) hd rfl rfl rfl (by simp only [I_step, I_d2, if_pos hn])
theorem g_dcmp {a b : UInt64} {op : CmpOp} (hd : decode (I_code y) pc = .ok (.dcmp op, 1)) : ev X d y pc L (.double b :: .double a :: st) h = ev X d y (pc + 1) L (.int (Op.cmpValue (FP.dcmp a b) op) :: st) h := g_s (c := (pc + 1, L, .int (Op.cmpValue (FP.dcmp a b) op) :: st, h)) hd rfl rfl rfl rfl
theorem I_jmp_t (ht : (pc : Int) + off = (t : Int)) : I_jmp pc off L st h = some (t, L, st, h) := by
  simp [I_jmp, ht]
theorem I_br_tt {c : Bool} (ht : (pc : Int) + off = (t : Int)) (f : I_C → Option I_R) : (I_br c pc off L st h).bind f = if c = true then f (t, L, st, h) else f (pc + 3, L, st, h) := by
  unfold I_br
  have e : ((pc : Int) + off).toNat = t := by omega
  rw [if_pos (by omega), e]
  by_cases hc : c = true
  · rw [if_pos hc, if_pos hc]; rfl
  · rw [if_neg hc, if_neg hc]; rfl
theorem I_br_t {c : Prop} [Decidable c] (ht : (pc : Int) + off = (t : Int)) (f : I_C → Option I_R) : (I_br (decide c) pc off L st h).bind f = if c then f (t, L, st, h) else f (pc + 3, L, st, h) := by
  rw [I_br_tt ht]
  by_cases hc : c <;> simp [hc]
theorem g_if_eq (hd : decode (I_code y) pc = .ok (.ifCond .eq off, 3)) (ht : (pc : Int) + off = (t : Int)) : ev X d y pc L (.int a :: st) h = if a = 0 then ev X d y t L st h else ev X d y (pc + 3) L st h := (ev_step hd rfl rfl rfl).trans (I_br_t ht _)
theorem g_if_ne (hd : decode (I_code y) pc = .ok (.ifCond .ne off, 3)) (ht : (pc : Int) + off = (t : Int)) : ev X d y pc L (.int a :: st) h = if a = 0 then ev X d y (pc + 3) L st h else ev X d y t L st h := by
  refine (ev_step hd rfl rfl rfl).trans ((I_br_t ht _).trans ?_)
  by_cases hc : a = 0 <;> simp [hc]
theorem g_if_lt (hd : decode (I_code y) pc = .ok (.ifCond .lt off, 3)) (ht : (pc : Int) + off = (t : Int)) : ev X d y pc L (.int a :: st) h = if a < 0 then ev X d y t L st h else ev X d y (pc + 3) L st h := (ev_step hd rfl rfl rfl).trans (I_br_t ht _)
theorem g_if_ge (hd : decode (I_code y) pc = .ok (.ifCond .ge off, 3)) (ht : (pc : Int) + off = (t : Int)) : ev X d y pc L (.int a :: st) h = if 0 ≤ a then ev X d y t L st h else ev X d y (pc + 3) L st h := (ev_step hd rfl rfl rfl).trans (I_br_t ht _)
theorem g_if_gt (hd : decode (I_code y) pc = .ok (.ifCond .gt off, 3)) (ht : (pc : Int) + off = (t : Int)) : ev X d y pc L (.int a :: st) h = if 0 < a then ev X d y t L st h else ev X d y (pc + 3) L st h := (ev_step hd rfl rfl rfl).trans (I_br_t ht _)
theorem g_if_le (hd : decode (I_code y) pc = .ok (.ifCond .le off, 3)) (ht : (pc : Int) + off = (t : Int)) : ev X d y pc L (.int a :: st) h = if a ≤ 0 then ev X d y t L st h else ev X d y (pc + 3) L st h := (ev_step hd rfl rfl rfl).trans (I_br_t ht _)
theorem g_icmp_eq (hd : decode (I_code y) pc = .ok (.if_icmp .eq off, 3)) (ht : (pc : Int) + off = (t : Int)) : ev X d y pc L (.int b :: .int a :: st) h = if a = b then ev X d y t L st h else ev X d y (pc + 3) L st h := (ev_step hd rfl rfl rfl).trans (I_br_t ht _)
theorem g_icmp_ne (hd : decode (I_code y) pc = .ok (.if_icmp .ne off, 3)) (ht : (pc : Int) + off = (t : Int)) : ev X d y pc L (.int b :: .int a :: st) h = if a = b then ev X d y (pc + 3) L st h else ev X d y t L st h := by
  refine (ev_step hd rfl rfl rfl).trans ((I_br_t ht _).trans ?_)
  by_cases hc : a = b <;> simp [hc]
theorem g_icmp_lt (hd : decode (I_code y) pc = .ok (.if_icmp .lt off, 3)) (ht : (pc : Int) + off = (t : Int)) : ev X d y pc L (.int b :: .int a :: st) h = if a < b then ev X d y t L st h else ev X d y (pc + 3) L st h := (ev_step hd rfl rfl rfl).trans (I_br_t ht _)
theorem g_icmp_ge (hd : decode (I_code y) pc = .ok (.if_icmp .ge off, 3)) (ht : (pc : Int) + off = (t : Int)) : ev X d y pc L (.int b :: .int a :: st) h = if b ≤ a then ev X d y t L st h else ev X d y (pc + 3) L st h := (ev_step hd rfl rfl rfl).trans (I_br_t ht _)
theorem g_icmp_gt (hd : decode (I_code y) pc = .ok (.if_icmp .gt off, 3)) (ht : (pc : Int) + off = (t : Int)) : ev X d y pc L (.int b :: .int a :: st) h = if b < a then ev X d y t L st h else ev X d y (pc + 3) L st h := (ev_step hd rfl rfl rfl).trans (I_br_t ht _)
theorem g_icmp_le (hd : decode (I_code y) pc = .ok (.if_icmp .le off, 3)) (ht : (pc : Int) + off = (t : Int)) : ev X d y pc L (.int b :: .int a :: st) h = if a ≤ b then ev X d y t L st h else ev X d y (pc + 3) L st h := (ev_step hd rfl rfl rfl).trans (I_br_t ht _)
theorem I_rv_rf : I_rv (va_rf r) = some r := by cases r <;> rfl
theorem g_acmp_eq (hd : decode (I_code y) pc = .ok (.if_acmp .eq off, 3)) (ht : (pc : Int) + off = (t : Int)) : ev X d y pc L (va_rf r2 :: va_rf r :: st) h = if r = r2 then ev X d y t L st h else ev X d y (pc + 3) L st h := by
  refine (ev_step hd rfl rfl rfl).trans ?_
  simp only [I_step, I_acmp, I_rv_rf]
  rw [I_br_tt ht]
  by_cases hc : r = r2 <;> simp [hc]
theorem g_acmp_ne (hd : decode (I_code y) pc = .ok (.if_acmp .ne off, 3)) (ht : (pc : Int) + off = (t : Int)) : ev X d y pc L (va_rf r2 :: va_rf r :: st) h = if r = r2 then ev X d y (pc + 3) L st h else ev X d y t L st h := by
  refine (ev_step hd rfl rfl rfl).trans ?_
  simp only [I_step, I_acmp, I_rv_rf]
  rw [I_br_tt ht]
  by_cases hc : r = r2 <;> simp [hc]
theorem g_ifnull (hd : decode (I_code y) pc = .ok (.ifnull off, 3)) (ht : (pc : Int) + off = (t : Int)) : ev X d y pc L (va_rf r :: st) h = if r = none then ev X d y t L st h else ev X d y (pc + 3) L st h := by
  refine (ev_step hd rfl rfl rfl).trans ?_
  cases r <;> simp only [I_step, I_isnull, va_rf] <;> rw [I_br_tt ht] <;> simp
theorem g_ifnonnull (hd : decode (I_code y) pc = .ok (.ifnonnull off, 3)) (ht : (pc : Int) + off = (t : Int)) : ev X d y pc L (va_rf r :: st) h = if r = none then ev X d y (pc + 3) L st h else ev X d y t L st h := by
  refine (ev_step hd rfl rfl rfl).trans ?_
  cases r <;> simp only [I_step, I_isnull, va_rf] <;> rw [I_br_tt ht] <;> simp
theorem g_goto (hd : decode (I_code y) pc = .ok (.goto off, 3)) (ht : (pc : Int) + off = (t : Int)) : ev X d y pc L st h = ev X d y t L st h := g_s (c := (t, L, st, h)) hd rfl rfl rfl (I_jmp_t ht)
theorem g_dup (hd : decode (I_code y) pc = .ok (.dup, 1)) : ev X d y pc L (va_rf r :: st) h = ev X d y (pc + 1) L (va_rf r :: va_rf r :: st) h := g_s (c := (pc + 1, L, va_rf r :: va_rf r :: st, h)) hd rfl (by cases r <;> rfl) (by cases r <;> rfl) (by cases r <;> rfl)
theorem g_dupi (hd : decode (I_code y) pc = .ok (.dup, 1)) : ev X d y pc L (.int a :: st) h = ev X d y (pc + 1) L (.int a :: .int a :: st) h := g_s (c := (pc + 1, L, .int a :: .int a :: st, h)) hd rfl rfl rfl rfl
theorem g_dup2 (hd : decode (I_code y) pc = .ok (.dup2, 1)) : ev X d y pc L (.int a :: va_rf r :: st) h = ev X d y (pc + 1) L (.int a :: va_rf r :: .int a :: va_rf r :: st) h := g_s (c := (pc + 1, L, .int a :: va_rf r :: .int a :: va_rf r :: st, h)) hd rfl (by cases r <;> rfl) (by cases r <;> rfl) (by cases r <;> rfl)
theorem g_get {q : Nat} (hd : decode (I_code y) pc = .ok (.getfield idx, 3)) (hf : I_look I_fl (I_own y) idx = some (ci, k)) : ev X d y pc L (va_rf (some q) :: st) h = (I_getf X h q ci k).bind (fun v => ev X d y (pc + 3) L (v :: st) h) := by
  refine (ev_step hd rfl rfl rfl).trans ?_
  simp only [I_step, va_rf, hf]
  cases I_getf X h q ci k <;> rfl
theorem g_put {q : Nat} {v : Value} (hd : decode (I_code y) pc = .ok (.putfield idx, 3)) (hf : I_look I_fl (I_own y) idx = some (ci, k)) (ht : I_fit (I_own y) ci k (I_init y) v = true) : ev X d y pc L (v :: va_rf (some q) :: st) h = (I_putf X h q ci k v).bind (fun h => ev X d y (pc + 3) L st h) := by
  refine (ev_step hd rfl rfl (by cases v <;> rfl)).trans ?_
  simp only [I_step, va_rf, hf, ht, if_true, I_hp]
  cases I_putf X h q ci k v <;> rfl
theorem g_iald {q : Nat} (hd : decode (I_code y) pc = .ok (.iaload, 1)) (ho : ¬ I_own y = 5) : ev X d y pc L (.int i :: va_rf (some q) :: st) h = (I_aldi X h 0 q i).bind (fun v => ev X d y (pc + 1) L (.int v :: st) h) := by
  refine (ev_step hd rfl rfl rfl).trans ?_
  simp only [I_step, va_rf, if_neg ho]
  cases I_aldi X h 0 q i <;> rfl
theorem g_sld {q : Nat} (hd : decode (I_code y) pc = .ok (.iaload, 1)) (ho : I_own y = 5) : ev X d y pc L (.int i :: va_rf (some q) :: st) h = (I_sld X q i).bind (fun v => ev X d y (pc + 1) L (.int v :: st) h) := by
  refine (ev_step hd rfl rfl rfl).trans ?_
  simp only [I_step, va_rf, if_pos ho]
  cases I_sld X q i <;> rfl
theorem g_bald {q : Nat} (hd : decode (I_code y) pc = .ok (.baload, 1)) : ev X d y pc L (.int i :: va_rf (some q) :: st) h = (I_aldi X h 2 q i).bind (fun v => ev X d y (pc + 1) L (.int v :: st) h) := by
  refine (ev_step hd rfl rfl rfl).trans ?_
  simp only [I_step, va_rf]
  cases I_aldi X h 2 q i <;> rfl
theorem g_dald {q : Nat} (hd : decode (I_code y) pc = .ok (.daload, 1)) : ev X d y pc L (.int i :: va_rf (some q) :: st) h = (I_aldd X h q i).bind (fun v => ev X d y (pc + 1) L (.double v :: st) h) := by
  refine (ev_step hd rfl rfl rfl).trans ?_
  simp only [I_step, va_rf]
  cases I_aldd X h q i <;> rfl
theorem g_aald {q : Nat} (hd : decode (I_code y) pc = .ok (.aaload, 1)) : ev X d y pc L (.int i :: va_rf (some q) :: st) h = (I_aldq X h q i).bind (fun v => ev X d y (pc + 1) L (va_rf v :: st) h) := by
  refine (ev_step hd rfl rfl rfl).trans ?_
  simp only [I_step, va_rf]
  cases I_aldq X h q i <;> rfl
theorem g_iast {q : Nat} (hd : decode (I_code y) pc = .ok (.iastore, 1)) : ev X d y pc L (.int v :: .int i :: va_rf (some q) :: st) h = (I_asti X h 0 q i v).bind (fun h => ev X d y (pc + 1) L st h) := by
  refine (ev_step hd rfl rfl rfl).trans ?_
  simp only [I_step, va_rf, I_hp]
  cases I_asti X h 0 q i v <;> rfl
theorem g_bast {q : Nat} (hd : decode (I_code y) pc = .ok (.bastore, 1)) (hv : v = 0 ∨ v = 1) : ev X d y pc L (.int v :: .int i :: va_rf (some q) :: st) h = (I_asti X h 2 q i v).bind (fun h => ev X d y (pc + 1) L st h) := by
  refine (ev_step hd rfl rfl rfl).trans ?_
  simp only [I_step, va_rf, I_hp, if_pos hv]
  cases I_asti X h 2 q i v <;> rfl
theorem g_dast {q : Nat} {v : UInt64} (hd : decode (I_code y) pc = .ok (.dastore, 1)) : ev X d y pc L (.double v :: .int i :: va_rf (some q) :: st) h = (I_astd X h q i v).bind (fun h => ev X d y (pc + 1) L st h) := by
  refine (ev_step hd rfl rfl rfl).trans ?_
  simp only [I_step, va_rf, I_hp]
  cases I_astd X h q i v <;> rfl
theorem g_aast {q : Nat} (hd : decode (I_code y) pc = .ok (.aastore, 1)) : ev X d y pc L (va_rf r :: .int i :: va_rf (some q) :: st) h = (I_astq X h q i r).bind (fun h => ev X d y (pc + 1) L st h) := by
  refine (ev_step hd rfl (by cases r <;> rfl) (by cases r <;> rfl)).trans ?_
  have e : va_rf (some q) = .ref q := rfl
  simp only [I_step, e, I_rv_rf, I_hp]
  cases I_astq X h q i r <;> rfl
theorem g_alen {q : Nat} (hd : decode (I_code y) pc = .ok (.arraylength, 1)) (ho : ¬ I_own y = 5) : ev X d y pc L (va_rf (some q) :: st) h = (I_alen X h q).bind (fun v => ev X d y (pc + 1) L (.int v :: st) h) := by
  refine (ev_step hd rfl rfl rfl).trans ?_
  simp only [I_step, va_rf, if_neg ho]
  cases I_alen X h q <;> rfl
theorem g_slen {q : Nat} (hd : decode (I_code y) pc = .ok (.arraylength, 1)) (ho : I_own y = 5) : ev X d y pc L (va_rf (some q) :: st) h = (I_slen X q).bind (fun v => ev X d y (pc + 1) L (.int v :: st) h) := by
  refine (ev_step hd rfl rfl rfl).trans ?_
  simp only [I_step, va_rf, if_pos ho]
  cases I_slen X q <;> rfl
theorem g_newa {tt : ArrayType} {e : Nat → I_Ce} (hd : decode (I_code y) pc = .ok (.newarray tt, 2)) (he : ∀ n, I_newa tt n = some (e n)) (hm : I_mk a = true) : ev X d y pc L (.int a :: st) h = ev X d y (pc + 2) L (va_rf (some h.1) :: st) (I_new h a.toNatClampNeg (e a.toNatClampNeg)) := by
  refine (ev_step hd rfl rfl rfl).trans ?_
  simp only [I_step, hm, if_true, he, Option.map_some, Option.bind_some]
theorem g_newq0 (hd : decode (I_code y) pc = .ok (.anewarray idx, 3)) (hk : I_look I_ck (I_own y) idx = some 0) (hm : I_mk a = true) : ev X d y pc L (.int a :: st) h = ev X d y (pc + 3) L (va_rf (some h.1) :: st) (I_new h a.toNatClampNeg (.inl (4, a.toNatClampNeg, .inr (.inr (.inr (.inr (fun _ => none))))))) := by
  refine (ev_step hd rfl rfl rfl).trans ?_
  simp only [I_step, hm, if_true, hk, Option.bind_some]
theorem g_newq1 (hd : decode (I_code y) pc = .ok (.anewarray idx, 3)) (hk : I_look I_ck (I_own y) idx = some 1) (hm : I_mk a = true) : ev X d y pc L (.int a :: st) h = ev X d y (pc + 3) L (va_rf (some h.1) :: st) (I_new h a.toNatClampNeg (.inl (3, a.toNatClampNeg, .inr (.inr (.inr (.inr (fun _ => none))))))) := by
  refine (ev_step hd rfl rfl rfl).trans ?_
  simp only [I_step, hm, if_true, hk, Option.bind_some]
theorem g_new (hd : decode (I_code y) pc = .ok (.new idx, 3)) (hk : I_look I_ck (I_own y) idx = some ci) (hc : ci < 4) : ev X d y pc L st h = ev X d y (pc + 3) L (va_rf (some h.1) :: st) (I_new h (I_N ci) (.inr (ci, I_def ci))) := by
  refine (ev_step hd rfl rfl rfl).trans ?_
  simp only [I_step, hk, if_pos hc, Option.bind_some]
theorem I_call_sp (hk : I_look I_ml (I_own y) idx = some t) (ht : ¬ t < 1000) : I_call X y (.invokespecial idx) st h = none := by simp only [I_call, hk, if_neg ht]
theorem I_call_sc (hk : I_look I_ml (I_own y) idx = some t) (ht : ¬ t < 1000) : I_call X y (.invokestatic idx) st h = none := by simp only [I_call, hk, if_neg ht]
theorem g_obj {q : Nat} (hd : decode (I_code y) pc = .ok (.invokespecial idx, 3)) (hk : I_look I_ml (I_own y) idx = some 1001) (hs : I_cat st ≤ 8) : ev X d y pc L (va_rf (some q) :: st) h = ev X d y (pc + 3) L st h := by
  refine (ev_step hd rfl (I_call_sp hk (by decide)) rfl).trans ?_
  have e : I_cat (Value.ref q :: st) ≤ 9 := by simp only [I_cat, Value.category]; omega
  simp only [I_step, va_rf, hk, true_and, if_pos e, Option.bind_some]
theorem g_copy {q q0 : Nat} {sp dp n : Int32} (hd : decode (I_code y) pc = .ok (.invokestatic idx, 3)) (hk : I_look I_ml (I_own y) idx = some 1002) (hs : I_cat st ≤ 8) : ev X d y pc L (.int n :: .int dp :: va_rf (some q) :: .int sp :: va_rf (some q0) :: st) h = (I_copy X h q0 sp q dp n).bind (fun h => ev X d y (pc + 3) L st h) := by
  refine (ev_step hd rfl (I_call_sc hk (by decide)) rfl).trans ?_
  have e : I_cat (.int n :: .int dp :: .ref q :: .int sp :: .ref q0 :: st) ≤ 13 := by simp only [I_cat, Value.category]; omega
  simp only [I_step, va_rf, hk, if_pos e, I_hp]
  cases I_copy X h q0 sp q dp n <;> rfl
theorem g_l2d {w : Int64} (hd : decode (I_code y) pc = .ok (.invokestatic idx, 3)) (hk : I_look I_ml (I_own y) idx = some 1003) (hs : I_cat st ≤ 8) (hv : vn_snl2d w = false) : ev X d y pc L (.long w :: st) h = ev X d y (pc + 3) L (.double w.toUInt64 :: st) h := by
  refine (ev_step hd rfl (I_call_sc hk (by decide)) rfl).trans ?_
  have e : I_cat (.long w :: st) ≤ 13 := by simp only [I_cat, Value.category]; omega
  simp only [I_step, hk, if_pos e, hv, if_true, Option.bind_some]
theorem g_max (hd : decode (I_code y) pc = .ok (.invokestatic idx, 3)) (hk : I_look I_ml (I_own y) idx = some 1004) (hs : I_cat st ≤ 8) : ev X d y pc L (.int b :: .int a :: st) h = ev X d y (pc + 3) L (.int (if a < b then b else a) :: st) h := by
  refine (ev_step hd rfl (I_call_sc hk (by decide)) rfl).trans ?_
  have e : I_cat (.int b :: .int a :: st) ≤ 13 := by simp only [I_cat, Value.category]; omega
  simp only [I_step, hk, if_pos e, Option.bind_some]
theorem g_iret (hd : decode (I_code y) pc = .ok (.ireturn, 1)) (hr : I_ret y = some .int) : ev X d y pc L [.int a] h = some (some (.int a), h) := ev_ret hd rfl rfl (by simp only [I_back, hr, true_or, if_true])
theorem g_zret (hd : decode (I_code y) pc = .ok (.ireturn, 1)) (hr : I_ret y = some .boolean) (ha : a = 0 ∨ a = 1) : ev X d y pc L [.int a] h = some (some (.int a), h) := ev_ret hd rfl rfl (by simp only [I_back]; rw [if_pos (Or.inr ⟨hr, ha⟩)])
theorem g_dret {a : UInt64} (hd : decode (I_code y) pc = .ok (.dreturn, 1)) (hr : I_ret y = some .double) : ev X d y pc L [.double a] h = some (some (.double a), h) := ev_ret hd rfl rfl (by simp only [I_back, hr, if_true])
theorem g_vret (hd : decode (I_code y) pc = .ok (.return_, 1)) (hr : I_ret y = none) : ev X d y pc L [] h = some (none, h) := ev_ret hd rfl rfl (by simp only [I_back, hr, if_true])
theorem g_callV {as rest : List Value} {q np : Nat} {L0 : I_L} (hd : decode (I_code y) pc = .ok (.invokevirtual idx, 3)) (hk : I_look I_ml (I_own y) idx = some t) (ht : t < 1000) (hn : I_np t = np) (ha : as.length = np) (hl : (I_slots (va_rf (some q) :: as.reverse)).length ≤ I_maxL t) (he : I_ent (va_rf (some q) :: as.reverse) (I_maxL t) = L0) (hkd : I_kd t = 0) (hc : I_isC X h q (I_own t) = true) (hs : I_cat rest ≤ 8) : ev X (d + 1) y pc L (as ++ va_rf (some q) :: rest) h = (ev X d t 0 L0 [] h).bind (fun r => ev X (d + 1) y (pc + 3) L (r.1.toList ++ rest) r.2) := by
  subst he
  refine ev_call hd rfl ?_ hl
  simp only [I_call, hk, if_pos ht, hn]
  have e1 : (as ++ va_rf (some q) :: rest).drop np = .ref q :: rest := by rw [← ha, List.drop_left]; rfl
  have e2 : (as ++ va_rf (some q) :: rest).take np = as := by rw [← ha, List.take_left]
  have e3 : np ≤ (as ++ va_rf (some q) :: rest).length := by rw [List.length_append, ha]; omega
  simp only [e1, e2, e3, hkd, hc, hs, and_self, if_true]
  rfl
theorem g_callI {as rest : List Value} {q np : Nat} {L0 : I_L} (hd : decode (I_code y) pc = .ok (.invokespecial idx, 3)) (hk : I_look I_ml (I_own y) idx = some t) (ht : t < 1000) (hn : I_np t = np) (ha : as.length = np) (hl : (I_slots (va_rf (some q) :: as.reverse)).length ≤ I_maxL t) (he : I_ent (va_rf (some q) :: as.reverse) (I_maxL t) = L0) (hc : I_kd t = 2) (hs : I_cat rest ≤ 8) : ev X (d + 1) y pc L (as ++ va_rf (some q) :: rest) h = (ev X d t 0 L0 [] h).bind (fun r => ev X (d + 1) y (pc + 3) L (r.1.toList ++ rest) r.2) := by
  subst he
  refine ev_call hd rfl ?_ hl
  simp only [I_call, hk, if_pos ht, hn]
  have e1 : (as ++ va_rf (some q) :: rest).drop np = .ref q :: rest := by rw [← ha, List.drop_left]; rfl
  have e2 : (as ++ va_rf (some q) :: rest).take np = as := by rw [← ha, List.take_left]
  have e3 : np ≤ (as ++ va_rf (some q) :: rest).length := by rw [List.length_append, ha]; omega
  simp only [e1, e2, e3, hc, hs, and_self, if_true]
  rfl
theorem g_callS {as rest : List Value} {np : Nat} {L0 : I_L} (hd : decode (I_code y) pc = .ok (.invokestatic idx, 3)) (hk : I_look I_ml (I_own y) idx = some t) (ht : t < 1000) (hn : I_np t = np) (ha : as.length = np) (hl : (I_slots as.reverse).length ≤ I_maxL t) (he : I_ent as.reverse (I_maxL t) = L0) (hkd : I_kd t = 1) (hs : I_cat rest ≤ 8) : ev X (d + 1) y pc L (as ++ rest) h = (ev X d t 0 L0 [] h).bind (fun r => ev X (d + 1) y (pc + 3) L (r.1.toList ++ rest) r.2) := by
  subst he
  refine ev_call hd rfl ?_ hl
  simp only [I_call, hk, if_pos ht, hn]
  have e1 : (as ++ rest).drop np = rest := by rw [← ha, List.drop_left]
  have e2 : (as ++ rest).take np = as := by rw [← ha, List.take_left]
  have e3 : np ≤ (as ++ rest).length := by rw [List.length_append, ha]; omega
  simp only [e1, e2, e3, hkd, hs, and_self, if_true]
theorem I_cat_n : I_cat [] = 0 := rfl
theorem I_cat_i : I_cat (.int a :: st) = I_cat st + 1 := by simp only [I_cat, Value.category]; omega
theorem I_cat_d {w : UInt64} : I_cat (.double w :: st) = I_cat st + 2 := by simp only [I_cat, Value.category]; omega
theorem I_cat_q : I_cat (va_rf r :: st) = I_cat st + 1 := by cases r <;> (simp only [I_cat, va_rf, Value.category]; omega)
theorem I_c2_n : I_c2 none = false := rfl
theorem I_c2_i : I_c2 (some (.int a)) = false := rfl
theorem I_c2_q : I_c2 (some (va_rf r)) = false := by cases r <;> rfl
theorem g_tabO {dflt lo hi : Int} {offs : Array Int} {len : Nat} (hd : decode (I_code y) pc = .ok (.tableswitch dflt lo hi offs, len)) (hx : a.toInt < lo ∨ hi < a.toInt) (ht : (pc : Int) + dflt = (t : Int)) : ev X d y pc L (.int a :: st) h = ev X d y t L st h := by
  refine (ev_step hd rfl rfl rfl).trans ?_
  simp only [I_step, if_pos hx, I_jmp_t ht, Option.bind_some]
theorem g_tabI {dflt lo hi : Int} {offs : Array Int} {len : Nat} (hd : decode (I_code y) pc = .ok (.tableswitch dflt lo hi offs, len)) (hx : ¬ (a.toInt < lo ∨ hi < a.toInt)) (ho : offs[(a.toInt - lo).toNat]? = some off) (ht : (pc : Int) + off = (t : Int)) : ev X d y pc L (.int a :: st) h = ev X d y t L st h := by
  refine (ev_step hd rfl rfl rfl).trans ?_
  simp only [I_step, if_neg hx, ho, I_jmp_t ht, Option.bind_some]
theorem g_look {dflt : Int} {ps : Array (Int × Int)} {len : Nat} (hd : decode (I_code y) pc = .ok (.lookupswitch dflt ps, len)) (hs : I_sorted ps.toList = true) (ho : Op.lookupswitch.offset ps.toList dflt a.toInt = off) (ht : (pc : Int) + off = (t : Int)) : ev X d y pc L (.int a :: st) h = ev X d y t L st h := by
  refine (ev_step hd rfl rfl rfl).trans ?_
  simp only [I_step, hs, if_true, ho, I_jmp_t ht, Option.bind_some]
end GEN
end
section
/-! What the tables say of the lists of the interpreter. -/
def I_T (ci : Nat) : u_T := match ci with
  | 0 => TX0
  | 1 => TX1
  | 2 => TX2
  | _ => TX3
def I_ty (ci : Nat) : Nat → FieldType := match ci with
  | 0 => tyX0
  | 1 => tyX1
  | 2 => tyX2
  | _ => tyX3
def I_wl : List Cond := lw_tbl.filter goodWord
theorem f_in {w : Cond} (h : w ∈ lw_tbl) (g : goodWord w = true) : w ∈ I_wl := List.mem_filter.mpr ⟨h, g⟩
theorem f_good : ∀ w ∈ I_wl, w ∈ lw_tbl ∧ ((w.onTables && w.keeps) = true ∨ ∃ ty, w = .arrayClass ty) := fun w h => ⟨(List.mem_filter.mp h).1, good_of_word (List.mem_filter.mp h).2⟩
set_option maxRecDepth 20000 in
theorem f_fl : ∀ q ∈ I_fl, q.2.2.1 < 4 ∧ q.2.2.2 < I_N q.2.2.1 ∧ Cond.fieldLink (I_cn q.1) q.2.1 (I_T q.2.2.1 q.2.2.2).1 (I_T q.2.2.1 q.2.2.2).2.1 (I_T q.2.2.1 q.2.2.2).2.2.1 ∈ lw_tbl := by decide +kernel
set_option maxRecDepth 20000 in
theorem f_ck : ∀ q ∈ I_ck, Cond.classLink (I_cn q.1) q.2.1 (I_cn q.2.2) ∈ lw_tbl := by decide +kernel
set_option maxRecDepth 20000 in
theorem f_ci : ∀ q ∈ I_ci, Cond.constant (I_cn q.1) q.2.1 q.2.2 ∈ lw_tbl := by decide +kernel
set_option maxRecDepth 20000 in
theorem f_cd : ∀ q ∈ I_cd, Cond.constantDouble (I_cn q.1) q.2.1 q.2.2 ∈ lw_tbl := by decide +kernel
set_option maxRecDepth 20000 in
theorem f_cl : ∀ q ∈ I_cl, Cond.constantLong (I_cn q.1) q.2.1 q.2.2 ∈ lw_tbl := by decide +kernel
set_option maxRecDepth 20000 in
theorem f_ws : ∀ ci, ci < 4 → ∀ w ∈ u_ws (I_cn ci) (I_T ci) (I_N ci), w ∈ I_wl := by decide +kernel
set_option maxRecDepth 20000 in
theorem f_inst : ∀ ci, ci < 4 → Cond.instantiable (I_cn ci) (I_N ci) ∈ lw_tbl ∧ Cond.initialized (I_cn ci) ∈ lw_tbl := by decide +kernel
theorem f_ty : ∀ ci, ci < 4 → ∀ k, k < I_N ci → parseFieldDescriptor (I_T ci k).2.2.1 = some (I_ty ci k) := by decide +kernel
theorem f_nm : ∀ ci, ci < 4 → ∀ a, a < I_N ci → ∀ b, b < I_N ci → a ≠ b → (I_T ci a).2.1 ≠ (I_T ci b).2.1 := by decide +kernel
theorem f_def : ∀ ci, ci < 4 → ∀ k, k < I_N ci → defaultValue (I_ty ci k) = vp_V (I_def ci) k := by decide +kernel
theorem f_cl4 : ∀ ci, ci < 4 → vwCl[ci]? = some (I_cn ci, I_T ci, I_N ci) := by
  intro ci h
  match ci, h with
  | 0, _ => rfl
  | 1, _ => rfl
  | 2, _ => rfl
  | 3, _ => rfl
  | k + 4, h => omega
def I_sp (t : Nat) : MethodName := if t < 1000 then I_name t else if t = 1001 then objectInit else if t = 1002 then arraycopyName else if t = 1003 then ⟨"java/lang/Double", "longBitsToDouble", "(J)D"⟩ else Lib.Math.max.name
set_option maxRecDepth 20000 in
theorem f_ml : ∀ q ∈ I_ml, (q.2.2 < 113 ∨ 1000 < q.2.2) ∧ Cond.methodLink (I_cn q.1) q.2.1 (I_sp q.2.2) ∈ lw_tbl := by decide +kernel
set_option maxRecDepth 20000 in
theorem f_code_0 : Cond.code yX0_init cX0_init 3 none ∈ lw_tbl := List.mem_of_getElem? (i := 142) rfl
set_option maxRecDepth 20000 in
theorem f_code_1 : Cond.code yX0_length cX0_length 1 (some .int) ∈ lw_tbl := List.mem_of_getElem? (i := 216) rfl
set_option maxRecDepth 20000 in
theorem f_code_2 : Cond.code yX0_hasCells cX0_hasCells 3 (some .boolean) ∈ lw_tbl := List.mem_of_getElem? (i := 190) rfl
set_option maxRecDepth 20000 in
theorem f_code_3 : Cond.code yX0_write cX0_write 3 none ∈ lw_tbl := List.mem_of_getElem? (i := 194) rfl
set_option maxRecDepth 20000 in
theorem f_code_4 : Cond.code yX0_cut cX0_cut 2 (some .int) ∈ lw_tbl := List.mem_of_getElem? (i := 203) rfl
set_option maxRecDepth 20000 in
theorem f_code_5 : Cond.code yX0_sumOfCells cX0_sumOfCells 3 (some .int) ∈ lw_tbl := List.mem_of_getElem? (i := 363) rfl
set_option maxRecDepth 20000 in
theorem f_code_6 : Cond.code yX0_isNoNumber cX0_isNoNumber 2 (some .boolean) ∈ lw_tbl := List.mem_of_getElem? (i := 279) rfl
set_option maxRecDepth 20000 in
theorem f_code_7 : Cond.code yX0_markNoNumber cX0_markNoNumber 2 none ∈ lw_tbl := List.mem_of_getElem? (i := 291) rfl
set_option maxRecDepth 20000 in
theorem f_code_8 : Cond.code yX0_takeCells cX0_takeCells 5 none ∈ lw_tbl := List.mem_of_getElem? (i := 235) rfl
set_option maxRecDepth 20000 in
theorem f_code_9 : Cond.code yX0_hasTheCellsOf cX0_hasTheCellsOf 3 (some .boolean) ∈ lw_tbl := List.mem_of_getElem? (i := 333) rfl
set_option maxRecDepth 20000 in
theorem f_code_10 : Cond.code yX0_hasTheCellOf cX0_hasTheCellOf 3 (some .boolean) ∈ lw_tbl := List.mem_of_getElem? (i := 338) rfl
set_option maxRecDepth 20000 in
theorem f_code_11 : Cond.code yX1_init cX1_init 1 none ∈ lw_tbl := List.mem_of_getElem? (i := 52) rfl
set_option maxRecDepth 20000 in
theorem f_code_12 : Cond.code yX1_begin cX1_begin 4 none ∈ lw_tbl := List.mem_of_getElem? (i := 124) rfl
set_option maxRecDepth 20000 in
theorem f_code_13 : Cond.code yX1_hasPlace cX1_hasPlace 2 (some .boolean) ∈ lw_tbl := List.mem_of_getElem? (i := 137) rfl
set_option maxRecDepth 20000 in
theorem f_code_14 : Cond.code yX1_placeCause cX1_placeCause 2 (some .int) ∈ lw_tbl := List.mem_of_getElem? (i := 185) rfl
set_option maxRecDepth 20000 in
theorem f_code_15 : Cond.code yX1_cellCause cX1_cellCause 4 (some .int) ∈ lw_tbl := List.mem_of_getElem? (i := 181) rfl
set_option maxRecDepth 20000 in
theorem f_code_16 : Cond.code yX1_isEven cX1_isEven 2 (some .boolean) ∈ lw_tbl := List.mem_of_getElem? (i := 246) rfl
set_option maxRecDepth 20000 in
theorem f_code_17 : Cond.code yX1_wide cX1_wide 1 (some .int) ∈ lw_tbl := List.mem_of_getElem? (i := 250) rfl
set_option maxRecDepth 20000 in
theorem f_code_18 : Cond.code yX1_firstNotSquare cX1_firstNotSquare 2 (some .int) ∈ lw_tbl := List.mem_of_getElem? (i := 224) rfl
set_option maxRecDepth 20000 in
theorem f_code_19 : Cond.code yX1_fallenPlaces cX1_fallenPlaces 3 (some .int) ∈ lw_tbl := List.mem_of_getElem? (i := 312) rfl
set_option maxRecDepth 20000 in
theorem f_code_20 : Cond.code yX1_rowsNotYetCounted cX1_rowsNotYetCounted 4 (some .int) ∈ lw_tbl := List.mem_of_getElem? (i := 395) rfl
set_option maxRecDepth 20000 in
theorem f_code_21 : Cond.code yX1_agreesWith cX1_agreesWith 6 (some .boolean) ∈ lw_tbl := List.mem_of_getElem? (i := 329) rfl
set_option maxRecDepth 20000 in
theorem f_code_22 : Cond.code yX2_init cX2_init 2 none ∈ lw_tbl := List.mem_of_getElem? (i := 43) rfl
set_option maxRecDepth 20000 in
theorem f_code_23 : Cond.code yX2_table cX2_table 3 (some .int) ∈ lw_tbl := List.mem_of_getElem? (i := 105) rfl
set_option maxRecDepth 20000 in
theorem f_code_24 : Cond.code yX2_row cX2_row 5 (some .int) ∈ lw_tbl := List.mem_of_getElem? (i := 128) rfl
set_option maxRecDepth 20000 in
theorem f_code_25 : Cond.code yX2_share cX2_share 7 (some .int) ∈ lw_tbl := List.mem_of_getElem? (i := 168) rfl
set_option maxRecDepth 20000 in
theorem f_code_26 : Cond.code yX2_fall cX2_fall 5 (some .int) ∈ lw_tbl := List.mem_of_getElem? (i := 172) rfl
set_option maxRecDepth 20000 in
theorem f_code_27 : Cond.code yX2_put cX2_put 7 (some .int) ∈ lw_tbl := List.mem_of_getElem? (i := 176) rfl
set_option maxRecDepth 20000 in
theorem f_code_28 : Cond.code yX2_get cX2_get 6 (some .int) ∈ lw_tbl := List.mem_of_getElem? (i := 199) rfl
set_option maxRecDepth 20000 in
theorem f_code_29 : Cond.code yX2_real cX2_real 5 (some .double) ∈ lw_tbl := List.mem_of_getElem? (i := 207) rfl
set_option maxRecDepth 20000 in
theorem f_code_30 : Cond.code yX2_told cX2_told 6 (some .int) ∈ lw_tbl := List.mem_of_getElem? (i := 211) rfl
set_option maxRecDepth 20000 in
theorem f_code_31 : Cond.code yX2_odd cX2_odd 2 (some .int) ∈ lw_tbl := List.mem_of_getElem? (i := 220) rfl
set_option maxRecDepth 20000 in
theorem f_code_32 : Cond.code yX2_copy cX2_copy 12 (some .int) ∈ lw_tbl := List.mem_of_getElem? (i := 230) rfl
set_option maxRecDepth 20000 in
theorem f_code_33 : Cond.code yX2_turned cX2_turned 7 (some .int) ∈ lw_tbl := List.mem_of_getElem? (i := 242) rfl
set_option maxRecDepth 20000 in
theorem f_code_34 : Cond.code yX2_product cX2_product 9 (some .int) ∈ lw_tbl := List.mem_of_getElem? (i := 260) rfl
set_option maxRecDepth 20000 in
theorem f_code_35 : Cond.code yX2_distances cX2_distances 7 (some .int) ∈ lw_tbl := List.mem_of_getElem? (i := 298) rfl
set_option maxRecDepth 20000 in
theorem f_code_36 : Cond.code yX2_pack cX2_pack 5 (some .int) ∈ lw_tbl := List.mem_of_getElem? (i := 308) rfl
set_option maxRecDepth 20000 in
theorem f_code_37 : Cond.code yX2_word cX2_word 2 (some .int) ∈ lw_tbl := List.mem_of_getElem? (i := 321) rfl
set_option maxRecDepth 20000 in
theorem f_code_38 : Cond.code yX2_alike cX2_alike 3 (some .int) ∈ lw_tbl := List.mem_of_getElem? (i := 325) rfl
set_option maxRecDepth 20000 in
theorem f_code_39 : Cond.code yX2_same cX2_same 7 (some .int) ∈ lw_tbl := List.mem_of_getElem? (i := 343) rfl
set_option maxRecDepth 20000 in
theorem f_code_40 : Cond.code yX2_total cX2_total 3 (some .int) ∈ lw_tbl := List.mem_of_getElem? (i := 347) rfl
set_option maxRecDepth 20000 in
theorem f_code_41 : Cond.code yX2_entered cX2_entered 1 (some .int) ∈ lw_tbl := List.mem_of_getElem? (i := 368) rfl
set_option maxRecDepth 20000 in
theorem f_code_42 : Cond.code yX2_deep cX2_deep 3 (some .int) ∈ lw_tbl := List.mem_of_getElem? (i := 372) rfl
set_option maxRecDepth 20000 in
theorem f_code_43 : Cond.code yX2_count cX2_count 2 (some .int) ∈ lw_tbl := List.mem_of_getElem? (i := 387) rfl
set_option maxRecDepth 20000 in
theorem f_code_44 : Cond.code yX2_clear cX2_clear 2 (some .int) ∈ lw_tbl := List.mem_of_getElem? (i := 403) rfl
set_option maxRecDepth 20000 in
theorem f_code_45 : Cond.code yX2_isUnknown cX2_isUnknown 2 (some .boolean) ∈ lw_tbl := List.mem_of_getElem? (i := 132) rfl
set_option maxRecDepth 20000 in
theorem f_code_46 : Cond.code yX2_isFull cX2_isFull 1 (some .boolean) ∈ lw_tbl := List.mem_of_getElem? (i := 110) rfl
set_option maxRecDepth 20000 in
theorem f_code_47 : Cond.code yX2_failed cX2_failed 2 (some .int) ∈ lw_tbl := List.mem_of_getElem? (i := 115) rfl
set_option maxRecDepth 20000 in
theorem f_code_48 : Cond.code yX2_begun cX2_begun 4 (some .int) ∈ lw_tbl := List.mem_of_getElem? (i := 120) rfl
set_option maxRecDepth 20000 in
theorem f_code_49 : Cond.code yX2_begunWithRows cX2_begunWithRows 7 (some .int) ∈ lw_tbl := List.mem_of_getElem? (i := 256) rfl
set_option maxRecDepth 20000 in
theorem f_code_50 : Cond.code yX2_canMultiply cX2_canMultiply 2 (some .boolean) ∈ lw_tbl := List.mem_of_getElem? (i := 263) rfl
set_option maxRecDepth 20000 in
theorem f_code_51 : Cond.code yX2_multiply cX2_multiply 4 none ∈ lw_tbl := List.mem_of_getElem? (i := 266) rfl
set_option maxRecDepth 20000 in
theorem f_code_52 : Cond.code yX2_multiplyBits cX2_multiplyBits 6 none ∈ lw_tbl := List.mem_of_getElem? (i := 269) rfl
set_option maxRecDepth 20000 in
theorem f_code_53 : Cond.code yX2_multiplyNumbers cX2_multiplyNumbers 6 none ∈ lw_tbl := List.mem_of_getElem? (i := 272) rfl
set_option maxRecDepth 20000 in
theorem f_code_54 : Cond.code yX2_multiplyReals cX2_multiplyReals 10 none ∈ lw_tbl := List.mem_of_getElem? (i := 275) rfl
set_option maxRecDepth 20000 in
theorem f_code_55 : Cond.code yX2_isNoProduct cX2_isNoProduct 4 (some .boolean) ∈ lw_tbl := List.mem_of_getElem? (i := 282) rfl
set_option maxRecDepth 20000 in
theorem f_code_56 : Cond.code yX2_isNoSum cX2_isNoSum 4 (some .boolean) ∈ lw_tbl := List.mem_of_getElem? (i := 294) rfl
set_option maxRecDepth 20000 in
theorem f_code_57 : Cond.code yX2_isEndless cX2_isEndless 2 (some .boolean) ∈ lw_tbl := List.mem_of_getElem? (i := 285) rfl
set_option maxRecDepth 20000 in
theorem f_code_58 : Cond.code yX2_writeSteps cX2_writeSteps 4 none ∈ lw_tbl := List.mem_of_getElem? (i := 301) rfl
set_option maxRecDepth 20000 in
theorem f_code_59 : Cond.code yX2_shortenThrough cX2_shortenThrough 5 none ∈ lw_tbl := List.mem_of_getElem? (i := 304) rfl
set_option maxRecDepth 20000 in
theorem f_code_60 : Cond.code yX2_packRow cX2_packRow 5 none ∈ lw_tbl := List.mem_of_getElem? (i := 317) rfl
set_option maxRecDepth 20000 in
theorem f_code_61 : Cond.code yX2_totalOfTable cX2_totalOfTable 6 (some .int) ∈ lw_tbl := List.mem_of_getElem? (i := 351) rfl
set_option maxRecDepth 20000 in
theorem f_code_62 : Cond.code yX2_totalOfRow cX2_totalOfRow 3 (some .int) ∈ lw_tbl := List.mem_of_getElem? (i := 355) rfl
set_option maxRecDepth 20000 in
theorem f_code_63 : Cond.code yX2_totalOfLinks cX2_totalOfLinks 5 (some .int) ∈ lw_tbl := List.mem_of_getElem? (i := 359) rfl
set_option maxRecDepth 20000 in
theorem f_code_64 : Cond.code yX2_depthOfTable cX2_depthOfTable 7 (some .int) ∈ lw_tbl := List.mem_of_getElem? (i := 376) rfl
set_option maxRecDepth 20000 in
theorem f_code_65 : Cond.code yX2_deepestLink cX2_deepestLink 7 (some .int) ∈ lw_tbl := List.mem_of_getElem? (i := 380) rfl
set_option maxRecDepth 20000 in
theorem f_code_66 : Cond.code yX2_standingRows cX2_standingRows 3 (some .int) ∈ lw_tbl := List.mem_of_getElem? (i := 391) rfl
set_option maxRecDepth 20000 in
theorem f_code_67 : Cond.code yX2_allFallenPlaces cX2_allFallenPlaces 3 (some .int) ∈ lw_tbl := List.mem_of_getElem? (i := 399) rfl
set_option maxRecDepth 20000 in
theorem f_code_68 : Cond.code yX3_init cX3_init 1 none ∈ lw_tbl := List.mem_of_getElem? (i := 408) rfl
set_option maxRecDepth 20000 in
theorem f_code_69 : Cond.code yX3_in cX3_in 3 (some .boolean) ∈ lw_tbl := List.mem_of_getElem? (i := 480) rfl
set_option maxRecDepth 20000 in
theorem f_code_70 : Cond.code yX3_fails cX3_fails 2 (some .int) ∈ lw_tbl := List.mem_of_getElem? (i := 486) rfl
set_option maxRecDepth 20000 in
theorem f_code_71 : Cond.code yX3_isTable cX3_isTable 2 (some .boolean) ∈ lw_tbl := List.mem_of_getElem? (i := 499) rfl
set_option maxRecDepth 20000 in
theorem f_code_72 : Cond.code yX3_newTable cX3_newTable 4 (some .int) ∈ lw_tbl := List.mem_of_getElem? (i := 491) rfl
set_option maxRecDepth 20000 in
theorem f_code_73 : Cond.code yX3_newRow cX3_newRow 4 (some .int) ∈ lw_tbl := List.mem_of_getElem? (i := 512) rfl
set_option maxRecDepth 20000 in
theorem f_code_74 : Cond.code yX3_newEven cX3_newEven 6 (some .int) ∈ lw_tbl := List.mem_of_getElem? (i := 575) rfl
set_option maxRecDepth 20000 in
theorem f_code_75 : Cond.code yX3_table cX3_table 3 (some .int) ∈ lw_tbl := List.mem_of_getElem? (i := 477) rfl
set_option maxRecDepth 20000 in
theorem f_code_76 : Cond.code yX3_isPlace cX3_isPlace 3 (some .boolean) ∈ lw_tbl := List.mem_of_getElem? (i := 504) rfl
set_option maxRecDepth 20000 in
theorem f_code_77 : Cond.code yX3_row cX3_row 4 (some .int) ∈ lw_tbl := List.mem_of_getElem? (i := 495) rfl
set_option maxRecDepth 20000 in
theorem f_code_78 : Cond.code yX3_squeeze cX3_squeeze 4 none ∈ lw_tbl := List.mem_of_getElem? (i := 508) rfl
set_option maxRecDepth 20000 in
theorem f_code_79 : Cond.code yX3_share cX3_share 6 (some .int) ∈ lw_tbl := List.mem_of_getElem? (i := 517) rfl
set_option maxRecDepth 20000 in
theorem f_code_80 : Cond.code yX3_fall cX3_fall 4 (some .int) ∈ lw_tbl := List.mem_of_getElem? (i := 521) rfl
set_option maxRecDepth 20000 in
theorem f_code_81 : Cond.code yX3_cellCause cX3_cellCause 5 (some .int) ∈ lw_tbl := List.mem_of_getElem? (i := 529) rfl
set_option maxRecDepth 20000 in
theorem f_code_82 : Cond.code yX3_put cX3_put 7 (some .int) ∈ lw_tbl := List.mem_of_getElem? (i := 525) rfl
set_option maxRecDepth 20000 in
theorem f_code_83 : Cond.code yX3_get cX3_get 5 (some .int) ∈ lw_tbl := List.mem_of_getElem? (i := 534) rfl
set_option maxRecDepth 20000 in
theorem f_code_84 : Cond.code yX3_toldAt cX3_toldAt 3 (some .int) ∈ lw_tbl := List.mem_of_getElem? (i := 538) rfl
set_option maxRecDepth 20000 in
theorem f_code_85 : Cond.code yX3_real cX3_real 7 (some .double) ∈ lw_tbl := List.mem_of_getElem? (i := 542) rfl
set_option maxRecDepth 20000 in
theorem f_code_86 : Cond.code yX3_told cX3_told 5 (some .int) ∈ lw_tbl := List.mem_of_getElem? (i := 546) rfl
set_option maxRecDepth 20000 in
theorem f_code_87 : Cond.code yX3_firstOdd cX3_firstOdd 4 (some .int) ∈ lw_tbl := List.mem_of_getElem? (i := 554) rfl
set_option maxRecDepth 20000 in
theorem f_code_88 : Cond.code yX3_odd cX3_odd 2 (some .int) ∈ lw_tbl := List.mem_of_getElem? (i := 550) rfl
set_option maxRecDepth 20000 in
theorem f_code_89 : Cond.code yX3_copy cX3_copy 12 (some .int) ∈ lw_tbl := List.mem_of_getElem? (i := 558) rfl
set_option maxRecDepth 20000 in
theorem f_code_90 : Cond.code yX3_isEven cX3_isEven 5 (some .boolean) ∈ lw_tbl := List.mem_of_getElem? (i := 566) rfl
set_option maxRecDepth 20000 in
theorem f_code_91 : Cond.code yX3_wideOf cX3_wideOf 2 (some .int) ∈ lw_tbl := List.mem_of_getElem? (i := 570) rfl
set_option maxRecDepth 20000 in
theorem f_code_92 : Cond.code yX3_cellOf cX3_cellOf 4 (some .int) ∈ lw_tbl := List.mem_of_getElem? (i := 579) rfl
set_option maxRecDepth 20000 in
theorem f_code_93 : Cond.code yX3_turned cX3_turned 5 (some .int) ∈ lw_tbl := List.mem_of_getElem? (i := 562) rfl
set_option maxRecDepth 20000 in
theorem f_code_94 : Cond.code yX3_hasNone cX3_hasNone 7 (some .boolean) ∈ lw_tbl := List.mem_of_getElem? (i := 589) rfl
set_option maxRecDepth 20000 in
theorem f_code_95 : Cond.code yX3_noNumber cX3_noNumber 0 (some .double) ∈ lw_tbl := List.mem_of_getElem? (i := 594) rfl
set_option maxRecDepth 20000 in
theorem f_code_96 : Cond.code yX3_reckoned cX3_reckoned 5 (some .double) ∈ lw_tbl := List.mem_of_getElem? (i := 586) rfl
set_option maxRecDepth 20000 in
theorem f_code_97 : Cond.code yX3_product cX3_product 10 (some .int) ∈ lw_tbl := List.mem_of_getElem? (i := 583) rfl
set_option maxRecDepth 20000 in
theorem f_code_98 : Cond.code yX3_distances cX3_distances 9 (some .int) ∈ lw_tbl := List.mem_of_getElem? (i := 602) rfl
set_option maxRecDepth 20000 in
theorem f_code_99 : Cond.code yX3_pack cX3_pack 5 (some .int) ∈ lw_tbl := List.mem_of_getElem? (i := 606) rfl
set_option maxRecDepth 20000 in
theorem f_code_100 : Cond.code yX3_word cX3_word 2 (some .int) ∈ lw_tbl := List.mem_of_getElem? (i := 610) rfl
set_option maxRecDepth 20000 in
theorem f_code_101 : Cond.code yX3_areAlike cX3_areAlike 6 (some .boolean) ∈ lw_tbl := List.mem_of_getElem? (i := 618) rfl
set_option maxRecDepth 20000 in
theorem f_code_102 : Cond.code yX3_alike cX3_alike 5 (some .int) ∈ lw_tbl := List.mem_of_getElem? (i := 614) rfl
set_option maxRecDepth 20000 in
theorem f_code_103 : Cond.code yX3_same cX3_same 6 (some .int) ∈ lw_tbl := List.mem_of_getElem? (i := 622) rfl
set_option maxRecDepth 20000 in
theorem f_code_104 : Cond.code yX3_goOn cX3_goOn 9 (some .int) ∈ lw_tbl := List.mem_of_getElem? (i := 638) rfl
set_option maxRecDepth 20000 in
theorem f_code_105 : Cond.code yX3_enter cX3_enter 4 none ∈ lw_tbl := List.mem_of_getElem? (i := 634) rfl
set_option maxRecDepth 20000 in
theorem f_code_106 : Cond.code yX3_find cX3_find 5 (some .int) ∈ lw_tbl := List.mem_of_getElem? (i := 630) rfl
set_option maxRecDepth 20000 in
theorem f_code_107 : Cond.code yX3_total cX3_total 2 (some .int) ∈ lw_tbl := List.mem_of_getElem? (i := 626) rfl
set_option maxRecDepth 20000 in
theorem f_code_108 : Cond.code yX3_entered cX3_entered 1 (some .int) ∈ lw_tbl := List.mem_of_getElem? (i := 642) rfl
set_option maxRecDepth 20000 in
theorem f_code_109 : Cond.code yX3_deep cX3_deep 2 (some .int) ∈ lw_tbl := List.mem_of_getElem? (i := 646) rfl
set_option maxRecDepth 20000 in
theorem f_code_110 : Cond.code yX3_count cX3_count 7 (some .int) ∈ lw_tbl := List.mem_of_getElem? (i := 650) rfl
set_option maxRecDepth 20000 in
theorem f_code_111 : Cond.code yX3_clear cX3_clear 2 (some .int) ∈ lw_tbl := List.mem_of_getElem? (i := 654) rfl
set_option maxRecDepth 20000 in
theorem f_code_112 : Cond.code yJ7_fill_53178 cJ7_fill_53178 4 none ∈ lw_tbl := List.mem_of_getElem? (i := 147) rfl
def I_cok (q : I_M) : Prop := Cond.code q.1 q.2.1 q.2.2.1 q.2.2.2.1 ∈ lw_tbl
theorem f_cs0 : ∀ q ∈ (I_ms0), I_cok q := List.forall_mem_cons.mpr ⟨f_code_0, List.forall_mem_cons.mpr ⟨f_code_1, List.forall_mem_cons.mpr ⟨f_code_2, List.forall_mem_cons.mpr ⟨f_code_3, List.forall_mem_cons.mpr ⟨f_code_4, List.forall_mem_cons.mpr ⟨f_code_5, List.forall_mem_cons.mpr ⟨f_code_6, List.forall_mem_cons.mpr ⟨f_code_7, List.forall_mem_cons.mpr ⟨f_code_8, List.forall_mem_cons.mpr ⟨f_code_9, List.forall_mem_cons.mpr ⟨f_code_10, List.forall_mem_cons.mpr ⟨f_code_11, List.forall_mem_cons.mpr ⟨f_code_12, List.forall_mem_cons.mpr ⟨f_code_13, List.forall_mem_cons.mpr ⟨f_code_14, List.forall_mem_cons.mpr ⟨f_code_15, List.forall_mem_cons.mpr ⟨f_code_16, List.forall_mem_cons.mpr ⟨f_code_17, List.forall_mem_cons.mpr ⟨f_code_18, List.forall_mem_cons.mpr ⟨f_code_19, fun _ h => absurd h List.not_mem_nil⟩⟩⟩⟩⟩⟩⟩⟩⟩⟩⟩⟩⟩⟩⟩⟩⟩⟩⟩⟩
theorem f_cs1 : ∀ q ∈ (I_ms1), I_cok q := List.forall_mem_cons.mpr ⟨f_code_20, List.forall_mem_cons.mpr ⟨f_code_21, List.forall_mem_cons.mpr ⟨f_code_22, List.forall_mem_cons.mpr ⟨f_code_23, List.forall_mem_cons.mpr ⟨f_code_24, List.forall_mem_cons.mpr ⟨f_code_25, List.forall_mem_cons.mpr ⟨f_code_26, List.forall_mem_cons.mpr ⟨f_code_27, List.forall_mem_cons.mpr ⟨f_code_28, List.forall_mem_cons.mpr ⟨f_code_29, List.forall_mem_cons.mpr ⟨f_code_30, List.forall_mem_cons.mpr ⟨f_code_31, List.forall_mem_cons.mpr ⟨f_code_32, List.forall_mem_cons.mpr ⟨f_code_33, List.forall_mem_cons.mpr ⟨f_code_34, List.forall_mem_cons.mpr ⟨f_code_35, List.forall_mem_cons.mpr ⟨f_code_36, List.forall_mem_cons.mpr ⟨f_code_37, List.forall_mem_cons.mpr ⟨f_code_38, List.forall_mem_cons.mpr ⟨f_code_39, fun _ h => absurd h List.not_mem_nil⟩⟩⟩⟩⟩⟩⟩⟩⟩⟩⟩⟩⟩⟩⟩⟩⟩⟩⟩⟩
theorem f_cs2 : ∀ q ∈ (I_ms2), I_cok q := List.forall_mem_cons.mpr ⟨f_code_40, List.forall_mem_cons.mpr ⟨f_code_41, List.forall_mem_cons.mpr ⟨f_code_42, List.forall_mem_cons.mpr ⟨f_code_43, List.forall_mem_cons.mpr ⟨f_code_44, List.forall_mem_cons.mpr ⟨f_code_45, List.forall_mem_cons.mpr ⟨f_code_46, List.forall_mem_cons.mpr ⟨f_code_47, List.forall_mem_cons.mpr ⟨f_code_48, List.forall_mem_cons.mpr ⟨f_code_49, List.forall_mem_cons.mpr ⟨f_code_50, List.forall_mem_cons.mpr ⟨f_code_51, List.forall_mem_cons.mpr ⟨f_code_52, List.forall_mem_cons.mpr ⟨f_code_53, List.forall_mem_cons.mpr ⟨f_code_54, List.forall_mem_cons.mpr ⟨f_code_55, List.forall_mem_cons.mpr ⟨f_code_56, List.forall_mem_cons.mpr ⟨f_code_57, List.forall_mem_cons.mpr ⟨f_code_58, List.forall_mem_cons.mpr ⟨f_code_59, fun _ h => absurd h List.not_mem_nil⟩⟩⟩⟩⟩⟩⟩⟩⟩⟩⟩⟩⟩⟩⟩⟩⟩⟩⟩⟩
theorem f_cs3 : ∀ q ∈ (I_ms3), I_cok q := List.forall_mem_cons.mpr ⟨f_code_60, List.forall_mem_cons.mpr ⟨f_code_61, List.forall_mem_cons.mpr ⟨f_code_62, List.forall_mem_cons.mpr ⟨f_code_63, List.forall_mem_cons.mpr ⟨f_code_64, List.forall_mem_cons.mpr ⟨f_code_65, List.forall_mem_cons.mpr ⟨f_code_66, List.forall_mem_cons.mpr ⟨f_code_67, List.forall_mem_cons.mpr ⟨f_code_68, List.forall_mem_cons.mpr ⟨f_code_69, List.forall_mem_cons.mpr ⟨f_code_70, List.forall_mem_cons.mpr ⟨f_code_71, List.forall_mem_cons.mpr ⟨f_code_72, List.forall_mem_cons.mpr ⟨f_code_73, List.forall_mem_cons.mpr ⟨f_code_74, List.forall_mem_cons.mpr ⟨f_code_75, List.forall_mem_cons.mpr ⟨f_code_76, List.forall_mem_cons.mpr ⟨f_code_77, List.forall_mem_cons.mpr ⟨f_code_78, List.forall_mem_cons.mpr ⟨f_code_79, fun _ h => absurd h List.not_mem_nil⟩⟩⟩⟩⟩⟩⟩⟩⟩⟩⟩⟩⟩⟩⟩⟩⟩⟩⟩⟩
theorem f_cs4 : ∀ q ∈ (I_ms4), I_cok q := List.forall_mem_cons.mpr ⟨f_code_80, List.forall_mem_cons.mpr ⟨f_code_81, List.forall_mem_cons.mpr ⟨f_code_82, List.forall_mem_cons.mpr ⟨f_code_83, List.forall_mem_cons.mpr ⟨f_code_84, List.forall_mem_cons.mpr ⟨f_code_85, List.forall_mem_cons.mpr ⟨f_code_86, List.forall_mem_cons.mpr ⟨f_code_87, List.forall_mem_cons.mpr ⟨f_code_88, List.forall_mem_cons.mpr ⟨f_code_89, List.forall_mem_cons.mpr ⟨f_code_90, List.forall_mem_cons.mpr ⟨f_code_91, List.forall_mem_cons.mpr ⟨f_code_92, List.forall_mem_cons.mpr ⟨f_code_93, List.forall_mem_cons.mpr ⟨f_code_94, List.forall_mem_cons.mpr ⟨f_code_95, List.forall_mem_cons.mpr ⟨f_code_96, List.forall_mem_cons.mpr ⟨f_code_97, List.forall_mem_cons.mpr ⟨f_code_98, List.forall_mem_cons.mpr ⟨f_code_99, fun _ h => absurd h List.not_mem_nil⟩⟩⟩⟩⟩⟩⟩⟩⟩⟩⟩⟩⟩⟩⟩⟩⟩⟩⟩⟩
theorem f_cs5 : ∀ q ∈ (I_ms5.take 13), I_cok q := List.forall_mem_cons.mpr ⟨f_code_100, List.forall_mem_cons.mpr ⟨f_code_101, List.forall_mem_cons.mpr ⟨f_code_102, List.forall_mem_cons.mpr ⟨f_code_103, List.forall_mem_cons.mpr ⟨f_code_104, List.forall_mem_cons.mpr ⟨f_code_105, List.forall_mem_cons.mpr ⟨f_code_106, List.forall_mem_cons.mpr ⟨f_code_107, List.forall_mem_cons.mpr ⟨f_code_108, List.forall_mem_cons.mpr ⟨f_code_109, List.forall_mem_cons.mpr ⟨f_code_110, List.forall_mem_cons.mpr ⟨f_code_111, List.forall_mem_cons.mpr ⟨f_code_112, fun _ h => absurd h List.not_mem_nil⟩⟩⟩⟩⟩⟩⟩⟩⟩⟩⟩⟩⟩
theorem f_code (t : Nat) (ht : t < 113) : Cond.code (I_name t) (I_code t) (I_maxL t) (I_ret t) ∈ lw_tbl := by
  have key : ∀ q ∈ (I_ms0 ++ I_ms1 ++ I_ms2 ++ I_ms3 ++ I_ms4 ++ I_ms5).take 113, I_cok q := by
    intro q hq
    have e : (I_ms0 ++ I_ms1 ++ I_ms2 ++ I_ms3 ++ I_ms4 ++ I_ms5).take 113 = I_ms0 ++ I_ms1 ++ I_ms2 ++ I_ms3 ++ I_ms4 ++ I_ms5.take 13 := rfl
    rw [e] at hq
    simp only [List.mem_append] at hq
    rcases hq with ((((hq | hq) | hq) | hq) | hq) | hq
    · exact f_cs0 q hq
    · exact f_cs1 q hq
    · exact f_cs2 q hq
    · exact f_cs3 q hq
    · exact f_cs4 q hq
    · exact f_cs5 q hq
  have e2 : I_m t = ((I_ms0 ++ I_ms1 ++ I_ms2 ++ I_ms3 ++ I_ms4 ++ I_ms5).take 113).getD t (yL_law, cL_law, 8, some .boolean, 5) := by
    unfold I_m
    rw [List.getD_eq_getElem?_getD, List.getD_eq_getElem?_getD, List.getElem?_take, if_pos ht]
  have hlen : t < ((I_ms0 ++ I_ms1 ++ I_ms2 ++ I_ms3 ++ I_ms4 ++ I_ms5).take 113).length := by
    have : ((I_ms0 ++ I_ms1 ++ I_ms2 ++ I_ms3 ++ I_ms4 ++ I_ms5).take 113).length = 113 := rfl
    omega
  have hm : I_m t ∈ (I_ms0 ++ I_ms1 ++ I_ms2 ++ I_ms3 ++ I_ms4 ++ I_ms5).take 113 := by
    rw [e2, List.getD_eq_getElem?_getD, List.getElem?_eq_getElem hlen]
    exact List.getElem_mem hlen
  exact key _ hm

set_option maxRecDepth 20000 in
theorem f_mi : ∀ t, t < 113 → Cond.initialized (I_name t).cls ∈ lw_tbl ∧ plainName (I_name t).cls = true ∧ (I_name t).cls ≠ "java/lang/invoke/MethodHandle" ∧ (I_name t).cls ≠ "java/lang/invoke/VarHandle" ∧ (parseMethodDescriptor (I_name t).desc).map (fun d => d.parameters.length) = some (I_np t) ∧ I_maxL t ≤ 12 ∧ (I_name t).cls = I_cn (I_own t) ∧ I_own t < 5 := by decide +kernel
set_option maxRecDepth 20000 in
theorem f_k0 : ∀ t, t < 113 → I_kd t = 0 → Cond.instanceMethod (I_name t) ∈ lw_tbl ∧ Cond.selects (I_name t).cls (I_name t) (I_name t) ∈ lw_tbl ∧ I_own t < 4 := by decide +kernel
set_option maxRecDepth 20000 in
theorem f_k1 : ∀ t, t < 113 → I_kd t = 1 → Cond.static (I_name t) ∈ lw_tbl := by decide +kernel
set_option maxRecDepth 20000 in
theorem f_k2 : ∀ t, t < 113 → I_kd t = 2 → Cond.instanceMethod (I_name t) ∈ lw_tbl ∧ (I_name t).name = "<init>" ∧ I_ret t = none := by decide +kernel
set_option maxRecDepth 20000 in
theorem f_o : Cond.instanceMethod objectInit ∈ lw_tbl ∧ Cond.code objectInit ⟨#[0xb1]⟩ 1 none ∈ lw_tbl ∧ Cond.native arraycopyName ∈ lw_tbl ∧ Cond.static arraycopyName ∈ lw_tbl ∧ Cond.initialized "java/lang/System" ∈ lw_tbl ∧ Cond.native ⟨"java/lang/Double", "longBitsToDouble", "(J)D"⟩ ∈ lw_tbl ∧ Cond.static ⟨"java/lang/Double", "longBitsToDouble", "(J)D"⟩ ∈ lw_tbl ∧ Cond.initialized "java/lang/Double" ∈ lw_tbl ∧ Cond.static Lib.Math.max.name ∈ lw_tbl ∧ Cond.initialized "java/lang/Math" ∈ lw_tbl ∧ Cond.code Lib.Math.max.name Lib.Math.max.code 2 (some .int) ∈ lw_tbl := by decide +kernel
set_option maxRecDepth 20000 in
theorem f_a : Cond.arrayClass .int ∈ lw_tbl ∧ Cond.arrayClass .double ∈ lw_tbl ∧ Cond.arrayClass .boolean ∈ lw_tbl ∧ Cond.arrayOver (.object RX1) ∈ lw_tbl ∧ Cond.arrayOver (.object RX0) ∈ lw_tbl := by decide +kernel
theorem I_look_mem {α : Type} {l : List (Nat × Nat × α)} {o i : Nat} {v : α} (h : I_look l o i = some v) : (o, i, v) ∈ l := by
  unfold I_look at h
  cases hf : l.find? (fun q => q.1 == o && q.2.1 == i) with
  | none => rw [hf] at h; cases h
  | some q =>
    rw [hf] at h
    have h1 := List.find?_some hf
    have h2 := List.mem_of_find?_eq_some hf
    obtain ⟨a, b, c⟩ := q
    simp only [Bool.and_eq_true, beq_iff_eq] at h1
    obtain ⟨rfl, rfl⟩ := h1
    cases h
    exact h2
/-- what a field may take fits it -/
theorem f_fit : ∀ ci, ci < 4 → ∀ k, k < I_N ci → ∀ o, o < 6 → ((∀ x : Int32, I_fit o ci k false (.int x) = true → I_ty ci k = .int ∧ (I_T ci k).2.2.2 = false)) := by
  intro ci hci k hk o ho x h
  match ci, hci with
  | 0, _ => 
    have hk : k < 4 := hk
    match k, hk with
    | 0, _ => simp [I_fit] at h
    | 1, _ => simp [I_fit] at h
    | 2, _ => simp [I_fit] at h
    | 3, _ => exact ⟨rfl, rfl⟩
    | k + 4, hk => omega
  | 1, _ =>
    have hk : k < 3 := hk
    match k, hk with
    | 0, _ => simp [I_fit] at h
    | 1, _ => exact ⟨rfl, rfl⟩
    | 2, _ => exact ⟨rfl, rfl⟩
    | k + 3, hk => omega
  | 2, _ =>
    have hk : k < 10 := hk
    match k, hk with
    | 0, _ => simp [I_fit] at h
    | 1, _ => exact ⟨rfl, rfl⟩
    | 2, _ => exact ⟨rfl, rfl⟩
    | 3, _ => simp [I_fit] at h
    | 4, _ => exact ⟨rfl, rfl⟩
    | 5, _ => simp [I_fit] at h
    | 6, _ => exact ⟨rfl, rfl⟩
    | 7, _ => exact ⟨rfl, rfl⟩
    | 8, _ => simp [I_fit] at h
    | 9, _ => exact ⟨rfl, rfl⟩
    | k + 10, hk => omega
  | 3, _ =>
    have hk : k < 21 := hk
    match k, hk with
    | 0, _ => exact ⟨rfl, rfl⟩
    | 1, _ => simp [I_fit] at h
    | 2, _ => simp [I_fit] at h
    | 3, _ => simp [I_fit] at h
    | 4, _ => exact ⟨rfl, rfl⟩
    | 5, _ => simp [I_fit] at h
    | 6, _ => simp [I_fit] at h
    | 7, _ => simp [I_fit] at h
    | 8, _ => exact ⟨rfl, rfl⟩
    | 9, _ => simp [I_fit] at h
    | 10, _ => exact ⟨rfl, rfl⟩
    | 11, _ => simp [I_fit] at h
    | 12, _ => exact ⟨rfl, rfl⟩
    | 13, _ => simp [I_fit] at h
    | 14, _ => simp [I_fit] at h
    | 15, _ => simp [I_fit] at h
    | 16, _ => simp [I_fit] at h
    | 17, _ => simp [I_fit] at h
    | 18, _ => exact ⟨rfl, rfl⟩
    | 19, _ => exact ⟨rfl, rfl⟩
    | 20, _ => exact ⟨rfl, rfl⟩
    | k + 21, hk => omega
  | ci + 4, hci => omega
end
section
/-! The interpreter is true of the machine, an instruction a row. -/
def I_va (T : Nat → ClassId) (e : I_Ce) : va_E := match e with
  | .inl q => .inl (T q.1, q.2)
  | .inr o => .inr o
def I_ws (T : Nat → ClassId) (lo : Nat) (h : I_H) : va_W := (List.range (h.1 - lo)).map (fun k => (lo + k, I_va T (h.2.2 (lo + k))))
def I_tys (T : Nat → ClassId) : List (ClassId × FieldType) := [(T 0, .int), (T 1, .double), (T 2, .boolean), (T 3, .object RX1), (T 4, .object RX0)]
theorem I_ws_get {T : Nat → ClassId} {lo a : Nat} {h : I_H} (h1 : lo ≤ a) (h2 : a < h.1) : (I_ws T lo h)[a - lo]? = some (a, I_va T (h.2.2 a)) := by
  unfold I_ws
  rw [List.getElem?_map, List.getElem?_range (by omega)]
  simp only [Option.map_some]
  rw [show lo + (a - lo) = a by omega]
theorem I_ws_inv {T : Nat → ClassId} {lo k : Nat} {h : I_H} {q : Nat × va_E} (hq : (I_ws T lo h)[k]? = some q) : k < h.1 - lo ∧ q = (lo + k, I_va T (h.2.2 (lo + k))) := by
  unfold I_ws at hq
  rw [List.getElem?_map] at hq
  cases hr : (List.range (h.1 - lo))[k]? with
  | none => rw [hr] at hq; cases hq
  | some j =>
    rw [hr] at hq
    obtain ⟨hk, hj⟩ := List.getElem?_eq_some_iff.mp hr
    rw [List.getElem_range] at hj
    subst hj
    rw [List.length_range] at hk
    exact ⟨hk, (Option.some.inj hq).symm⟩
theorem I_ws_D {T : Nat → ClassId} {lo : Nat} {h : I_H} : va_D (fun q => lo ≤ q) (I_ws T lo h) := by
  refine ⟨fun i j x z hi hj hxz => ?_, fun k q hk => ?_⟩
  · obtain ⟨-, rfl⟩ := I_ws_inv hi
    obtain ⟨-, rfl⟩ := I_ws_inv hj
    simp only at hxz
    omega
  · obtain ⟨-, rfl⟩ := I_ws_inv hk
    exact Nat.le_add_right _ _
theorem I_ws_len {T : Nat → ClassId} {lo : Nat} {h : I_H} : (I_ws T lo h).length = h.1 - lo := by simp [I_ws]
theorem I_ws_set {T : Nat → ClassId} {lo a : Nat} {h : I_H} {e : I_Ce} (h1 : lo ≤ a) (h2 : a < h.1) : (I_ws T lo h).set (a - lo) (a, I_va T e) = I_ws T lo (I_set h a e) := by
  apply List.ext_getElem?
  intro k
  by_cases hk : k = a - lo
  · subst hk
    rw [List.getElem?_set_self (by rw [I_ws_len]; omega), I_ws_get h1 (by exact h2)]
    simp [I_set]
  · rw [List.getElem?_set_ne (Ne.symm hk)]
    by_cases hl : k < h.1 - lo
    · have e1 := I_ws_get (T := T) (lo := lo) (a := lo + k) (h := h) (by omega) (by omega)
      have e2 := I_ws_get (T := T) (lo := lo) (a := lo + k) (h := I_set h a e) (by omega) (by show lo + k < h.1; omega)
      rw [show lo + k - lo = k by omega] at e1 e2
      rw [e1, e2]
      simp only [I_set]
      rw [if_neg (by omega)]
    · rw [List.getElem?_eq_none (by rw [I_ws_len]; omega), List.getElem?_eq_none (by rw [I_ws_len]; show h.1 - lo ≤ k; omega)]
theorem I_ws_new {T : Nat → ClassId} {lo n : Nat} {h : I_H} {e : I_Ce} (h1 : lo ≤ h.1) : I_ws T lo h ++ [(h.1, I_va T e)] = I_ws T lo (I_new h n e) := by
  apply List.ext_getElem?
  intro k
  by_cases hl : k < h.1 - lo
  · have e1 := I_ws_get (T := T) (lo := lo) (a := lo + k) (h := h) (by omega) (by omega)
    have e2 := I_ws_get (T := T) (lo := lo) (a := lo + k) (h := I_new h n e) (by omega) (by show lo + k < h.1 + 1; omega)
    rw [show lo + k - lo = k by omega] at e1 e2
    rw [List.getElem?_append_left (by rw [I_ws_len]; exact hl), e1, e2]
    simp only [I_new]
    rw [if_neg (by omega)]
  · rw [List.getElem?_append_right (by rw [I_ws_len]; omega), I_ws_len]
    by_cases hk : k = h.1 - lo
    · subst hk
      have e2 := I_ws_get (T := T) (lo := lo) (a := h.1) (h := I_new h n e) h1 (by show h.1 < h.1 + 1; omega)
      rw [e2, Nat.sub_self]
      simp [I_new]
    · rw [List.getElem?_eq_none (by simp; omega), List.getElem?_eq_none (by rw [I_ws_len]; show h.1 + 1 - lo ≤ k; omega)]
theorem I_ws_app {T : Nat → ClassId} {lo q n : Nat} {h : I_H} {e : I_Ce} {D : va_G} {H1 : Heap} (h1 : lo ≤ h.1) (hP : va_P D vwCl (I_ws T lo h ++ [(q, I_va T e)]) H1) (hD : va_D (fun q => lo ≤ q) (I_ws T lo h ++ [(q, I_va T e)])) (hs : H1.size ≤ h.1 + 1) : q = h.1 ∧ va_P D vwCl (I_ws T lo (I_new h n e)) H1 := by
  have hlast : (I_ws T lo h ++ [(q, I_va T e)])[h.1 - lo]? = some (q, I_va T e) := by
    rw [List.getElem?_append_right (by rw [I_ws_len]; omega), I_ws_len, Nat.sub_self]; rfl
  have hq1 : lo ≤ q := hD.2 _ _ hlast
  have hq2 : q < H1.size := (hP _ _ hlast).lt
  have hq : q = h.1 := by
    rcases Nat.lt_or_ge q h.1 with hlt | hge
    · have e1 := I_ws_get (T := T) (lo := lo) (a := q) (h := h) hq1 hlt
      have e2 : (I_ws T lo h ++ [(q, I_va T e)])[q - lo]? = some (q, I_va T (h.2.2 q)) := by
        rw [List.getElem?_append_left (by rw [I_ws_len]; omega)]; exact e1
      have := hD.1 _ _ _ _ hlast e2 rfl
      omega
    · omega
  subst hq
  refine ⟨rfl, ?_⟩
  rw [← I_ws_new h1]
  exact hP
/-- the locals, as a list of what is known -/
def I_al (L : I_L) : List (Nat × Value) := (List.range L.length).filterMap (fun k => (I_lv L k).map (fun v => (k, v)))
def I_lok (ls : Array Slot) (nL : Nat) (L : I_L) : Prop := L.length = nL ∧ lv_has ls nL (I_al L)
theorem I_lv_iff {L : I_L} {k : Nat} {v : Value} : I_lv L k = some v ↔ L[k]? = some (some v) := by
  unfold I_lv
  constructor
  · intro h
    split at h
    · rename_i w hw; rw [hw, Option.some.inj h]
    · cases h
  · intro h; rw [h]
theorem I_al_mem {L : I_L} {k : Nat} {v : Value} : (k, v) ∈ I_al L ↔ I_lv L k = some v := by
  unfold I_al
  rw [List.mem_filterMap]
  constructor
  · rintro ⟨j, -, hj⟩
    cases hv : I_lv L j with
    | none => rw [hv] at hj; cases hj
    | some w =>
      rw [hv] at hj
      simp only [Option.map_some, Option.some.injEq, Prod.mk.injEq] at hj
      obtain ⟨rfl, rfl⟩ := hj
      exact hv
  · intro h
    have h2 := I_lv_iff.mp h
    exact ⟨k, List.mem_range.mpr (List.getElem?_eq_some_iff.mp h2).1, by rw [h]; rfl⟩
theorem I_lok.at {ls : Array Slot} {nL k : Nat} {L : I_L} {v : Value} (h : I_lok ls nL L) (hv : I_lv L k = some v) : ls[k]? = some (.val v) := h.2.2.2 (k, v) (I_al_mem.mpr hv)
theorem I_c2_cat {x : Value} (h : I_c2 (some x) = false) : ¬ x.category = 2 := by
  cases x <;> simp [I_c2] at h <;> simp [Value.category]
theorem I_lok_st1 {ls : Array Slot} {nL k : Nat} {L L' : I_L} {v : Value} (h : L.length = nL) (hs : I_st1 L k v = some L') (hl : lv_has ls nL ((k, v) :: (I_al L).filter (fun q => !(q.1 == k) && !(q.1 + 1 == k && q.2.category == 2)))) : I_lok ls nL L' := by
  unfold I_st1 at hs
  split at hs
  · rename_i hc
    cases hs
    refine ⟨by rw [List.length_set]; exact h, hl.1, hl.2.1, fun q hq => ?_⟩
    obtain ⟨j, w⟩ := q
    rw [I_al_mem, I_lv_iff] at hq
    apply hl.2.2
    by_cases hj : j = k
    · subst hj
      rw [List.getElem?_set_self hc.1] at hq
      cases hq
      exact List.mem_cons_self
    · rw [List.getElem?_set_ne (Ne.symm hj)] at hq
      refine List.mem_cons_of_mem _ (List.mem_filter.mpr ⟨I_al_mem.mpr (I_lv_iff.mpr hq), ?_⟩)
      simp only [Bool.and_eq_true, Bool.not_eq_true', beq_eq_false_iff_ne, ne_eq, Bool.and_eq_false_iff]
      refine ⟨hj, ?_⟩
      by_cases hjk : j + 1 = k
      · right
        subst hjk
        have h2 := hc.2
        simp only [I_prev, hq] at h2
        exact I_c2_cat h2
      · left; exact hjk
  · cases hs
theorem I_lok_st2 {ls : Array Slot} {nL k : Nat} {L L' : I_L} {v : Value} (h : L.length = nL) (hs : I_st2 L k v = some L') (hl : lv_has ls nL ((k, v) :: (I_al L).filter (fun q => !(q.1 == k) && (!(q.1 == k + 1) && !(q.1 + 1 == k && q.2.category == 2))))) : I_lok ls nL L' := by
  unfold I_st2 at hs
  split at hs
  · rename_i hc
    cases hs
    refine ⟨by rw [List.length_set, List.length_set]; exact h, hl.1, hl.2.1, fun q hq => ?_⟩
    obtain ⟨j, w⟩ := q
    rw [I_al_mem, I_lv_iff] at hq
    apply hl.2.2
    by_cases hj1 : j = k + 1
    · subst hj1
      rw [List.getElem?_set_self (by rw [List.length_set]; exact hc.1)] at hq
      cases hq
    · rw [List.getElem?_set_ne (Ne.symm hj1)] at hq
      by_cases hj : j = k
      · subst hj
        rw [List.getElem?_set_self (by omega)] at hq
        cases hq
        exact List.mem_cons_self
      · rw [List.getElem?_set_ne (Ne.symm hj)] at hq
        refine List.mem_cons_of_mem _ (List.mem_filter.mpr ⟨I_al_mem.mpr (I_lv_iff.mpr hq), ?_⟩)
        simp only [Bool.and_eq_true, Bool.not_eq_true', beq_eq_false_iff_ne, ne_eq, Bool.and_eq_false_iff]
        refine ⟨hj, hj1, ?_⟩
        by_cases hjk : j + 1 = k
        · right
          subst hjk
          have h2 := hc.2
          simp only [I_prev, hq] at h2
          exact I_c2_cat h2
        · left; exact hjk
  · cases hs
theorem I_st1_lt {L L' : I_L} {k : Nat} {v : Value} (hs : I_st1 L k v = some L') : k < L.length := by
  unfold I_st1 at hs
  split at hs
  · rename_i hc; exact hc.1
  · cases hs
theorem I_st2_lt {L L' : I_L} {k : Nat} {v : Value} (hs : I_st2 L k v = some L') : k + 1 < L.length := by
  unfold I_st2 at hs
  split at hs
  · rename_i hc; exact hc.1
  · cases hs
/-- what holds in a method's body -/
def I_cx (D : va_G) (T : Nat → ClassId) (X : I_X) (y : Nat) (p : Program) (s : State) (m : MethodId) (args : Array Value) (meth : Method) (c : Code) : Prop :=
  p.tables.exec = Jvm.exec ∧ c.code = I_code y ∧ c.maxLocals = I_maxL y ∧ s.vm.findClass (I_cn (I_own y)) = some m.cls ∧ (∀ w ∈ I_wl, w.before args s = true) ∧ va_K D vwCl (I_tys T) s ∧ (va_AO RX1 s ∧ va_AO RX0 s) ∧ (I_init y = true → meth.name = "<init>") ∧ (I_own y = 5 → va_X X.2.1 X.2.2.1 X.2.2.2 s s.heap ∧ X.2.1 < s.heap.size ∧ ¬ X.1 ≤ X.2.1)
def I_ok (D : va_G) (T : Nat → ClassId) (X : I_X) (s : State) (h : I_H) (H : Heap) (locs : List Loc) : Prop := va_P D vwCl (I_ws T X.1 h) H ∧ va_S (fun q => X.1 ≤ q) s.heap H locs ∧ X.1 ≤ h.1
theorem I_cel_some {X : I_X} {h : I_H} {a : Nat} {e : I_Ce} (hc : I_cel X h a = some e) : X.1 ≤ a ∧ a < h.1 ∧ h.2.2 a = e := by
  unfold I_cel at hc
  split at hc
  · rename_i h1; exact ⟨h1.1, h1.2, Option.some.inj hc⟩
  · cases hc
theorem I_at {D : va_G} {T : Nat → ClassId} {X : I_X} {s : State} {h : I_H} {H : Heap} {locs : List Loc} {a : Nat} {e : I_Ce} (_ : I_ok D T X s h H locs) (hc : I_cel X h a = some e) : (I_ws T X.1 h)[a - X.1]? = some (a, I_va T e) := by
  obtain ⟨h1, h2, h3⟩ := I_cel_some hc
  rw [← h3]
  exact I_ws_get h1 h2
theorem I_ok.put {D : va_G} {T : Nat → ClassId} {X : I_X} {s : State} {h : I_H} {H H1 : Heap} {locs locs1 : List Loc} {a : Nat} {e e1 : I_Ce} (ho : I_ok D T X s h H locs) (hc : I_cel X h a = some e) (hP : va_P D vwCl ((I_ws T X.1 h).set (a - X.1) (a, I_va T e1)) H1) (hS : va_S (fun q => X.1 ≤ q) s.heap H1 locs1) : I_ok D T X s (I_set h a e1) H1 locs1 := by
  obtain ⟨h1, h2, -⟩ := I_cel_some hc
  rw [I_ws_set h1 h2] at hP
  exact ⟨hP, hS, ho.2.2⟩
theorem I_arr_cel {X : I_X} {h : I_H} {a : Nat} {q : Nat × vp_A} (hc : I_arr X h a = some q) : I_cel X h a = some (.inl q) := by
  unfold I_arr at hc
  split at hc
  · rename_i q1 h1; rw [h1, Option.some.inj hc]
  · cases hc
theorem I_in_vp {i : Int32} {n : Nat} (h : I_in i n = true) : vp_in i n := by
  unfold I_in at h
  unfold vp_in
  simp only [Bool.not_eq_true', Bool.or_eq_false_iff, decide_eq_false_iff_not] at h
  rintro (q | q)
  · exact h.1 q
  · exact h.2 q
end
section
section STP
variable {p : Program} {l : Launch} {e : Env} {R : Room} {s : State} {m : MethodId} {args : Array Value} {below : List Frame} {meth : Method} {c : Code} {H : Heap} {locs : List Loc} {cells slots : Nat} {Q : State → Prop}
variable {D : va_G} {T : Nat → ClassId} {X : I_X} {y pc len : Nat} {L : I_L} {st : List Value} {h : I_H} {ls : Array Slot} {sl0 : Nat}
/-- where the walk goes on -/
def I_kk (p : Program) (l : Launch) (e : Env) (R : Room) (s : State) (m : MethodId) (args : Array Value) (below : List Frame) (meth : Method) (c : Code) (Q : State → Prop) (D : va_G) (T : Nat → ClassId) (X : I_X) (y sl0 : Nat) (k : I_C) : Prop :=
  ∀ (ls : Array Slot) (H : Heap) (locs : List Loc) (cells slots : Nat), I_lok ls (I_maxL y) k.2.1 → I_ok D T X s k.2.2.2 H locs → s.heap.size + cells = k.2.2.2.1 → sl0 + slots = k.2.2.2.2.1 → W p l e R s m args below meth c H locs cells slots Q (F0 m k.1 ls k.2.2.1)
theorem I_Wsize {g : JFrame} (k : H.size ≤ s.heap.size + cells → W p l e R s m args below meth c H locs cells slots Q g) : W p l e R s m args below meth c H locs cells slots Q g := by
  intro t hT hX
  have hz := hX.heapSize
  rw [hT] at hz
  exact k hz t hT hX
theorem I_jmp_some {pc : Nat} {off : Int} {k : I_C} (hs : I_jmp pc off L st h = some k) : ∃ t : Nat, (pc : Int) + off = (t : Int) ∧ k = (t, L, st, h) := by
  unfold I_jmp at hs
  split at hs
  · rename_i h0
    exact ⟨((pc : Int) + off).toNat, by omega, (Option.some.inj hs).symm⟩
  · cases hs
theorem I_hp_some {r : Option I_H} {pc : Nat} {k : I_C} (hs : I_hp r pc L st = some k) : ∃ h1, r = some h1 ∧ k = (pc, L, st, h1) := by
  unfold I_hp at hs
  cases r with
  | none => cases hs
  | some h1 => exact ⟨h1, rfl, (Option.some.inj hs).symm⟩
/-- branches -/
theorem I_br_sound {b : Prop} [Decidable b] {off : Int} {k : I_C} {st0 : List Value} (hs : I_br (decide b) pc off L st h = some k) (hL : I_lok ls (I_maxL y) L) (hok : I_ok D T X s h H locs) (hsz : s.heap.size + cells = h.1) (hsl : sl0 + slots = h.2.1)
    (kk : I_kk p l e R s m args below meth c Q D T X y sl0 k)
    (row : ∀ t : Nat, (pc : Int) + off = (t : Int) → (b → W p l e R s m args below meth c H locs cells slots Q (F0 m t ls st)) → (¬ b → W p l e R s m args below meth c H locs cells slots Q (F0 m (pc + 3) ls st)) → W p l e R s m args below meth c H locs cells slots Q (F0 m pc ls st0)) : W p l e R s m args below meth c H locs cells slots Q (F0 m pc ls st0) := by
  unfold I_br at hs
  split at hs
  · rename_i h0
    have ht : (pc : Int) + off = ((((pc : Int) + off).toNat : Nat) : Int) := by omega
    by_cases hb : b
    · rw [if_pos (by simpa using hb)] at hs
      cases hs
      exact row _ ht (fun _ => kk ls H locs cells slots hL hok hsz hsl) (fun hn => absurd hb hn)
    · rw [if_neg (by simpa using hb)] at hs
      cases hs
      exact row _ ht (fun hn => absurd hn hb) (fun _ => kk ls H locs cells slots hL hok hsz hsl)
  · cases hs
theorem I_fl_spec {o idx : Nat} {q : Nat × Nat} (hf : I_look I_fl o idx = some q) : q.1 < 4 ∧ q.2 < I_N q.1 ∧ Cond.fieldLink (I_cn o) idx (I_T q.1 q.2).1 (I_T q.1 q.2).2.1 (I_T q.1 q.2).2.2.1 ∈ I_wl := by
  obtain ⟨h1, h2, h3⟩ := f_fl _ (I_look_mem hf)
  exact ⟨h1, h2, f_in h3 rfl⟩
theorem I_get_sound {idx a : Nat} {k : I_C} (C : I_cx D T X y p s m args meth c) (hdec : decode (I_code y) pc = .ok (.getfield idx, 3)) (hs : I_step X y (.getfield idx) pc 3 L (.ref a :: st) h = some k) (hL : I_lok ls (I_maxL y) L) (hok : I_ok D T X s h H locs) (hsz : s.heap.size + cells = h.1) (hsl : sl0 + slots = h.2.1)
    (kk : I_kk p l e R s m args below meth c Q D T X y sl0 k) : W p l e R s m args below meth c H locs cells slots Q (F0 m pc ls (.ref a :: st)) := by
  obtain ⟨hx, hb, hml, hown, hts, hK, hAO, hin, hscr⟩ := C
  simp only [I_step] at hs
  split at hs
  · rename_i q hf
    obtain ⟨h1, h2, h3⟩ := I_fl_spec hf
    cases hg : I_getf X h a q.1 q.2 with
    | none => rw [hg] at hs; cases hs
    | some v =>
      rw [hg] at hs
      cases hs
      unfold I_getf at hg
      split at hg
      · rename_i o ho
        split at hg
        · rename_i hci
          obtain ⟨ci, fs⟩ := o
          simp only at hci hg
          subst hci
          have hat := I_at hok ho
          exact va_get (D := D) (C := I_cn q.1) (T := I_T q.1) (N := I_N q.1) hx hb hts (f_ws q.1 h1) hown hK hok.1 (a - X.1) hat (f_cl4 q.1 h1) q.2 h2 (hts _ h3) (fun _ z => z) hg hdec (kk ls H locs cells slots hL hok hsz hsl)
        · cases hg
      · cases hg
  · cases hs
theorem I_fit_int {o ci k : Nat} {ini : Bool} {x : Int32} (h1 : ci < 4) (h2 : k < I_N ci) (hf : I_fit o ci k ini (.int x) = true) : I_ty ci k = .int ∧ ((I_T ci k).2.2.2 = false ∨ ((I_T ci k).2.2.2 = true ∧ ini = true ∧ o = ci ∧ (I_T ci k).1 = I_cn ci)) := by
  by_cases h0 : I_fit 0 ci k false (.int x) = true
  · obtain ⟨a, b⟩ := f_fit ci h1 k h2 0 (by decide) x h0
    exact ⟨a, Or.inl b⟩
  · match ci, k with
    | 0, 0 =>
      simp [I_fit] at hf
      exact ⟨rfl, Or.inr ⟨rfl, hf.1, hf.2, rfl⟩⟩
    | 0, 1 => simp [I_fit] at hf
    | 0, 2 => simp [I_fit] at hf
    | 0, 3 => exact absurd rfl h0
    | 0, k + 4 => exact absurd (show k + 4 < 4 from h2) (by omega)
    | 1, 0 => simp [I_fit] at hf
    | 1, 1 => exact absurd rfl h0
    | 1, 2 => exact absurd rfl h0
    | 1, k + 3 => exact absurd (show k + 3 < 3 from h2) (by omega)
    | 2, 0 => simp [I_fit] at hf
    | 2, 1 => exact absurd rfl h0
    | 2, 2 => exact absurd rfl h0
    | 2, 3 => simp [I_fit] at hf
    | 2, 4 => exact absurd rfl h0
    | 2, 5 => simp [I_fit] at hf
    | 2, 6 => exact absurd rfl h0
    | 2, 7 => exact absurd rfl h0
    | 2, 8 => simp [I_fit] at hf
    | 2, 9 => exact absurd rfl h0
    | 2, k + 10 => exact absurd (show k + 10 < 10 from h2) (by omega)
    | 3, 0 => exact absurd rfl h0
    | 3, 1 => simp [I_fit] at hf
    | 3, 2 => simp [I_fit] at hf
    | 3, 3 => simp [I_fit] at hf
    | 3, 4 => exact absurd rfl h0
    | 3, 5 => simp [I_fit] at hf
    | 3, 6 => simp [I_fit] at hf
    | 3, 7 => simp [I_fit] at hf
    | 3, 8 => exact absurd rfl h0
    | 3, 9 => simp [I_fit] at hf
    | 3, 10 => exact absurd rfl h0
    | 3, 11 => simp [I_fit] at hf
    | 3, 12 => exact absurd rfl h0
    | 3, 13 => simp [I_fit] at hf
    | 3, 14 => simp [I_fit] at hf
    | 3, 15 => simp [I_fit] at hf
    | 3, 16 => simp [I_fit] at hf
    | 3, 17 => simp [I_fit] at hf
    | 3, 18 => exact absurd rfl h0
    | 3, 19 => exact absurd rfl h0
    | 3, 20 => exact absurd rfl h0
    | 3, k + 21 => exact absurd (show k + 21 < 21 from h2) (by omega)
    | ci + 4, k => omega
theorem f_ref : ∀ ci, ci < 4 → ∀ k, k < I_N ci → I_fit ci ci k true (.ref 0) = true → (I_T ci k).2.2.2 = true ∧ (I_T ci k).1 = I_cn ci ∧ fits (I_ty ci k) (.ref 0) = true := by decide +kernel
theorem f_ref2 : ∀ ci, ci < 4 → ∀ k, k < I_N ci → I_fit ci ci k true (.ref 0) = true → (match I_ty ci k with | .array _ => true | _ => false) = true := by decide +kernel
theorem I_fit_ref {o ci k a : Nat} {ini : Bool} (h1 : ci < 4) (h2 : k < I_N ci) (hf : I_fit o ci k ini (.ref a) = true) : ini = true ∧ o = ci ∧ (I_T ci k).2.2.2 = true ∧ (I_T ci k).1 = I_cn ci ∧ narrow (I_ty ci k) (.ref a) = .ref a ∧ fits (I_ty ci k) (.ref a) = true := by
  have hf2 : ini = true ∧ o = ci := by
    unfold I_fit at hf
    simp only [Bool.and_eq_true, beq_iff_eq] at hf
    exact hf.1
  obtain ⟨rfl, rfl⟩ := hf2
  have hf3 : I_fit o o k true (.ref 0) = true := hf
  obtain ⟨a1, a2, -⟩ := f_ref o h1 k h2 hf3
  have a4 := f_ref2 o h1 k h2 hf3
  refine ⟨rfl, rfl, a1, a2, ?_, ?_⟩
  · cases hty : I_ty o k <;> simp [hty] at a4 <;> rfl
  · cases hty : I_ty o k <;> simp [hty] at a4 <;> rfl
theorem I_put_sound {idx a : Nat} {v : Value} {k : I_C} (C : I_cx D T X y p s m args meth c) (hdec : decode (I_code y) pc = .ok (.putfield idx, 3)) (hs : I_step X y (.putfield idx) pc 3 L (v :: .ref a :: st) h = some k) (hL : I_lok ls (I_maxL y) L) (hok : I_ok D T X s h H locs) (hsz : s.heap.size + cells = h.1) (hsl : sl0 + slots = h.2.1)
    (kk : I_kk p l e R s m args below meth c Q D T X y sl0 k) : W p l e R s m args below meth c H locs cells slots Q (F0 m pc ls (v :: .ref a :: st)) := by
  obtain ⟨hx, hb, hml, hown, hts, hK, hAO, hin, hscr⟩ := C
  simp only [I_step] at hs
  split at hs
  · rename_i q hf
    obtain ⟨h1, h2, h3⟩ := I_fl_spec hf
    split at hs
    · rename_i hfit
      obtain ⟨hh, hg, rfl⟩ := I_hp_some hs
      unfold I_putf at hg
      split at hg
      · rename_i o ho
        split at hg
        · rename_i hci
          obtain ⟨ci, fs⟩ := o
          simp only at hci hg
          obtain ⟨hci, hlen⟩ := hci
          subst hci
          cases hg
          have hat := I_at hok ho
          have fin : ∀ (H1 : Heap) (locs1 : List Loc), va_P D vwCl ((I_ws T X.1 h).set (a - X.1) (a, .inr (q.1, fs.set q.2 v))) H1 → va_D (fun z => X.1 ≤ z) ((I_ws T X.1 h).set (a - X.1) (a, .inr (q.1, fs.set q.2 v))) → va_S (fun z => X.1 ≤ z) s.heap H1 locs1 → W p l e R s m args below meth c H1 locs1 cells slots Q (F0 m (pc + 3) ls st) := fun H1 locs1 hP _ hS => kk ls H1 locs1 cells slots hL (hok.put ho (e1 := .inr (q.1, fs.set q.2 v)) hP hS) hsz hsl
          cases v with
          | int x =>
            obtain ⟨t1, t2⟩ := I_fit_int h1 h2 hfit
            have hty := f_ty q.1 h1 q.2 h2
            rw [t1] at hty
            rcases t2 with t2 | ⟨t2, t3, t4, t5⟩
            · exact va_put (D := D) (C := I_cn q.1) (T := I_T q.1) (N := I_N q.1) hx hb hts (f_ws q.1 h1) (I_ty q.1) (f_ty q.1 h1) (f_nm q.1 h1) hown hK hok.1 I_ws_D hok.2.1 (a - X.1) hat (f_cl4 q.1 h1) q.2 h2 (hts _ h3) (fun _ z => z) t2 hty rfl rfl hlen hdec fin
            · exact va_putF (D := D) (C := I_cn q.1) (T := I_T q.1) (N := I_N q.1) hx hb hts (f_ws q.1 h1) (I_ty q.1) (f_ty q.1 h1) (f_nm q.1 h1) hown hK hok.1 I_ws_D hok.2.1 (a - X.1) hat (f_cl4 q.1 h1) q.2 h2 (hts _ h3) (fun _ z => z) t2 (hin t3) (by rw [t4]; exact t5) hty rfl rfl hlen hdec fin
          | ref b =>
            obtain ⟨t3, t4, t2, t5, t6, t7⟩ := I_fit_ref h1 h2 hfit
            exact va_putF (D := D) (C := I_cn q.1) (T := I_T q.1) (N := I_N q.1) hx hb hts (f_ws q.1 h1) (I_ty q.1) (f_ty q.1 h1) (f_nm q.1 h1) hown hK hok.1 I_ws_D hok.2.1 (a - X.1) hat (f_cl4 q.1 h1) q.2 h2 (hts _ h3) (fun _ z => z) t2 (hin t3) (by rw [t4]; exact t5) (f_ty q.1 h1 q.2 h2) t6 t7 hlen hdec fin
          | long x => simp [I_fit] at hfit
          | float x => simp [I_fit] at hfit
          | double x => simp [I_fit] at hfit
          | null => simp [I_fit] at hfit
          | retAddr x => simp [I_fit] at hfit
        · cases hg
      · cases hg
    · cases hs
  · cases hs
theorem I_arr_at {a : Nat} {q : Nat × vp_A} (hok : I_ok D T X s h H locs) (hc : I_arr X h a = some q) : (I_ws T X.1 h)[a - X.1]? = some (a, .inl (T q.1, q.2)) := I_at hok (I_arr_cel hc)
theorem I_aldi_sound0 {a : Nat} {i v : Int32} (C : I_cx D T X y p s m args meth c) (hdec : decode (I_code y) pc = .ok (.iaload, 1)) (hg : I_aldi X h 0 a i = some v) (hok : I_ok D T X s h H locs)
    (kk : W p l e R s m args below meth c H locs cells slots Q (F0 m (pc + 1) ls (.int v :: st))) : W p l e R s m args below meth c H locs cells slots Q (F0 m pc ls (.int i :: .ref a :: st)) := by
  obtain ⟨hx, hb, hml, hown, hts, hK, hAO, hin, hscr⟩ := C
  unfold I_aldi at hg
  split at hg
  · rename_i t' n f ha
    split at hg
    · rename_i hc
      obtain ⟨rfl, h2⟩ := hc
      cases hg
      exact va_iald hx hb hK hok.1 (a - X.1) 0 (I_arr_at hok ha) rfl (I_in_vp h2) hdec kk
    · cases hg
  · cases hg
theorem I_aldi_sound2 {a : Nat} {i v : Int32} (C : I_cx D T X y p s m args meth c) (hdec : decode (I_code y) pc = .ok (.baload, 1)) (hg : I_aldi X h 2 a i = some v) (hok : I_ok D T X s h H locs)
    (kk : W p l e R s m args below meth c H locs cells slots Q (F0 m (pc + 1) ls (.int v :: st))) : W p l e R s m args below meth c H locs cells slots Q (F0 m pc ls (.int i :: .ref a :: st)) := by
  obtain ⟨hx, hb, hml, hown, hts, hK, hAO, hin, hscr⟩ := C
  unfold I_aldi at hg
  split at hg
  · rename_i t' n f ha
    split at hg
    · rename_i hc
      obtain ⟨rfl, h2⟩ := hc
      cases hg
      exact va_zald hx hb hK hok.1 (a - X.1) 2 (I_arr_at hok ha) rfl (I_in_vp h2) hdec kk
    · cases hg
  · cases hg
theorem I_aldd_sound {a : Nat} {i : Int32} {v : UInt64} (C : I_cx D T X y p s m args meth c) (hdec : decode (I_code y) pc = .ok (.daload, 1)) (hg : I_aldd X h a i = some v) (hok : I_ok D T X s h H locs)
    (kk : W p l e R s m args below meth c H locs cells slots Q (F0 m (pc + 1) ls (.double v :: st))) : W p l e R s m args below meth c H locs cells slots Q (F0 m pc ls (.int i :: .ref a :: st)) := by
  obtain ⟨hx, hb, hml, hown, hts, hK, hAO, hin, hscr⟩ := C
  unfold I_aldd at hg
  split at hg
  · rename_i t' n f ha
    split at hg
    · rename_i hc
      obtain ⟨rfl, h2⟩ := hc
      cases hg
      exact va_dald hx hb hK hok.1 (a - X.1) 1 (I_arr_at hok ha) rfl (I_in_vp h2) hdec kk
    · cases hg
  · cases hg
theorem I_aldq_sound {a : Nat} {i : Int32} {v : Option Nat} (C : I_cx D T X y p s m args meth c) (hdec : decode (I_code y) pc = .ok (.aaload, 1)) (hg : I_aldq X h a i = some v) (hok : I_ok D T X s h H locs)
    (kk : W p l e R s m args below meth c H locs cells slots Q (F0 m (pc + 1) ls (va_rf v :: st))) : W p l e R s m args below meth c H locs cells slots Q (F0 m pc ls (.int i :: .ref a :: st)) := by
  obtain ⟨hx, hb, hml, hown, hts, hK, hAO, hin, hscr⟩ := C
  unfold I_aldq at hg
  split at hg
  · rename_i t' n f ha
    split at hg
    · rename_i hc
      obtain ⟨ht, h2⟩ := hc
      cases hg
      rcases ht with rfl | rfl
      · exact va_aldq (C := RX1) hx hb hK hok.1 (a - X.1) 3 (I_arr_at hok ha) rfl (I_in_vp h2) hdec kk
      · exact va_aldq (C := RX0) hx hb hK hok.1 (a - X.1) 4 (I_arr_at hok ha) rfl (I_in_vp h2) hdec kk
    · cases hg
  · cases hg
theorem I_asti_sound0 {a : Nat} {i v : Int32} {h1 : I_H} (C : I_cx D T X y p s m args meth c) (hdec : decode (I_code y) pc = .ok (.iastore, 1)) (hg : I_asti X h 0 a i v = some h1) (hok : I_ok D T X s h H locs)
    (kk : h1.1 = h.1 → h1.2.1 = h.2.1 → ∀ (H1 : Heap) (locs1 : List Loc), I_ok D T X s h1 H1 locs1 → W p l e R s m args below meth c H1 locs1 cells slots Q (F0 m (pc + 1) ls st)) : W p l e R s m args below meth c H locs cells slots Q (F0 m pc ls (.int v :: .int i :: .ref a :: st)) := by
  obtain ⟨hx, hb, hml, hown, hts, hK, hAO, hin, hscr⟩ := C
  unfold I_asti at hg
  split at hg
  · rename_i t' n f ha
    split at hg
    · rename_i hc
      obtain ⟨rfl, h2⟩ := hc
      cases hg
      exact va_iast hx hb hK hok.1 I_ws_D hok.2.1 (a - X.1) 0 (I_arr_at hok ha) rfl (I_in_vp h2) hdec (fun H1 locs1 hP _ hS => kk rfl rfl H1 locs1 (hok.put (I_arr_cel ha) (e1 := .inl (0, n, .inl (upd f i.toNatClampNeg v))) hP hS))
    · cases hg
  · cases hg
theorem I_asti_sound2 {a : Nat} {i v : Int32} {h1 : I_H} (C : I_cx D T X y p s m args meth c) (hdec : decode (I_code y) pc = .ok (.bastore, 1)) (hv : v = 0 ∨ v = 1) (hg : I_asti X h 2 a i v = some h1) (hok : I_ok D T X s h H locs)
    (kk : h1.1 = h.1 → h1.2.1 = h.2.1 → ∀ (H1 : Heap) (locs1 : List Loc), I_ok D T X s h1 H1 locs1 → W p l e R s m args below meth c H1 locs1 cells slots Q (F0 m (pc + 1) ls st)) : W p l e R s m args below meth c H locs cells slots Q (F0 m pc ls (.int v :: .int i :: .ref a :: st)) := by
  obtain ⟨hx, hb, hml, hown, hts, hK, hAO, hin, hscr⟩ := C
  have hn : vp_nar .boolean v = v := by rcases hv with rfl | rfl <;> decide
  unfold I_asti at hg
  split at hg
  · rename_i t' n f ha
    split at hg
    · rename_i hc
      obtain ⟨rfl, h2⟩ := hc
      cases hg
      refine va_zast hx hb hK hok.1 I_ws_D hok.2.1 (a - X.1) 2 (I_arr_at hok ha) rfl (I_in_vp h2) hdec (fun H1 locs1 hP _ hS => ?_)
      rw [hn] at hP
      exact kk rfl rfl H1 locs1 (hok.put (I_arr_cel ha) (e1 := .inl (2, n, .inl (upd f i.toNatClampNeg v))) hP hS)
    · cases hg
  · cases hg
theorem I_astd_sound {a : Nat} {i : Int32} {v : UInt64} {h1 : I_H} (C : I_cx D T X y p s m args meth c) (hdec : decode (I_code y) pc = .ok (.dastore, 1)) (hg : I_astd X h a i v = some h1) (hok : I_ok D T X s h H locs)
    (kk : h1.1 = h.1 → h1.2.1 = h.2.1 → ∀ (H1 : Heap) (locs1 : List Loc), I_ok D T X s h1 H1 locs1 → W p l e R s m args below meth c H1 locs1 cells slots Q (F0 m (pc + 1) ls st)) : W p l e R s m args below meth c H locs cells slots Q (F0 m pc ls (.double v :: .int i :: .ref a :: st)) := by
  obtain ⟨hx, hb, hml, hown, hts, hK, hAO, hin, hscr⟩ := C
  unfold I_astd at hg
  split at hg
  · rename_i t' n f ha
    split at hg
    · rename_i hc
      obtain ⟨rfl, h2⟩ := hc
      cases hg
      exact va_dast hx hb hK hok.1 I_ws_D hok.2.1 (a - X.1) 1 (I_arr_at hok ha) rfl (I_in_vp h2) hdec (fun H1 locs1 hP _ hS => kk rfl rfl H1 locs1 (hok.put (I_arr_cel ha) (e1 := .inl (1, n, .inr (.inr (.inr (.inl (vf_upd f i.toNatClampNeg v)))))) hP hS))
    · cases hg
  · cases hg
theorem I_isC_at {b ci : Nat} (hok : I_ok D T X s h H locs) (hc : I_isC X h b ci = true) : ∃ fs, (I_ws T X.1 h)[b - X.1]? = some (b, .inr (ci, fs)) := by
  unfold I_isC at hc
  split at hc
  · rename_i o ho
    obtain ⟨c1, fs⟩ := o
    simp only [beq_iff_eq] at hc
    subst hc
    exact ⟨fs, I_at hok ho⟩
  · cases hc
theorem I_astq_sound {a : Nat} {i : Int32} {v : Option Nat} {h1 : I_H} (C : I_cx D T X y p s m args meth c) (hdec : decode (I_code y) pc = .ok (.aastore, 1)) (hg : I_astq X h a i v = some h1) (hok : I_ok D T X s h H locs)
    (kk : h1.1 = h.1 → h1.2.1 = h.2.1 → ∀ (H1 : Heap) (locs1 : List Loc), I_ok D T X s h1 H1 locs1 → W p l e R s m args below meth c H1 locs1 cells slots Q (F0 m (pc + 1) ls st)) : W p l e R s m args below meth c H locs cells slots Q (F0 m pc ls (va_rf v :: .int i :: .ref a :: st)) := by
  obtain ⟨hx, hb, hml, hown, hts, hK, hAO, hin, hscr⟩ := C
  unfold I_astq at hg
  cases v with
  | none =>
    dsimp only at hg
    split at hg
    · rename_i t' n f ha
      split at hg
      · rename_i hc
        obtain ⟨ht, h2⟩ := hc
        cases hg
        have hat := I_arr_at hok ha
        rcases ht with ⟨rfl, -⟩ | ⟨rfl, -⟩
        · exact va_astqN (C := RX1) hx hb hK hok.1 I_ws_D hok.2.1 (a - X.1) 3 hat rfl (I_in_vp h2) hdec (fun H1 locs1 hP _ hS => kk rfl rfl H1 locs1 (hok.put (I_arr_cel ha) (e1 := .inl (3, n, .inr (.inr (.inr (.inr (va_up f i.toNatClampNeg none)))))) hP hS))
        · exact va_astqN (C := RX0) hx hb hK hok.1 I_ws_D hok.2.1 (a - X.1) 4 hat rfl (I_in_vp h2) hdec (fun H1 locs1 hP _ hS => kk rfl rfl H1 locs1 (hok.put (I_arr_cel ha) (e1 := .inl (4, n, .inr (.inr (.inr (.inr (va_up f i.toNatClampNeg none)))))) hP hS))
      · cases hg
    · cases hg
  | some b =>
    dsimp only at hg
    split at hg
    · rename_i t' n f ha
      split at hg
      · rename_i hc
        obtain ⟨ht, h2⟩ := hc
        cases hg
        have hat := I_arr_at hok ha
        rcases ht with ⟨rfl, hq⟩ | ⟨rfl, hq⟩
        · obtain ⟨fs, hbt⟩ := I_isC_at hok hq
          exact va_astq (r := (RX1, TX1, 3)) hx hb hK hok.1 I_ws_D hok.2.1 (a - X.1) 3 (b - X.1) 1 hat rfl hbt rfl (I_in_vp h2) hdec (fun H1 locs1 hP _ hS => kk rfl rfl H1 locs1 (hok.put (I_arr_cel ha) (e1 := .inl (3, n, .inr (.inr (.inr (.inr (va_up f i.toNatClampNeg (some b))))))) hP hS))
        · obtain ⟨fs, hbt⟩ := I_isC_at hok hq
          exact va_astq (r := (RX0, TX0, 4)) hx hb hK hok.1 I_ws_D hok.2.1 (a - X.1) 4 (b - X.1) 0 hat rfl hbt rfl (I_in_vp h2) hdec (fun H1 locs1 hP _ hS => kk rfl rfl H1 locs1 (hok.put (I_arr_cel ha) (e1 := .inl (4, n, .inr (.inr (.inr (.inr (va_up f i.toNatClampNeg (some b))))))) hP hS))
      · cases hg
    · cases hg
theorem I_alen_sound {a : Nat} {v : Int32} (C : I_cx D T X y p s m args meth c) (hdec : decode (I_code y) pc = .ok (.arraylength, 1)) (hg : I_alen X h a = some v) (hok : I_ok D T X s h H locs)
    (kk : W p l e R s m args below meth c H locs cells slots Q (F0 m (pc + 1) ls (.int v :: st))) : W p l e R s m args below meth c H locs cells slots Q (F0 m pc ls (.ref a :: st)) := by
  obtain ⟨hx, hb, hml, hown, hts, hK, hAO, hin, hscr⟩ := C
  unfold I_alen at hg
  split at hg
  · rename_i q ha
    split at hg
    · rename_i hc
      obtain ⟨t, n, x⟩ := q
      cases hg
      have hat := I_arr_at hok ha
      simp only at hc hat ⊢
      match t, hc with
      | 0, _ => exact va_alen hx hb hK hok.1 (a - X.1) 0 hat rfl rfl hdec kk
      | 1, _ => exact va_alen hx hb hK hok.1 (a - X.1) 1 hat rfl rfl hdec kk
      | 2, _ => exact va_alen hx hb hK hok.1 (a - X.1) 2 hat rfl rfl hdec kk
      | 3, _ => exact va_alen hx hb hK hok.1 (a - X.1) 3 hat rfl rfl hdec kk
      | 4, _ => exact va_alen hx hb hK hok.1 (a - X.1) 4 hat rfl rfl hdec kk
      | t + 5, hc => exact absurd hc (by omega)
    · cases hg
  · cases hg
theorem I_copy_sound {a a0 idx : Nat} {sp dp n : Int32} {h1 : I_H} (C : I_cx D T X y p s m args meth c) (hls : ls.size = I_maxL y) (hdec : decode (I_code y) pc = .ok (.invokestatic idx, 3)) (hk : I_look I_ml (I_own y) idx = some 1002) (hcat : I_cat st ≤ 8) (hfr : 1 ≤ R.frames ∧ 40 ≤ R.locals) (hg : I_copy X h a0 sp a dp n = some h1) (hok : I_ok D T X s h H locs)
    (kk : h1.1 = h.1 → h1.2.1 = h.2.1 → ∀ (H1 : Heap) (locs1 : List Loc), I_ok D T X s h1 H1 locs1 → W p l e R s m args below meth c H1 locs1 cells slots Q (F0 m (pc + 3) ls st)) : W p l e R s m args below meth c H locs cells slots Q (F0 m pc ls (.int n :: .int dp :: .ref a :: .int sp :: .ref a0 :: st)) := by
  obtain ⟨hx, hb, hml, hown, hts, hK, hAO, hin, hscr⟩ := C
  have hlink := hts _ (f_in (f_ml _ (I_look_mem hk)).2 rfl)
  have hloc : (st.map fun v => v.category).sum + (nativeFrameWords "java/lang/System" "arraycopy" 5 + 11) ≤ R.locals := by
    have e1 : ∀ l : List Value, (l.map fun v => v.category).sum = I_cat l := by
      intro l
      induction l with
      | nil => rfl
      | cons v l ih => simp only [List.map_cons, List.sum_cons, I_cat, ih]
    have e2 : nativeFrameWords "java/lang/System" "arraycopy" 5 = 7 := by decide
    rw [e1, e2]
    omega
  unfold I_copy at hg
  split at hg
  · rename_i t0 n0 f t1 n1 g ha0 ha
    split at hg
    · rename_i hc
      obtain ⟨rfl, rfl, c1, c2, c3, c4, c5⟩ := hc
      cases hg
      exact va_copyi hx hb (hml.trans hls.symm) hown hlink (hts _ (f_in f_o.2.2.1 rfl)) (hts _ (f_in f_o.2.2.2.1 rfl)) (hts _ (f_in f_o.2.2.2.2.1 rfl)) hK hok.1 I_ws_D hok.2.1 (a0 - X.1) (a - X.1) 0 0 (I_arr_at hok ha0) (I_arr_at hok ha) rfl rfl rfl c1 c2 c3 c4 c5 (fun _ _ => rfl) hfr.1 hloc hdec (fun H1 locs1 hP _ hS => kk rfl rfl H1 locs1 (hok.put (I_arr_cel ha) (e1 := .inl (0, n1, .inl (va_cpy f g sp.toNatClampNeg dp.toNatClampNeg n.toNatClampNeg))) hP hS))
    · cases hg
  · rename_i t0 n0 f t1 n1 g ha0 ha
    split at hg
    · rename_i hc
      obtain ⟨rfl, rfl, c1, c2, c3, c4, c5⟩ := hc
      cases hg
      exact va_copyd hx hb (hml.trans hls.symm) hown hlink (hts _ (f_in f_o.2.2.1 rfl)) (hts _ (f_in f_o.2.2.2.1 rfl)) (hts _ (f_in f_o.2.2.2.2.1 rfl)) hK hok.1 I_ws_D hok.2.1 (a0 - X.1) (a - X.1) 1 1 (I_arr_at hok ha0) (I_arr_at hok ha) rfl rfl rfl c1 c2 c3 c4 c5 (fun _ _ => rfl) hfr.1 hloc hdec (fun H1 locs1 hP _ hS => kk rfl rfl H1 locs1 (hok.put (I_arr_cel ha) (e1 := .inl (1, n1, .inr (.inr (.inr (.inl (va_cpy f g sp.toNatClampNeg dp.toNatClampNeg n.toNatClampNeg)))))) hP hS))
    · cases hg
  · cases hg
end STP
end
section
section STQ
variable {p : Program} {l : Launch} {e : Env} {R : Room} {s : State} {m : MethodId} {args : Array Value} {below : List Frame} {meth : Method} {c : Code} {H : Heap} {locs : List Loc} {cells slots : Nat} {Q : State → Prop}
variable {D : va_G} {T : Nat → ClassId} {X : I_X} {y pc len : Nat} {L : I_L} {st : List Value} {h : I_H} {ls : Array Slot} {sl0 : Nat}
theorem I_mk_spec {n : Int32} (h : I_mk n = true) : ¬ n < 0 ∧ n.toNatClampNeg ≤ 20000 := by
  unfold I_mk at h
  simp only [Bool.and_eq_true, Bool.not_eq_true', decide_eq_false_iff_not, decide_eq_true_eq] at h
  exact h
theorem I_ent_push {q N : Nat} {H1 : Heap} {e1 : I_Ce} {g : JFrame → JFrame} {pc' : Nat} (hok : I_ok D T X s h H locs) (hsz : s.heap.size + cells = h.1) (hsl : sl0 + slots = h.2.1) (hL : I_lok ls (I_maxL y) L) (hP : va_P D vwCl (I_ws T X.1 h ++ [(q, I_va T e1)]) H1) (hD : va_D (fun z => X.1 ≤ z) (I_ws T X.1 h ++ [(q, I_va T e1)])) (hS : va_S (fun z => X.1 ≤ z) s.heap H1 locs)
    (kk : I_kk p l e R s m args below meth c Q D T X y sl0 (pc', L, va_rf (some h.1) :: st, I_new h N e1)) : W p l e R s m args below meth c H1 locs (cells + 1) (slots + N) Q (F0 m pc' ls (.ref q :: st)) := by
  refine I_Wsize fun hz => ?_
  obtain ⟨rfl, hP1⟩ := I_ws_app (n := N) hok.2.2 hP hD (by omega)
  refine kk ls H1 locs (cells + 1) (slots + N) hL ⟨hP1, hS, ?_⟩ ?_ ?_
  · show X.1 ≤ h.1 + 1
    exact Nat.le_succ_of_le hok.2.2
  · show s.heap.size + (cells + 1) = h.1 + 1
    omega
  · show sl0 + (slots + N) = h.2.1 + N
    omega
theorem I_newa_sound {tt : ArrayType} {n : Int32} {e1 : I_Ce} (C : I_cx D T X y p s m args meth c) (hlo : X.1 ≤ s.heap.size) (hdec : decode (I_code y) pc = .ok (.newarray tt, 2)) (hm : I_mk n = true) (he : I_newa tt n.toNatClampNeg = some e1) (hL : I_lok ls (I_maxL y) L) (hok : I_ok D T X s h H locs) (hsz : s.heap.size + cells = h.1) (hsl : sl0 + slots = h.2.1) (hr : h.1 + 1 ≤ s.heap.size + R.cells ∧ h.2.1 + n.toNatClampNeg ≤ sl0 + R.slots)
    (kk : I_kk p l e R s m args below meth c Q D T X y sl0 (pc + 2, L, va_rf (some h.1) :: st, I_new h n.toNatClampNeg e1)) : W p l e R s m args below meth c H locs cells slots Q (F0 m pc ls (.int n :: st)) := by
  obtain ⟨hx, hb, hml, hown, hts, hK, hAO, hin, hscr⟩ := C
  obtain ⟨hn, hN⟩ := I_mk_spec hm
  have hA : ∀ q : Nat, s.heap.size ≤ q → X.1 ≤ q := fun q hq => Nat.le_trans hlo hq
  unfold I_newa at he
  split at he
  · cases he
    refine va_newa (atype := .int) (ty := .int) (a0 := (n.toNatClampNeg, .inl (fun _ => 0))) hx hb (hts _ (f_in f_a.1 rfl)) rfl hK hok.1 I_ws_D hok.2.1 hA (fun _ => rfl) hn rfl ?_ (by omega) (by omega) hdec (fun q cA H1 hK1 hP hD hS => ?_)
    · have e2 : componentBytes .int ≤ 16 := by decide
      exact Nat.le_trans (Nat.mul_le_mul hN e2) (by decide)
    · have h1 := (hK1.2 5 (cA, .int) rfl).2
      have h2 := (hK.2 0 (T 0, .int) rfl).2
      have e3 : cA = T 0 := Option.some.inj (Eq.trans (Eq.symm (show s.vm.findClass ("[" ++ (FieldType.int).toString) = some cA from h1)) (show s.vm.findClass ("[" ++ (FieldType.int).toString) = some (T 0) from h2))
      subst e3
      exact I_ent_push (g := id) (e1 := .inl (0, n.toNatClampNeg, .inl (fun _ => 0))) hok hsz hsl hL hP hD hS kk
  · cases he
    refine va_newa (atype := .double) (ty := .double) (a0 := (n.toNatClampNeg, .inr (.inr (.inr (.inl (fun _ => 0)))))) hx hb (hts _ (f_in f_a.2.1 rfl)) rfl hK hok.1 I_ws_D hok.2.1 hA (fun _ => rfl) hn rfl ?_ (by omega) (by omega) hdec (fun q cA H1 hK1 hP hD hS => ?_)
    · have e2 : componentBytes .double ≤ 16 := by decide
      exact Nat.le_trans (Nat.mul_le_mul hN e2) (by decide)
    · have h1 := (hK1.2 5 (cA, .double) rfl).2
      have h2 := (hK.2 1 (T 1, .double) rfl).2
      have e3 : cA = T 1 := Option.some.inj (Eq.trans (Eq.symm (show s.vm.findClass ("[" ++ (FieldType.double).toString) = some cA from h1)) (show s.vm.findClass ("[" ++ (FieldType.double).toString) = some (T 1) from h2))
      subst e3
      exact I_ent_push (g := id) (e1 := .inl (1, n.toNatClampNeg, .inr (.inr (.inr (.inl (fun _ => 0)))))) hok hsz hsl hL hP hD hS kk
  · cases he
    refine va_newa (atype := .boolean) (ty := .boolean) (a0 := (n.toNatClampNeg, .inl (fun _ => 0))) hx hb (hts _ (f_in f_a.2.2.1 rfl)) rfl hK hok.1 I_ws_D hok.2.1 hA (fun _ => rfl) hn rfl ?_ (by omega) (by omega) hdec (fun q cA H1 hK1 hP hD hS => ?_)
    · have e2 : componentBytes .boolean ≤ 16 := by decide
      exact Nat.le_trans (Nat.mul_le_mul hN e2) (by decide)
    · have h1 := (hK1.2 5 (cA, .boolean) rfl).2
      have h2 := (hK.2 2 (T 2, .boolean) rfl).2
      have e3 : cA = T 2 := Option.some.inj (Eq.trans (Eq.symm (show s.vm.findClass ("[" ++ (FieldType.boolean).toString) = some cA from h1)) (show s.vm.findClass ("[" ++ (FieldType.boolean).toString) = some (T 2) from h2))
      subst e3
      exact I_ent_push (g := id) (e1 := .inl (2, n.toNatClampNeg, .inl (fun _ => 0))) hok hsz hsl hL hP hD hS kk
  · cases he
theorem I_newq_sound {idx t ci : Nat} {n : Int32} (C : I_cx D T X y p s m args meth c) (hlo : X.1 ≤ s.heap.size) (hdec : decode (I_code y) pc = .ok (.anewarray idx, 3)) (hm : I_mk n = true) (hk : I_look I_ck (I_own y) idx = some ci) (hti : (t = 3 ∧ ci = 1) ∨ (t = 4 ∧ ci = 0)) (hL : I_lok ls (I_maxL y) L) (hok : I_ok D T X s h H locs) (hsz : s.heap.size + cells = h.1) (hsl : sl0 + slots = h.2.1) (hr : h.1 + 1 ≤ s.heap.size + R.cells ∧ h.2.1 + n.toNatClampNeg ≤ sl0 + R.slots)
    (kk : I_kk p l e R s m args below meth c Q D T X y sl0 (pc + 3, L, va_rf (some h.1) :: st, I_new h n.toNatClampNeg (.inl (t, n.toNatClampNeg, .inr (.inr (.inr (.inr (fun _ => none)))))))) : W p l e R s m args below meth c H locs cells slots Q (F0 m pc ls (.int n :: st)) := by
  obtain ⟨hx, hb, hml, hown, hts, hK, hAO, hin, hscr⟩ := C
  obtain ⟨hn, hN⟩ := I_mk_spec hm
  have hA : ∀ q : Nat, s.heap.size ≤ q → X.1 ≤ q := fun q hq => Nat.le_trans hlo hq
  have hcl := hts _ (f_in (f_ck _ (I_look_mem hk)) rfl)
  rcases hti with ⟨rfl, rfl⟩ | ⟨rfl, rfl⟩
  · refine va_newq (C := RX1) hx hb hown hcl hAO.1 hK hok.1 I_ws_D hok.2.1 hA hn rfl (by omega) (by omega) (by omega) hdec (fun q cA H1 hK1 hP hD hS => ?_)
    obtain ⟨-, -, -, -, -, h1⟩ := (hK1.2 5 (cA, .object RX1) rfl).2
    obtain ⟨-, -, -, -, -, h2⟩ := (hK.2 3 (T 3, .object RX1) rfl).2
    have e3 : cA = T 3 := Option.some.inj (h1.symm.trans h2)
    subst e3
    exact I_ent_push (g := id) (e1 := .inl (3, n.toNatClampNeg, .inr (.inr (.inr (.inr (fun _ => none)))))) hok hsz hsl hL hP hD hS kk
  · refine va_newq (C := RX0) hx hb hown hcl hAO.2 hK hok.1 I_ws_D hok.2.1 hA hn rfl (by omega) (by omega) (by omega) hdec (fun q cA H1 hK1 hP hD hS => ?_)
    obtain ⟨-, -, -, -, -, h1⟩ := (hK1.2 5 (cA, .object RX0) rfl).2
    obtain ⟨-, -, -, -, -, h2⟩ := (hK.2 4 (T 4, .object RX0) rfl).2
    have e3 : cA = T 4 := Option.some.inj (h1.symm.trans h2)
    subst e3
    exact I_ent_push (g := id) (e1 := .inl (4, n.toNatClampNeg, .inr (.inr (.inr (.inr (fun _ => none)))))) hok hsz hsl hL hP hD hS kk
theorem I_new_sound {idx ci : Nat} (C : I_cx D T X y p s m args meth c) (hlo : X.1 ≤ s.heap.size) (hdec : decode (I_code y) pc = .ok (.new idx, 3)) (hk : I_look I_ck (I_own y) idx = some ci) (hci : ci < 4) (hL : I_lok ls (I_maxL y) L) (hok : I_ok D T X s h H locs) (hsz : s.heap.size + cells = h.1) (hsl : sl0 + slots = h.2.1) (hr : h.1 + 1 ≤ s.heap.size + R.cells ∧ h.2.1 + I_N ci ≤ sl0 + R.slots)
    (kk : I_kk p l e R s m args below meth c Q D T X y sl0 (pc + 3, L, va_rf (some h.1) :: st, I_new h (I_N ci) (.inr (ci, I_def ci)))) : W p l e R s m args below meth c H locs cells slots Q (F0 m pc ls st) := by
  obtain ⟨hx, hb, hml, hown, hts, hK, hAO, hin, hscr⟩ := C
  have hA : ∀ q : Nat, s.heap.size ≤ q → X.1 ≤ q := fun q hq => Nat.le_trans hlo hq
  refine va_new (C := I_cn ci) (T := I_T ci) (N := I_N ci) (fs := I_def ci) hx hb hts (f_ws ci hci) (I_ty ci) (f_ty ci hci) hown (hts _ (f_in (f_ck _ (I_look_mem hk)) rfl)) (hts _ (f_in (f_inst ci hci).1 rfl)) (hts _ (f_in (f_inst ci hci).2 rfl)) hK hok.1 I_ws_D hok.2.1 hA (f_cl4 ci hci) (f_def ci hci) (by omega) (by omega) hdec (fun q H1 hP hD hS => ?_)
  exact I_ent_push (g := id) (e1 := .inr (ci, I_def ci)) hok hsz hsl hL hP hD hS kk
theorem I_cat_sum : ∀ l : List Value, (l.map fun v => v.category).sum = I_cat l := by
  intro l
  induction l with
  | nil => rfl
  | cons v l ih => simp only [List.map_cons, List.sum_cons, I_cat, ih]
theorem I_cat1_cat {v : Value} (h : I_cat1 v = true) : v.category = 1 := by
  cases v <;> simp [I_cat1] at h <;> rfl
theorem I_rv_some {v : Value} {r : Option Nat} (h : I_rv v = some r) : v = va_rf r := by
  cases v <;> simp [I_rv] at h <;> subst h <;> rfl
theorem I_nan_n64 {r : UInt64} (h : I_nan r = true) : vf_n64 r := of_decide_eq_true (p := r &&& 0x7fffffffffffffff ≤ 0x7ff0000000000000) h
set_option maxHeartbeats 4000000 in
theorem I_step_sound {i : Instr} {k : I_C} (C : I_cx D T X y p s m args meth c) (hlo : X.1 ≤ s.heap.size) (hfr : 1 ≤ R.frames ∧ 40 ≤ R.locals) (hdec : decode (I_code y) pc = .ok (i, len)) (hlk : I_lk i len = true) (hs : I_step X y i pc len L st h = some k) (hL : I_lok ls (I_maxL y) L) (hok : I_ok D T X s h H locs) (hsz : s.heap.size + cells = h.1) (hsl : sl0 + slots = h.2.1) (hr : k.2.2.2.1 ≤ s.heap.size + R.cells ∧ k.2.2.2.2.1 ≤ sl0 + R.slots ∧ cells ≤ R.cells ∧ slots ≤ R.slots)
    (kk : I_kk p l e R s m args below meth c Q D T X y sl0 k) : W p l e R s m args below meth c H locs cells slots Q (F0 m pc ls st) := by
  have C1 := C
  obtain ⟨hx, hb, hml, hown, hts, hK, hAO, hin, hscr⟩ := C
  cases i
  all_goals first
    | (simp only [I_step] at hs; done)
    | skip
  all_goals try (simp only [I_lk, beq_iff_eq] at hlk; subst hlk)
  case iconst n => cases hs; exact lv_iconst hx hb hdec rfl (kk ls H locs cells slots hL hok hsz hsl)
  case bipush n => cases hs; exact lv_bipush hx hb hdec rfl (kk ls H locs cells slots hL hok hsz hsl)
  case sipush n => cases hs; exact lv_sipush hx hb hdec rfl (kk ls H locs cells slots hL hok hsz hsl)
  case dconst n =>
    simp only [I_step] at hs
    split at hs
    · rename_i h0
      subst h0
      cases hs
      exact lv_dconst0 hx hb hdec (kk ls H locs cells slots hL hok hsz hsl)
    · cases hs
  case aconst_null => cases hs; exact lv_null hx hb hdec (kk ls H locs cells slots hL hok hsz hsl)
  case ldc idx =>
    simp only [I_step] at hs
    cases hv : I_look I_ci (I_own y) idx with
    | none => rw [hv] at hs; cases hs
    | some v =>
      rw [hv] at hs
      cases hs
      exact lv_ldc hx hb hown (hts _ (f_in (f_ci _ (I_look_mem hv)) rfl)) hdec (kk ls H locs cells slots hL hok hsz hsl)
  case ldc2_w idx =>
    simp only [I_step] at hs
    split at hs
    · rename_i v hv
      cases hs
      exact lv_ldc2d hx hb hown (hts _ (f_in (f_cd _ (I_look_mem hv)) rfl)) hdec (kk ls H locs cells slots hL hok hsz hsl)
    · cases hv : I_look I_cl (I_own y) idx with
      | none => rw [hv] at hs; cases hs
      | some v =>
        rw [hv] at hs
        cases hs
        exact lv_ldc2 hx hb hown (hts _ (f_in (f_cl _ (I_look_mem hv)) rfl)) hdec (kk ls H locs cells slots hL hok hsz hsl)
  case iload k =>
    simp only [I_step, I_ldi] at hs
    split at hs
    · rename_i x hv
      cases hs
      exact lv_iload hx hb hdec (hL.at hv) (kk ls H locs cells slots hL hok hsz hsl)
    · cases hs
  case iload_n k =>
    simp only [I_step, I_ldi] at hs
    split at hs
    · rename_i x hv
      cases hs
      exact lv_iload_n hx hb hdec rfl (hL.at hv) (kk ls H locs cells slots hL hok hsz hsl)
    · cases hs
  case dload k =>
    simp only [I_step, I_ldd] at hs
    split at hs
    · rename_i x hv
      cases hs
      exact lv_dload hx hb hdec (hL.at hv) (kk ls H locs cells slots hL hok hsz hsl)
    · cases hs
  case dload_n k =>
    simp only [I_step, I_ldd] at hs
    split at hs
    · rename_i x hv
      cases hs
      exact lv_dload_n hx hb hdec rfl (hL.at hv) (kk ls H locs cells slots hL hok hsz hsl)
    · cases hs
  case aload k =>
    simp only [I_step, I_lda] at hs
    split at hs
    · rename_i x hv
      cases hs
      exact lv_aload hx hb hdec (hL.at hv) (kk ls H locs cells slots hL hok hsz hsl)
    · rename_i hv
      cases hs
      exact lv_aloadN hx hb hdec (hL.at hv) (kk ls H locs cells slots hL hok hsz hsl)
    · cases hs
  case aload_n k =>
    simp only [I_step, I_lda] at hs
    split at hs
    · rename_i x hv
      cases hs
      exact lv_aload_n hx hb hdec rfl (hL.at hv) (kk ls H locs cells slots hL hok hsz hsl)
    · rename_i hv
      cases hs
      exact lv_aload_nN hx hb hdec rfl (hL.at hv) (kk ls H locs cells slots hL hok hsz hsl)
    · cases hs
  case istore k =>
    simp only [I_step, I_sti] at hs
    split at hs
    · rename_i x st1
      cases hv : I_st1 L k (.int x) with
      | none => rw [hv] at hs; cases hs
      | some L1 =>
        rw [hv] at hs
        cases hs
        exact lv_istore hx hb hdec hL.2 (by rw [← hL.1]; exact I_st1_lt hv) rfl (fun ls1 hl1 => kk ls1 H locs cells slots (I_lok_st1 hL.1 hv hl1) hok hsz hsl)
    · cases hs
  case dstore k =>
    simp only [I_step, I_std] at hs
    split at hs
    · rename_i x st1
      cases hv : I_st2 L k (.double x) with
      | none => rw [hv] at hs; cases hs
      | some L1 =>
        rw [hv] at hs
        cases hs
        exact lv_dstore hx hb hdec hL.2 (by rw [← hL.1]; exact I_st2_lt hv) rfl (fun ls1 hl1 => kk ls1 H locs cells slots (I_lok_st2 hL.1 hv hl1) hok hsz hsl)
    · cases hs
  case astore k =>
    simp only [I_step, I_sta] at hs
    split at hs
    · rename_i x st1
      cases hv : I_st1 L k (.ref x) with
      | none => rw [hv] at hs; cases hs
      | some L1 =>
        rw [hv] at hs
        cases hs
        exact lv_astore hx hb hdec hL.2 (by rw [← hL.1]; exact I_st1_lt hv) rfl (fun ls1 hl1 => kk ls1 H locs cells slots (I_lok_st1 hL.1 hv hl1) hok hsz hsl)
    · rename_i st1
      cases hv : I_st1 L k (.null) with
      | none => rw [hv] at hs; cases hs
      | some L1 =>
        rw [hv] at hs
        cases hs
        exact lv_astoreN hx hb hdec hL.2 (by rw [← hL.1]; exact I_st1_lt hv) rfl (fun ls1 hl1 => kk ls1 H locs cells slots (I_lok_st1 hL.1 hv hl1) hok hsz hsl)
    · cases hs
  case istore_n k =>
    simp only [I_step, I_sti] at hs
    split at hs
    · rename_i x st1
      cases hv : I_st1 L k.val (.int x) with
      | none => rw [hv] at hs; cases hs
      | some L1 =>
        rw [hv] at hs
        cases hs
        exact lv_istore_n hx hb hdec rfl hL.2 (by rw [← hL.1]; exact I_st1_lt hv) rfl (fun ls1 hl1 => kk ls1 H locs cells slots (I_lok_st1 hL.1 hv hl1) hok hsz hsl)
    · cases hs
  case dstore_n k =>
    simp only [I_step, I_std] at hs
    split at hs
    · rename_i x st1
      cases hv : I_st2 L k.val (.double x) with
      | none => rw [hv] at hs; cases hs
      | some L1 =>
        rw [hv] at hs
        cases hs
        exact lv_dstore_n hx hb hdec rfl hL.2 (by rw [← hL.1]; exact I_st2_lt hv) rfl (fun ls1 hl1 => kk ls1 H locs cells slots (I_lok_st2 hL.1 hv hl1) hok hsz hsl)
    · cases hs
  case astore_n k =>
    simp only [I_step, I_sta] at hs
    split at hs
    · rename_i x st1
      cases hv : I_st1 L k.val (.ref x) with
      | none => rw [hv] at hs; cases hs
      | some L1 =>
        rw [hv] at hs
        cases hs
        exact lv_astore_n hx hb hdec rfl hL.2 (by rw [← hL.1]; exact I_st1_lt hv) rfl (fun ls1 hl1 => kk ls1 H locs cells slots (I_lok_st1 hL.1 hv hl1) hok hsz hsl)
    · rename_i st1
      cases hv : I_st1 L k.val (.null) with
      | none => rw [hv] at hs; cases hs
      | some L1 =>
        rw [hv] at hs
        cases hs
        exact lv_astore_nN hx hb hdec rfl hL.2 (by rw [← hL.1]; exact I_st1_lt hv) rfl (fun ls1 hl1 => kk ls1 H locs cells slots (I_lok_st1 hL.1 hv hl1) hok hsz hsl)
    · cases hs
  case iinc k n =>
    simp only [I_step] at hs
    split at hs
    · rename_i x hv
      cases hv1 : I_st1 L k (.int (x + Int32.ofInt n)) with
      | none => rw [hv1] at hs; cases hs
      | some L1 =>
        rw [hv1] at hs
        cases hs
        obtain ⟨j, hj⟩ := List.getElem?_of_mem (I_al_mem.mpr hv)
        exact lv_iinc hx hb hdec hL.2 hj rfl (by rw [← hL.1]; exact I_st1_lt hv1) rfl (fun ls1 hl1 => kk ls1 H locs cells slots (I_lok_st1 hL.1 hv1 hl1) hok hsz hsl)
    · cases hs
  case iadd =>
    simp only [I_step, I_b2] at hs
    split at hs
    · cases hs
      exact lv_iadd hx hb hdec (kk ls H locs cells slots hL hok hsz hsl)
    · cases hs
  case isub =>
    simp only [I_step, I_b2] at hs
    split at hs
    · cases hs
      exact lv_isub hx hb hdec (kk ls H locs cells slots hL hok hsz hsl)
    · cases hs
  case imul =>
    simp only [I_step, I_b2] at hs
    split at hs
    · cases hs
      exact lv_imul hx hb hdec (kk ls H locs cells slots hL hok hsz hsl)
    · cases hs
  case iand =>
    simp only [I_step, I_b2] at hs
    split at hs
    · cases hs
      exact lv_iand hx hb hdec (kk ls H locs cells slots hL hok hsz hsl)
    · cases hs
  case ior =>
    simp only [I_step, I_b2] at hs
    split at hs
    · cases hs
      exact lv_ior hx hb hdec (kk ls H locs cells slots hL hok hsz hsl)
    · cases hs
  case ishl =>
    simp only [I_step, I_b2] at hs
    split at hs
    · cases hs
      exact lv_ishl hx hb hdec (kk ls H locs cells slots hL hok hsz hsl)
    · cases hs
  case idiv =>
    simp only [I_step] at hs
    split at hs
    · split at hs
      · cases hs
      · rename_i hne
        cases hs
        exact lv_idiv hx hb hdec hne (kk ls H locs cells slots hL hok hsz hsl)
    · cases hs
  case irem =>
    simp only [I_step] at hs
    split at hs
    · split at hs
      · cases hs
      · rename_i hne
        cases hs
        exact lv_irem hx hb hdec hne (kk ls H locs cells slots hL hok hsz hsl)
    · cases hs
  case i2l =>
    simp only [I_step] at hs
    split at hs
    · cases hs
      exact lv_i2l hx hb hdec rfl (kk ls H locs cells slots hL hok hsz hsl)
    · cases hs
  case ladd =>
    simp only [I_step] at hs
    split at hs
    · cases hs
      exact lv_ladd hx hb hdec (kk ls H locs cells slots hL hok hsz hsl)
    · cases hs
  case lcmp =>
    simp only [I_step] at hs
    split at hs
    · cases hs
      exact W.lcmp hx hb hdec (kk ls H locs cells slots hL hok hsz hsl)
    · cases hs
  case i2d =>
    simp only [I_step] at hs
    split at hs
    · cases hs
      exact lv_i2d hx hb hdec (kk ls H locs cells slots hL hok hsz hsl)
    · cases hs
  case d2i =>
    simp only [I_step] at hs
    split at hs
    · cases hs
      exact lv_d2i hx hb hdec (kk ls H locs cells slots hL hok hsz hsl)
    · cases hs
  case dcmp op =>
    simp only [I_step] at hs
    split at hs
    · cases hs
      exact lv_dcmp hx hb hdec (kk ls H locs cells slots hL hok hsz hsl)
    · cases hs
  case dadd =>
    simp only [I_step, I_d2] at hs
    split at hs
    · split at hs
      · rename_i hn
        cases hs
        exact lv_dadd hx hb hdec (I_nan_n64 hn) (kk ls H locs cells slots hL hok hsz hsl)
      · cases hs
    · cases hs
  case dmul =>
    simp only [I_step, I_d2] at hs
    split at hs
    · split at hs
      · rename_i hn
        cases hs
        exact lv_dmul hx hb hdec (I_nan_n64 hn) (kk ls H locs cells slots hL hok hsz hsl)
      · cases hs
    · cases hs
  case ddiv =>
    simp only [I_step, I_d2] at hs
    split at hs
    · split at hs
      · rename_i hn
        cases hs
        exact lv_ddiv hx hb hdec (I_nan_n64 hn) (kk ls H locs cells slots hL hok hsz hsl)
      · cases hs
    · cases hs
  case ifCond cc off =>
    cases cc <;> simp only [I_step, I_if] at hs <;> split at hs
    all_goals first
      | (cases hs; done)
      | exact I_br_sound hs hL hok hsz hsl kk (fun t ht => lv_if_eq hx hb hdec ht)
      | exact I_br_sound hs hL hok hsz hsl kk (fun t ht => lv_if_ne hx hb hdec ht)
      | exact I_br_sound hs hL hok hsz hsl kk (fun t ht => lv_if_lt hx hb hdec ht)
      | exact I_br_sound hs hL hok hsz hsl kk (fun t ht => lv_if_ge hx hb hdec ht)
      | exact I_br_sound hs hL hok hsz hsl kk (fun t ht => lv_if_gt hx hb hdec ht)
      | exact I_br_sound hs hL hok hsz hsl kk (fun t ht => lv_if_le hx hb hdec ht)
      | exact I_br_sound hs hL hok hsz hsl kk (fun t ht kt kf => lv_if_ne hx hb hdec ht kt (fun q => kf (fun z => z q)))
  case if_icmp cc off =>
    cases cc <;> simp only [I_step, I_icmp] at hs <;> split at hs
    all_goals first
      | (cases hs; done)
      | exact I_br_sound hs hL hok hsz hsl kk (fun t ht => lv_icmp_eq hx hb hdec ht)
      | exact I_br_sound hs hL hok hsz hsl kk (fun t ht => lv_icmp_lt hx hb hdec ht)
      | exact I_br_sound hs hL hok hsz hsl kk (fun t ht => lv_icmp_ge hx hb hdec ht)
      | exact I_br_sound hs hL hok hsz hsl kk (fun t ht => lv_icmp_gt hx hb hdec ht)
      | exact I_br_sound hs hL hok hsz hsl kk (fun t ht => lv_icmp_le hx hb hdec ht)
      | exact I_br_sound hs hL hok hsz hsl kk (fun t ht kt kf => lv_icmp_ne hx hb hdec ht kt (fun q => kf (fun z => z q)))
  case if_acmp cc off =>
    cases cc <;> simp only [I_step, I_acmp] at hs <;> split at hs
    all_goals first
      | (cases hs; done)
      | skip
    all_goals split at hs
    all_goals first
      | (cases hs; done)
      | skip
    · rename_i v u st1 ry rx hy hu
      obtain rfl := I_rv_some hy
      obtain rfl := I_rv_some hu
      have e1 : (if rx = ry then true else !true) = decide (rx = ry) := by by_cases q : rx = ry <;> simp [q]
      rw [e1] at hs
      exact I_br_sound hs hL hok hsz hsl kk (fun t ht => lv_acmp_eq hx hb hdec ht)
    · rename_i v u st1 ry rx hy hu
      obtain rfl := I_rv_some hy
      obtain rfl := I_rv_some hu
      have e1 : (if rx = ry then false else !false) = decide (¬ rx = ry) := by by_cases q : rx = ry <;> simp [q]
      rw [e1] at hs
      exact I_br_sound hs hL hok hsz hsl kk (fun t ht kt kf => lv_acmp_ne hx hb hdec ht kt (fun q => kf (fun z => z q)))
  case ifnull off =>
    simp only [I_step, I_isnull] at hs
    split at hs
    · have hs2 : I_br (decide False) pc off L _ h = some k := hs
      exact I_br_sound hs2 hL hok hsz hsl kk (fun t ht kt kf => lv_ifnull hx hb hdec (kf (fun z => z)))
    · have hs2 : I_br (decide True) pc off L _ h = some k := hs
      exact I_br_sound hs2 hL hok hsz hsl kk (fun t ht kt kf => lv_ifnullN hx hb hdec ht (kt trivial))
    · cases hs
  case ifnonnull off =>
    simp only [I_step, I_isnull] at hs
    split at hs
    · have hs2 : I_br (decide True) pc off L _ h = some k := hs
      exact I_br_sound hs2 hL hok hsz hsl kk (fun t ht kt kf => lv_ifnonnull hx hb hdec ht (kt trivial))
    · have hs2 : I_br (decide False) pc off L _ h = some k := hs
      exact I_br_sound hs2 hL hok hsz hsl kk (fun t ht kt kf => lv_ifnonnullN hx hb hdec (kf (fun z => z)))
    · cases hs
  case goto off =>
    simp only [I_step] at hs
    obtain ⟨t, ht, rfl⟩ := I_jmp_some hs
    exact lv_goto hx hb hdec ht (kk ls H locs cells slots hL hok hsz hsl)
  case tableswitch dflt lo hi offs =>
    simp only [I_step] at hs
    split at hs
    · split at hs
      · rename_i hc
        obtain ⟨t, ht, rfl⟩ := I_jmp_some hs
        exact lv_tableOut hx hb hdec hc ht (kk ls H locs cells slots hL hok hsz hsl)
      · rename_i hc
        split at hs
        · rename_i off ho
          obtain ⟨t, ht, rfl⟩ := I_jmp_some hs
          exact lv_tableIn hx hb hdec (fun z => hc (Or.inl z)) (fun z => hc (Or.inr z)) ho ht (kk ls H locs cells slots hL hok hsz hsl)
        · cases hs
    · cases hs
  case lookupswitch dflt ps =>
    simp only [I_step] at hs
    split at hs
    · split at hs
      · rename_i hc
        obtain ⟨t, ht, rfl⟩ := I_jmp_some hs
        exact lv_lookup hx hb hdec hc rfl ht (kk ls H locs cells slots hL hok hsz hsl)
      · cases hs
    · cases hs
  case dup =>
    simp only [I_step] at hs
    split at hs
    · split at hs
      · rename_i hc
        cases hs
        exact lv_dup hx hb hdec (I_cat1_cat hc) (kk ls H locs cells slots hL hok hsz hsl)
      · cases hs
    · cases hs
  case dup2 =>
    simp only [I_step] at hs
    split at hs
    · split at hs
      · rename_i hc
        cases hs
        exact lv_dup2_11 hx hb hdec (I_cat1_cat hc.1) (I_cat1_cat hc.2) (kk ls H locs cells slots hL hok hsz hsl)
      · cases hs
    · cases hs
  case getfield idx =>
    have hs0 := hs
    simp only [I_step] at hs
    split at hs
    · exact I_get_sound C1 hdec hs0 hL hok hsz hsl kk
    · cases hs
  case putfield idx =>
    have hs0 := hs
    simp only [I_step] at hs
    split at hs
    · exact I_put_sound C1 hdec hs0 hL hok hsz hsl kk
    · cases hs
  case iaload =>
    simp only [I_step] at hs
    split at hs
    · rename_i i a st1
      split at hs
      · rename_i ho
        cases hv : I_sld X a i with
        | none => rw [hv] at hs; cases hs
        | some v =>
          rw [hv] at hs
          cases hs
          unfold I_sld at hv
          split at hv
          · rename_i hc
            obtain ⟨rfl, h2⟩ := hc
            cases hv
            obtain ⟨q1, q2, q3⟩ := hscr ho
            exact va_sld hx hb q1 q2 q3 hok.2.1 (I_in_vp h2) hdec (kk ls H locs cells slots hL hok hsz hsl)
          · cases hv
      · cases hv : I_aldi X h 0 a i with
        | none => rw [hv] at hs; cases hs
        | some v =>
          rw [hv] at hs
          cases hs
          exact I_aldi_sound0 C1 hdec hv hok (kk ls H locs cells slots hL hok hsz hsl)
    · cases hs
  case baload =>
    simp only [I_step] at hs
    split at hs
    · rename_i i a st1
      cases hv : I_aldi X h 2 a i with
      | none => rw [hv] at hs; cases hs
      | some v =>
        rw [hv] at hs
        cases hs
        exact I_aldi_sound2 C1 hdec hv hok (kk ls H locs cells slots hL hok hsz hsl)
    · cases hs
  case daload =>
    simp only [I_step] at hs
    split at hs
    · rename_i i a st1
      cases hv : I_aldd X h a i with
      | none => rw [hv] at hs; cases hs
      | some v =>
        rw [hv] at hs
        cases hs
        exact I_aldd_sound C1 hdec hv hok (kk ls H locs cells slots hL hok hsz hsl)
    · cases hs
  case aaload =>
    simp only [I_step] at hs
    split at hs
    · rename_i i a st1
      cases hv : I_aldq X h a i with
      | none => rw [hv] at hs; cases hs
      | some v =>
        rw [hv] at hs
        cases hs
        exact I_aldq_sound C1 hdec hv hok (kk ls H locs cells slots hL hok hsz hsl)
    · cases hs
  case iastore =>
    simp only [I_step] at hs
    split at hs
    · obtain ⟨h1, hg, rfl⟩ := I_hp_some hs
      exact I_asti_sound0 C1 hdec hg hok (fun e1 e2 H1 locs1 hok1 => kk ls H1 locs1 cells slots hL hok1 (by rw [hsz]; exact e1.symm) (by rw [hsl]; exact e2.symm))
    · cases hs
  case bastore =>
    simp only [I_step] at hs
    split at hs
    · split at hs
      · rename_i hv
        obtain ⟨h1, hg, rfl⟩ := I_hp_some hs
        exact I_asti_sound2 C1 hdec hv hg hok (fun e1 e2 H1 locs1 hok1 => kk ls H1 locs1 cells slots hL hok1 (by rw [hsz]; exact e1.symm) (by rw [hsl]; exact e2.symm))
      · cases hs
    · cases hs
  case dastore =>
    simp only [I_step] at hs
    split at hs
    · obtain ⟨h1, hg, rfl⟩ := I_hp_some hs
      exact I_astd_sound C1 hdec hg hok (fun e1 e2 H1 locs1 hok1 => kk ls H1 locs1 cells slots hL hok1 (by rw [hsz]; exact e1.symm) (by rw [hsl]; exact e2.symm))
    · cases hs
  case aastore =>
    simp only [I_step] at hs
    split at hs
    · split at hs
      · rename_i r hv
        obtain ⟨h1, hg, rfl⟩ := I_hp_some hs
        obtain rfl := I_rv_some hv
        exact I_astq_sound C1 hdec hg hok (fun e1 e2 H1 locs1 hok1 => kk ls H1 locs1 cells slots hL hok1 (by rw [hsz]; exact e1.symm) (by rw [hsl]; exact e2.symm))
      · cases hs
    · cases hs
  case arraylength =>
    simp only [I_step] at hs
    split at hs
    · rename_i a st1
      split at hs
      · rename_i ho
        cases hv : I_slen X a with
        | none => rw [hv] at hs; cases hs
        | some v =>
          rw [hv] at hs
          cases hs
          unfold I_slen at hv
          split at hv
          · rename_i hc
            subst hc
            cases hv
            obtain ⟨q1, q2, q3⟩ := hscr ho
            exact va_slen hx hb q1 q2 q3 hok.2.1 hdec (kk ls H locs cells slots hL hok hsz hsl)
          · cases hv
      · cases hv : I_alen X h a with
        | none => rw [hv] at hs; cases hs
        | some v =>
          rw [hv] at hs
          cases hs
          exact I_alen_sound C1 hdec hv hok (kk ls H locs cells slots hL hok hsz hsl)
    · cases hs
  case newarray t =>
    simp only [I_step] at hs
    split at hs
    · rename_i n st1
      split at hs
      · rename_i hm
        cases hv : I_newa t n.toNatClampNeg with
        | none => rw [hv] at hs; cases hs
        | some e1 =>
          rw [hv] at hs
          cases hs
          exact I_newa_sound C1 hlo hdec hm hv hL hok hsz hsl ⟨hr.1, hr.2.1⟩ kk
      · cases hs
    · cases hs
  case anewarray idx =>
    simp only [I_step] at hs
    split at hs
    · split at hs
      · rename_i hm
        split at hs
        · rename_i hk
          cases hs
          exact I_newq_sound C1 hlo hdec hm hk (Or.inr ⟨rfl, rfl⟩) hL hok hsz hsl ⟨hr.1, hr.2.1⟩ kk
        · rename_i hk
          cases hs
          exact I_newq_sound C1 hlo hdec hm hk (Or.inl ⟨rfl, rfl⟩) hL hok hsz hsl ⟨hr.1, hr.2.1⟩ kk
        · cases hs
      · cases hs
    · cases hs
  case new idx =>
    simp only [I_step] at hs
    split at hs
    · rename_i ci hk
      split at hs
      · rename_i hci
        cases hs
        exact I_new_sound C1 hlo hdec hk hci hL hok hsz hsl ⟨hr.1, hr.2.1⟩ kk
      · cases hs
    · cases hs
  case invokespecial idx =>
    simp only [I_step] at hs
    split at hs
    · rename_i hc
      split at hs
      · rename_i a st1
        cases hs
        have hcat := hc.2
        simp only [I_cat, Value.category] at hcat
        refine W.objInit hx hb hown (hts _ (f_in (f_ml _ (I_look_mem hc.1)).2 rfl)) (hts _ (f_in f_o.1 rfl)) (hts _ (f_in f_o.2.1 rfl)) rfl (by rw [hml]; exact hL.2.1) rfl hdec hfr.1 ?_ (kk ls H locs cells slots hL hok hsz hsl)
        rw [I_cat_sum]
        show 2 * 0 + I_cat st1 + 12 ≤ R.locals
        omega
      · cases hs
    · cases hs
  case invokestatic idx =>
    simp only [I_step] at hs
    split at hs
    · rename_i hcat
      split at hs
      · rename_i n dp a sp a0 st1 hk
        obtain ⟨h1, hg, rfl⟩ := I_hp_some hs
        simp only [I_cat, Value.category] at hcat
        exact I_copy_sound C1 hL.2.1 hdec hk (by omega) hfr hg hok (fun e1 e2 H1 locs1 hok1 => kk ls H1 locs1 cells slots hL hok1 (by rw [hsz]; exact e1.symm) (by rw [hsl]; exact e2.symm))
      · rename_i b st1 hk
        split at hs
        · rename_i hv
          cases hs
          simp only [I_cat, Value.category] at hcat
          exact vn_l2d hx hb (hml.trans hL.2.1.symm) hown (hts _ (f_in (f_ml _ (I_look_mem hk)).2 rfl)) (hts _ (f_in f_o.2.2.2.2.2.1 rfl)) (hts _ (f_in f_o.2.2.2.2.2.2.1 rfl)) (hts _ (f_in f_o.2.2.2.2.2.2.2.1 rfl)) hv hfr.1 (by rw [I_cat_sum]; omega) hdec (kk ls H locs cells slots hL hok hsz hsl)
        · cases hs
      · rename_i yy xx st1 hk
        cases hs
        simp only [I_cat, Value.category] at hcat
        exact va_mmax hx hb (hml.trans hL.2.1.symm) hown (hts _ (f_in (f_ml _ (I_look_mem hk)).2 rfl)) (hts _ (f_in f_o.2.2.2.2.2.2.2.2.1 rfl)) (hts _ (f_in f_o.2.2.2.2.2.2.2.2.2.1 rfl)) (hts _ (f_in f_o.2.2.2.2.2.2.2.2.2.2 rfl)) hfr.1 (by rw [I_cat_sum]; omega) hr.2.2.1 hr.2.2.2 hdec (kk ls H locs cells slots hL hok hsz hsl)
      · cases hs
    · cases hs
  all_goals (cases hs)
end STQ
end
section
/-! A run of the interpreter is a run of the machine. -/
theorem I_putf_sz {X : I_X} {h h1 : I_H} {a ci k : Nat} {v : Value} (hg : I_putf X h a ci k v = some h1) : h1.1 = h.1 ∧ h1.2.1 = h.2.1 := by
  unfold I_putf at hg
  repeat' split at hg
  all_goals first | (cases hg; exact ⟨rfl, rfl⟩) | cases hg
theorem I_asti_sz {X : I_X} {h h1 : I_H} {t a : Nat} {i v : Int32} (hg : I_asti X h t a i v = some h1) : h1.1 = h.1 ∧ h1.2.1 = h.2.1 := by
  unfold I_asti at hg
  repeat' split at hg
  all_goals first | (cases hg; exact ⟨rfl, rfl⟩) | cases hg
theorem I_astd_sz {X : I_X} {h h1 : I_H} {a : Nat} {i : Int32} {v : UInt64} (hg : I_astd X h a i v = some h1) : h1.1 = h.1 ∧ h1.2.1 = h.2.1 := by
  unfold I_astd at hg
  repeat' split at hg
  all_goals first | (cases hg; exact ⟨rfl, rfl⟩) | cases hg
theorem I_astq_sz {X : I_X} {h h1 : I_H} {a : Nat} {i : Int32} {v : Option Nat} (hg : I_astq X h a i v = some h1) : h1.1 = h.1 ∧ h1.2.1 = h.2.1 := by
  unfold I_astq at hg
  cases v <;> dsimp only at hg <;> split at hg
  · split at hg
    · cases hg; exact ⟨rfl, rfl⟩
    · cases hg
  · cases hg
  · split at hg
    · cases hg; exact ⟨rfl, rfl⟩
    · cases hg
  · cases hg
theorem I_copy_sz {X : I_X} {h h1 : I_H} {a0 a : Nat} {sp dp n : Int32} (hg : I_copy X h a0 sp a dp n = some h1) : h1.1 = h.1 ∧ h1.2.1 = h.2.1 := by
  unfold I_copy at hg
  repeat' split at hg
  all_goals first | (cases hg; exact ⟨rfl, rfl⟩) | cases hg
theorem I_sz_le {h h1 : I_H} (e : h1.1 = h.1 ∧ h1.2.1 = h.2.1) : h.1 ≤ h1.1 ∧ h.2.1 ≤ h1.2.1 := ⟨Nat.le_of_eq e.1.symm, Nat.le_of_eq e.2.symm⟩
set_option maxHeartbeats 4000000 in
theorem I_step_grow {X : I_X} {y pc len : Nat} {i : Instr} {L : I_L} {st : List Value} {h : I_H} {k : I_C} (hs : I_step X y i pc len L st h = some k) : h.1 ≤ k.2.2.2.1 ∧ h.2.1 ≤ k.2.2.2.2.1 := by
  cases i
  case ifCond cc off => cases cc <;> (simp only [I_step, I_if, I_br] at hs; repeat' split at hs) <;> first | (cases hs; exact ⟨Nat.le_refl _, Nat.le_refl _⟩) | cases hs
  case if_icmp cc off => cases cc <;> (simp only [I_step, I_icmp, I_br] at hs; repeat' split at hs) <;> first | (cases hs; exact ⟨Nat.le_refl _, Nat.le_refl _⟩) | cases hs
  case if_acmp cc off => cases cc <;> (simp only [I_step, I_acmp, I_br] at hs; repeat' split at hs) <;> first | (cases hs; exact ⟨Nat.le_refl _, Nat.le_refl _⟩) | cases hs
  all_goals first
    | (cases hs; done)
    | (cases hs; exact ⟨Nat.le_refl _, Nat.le_refl _⟩)
    | skip
  all_goals (simp only [I_step, I_b2, I_d2, I_isnull, I_ldi, I_ldd, I_lda, I_sti, I_sta, I_std, I_br, I_jmp, I_hp] at hs)
  all_goals (repeat' split at hs)
  all_goals first
    | (cases hs; exact ⟨Nat.le_refl _, Nat.le_refl _⟩)
    | (cases hs; exact ⟨Nat.le_succ _, Nat.le_add_right _ _⟩)
    | (cases hs; done)
    | (obtain ⟨a, ha, rfl⟩ := Option.map_eq_some_iff.mp hs; exact ⟨Nat.le_refl _, Nat.le_refl _⟩)
    | (obtain ⟨a, ha, rfl⟩ := Option.map_eq_some_iff.mp hs; exact ⟨Nat.le_succ _, Nat.le_add_right _ _⟩)
    | (obtain ⟨a, ha, rfl⟩ := Option.map_eq_some_iff.mp hs; exact I_sz_le (I_putf_sz ha))
    | (obtain ⟨a, ha, rfl⟩ := Option.map_eq_some_iff.mp hs; exact I_sz_le (I_asti_sz ha))
    | (obtain ⟨a, ha, rfl⟩ := Option.map_eq_some_iff.mp hs; exact I_sz_le (I_astd_sz ha))
    | (obtain ⟨a, ha, rfl⟩ := Option.map_eq_some_iff.mp hs; exact I_sz_le (I_astq_sz ha))
    | (obtain ⟨a, ha, rfl⟩ := Option.map_eq_some_iff.mp hs; exact I_sz_le (I_copy_sz ha))
theorem I_run_grow {X : I_X} : ∀ (n d y pc : Nat) (L : I_L) (st : List Value) (h : I_H) (r : I_R), I_run n X d y pc L st h = some r → h.1 ≤ r.2.1 ∧ h.2.1 ≤ r.2.2.1 := by
  intro n
  induction n with
  | zero => intro d y pc L st h r e; simp [I_run] at e
  | succ n ih =>
    intro d y pc L st h r e
    rw [I_run] at e
    split at e
    · cases e
    · rename_i i len hdec
      split at e
      · split at e
        · rename_i q hq
          cases d with
          | zero => cases e
          | succ d' =>
            simp only at e
            split at e
            · cases h1 : I_run n X d' q.1 0 (I_ent q.2.1 (I_maxL q.1)) [] h with
              | none => rw [h1] at e; simp at e
              | some r1 =>
                rw [h1] at e
                simp only [Option.bind_some] at e
                have a1 := ih _ _ _ _ _ _ _ h1
                have a2 := ih _ _ _ _ _ _ _ e
                exact ⟨Nat.le_trans a1.1 a2.1, Nat.le_trans a1.2 a2.2⟩
            · cases e
        · split at e
          · cases e; exact ⟨Nat.le_refl _, Nat.le_refl _⟩
          · cases h1 : I_step X y i pc len L st h with
            | none => rw [h1] at e; simp at e
            | some k =>
              rw [h1] at e
              simp only [Option.bind_some] at e
              have a1 := I_step_grow h1
              have a2 := ih _ _ _ _ _ _ _ e
              exact ⟨Nat.le_trans a1.1 a2.1, Nat.le_trans a1.2 a2.2⟩
      · cases e
def I_Pc (D : va_G) (T : Nat → ClassId) (X : I_X) (vs : List Value) (h : I_H) : Array Value → State → Prop := va_Pc vs (fun U => va_P D vwCl (I_ws T X.1 h) U.heap ∧ va_K D vwCl (I_tys T) U ∧ (va_AO RX1 U ∧ va_AO RX0 U) ∧ U.heap.size = h.1 ∧ X.1 ≤ h.1)
def I_Qc (D : va_G) (T : Nat → ClassId) (X : I_X) (r : Option Value) (h : I_H) : Array Value → State → Outcome → State → Prop := fun _ st o t => o = .returned r ∧ va_P D vwCl (I_ws T X.1 h) t.heap ∧ va_F (fun q => X.1 ≤ q) st t ∧ t.heap.size = h.1
theorem I_Pc_blind {D : va_G} {T : Nat → ClassId} {X : I_X} {vs : List Value} {h : I_H} : FrameBlind (I_Pc D T X vs h) := by
  intro a U g mk q
  obtain ⟨q0, q1, q2, q3, q4, q5⟩ := q
  exact ⟨q0, q1, va_K.moved (u := U) (U := U.calling g mk a) (Vm.Alike.refl U.vm) q2, ⟨va_AO.moved (u := U) (U := U.calling g mk a) (Vm.Alike.refl U.vm) q3.1, va_AO.moved (u := U) (U := U.calling g mk a) (Vm.Alike.refl U.vm) q3.2⟩, q4, q5⟩
theorem I_size_eq {D : va_G} {T : Nat → ClassId} {X : I_X} {s : State} {h : I_H} {H : Heap} {locs : List Loc} {cells : Nat} (hok : I_ok D T X s h H locs) (hlo : X.1 ≤ s.heap.size) (hsz : s.heap.size + cells = h.1) (hz : H.size ≤ s.heap.size + cells) : H.size = h.1 := by
  have h1 := hok.2.1.1
  have h2 := hok.2.2
  rcases Nat.lt_or_ge X.1 h.1 with hlt | hge
  · have e1 := I_ws_get (T := T) (lo := X.1) (a := h.1 - 1) (h := h) (by omega) (by omega)
    have e2 : h.1 - 1 < H.size := (hok.1 _ _ e1).lt
    omega
  · omega
theorem I_GoodIn (t : Nat) (ht : t < 113) : GoodIn I_wl (Cond.code (I_name t) (I_code t) (I_maxL t) (I_ret t) :: I_wl) := by
  intro w hw
  rcases List.mem_cons.mp hw with rfl | hw
  · exact ⟨f_in (f_code t ht) rfl, Or.inl rfl⟩
  · exact ⟨hw, (f_good w hw).2⟩
theorem I_slots_at {vs : List Value} : ∀ {k : Nat} {v : Value}, (I_slots vs)[k]? = some (some v) → (lg_sl vs)[k]? = some (.val v) := by
  induction vs with
  | nil => intro k v h; simp [I_slots] at h
  | cons x vs ih =>
    intro k v h
    by_cases hx : x.category = 2
    · have e1 : I_slots (x :: vs) = some x :: none :: I_slots vs := by simp [I_slots, hx]
      have e2 : lg_sl (x :: vs) = .val x :: .second :: lg_sl vs := by simp [lg_sl, hx]
      rw [e1] at h
      rw [e2]
      match k, h with
      | 0, h => simp at h; simp [h]
      | 1, h => simp at h
      | k + 2, h => simp at h ⊢; exact ih h
    · have e1 : I_slots (x :: vs) = some x :: I_slots vs := by simp [I_slots, hx]
      have e2 : lg_sl (x :: vs) = .val x :: lg_sl vs := by simp [lg_sl, hx]
      rw [e1] at h
      rw [e2]
      match k, h with
      | 0, h => simp at h; simp [h]
      | k + 1, h => simp at h ⊢; exact ih h
theorem I_slots_len (vs : List Value) : (lg_sl vs).length = (I_slots vs).length := by
  induction vs with
  | nil => rfl
  | cons x vs ih =>
    by_cases hx : x.category = 2
    · have e1 : I_slots (x :: vs) = some x :: none :: I_slots vs := by simp [I_slots, hx]
      have e2 : lg_sl (x :: vs) = .val x :: .second :: lg_sl vs := by simp [lg_sl, hx]
      rw [e1, e2]; simp [ih]
    · have e1 : I_slots (x :: vs) = some x :: I_slots vs := by simp [I_slots, hx]
      have e2 : lg_sl (x :: vs) = .val x :: lg_sl vs := by simp [lg_sl, hx]
      rw [e1, e2]; simp [ih]
theorem I_ent_ok {vs : List Value} {n : Nat} (hl : (I_slots vs).length ≤ n) : I_lok ((lg_sl vs ++ List.replicate (n - (lg_sl vs).length) Slot.unset).toArray) n (I_ent vs n) := by
  have h0 := lv_entry vs (n := n) (by rw [I_slots_len]; exact hl)
  refine ⟨by simp [I_ent]; omega, h0.1, h0.2.1, fun q hq => ?_⟩
  obtain ⟨k, v⟩ := q
  rw [I_al_mem, I_lv_iff] at hq
  unfold I_ent at hq
  by_cases hk : k < (I_slots vs).length
  · rw [List.getElem?_append_left hk] at hq
    have h2 := I_slots_at hq
    show ((lg_sl vs ++ List.replicate (n - (lg_sl vs).length) Slot.unset).toArray)[k]? = some (.val v)
    rw [List.getElem?_toArray, List.getElem?_append_left (by rw [I_slots_len]; exact hk)]
    exact h2
  · rw [List.getElem?_append_right (by omega)] at hq
    have := List.mem_of_getElem? hq
    rw [List.mem_replicate] at this
    cases this.2
section RUN
variable {p : Program} {l : Launch} {e : Env} {R : Room} {s : State} {m : MethodId} {args : Array Value} {below : List Frame} {meth : Method} {c : Code} {H : Heap} {locs : List Loc} {cells slots : Nat} {Q : State → Prop}
variable {D : va_G} {T : Nat → ClassId} {X : I_X} {y pc len : Nat} {L : I_L} {st : List Value} {h : I_H} {ls : Array Slot} {sl0 : Nat}
theorem I_callR {mc ms : Nat} {st0 rest : List Value} {r : Option Value} {h1 : I_H} {a : Array Value} (hr : va_Run p l e R s m args below meth c H locs cells slots mc ms (F0 m pc ls st0) rest (I_Qc D T X r h1 a) (fun q => X.1 ≤ q)) (hok : I_ok D T X s h H locs) (hlo : X.1 ≤ h1.1)
    (kk : ∀ (H1 : Heap) (locs1 : List Loc), I_ok D T X s h1 H1 locs1 → W p l e R s m args below meth c H1 locs1 (cells + mc) (slots + ms) Q (F0 m (pc + 3) ls (r.toList ++ rest))) : W p l e R s m args below meth c H locs cells slots Q (F0 m pc ls st0) := by
  intro U hU hX
  obtain ⟨v, st₀, t, U', LL, h0, X', hLL, e1, e2, ⟨hv, hP, ⟨hz, hk⟩, hsz⟩, stp⟩ := hr U hU hX
  cases hv
  rw [h0] at hz hk
  have hS := hok.2.1
  obtain ⟨t2, a1, b1⟩ := kk U'.heap (locs ++ LL) ⟨by rw [e1]; exact hP, ⟨Nat.le_trans hS.1 (by rw [e1]; exact hz), fun q q1 q2 => by rw [e1, hk q (Nat.lt_of_lt_of_le q1 hS.1) q2]; exact hS.2.1 q q1 q2, fun q hq => by
      rcases List.mem_append.mp hq with z | z
      · exact hS.2.2 q z
      · exact hLL q z⟩, hlo⟩ U' rfl X'
  exact ⟨t2, stp t2 a1, b1⟩
def I_end (p : Program) (l : Launch) (e : Env) (R : Room) (s : State) (m : MethodId) (args : Array Value) (below : List Frame) (meth : Method) (c : Code) (Q : State → Prop) (D : va_G) (T : Nat → ClassId) (X : I_X) (y sl0 : Nat) (r : I_R) : Prop :=
  ∀ (pc len : Nat) (i : Instr) (st : List Value) (ls : Array Slot) (H : Heap) (locs : List Loc) (cells slots : Nat), decode (I_code y) pc = .ok (i, len) → I_lk i len = true → I_back y i st = some r.1 → I_ok D T X s r.2 H locs → s.heap.size + cells = r.2.1 → sl0 + slots = r.2.2.1 → W p l e R s m args below meth c H locs cells slots Q (F0 m pc ls st)
/-- what a run of n steps says -/
def I_snd (n : Nat) (D : va_G) (T : Nat → ClassId) (X : I_X) : Prop := ∀ (d y pc : Nat) (L : I_L) (st : List Value) (h : I_H) (r : I_R), I_run n X d y pc L st h = some r →
  ∀ {p : Program} {l : Launch} {e : Env} {R : Room} {s : State} {m : MethodId} {args : Array Value} {below : List Frame} {meth : Method} {c : Code} {H : Heap} {locs : List Loc} {cells slots : Nat} {Q : State → Prop} {ls : Array Slot} {sl0 : Nat}, I_cx D T X y p s m args meth c → X.1 ≤ s.heap.size → d + 1 ≤ R.frames → 40 * (d + 1) ≤ R.locals → I_lok ls (I_maxL y) L → I_ok D T X s h H locs → s.heap.size + cells = h.1 → sl0 + slots = h.2.1 → r.2.1 ≤ s.heap.size + R.cells → r.2.2.1 ≤ sl0 + R.slots → I_end p l e R s m args below meth c Q D T X y sl0 r → W p l e R s m args below meth c H locs cells slots Q (F0 m pc ls st)
theorem I_back_end {rv : Option Value} {h1 : I_H} (C : I_cx D T X y p s m args meth c) (hlo : X.1 ≤ s.heap.size) (hret : meth.sig.returnType = I_ret y) (hlocks : meth.locks = false) (h0 : I_H) (hs0 : s.heap.size = h0.1) : I_end p l e R s m args below meth c (MQ below (I_Qc D T X rv h1) args s (h1.1 - h0.1) (h1.2.1 - h0.2.1) (fun q => X.1 ≤ q)) D T X y h0.2.1 (rv, h1) := by
  intro pc len i st ls H locs cells slots hdec hlk hbk hok hsz hsl
  obtain ⟨hx, hb, hml, hown, hts, hK, hAO, hin, hscr⟩ := C
  have e1 : h1.1 - h0.1 = cells := by
    have hsz2 : s.heap.size + cells = h1.1 := hsz
    omega
  have e2 : h1.2.1 - h0.2.1 = slots := by
    have hsl2 : h0.2.1 + slots = h1.2.1 := hsl
    omega
  rw [e1, e2]
  refine I_Wsize fun hz => ?_
  have hH := I_size_eq hok hlo hsz hz
  have fin : ∀ t : State, t.heap = H → s.WarmedH t.vm → I_Qc D T X rv h1 args s (.returned rv) t := fun t ht _ => ⟨rfl, by rw [ht]; exact hok.1, hok.2.1.F ht, by rw [ht]; exact hH⟩
  have hf : ∀ q ∈ locs, X.1 ≤ q.base := hok.2.1.2.2
  unfold I_back at hbk
  split at hbk
  · simp only [I_lk, beq_iff_eq] at hlk
    subst hlk
    split at hbk
    · rename_i v
      split at hbk
      · rename_i hc
        cases hbk
        rcases hc with hc | ⟨hc, hv⟩
        · rw [hc] at hret
          exact W.zret hx hb hret rfl fin hf hdec hlocks
        · rw [hc] at hret
          exact W.zret hx hb hret (by rcases hv with rfl | rfl <;> decide) fin hf hdec hlocks
      · cases hbk
    · cases hbk
  · simp only [I_lk, beq_iff_eq] at hlk
    subst hlk
    split at hbk
    · rename_i v
      split at hbk
      · rename_i hc
        cases hbk
        rw [hc] at hret
        exact W.dret hx hb hret fin hf hdec hlocks
      · cases hbk
    · cases hbk
  · simp only [I_lk, beq_iff_eq] at hlk
    subst hlk
    split at hbk
    · split at hbk
      · rename_i hc
        cases hbk
        rw [hc] at hret
        exact W.vret hx hb hret fin hf hdec hlocks
      · cases hbk
    · cases hbk
  · cases hbk
theorem I_met {n d t : Nat} {vs : List Value} {h h1 : I_H} {rv : Option Value} (ih : I_snd n D T X) (ht : t < 113) (e1 : I_run n X d t 0 (I_ent vs (I_maxL t)) [] h = some (rv, h1)) (hl : (I_slots vs).length ≤ I_maxL t) : Met l (I_name t) (Cond.code (I_name t) (I_code t) (I_maxL t) (I_ret t) :: I_wl) ({ frames := d + 1, cells := h1.1 - h.1, slots := h1.2.1 - h.2.1, locals := 40 * (d + 1) }) (I_Pc D T X vs h) (I_Qc D T X rv h1) (h1.1 - h.1) (h1.2.1 - h.2.1) (fun q => X.1 ≤ q) := by
  obtain ⟨g1, g2⟩ := I_run_grow _ _ _ _ _ _ _ _ e1
  have g1 : h.1 ≤ h1.1 := g1
  have g2 : h.2.1 ≤ h1.2.1 := g2
  refine Met.ofW (cc := I_code t) (maxL := I_maxL t) (ret := I_ret t) (f_mi t ht).2.1 rfl ?_
  intro p e s m args below meth c s₁ B hml hv
  obtain ⟨rfl, hP, hK, hAO, hsz, hlo⟩ := hv
  have hts0 := atoms_spec (ws := Cond.code (I_name t) (I_code t) (I_maxL t) (I_ret t) :: I_wl) B.pre
  have hown : s.vm.findClass (I_name t).cls = some m.cls := findClass_of_methodNamed B.named
  rw [(f_mi t ht).2.2.2.2.2.2.1] at hown
  have C : I_cx D T X t p s m vs.toArray meth c := ⟨B.exec, B.bytes, hml, hown, fun w hw => hts0 w (List.mem_cons_of_mem _ hw), hK, hAO, fun hi => by
    have := (name_of_methodNamed B.named B.method).1
    rw [this]
    unfold I_init at hi
    exact beq_iff_eq.mp hi, fun ho => absurd ho (by have := (f_mi t ht).2.2.2.2.2.2.2; omega)⟩
  have hlo2 : X.1 ≤ s.heap.size := by omega
  rw [lg_entry_eq]
  refine ih d t 0 _ _ h (rv, h1) e1 (sl0 := h.2.1) C hlo2 (Nat.le_refl _) (Nat.le_refl _) (I_ent_ok hl) ⟨hP, va_S.rf, hlo⟩ (by omega) rfl ?_ ?_ (I_back_end C hlo2 B.returns B.notSynchronized h hsz)
  · show h1.1 ≤ s.heap.size + (h1.1 - h.1)
    omega
  · show h1.2.1 ≤ h.2.1 + (h1.2.1 - h.2.1)
    omega
end RUN
end
section
section RUN2
variable {p : Program} {l : Launch} {e : Env} {R : Room} {s : State} {m : MethodId} {args : Array Value} {below : List Frame} {meth : Method} {c : Code} {H : Heap} {locs : List Loc} {cells slots : Nat} {Q : State → Prop}
variable {D : va_G} {T : Nat → ClassId} {X : I_X} {y pc len : Nat} {L : I_L} {st : List Value} {h : I_H} {ls : Array Slot} {sl0 : Nat}
theorem I_cB {idx t d mc ms : Nat} {rm : Room} (C : I_cx D T X y p s m args meth c) (hk : I_look I_ml (I_own y) idx = some t) (ht : t < 113) (hrc : rm.cells = mc) (hrs : rm.slots = ms) (hrf : rm.frames = d + 1) (hrl : rm.locals = 40 * (d + 1)) (hf : d + 1 + 1 ≤ R.frames) (hl : 40 * (d + 1 + 1) ≤ R.locals) :
    CallB R s args (I_cn (I_own y)) idx (I_name t) (I_code t) (I_maxL t) (I_ret t) (Cond.code (I_name t) (I_code t) (I_maxL t) (I_ret t) :: I_wl) rm mc ms (I_np t) := by
  obtain ⟨hx, hb, hml, hown, hts, hK, hAO, hin, hscr⟩ := C
  obtain ⟨a1, a2, a3, a4, a5, a6, a7, a8⟩ := f_mi t ht
  have hlink := hts _ (f_in (f_ml _ (I_look_mem hk)).2 rfl)
  have e1 : I_sp t = I_name t := by unfold I_sp; rw [if_pos (by omega)]
  rw [show (I_own y, idx, t).2.2 = t from rfl, e1] at hlink
  refine callB_of (I_np t) hts (I_GoodIn t ht) rfl hrc hrs (hts _ (f_in a1 rfl)) hlink ⟨a3, a4, a5⟩ ⟨by omega, by omega⟩
theorem I_PreP {vs : List Value} {U : State} (C : I_cx D T X y p s m args meth c) (hok : I_ok D T X s h H locs) (hH : H.size = h.1) (hU : U.heap = H) (hW : s.WarmedH U.vm) : I_Pc D T X vs h vs.toArray U := by
  obtain ⟨hx, hb, hml, hown, hts, hK, hAO, hin, hscr⟩ := C
  exact ⟨rfl, by rw [hU]; exact hok.1, va_K.moved hW.alike hK, ⟨va_AO.moved hW.alike hAO.1, va_AO.moved hW.alike hAO.2⟩, by rw [hU]; exact hH, hok.2.2⟩
set_option maxHeartbeats 2000000 in
theorem I_call_sound {n d t : Nat} {i : Instr} {as rest : List Value} {rv : Option Value} {h1 : I_H} (ih : I_snd n D T X) (C : I_cx D T X y p s m args meth c) (hlo : X.1 ≤ s.heap.size) (hfr : d + 1 + 1 ≤ R.frames) (hlc : 40 * (d + 1 + 1) ≤ R.locals) (hdec : decode (I_code y) pc = .ok (i, len)) (hlk : I_lk i len = true) (hc : I_call X y i st h = some (t, as, rest)) (e1 : I_run n X d t 0 (I_ent as (I_maxL t)) [] h = some (rv, h1)) (hl : (I_slots as).length ≤ I_maxL t) (hL : I_lok ls (I_maxL y) L) (hok : I_ok D T X s h H locs) (hsz : s.heap.size + cells = h.1) (hsl : sl0 + slots = h.2.1) (hr1 : h1.1 ≤ s.heap.size + R.cells) (hr2 : h1.2.1 ≤ sl0 + R.slots)
    (kk : I_kk p l e R s m args below meth c Q D T X y sl0 (pc + 3, L, rv.toList ++ rest, h1)) : W p l e R s m args below meth c H locs cells slots Q (F0 m pc ls st) := by
  obtain ⟨g1, g2⟩ := I_run_grow _ _ _ _ _ _ _ _ e1
  have g1 : h.1 ≤ h1.1 := g1
  have g2 : h.2.1 ≤ h1.2.1 := g2
  refine I_Wsize fun hz => ?_
  have hH := I_size_eq hok hlo hsz hz
  have C1 := C
  obtain ⟨hx, hb, hml, hown, hts, hK, hAO, hin, hscr⟩ := C
  have hfit : cells + (h1.1 - h.1) ≤ R.cells ∧ slots + (h1.2.1 - h.2.1) ≤ R.slots := ⟨by omega, by omega⟩
  have fin : ∀ (H1 : Heap) (locs1 : List Loc), I_ok D T X s h1 H1 locs1 → W p l e R s m args below meth c H1 locs1 (cells + (h1.1 - h.1)) (slots + (h1.2.1 - h.2.1)) Q (F0 m (pc + 3) ls (rv.toList ++ rest)) := fun H1 locs1 hok1 => kk ls H1 locs1 _ _ hL hok1 (by show s.heap.size + (cells + (h1.1 - h.1)) = h1.1; omega) (by show sl0 + (slots + (h1.2.1 - h.2.1)) = h1.2.1; omega)
  have hlo1 : X.1 ≤ h1.1 := Nat.le_trans hok.2.2 g1
  have hroom : ∀ rest : List Value, I_cat rest ≤ 8 → 2 * (F0 m pc ls st).monitorRoom + (rest.map fun v => v.category).sum ≤ 8 := fun rest hq => lv_room (by rw [I_cat_sum]; exact hq)
  unfold I_call at hc
  split at hc
  · rename_i idx
    simp only [I_lk, beq_iff_eq] at hlk
    subst hlk
    split at hc
    · rename_i t1 hk
      split at hc
      · rename_i ht1
        split at hc
        · rename_i b rest1 hdrop
          split at hc
          · rename_i hq
            cases hc
            obtain ⟨q1, q2, q3, q4⟩ := hq
            have ht : t < 113 := by rcases (f_ml _ (I_look_mem hk)).1 with z | z; exact z; simp only at z; omega
            obtain ⟨k1, k2, k3⟩ := f_k0 t ht q1
            obtain ⟨fs, hbt⟩ := I_isC_at hok q3
            have hmet := I_met (l := l) ih ht e1 hl
            have hrecv := va_recv hK hok.1 (f_cl4 (I_own t) k3) hbt
            have hst : st = (st.take (I_np t)).reverse.reverse ++ Value.ref b :: rest := by rw [List.reverse_reverse, ← hdrop, List.take_append_drop]
            have hn : ((st.take (I_np t)).reverse).length = I_np t := by rw [List.length_reverse, List.length_take]; omega
            refine I_callR (va_runV (C := I_cn (I_own t)) (As := (st.take (I_np t)).reverse) (rest := rest) ⟨hx, hb, hml, hown, hts⟩ hmet ⟨I_cB (d := d) C1 hk ht rfl rfl rfl rfl hfr hlc, hts _ (f_in k1 rfl), by rw [← (f_mi t ht).2.2.2.2.2.2.1]; exact hts _ (f_in k2 rfl)⟩ ⟨I_Pc_blind, hrecv, fun U hU hW => I_PreP C1 hok hH hU hW⟩ rfl hn hL.2.1 hst (hroom _ q4) hdec hfit) hok hlo1 fin
          · cases hc
        · cases hc
      · cases hc
    · cases hc
  · rename_i idx
    simp only [I_lk, beq_iff_eq] at hlk
    subst hlk
    split at hc
    · rename_i t1 hk
      split at hc
      · rename_i ht1
        split at hc
        · rename_i b rest1 hdrop
          split at hc
          · rename_i hq
            cases hc
            obtain ⟨q1, q2, q4⟩ := hq
            have ht : t < 113 := by rcases (f_ml _ (I_look_mem hk)).1 with z | z; exact z; simp only at z; omega
            obtain ⟨k1, k2, k3⟩ := f_k2 t ht q1
            have hmet := I_met (l := l) ih ht e1 hl
            have hcb := I_cB (R := R) (d := d) (rm := { frames := d + 1, cells := h1.1 - h.1, slots := h1.2.1 - h.2.1, locals := 40 * (d + 1) }) C1 hk ht rfl rfl rfl rfl hfr hlc
            rw [k3] at hmet hcb
            have hst : st = (st.take (I_np t)).reverse.reverse ++ Value.ref b :: rest := by rw [List.reverse_reverse, ← hdrop, List.take_append_drop]
            have hn : ((st.take (I_np t)).reverse).length = I_np t := by rw [List.length_reverse, List.length_take]; omega
            refine I_callR (va_runI (As := (st.take (I_np t)).reverse) (rest := rest) (b := b) ⟨hx, hb, hml, hown, hts⟩ hmet ⟨hcb, k2, hts _ (f_in k1 rfl)⟩ ⟨I_Pc_blind, fun U hU hW => I_PreP C1 hok hH hU hW⟩ rfl hn hL.2.1 hst (hroom _ q4) hdec hfit) hok hlo1 fin
          · cases hc
        · cases hc
      · cases hc
    · cases hc
  · rename_i idx
    simp only [I_lk, beq_iff_eq] at hlk
    subst hlk
    split at hc
    · rename_i t1 hk
      split at hc
      · rename_i ht1
        split at hc
        · rename_i hq
          cases hc
          obtain ⟨q1, q2, q4⟩ := hq
          have ht : t < 113 := by rcases (f_ml _ (I_look_mem hk)).1 with z | z; exact z; simp only at z; omega
          have k1 := f_k1 t ht q1
          have hmet := I_met (l := l) ih ht e1 hl
          have hst : st = (st.take (I_np t)).reverse.reverse ++ st.drop (I_np t) := by rw [List.reverse_reverse, List.take_append_drop]
          have hn : ((st.take (I_np t)).reverse).length = I_np t := by rw [List.length_reverse, List.length_take]; omega
          refine I_callR (va_runS (As := (st.take (I_np t)).reverse) (rest := st.drop (I_np t)) ⟨hx, hb, hml, hown, hts⟩ hmet ⟨I_cB (d := d) C1 hk ht rfl rfl rfl rfl hfr hlc, hts _ (f_in k1 rfl)⟩ ⟨I_Pc_blind, fun U hU hW => I_PreP C1 hok hH hU hW⟩ rfl hn hL.2.1 hst (hroom _ q4) hdec hfit) hok hlo1 fin
        · cases hc
      · cases hc
    · cases hc
  · cases hc
theorem I_sound : ∀ n, I_snd n D T X := by
  intro n
  induction n with
  | zero => intro d y pc L st h r hrun; simp [I_run] at hrun
  | succ n ih =>
    intro d y pc L st h r hrun p l e R s m args below meth c H locs cells slots Q ls sl0 C hlo hfr hlc hL hok hsz hsl hr1 hr2 hend
    rw [I_run] at hrun
    split at hrun
    · cases hrun
    · rename_i i len hdec
      split at hrun
      · rename_i hlk
        split at hrun
        · rename_i q hq
          cases d with
          | zero => cases hrun
          | succ d' =>
            simp only at hrun
            split at hrun
            · rename_i hl
              cases h1 : I_run n X d' q.1 0 (I_ent q.2.1 (I_maxL q.1)) [] h with
              | none => rw [h1] at hrun; simp at hrun
              | some r1 =>
                rw [h1] at hrun
                simp only [Option.bind_some] at hrun
                obtain ⟨t, as, rest⟩ := q
                obtain ⟨rv, hh⟩ := r1
                have g := I_run_grow _ _ _ _ _ _ _ _ hrun
                refine I_call_sound ih C hlo hfr hlc hdec hlk hq h1 hl hL hok hsz hsl (Nat.le_trans g.1 hr1) (Nat.le_trans g.2 hr2) ?_
                intro ls1 H1 locs1 cells1 slots1 hL1 hok1 hsz1 hsl1
                exact ih _ _ _ _ _ _ _ hrun C hlo hfr hlc hL1 hok1 hsz1 hsl1 hr1 hr2 hend
            · cases hrun
        · rename_i hcn
          split at hrun
          · rename_i rv hb
            cases hrun
            exact hend _ _ _ _ _ _ _ _ _ hdec hlk hb hok hsz hsl
          · cases h1 : I_step X y i pc len L st h with
            | none => rw [h1] at hrun; simp at hrun
            | some k =>
              rw [h1] at hrun
              simp only [Option.bind_some] at hrun
              have g := I_run_grow _ _ _ _ _ _ _ _ hrun
              have g0 := I_step_grow h1
              refine I_step_sound C hlo ⟨by omega, by omega⟩ hdec hlk h1 hL hok hsz hsl ⟨Nat.le_trans g.1 hr1, Nat.le_trans g.2 hr2, ?_, ?_⟩ ?_
              · have a1 := Nat.le_trans g0.1 (Nat.le_trans g.1 hr1); omega
              · have a1 := Nat.le_trans g0.2 (Nat.le_trans g.2 hr2); omega
              intro ls1 H1 locs1 cells1 slots1 hL1 hok1 hsz1 hsl1
              exact ih _ _ _ _ _ _ _ hrun C hlo hfr hlc hL1 hok1 hsz1 hsl1 hr1 hr2 hend
      · cases hrun
end RUN2
end
