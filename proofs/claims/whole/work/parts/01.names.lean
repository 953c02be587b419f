-- ===== PART A: goes FIRST, ahead of the names: the tables' words, and 'selects' of the private methods out of them =====
/-- a private method of a class that the tables say can be made, by its rows of tables_1 -/
def lw_okq (q : MethodName × Nat) : Prop := (q.1.cls ≠ "java/lang/invoke/MethodHandle" ∧ q.1.cls ≠ "java/lang/invoke/VarHandle") ∧ Cond.instantiable q.1.cls q.2 ∈ tables_1 ∧ Cond.privateMethod q.1 ∈ tables_1 ∧ Cond.instanceMethod q.1 ∈ tables_1
theorem lw_p0 : lw_okq (⟨"NestTables", "isFull", "()Z"⟩, 10) := ⟨⟨by decide +kernel, by decide +kernel⟩, List.mem_of_getElem? (i := 10) (by decide +kernel), List.mem_of_getElem? (i := 78) (by decide +kernel), List.mem_of_getElem? (i := 79) (by decide +kernel)⟩
theorem lw_p1 : lw_okq (⟨"NestTables", "failed", "(I)I"⟩, 10) := ⟨⟨by decide +kernel, by decide +kernel⟩, List.mem_of_getElem? (i := 10) (by decide +kernel), List.mem_of_getElem? (i := 83) (by decide +kernel), List.mem_of_getElem? (i := 84) (by decide +kernel)⟩
theorem lw_p2 : lw_okq (⟨"NestTables", "begun", "(II)I"⟩, 10) := ⟨⟨by decide +kernel, by decide +kernel⟩, List.mem_of_getElem? (i := 10) (by decide +kernel), List.mem_of_getElem? (i := 88) (by decide +kernel), List.mem_of_getElem? (i := 89) (by decide +kernel)⟩
theorem lw_p3 : lw_okq (⟨"NestTables", "isUnknown", "(I)Z"⟩, 10) := ⟨⟨by decide +kernel, by decide +kernel⟩, List.mem_of_getElem? (i := 10) (by decide +kernel), List.mem_of_getElem? (i := 100) (by decide +kernel), List.mem_of_getElem? (i := 101) (by decide +kernel)⟩
theorem lw_p4 : lw_okq (⟨"NestTables", "begunWithRows", "(III)I"⟩, 10) := ⟨⟨by decide +kernel, by decide +kernel⟩, List.mem_of_getElem? (i := 10) (by decide +kernel), List.mem_of_getElem? (i := 224) (by decide +kernel), List.mem_of_getElem? (i := 225) (by decide +kernel)⟩
theorem lw_p5 : lw_okq (⟨"NestTables", "packRow", "([II)V"⟩, 10) := ⟨⟨by decide +kernel, by decide +kernel⟩, List.mem_of_getElem? (i := 10) (by decide +kernel), List.mem_of_getElem? (i := 285) (by decide +kernel), List.mem_of_getElem? (i := 286) (by decide +kernel)⟩
theorem lw_p6 : lw_okq (⟨"NestTables", "totalOfTable", "(II)I"⟩, 10) := ⟨⟨by decide +kernel, by decide +kernel⟩, List.mem_of_getElem? (i := 10) (by decide +kernel), List.mem_of_getElem? (i := 319) (by decide +kernel), List.mem_of_getElem? (i := 320) (by decide +kernel)⟩
theorem lw_p7 : lw_okq (⟨"NestTables", "totalOfRow", "(LNestTables$Row;I)I"⟩, 10) := ⟨⟨by decide +kernel, by decide +kernel⟩, List.mem_of_getElem? (i := 10) (by decide +kernel), List.mem_of_getElem? (i := 323) (by decide +kernel), List.mem_of_getElem? (i := 324) (by decide +kernel)⟩
theorem lw_p8 : lw_okq (⟨"NestTables", "totalOfLinks", "(LNestTables$Row;I)I"⟩, 10) := ⟨⟨by decide +kernel, by decide +kernel⟩, List.mem_of_getElem? (i := 10) (by decide +kernel), List.mem_of_getElem? (i := 327) (by decide +kernel), List.mem_of_getElem? (i := 328) (by decide +kernel)⟩
theorem lw_p9 : lw_okq (⟨"NestTables", "depthOfTable", "(II)I"⟩, 10) := ⟨⟨by decide +kernel, by decide +kernel⟩, List.mem_of_getElem? (i := 10) (by decide +kernel), List.mem_of_getElem? (i := 344) (by decide +kernel), List.mem_of_getElem? (i := 345) (by decide +kernel)⟩
theorem lw_p10 : lw_okq (⟨"NestTables", "deepestLink", "(LNestTables$Row;I)I"⟩, 10) := ⟨⟨by decide +kernel, by decide +kernel⟩, List.mem_of_getElem? (i := 10) (by decide +kernel), List.mem_of_getElem? (i := 348) (by decide +kernel), List.mem_of_getElem? (i := 349) (by decide +kernel)⟩
theorem lw_p11 : lw_okq (⟨"NestTables", "standingRows", "()I"⟩, 10) := ⟨⟨by decide +kernel, by decide +kernel⟩, List.mem_of_getElem? (i := 10) (by decide +kernel), List.mem_of_getElem? (i := 359) (by decide +kernel), List.mem_of_getElem? (i := 360) (by decide +kernel)⟩
theorem lw_p12 : lw_okq (⟨"NestTables", "allFallenPlaces", "()I"⟩, 10) := ⟨⟨by decide +kernel, by decide +kernel⟩, List.mem_of_getElem? (i := 10) (by decide +kernel), List.mem_of_getElem? (i := 367) (by decide +kernel), List.mem_of_getElem? (i := 368) (by decide +kernel)⟩
theorem lw_p13 : lw_okq (⟨"NestTablesModel", "fails", "(I)I"⟩, 21) := ⟨⟨by decide +kernel, by decide +kernel⟩, List.mem_of_getElem? (i := 375) (by decide +kernel), List.mem_of_getElem? (i := 454) (by decide +kernel), List.mem_of_getElem? (i := 455) (by decide +kernel)⟩
theorem lw_p14 : lw_okq (⟨"NestTablesModel", "newTable", "(II)I"⟩, 21) := ⟨⟨by decide +kernel, by decide +kernel⟩, List.mem_of_getElem? (i := 375) (by decide +kernel), List.mem_of_getElem? (i := 459) (by decide +kernel), List.mem_of_getElem? (i := 460) (by decide +kernel)⟩
theorem lw_p15 : lw_okq (⟨"NestTablesModel", "isTable", "(I)Z"⟩, 21) := ⟨⟨by decide +kernel, by decide +kernel⟩, List.mem_of_getElem? (i := 375) (by decide +kernel), List.mem_of_getElem? (i := 467) (by decide +kernel), List.mem_of_getElem? (i := 468) (by decide +kernel)⟩
def lw_privs_1 : List (MethodName × Nat) := [(⟨"NestTables", "isFull", "()Z"⟩, 10), (⟨"NestTables", "failed", "(I)I"⟩, 10), (⟨"NestTables", "begun", "(II)I"⟩, 10), (⟨"NestTables", "isUnknown", "(I)Z"⟩, 10), (⟨"NestTables", "begunWithRows", "(III)I"⟩, 10), (⟨"NestTables", "packRow", "([II)V"⟩, 10), (⟨"NestTables", "totalOfTable", "(II)I"⟩, 10), (⟨"NestTables", "totalOfRow", "(LNestTables$Row;I)I"⟩, 10), (⟨"NestTables", "totalOfLinks", "(LNestTables$Row;I)I"⟩, 10), (⟨"NestTables", "depthOfTable", "(II)I"⟩, 10), (⟨"NestTables", "deepestLink", "(LNestTables$Row;I)I"⟩, 10), (⟨"NestTables", "standingRows", "()I"⟩, 10), (⟨"NestTables", "allFallenPlaces", "()I"⟩, 10), (⟨"NestTablesModel", "fails", "(I)I"⟩, 21), (⟨"NestTablesModel", "newTable", "(II)I"⟩, 21), (⟨"NestTablesModel", "isTable", "(I)Z"⟩, 21)]
theorem lw_r1 : ∀ q ∈ lw_privs_1, lw_okq q := List.forall_mem_cons.mpr ⟨lw_p0, List.forall_mem_cons.mpr ⟨lw_p1, List.forall_mem_cons.mpr ⟨lw_p2, List.forall_mem_cons.mpr ⟨lw_p3, List.forall_mem_cons.mpr ⟨lw_p4, List.forall_mem_cons.mpr ⟨lw_p5, List.forall_mem_cons.mpr ⟨lw_p6, List.forall_mem_cons.mpr ⟨lw_p7, List.forall_mem_cons.mpr ⟨lw_p8, List.forall_mem_cons.mpr ⟨lw_p9, List.forall_mem_cons.mpr ⟨lw_p10, List.forall_mem_cons.mpr ⟨lw_p11, List.forall_mem_cons.mpr ⟨lw_p12, List.forall_mem_cons.mpr ⟨lw_p13, List.forall_mem_cons.mpr ⟨lw_p14, List.forall_mem_cons.mpr ⟨lw_p15, fun _ h => absurd h List.not_mem_nil⟩⟩⟩⟩⟩⟩⟩⟩⟩⟩⟩⟩⟩⟩⟩⟩
theorem lw_p16 : lw_okq (⟨"NestTablesModel", "isPlace", "(II)Z"⟩, 21) := ⟨⟨by decide +kernel, by decide +kernel⟩, List.mem_of_getElem? (i := 375) (by decide +kernel), List.mem_of_getElem? (i := 472) (by decide +kernel), List.mem_of_getElem? (i := 473) (by decide +kernel)⟩
theorem lw_p17 : lw_okq (⟨"NestTablesModel", "squeeze", "()V"⟩, 21) := ⟨⟨by decide +kernel, by decide +kernel⟩, List.mem_of_getElem? (i := 375) (by decide +kernel), List.mem_of_getElem? (i := 476) (by decide +kernel), List.mem_of_getElem? (i := 477) (by decide +kernel)⟩
theorem lw_p18 : lw_okq (⟨"NestTablesModel", "newRow", "(II)I"⟩, 21) := ⟨⟨by decide +kernel, by decide +kernel⟩, List.mem_of_getElem? (i := 375) (by decide +kernel), List.mem_of_getElem? (i := 480) (by decide +kernel), List.mem_of_getElem? (i := 481) (by decide +kernel)⟩
theorem lw_p19 : lw_okq (⟨"NestTablesModel", "cellCause", "(III)I"⟩, 21) := ⟨⟨by decide +kernel, by decide +kernel⟩, List.mem_of_getElem? (i := 375) (by decide +kernel), List.mem_of_getElem? (i := 497) (by decide +kernel), List.mem_of_getElem? (i := 498) (by decide +kernel)⟩
theorem lw_p20 : lw_okq (⟨"NestTablesModel", "toldAt", "(II)I"⟩, 21) := ⟨⟨by decide +kernel, by decide +kernel⟩, List.mem_of_getElem? (i := 375) (by decide +kernel), List.mem_of_getElem? (i := 506) (by decide +kernel), List.mem_of_getElem? (i := 507) (by decide +kernel)⟩
theorem lw_p21 : lw_okq (⟨"NestTablesModel", "firstOdd", "(I)I"⟩, 21) := ⟨⟨by decide +kernel, by decide +kernel⟩, List.mem_of_getElem? (i := 375) (by decide +kernel), List.mem_of_getElem? (i := 522) (by decide +kernel), List.mem_of_getElem? (i := 523) (by decide +kernel)⟩
theorem lw_p22 : lw_okq (⟨"NestTablesModel", "isEven", "(I)Z"⟩, 21) := ⟨⟨by decide +kernel, by decide +kernel⟩, List.mem_of_getElem? (i := 375) (by decide +kernel), List.mem_of_getElem? (i := 534) (by decide +kernel), List.mem_of_getElem? (i := 535) (by decide +kernel)⟩
theorem lw_p23 : lw_okq (⟨"NestTablesModel", "wideOf", "(I)I"⟩, 21) := ⟨⟨by decide +kernel, by decide +kernel⟩, List.mem_of_getElem? (i := 375) (by decide +kernel), List.mem_of_getElem? (i := 538) (by decide +kernel), List.mem_of_getElem? (i := 539) (by decide +kernel)⟩
theorem lw_p24 : lw_okq (⟨"NestTablesModel", "newEven", "(III)I"⟩, 21) := ⟨⟨by decide +kernel, by decide +kernel⟩, List.mem_of_getElem? (i := 375) (by decide +kernel), List.mem_of_getElem? (i := 543) (by decide +kernel), List.mem_of_getElem? (i := 544) (by decide +kernel)⟩
theorem lw_p25 : lw_okq (⟨"NestTablesModel", "cellOf", "(III)I"⟩, 21) := ⟨⟨by decide +kernel, by decide +kernel⟩, List.mem_of_getElem? (i := 375) (by decide +kernel), List.mem_of_getElem? (i := 547) (by decide +kernel), List.mem_of_getElem? (i := 548) (by decide +kernel)⟩
theorem lw_p26 : lw_okq (⟨"NestTablesModel", "areAlike", "(III)Z"⟩, 21) := ⟨⟨by decide +kernel, by decide +kernel⟩, List.mem_of_getElem? (i := 375) (by decide +kernel), List.mem_of_getElem? (i := 586) (by decide +kernel), List.mem_of_getElem? (i := 587) (by decide +kernel)⟩
theorem lw_p27 : lw_okq (⟨"NestTablesModel", "find", "(IZ)I"⟩, 21) := ⟨⟨by decide +kernel, by decide +kernel⟩, List.mem_of_getElem? (i := 375) (by decide +kernel), List.mem_of_getElem? (i := 598) (by decide +kernel), List.mem_of_getElem? (i := 599) (by decide +kernel)⟩
theorem lw_p28 : lw_okq (⟨"NestTablesModel", "enter", "(IIZ)V"⟩, 21) := ⟨⟨by decide +kernel, by decide +kernel⟩, List.mem_of_getElem? (i := 375) (by decide +kernel), List.mem_of_getElem? (i := 602) (by decide +kernel), List.mem_of_getElem? (i := 603) (by decide +kernel)⟩
theorem lw_p29 : lw_okq (⟨"NestTablesModel", "goOn", "(IZ)I"⟩, 21) := ⟨⟨by decide +kernel, by decide +kernel⟩, List.mem_of_getElem? (i := 375) (by decide +kernel), List.mem_of_getElem? (i := 606) (by decide +kernel), List.mem_of_getElem? (i := 607) (by decide +kernel)⟩
def lw_privs_2 : List (MethodName × Nat) := [(⟨"NestTablesModel", "isPlace", "(II)Z"⟩, 21), (⟨"NestTablesModel", "squeeze", "()V"⟩, 21), (⟨"NestTablesModel", "newRow", "(II)I"⟩, 21), (⟨"NestTablesModel", "cellCause", "(III)I"⟩, 21), (⟨"NestTablesModel", "toldAt", "(II)I"⟩, 21), (⟨"NestTablesModel", "firstOdd", "(I)I"⟩, 21), (⟨"NestTablesModel", "isEven", "(I)Z"⟩, 21), (⟨"NestTablesModel", "wideOf", "(I)I"⟩, 21), (⟨"NestTablesModel", "newEven", "(III)I"⟩, 21), (⟨"NestTablesModel", "cellOf", "(III)I"⟩, 21), (⟨"NestTablesModel", "areAlike", "(III)Z"⟩, 21), (⟨"NestTablesModel", "find", "(IZ)I"⟩, 21), (⟨"NestTablesModel", "enter", "(IIZ)V"⟩, 21), (⟨"NestTablesModel", "goOn", "(IZ)I"⟩, 21)]
theorem lw_r2 : ∀ q ∈ lw_privs_2, lw_okq q := List.forall_mem_cons.mpr ⟨lw_p16, List.forall_mem_cons.mpr ⟨lw_p17, List.forall_mem_cons.mpr ⟨lw_p18, List.forall_mem_cons.mpr ⟨lw_p19, List.forall_mem_cons.mpr ⟨lw_p20, List.forall_mem_cons.mpr ⟨lw_p21, List.forall_mem_cons.mpr ⟨lw_p22, List.forall_mem_cons.mpr ⟨lw_p23, List.forall_mem_cons.mpr ⟨lw_p24, List.forall_mem_cons.mpr ⟨lw_p25, List.forall_mem_cons.mpr ⟨lw_p26, List.forall_mem_cons.mpr ⟨lw_p27, List.forall_mem_cons.mpr ⟨lw_p28, List.forall_mem_cons.mpr ⟨lw_p29, fun _ h => absurd h List.not_mem_nil⟩⟩⟩⟩⟩⟩⟩⟩⟩⟩⟩⟩⟩⟩
def lw_privs : List (MethodName × Nat) := lw_privs_1 ++ (lw_privs_2)
def lw_tbl : List Cond := k2_sels lw_privs ++ tables_1
theorem lw_privs_ok : ∀ q ∈ lw_privs, lw_okq q := by
  show ∀ q ∈ lw_privs_1 ++ (lw_privs_2), lw_okq q
  exact List.forall_mem_append.mpr ⟨lw_r1, lw_r2⟩
/-- the streams that the claim lets the run draw from -/
abbrev lw_cs : List Choice := [Jvm.Choice.named "NaN.bits", Jvm.Choice.named "NaN.copy"]
theorem lw_bits : nanBits ∈ lw_cs := by first | decide | exact List.mem_cons_self | simp [lw_cs, nanBits]
def RX0 : String := "NestTables$Row"
def TX0 : u_T := fun k => match k with
  | 0 => ("NestTables$Row", "kind", "I", true)
  | 1 => ("NestTables$Row", "whole", "[I", true)
  | 2 => ("NestTables$Row", "reals", "[D", true)
  | _ => ("NestTables$Row", "countedIn", "I", false)
def tyX0 : Nat → FieldType := fun k => match k with
  | 0 => .int
  | 1 => .array .int
  | 2 => .array .double
  | _ => .int
abbrev wsX00 : List Cond := u_ws RX0 TX0 4
theorem nmX0 : ∀ a, a < 4 → ∀ b, b < 4 → a ≠ b → (TX0 a).2.1 ≠ (TX0 b).2.1 := by decide +kernel
theorem tyX0_ok : ∀ k, k < 4 → parseFieldDescriptor (TX0 k).2.2.1 = some (tyX0 k) := by decide +kernel
abbrev cX0_init : ByteArray := prog_2_method_1_code
def yX0_init : MethodName := ⟨RX0, "<init>", "(II)V"⟩
abbrev cX0_length : ByteArray := prog_2_method_2_code
def yX0_length : MethodName := ⟨RX0, "length", "()I"⟩
abbrev cX0_hasCells : ByteArray := prog_2_method_3_code
def yX0_hasCells : MethodName := ⟨RX0, "hasCells", "(II)Z"⟩
abbrev cX0_write : ByteArray := prog_2_method_4_code
def yX0_write : MethodName := ⟨RX0, "write", "(II)V"⟩
abbrev cX0_cut : ByteArray := prog_2_method_5_code
def yX0_cut : MethodName := ⟨RX0, "cut", "(I)I"⟩
abbrev cX0_sumOfCells : ByteArray := prog_2_method_6_code
def yX0_sumOfCells : MethodName := ⟨RX0, "sumOfCells", "()I"⟩
abbrev cX0_isNoNumber : ByteArray := prog_2_method_7_code
def yX0_isNoNumber : MethodName := ⟨RX0, "isNoNumber", "(I)Z"⟩
abbrev cX0_markNoNumber : ByteArray := prog_2_method_8_code
def yX0_markNoNumber : MethodName := ⟨RX0, "markNoNumber", "(I)V"⟩
abbrev cX0_takeCells : ByteArray := prog_2_method_9_code
def yX0_takeCells : MethodName := ⟨RX0, "takeCells", "(ILNestTables$Row;II)V"⟩
abbrev cX0_hasTheCellsOf : ByteArray := prog_2_method_10_code
def yX0_hasTheCellsOf : MethodName := ⟨RX0, "hasTheCellsOf", "(LNestTables$Row;)Z"⟩
abbrev cX0_hasTheCellOf : ByteArray := prog_2_method_11_code
def yX0_hasTheCellOf : MethodName := ⟨RX0, "hasTheCellOf", "(LNestTables$Row;I)Z"⟩
def RX1 : String := "NestTables$Table"
def TX1 : u_T := fun k => match k with
  | 0 => ("NestTables$Table", "rows", "[LNestTables$Row;", true)
  | 1 => ("NestTables$Table", "kind", "I", false)
  | _ => ("NestTables$Table", "high", "I", false)
def tyX1 : Nat → FieldType := fun k => match k with
  | 0 => .array (.object "NestTables$Row")
  | 1 => .int
  | _ => .int
abbrev wsX10 : List Cond := u_ws RX1 TX1 3
theorem nmX1 : ∀ a, a < 3 → ∀ b, b < 3 → a ≠ b → (TX1 a).2.1 ≠ (TX1 b).2.1 := by decide +kernel
theorem tyX1_ok : ∀ k, k < 3 → parseFieldDescriptor (TX1 k).2.2.1 = some (tyX1 k) := by decide +kernel
abbrev cX1_init : ByteArray := prog_3_method_1_code
def yX1_init : MethodName := ⟨RX1, "<init>", "()V"⟩
abbrev cX1_begin : ByteArray := prog_3_method_2_code
def yX1_begin : MethodName := ⟨RX1, "begin", "(II)V"⟩
abbrev cX1_hasPlace : ByteArray := prog_3_method_3_code
def yX1_hasPlace : MethodName := ⟨RX1, "hasPlace", "(I)Z"⟩
abbrev cX1_placeCause : ByteArray := prog_3_method_4_code
def yX1_placeCause : MethodName := ⟨RX1, "placeCause", "(I)I"⟩
abbrev cX1_cellCause : ByteArray := prog_3_method_5_code
def yX1_cellCause : MethodName := ⟨RX1, "cellCause", "(II)I"⟩
abbrev cX1_isEven : ByteArray := prog_3_method_6_code
def yX1_isEven : MethodName := ⟨RX1, "isEven", "()Z"⟩
abbrev cX1_wide : ByteArray := prog_3_method_7_code
def yX1_wide : MethodName := ⟨RX1, "wide", "()I"⟩
abbrev cX1_firstNotSquare : ByteArray := prog_3_method_8_code
def yX1_firstNotSquare : MethodName := ⟨RX1, "firstNotSquare", "()I"⟩
abbrev cX1_fallenPlaces : ByteArray := prog_3_method_9_code
def yX1_fallenPlaces : MethodName := ⟨RX1, "fallenPlaces", "()I"⟩
abbrev cX1_rowsNotYetCounted : ByteArray := prog_3_method_10_code
def yX1_rowsNotYetCounted : MethodName := ⟨RX1, "rowsNotYetCounted", "(I)I"⟩
abbrev cX1_agreesWith : ByteArray := prog_3_method_11_code
def yX1_agreesWith : MethodName := ⟨RX1, "agreesWith", "(LNestTables$Table;)Z"⟩
def RX2 : String := "NestTables"
def TX2 : u_T := fun k => match k with
  | 0 => ("NestTables", "tables", "[LNestTables$Table;", true)
  | 1 => ("NestTables", "tableCount", "I", false)
  | 2 => ("NestTables", "failures", "I", false)
  | 3 => ("NestTables", "words", "[I", true)
  | 4 => ("NestTables", "wordCount", "I", false)
  | 5 => ("NestTables", "open", "[Z", true)
  | 6 => ("NestTables", "enteredCount", "I", false)
  | 7 => ("NestTables", "totalCause", "I", false)
  | 8 => ("NestTables", "depths", "[I", true)
  | _ => ("NestTables", "countings", "I", false)
def tyX2 : Nat → FieldType := fun k => match k with
  | 0 => .array (.object "NestTables$Table")
  | 1 => .int
  | 2 => .int
  | 3 => .array .int
  | 4 => .int
  | 5 => .array .boolean
  | 6 => .int
  | 7 => .int
  | 8 => .array .int
  | _ => .int
abbrev wsX20 : List Cond := u_ws RX2 TX2 10
theorem nmX2 : ∀ a, a < 10 → ∀ b, b < 10 → a ≠ b → (TX2 a).2.1 ≠ (TX2 b).2.1 := by decide +kernel
theorem tyX2_ok : ∀ k, k < 10 → parseFieldDescriptor (TX2 k).2.2.1 = some (tyX2 k) := by decide +kernel
abbrev cX2_init : ByteArray := prog_1_method_1_code
def yX2_init : MethodName := ⟨RX2, "<init>", "()V"⟩
abbrev cX2_table : ByteArray := prog_1_method_2_code
def yX2_table : MethodName := ⟨RX2, "table", "(II)I"⟩
abbrev cX2_row : ByteArray := prog_1_method_3_code
def yX2_row : MethodName := ⟨RX2, "row", "(III)I"⟩
abbrev cX2_share : ByteArray := prog_1_method_4_code
def yX2_share : MethodName := ⟨RX2, "share", "(IIII)I"⟩
abbrev cX2_fall : ByteArray := prog_1_method_5_code
def yX2_fall : MethodName := ⟨RX2, "fall", "(II)I"⟩
abbrev cX2_put : ByteArray := prog_1_method_6_code
def yX2_put : MethodName := ⟨RX2, "put", "(IIII)I"⟩
abbrev cX2_get : ByteArray := prog_1_method_7_code
def yX2_get : MethodName := ⟨RX2, "get", "(III)I"⟩
abbrev cX2_real : ByteArray := prog_1_method_8_code
def yX2_real : MethodName := ⟨RX2, "real", "(III)D"⟩
abbrev cX2_told : ByteArray := prog_1_method_9_code
def yX2_told : MethodName := ⟨RX2, "told", "(III)I"⟩
abbrev cX2_odd : ByteArray := prog_1_method_10_code
def yX2_odd : MethodName := ⟨RX2, "odd", "(I)I"⟩
abbrev cX2_copy : ByteArray := prog_1_method_11_code
def yX2_copy : MethodName := ⟨RX2, "copy", "(IIIIIII)I"⟩
abbrev cX2_turned : ByteArray := prog_1_method_12_code
def yX2_turned : MethodName := ⟨RX2, "turned", "(I)I"⟩
abbrev cX2_product : ByteArray := prog_1_method_13_code
def yX2_product : MethodName := ⟨RX2, "product", "(II)I"⟩
abbrev cX2_distances : ByteArray := prog_1_method_14_code
def yX2_distances : MethodName := ⟨RX2, "distances", "(I)I"⟩
abbrev cX2_pack : ByteArray := prog_1_method_15_code
def yX2_pack : MethodName := ⟨RX2, "pack", "(I)I"⟩
abbrev cX2_word : ByteArray := prog_1_method_16_code
def yX2_word : MethodName := ⟨RX2, "word", "(I)I"⟩
abbrev cX2_alike : ByteArray := prog_1_method_17_code
def yX2_alike : MethodName := ⟨RX2, "alike", "(II)I"⟩
abbrev cX2_same : ByteArray := prog_1_method_18_code
def yX2_same : MethodName := ⟨RX2, "same", "(IIII)I"⟩
abbrev cX2_total : ByteArray := prog_1_method_19_code
def yX2_total : MethodName := ⟨RX2, "total", "(I)I"⟩
abbrev cX2_entered : ByteArray := prog_1_method_20_code
def yX2_entered : MethodName := ⟨RX2, "entered", "()I"⟩
abbrev cX2_deep : ByteArray := prog_1_method_21_code
def yX2_deep : MethodName := ⟨RX2, "deep", "(I)I"⟩
abbrev cX2_count : ByteArray := prog_1_method_22_code
def yX2_count : MethodName := ⟨RX2, "count", "(I)I"⟩
abbrev cX2_clear : ByteArray := prog_1_method_23_code
def yX2_clear : MethodName := ⟨RX2, "clear", "()I"⟩
abbrev cX2_isUnknown : ByteArray := prog_1_method_24_code
def yX2_isUnknown : MethodName := ⟨RX2, "isUnknown", "(I)Z"⟩
abbrev cX2_isFull : ByteArray := prog_1_method_25_code
def yX2_isFull : MethodName := ⟨RX2, "isFull", "()Z"⟩
abbrev cX2_failed : ByteArray := prog_1_method_26_code
def yX2_failed : MethodName := ⟨RX2, "failed", "(I)I"⟩
abbrev cX2_begun : ByteArray := prog_1_method_27_code
def yX2_begun : MethodName := ⟨RX2, "begun", "(II)I"⟩
abbrev cX2_begunWithRows : ByteArray := prog_1_method_28_code
def yX2_begunWithRows : MethodName := ⟨RX2, "begunWithRows", "(III)I"⟩
abbrev cX2_canMultiply : ByteArray := prog_1_method_29_code
def yX2_canMultiply : MethodName := ⟨RX2, "canMultiply", "(LNestTables$Table;LNestTables$Table;)Z"⟩
abbrev cX2_multiply : ByteArray := prog_1_method_30_code
def yX2_multiply : MethodName := ⟨RX2, "multiply", "(LNestTables$Row;ILNestTables$Row;LNestTables$Table;)V"⟩
abbrev cX2_multiplyBits : ByteArray := prog_1_method_31_code
def yX2_multiplyBits : MethodName := ⟨RX2, "multiplyBits", "(LNestTables$Row;ILNestTables$Row;LNestTables$Table;)V"⟩
abbrev cX2_multiplyNumbers : ByteArray := prog_1_method_32_code
def yX2_multiplyNumbers : MethodName := ⟨RX2, "multiplyNumbers", "(LNestTables$Row;ILNestTables$Row;LNestTables$Table;)V"⟩
abbrev cX2_multiplyReals : ByteArray := prog_1_method_33_code
def yX2_multiplyReals : MethodName := ⟨RX2, "multiplyReals", "(LNestTables$Row;ILNestTables$Row;LNestTables$Table;)V"⟩
abbrev cX2_isNoProduct : ByteArray := prog_1_method_34_code
def yX2_isNoProduct : MethodName := ⟨RX2, "isNoProduct", "(DD)Z"⟩
abbrev cX2_isNoSum : ByteArray := prog_1_method_35_code
def yX2_isNoSum : MethodName := ⟨RX2, "isNoSum", "(DD)Z"⟩
abbrev cX2_isEndless : ByteArray := prog_1_method_36_code
def yX2_isEndless : MethodName := ⟨RX2, "isEndless", "(D)Z"⟩
abbrev cX2_writeSteps : ByteArray := prog_1_method_37_code
def yX2_writeSteps : MethodName := ⟨RX2, "writeSteps", "([I[II)V"⟩
abbrev cX2_shortenThrough : ByteArray := prog_1_method_38_code
def yX2_shortenThrough : MethodName := ⟨RX2, "shortenThrough", "(I[I[I)V"⟩
abbrev cX2_packRow : ByteArray := prog_1_method_39_code
def yX2_packRow : MethodName := ⟨RX2, "packRow", "([II)V"⟩
abbrev cX2_totalOfTable : ByteArray := prog_1_method_40_code
def yX2_totalOfTable : MethodName := ⟨RX2, "totalOfTable", "(II)I"⟩
abbrev cX2_totalOfRow : ByteArray := prog_1_method_41_code
def yX2_totalOfRow : MethodName := ⟨RX2, "totalOfRow", "(LNestTables$Row;I)I"⟩
abbrev cX2_totalOfLinks : ByteArray := prog_1_method_42_code
def yX2_totalOfLinks : MethodName := ⟨RX2, "totalOfLinks", "(LNestTables$Row;I)I"⟩
abbrev cX2_depthOfTable : ByteArray := prog_1_method_43_code
def yX2_depthOfTable : MethodName := ⟨RX2, "depthOfTable", "(II)I"⟩
abbrev cX2_deepestLink : ByteArray := prog_1_method_44_code
def yX2_deepestLink : MethodName := ⟨RX2, "deepestLink", "(LNestTables$Row;I)I"⟩
abbrev cX2_standingRows : ByteArray := prog_1_method_45_code
def yX2_standingRows : MethodName := ⟨RX2, "standingRows", "()I"⟩
abbrev cX2_allFallenPlaces : ByteArray := prog_1_method_46_code
def yX2_allFallenPlaces : MethodName := ⟨RX2, "allFallenPlaces", "()I"⟩
def RX3 : String := "NestTablesModel"
def TX3 : u_T := fun k => match k with
  | 0 => ("NestTablesModel", "tables", "I", false)
  | 1 => ("NestTablesModel", "kinds", "[I", true)
  | 2 => ("NestTablesModel", "highs", "[I", true)
  | 3 => ("NestTablesModel", "places", "[I", true)
  | 4 => ("NestTablesModel", "rows", "I", false)
  | 5 => ("NestTablesModel", "longs", "[I", true)
  | 6 => ("NestTablesModel", "cells", "[I", true)
  | 7 => ("NestTablesModel", "reals", "[D", true)
  | 8 => ("NestTablesModel", "failed", "I", false)
  | 9 => ("NestTablesModel", "comesTo", "[I", true)
  | 10 => ("NestTablesModel", "wordMany", "I", false)
  | 11 => ("NestTablesModel", "words", "[I", true)
  | 12 => ("NestTablesModel", "entered", "I", false)
  | 13 => ("NestTablesModel", "pile", "[I", true)
  | 14 => ("NestTablesModel", "pileAt", "[I", true)
  | 15 => ("NestTablesModel", "states", "[I", true)
  | 16 => ("NestTablesModel", "found", "[I", true)
  | 17 => ("NestTablesModel", "enteredBy", "[I", true)
  | 18 => ("NestTablesModel", "cause", "I", false)
  | 19 => ("NestTablesModel", "entering", "I", false)
  | _ => ("NestTablesModel", "justDone", "I", false)
def tyX3 : Nat → FieldType := fun k => match k with
  | 0 => .int
  | 1 => .array .int
  | 2 => .array .int
  | 3 => .array .int
  | 4 => .int
  | 5 => .array .int
  | 6 => .array .int
  | 7 => .array .double
  | 8 => .int
  | 9 => .array .int
  | 10 => .int
  | 11 => .array .int
  | 12 => .int
  | 13 => .array .int
  | 14 => .array .int
  | 15 => .array .int
  | 16 => .array .int
  | 17 => .array .int
  | 18 => .int
  | 19 => .int
  | _ => .int
abbrev wsX30 : List Cond := u_ws RX3 TX3 21
theorem nmX3 : ∀ a, a < 21 → ∀ b, b < 21 → a ≠ b → (TX3 a).2.1 ≠ (TX3 b).2.1 := by decide +kernel
theorem tyX3_ok : ∀ k, k < 21 → parseFieldDescriptor (TX3 k).2.2.1 = some (tyX3 k) := by decide +kernel
abbrev cX3_init : ByteArray := prog_5_method_1_code
def yX3_init : MethodName := ⟨RX3, "<init>", "()V"⟩
abbrev cX3_in : ByteArray := prog_5_method_3_code
def yX3_in : MethodName := ⟨RX3, "in", "(III)Z"⟩
abbrev cX3_fails : ByteArray := prog_5_method_4_code
def yX3_fails : MethodName := ⟨RX3, "fails", "(I)I"⟩
abbrev cX3_isTable : ByteArray := prog_5_method_5_code
def yX3_isTable : MethodName := ⟨RX3, "isTable", "(I)Z"⟩
abbrev cX3_newTable : ByteArray := prog_5_method_6_code
def yX3_newTable : MethodName := ⟨RX3, "newTable", "(II)I"⟩
abbrev cX3_newRow : ByteArray := prog_5_method_7_code
def yX3_newRow : MethodName := ⟨RX3, "newRow", "(II)I"⟩
abbrev cX3_newEven : ByteArray := prog_5_method_8_code
def yX3_newEven : MethodName := ⟨RX3, "newEven", "(III)I"⟩
abbrev cX3_table : ByteArray := prog_5_method_9_code
def yX3_table : MethodName := ⟨RX3, "table", "(II)I"⟩
abbrev cX3_isPlace : ByteArray := prog_5_method_10_code
def yX3_isPlace : MethodName := ⟨RX3, "isPlace", "(II)Z"⟩
abbrev cX3_row : ByteArray := prog_5_method_11_code
def yX3_row : MethodName := ⟨RX3, "row", "(III)I"⟩
abbrev cX3_squeeze : ByteArray := prog_5_method_12_code
def yX3_squeeze : MethodName := ⟨RX3, "squeeze", "()V"⟩
abbrev cX3_share : ByteArray := prog_5_method_13_code
def yX3_share : MethodName := ⟨RX3, "share", "(IIII)I"⟩
abbrev cX3_fall : ByteArray := prog_5_method_14_code
def yX3_fall : MethodName := ⟨RX3, "fall", "(II)I"⟩
abbrev cX3_cellCause : ByteArray := prog_5_method_15_code
def yX3_cellCause : MethodName := ⟨RX3, "cellCause", "(III)I"⟩
abbrev cX3_put : ByteArray := prog_5_method_16_code
def yX3_put : MethodName := ⟨RX3, "put", "(IIII)I"⟩
abbrev cX3_get : ByteArray := prog_5_method_17_code
def yX3_get : MethodName := ⟨RX3, "get", "(III)I"⟩
abbrev cX3_toldAt : ByteArray := prog_5_method_18_code
def yX3_toldAt : MethodName := ⟨RX3, "toldAt", "(II)I"⟩
abbrev cX3_real : ByteArray := prog_5_method_19_code
def yX3_real : MethodName := ⟨RX3, "real", "(III)D"⟩
abbrev cX3_told : ByteArray := prog_5_method_20_code
def yX3_told : MethodName := ⟨RX3, "told", "(III)I"⟩
abbrev cX3_firstOdd : ByteArray := prog_5_method_21_code
def yX3_firstOdd : MethodName := ⟨RX3, "firstOdd", "(I)I"⟩
abbrev cX3_odd : ByteArray := prog_5_method_22_code
def yX3_odd : MethodName := ⟨RX3, "odd", "(I)I"⟩
abbrev cX3_copy : ByteArray := prog_5_method_23_code
def yX3_copy : MethodName := ⟨RX3, "copy", "(IIIIIII)I"⟩
abbrev cX3_isEven : ByteArray := prog_5_method_24_code
def yX3_isEven : MethodName := ⟨RX3, "isEven", "(I)Z"⟩
abbrev cX3_wideOf : ByteArray := prog_5_method_25_code
def yX3_wideOf : MethodName := ⟨RX3, "wideOf", "(I)I"⟩
abbrev cX3_cellOf : ByteArray := prog_5_method_26_code
def yX3_cellOf : MethodName := ⟨RX3, "cellOf", "(III)I"⟩
abbrev cX3_turned : ByteArray := prog_5_method_27_code
def yX3_turned : MethodName := ⟨RX3, "turned", "(I)I"⟩
abbrev cX3_hasNone : ByteArray := prog_5_method_28_code
def yX3_hasNone : MethodName := ⟨RX3, "hasNone", "(IDD)Z"⟩
abbrev cX3_noNumber : ByteArray := prog_5_method_29_code
def yX3_noNumber : MethodName := ⟨RX3, "noNumber", "()D"⟩
abbrev cX3_reckoned : ByteArray := prog_5_method_30_code
def yX3_reckoned : MethodName := ⟨RX3, "reckoned", "(IDD)D"⟩
abbrev cX3_product : ByteArray := prog_5_method_31_code
def yX3_product : MethodName := ⟨RX3, "product", "(II)I"⟩
abbrev cX3_distances : ByteArray := prog_5_method_32_code
def yX3_distances : MethodName := ⟨RX3, "distances", "(I)I"⟩
abbrev cX3_pack : ByteArray := prog_5_method_33_code
def yX3_pack : MethodName := ⟨RX3, "pack", "(I)I"⟩
abbrev cX3_word : ByteArray := prog_5_method_34_code
def yX3_word : MethodName := ⟨RX3, "word", "(I)I"⟩
abbrev cX3_areAlike : ByteArray := prog_5_method_35_code
def yX3_areAlike : MethodName := ⟨RX3, "areAlike", "(III)Z"⟩
abbrev cX3_alike : ByteArray := prog_5_method_36_code
def yX3_alike : MethodName := ⟨RX3, "alike", "(II)I"⟩
abbrev cX3_same : ByteArray := prog_5_method_37_code
def yX3_same : MethodName := ⟨RX3, "same", "(IIII)I"⟩
abbrev cX3_goOn : ByteArray := prog_5_method_38_code
def yX3_goOn : MethodName := ⟨RX3, "goOn", "(IZ)I"⟩
abbrev cX3_enter : ByteArray := prog_5_method_39_code
def yX3_enter : MethodName := ⟨RX3, "enter", "(IIZ)V"⟩
abbrev cX3_find : ByteArray := prog_5_method_40_code
def yX3_find : MethodName := ⟨RX3, "find", "(IZ)I"⟩
abbrev cX3_total : ByteArray := prog_5_method_41_code
def yX3_total : MethodName := ⟨RX3, "total", "(I)I"⟩
abbrev cX3_entered : ByteArray := prog_5_method_42_code
def yX3_entered : MethodName := ⟨RX3, "entered", "()I"⟩
abbrev cX3_deep : ByteArray := prog_5_method_43_code
def yX3_deep : MethodName := ⟨RX3, "deep", "(I)I"⟩
abbrev cX3_count : ByteArray := prog_5_method_44_code
def yX3_count : MethodName := ⟨RX3, "count", "(I)I"⟩
abbrev cX3_clear : ByteArray := prog_5_method_45_code
def yX3_clear : MethodName := ⟨RX3, "clear", "()I"⟩
def RJxe99ae : String := "java/lang/Double"
def TJxe99ae : u_T := fun k => match k with
  | _ => ("", "", "", false)
def tyJxe99ae : Nat → FieldType := fun k => match k with
  | _ => .int
abbrev wsJxe99ae0 : List Cond := u_ws RJxe99ae TJxe99ae 0
theorem nmJxe99ae : ∀ a, a < 0 → ∀ b, b < 0 → a ≠ b → (TJxe99ae a).2.1 ≠ (TJxe99ae b).2.1 := by decide +kernel
theorem tyJxe99ae_ok : ∀ k, k < 0 → parseFieldDescriptor (TJxe99ae k).2.2.1 = some (tyJxe99ae k) := by decide +kernel
def RJ9 : String := "java/lang/Math"
def TJ9 : u_T := fun k => match k with
  | _ => ("", "", "", false)
def tyJ9 : Nat → FieldType := fun k => match k with
  | _ => .int
abbrev wsJ90 : List Cond := u_ws RJ9 TJ9 0
theorem nmJ9 : ∀ a, a < 0 → ∀ b, b < 0 → a ≠ b → (TJ9 a).2.1 ≠ (TJ9 b).2.1 := by decide +kernel
theorem tyJ9_ok : ∀ k, k < 0 → parseFieldDescriptor (TJ9 k).2.2.1 = some (tyJ9 k) := by decide +kernel
abbrev cJ9_max_7cf53 : ByteArray := prog_7_method_65_code
def yJ9_max_7cf53 : MethodName := ⟨RJ9, "max", "(II)I"⟩
def RJ10 : String := "java/lang/System"
def TJ10 : u_T := fun k => match k with
  | _ => ("", "", "", false)
def tyJ10 : Nat → FieldType := fun k => match k with
  | _ => .int
abbrev wsJ100 : List Cond := u_ws RJ10 TJ10 0
theorem nmJ10 : ∀ a, a < 0 → ∀ b, b < 0 → a ≠ b → (TJ10 a).2.1 ≠ (TJ10 b).2.1 := by decide +kernel
theorem tyJ10_ok : ∀ k, k < 0 → parseFieldDescriptor (TJ10 k).2.2.1 = some (tyJ10 k) := by decide +kernel
def RJ7 : String := "java/util/Arrays"
def TJ7 : u_T := fun k => match k with
  | _ => ("", "", "", false)
def tyJ7 : Nat → FieldType := fun k => match k with
  | _ => .int
abbrev wsJ70 : List Cond := u_ws RJ7 TJ7 0
theorem nmJ7 : ∀ a, a < 0 → ∀ b, b < 0 → a ≠ b → (TJ7 a).2.1 ≠ (TJ7 b).2.1 := by decide +kernel
theorem tyJ7_ok : ∀ k, k < 0 → parseFieldDescriptor (TJ7 k).2.2.1 = some (tyJ7 k) := by decide +kernel
abbrev cJ7_fill_53178 : ByteArray := prog_9_method_103_code
def yJ7_fill_53178 : MethodName := ⟨RJ7, "fill", "([II)V"⟩
def RL : String := "NestTablesLaw"
abbrev cL_law : ByteArray := code
def yL_law : MethodName := ⟨RL, "law", "([I)Z"⟩
abbrev vwCl : List vw_C := [(RX0, TX0, 4), (RX1, TX1, 3), (RX2, TX2, 10), (RX3, TX3, 21)]
