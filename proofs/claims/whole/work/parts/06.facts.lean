/-! What the tables say of the lists of the interpreter. -/
def I_T (ci : Nat) : u_T := match ci with
  | 0 => TX0
  | 1 => TX1
  | 2 => TX2
  | _ => TX3
def I_ty (ci : Nat) : Nat → FieldType := match ci with
  | 0 => tyX0
  | 1 => tyX1
  | 2 => tyX2
  | _ => tyX3
def I_wl : List Cond := lw_tbl.filter goodWord
theorem f_in {w : Cond} (h : w ∈ lw_tbl) (g : goodWord w = true) : w ∈ I_wl := List.mem_filter.mpr ⟨h, g⟩
theorem f_good : ∀ w ∈ I_wl, w ∈ lw_tbl ∧ ((w.onTables && w.keeps) = true ∨ ∃ ty, w = .arrayClass ty) := fun w h => ⟨(List.mem_filter.mp h).1, good_of_word (List.mem_filter.mp h).2⟩
set_option maxRecDepth 20000 in
theorem f_fl : ∀ q ∈ I_fl, q.2.2.1 < 4 ∧ q.2.2.2 < I_N q.2.2.1 ∧ Cond.fieldLink (I_cn q.1) q.2.1 (I_T q.2.2.1 q.2.2.2).1 (I_T q.2.2.1 q.2.2.2).2.1 (I_T q.2.2.1 q.2.2.2).2.2.1 ∈ lw_tbl := by decide +kernel
set_option maxRecDepth 20000 in
theorem f_ck : ∀ q ∈ I_ck, Cond.classLink (I_cn q.1) q.2.1 (I_cn q.2.2) ∈ lw_tbl := by decide +kernel
set_option maxRecDepth 20000 in
theorem f_ci : ∀ q ∈ I_ci, Cond.constant (I_cn q.1) q.2.1 q.2.2 ∈ lw_tbl := by decide +kernel
set_option maxRecDepth 20000 in
theorem f_cd : ∀ q ∈ I_cd, Cond.constantDouble (I_cn q.1) q.2.1 q.2.2 ∈ lw_tbl := by decide +kernel
set_option maxRecDepth 20000 in
theorem f_cl : ∀ q ∈ I_cl, Cond.constantLong (I_cn q.1) q.2.1 q.2.2 ∈ lw_tbl := by decide +kernel
set_option maxRecDepth 20000 in
theorem f_ws : ∀ ci, ci < 4 → ∀ w ∈ u_ws (I_cn ci) (I_T ci) (I_N ci), w ∈ I_wl := by decide +kernel
set_option maxRecDepth 20000 in
theorem f_inst : ∀ ci, ci < 4 → Cond.instantiable (I_cn ci) (I_N ci) ∈ lw_tbl ∧ Cond.initialized (I_cn ci) ∈ lw_tbl := by decide +kernel
theorem f_ty : ∀ ci, ci < 4 → ∀ k, k < I_N ci → parseFieldDescriptor (I_T ci k).2.2.1 = some (I_ty ci k) := by decide +kernel
theorem f_nm : ∀ ci, ci < 4 → ∀ a, a < I_N ci → ∀ b, b < I_N ci → a ≠ b → (I_T ci a).2.1 ≠ (I_T ci b).2.1 := by decide +kernel
theorem f_def : ∀ ci, ci < 4 → ∀ k, k < I_N ci → defaultValue (I_ty ci k) = vp_V (I_def ci) k := by decide +kernel
theorem f_cl4 : ∀ ci, ci < 4 → vwCl[ci]? = some (I_cn ci, I_T ci, I_N ci) := by
  intro ci h
  match ci, h with
  | 0, _ => rfl
  | 1, _ => rfl
  | 2, _ => rfl
  | 3, _ => rfl
  | k + 4, h => omega
def I_sp (t : Nat) : MethodName := if t < 1000 then I_name t else if t = 1001 then objectInit else if t = 1002 then arraycopyName else if t = 1003 then ⟨"java/lang/Double", "longBitsToDouble", "(J)D"⟩ else Lib.Math.max.name
set_option maxRecDepth 20000 in
theorem f_ml : ∀ q ∈ I_ml, (q.2.2 < 113 ∨ 1000 < q.2.2) ∧ Cond.methodLink (I_cn q.1) q.2.1 (I_sp q.2.2) ∈ lw_tbl := by decide +kernel
set_option maxRecDepth 20000 in
theorem f_code_0 : Cond.code yX0_init cX0_init 3 none ∈ lw_tbl := List.mem_of_getElem? (i := 142) rfl
set_option maxRecDepth 20000 in
theorem f_code_1 : Cond.code yX0_length cX0_length 1 (some .int) ∈ lw_tbl := List.mem_of_getElem? (i := 216) rfl
set_option maxRecDepth 20000 in
theorem f_code_2 : Cond.code yX0_hasCells cX0_hasCells 3 (some .boolean) ∈ lw_tbl := List.mem_of_getElem? (i := 190) rfl
set_option maxRecDepth 20000 in
theorem f_code_3 : Cond.code yX0_write cX0_write 3 none ∈ lw_tbl := List.mem_of_getElem? (i := 194) rfl
set_option maxRecDepth 20000 in
theorem f_code_4 : Cond.code yX0_cut cX0_cut 2 (some .int) ∈ lw_tbl := List.mem_of_getElem? (i := 203) rfl
set_option maxRecDepth 20000 in
theorem f_code_5 : Cond.code yX0_sumOfCells cX0_sumOfCells 3 (some .int) ∈ lw_tbl := List.mem_of_getElem? (i := 363) rfl
set_option maxRecDepth 20000 in
theorem f_code_6 : Cond.code yX0_isNoNumber cX0_isNoNumber 2 (some .boolean) ∈ lw_tbl := List.mem_of_getElem? (i := 279) rfl
set_option maxRecDepth 20000 in
theorem f_code_7 : Cond.code yX0_markNoNumber cX0_markNoNumber 2 none ∈ lw_tbl := List.mem_of_getElem? (i := 291) rfl
set_option maxRecDepth 20000 in
theorem f_code_8 : Cond.code yX0_takeCells cX0_takeCells 5 none ∈ lw_tbl := List.mem_of_getElem? (i := 235) rfl
set_option maxRecDepth 20000 in
theorem f_code_9 : Cond.code yX0_hasTheCellsOf cX0_hasTheCellsOf 3 (some .boolean) ∈ lw_tbl := List.mem_of_getElem? (i := 333) rfl
set_option maxRecDepth 20000 in
theorem f_code_10 : Cond.code yX0_hasTheCellOf cX0_hasTheCellOf 3 (some .boolean) ∈ lw_tbl := List.mem_of_getElem? (i := 338) rfl
set_option maxRecDepth 20000 in
theorem f_code_11 : Cond.code yX1_init cX1_init 1 none ∈ lw_tbl := List.mem_of_getElem? (i := 52) rfl
set_option maxRecDepth 20000 in
theorem f_code_12 : Cond.code yX1_begin cX1_begin 4 none ∈ lw_tbl := List.mem_of_getElem? (i := 124) rfl
set_option maxRecDepth 20000 in
theorem f_code_13 : Cond.code yX1_hasPlace cX1_hasPlace 2 (some .boolean) ∈ lw_tbl := List.mem_of_getElem? (i := 137) rfl
set_option maxRecDepth 20000 in
theorem f_code_14 : Cond.code yX1_placeCause cX1_placeCause 2 (some .int) ∈ lw_tbl := List.mem_of_getElem? (i := 185) rfl
set_option maxRecDepth 20000 in
theorem f_code_15 : Cond.code yX1_cellCause cX1_cellCause 4 (some .int) ∈ lw_tbl := List.mem_of_getElem? (i := 181) rfl
set_option maxRecDepth 20000 in
theorem f_code_16 : Cond.code yX1_isEven cX1_isEven 2 (some .boolean) ∈ lw_tbl := List.mem_of_getElem? (i := 246) rfl
set_option maxRecDepth 20000 in
theorem f_code_17 : Cond.code yX1_wide cX1_wide 1 (some .int) ∈ lw_tbl := List.mem_of_getElem? (i := 250) rfl
set_option maxRecDepth 20000 in
theorem f_code_18 : Cond.code yX1_firstNotSquare cX1_firstNotSquare 2 (some .int) ∈ lw_tbl := List.mem_of_getElem? (i := 224) rfl
set_option maxRecDepth 20000 in
theorem f_code_19 : Cond.code yX1_fallenPlaces cX1_fallenPlaces 3 (some .int) ∈ lw_tbl := List.mem_of_getElem? (i := 312) rfl
set_option maxRecDepth 20000 in
theorem f_code_20 : Cond.code yX1_rowsNotYetCounted cX1_rowsNotYetCounted 4 (some .int) ∈ lw_tbl := List.mem_of_getElem? (i := 395) rfl
set_option maxRecDepth 20000 in
theorem f_code_21 : Cond.code yX1_agreesWith cX1_agreesWith 6 (some .boolean) ∈ lw_tbl := List.mem_of_getElem? (i := 329) rfl
set_option maxRecDepth 20000 in
theorem f_code_22 : Cond.code yX2_init cX2_init 2 none ∈ lw_tbl := List.mem_of_getElem? (i := 43) rfl
set_option maxRecDepth 20000 in
theorem f_code_23 : Cond.code yX2_table cX2_table 3 (some .int) ∈ lw_tbl := List.mem_of_getElem? (i := 105) rfl
set_option maxRecDepth 20000 in
theorem f_code_24 : Cond.code yX2_row cX2_row 5 (some .int) ∈ lw_tbl := List.mem_of_getElem? (i := 128) rfl
set_option maxRecDepth 20000 in
theorem f_code_25 : Cond.code yX2_share cX2_share 7 (some .int) ∈ lw_tbl := List.mem_of_getElem? (i := 168) rfl
set_option maxRecDepth 20000 in
theorem f_code_26 : Cond.code yX2_fall cX2_fall 5 (some .int) ∈ lw_tbl := List.mem_of_getElem? (i := 172) rfl
set_option maxRecDepth 20000 in
theorem f_code_27 : Cond.code yX2_put cX2_put 7 (some .int) ∈ lw_tbl := List.mem_of_getElem? (i := 176) rfl
set_option maxRecDepth 20000 in
theorem f_code_28 : Cond.code yX2_get cX2_get 6 (some .int) ∈ lw_tbl := List.mem_of_getElem? (i := 199) rfl
set_option maxRecDepth 20000 in
theorem f_code_29 : Cond.code yX2_real cX2_real 5 (some .double) ∈ lw_tbl := List.mem_of_getElem? (i := 207) rfl
set_option maxRecDepth 20000 in
theorem f_code_30 : Cond.code yX2_told cX2_told 6 (some .int) ∈ lw_tbl := List.mem_of_getElem? (i := 211) rfl
set_option maxRecDepth 20000 in
theorem f_code_31 : Cond.code yX2_odd cX2_odd 2 (some .int) ∈ lw_tbl := List.mem_of_getElem? (i := 220) rfl
set_option maxRecDepth 20000 in
theorem f_code_32 : Cond.code yX2_copy cX2_copy 12 (some .int) ∈ lw_tbl := List.mem_of_getElem? (i := 230) rfl
set_option maxRecDepth 20000 in
theorem f_code_33 : Cond.code yX2_turned cX2_turned 7 (some .int) ∈ lw_tbl := List.mem_of_getElem? (i := 242) rfl
set_option maxRecDepth 20000 in
theorem f_code_34 : Cond.code yX2_product cX2_product 9 (some .int) ∈ lw_tbl := List.mem_of_getElem? (i := 260) rfl
set_option maxRecDepth 20000 in
theorem f_code_35 : Cond.code yX2_distances cX2_distances 7 (some .int) ∈ lw_tbl := List.mem_of_getElem? (i := 298) rfl
set_option maxRecDepth 20000 in
theorem f_code_36 : Cond.code yX2_pack cX2_pack 5 (some .int) ∈ lw_tbl := List.mem_of_getElem? (i := 308) rfl
set_option maxRecDepth 20000 in
theorem f_code_37 : Cond.code yX2_word cX2_word 2 (some .int) ∈ lw_tbl := List.mem_of_getElem? (i := 321) rfl
set_option maxRecDepth 20000 in
theorem f_code_38 : Cond.code yX2_alike cX2_alike 3 (some .int) ∈ lw_tbl := List.mem_of_getElem? (i := 325) rfl
set_option maxRecDepth 20000 in
theorem f_code_39 : Cond.code yX2_same cX2_same 7 (some .int) ∈ lw_tbl := List.mem_of_getElem? (i := 343) rfl
set_option maxRecDepth 20000 in
theorem f_code_40 : Cond.code yX2_total cX2_total 3 (some .int) ∈ lw_tbl := List.mem_of_getElem? (i := 347) rfl
set_option maxRecDepth 20000 in
theorem f_code_41 : Cond.code yX2_entered cX2_entered 1 (some .int) ∈ lw_tbl := List.mem_of_getElem? (i := 368) rfl
set_option maxRecDepth 20000 in
theorem f_code_42 : Cond.code yX2_deep cX2_deep 3 (some .int) ∈ lw_tbl := List.mem_of_getElem? (i := 372) rfl
set_option maxRecDepth 20000 in
theorem f_code_43 : Cond.code yX2_count cX2_count 2 (some .int) ∈ lw_tbl := List.mem_of_getElem? (i := 387) rfl
set_option maxRecDepth 20000 in
theorem f_code_44 : Cond.code yX2_clear cX2_clear 2 (some .int) ∈ lw_tbl := List.mem_of_getElem? (i := 403) rfl
set_option maxRecDepth 20000 in
theorem f_code_45 : Cond.code yX2_isUnknown cX2_isUnknown 2 (some .boolean) ∈ lw_tbl := List.mem_of_getElem? (i := 132) rfl
set_option maxRecDepth 20000 in
theorem f_code_46 : Cond.code yX2_isFull cX2_isFull 1 (some .boolean) ∈ lw_tbl := List.mem_of_getElem? (i := 110) rfl
set_option maxRecDepth 20000 in
theorem f_code_47 : Cond.code yX2_failed cX2_failed 2 (some .int) ∈ lw_tbl := List.mem_of_getElem? (i := 115) rfl
set_option maxRecDepth 20000 in
theorem f_code_48 : Cond.code yX2_begun cX2_begun 4 (some .int) ∈ lw_tbl := List.mem_of_getElem? (i := 120) rfl
set_option maxRecDepth 20000 in
theorem f_code_49 : Cond.code yX2_begunWithRows cX2_begunWithRows 7 (some .int) ∈ lw_tbl := List.mem_of_getElem? (i := 256) rfl
set_option maxRecDepth 20000 in
theorem f_code_50 : Cond.code yX2_canMultiply cX2_canMultiply 2 (some .boolean) ∈ lw_tbl := List.mem_of_getElem? (i := 263) rfl
set_option maxRecDepth 20000 in
theorem f_code_51 : Cond.code yX2_multiply cX2_multiply 4 none ∈ lw_tbl := List.mem_of_getElem? (i := 266) rfl
set_option maxRecDepth 20000 in
theorem f_code_52 : Cond.code yX2_multiplyBits cX2_multiplyBits 6 none ∈ lw_tbl := List.mem_of_getElem? (i := 269) rfl
set_option maxRecDepth 20000 in
theorem f_code_53 : Cond.code yX2_multiplyNumbers cX2_multiplyNumbers 6 none ∈ lw_tbl := List.mem_of_getElem? (i := 272) rfl
set_option maxRecDepth 20000 in
theorem f_code_54 : Cond.code yX2_multiplyReals cX2_multiplyReals 10 none ∈ lw_tbl := List.mem_of_getElem? (i := 275) rfl
set_option maxRecDepth 20000 in
theorem f_code_55 : Cond.code yX2_isNoProduct cX2_isNoProduct 4 (some .boolean) ∈ lw_tbl := List.mem_of_getElem? (i := 282) rfl
set_option maxRecDepth 20000 in
theorem f_code_56 : Cond.code yX2_isNoSum cX2_isNoSum 4 (some .boolean) ∈ lw_tbl := List.mem_of_getElem? (i := 294) rfl
set_option maxRecDepth 20000 in
theorem f_code_57 : Cond.code yX2_isEndless cX2_isEndless 2 (some .boolean) ∈ lw_tbl := List.mem_of_getElem? (i := 285) rfl
set_option maxRecDepth 20000 in
theorem f_code_58 : Cond.code yX2_writeSteps cX2_writeSteps 4 none ∈ lw_tbl := List.mem_of_getElem? (i := 301) rfl
set_option maxRecDepth 20000 in
theorem f_code_59 : Cond.code yX2_shortenThrough cX2_shortenThrough 5 none ∈ lw_tbl := List.mem_of_getElem? (i := 304) rfl
set_option maxRecDepth 20000 in
theorem f_code_60 : Cond.code yX2_packRow cX2_packRow 5 none ∈ lw_tbl := List.mem_of_getElem? (i := 317) rfl
set_option maxRecDepth 20000 in
theorem f_code_61 : Cond.code yX2_totalOfTable cX2_totalOfTable 6 (some .int) ∈ lw_tbl := List.mem_of_getElem? (i := 351) rfl
set_option maxRecDepth 20000 in
theorem f_code_62 : Cond.code yX2_totalOfRow cX2_totalOfRow 3 (some .int) ∈ lw_tbl := List.mem_of_getElem? (i := 355) rfl
set_option maxRecDepth 20000 in
theorem f_code_63 : Cond.code yX2_totalOfLinks cX2_totalOfLinks 5 (some .int) ∈ lw_tbl := List.mem_of_getElem? (i := 359) rfl
set_option maxRecDepth 20000 in
theorem f_code_64 : Cond.code yX2_depthOfTable cX2_depthOfTable 7 (some .int) ∈ lw_tbl := List.mem_of_getElem? (i := 376) rfl
set_option maxRecDepth 20000 in
theorem f_code_65 : Cond.code yX2_deepestLink cX2_deepestLink 7 (some .int) ∈ lw_tbl := List.mem_of_getElem? (i := 380) rfl
set_option maxRecDepth 20000 in
theorem f_code_66 : Cond.code yX2_standingRows cX2_standingRows 3 (some .int) ∈ lw_tbl := List.mem_of_getElem? (i := 391) rfl
set_option maxRecDepth 20000 in
theorem f_code_67 : Cond.code yX2_allFallenPlaces cX2_allFallenPlaces 3 (some .int) ∈ lw_tbl := List.mem_of_getElem? (i := 399) rfl
set_option maxRecDepth 20000 in
theorem f_code_68 : Cond.code yX3_init cX3_init 1 none ∈ lw_tbl := List.mem_of_getElem? (i := 408) rfl
set_option maxRecDepth 20000 in
theorem f_code_69 : Cond.code yX3_in cX3_in 3 (some .boolean) ∈ lw_tbl := List.mem_of_getElem? (i := 480) rfl
set_option maxRecDepth 20000 in
theorem f_code_70 : Cond.code yX3_fails cX3_fails 2 (some .int) ∈ lw_tbl := List.mem_of_getElem? (i := 486) rfl
set_option maxRecDepth 20000 in
theorem f_code_71 : Cond.code yX3_isTable cX3_isTable 2 (some .boolean) ∈ lw_tbl := List.mem_of_getElem? (i := 499) rfl
set_option maxRecDepth 20000 in
theorem f_code_72 : Cond.code yX3_newTable cX3_newTable 4 (some .int) ∈ lw_tbl := List.mem_of_getElem? (i := 491) rfl
set_option maxRecDepth 20000 in
theorem f_code_73 : Cond.code yX3_newRow cX3_newRow 4 (some .int) ∈ lw_tbl := List.mem_of_getElem? (i := 512) rfl
set_option maxRecDepth 20000 in
theorem f_code_74 : Cond.code yX3_newEven cX3_newEven 6 (some .int) ∈ lw_tbl := List.mem_of_getElem? (i := 575) rfl
set_option maxRecDepth 20000 in
theorem f_code_75 : Cond.code yX3_table cX3_table 3 (some .int) ∈ lw_tbl := List.mem_of_getElem? (i := 477) rfl
set_option maxRecDepth 20000 in
theorem f_code_76 : Cond.code yX3_isPlace cX3_isPlace 3 (some .boolean) ∈ lw_tbl := List.mem_of_getElem? (i := 504) rfl
set_option maxRecDepth 20000 in
theorem f_code_77 : Cond.code yX3_row cX3_row 4 (some .int) ∈ lw_tbl := List.mem_of_getElem? (i := 495) rfl
set_option maxRecDepth 20000 in
theorem f_code_78 : Cond.code yX3_squeeze cX3_squeeze 4 none ∈ lw_tbl := List.mem_of_getElem? (i := 508) rfl
set_option maxRecDepth 20000 in
theorem f_code_79 : Cond.code yX3_share cX3_share 6 (some .int) ∈ lw_tbl := List.mem_of_getElem? (i := 517) rfl
set_option maxRecDepth 20000 in
theorem f_code_80 : Cond.code yX3_fall cX3_fall 4 (some .int) ∈ lw_tbl := List.mem_of_getElem? (i := 521) rfl
set_option maxRecDepth 20000 in
theorem f_code_81 : Cond.code yX3_cellCause cX3_cellCause 5 (some .int) ∈ lw_tbl := List.mem_of_getElem? (i := 529) rfl
set_option maxRecDepth 20000 in
theorem f_code_82 : Cond.code yX3_put cX3_put 7 (some .int) ∈ lw_tbl := List.mem_of_getElem? (i := 525) rfl
set_option maxRecDepth 20000 in
theorem f_code_83 : Cond.code yX3_get cX3_get 5 (some .int) ∈ lw_tbl := List.mem_of_getElem? (i := 534) rfl
set_option maxRecDepth 20000 in
theorem f_code_84 : Cond.code yX3_toldAt cX3_toldAt 3 (some .int) ∈ lw_tbl := List.mem_of_getElem? (i := 538) rfl
set_option maxRecDepth 20000 in
theorem f_code_85 : Cond.code yX3_real cX3_real 7 (some .double) ∈ lw_tbl := List.mem_of_getElem? (i := 542) rfl
set_option maxRecDepth 20000 in
theorem f_code_86 : Cond.code yX3_told cX3_told 5 (some .int) ∈ lw_tbl := List.mem_of_getElem? (i := 546) rfl
set_option maxRecDepth 20000 in
theorem f_code_87 : Cond.code yX3_firstOdd cX3_firstOdd 4 (some .int) ∈ lw_tbl := List.mem_of_getElem? (i := 554) rfl
set_option maxRecDepth 20000 in
theorem f_code_88 : Cond.code yX3_odd cX3_odd 2 (some .int) ∈ lw_tbl := List.mem_of_getElem? (i := 550) rfl
set_option maxRecDepth 20000 in
theorem f_code_89 : Cond.code yX3_copy cX3_copy 12 (some .int) ∈ lw_tbl := List.mem_of_getElem? (i := 558) rfl
set_option maxRecDepth 20000 in
theorem f_code_90 : Cond.code yX3_isEven cX3_isEven 5 (some .boolean) ∈ lw_tbl := List.mem_of_getElem? (i := 566) rfl
set_option maxRecDepth 20000 in
theorem f_code_91 : Cond.code yX3_wideOf cX3_wideOf 2 (some .int) ∈ lw_tbl := List.mem_of_getElem? (i := 570) rfl
set_option maxRecDepth 20000 in
theorem f_code_92 : Cond.code yX3_cellOf cX3_cellOf 4 (some .int) ∈ lw_tbl := List.mem_of_getElem? (i := 579) rfl
set_option maxRecDepth 20000 in
theorem f_code_93 : Cond.code yX3_turned cX3_turned 5 (some .int) ∈ lw_tbl := List.mem_of_getElem? (i := 562) rfl
set_option maxRecDepth 20000 in
theorem f_code_94 : Cond.code yX3_hasNone cX3_hasNone 7 (some .boolean) ∈ lw_tbl := List.mem_of_getElem? (i := 589) rfl
set_option maxRecDepth 20000 in
theorem f_code_95 : Cond.code yX3_noNumber cX3_noNumber 0 (some .double) ∈ lw_tbl := List.mem_of_getElem? (i := 594) rfl
set_option maxRecDepth 20000 in
theorem f_code_96 : Cond.code yX3_reckoned cX3_reckoned 5 (some .double) ∈ lw_tbl := List.mem_of_getElem? (i := 586) rfl
set_option maxRecDepth 20000 in
theorem f_code_97 : Cond.code yX3_product cX3_product 10 (some .int) ∈ lw_tbl := List.mem_of_getElem? (i := 583) rfl
set_option maxRecDepth 20000 in
theorem f_code_98 : Cond.code yX3_distances cX3_distances 9 (some .int) ∈ lw_tbl := List.mem_of_getElem? (i := 602) rfl
set_option maxRecDepth 20000 in
theorem f_code_99 : Cond.code yX3_pack cX3_pack 5 (some .int) ∈ lw_tbl := List.mem_of_getElem? (i := 606) rfl
set_option maxRecDepth 20000 in
theorem f_code_100 : Cond.code yX3_word cX3_word 2 (some .int) ∈ lw_tbl := List.mem_of_getElem? (i := 610) rfl
set_option maxRecDepth 20000 in
theorem f_code_101 : Cond.code yX3_areAlike cX3_areAlike 6 (some .boolean) ∈ lw_tbl := List.mem_of_getElem? (i := 618) rfl
set_option maxRecDepth 20000 in
theorem f_code_102 : Cond.code yX3_alike cX3_alike 5 (some .int) ∈ lw_tbl := List.mem_of_getElem? (i := 614) rfl
set_option maxRecDepth 20000 in
theorem f_code_103 : Cond.code yX3_same cX3_same 6 (some .int) ∈ lw_tbl := List.mem_of_getElem? (i := 622) rfl
set_option maxRecDepth 20000 in
theorem f_code_104 : Cond.code yX3_goOn cX3_goOn 9 (some .int) ∈ lw_tbl := List.mem_of_getElem? (i := 638) rfl
set_option maxRecDepth 20000 in
theorem f_code_105 : Cond.code yX3_enter cX3_enter 4 none ∈ lw_tbl := List.mem_of_getElem? (i := 634) rfl
set_option maxRecDepth 20000 in
theorem f_code_106 : Cond.code yX3_find cX3_find 5 (some .int) ∈ lw_tbl := List.mem_of_getElem? (i := 630) rfl
set_option maxRecDepth 20000 in
theorem f_code_107 : Cond.code yX3_total cX3_total 2 (some .int) ∈ lw_tbl := List.mem_of_getElem? (i := 626) rfl
set_option maxRecDepth 20000 in
theorem f_code_108 : Cond.code yX3_entered cX3_entered 1 (some .int) ∈ lw_tbl := List.mem_of_getElem? (i := 642) rfl
set_option maxRecDepth 20000 in
theorem f_code_109 : Cond.code yX3_deep cX3_deep 2 (some .int) ∈ lw_tbl := List.mem_of_getElem? (i := 646) rfl
set_option maxRecDepth 20000 in
theorem f_code_110 : Cond.code yX3_count cX3_count 7 (some .int) ∈ lw_tbl := List.mem_of_getElem? (i := 650) rfl
set_option maxRecDepth 20000 in
theorem f_code_111 : Cond.code yX3_clear cX3_clear 2 (some .int) ∈ lw_tbl := List.mem_of_getElem? (i := 654) rfl
set_option maxRecDepth 20000 in
theorem f_code_112 : Cond.code yJ7_fill_53178 cJ7_fill_53178 4 none ∈ lw_tbl := List.mem_of_getElem? (i := 147) rfl
def I_cok (q : I_M) : Prop := Cond.code q.1 q.2.1 q.2.2.1 q.2.2.2.1 ∈ lw_tbl
theorem f_cs0 : ∀ q ∈ (I_ms0), I_cok q := List.forall_mem_cons.mpr ⟨f_code_0, List.forall_mem_cons.mpr ⟨f_code_1, List.forall_mem_cons.mpr ⟨f_code_2, List.forall_mem_cons.mpr ⟨f_code_3, List.forall_mem_cons.mpr ⟨f_code_4, List.forall_mem_cons.mpr ⟨f_code_5, List.forall_mem_cons.mpr ⟨f_code_6, List.forall_mem_cons.mpr ⟨f_code_7, List.forall_mem_cons.mpr ⟨f_code_8, List.forall_mem_cons.mpr ⟨f_code_9, List.forall_mem_cons.mpr ⟨f_code_10, List.forall_mem_cons.mpr ⟨f_code_11, List.forall_mem_cons.mpr ⟨f_code_12, List.forall_mem_cons.mpr ⟨f_code_13, List.forall_mem_cons.mpr ⟨f_code_14, List.forall_mem_cons.mpr ⟨f_code_15, List.forall_mem_cons.mpr ⟨f_code_16, List.forall_mem_cons.mpr ⟨f_code_17, List.forall_mem_cons.mpr ⟨f_code_18, List.forall_mem_cons.mpr ⟨f_code_19, fun _ h => absurd h List.not_mem_nil⟩⟩⟩⟩⟩⟩⟩⟩⟩⟩⟩⟩⟩⟩⟩⟩⟩⟩⟩⟩
theorem f_cs1 : ∀ q ∈ (I_ms1), I_cok q := List.forall_mem_cons.mpr ⟨f_code_20, List.forall_mem_cons.mpr ⟨f_code_21, List.forall_mem_cons.mpr ⟨f_code_22, List.forall_mem_cons.mpr ⟨f_code_23, List.forall_mem_cons.mpr ⟨f_code_24, List.forall_mem_cons.mpr ⟨f_code_25, List.forall_mem_cons.mpr ⟨f_code_26, List.forall_mem_cons.mpr ⟨f_code_27, List.forall_mem_cons.mpr ⟨f_code_28, List.forall_mem_cons.mpr ⟨f_code_29, List.forall_mem_cons.mpr ⟨f_code_30, List.forall_mem_cons.mpr ⟨f_code_31, List.forall_mem_cons.mpr ⟨f_code_32, List.forall_mem_cons.mpr ⟨f_code_33, List.forall_mem_cons.mpr ⟨f_code_34, List.forall_mem_cons.mpr ⟨f_code_35, List.forall_mem_cons.mpr ⟨f_code_36, List.forall_mem_cons.mpr ⟨f_code_37, List.forall_mem_cons.mpr ⟨f_code_38, List.forall_mem_cons.mpr ⟨f_code_39, fun _ h => absurd h List.not_mem_nil⟩⟩⟩⟩⟩⟩⟩⟩⟩⟩⟩⟩⟩⟩⟩⟩⟩⟩⟩⟩
theorem f_cs2 : ∀ q ∈ (I_ms2), I_cok q := List.forall_mem_cons.mpr ⟨f_code_40, List.forall_mem_cons.mpr ⟨f_code_41, List.forall_mem_cons.mpr ⟨f_code_42, List.forall_mem_cons.mpr ⟨f_code_43, List.forall_mem_cons.mpr ⟨f_code_44, List.forall_mem_cons.mpr ⟨f_code_45, List.forall_mem_cons.mpr ⟨f_code_46, List.forall_mem_cons.mpr ⟨f_code_47, List.forall_mem_cons.mpr ⟨f_code_48, List.forall_mem_cons.mpr ⟨f_code_49, List.forall_mem_cons.mpr ⟨f_code_50, List.forall_mem_cons.mpr ⟨f_code_51, List.forall_mem_cons.mpr ⟨f_code_52, List.forall_mem_cons.mpr ⟨f_code_53, List.forall_mem_cons.mpr ⟨f_code_54, List.forall_mem_cons.mpr ⟨f_code_55, List.forall_mem_cons.mpr ⟨f_code_56, List.forall_mem_cons.mpr ⟨f_code_57, List.forall_mem_cons.mpr ⟨f_code_58, List.forall_mem_cons.mpr ⟨f_code_59, fun _ h => absurd h List.not_mem_nil⟩⟩⟩⟩⟩⟩⟩⟩⟩⟩⟩⟩⟩⟩⟩⟩⟩⟩⟩⟩
theorem f_cs3 : ∀ q ∈ (I_ms3), I_cok q := List.forall_mem_cons.mpr ⟨f_code_60, List.forall_mem_cons.mpr ⟨f_code_61, List.forall_mem_cons.mpr ⟨f_code_62, List.forall_mem_cons.mpr ⟨f_code_63, List.forall_mem_cons.mpr ⟨f_code_64, List.forall_mem_cons.mpr ⟨f_code_65, List.forall_mem_cons.mpr ⟨f_code_66, List.forall_mem_cons.mpr ⟨f_code_67, List.forall_mem_cons.mpr ⟨f_code_68, List.forall_mem_cons.mpr ⟨f_code_69, List.forall_mem_cons.mpr ⟨f_code_70, List.forall_mem_cons.mpr ⟨f_code_71, List.forall_mem_cons.mpr ⟨f_code_72, List.forall_mem_cons.mpr ⟨f_code_73, List.forall_mem_cons.mpr ⟨f_code_74, List.forall_mem_cons.mpr ⟨f_code_75, List.forall_mem_cons.mpr ⟨f_code_76, List.forall_mem_cons.mpr ⟨f_code_77, List.forall_mem_cons.mpr ⟨f_code_78, List.forall_mem_cons.mpr ⟨f_code_79, fun _ h => absurd h List.not_mem_nil⟩⟩⟩⟩⟩⟩⟩⟩⟩⟩⟩⟩⟩⟩⟩⟩⟩⟩⟩⟩
theorem f_cs4 : ∀ q ∈ (I_ms4), I_cok q := List.forall_mem_cons.mpr ⟨f_code_80, List.forall_mem_cons.mpr ⟨f_code_81, List.forall_mem_cons.mpr ⟨f_code_82, List.forall_mem_cons.mpr ⟨f_code_83, List.forall_mem_cons.mpr ⟨f_code_84, List.forall_mem_cons.mpr ⟨f_code_85, List.forall_mem_cons.mpr ⟨f_code_86, List.forall_mem_cons.mpr ⟨f_code_87, List.forall_mem_cons.mpr ⟨f_code_88, List.forall_mem_cons.mpr ⟨f_code_89, List.forall_mem_cons.mpr ⟨f_code_90, List.forall_mem_cons.mpr ⟨f_code_91, List.forall_mem_cons.mpr ⟨f_code_92, List.forall_mem_cons.mpr ⟨f_code_93, List.forall_mem_cons.mpr ⟨f_code_94, List.forall_mem_cons.mpr ⟨f_code_95, List.forall_mem_cons.mpr ⟨f_code_96, List.forall_mem_cons.mpr ⟨f_code_97, List.forall_mem_cons.mpr ⟨f_code_98, List.forall_mem_cons.mpr ⟨f_code_99, fun _ h => absurd h List.not_mem_nil⟩⟩⟩⟩⟩⟩⟩⟩⟩⟩⟩⟩⟩⟩⟩⟩⟩⟩⟩⟩
theorem f_cs5 : ∀ q ∈ (I_ms5.take 13), I_cok q := List.forall_mem_cons.mpr ⟨f_code_100, List.forall_mem_cons.mpr ⟨f_code_101, List.forall_mem_cons.mpr ⟨f_code_102, List.forall_mem_cons.mpr ⟨f_code_103, List.forall_mem_cons.mpr ⟨f_code_104, List.forall_mem_cons.mpr ⟨f_code_105, List.forall_mem_cons.mpr ⟨f_code_106, List.forall_mem_cons.mpr ⟨f_code_107, List.forall_mem_cons.mpr ⟨f_code_108, List.forall_mem_cons.mpr ⟨f_code_109, List.forall_mem_cons.mpr ⟨f_code_110, List.forall_mem_cons.mpr ⟨f_code_111, List.forall_mem_cons.mpr ⟨f_code_112, fun _ h => absurd h List.not_mem_nil⟩⟩⟩⟩⟩⟩⟩⟩⟩⟩⟩⟩⟩
theorem f_code (t : Nat) (ht : t < 113) : Cond.code (I_name t) (I_code t) (I_maxL t) (I_ret t) ∈ lw_tbl := by
  have key : ∀ q ∈ (I_ms0 ++ I_ms1 ++ I_ms2 ++ I_ms3 ++ I_ms4 ++ I_ms5).take 113, I_cok q := by
    intro q hq
    have e : (I_ms0 ++ I_ms1 ++ I_ms2 ++ I_ms3 ++ I_ms4 ++ I_ms5).take 113 = I_ms0 ++ I_ms1 ++ I_ms2 ++ I_ms3 ++ I_ms4 ++ I_ms5.take 13 := rfl
    rw [e] at hq
    simp only [List.mem_append] at hq
    rcases hq with ((((hq | hq) | hq) | hq) | hq) | hq
    · exact f_cs0 q hq
    · exact f_cs1 q hq
    · exact f_cs2 q hq
    · exact f_cs3 q hq
    · exact f_cs4 q hq
    · exact f_cs5 q hq
  have e2 : I_m t = ((I_ms0 ++ I_ms1 ++ I_ms2 ++ I_ms3 ++ I_ms4 ++ I_ms5).take 113).getD t (yL_law, cL_law, 8, some .boolean, 5) := by
    unfold I_m
    rw [List.getD_eq_getElem?_getD, List.getD_eq_getElem?_getD, List.getElem?_take, if_pos ht]
  have hlen : t < ((I_ms0 ++ I_ms1 ++ I_ms2 ++ I_ms3 ++ I_ms4 ++ I_ms5).take 113).length := by
    have : ((I_ms0 ++ I_ms1 ++ I_ms2 ++ I_ms3 ++ I_ms4 ++ I_ms5).take 113).length = 113 := rfl
    omega
  have hm : I_m t ∈ (I_ms0 ++ I_ms1 ++ I_ms2 ++ I_ms3 ++ I_ms4 ++ I_ms5).take 113 := by
    rw [e2, List.getD_eq_getElem?_getD, List.getElem?_eq_getElem hlen]
    exact List.getElem_mem hlen
  exact key _ hm

set_option maxRecDepth 20000 in
theorem f_mi : ∀ t, t < 113 → Cond.initialized (I_name t).cls ∈ lw_tbl ∧ plainName (I_name t).cls = true ∧ (I_name t).cls ≠ "java/lang/invoke/MethodHandle" ∧ (I_name t).cls ≠ "java/lang/invoke/VarHandle" ∧ (parseMethodDescriptor (I_name t).desc).map (fun d => d.parameters.length) = some (I_np t) ∧ I_maxL t ≤ 12 ∧ (I_name t).cls = I_cn (I_own t) ∧ I_own t < 5 := by decide +kernel
set_option maxRecDepth 20000 in
theorem f_k0 : ∀ t, t < 113 → I_kd t = 0 → Cond.instanceMethod (I_name t) ∈ lw_tbl ∧ Cond.selects (I_name t).cls (I_name t) (I_name t) ∈ lw_tbl ∧ I_own t < 4 := by decide +kernel
set_option maxRecDepth 20000 in
theorem f_k1 : ∀ t, t < 113 → I_kd t = 1 → Cond.static (I_name t) ∈ lw_tbl := by decide +kernel
set_option maxRecDepth 20000 in
theorem f_k2 : ∀ t, t < 113 → I_kd t = 2 → Cond.instanceMethod (I_name t) ∈ lw_tbl ∧ (I_name t).name = "<init>" ∧ I_ret t = none := by decide +kernel
set_option maxRecDepth 20000 in
theorem f_o : Cond.instanceMethod objectInit ∈ lw_tbl ∧ Cond.code objectInit ⟨#[0xb1]⟩ 1 none ∈ lw_tbl ∧ Cond.native arraycopyName ∈ lw_tbl ∧ Cond.static arraycopyName ∈ lw_tbl ∧ Cond.initialized "java/lang/System" ∈ lw_tbl ∧ Cond.native ⟨"java/lang/Double", "longBitsToDouble", "(J)D"⟩ ∈ lw_tbl ∧ Cond.static ⟨"java/lang/Double", "longBitsToDouble", "(J)D"⟩ ∈ lw_tbl ∧ Cond.initialized "java/lang/Double" ∈ lw_tbl ∧ Cond.static Lib.Math.max.name ∈ lw_tbl ∧ Cond.initialized "java/lang/Math" ∈ lw_tbl ∧ Cond.code Lib.Math.max.name Lib.Math.max.code 2 (some .int) ∈ lw_tbl := by decide +kernel
set_option maxRecDepth 20000 in
theorem f_a : Cond.arrayClass .int ∈ lw_tbl ∧ Cond.arrayClass .double ∈ lw_tbl ∧ Cond.arrayClass .boolean ∈ lw_tbl ∧ Cond.arrayOver (.object RX1) ∈ lw_tbl ∧ Cond.arrayOver (.object RX0) ∈ lw_tbl := by decide +kernel
theorem I_look_mem {α : Type} {l : List (Nat × Nat × α)} {o i : Nat} {v : α} (h : I_look l o i = some v) : (o, i, v) ∈ l := by
  unfold I_look at h
  cases hf : l.find? (fun q => q.1 == o && q.2.1 == i) with
  | none => rw [hf] at h; cases h
  | some q =>
    rw [hf] at h
    have h1 := List.find?_some hf
    have h2 := List.mem_of_find?_eq_some hf
    obtain ⟨a, b, c⟩ := q
    simp only [Bool.and_eq_true, beq_iff_eq] at h1
    obtain ⟨rfl, rfl⟩ := h1
    cases h
    exact h2
/-- what a field may take fits it -/
theorem f_fit : ∀ ci, ci < 4 → ∀ k, k < I_N ci → ∀ o, o < 6 → ((∀ x : Int32, I_fit o ci k false (.int x) = true → I_ty ci k = .int ∧ (I_T ci k).2.2.2 = false)) := by
  intro ci hci k hk o ho x h
  match ci, hci with
  | 0, _ => 
    have hk : k < 4 := hk
    match k, hk with
    | 0, _ => simp [I_fit] at h
    | 1, _ => simp [I_fit] at h
    | 2, _ => simp [I_fit] at h
    | 3, _ => exact ⟨rfl, rfl⟩
    | k + 4, hk => omega
  | 1, _ =>
    have hk : k < 3 := hk
    match k, hk with
    | 0, _ => simp [I_fit] at h
    | 1, _ => exact ⟨rfl, rfl⟩
    | 2, _ => exact ⟨rfl, rfl⟩
    | k + 3, hk => omega
  | 2, _ =>
    have hk : k < 10 := hk
    match k, hk with
    | 0, _ => simp [I_fit] at h
    | 1, _ => exact ⟨rfl, rfl⟩
    | 2, _ => exact ⟨rfl, rfl⟩
    | 3, _ => simp [I_fit] at h
    | 4, _ => exact ⟨rfl, rfl⟩
    | 5, _ => simp [I_fit] at h
    | 6, _ => exact ⟨rfl, rfl⟩
    | 7, _ => exact ⟨rfl, rfl⟩
    | 8, _ => simp [I_fit] at h
    | 9, _ => exact ⟨rfl, rfl⟩
    | k + 10, hk => omega
  | 3, _ =>
    have hk : k < 21 := hk
    match k, hk with
    | 0, _ => exact ⟨rfl, rfl⟩
    | 1, _ => simp [I_fit] at h
    | 2, _ => simp [I_fit] at h
    | 3, _ => simp [I_fit] at h
    | 4, _ => exact ⟨rfl, rfl⟩
    | 5, _ => simp [I_fit] at h
    | 6, _ => simp [I_fit] at h
    | 7, _ => simp [I_fit] at h
    | 8, _ => exact ⟨rfl, rfl⟩
    | 9, _ => simp [I_fit] at h
    | 10, _ => exact ⟨rfl, rfl⟩
    | 11, _ => simp [I_fit] at h
    | 12, _ => exact ⟨rfl, rfl⟩
    | 13, _ => simp [I_fit] at h
    | 14, _ => simp [I_fit] at h
    | 15, _ => simp [I_fit] at h
    | 16, _ => simp [I_fit] at h
    | 17, _ => simp [I_fit] at h
    | 18, _ => exact ⟨rfl, rfl⟩
    | 19, _ => exact ⟨rfl, rfl⟩
    | 20, _ => exact ⟨rfl, rfl⟩
    | k + 21, hk => omega
  | ci + 4, hci => omega
