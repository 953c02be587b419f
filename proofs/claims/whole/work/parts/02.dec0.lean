theorem dX0_init_0 : decode cX0_init 0 = .ok (.aload_n 0, 1) := by decide +kernel
theorem dX0_init_1 : decode cX0_init 1 = .ok (.invokespecial 3, 3) := by decide +kernel
theorem dX0_init_4 : decode cX0_init 4 = .ok (.aload_n 0, 1) := by decide +kernel
theorem dX0_init_5 : decode cX0_init 5 = .ok (.iload_n 1, 1) := by decide +kernel
theorem dX0_init_6 : decode cX0_init 6 = .ok (.putfield 9, 3) := by decide +kernel
theorem dX0_init_9 : decode cX0_init 9 = .ok (.aload_n 0, 1) := by decide +kernel
theorem dX0_init_10 : decode cX0_init 10 = .ok (.iload_n 2, 1) := by decide +kernel
theorem dX0_init_11 : decode cX0_init 11 = .ok (.newarray .int, 2) := by decide +kernel
theorem dX0_init_13 : decode cX0_init 13 = .ok (.putfield 15, 3) := by decide +kernel
theorem dX0_init_16 : decode cX0_init 16 = .ok (.aload_n 0, 1) := by decide +kernel
theorem dX0_init_17 : decode cX0_init 17 = .ok (.iload_n 1, 1) := by decide +kernel
theorem dX0_init_18 : decode cX0_init 18 = .ok (.iconst 2, 1) := by decide +kernel
theorem dX0_init_19 : decode cX0_init 19 = .ok (.if_icmp .ne 7, 3) := by decide +kernel
theorem dX0_init_22 : decode cX0_init 22 = .ok (.iload_n 2, 1) := by decide +kernel
theorem dX0_init_23 : decode cX0_init 23 = .ok (.goto 4, 3) := by decide +kernel
theorem dX0_init_26 : decode cX0_init 26 = .ok (.iconst 0, 1) := by decide +kernel
theorem dX0_init_27 : decode cX0_init 27 = .ok (.newarray .double, 2) := by decide +kernel
theorem dX0_init_29 : decode cX0_init 29 = .ok (.putfield 19, 3) := by decide +kernel
theorem dX0_init_32 : decode cX0_init 32 = .ok (.iload_n 1, 1) := by decide +kernel
theorem dX0_init_33 : decode cX0_init 33 = .ok (.iconst 3, 1) := by decide +kernel
theorem dX0_init_34 : decode cX0_init 34 = .ok (.if_icmp .ne 12, 3) := by decide +kernel
theorem dX0_init_37 : decode cX0_init 37 = .ok (.aload_n 0, 1) := by decide +kernel
theorem dX0_init_38 : decode cX0_init 38 = .ok (.getfield 15, 3) := by decide +kernel
theorem dX0_init_41 : decode cX0_init 41 = .ok (.ldc 23, 2) := by decide +kernel
theorem dX0_init_43 : decode cX0_init 43 = .ok (.invokestatic 24, 3) := by decide +kernel
theorem dX0_init_46 : decode cX0_init 46 = .ok (.return_, 1) := by decide +kernel
theorem dX0_length_0 : decode cX0_length 0 = .ok (.aload_n 0, 1) := by decide +kernel
theorem dX0_length_1 : decode cX0_length 1 = .ok (.getfield 15, 3) := by decide +kernel
theorem dX0_length_4 : decode cX0_length 4 = .ok (.arraylength, 1) := by decide +kernel
theorem dX0_length_5 : decode cX0_length 5 = .ok (.ireturn, 1) := by decide +kernel
theorem dX0_hasCells_0 : decode cX0_hasCells 0 = .ok (.iload_n 1, 1) := by decide +kernel
theorem dX0_hasCells_1 : decode cX0_hasCells 1 = .ok (.ifCond .lt 22, 3) := by decide +kernel
theorem dX0_hasCells_4 : decode cX0_hasCells 4 = .ok (.iload_n 2, 1) := by decide +kernel
theorem dX0_hasCells_5 : decode cX0_hasCells 5 = .ok (.ifCond .lt 18, 3) := by decide +kernel
theorem dX0_hasCells_8 : decode cX0_hasCells 8 = .ok (.iload_n 1, 1) := by decide +kernel
theorem dX0_hasCells_9 : decode cX0_hasCells 9 = .ok (.aload_n 0, 1) := by decide +kernel
theorem dX0_hasCells_10 : decode cX0_hasCells 10 = .ok (.getfield 15, 3) := by decide +kernel
theorem dX0_hasCells_13 : decode cX0_hasCells 13 = .ok (.arraylength, 1) := by decide +kernel
theorem dX0_hasCells_14 : decode cX0_hasCells 14 = .ok (.iload_n 2, 1) := by decide +kernel
theorem dX0_hasCells_15 : decode cX0_hasCells 15 = .ok (.isub, 1) := by decide +kernel
theorem dX0_hasCells_16 : decode cX0_hasCells 16 = .ok (.if_icmp .gt 7, 3) := by decide +kernel
theorem dX0_hasCells_19 : decode cX0_hasCells 19 = .ok (.iconst 1, 1) := by decide +kernel
theorem dX0_hasCells_20 : decode cX0_hasCells 20 = .ok (.goto 4, 3) := by decide +kernel
theorem dX0_hasCells_23 : decode cX0_hasCells 23 = .ok (.iconst 0, 1) := by decide +kernel
theorem dX0_hasCells_24 : decode cX0_hasCells 24 = .ok (.ireturn, 1) := by decide +kernel
theorem dX0_write_0 : decode cX0_write 0 = .ok (.aload_n 0, 1) := by decide +kernel
theorem dX0_write_1 : decode cX0_write 1 = .ok (.getfield 9, 3) := by decide +kernel
theorem dX0_write_4 : decode cX0_write 4 = .ok (.lookupswitch 68 #[(0, 28), (2, 46)], 28) := by decide +kernel
theorem dX0_write_32 : decode cX0_write 32 = .ok (.aload_n 0, 1) := by decide +kernel
theorem dX0_write_33 : decode cX0_write 33 = .ok (.getfield 15, 3) := by decide +kernel
theorem dX0_write_36 : decode cX0_write 36 = .ok (.iload_n 1, 1) := by decide +kernel
theorem dX0_write_37 : decode cX0_write 37 = .ok (.iload_n 2, 1) := by decide +kernel
theorem dX0_write_38 : decode cX0_write 38 = .ok (.ifCond .eq 7, 3) := by decide +kernel
theorem dX0_write_41 : decode cX0_write 41 = .ok (.iconst 1, 1) := by decide +kernel
theorem dX0_write_42 : decode cX0_write 42 = .ok (.goto 4, 3) := by decide +kernel
theorem dX0_write_45 : decode cX0_write 45 = .ok (.iconst 0, 1) := by decide +kernel
theorem dX0_write_46 : decode cX0_write 46 = .ok (.iastore, 1) := by decide +kernel
theorem dX0_write_47 : decode cX0_write 47 = .ok (.goto 32, 3) := by decide +kernel
theorem dX0_write_50 : decode cX0_write 50 = .ok (.aload_n 0, 1) := by decide +kernel
theorem dX0_write_51 : decode cX0_write 51 = .ok (.getfield 15, 3) := by decide +kernel
theorem dX0_write_54 : decode cX0_write 54 = .ok (.iload_n 1, 1) := by decide +kernel
theorem dX0_write_55 : decode cX0_write 55 = .ok (.iconst 0, 1) := by decide +kernel
theorem dX0_write_56 : decode cX0_write 56 = .ok (.iastore, 1) := by decide +kernel
theorem dX0_write_57 : decode cX0_write 57 = .ok (.aload_n 0, 1) := by decide +kernel
theorem dX0_write_58 : decode cX0_write 58 = .ok (.getfield 19, 3) := by decide +kernel
theorem dX0_write_61 : decode cX0_write 61 = .ok (.iload_n 1, 1) := by decide +kernel
theorem dX0_write_62 : decode cX0_write 62 = .ok (.iload_n 2, 1) := by decide +kernel
theorem dX0_write_63 : decode cX0_write 63 = .ok (.i2d, 1) := by decide +kernel
theorem dX0_write_64 : decode cX0_write 64 = .ok (.ldc2_w 30, 3) := by decide +kernel
theorem dX0_write_67 : decode cX0_write 67 = .ok (.ddiv, 1) := by decide +kernel
theorem dX0_write_68 : decode cX0_write 68 = .ok (.dastore, 1) := by decide +kernel
theorem dX0_write_69 : decode cX0_write 69 = .ok (.goto 10, 3) := by decide +kernel
theorem dX0_write_72 : decode cX0_write 72 = .ok (.aload_n 0, 1) := by decide +kernel
theorem dX0_write_73 : decode cX0_write 73 = .ok (.getfield 15, 3) := by decide +kernel
theorem dX0_write_76 : decode cX0_write 76 = .ok (.iload_n 1, 1) := by decide +kernel
theorem dX0_write_77 : decode cX0_write 77 = .ok (.iload_n 2, 1) := by decide +kernel
theorem dX0_write_78 : decode cX0_write 78 = .ok (.iastore, 1) := by decide +kernel
theorem dX0_write_79 : decode cX0_write 79 = .ok (.return_, 1) := by decide +kernel
theorem dX0_cut_0 : decode cX0_cut 0 = .ok (.aload_n 0, 1) := by decide +kernel
theorem dX0_cut_1 : decode cX0_cut 1 = .ok (.getfield 9, 3) := by decide +kernel
theorem dX0_cut_4 : decode cX0_cut 4 = .ok (.iconst 2, 1) := by decide +kernel
theorem dX0_cut_5 : decode cX0_cut 5 = .ok (.if_icmp .ne 13, 3) := by decide +kernel
theorem dX0_cut_8 : decode cX0_cut 8 = .ok (.aload_n 0, 1) := by decide +kernel
theorem dX0_cut_9 : decode cX0_cut 9 = .ok (.getfield 19, 3) := by decide +kernel
theorem dX0_cut_12 : decode cX0_cut 12 = .ok (.iload_n 1, 1) := by decide +kernel
theorem dX0_cut_13 : decode cX0_cut 13 = .ok (.daload, 1) := by decide +kernel
theorem dX0_cut_14 : decode cX0_cut 14 = .ok (.d2i, 1) := by decide +kernel
theorem dX0_cut_15 : decode cX0_cut 15 = .ok (.goto 9, 3) := by decide +kernel
theorem dX0_cut_18 : decode cX0_cut 18 = .ok (.aload_n 0, 1) := by decide +kernel
theorem dX0_cut_19 : decode cX0_cut 19 = .ok (.getfield 15, 3) := by decide +kernel
theorem dX0_cut_22 : decode cX0_cut 22 = .ok (.iload_n 1, 1) := by decide +kernel
theorem dX0_cut_23 : decode cX0_cut 23 = .ok (.iaload, 1) := by decide +kernel
theorem dX0_cut_24 : decode cX0_cut 24 = .ok (.ireturn, 1) := by decide +kernel
theorem dX0_sumOfCells_0 : decode cX0_sumOfCells 0 = .ok (.iconst 0, 1) := by decide +kernel
theorem dX0_sumOfCells_1 : decode cX0_sumOfCells 1 = .ok (.istore_n 1, 1) := by decide +kernel
theorem dX0_sumOfCells_2 : decode cX0_sumOfCells 2 = .ok (.iconst 0, 1) := by decide +kernel
theorem dX0_sumOfCells_3 : decode cX0_sumOfCells 3 = .ok (.istore_n 2, 1) := by decide +kernel
theorem dX0_sumOfCells_4 : decode cX0_sumOfCells 4 = .ok (.iload_n 2, 1) := by decide +kernel
theorem dX0_sumOfCells_5 : decode cX0_sumOfCells 5 = .ok (.aload_n 0, 1) := by decide +kernel
theorem dX0_sumOfCells_6 : decode cX0_sumOfCells 6 = .ok (.getfield 15, 3) := by decide +kernel
theorem dX0_sumOfCells_9 : decode cX0_sumOfCells 9 = .ok (.arraylength, 1) := by decide +kernel
theorem dX0_sumOfCells_10 : decode cX0_sumOfCells 10 = .ok (.if_icmp .ge 17, 3) := by decide +kernel
theorem dX0_sumOfCells_13 : decode cX0_sumOfCells 13 = .ok (.iload_n 1, 1) := by decide +kernel
theorem dX0_sumOfCells_14 : decode cX0_sumOfCells 14 = .ok (.aload_n 0, 1) := by decide +kernel
theorem dX0_sumOfCells_15 : decode cX0_sumOfCells 15 = .ok (.iload_n 2, 1) := by decide +kernel
theorem dX0_sumOfCells_16 : decode cX0_sumOfCells 16 = .ok (.invokevirtual 32, 3) := by decide +kernel
theorem dX0_sumOfCells_19 : decode cX0_sumOfCells 19 = .ok (.iadd, 1) := by decide +kernel
theorem dX0_sumOfCells_20 : decode cX0_sumOfCells 20 = .ok (.istore_n 1, 1) := by decide +kernel
theorem dX0_sumOfCells_21 : decode cX0_sumOfCells 21 = .ok (.iinc 2 1, 3) := by decide +kernel
theorem dX0_sumOfCells_24 : decode cX0_sumOfCells 24 = .ok (.goto (-20), 3) := by decide +kernel
theorem dX0_sumOfCells_27 : decode cX0_sumOfCells 27 = .ok (.iload_n 1, 1) := by decide +kernel
theorem dX0_sumOfCells_28 : decode cX0_sumOfCells 28 = .ok (.ireturn, 1) := by decide +kernel
theorem dX0_isNoNumber_0 : decode cX0_isNoNumber 0 = .ok (.aload_n 0, 1) := by decide +kernel
theorem dX0_isNoNumber_1 : decode cX0_isNoNumber 1 = .ok (.getfield 9, 3) := by decide +kernel
theorem dX0_isNoNumber_4 : decode cX0_isNoNumber 4 = .ok (.iconst 2, 1) := by decide +kernel
theorem dX0_isNoNumber_5 : decode cX0_isNoNumber 5 = .ok (.if_icmp .ne 16, 3) := by decide +kernel
theorem dX0_isNoNumber_8 : decode cX0_isNoNumber 8 = .ok (.aload_n 0, 1) := by decide +kernel
theorem dX0_isNoNumber_9 : decode cX0_isNoNumber 9 = .ok (.getfield 15, 3) := by decide +kernel
theorem dX0_isNoNumber_12 : decode cX0_isNoNumber 12 = .ok (.iload_n 1, 1) := by decide +kernel
theorem dX0_isNoNumber_13 : decode cX0_isNoNumber 13 = .ok (.iaload, 1) := by decide +kernel
theorem dX0_isNoNumber_14 : decode cX0_isNoNumber 14 = .ok (.ifCond .eq 7, 3) := by decide +kernel
theorem dX0_isNoNumber_17 : decode cX0_isNoNumber 17 = .ok (.iconst 1, 1) := by decide +kernel
theorem dX0_isNoNumber_18 : decode cX0_isNoNumber 18 = .ok (.goto 4, 3) := by decide +kernel
theorem dX0_isNoNumber_21 : decode cX0_isNoNumber 21 = .ok (.iconst 0, 1) := by decide +kernel
theorem dX0_isNoNumber_22 : decode cX0_isNoNumber 22 = .ok (.ireturn, 1) := by decide +kernel
theorem dX0_markNoNumber_0 : decode cX0_markNoNumber 0 = .ok (.aload_n 0, 1) := by decide +kernel
theorem dX0_markNoNumber_1 : decode cX0_markNoNumber 1 = .ok (.getfield 15, 3) := by decide +kernel
theorem dX0_markNoNumber_4 : decode cX0_markNoNumber 4 = .ok (.iload_n 1, 1) := by decide +kernel
theorem dX0_markNoNumber_5 : decode cX0_markNoNumber 5 = .ok (.iconst 1, 1) := by decide +kernel
theorem dX0_markNoNumber_6 : decode cX0_markNoNumber 6 = .ok (.iastore, 1) := by decide +kernel
theorem dX0_markNoNumber_7 : decode cX0_markNoNumber 7 = .ok (.aload_n 0, 1) := by decide +kernel
theorem dX0_markNoNumber_8 : decode cX0_markNoNumber 8 = .ok (.getfield 19, 3) := by decide +kernel
theorem dX0_markNoNumber_11 : decode cX0_markNoNumber 11 = .ok (.iload_n 1, 1) := by decide +kernel
theorem dX0_markNoNumber_12 : decode cX0_markNoNumber 12 = .ok (.dconst 0, 1) := by decide +kernel
theorem dX0_markNoNumber_13 : decode cX0_markNoNumber 13 = .ok (.dastore, 1) := by decide +kernel
theorem dX0_markNoNumber_14 : decode cX0_markNoNumber 14 = .ok (.return_, 1) := by decide +kernel
theorem dX0_takeCells_0 : decode cX0_takeCells 0 = .ok (.aload_n 2, 1) := by decide +kernel
theorem dX0_takeCells_1 : decode cX0_takeCells 1 = .ok (.getfield 15, 3) := by decide +kernel
theorem dX0_takeCells_4 : decode cX0_takeCells 4 = .ok (.iload_n 3, 1) := by decide +kernel
theorem dX0_takeCells_5 : decode cX0_takeCells 5 = .ok (.aload_n 0, 1) := by decide +kernel
theorem dX0_takeCells_6 : decode cX0_takeCells 6 = .ok (.getfield 15, 3) := by decide +kernel
theorem dX0_takeCells_9 : decode cX0_takeCells 9 = .ok (.iload_n 1, 1) := by decide +kernel
theorem dX0_takeCells_10 : decode cX0_takeCells 10 = .ok (.iload 4, 2) := by decide +kernel
theorem dX0_takeCells_12 : decode cX0_takeCells 12 = .ok (.invokestatic 36, 3) := by decide +kernel
theorem dX0_takeCells_15 : decode cX0_takeCells 15 = .ok (.aload_n 0, 1) := by decide +kernel
theorem dX0_takeCells_16 : decode cX0_takeCells 16 = .ok (.getfield 9, 3) := by decide +kernel
theorem dX0_takeCells_19 : decode cX0_takeCells 19 = .ok (.iconst 2, 1) := by decide +kernel
theorem dX0_takeCells_20 : decode cX0_takeCells 20 = .ok (.if_icmp .ne 18, 3) := by decide +kernel
theorem dX0_takeCells_23 : decode cX0_takeCells 23 = .ok (.aload_n 2, 1) := by decide +kernel
theorem dX0_takeCells_24 : decode cX0_takeCells 24 = .ok (.getfield 19, 3) := by decide +kernel
theorem dX0_takeCells_27 : decode cX0_takeCells 27 = .ok (.iload_n 3, 1) := by decide +kernel
theorem dX0_takeCells_28 : decode cX0_takeCells 28 = .ok (.aload_n 0, 1) := by decide +kernel
theorem dX0_takeCells_29 : decode cX0_takeCells 29 = .ok (.getfield 19, 3) := by decide +kernel
theorem dX0_takeCells_32 : decode cX0_takeCells 32 = .ok (.iload_n 1, 1) := by decide +kernel
theorem dX0_takeCells_33 : decode cX0_takeCells 33 = .ok (.iload 4, 2) := by decide +kernel
theorem dX0_takeCells_35 : decode cX0_takeCells 35 = .ok (.invokestatic 36, 3) := by decide +kernel
theorem dX0_takeCells_38 : decode cX0_takeCells 38 = .ok (.return_, 1) := by decide +kernel
theorem dX0_hasTheCellsOf_0 : decode cX0_hasTheCellsOf 0 = .ok (.aload_n 0, 1) := by decide +kernel
theorem dX0_hasTheCellsOf_1 : decode cX0_hasTheCellsOf 1 = .ok (.invokevirtual 42, 3) := by decide +kernel
theorem dX0_hasTheCellsOf_4 : decode cX0_hasTheCellsOf 4 = .ok (.aload_n 1, 1) := by decide +kernel
theorem dX0_hasTheCellsOf_5 : decode cX0_hasTheCellsOf 5 = .ok (.invokevirtual 42, 3) := by decide +kernel
theorem dX0_hasTheCellsOf_8 : decode cX0_hasTheCellsOf 8 = .ok (.if_icmp .eq 5, 3) := by decide +kernel
theorem dX0_hasTheCellsOf_11 : decode cX0_hasTheCellsOf 11 = .ok (.iconst 0, 1) := by decide +kernel
theorem dX0_hasTheCellsOf_12 : decode cX0_hasTheCellsOf 12 = .ok (.ireturn, 1) := by decide +kernel
theorem dX0_hasTheCellsOf_13 : decode cX0_hasTheCellsOf 13 = .ok (.iconst 0, 1) := by decide +kernel
theorem dX0_hasTheCellsOf_14 : decode cX0_hasTheCellsOf 14 = .ok (.istore_n 2, 1) := by decide +kernel
theorem dX0_hasTheCellsOf_15 : decode cX0_hasTheCellsOf 15 = .ok (.iload_n 2, 1) := by decide +kernel
theorem dX0_hasTheCellsOf_16 : decode cX0_hasTheCellsOf 16 = .ok (.aload_n 0, 1) := by decide +kernel
theorem dX0_hasTheCellsOf_17 : decode cX0_hasTheCellsOf 17 = .ok (.invokevirtual 42, 3) := by decide +kernel
theorem dX0_hasTheCellsOf_20 : decode cX0_hasTheCellsOf 20 = .ok (.if_icmp .ge 20, 3) := by decide +kernel
theorem dX0_hasTheCellsOf_23 : decode cX0_hasTheCellsOf 23 = .ok (.aload_n 0, 1) := by decide +kernel
theorem dX0_hasTheCellsOf_24 : decode cX0_hasTheCellsOf 24 = .ok (.aload_n 1, 1) := by decide +kernel
theorem dX0_hasTheCellsOf_25 : decode cX0_hasTheCellsOf 25 = .ok (.iload_n 2, 1) := by decide +kernel
theorem dX0_hasTheCellsOf_26 : decode cX0_hasTheCellsOf 26 = .ok (.invokevirtual 46, 3) := by decide +kernel
theorem dX0_hasTheCellsOf_29 : decode cX0_hasTheCellsOf 29 = .ok (.ifCond .ne 5, 3) := by decide +kernel
theorem dX0_hasTheCellsOf_32 : decode cX0_hasTheCellsOf 32 = .ok (.iconst 0, 1) := by decide +kernel
theorem dX0_hasTheCellsOf_33 : decode cX0_hasTheCellsOf 33 = .ok (.ireturn, 1) := by decide +kernel
theorem dX0_hasTheCellsOf_34 : decode cX0_hasTheCellsOf 34 = .ok (.iinc 2 1, 3) := by decide +kernel
theorem dX0_hasTheCellsOf_37 : decode cX0_hasTheCellsOf 37 = .ok (.goto (-22), 3) := by decide +kernel
theorem dX0_hasTheCellsOf_40 : decode cX0_hasTheCellsOf 40 = .ok (.iconst 1, 1) := by decide +kernel
theorem dX0_hasTheCellsOf_41 : decode cX0_hasTheCellsOf 41 = .ok (.ireturn, 1) := by decide +kernel
theorem dX0_hasTheCellOf_0 : decode cX0_hasTheCellOf 0 = .ok (.aload_n 0, 1) := by decide +kernel
theorem dX0_hasTheCellOf_1 : decode cX0_hasTheCellOf 1 = .ok (.getfield 9, 3) := by decide +kernel
theorem dX0_hasTheCellOf_4 : decode cX0_hasTheCellOf 4 = .ok (.iconst 2, 1) := by decide +kernel
theorem dX0_hasTheCellOf_5 : decode cX0_hasTheCellOf 5 = .ok (.if_icmp .eq 24, 3) := by decide +kernel
theorem dX0_hasTheCellOf_8 : decode cX0_hasTheCellOf 8 = .ok (.aload_n 0, 1) := by decide +kernel
theorem dX0_hasTheCellOf_9 : decode cX0_hasTheCellOf 9 = .ok (.getfield 15, 3) := by decide +kernel
theorem dX0_hasTheCellOf_12 : decode cX0_hasTheCellOf 12 = .ok (.iload_n 2, 1) := by decide +kernel
theorem dX0_hasTheCellOf_13 : decode cX0_hasTheCellOf 13 = .ok (.iaload, 1) := by decide +kernel
theorem dX0_hasTheCellOf_14 : decode cX0_hasTheCellOf 14 = .ok (.aload_n 1, 1) := by decide +kernel
theorem dX0_hasTheCellOf_15 : decode cX0_hasTheCellOf 15 = .ok (.getfield 15, 3) := by decide +kernel
theorem dX0_hasTheCellOf_18 : decode cX0_hasTheCellOf 18 = .ok (.iload_n 2, 1) := by decide +kernel
theorem dX0_hasTheCellOf_19 : decode cX0_hasTheCellOf 19 = .ok (.iaload, 1) := by decide +kernel
theorem dX0_hasTheCellOf_20 : decode cX0_hasTheCellOf 20 = .ok (.if_icmp .ne 7, 3) := by decide +kernel
theorem dX0_hasTheCellOf_23 : decode cX0_hasTheCellOf 23 = .ok (.iconst 1, 1) := by decide +kernel
theorem dX0_hasTheCellOf_24 : decode cX0_hasTheCellOf 24 = .ok (.goto 4, 3) := by decide +kernel
theorem dX0_hasTheCellOf_27 : decode cX0_hasTheCellOf 27 = .ok (.iconst 0, 1) := by decide +kernel
theorem dX0_hasTheCellOf_28 : decode cX0_hasTheCellOf 28 = .ok (.ireturn, 1) := by decide +kernel
theorem dX0_hasTheCellOf_29 : decode cX0_hasTheCellOf 29 = .ok (.aload_n 0, 1) := by decide +kernel
theorem dX0_hasTheCellOf_30 : decode cX0_hasTheCellOf 30 = .ok (.iload_n 2, 1) := by decide +kernel
theorem dX0_hasTheCellOf_31 : decode cX0_hasTheCellOf 31 = .ok (.invokevirtual 50, 3) := by decide +kernel
theorem dX0_hasTheCellOf_34 : decode cX0_hasTheCellOf 34 = .ok (.ifCond .ne 31, 3) := by decide +kernel
theorem dX0_hasTheCellOf_37 : decode cX0_hasTheCellOf 37 = .ok (.aload_n 1, 1) := by decide +kernel
theorem dX0_hasTheCellOf_38 : decode cX0_hasTheCellOf 38 = .ok (.iload_n 2, 1) := by decide +kernel
theorem dX0_hasTheCellOf_39 : decode cX0_hasTheCellOf 39 = .ok (.invokevirtual 50, 3) := by decide +kernel
theorem dX0_hasTheCellOf_42 : decode cX0_hasTheCellOf 42 = .ok (.ifCond .ne 23, 3) := by decide +kernel
theorem dX0_hasTheCellOf_45 : decode cX0_hasTheCellOf 45 = .ok (.aload_n 0, 1) := by decide +kernel
theorem dX0_hasTheCellOf_46 : decode cX0_hasTheCellOf 46 = .ok (.getfield 19, 3) := by decide +kernel
theorem dX0_hasTheCellOf_49 : decode cX0_hasTheCellOf 49 = .ok (.iload_n 2, 1) := by decide +kernel
theorem dX0_hasTheCellOf_50 : decode cX0_hasTheCellOf 50 = .ok (.daload, 1) := by decide +kernel
theorem dX0_hasTheCellOf_51 : decode cX0_hasTheCellOf 51 = .ok (.aload_n 1, 1) := by decide +kernel
theorem dX0_hasTheCellOf_52 : decode cX0_hasTheCellOf 52 = .ok (.getfield 19, 3) := by decide +kernel
theorem dX0_hasTheCellOf_55 : decode cX0_hasTheCellOf 55 = .ok (.iload_n 2, 1) := by decide +kernel
theorem dX0_hasTheCellOf_56 : decode cX0_hasTheCellOf 56 = .ok (.daload, 1) := by decide +kernel
theorem dX0_hasTheCellOf_57 : decode cX0_hasTheCellOf 57 = .ok (.dcmp .l, 1) := by decide +kernel
theorem dX0_hasTheCellOf_58 : decode cX0_hasTheCellOf 58 = .ok (.ifCond .ne 7, 3) := by decide +kernel
theorem dX0_hasTheCellOf_61 : decode cX0_hasTheCellOf 61 = .ok (.iconst 1, 1) := by decide +kernel
theorem dX0_hasTheCellOf_62 : decode cX0_hasTheCellOf 62 = .ok (.goto 4, 3) := by decide +kernel
theorem dX0_hasTheCellOf_65 : decode cX0_hasTheCellOf 65 = .ok (.iconst 0, 1) := by decide +kernel
theorem dX0_hasTheCellOf_66 : decode cX0_hasTheCellOf 66 = .ok (.ireturn, 1) := by decide +kernel
theorem dX1_init_0 : decode cX1_init 0 = .ok (.aload_n 0, 1) := by decide +kernel
theorem dX1_init_1 : decode cX1_init 1 = .ok (.invokespecial 3, 3) := by decide +kernel
theorem dX1_init_4 : decode cX1_init 4 = .ok (.aload_n 0, 1) := by decide +kernel
theorem dX1_init_5 : decode cX1_init 5 = .ok (.bipush 12, 2) := by decide +kernel
theorem dX1_init_7 : decode cX1_init 7 = .ok (.anewarray 9, 3) := by decide +kernel
theorem dX1_init_10 : decode cX1_init 10 = .ok (.putfield 11, 3) := by decide +kernel
theorem dX1_init_13 : decode cX1_init 13 = .ok (.return_, 1) := by decide +kernel
theorem dX1_begin_0 : decode cX1_begin 0 = .ok (.aload_n 0, 1) := by decide +kernel
theorem dX1_begin_1 : decode cX1_begin 1 = .ok (.iload_n 1, 1) := by decide +kernel
theorem dX1_begin_2 : decode cX1_begin 2 = .ok (.putfield 17, 3) := by decide +kernel
theorem dX1_begin_5 : decode cX1_begin 5 = .ok (.aload_n 0, 1) := by decide +kernel
theorem dX1_begin_6 : decode cX1_begin 6 = .ok (.iload_n 2, 1) := by decide +kernel
theorem dX1_begin_7 : decode cX1_begin 7 = .ok (.putfield 21, 3) := by decide +kernel
theorem dX1_begin_10 : decode cX1_begin 10 = .ok (.iconst 0, 1) := by decide +kernel
theorem dX1_begin_11 : decode cX1_begin 11 = .ok (.istore_n 3, 1) := by decide +kernel
theorem dX1_begin_12 : decode cX1_begin 12 = .ok (.iload_n 3, 1) := by decide +kernel
theorem dX1_begin_13 : decode cX1_begin 13 = .ok (.aload_n 0, 1) := by decide +kernel
theorem dX1_begin_14 : decode cX1_begin 14 = .ok (.getfield 11, 3) := by decide +kernel
theorem dX1_begin_17 : decode cX1_begin 17 = .ok (.arraylength, 1) := by decide +kernel
theorem dX1_begin_18 : decode cX1_begin 18 = .ok (.if_icmp .ge 16, 3) := by decide +kernel
theorem dX1_begin_21 : decode cX1_begin 21 = .ok (.aload_n 0, 1) := by decide +kernel
theorem dX1_begin_22 : decode cX1_begin 22 = .ok (.getfield 11, 3) := by decide +kernel
theorem dX1_begin_25 : decode cX1_begin 25 = .ok (.iload_n 3, 1) := by decide +kernel
theorem dX1_begin_26 : decode cX1_begin 26 = .ok (.aconst_null, 1) := by decide +kernel
theorem dX1_begin_27 : decode cX1_begin 27 = .ok (.aastore, 1) := by decide +kernel
theorem dX1_begin_28 : decode cX1_begin 28 = .ok (.iinc 3 1, 3) := by decide +kernel
theorem dX1_begin_31 : decode cX1_begin 31 = .ok (.goto (-19), 3) := by decide +kernel
theorem dX1_begin_34 : decode cX1_begin 34 = .ok (.return_, 1) := by decide +kernel
theorem dX1_hasPlace_0 : decode cX1_hasPlace 0 = .ok (.iload_n 1, 1) := by decide +kernel
theorem dX1_hasPlace_1 : decode cX1_hasPlace 1 = .ok (.ifCond .lt 15, 3) := by decide +kernel
theorem dX1_hasPlace_4 : decode cX1_hasPlace 4 = .ok (.iload_n 1, 1) := by decide +kernel
theorem dX1_hasPlace_5 : decode cX1_hasPlace 5 = .ok (.aload_n 0, 1) := by decide +kernel
theorem dX1_hasPlace_6 : decode cX1_hasPlace 6 = .ok (.getfield 21, 3) := by decide +kernel
theorem dX1_hasPlace_9 : decode cX1_hasPlace 9 = .ok (.if_icmp .ge 7, 3) := by decide +kernel
theorem dX1_hasPlace_12 : decode cX1_hasPlace 12 = .ok (.iconst 1, 1) := by decide +kernel
theorem dX1_hasPlace_13 : decode cX1_hasPlace 13 = .ok (.goto 4, 3) := by decide +kernel
theorem dX1_hasPlace_16 : decode cX1_hasPlace 16 = .ok (.iconst 0, 1) := by decide +kernel
theorem dX1_hasPlace_17 : decode cX1_hasPlace 17 = .ok (.ireturn, 1) := by decide +kernel
theorem dX1_placeCause_0 : decode cX1_placeCause 0 = .ok (.aload_n 0, 1) := by decide +kernel
theorem dX1_placeCause_1 : decode cX1_placeCause 1 = .ok (.iload_n 1, 1) := by decide +kernel
theorem dX1_placeCause_2 : decode cX1_placeCause 2 = .ok (.invokevirtual 24, 3) := by decide +kernel
theorem dX1_placeCause_5 : decode cX1_placeCause 5 = .ok (.ifCond .ne 5, 3) := by decide +kernel
theorem dX1_placeCause_8 : decode cX1_placeCause 8 = .ok (.iconst 2, 1) := by decide +kernel
theorem dX1_placeCause_9 : decode cX1_placeCause 9 = .ok (.ireturn, 1) := by decide +kernel
theorem dX1_placeCause_10 : decode cX1_placeCause 10 = .ok (.aload_n 0, 1) := by decide +kernel
theorem dX1_placeCause_11 : decode cX1_placeCause 11 = .ok (.getfield 11, 3) := by decide +kernel
theorem dX1_placeCause_14 : decode cX1_placeCause 14 = .ok (.iload_n 1, 1) := by decide +kernel
theorem dX1_placeCause_15 : decode cX1_placeCause 15 = .ok (.aaload, 1) := by decide +kernel
theorem dX1_placeCause_16 : decode cX1_placeCause 16 = .ok (.ifnonnull 7, 3) := by decide +kernel
theorem dX1_placeCause_19 : decode cX1_placeCause 19 = .ok (.iconst 1, 1) := by decide +kernel
theorem dX1_placeCause_20 : decode cX1_placeCause 20 = .ok (.goto 4, 3) := by decide +kernel
theorem dX1_placeCause_23 : decode cX1_placeCause 23 = .ok (.iconst 0, 1) := by decide +kernel
theorem dX1_placeCause_24 : decode cX1_placeCause 24 = .ok (.ireturn, 1) := by decide +kernel
theorem dX1_cellCause_0 : decode cX1_cellCause 0 = .ok (.aload_n 0, 1) := by decide +kernel
theorem dX1_cellCause_1 : decode cX1_cellCause 1 = .ok (.iload_n 1, 1) := by decide +kernel
theorem dX1_cellCause_2 : decode cX1_cellCause 2 = .ok (.invokevirtual 28, 3) := by decide +kernel
theorem dX1_cellCause_5 : decode cX1_cellCause 5 = .ok (.istore_n 3, 1) := by decide +kernel
theorem dX1_cellCause_6 : decode cX1_cellCause 6 = .ok (.iload_n 3, 1) := by decide +kernel
theorem dX1_cellCause_7 : decode cX1_cellCause 7 = .ok (.ifCond .eq 5, 3) := by decide +kernel
theorem dX1_cellCause_10 : decode cX1_cellCause 10 = .ok (.iload_n 3, 1) := by decide +kernel
theorem dX1_cellCause_11 : decode cX1_cellCause 11 = .ok (.ireturn, 1) := by decide +kernel
theorem dX1_cellCause_12 : decode cX1_cellCause 12 = .ok (.aload_n 0, 1) := by decide +kernel
theorem dX1_cellCause_13 : decode cX1_cellCause 13 = .ok (.getfield 11, 3) := by decide +kernel
theorem dX1_cellCause_16 : decode cX1_cellCause 16 = .ok (.iload_n 1, 1) := by decide +kernel
theorem dX1_cellCause_17 : decode cX1_cellCause 17 = .ok (.aaload, 1) := by decide +kernel
theorem dX1_cellCause_18 : decode cX1_cellCause 18 = .ok (.iload_n 2, 1) := by decide +kernel
theorem dX1_cellCause_19 : decode cX1_cellCause 19 = .ok (.iconst 1, 1) := by decide +kernel
theorem dX1_cellCause_20 : decode cX1_cellCause 20 = .ok (.invokevirtual 32, 3) := by decide +kernel
theorem dX1_cellCause_23 : decode cX1_cellCause 23 = .ok (.ifCond .eq 7, 3) := by decide +kernel
theorem dX1_cellCause_26 : decode cX1_cellCause 26 = .ok (.iconst 0, 1) := by decide +kernel
theorem dX1_cellCause_27 : decode cX1_cellCause 27 = .ok (.goto 4, 3) := by decide +kernel
theorem dX1_cellCause_30 : decode cX1_cellCause 30 = .ok (.iconst 2, 1) := by decide +kernel
theorem dX1_cellCause_31 : decode cX1_cellCause 31 = .ok (.ireturn, 1) := by decide +kernel
theorem dX1_isEven_0 : decode cX1_isEven 0 = .ok (.iconst 0, 1) := by decide +kernel
theorem dX1_isEven_1 : decode cX1_isEven 1 = .ok (.istore_n 1, 1) := by decide +kernel
theorem dX1_isEven_2 : decode cX1_isEven 2 = .ok (.iload_n 1, 1) := by decide +kernel
theorem dX1_isEven_3 : decode cX1_isEven 3 = .ok (.aload_n 0, 1) := by decide +kernel
theorem dX1_isEven_4 : decode cX1_isEven 4 = .ok (.getfield 21, 3) := by decide +kernel
theorem dX1_isEven_7 : decode cX1_isEven 7 = .ok (.if_icmp .ge 36, 3) := by decide +kernel
theorem dX1_isEven_10 : decode cX1_isEven 10 = .ok (.aload_n 0, 1) := by decide +kernel
theorem dX1_isEven_11 : decode cX1_isEven 11 = .ok (.getfield 11, 3) := by decide +kernel
theorem dX1_isEven_14 : decode cX1_isEven 14 = .ok (.iload_n 1, 1) := by decide +kernel
theorem dX1_isEven_15 : decode cX1_isEven 15 = .ok (.aaload, 1) := by decide +kernel
theorem dX1_isEven_16 : decode cX1_isEven 16 = .ok (.ifnull 19, 3) := by decide +kernel
theorem dX1_isEven_19 : decode cX1_isEven 19 = .ok (.aload_n 0, 1) := by decide +kernel
theorem dX1_isEven_20 : decode cX1_isEven 20 = .ok (.getfield 11, 3) := by decide +kernel
theorem dX1_isEven_23 : decode cX1_isEven 23 = .ok (.iload_n 1, 1) := by decide +kernel
theorem dX1_isEven_24 : decode cX1_isEven 24 = .ok (.aaload, 1) := by decide +kernel
theorem dX1_isEven_25 : decode cX1_isEven 25 = .ok (.invokevirtual 36, 3) := by decide +kernel
theorem dX1_isEven_28 : decode cX1_isEven 28 = .ok (.aload_n 0, 1) := by decide +kernel
theorem dX1_isEven_29 : decode cX1_isEven 29 = .ok (.invokevirtual 40, 3) := by decide +kernel
theorem dX1_isEven_32 : decode cX1_isEven 32 = .ok (.if_icmp .eq 5, 3) := by decide +kernel
theorem dX1_isEven_35 : decode cX1_isEven 35 = .ok (.iconst 0, 1) := by decide +kernel
theorem dX1_isEven_36 : decode cX1_isEven 36 = .ok (.ireturn, 1) := by decide +kernel
theorem dX1_isEven_37 : decode cX1_isEven 37 = .ok (.iinc 1 1, 3) := by decide +kernel
theorem dX1_isEven_40 : decode cX1_isEven 40 = .ok (.goto (-38), 3) := by decide +kernel
theorem dX1_isEven_43 : decode cX1_isEven 43 = .ok (.iconst 1, 1) := by decide +kernel
theorem dX1_isEven_44 : decode cX1_isEven 44 = .ok (.ireturn, 1) := by decide +kernel
theorem dX1_wide_0 : decode cX1_wide 0 = .ok (.aload_n 0, 1) := by decide +kernel
theorem dX1_wide_1 : decode cX1_wide 1 = .ok (.getfield 21, 3) := by decide +kernel
theorem dX1_wide_4 : decode cX1_wide 4 = .ok (.ifCond .eq 12, 3) := by decide +kernel
theorem dX1_wide_7 : decode cX1_wide 7 = .ok (.aload_n 0, 1) := by decide +kernel
theorem dX1_wide_8 : decode cX1_wide 8 = .ok (.getfield 11, 3) := by decide +kernel
theorem dX1_wide_11 : decode cX1_wide 11 = .ok (.iconst 0, 1) := by decide +kernel
theorem dX1_wide_12 : decode cX1_wide 12 = .ok (.aaload, 1) := by decide +kernel
theorem dX1_wide_13 : decode cX1_wide 13 = .ok (.ifnonnull 7, 3) := by decide +kernel
theorem dX1_wide_16 : decode cX1_wide 16 = .ok (.iconst 0, 1) := by decide +kernel
theorem dX1_wide_17 : decode cX1_wide 17 = .ok (.goto 12, 3) := by decide +kernel
theorem dX1_wide_20 : decode cX1_wide 20 = .ok (.aload_n 0, 1) := by decide +kernel
theorem dX1_wide_21 : decode cX1_wide 21 = .ok (.getfield 11, 3) := by decide +kernel
theorem dX1_wide_24 : decode cX1_wide 24 = .ok (.iconst 0, 1) := by decide +kernel
theorem dX1_wide_25 : decode cX1_wide 25 = .ok (.aaload, 1) := by decide +kernel
theorem dX1_wide_26 : decode cX1_wide 26 = .ok (.invokevirtual 36, 3) := by decide +kernel
theorem dX1_wide_29 : decode cX1_wide 29 = .ok (.ireturn, 1) := by decide +kernel
theorem dX1_firstNotSquare_0 : decode cX1_firstNotSquare 0 = .ok (.iconst 0, 1) := by decide +kernel
theorem dX1_firstNotSquare_1 : decode cX1_firstNotSquare 1 = .ok (.istore_n 1, 1) := by decide +kernel
theorem dX1_firstNotSquare_2 : decode cX1_firstNotSquare 2 = .ok (.iload_n 1, 1) := by decide +kernel
theorem dX1_firstNotSquare_3 : decode cX1_firstNotSquare 3 = .ok (.aload_n 0, 1) := by decide +kernel
theorem dX1_firstNotSquare_4 : decode cX1_firstNotSquare 4 = .ok (.getfield 21, 3) := by decide +kernel
theorem dX1_firstNotSquare_7 : decode cX1_firstNotSquare 7 = .ok (.if_icmp .ge 36, 3) := by decide +kernel
theorem dX1_firstNotSquare_10 : decode cX1_firstNotSquare 10 = .ok (.aload_n 0, 1) := by decide +kernel
theorem dX1_firstNotSquare_11 : decode cX1_firstNotSquare 11 = .ok (.getfield 11, 3) := by decide +kernel
theorem dX1_firstNotSquare_14 : decode cX1_firstNotSquare 14 = .ok (.iload_n 1, 1) := by decide +kernel
theorem dX1_firstNotSquare_15 : decode cX1_firstNotSquare 15 = .ok (.aaload, 1) := by decide +kernel
theorem dX1_firstNotSquare_16 : decode cX1_firstNotSquare 16 = .ok (.ifnull 19, 3) := by decide +kernel
theorem dX1_firstNotSquare_19 : decode cX1_firstNotSquare 19 = .ok (.aload_n 0, 1) := by decide +kernel
theorem dX1_firstNotSquare_20 : decode cX1_firstNotSquare 20 = .ok (.getfield 11, 3) := by decide +kernel
theorem dX1_firstNotSquare_23 : decode cX1_firstNotSquare 23 = .ok (.iload_n 1, 1) := by decide +kernel
theorem dX1_firstNotSquare_24 : decode cX1_firstNotSquare 24 = .ok (.aaload, 1) := by decide +kernel
theorem dX1_firstNotSquare_25 : decode cX1_firstNotSquare 25 = .ok (.invokevirtual 36, 3) := by decide +kernel
theorem dX1_firstNotSquare_28 : decode cX1_firstNotSquare 28 = .ok (.aload_n 0, 1) := by decide +kernel
theorem dX1_firstNotSquare_29 : decode cX1_firstNotSquare 29 = .ok (.getfield 21, 3) := by decide +kernel
theorem dX1_firstNotSquare_32 : decode cX1_firstNotSquare 32 = .ok (.if_icmp .eq 5, 3) := by decide +kernel
theorem dX1_firstNotSquare_35 : decode cX1_firstNotSquare 35 = .ok (.iload_n 1, 1) := by decide +kernel
theorem dX1_firstNotSquare_36 : decode cX1_firstNotSquare 36 = .ok (.ireturn, 1) := by decide +kernel
theorem dX1_firstNotSquare_37 : decode cX1_firstNotSquare 37 = .ok (.iinc 1 1, 3) := by decide +kernel
theorem dX1_firstNotSquare_40 : decode cX1_firstNotSquare 40 = .ok (.goto (-38), 3) := by decide +kernel
theorem dX1_firstNotSquare_43 : decode cX1_firstNotSquare 43 = .ok (.ldc 43, 2) := by decide +kernel
theorem dX1_firstNotSquare_45 : decode cX1_firstNotSquare 45 = .ok (.ireturn, 1) := by decide +kernel
theorem dX1_fallenPlaces_0 : decode cX1_fallenPlaces 0 = .ok (.iconst 0, 1) := by decide +kernel
theorem dX1_fallenPlaces_1 : decode cX1_fallenPlaces 1 = .ok (.istore_n 1, 1) := by decide +kernel
theorem dX1_fallenPlaces_2 : decode cX1_fallenPlaces 2 = .ok (.iconst 0, 1) := by decide +kernel
theorem dX1_fallenPlaces_3 : decode cX1_fallenPlaces 3 = .ok (.istore_n 2, 1) := by decide +kernel
theorem dX1_fallenPlaces_4 : decode cX1_fallenPlaces 4 = .ok (.iload_n 2, 1) := by decide +kernel
theorem dX1_fallenPlaces_5 : decode cX1_fallenPlaces 5 = .ok (.aload_n 0, 1) := by decide +kernel
theorem dX1_fallenPlaces_6 : decode cX1_fallenPlaces 6 = .ok (.getfield 21, 3) := by decide +kernel
theorem dX1_fallenPlaces_9 : decode cX1_fallenPlaces 9 = .ok (.if_icmp .ge 21, 3) := by decide +kernel
theorem dX1_fallenPlaces_12 : decode cX1_fallenPlaces 12 = .ok (.aload_n 0, 1) := by decide +kernel
theorem dX1_fallenPlaces_13 : decode cX1_fallenPlaces 13 = .ok (.getfield 11, 3) := by decide +kernel
theorem dX1_fallenPlaces_16 : decode cX1_fallenPlaces 16 = .ok (.iload_n 2, 1) := by decide +kernel
theorem dX1_fallenPlaces_17 : decode cX1_fallenPlaces 17 = .ok (.aaload, 1) := by decide +kernel
theorem dX1_fallenPlaces_18 : decode cX1_fallenPlaces 18 = .ok (.ifnonnull 6, 3) := by decide +kernel
theorem dX1_fallenPlaces_21 : decode cX1_fallenPlaces 21 = .ok (.iinc 1 1, 3) := by decide +kernel
theorem dX1_fallenPlaces_24 : decode cX1_fallenPlaces 24 = .ok (.iinc 2 1, 3) := by decide +kernel
theorem dX1_fallenPlaces_27 : decode cX1_fallenPlaces 27 = .ok (.goto (-23), 3) := by decide +kernel
theorem dX1_fallenPlaces_30 : decode cX1_fallenPlaces 30 = .ok (.iload_n 1, 1) := by decide +kernel
theorem dX1_fallenPlaces_31 : decode cX1_fallenPlaces 31 = .ok (.ireturn, 1) := by decide +kernel
theorem dX1_rowsNotYetCounted_0 : decode cX1_rowsNotYetCounted 0 = .ok (.iconst 0, 1) := by decide +kernel
theorem dX1_rowsNotYetCounted_1 : decode cX1_rowsNotYetCounted 1 = .ok (.istore_n 2, 1) := by decide +kernel
theorem dX1_rowsNotYetCounted_2 : decode cX1_rowsNotYetCounted 2 = .ok (.iconst 0, 1) := by decide +kernel
theorem dX1_rowsNotYetCounted_3 : decode cX1_rowsNotYetCounted 3 = .ok (.istore_n 3, 1) := by decide +kernel
theorem dX1_rowsNotYetCounted_4 : decode cX1_rowsNotYetCounted 4 = .ok (.iload_n 3, 1) := by decide +kernel
theorem dX1_rowsNotYetCounted_5 : decode cX1_rowsNotYetCounted 5 = .ok (.aload_n 0, 1) := by decide +kernel
theorem dX1_rowsNotYetCounted_6 : decode cX1_rowsNotYetCounted 6 = .ok (.getfield 21, 3) := by decide +kernel
theorem dX1_rowsNotYetCounted_9 : decode cX1_rowsNotYetCounted 9 = .ok (.if_icmp .ge 44, 3) := by decide +kernel
theorem dX1_rowsNotYetCounted_12 : decode cX1_rowsNotYetCounted 12 = .ok (.aload_n 0, 1) := by decide +kernel
theorem dX1_rowsNotYetCounted_13 : decode cX1_rowsNotYetCounted 13 = .ok (.getfield 11, 3) := by decide +kernel
theorem dX1_rowsNotYetCounted_16 : decode cX1_rowsNotYetCounted 16 = .ok (.iload_n 3, 1) := by decide +kernel
theorem dX1_rowsNotYetCounted_17 : decode cX1_rowsNotYetCounted 17 = .ok (.aaload, 1) := by decide +kernel
theorem dX1_rowsNotYetCounted_18 : decode cX1_rowsNotYetCounted 18 = .ok (.ifnull 29, 3) := by decide +kernel
theorem dX1_rowsNotYetCounted_21 : decode cX1_rowsNotYetCounted 21 = .ok (.aload_n 0, 1) := by decide +kernel
theorem dX1_rowsNotYetCounted_22 : decode cX1_rowsNotYetCounted 22 = .ok (.getfield 11, 3) := by decide +kernel
theorem dX1_rowsNotYetCounted_25 : decode cX1_rowsNotYetCounted 25 = .ok (.iload_n 3, 1) := by decide +kernel
theorem dX1_rowsNotYetCounted_26 : decode cX1_rowsNotYetCounted 26 = .ok (.aaload, 1) := by decide +kernel
theorem dX1_rowsNotYetCounted_27 : decode cX1_rowsNotYetCounted 27 = .ok (.getfield 44, 3) := by decide +kernel
theorem dX1_rowsNotYetCounted_30 : decode cX1_rowsNotYetCounted 30 = .ok (.iload_n 1, 1) := by decide +kernel
theorem dX1_rowsNotYetCounted_31 : decode cX1_rowsNotYetCounted 31 = .ok (.if_icmp .eq 16, 3) := by decide +kernel
theorem dX1_rowsNotYetCounted_34 : decode cX1_rowsNotYetCounted 34 = .ok (.aload_n 0, 1) := by decide +kernel
theorem dX1_rowsNotYetCounted_35 : decode cX1_rowsNotYetCounted 35 = .ok (.getfield 11, 3) := by decide +kernel
theorem dX1_rowsNotYetCounted_38 : decode cX1_rowsNotYetCounted 38 = .ok (.iload_n 3, 1) := by decide +kernel
theorem dX1_rowsNotYetCounted_39 : decode cX1_rowsNotYetCounted 39 = .ok (.aaload, 1) := by decide +kernel
theorem dX1_rowsNotYetCounted_40 : decode cX1_rowsNotYetCounted 40 = .ok (.iload_n 1, 1) := by decide +kernel
theorem dX1_rowsNotYetCounted_41 : decode cX1_rowsNotYetCounted 41 = .ok (.putfield 44, 3) := by decide +kernel
theorem dX1_rowsNotYetCounted_44 : decode cX1_rowsNotYetCounted 44 = .ok (.iinc 2 1, 3) := by decide +kernel
theorem dX1_rowsNotYetCounted_47 : decode cX1_rowsNotYetCounted 47 = .ok (.iinc 3 1, 3) := by decide +kernel
theorem dX1_rowsNotYetCounted_50 : decode cX1_rowsNotYetCounted 50 = .ok (.goto (-46), 3) := by decide +kernel
theorem dX1_rowsNotYetCounted_53 : decode cX1_rowsNotYetCounted 53 = .ok (.iload_n 2, 1) := by decide +kernel
theorem dX1_rowsNotYetCounted_54 : decode cX1_rowsNotYetCounted 54 = .ok (.ireturn, 1) := by decide +kernel
theorem dX1_agreesWith_0 : decode cX1_agreesWith 0 = .ok (.aload_n 0, 1) := by decide +kernel
theorem dX1_agreesWith_1 : decode cX1_agreesWith 1 = .ok (.getfield 17, 3) := by decide +kernel
theorem dX1_agreesWith_4 : decode cX1_agreesWith 4 = .ok (.aload_n 1, 1) := by decide +kernel
theorem dX1_agreesWith_5 : decode cX1_agreesWith 5 = .ok (.getfield 17, 3) := by decide +kernel
theorem dX1_agreesWith_8 : decode cX1_agreesWith 8 = .ok (.if_icmp .ne 14, 3) := by decide +kernel
theorem dX1_agreesWith_11 : decode cX1_agreesWith 11 = .ok (.aload_n 0, 1) := by decide +kernel
theorem dX1_agreesWith_12 : decode cX1_agreesWith 12 = .ok (.getfield 21, 3) := by decide +kernel
theorem dX1_agreesWith_15 : decode cX1_agreesWith 15 = .ok (.aload_n 1, 1) := by decide +kernel
theorem dX1_agreesWith_16 : decode cX1_agreesWith 16 = .ok (.getfield 21, 3) := by decide +kernel
theorem dX1_agreesWith_19 : decode cX1_agreesWith 19 = .ok (.if_icmp .eq 5, 3) := by decide +kernel
theorem dX1_agreesWith_22 : decode cX1_agreesWith 22 = .ok (.iconst 0, 1) := by decide +kernel
theorem dX1_agreesWith_23 : decode cX1_agreesWith 23 = .ok (.ireturn, 1) := by decide +kernel
theorem dX1_agreesWith_24 : decode cX1_agreesWith 24 = .ok (.iconst 0, 1) := by decide +kernel
theorem dX1_agreesWith_25 : decode cX1_agreesWith 25 = .ok (.istore_n 2, 1) := by decide +kernel
theorem dX1_agreesWith_26 : decode cX1_agreesWith 26 = .ok (.iload_n 2, 1) := by decide +kernel
theorem dX1_agreesWith_27 : decode cX1_agreesWith 27 = .ok (.aload_n 0, 1) := by decide +kernel
theorem dX1_agreesWith_28 : decode cX1_agreesWith 28 = .ok (.getfield 21, 3) := by decide +kernel
theorem dX1_agreesWith_31 : decode cX1_agreesWith 31 = .ok (.if_icmp .ge 62, 3) := by decide +kernel
theorem dX1_agreesWith_34 : decode cX1_agreesWith 34 = .ok (.aload_n 0, 1) := by decide +kernel
theorem dX1_agreesWith_35 : decode cX1_agreesWith 35 = .ok (.getfield 11, 3) := by decide +kernel
theorem dX1_agreesWith_38 : decode cX1_agreesWith 38 = .ok (.iload_n 2, 1) := by decide +kernel
theorem dX1_agreesWith_39 : decode cX1_agreesWith 39 = .ok (.aaload, 1) := by decide +kernel
theorem dX1_agreesWith_40 : decode cX1_agreesWith 40 = .ok (.astore_n 3, 1) := by decide +kernel
theorem dX1_agreesWith_41 : decode cX1_agreesWith 41 = .ok (.aload_n 1, 1) := by decide +kernel
theorem dX1_agreesWith_42 : decode cX1_agreesWith 42 = .ok (.getfield 11, 3) := by decide +kernel
theorem dX1_agreesWith_45 : decode cX1_agreesWith 45 = .ok (.iload_n 2, 1) := by decide +kernel
theorem dX1_agreesWith_46 : decode cX1_agreesWith 46 = .ok (.aaload, 1) := by decide +kernel
theorem dX1_agreesWith_47 : decode cX1_agreesWith 47 = .ok (.astore 4, 2) := by decide +kernel
theorem dX1_agreesWith_49 : decode cX1_agreesWith 49 = .ok (.aload_n 3, 1) := by decide +kernel
theorem dX1_agreesWith_50 : decode cX1_agreesWith 50 = .ok (.ifnull 8, 3) := by decide +kernel
theorem dX1_agreesWith_53 : decode cX1_agreesWith 53 = .ok (.aload 4, 2) := by decide +kernel
theorem dX1_agreesWith_55 : decode cX1_agreesWith 55 = .ok (.ifnonnull 17, 3) := by decide +kernel
theorem dX1_agreesWith_58 : decode cX1_agreesWith 58 = .ok (.aload_n 3, 1) := by decide +kernel
theorem dX1_agreesWith_59 : decode cX1_agreesWith 59 = .ok (.aload 4, 2) := by decide +kernel
theorem dX1_agreesWith_61 : decode cX1_agreesWith 61 = .ok (.if_acmp .ne 7, 3) := by decide +kernel
theorem dX1_agreesWith_64 : decode cX1_agreesWith 64 = .ok (.iconst 1, 1) := by decide +kernel
theorem dX1_agreesWith_65 : decode cX1_agreesWith 65 = .ok (.goto 13, 3) := by decide +kernel
theorem dX1_agreesWith_68 : decode cX1_agreesWith 68 = .ok (.iconst 0, 1) := by decide +kernel
theorem dX1_agreesWith_69 : decode cX1_agreesWith 69 = .ok (.goto 9, 3) := by decide +kernel
theorem dX1_agreesWith_72 : decode cX1_agreesWith 72 = .ok (.aload_n 3, 1) := by decide +kernel
theorem dX1_agreesWith_73 : decode cX1_agreesWith 73 = .ok (.aload 4, 2) := by decide +kernel
theorem dX1_agreesWith_75 : decode cX1_agreesWith 75 = .ok (.invokevirtual 47, 3) := by decide +kernel
theorem dX1_agreesWith_78 : decode cX1_agreesWith 78 = .ok (.istore 5, 2) := by decide +kernel
theorem dX1_agreesWith_80 : decode cX1_agreesWith 80 = .ok (.iload 5, 2) := by decide +kernel
theorem dX1_agreesWith_82 : decode cX1_agreesWith 82 = .ok (.ifCond .ne 5, 3) := by decide +kernel
theorem dX1_agreesWith_85 : decode cX1_agreesWith 85 = .ok (.iconst 0, 1) := by decide +kernel
theorem dX1_agreesWith_86 : decode cX1_agreesWith 86 = .ok (.ireturn, 1) := by decide +kernel
theorem dX1_agreesWith_87 : decode cX1_agreesWith 87 = .ok (.iinc 2 1, 3) := by decide +kernel
theorem dX1_agreesWith_90 : decode cX1_agreesWith 90 = .ok (.goto (-64), 3) := by decide +kernel
theorem dX1_agreesWith_93 : decode cX1_agreesWith 93 = .ok (.iconst 1, 1) := by decide +kernel
theorem dX1_agreesWith_94 : decode cX1_agreesWith 94 = .ok (.ireturn, 1) := by decide +kernel
theorem dX2_init_0 : decode cX2_init 0 = .ok (.aload_n 0, 1) := by decide +kernel
theorem dX2_init_1 : decode cX2_init 1 = .ok (.invokespecial 3, 3) := by decide +kernel
theorem dX2_init_4 : decode cX2_init 4 = .ok (.aload_n 0, 1) := by decide +kernel
theorem dX2_init_5 : decode cX2_init 5 = .ok (.bipush 16, 2) := by decide +kernel
theorem dX2_init_7 : decode cX2_init 7 = .ok (.anewarray 9, 3) := by decide +kernel
theorem dX2_init_10 : decode cX2_init 10 = .ok (.putfield 11, 3) := by decide +kernel
theorem dX2_init_13 : decode cX2_init 13 = .ok (.iconst 0, 1) := by decide +kernel
theorem dX2_init_14 : decode cX2_init 14 = .ok (.istore_n 1, 1) := by decide +kernel
theorem dX2_init_15 : decode cX2_init 15 = .ok (.iload_n 1, 1) := by decide +kernel
theorem dX2_init_16 : decode cX2_init 16 = .ok (.bipush 16, 2) := by decide +kernel
theorem dX2_init_18 : decode cX2_init 18 = .ok (.if_icmp .ge 22, 3) := by decide +kernel
theorem dX2_init_21 : decode cX2_init 21 = .ok (.aload_n 0, 1) := by decide +kernel
theorem dX2_init_22 : decode cX2_init 22 = .ok (.getfield 11, 3) := by decide +kernel
theorem dX2_init_25 : decode cX2_init 25 = .ok (.iload_n 1, 1) := by decide +kernel
theorem dX2_init_26 : decode cX2_init 26 = .ok (.new 9, 3) := by decide +kernel
theorem dX2_init_29 : decode cX2_init 29 = .ok (.dup, 1) := by decide +kernel
theorem dX2_init_30 : decode cX2_init 30 = .ok (.invokespecial 15, 3) := by decide +kernel
theorem dX2_init_33 : decode cX2_init 33 = .ok (.aastore, 1) := by decide +kernel
theorem dX2_init_34 : decode cX2_init 34 = .ok (.iinc 1 1, 3) := by decide +kernel
theorem dX2_init_37 : decode cX2_init 37 = .ok (.goto (-22), 3) := by decide +kernel
theorem dX2_init_40 : decode cX2_init 40 = .ok (.aload_n 0, 1) := by decide +kernel
theorem dX2_init_41 : decode cX2_init 41 = .ok (.bipush 6, 2) := by decide +kernel
theorem dX2_init_43 : decode cX2_init 43 = .ok (.newarray .int, 2) := by decide +kernel
theorem dX2_init_45 : decode cX2_init 45 = .ok (.putfield 16, 3) := by decide +kernel
theorem dX2_init_48 : decode cX2_init 48 = .ok (.aload_n 0, 1) := by decide +kernel
theorem dX2_init_49 : decode cX2_init 49 = .ok (.bipush 16, 2) := by decide +kernel
theorem dX2_init_51 : decode cX2_init 51 = .ok (.newarray .boolean, 2) := by decide +kernel
theorem dX2_init_53 : decode cX2_init 53 = .ok (.putfield 20, 3) := by decide +kernel
theorem dX2_init_56 : decode cX2_init 56 = .ok (.aload_n 0, 1) := by decide +kernel
theorem dX2_init_57 : decode cX2_init 57 = .ok (.bipush 16, 2) := by decide +kernel
theorem dX2_init_59 : decode cX2_init 59 = .ok (.newarray .int, 2) := by decide +kernel
theorem dX2_init_61 : decode cX2_init 61 = .ok (.putfield 24, 3) := by decide +kernel
theorem dX2_init_64 : decode cX2_init 64 = .ok (.return_, 1) := by decide +kernel
theorem dX2_table_0 : decode cX2_table 0 = .ok (.iload_n 1, 1) := by decide +kernel
theorem dX2_table_1 : decode cX2_table 1 = .ok (.ifCond .lt 14, 3) := by decide +kernel
theorem dX2_table_4 : decode cX2_table 4 = .ok (.iload_n 1, 1) := by decide +kernel
theorem dX2_table_5 : decode cX2_table 5 = .ok (.iconst 3, 1) := by decide +kernel
theorem dX2_table_6 : decode cX2_table 6 = .ok (.if_icmp .gt 9, 3) := by decide +kernel
theorem dX2_table_9 : decode cX2_table 9 = .ok (.iload_n 2, 1) := by decide +kernel
theorem dX2_table_10 : decode cX2_table 10 = .ok (.bipush 12, 2) := by decide +kernel
theorem dX2_table_12 : decode cX2_table 12 = .ok (.if_icmp .le 6, 3) := by decide +kernel
theorem dX2_table_15 : decode cX2_table 15 = .ok (.ldc 27, 2) := by decide +kernel
theorem dX2_table_17 : decode cX2_table 17 = .ok (.ireturn, 1) := by decide +kernel
theorem dX2_table_18 : decode cX2_table 18 = .ok (.aload_n 0, 1) := by decide +kernel
theorem dX2_table_19 : decode cX2_table 19 = .ok (.invokevirtual 28, 3) := by decide +kernel
theorem dX2_table_22 : decode cX2_table 22 = .ok (.ifCond .eq 6, 3) := by decide +kernel
theorem dX2_table_25 : decode cX2_table 25 = .ok (.ldc 32, 2) := by decide +kernel
theorem dX2_table_27 : decode cX2_table 27 = .ok (.ireturn, 1) := by decide +kernel
theorem dX2_table_28 : decode cX2_table 28 = .ok (.iload_n 2, 1) := by decide +kernel
theorem dX2_table_29 : decode cX2_table 29 = .ok (.ifCond .ge 9, 3) := by decide +kernel
theorem dX2_table_32 : decode cX2_table 32 = .ok (.aload_n 0, 1) := by decide +kernel
theorem dX2_table_33 : decode cX2_table 33 = .ok (.iconst 4, 1) := by decide +kernel
theorem dX2_table_34 : decode cX2_table 34 = .ok (.invokevirtual 33, 3) := by decide +kernel
theorem dX2_table_37 : decode cX2_table 37 = .ok (.ireturn, 1) := by decide +kernel
theorem dX2_table_38 : decode cX2_table 38 = .ok (.aload_n 0, 1) := by decide +kernel
theorem dX2_table_39 : decode cX2_table 39 = .ok (.iload_n 1, 1) := by decide +kernel
theorem dX2_table_40 : decode cX2_table 40 = .ok (.iload_n 2, 1) := by decide +kernel
theorem dX2_table_41 : decode cX2_table 41 = .ok (.invokevirtual 37, 3) := by decide +kernel
theorem dX2_table_44 : decode cX2_table 44 = .ok (.ireturn, 1) := by decide +kernel
theorem dX2_row_0 : decode cX2_row 0 = .ok (.aload_n 0, 1) := by decide +kernel
theorem dX2_row_1 : decode cX2_row 1 = .ok (.iload_n 1, 1) := by decide +kernel
theorem dX2_row_2 : decode cX2_row 2 = .ok (.invokevirtual 41, 3) := by decide +kernel
theorem dX2_row_5 : decode cX2_row 5 = .ok (.ifCond .eq 6, 3) := by decide +kernel
theorem dX2_row_8 : decode cX2_row 8 = .ok (.ldc 45, 2) := by decide +kernel
theorem dX2_row_10 : decode cX2_row 10 = .ok (.ireturn, 1) := by decide +kernel
theorem dX2_row_11 : decode cX2_row 11 = .ok (.iload_n 3, 1) := by decide +kernel
theorem dX2_row_12 : decode cX2_row 12 = .ok (.bipush 16, 2) := by decide +kernel
theorem dX2_row_14 : decode cX2_row 14 = .ok (.if_icmp .le 6, 3) := by decide +kernel
theorem dX2_row_17 : decode cX2_row 17 = .ok (.ldc 27, 2) := by decide +kernel
theorem dX2_row_19 : decode cX2_row 19 = .ok (.ireturn, 1) := by decide +kernel
theorem dX2_row_20 : decode cX2_row 20 = .ok (.iload_n 3, 1) := by decide +kernel
theorem dX2_row_21 : decode cX2_row 21 = .ok (.ifCond .ge 9, 3) := by decide +kernel
theorem dX2_row_24 : decode cX2_row 24 = .ok (.aload_n 0, 1) := by decide +kernel
theorem dX2_row_25 : decode cX2_row 25 = .ok (.iconst 4, 1) := by decide +kernel
theorem dX2_row_26 : decode cX2_row 26 = .ok (.invokevirtual 33, 3) := by decide +kernel
theorem dX2_row_29 : decode cX2_row 29 = .ok (.ireturn, 1) := by decide +kernel
theorem dX2_row_30 : decode cX2_row 30 = .ok (.aload_n 0, 1) := by decide +kernel
theorem dX2_row_31 : decode cX2_row 31 = .ok (.getfield 11, 3) := by decide +kernel
theorem dX2_row_34 : decode cX2_row 34 = .ok (.iload_n 1, 1) := by decide +kernel
theorem dX2_row_35 : decode cX2_row 35 = .ok (.aaload, 1) := by decide +kernel
theorem dX2_row_36 : decode cX2_row 36 = .ok (.astore 4, 2) := by decide +kernel
theorem dX2_row_38 : decode cX2_row 38 = .ok (.aload 4, 2) := by decide +kernel
theorem dX2_row_40 : decode cX2_row 40 = .ok (.iload_n 2, 1) := by decide +kernel
theorem dX2_row_41 : decode cX2_row 41 = .ok (.invokevirtual 46, 3) := by decide +kernel
theorem dX2_row_44 : decode cX2_row 44 = .ok (.ifCond .ne 9, 3) := by decide +kernel
theorem dX2_row_47 : decode cX2_row 47 = .ok (.aload_n 0, 1) := by decide +kernel
theorem dX2_row_48 : decode cX2_row 48 = .ok (.iconst 2, 1) := by decide +kernel
theorem dX2_row_49 : decode cX2_row 49 = .ok (.invokevirtual 33, 3) := by decide +kernel
theorem dX2_row_52 : decode cX2_row 52 = .ok (.ireturn, 1) := by decide +kernel
theorem dX2_row_53 : decode cX2_row 53 = .ok (.aload 4, 2) := by decide +kernel
theorem dX2_row_55 : decode cX2_row 55 = .ok (.getfield 49, 3) := by decide +kernel
theorem dX2_row_58 : decode cX2_row 58 = .ok (.iload_n 2, 1) := by decide +kernel
theorem dX2_row_59 : decode cX2_row 59 = .ok (.new 53, 3) := by decide +kernel
theorem dX2_row_62 : decode cX2_row 62 = .ok (.dup, 1) := by decide +kernel
theorem dX2_row_63 : decode cX2_row 63 = .ok (.aload 4, 2) := by decide +kernel
theorem dX2_row_65 : decode cX2_row 65 = .ok (.getfield 55, 3) := by decide +kernel
theorem dX2_row_68 : decode cX2_row 68 = .ok (.iload_n 3, 1) := by decide +kernel
theorem dX2_row_69 : decode cX2_row 69 = .ok (.invokespecial 59, 3) := by decide +kernel
theorem dX2_row_72 : decode cX2_row 72 = .ok (.aastore, 1) := by decide +kernel
theorem dX2_row_73 : decode cX2_row 73 = .ok (.iconst 1, 1) := by decide +kernel
theorem dX2_row_74 : decode cX2_row 74 = .ok (.ireturn, 1) := by decide +kernel
theorem dX2_share_0 : decode cX2_share 0 = .ok (.aload_n 0, 1) := by decide +kernel
theorem dX2_share_1 : decode cX2_share 1 = .ok (.iload_n 1, 1) := by decide +kernel
theorem dX2_share_2 : decode cX2_share 2 = .ok (.invokevirtual 41, 3) := by decide +kernel
theorem dX2_share_5 : decode cX2_share 5 = .ok (.ifCond .ne 11, 3) := by decide +kernel
theorem dX2_share_8 : decode cX2_share 8 = .ok (.aload_n 0, 1) := by decide +kernel
theorem dX2_share_9 : decode cX2_share 9 = .ok (.iload_n 3, 1) := by decide +kernel
theorem dX2_share_10 : decode cX2_share 10 = .ok (.invokevirtual 41, 3) := by decide +kernel
theorem dX2_share_13 : decode cX2_share 13 = .ok (.ifCond .eq 6, 3) := by decide +kernel
theorem dX2_share_16 : decode cX2_share 16 = .ok (.ldc 45, 2) := by decide +kernel
theorem dX2_share_18 : decode cX2_share 18 = .ok (.ireturn, 1) := by decide +kernel
theorem dX2_share_19 : decode cX2_share 19 = .ok (.aload_n 0, 1) := by decide +kernel
theorem dX2_share_20 : decode cX2_share 20 = .ok (.getfield 11, 3) := by decide +kernel
theorem dX2_share_23 : decode cX2_share 23 = .ok (.iload_n 1, 1) := by decide +kernel
theorem dX2_share_24 : decode cX2_share 24 = .ok (.aaload, 1) := by decide +kernel
theorem dX2_share_25 : decode cX2_share 25 = .ok (.astore 5, 2) := by decide +kernel
theorem dX2_share_27 : decode cX2_share 27 = .ok (.aload_n 0, 1) := by decide +kernel
theorem dX2_share_28 : decode cX2_share 28 = .ok (.getfield 11, 3) := by decide +kernel
theorem dX2_share_31 : decode cX2_share 31 = .ok (.iload_n 3, 1) := by decide +kernel
theorem dX2_share_32 : decode cX2_share 32 = .ok (.aaload, 1) := by decide +kernel
theorem dX2_share_33 : decode cX2_share 33 = .ok (.astore 6, 2) := by decide +kernel
theorem dX2_share_35 : decode cX2_share 35 = .ok (.aload 6, 2) := by decide +kernel
theorem dX2_share_37 : decode cX2_share 37 = .ok (.iload 4, 2) := by decide +kernel
theorem dX2_share_39 : decode cX2_share 39 = .ok (.invokevirtual 46, 3) := by decide +kernel
theorem dX2_share_42 : decode cX2_share 42 = .ok (.ifCond .eq 12, 3) := by decide +kernel
theorem dX2_share_45 : decode cX2_share 45 = .ok (.aload 5, 2) := by decide +kernel
theorem dX2_share_47 : decode cX2_share 47 = .ok (.iload_n 2, 1) := by decide +kernel
theorem dX2_share_48 : decode cX2_share 48 = .ok (.invokevirtual 46, 3) := by decide +kernel
theorem dX2_share_51 : decode cX2_share 51 = .ok (.ifCond .ne 9, 3) := by decide +kernel
theorem dX2_share_54 : decode cX2_share 54 = .ok (.aload_n 0, 1) := by decide +kernel
theorem dX2_share_55 : decode cX2_share 55 = .ok (.iconst 2, 1) := by decide +kernel
theorem dX2_share_56 : decode cX2_share 56 = .ok (.invokevirtual 33, 3) := by decide +kernel
theorem dX2_share_59 : decode cX2_share 59 = .ok (.ireturn, 1) := by decide +kernel
theorem dX2_share_60 : decode cX2_share 60 = .ok (.aload 6, 2) := by decide +kernel
theorem dX2_share_62 : decode cX2_share 62 = .ok (.getfield 49, 3) := by decide +kernel
theorem dX2_share_65 : decode cX2_share 65 = .ok (.iload 4, 2) := by decide +kernel
theorem dX2_share_67 : decode cX2_share 67 = .ok (.aaload, 1) := by decide +kernel
theorem dX2_share_68 : decode cX2_share 68 = .ok (.ifnonnull 9, 3) := by decide +kernel
theorem dX2_share_71 : decode cX2_share 71 = .ok (.aload_n 0, 1) := by decide +kernel
theorem dX2_share_72 : decode cX2_share 72 = .ok (.iconst 1, 1) := by decide +kernel
theorem dX2_share_73 : decode cX2_share 73 = .ok (.invokevirtual 33, 3) := by decide +kernel
theorem dX2_share_76 : decode cX2_share 76 = .ok (.ireturn, 1) := by decide +kernel
theorem dX2_share_77 : decode cX2_share 77 = .ok (.aload 6, 2) := by decide +kernel
theorem dX2_share_79 : decode cX2_share 79 = .ok (.getfield 55, 3) := by decide +kernel
theorem dX2_share_82 : decode cX2_share 82 = .ok (.aload 5, 2) := by decide +kernel
theorem dX2_share_84 : decode cX2_share 84 = .ok (.getfield 55, 3) := by decide +kernel
theorem dX2_share_87 : decode cX2_share 87 = .ok (.if_icmp .eq 9, 3) := by decide +kernel
theorem dX2_share_90 : decode cX2_share 90 = .ok (.aload_n 0, 1) := by decide +kernel
theorem dX2_share_91 : decode cX2_share 91 = .ok (.iconst 3, 1) := by decide +kernel
theorem dX2_share_92 : decode cX2_share 92 = .ok (.invokevirtual 33, 3) := by decide +kernel
theorem dX2_share_95 : decode cX2_share 95 = .ok (.ireturn, 1) := by decide +kernel
theorem dX2_share_96 : decode cX2_share 96 = .ok (.aload 5, 2) := by decide +kernel
theorem dX2_share_98 : decode cX2_share 98 = .ok (.getfield 49, 3) := by decide +kernel
theorem dX2_share_101 : decode cX2_share 101 = .ok (.iload_n 2, 1) := by decide +kernel
theorem dX2_share_102 : decode cX2_share 102 = .ok (.aload 6, 2) := by decide +kernel
theorem dX2_share_104 : decode cX2_share 104 = .ok (.getfield 49, 3) := by decide +kernel
theorem dX2_share_107 : decode cX2_share 107 = .ok (.iload 4, 2) := by decide +kernel
theorem dX2_share_109 : decode cX2_share 109 = .ok (.aaload, 1) := by decide +kernel
theorem dX2_share_110 : decode cX2_share 110 = .ok (.aastore, 1) := by decide +kernel
theorem dX2_share_111 : decode cX2_share 111 = .ok (.iconst 1, 1) := by decide +kernel
theorem dX2_share_112 : decode cX2_share 112 = .ok (.ireturn, 1) := by decide +kernel
theorem dX2_fall_0 : decode cX2_fall 0 = .ok (.aload_n 0, 1) := by decide +kernel
theorem dX2_fall_1 : decode cX2_fall 1 = .ok (.iload_n 1, 1) := by decide +kernel
theorem dX2_fall_2 : decode cX2_fall 2 = .ok (.invokevirtual 41, 3) := by decide +kernel
theorem dX2_fall_5 : decode cX2_fall 5 = .ok (.ifCond .eq 6, 3) := by decide +kernel
theorem dX2_fall_8 : decode cX2_fall 8 = .ok (.ldc 45, 2) := by decide +kernel
theorem dX2_fall_10 : decode cX2_fall 10 = .ok (.ireturn, 1) := by decide +kernel
theorem dX2_fall_11 : decode cX2_fall 11 = .ok (.aload_n 0, 1) := by decide +kernel
theorem dX2_fall_12 : decode cX2_fall 12 = .ok (.getfield 11, 3) := by decide +kernel
theorem dX2_fall_15 : decode cX2_fall 15 = .ok (.iload_n 1, 1) := by decide +kernel
theorem dX2_fall_16 : decode cX2_fall 16 = .ok (.aaload, 1) := by decide +kernel
theorem dX2_fall_17 : decode cX2_fall 17 = .ok (.astore_n 3, 1) := by decide +kernel
theorem dX2_fall_18 : decode cX2_fall 18 = .ok (.aload_n 3, 1) := by decide +kernel
theorem dX2_fall_19 : decode cX2_fall 19 = .ok (.iload_n 2, 1) := by decide +kernel
theorem dX2_fall_20 : decode cX2_fall 20 = .ok (.invokevirtual 46, 3) := by decide +kernel
theorem dX2_fall_23 : decode cX2_fall 23 = .ok (.ifCond .ne 9, 3) := by decide +kernel
theorem dX2_fall_26 : decode cX2_fall 26 = .ok (.aload_n 0, 1) := by decide +kernel
theorem dX2_fall_27 : decode cX2_fall 27 = .ok (.iconst 2, 1) := by decide +kernel
theorem dX2_fall_28 : decode cX2_fall 28 = .ok (.invokevirtual 33, 3) := by decide +kernel
theorem dX2_fall_31 : decode cX2_fall 31 = .ok (.ireturn, 1) := by decide +kernel
theorem dX2_fall_32 : decode cX2_fall 32 = .ok (.aload_n 3, 1) := by decide +kernel
theorem dX2_fall_33 : decode cX2_fall 33 = .ok (.getfield 49, 3) := by decide +kernel
theorem dX2_fall_36 : decode cX2_fall 36 = .ok (.iload_n 2, 1) := by decide +kernel
theorem dX2_fall_37 : decode cX2_fall 37 = .ok (.aaload, 1) := by decide +kernel
theorem dX2_fall_38 : decode cX2_fall 38 = .ok (.ifnull 7, 3) := by decide +kernel
theorem dX2_fall_41 : decode cX2_fall 41 = .ok (.iconst 1, 1) := by decide +kernel
theorem dX2_fall_42 : decode cX2_fall 42 = .ok (.goto 4, 3) := by decide +kernel
theorem dX2_fall_45 : decode cX2_fall 45 = .ok (.iconst 0, 1) := by decide +kernel
theorem dX2_fall_46 : decode cX2_fall 46 = .ok (.istore 4, 2) := by decide +kernel
theorem dX2_fall_48 : decode cX2_fall 48 = .ok (.aload_n 3, 1) := by decide +kernel
theorem dX2_fall_49 : decode cX2_fall 49 = .ok (.getfield 49, 3) := by decide +kernel
theorem dX2_fall_52 : decode cX2_fall 52 = .ok (.iload_n 2, 1) := by decide +kernel
theorem dX2_fall_53 : decode cX2_fall 53 = .ok (.aconst_null, 1) := by decide +kernel
theorem dX2_fall_54 : decode cX2_fall 54 = .ok (.aastore, 1) := by decide +kernel
theorem dX2_fall_55 : decode cX2_fall 55 = .ok (.iload 4, 2) := by decide +kernel
theorem dX2_fall_57 : decode cX2_fall 57 = .ok (.ireturn, 1) := by decide +kernel
theorem dX2_put_0 : decode cX2_put 0 = .ok (.aload_n 0, 1) := by decide +kernel
theorem dX2_put_1 : decode cX2_put 1 = .ok (.iload_n 1, 1) := by decide +kernel
theorem dX2_put_2 : decode cX2_put 2 = .ok (.invokevirtual 41, 3) := by decide +kernel
theorem dX2_put_5 : decode cX2_put 5 = .ok (.ifCond .eq 6, 3) := by decide +kernel
theorem dX2_put_8 : decode cX2_put 8 = .ok (.ldc 45, 2) := by decide +kernel
theorem dX2_put_10 : decode cX2_put 10 = .ok (.ireturn, 1) := by decide +kernel
theorem dX2_put_11 : decode cX2_put 11 = .ok (.aload_n 0, 1) := by decide +kernel
theorem dX2_put_12 : decode cX2_put 12 = .ok (.getfield 11, 3) := by decide +kernel
theorem dX2_put_15 : decode cX2_put 15 = .ok (.iload_n 1, 1) := by decide +kernel
theorem dX2_put_16 : decode cX2_put 16 = .ok (.aaload, 1) := by decide +kernel
theorem dX2_put_17 : decode cX2_put 17 = .ok (.astore 5, 2) := by decide +kernel
theorem dX2_put_19 : decode cX2_put 19 = .ok (.aload 5, 2) := by decide +kernel
theorem dX2_put_21 : decode cX2_put 21 = .ok (.getfield 55, 3) := by decide +kernel
theorem dX2_put_24 : decode cX2_put 24 = .ok (.iconst 3, 1) := by decide +kernel
theorem dX2_put_25 : decode cX2_put 25 = .ok (.if_icmp .ne 22, 3) := by decide +kernel
theorem dX2_put_28 : decode cX2_put 28 = .ok (.iload 4, 2) := by decide +kernel
theorem dX2_put_30 : decode cX2_put 30 = .ok (.ldc 62, 2) := by decide +kernel
theorem dX2_put_32 : decode cX2_put 32 = .ok (.if_icmp .eq 15, 3) := by decide +kernel
theorem dX2_put_35 : decode cX2_put 35 = .ok (.aload_n 0, 1) := by decide +kernel
theorem dX2_put_36 : decode cX2_put 36 = .ok (.iload 4, 2) := by decide +kernel
theorem dX2_put_38 : decode cX2_put 38 = .ok (.invokevirtual 41, 3) := by decide +kernel
theorem dX2_put_41 : decode cX2_put 41 = .ok (.ifCond .eq 6, 3) := by decide +kernel
theorem dX2_put_44 : decode cX2_put 44 = .ok (.ldc 45, 2) := by decide +kernel
theorem dX2_put_46 : decode cX2_put 46 = .ok (.ireturn, 1) := by decide +kernel
theorem dX2_put_47 : decode cX2_put 47 = .ok (.aload 5, 2) := by decide +kernel
theorem dX2_put_49 : decode cX2_put 49 = .ok (.iload_n 2, 1) := by decide +kernel
theorem dX2_put_50 : decode cX2_put 50 = .ok (.iload_n 3, 1) := by decide +kernel
theorem dX2_put_51 : decode cX2_put 51 = .ok (.invokevirtual 63, 3) := by decide +kernel
theorem dX2_put_54 : decode cX2_put 54 = .ok (.istore 6, 2) := by decide +kernel
theorem dX2_put_56 : decode cX2_put 56 = .ok (.iload 6, 2) := by decide +kernel
theorem dX2_put_58 : decode cX2_put 58 = .ok (.ifCond .eq 10, 3) := by decide +kernel
theorem dX2_put_61 : decode cX2_put 61 = .ok (.aload_n 0, 1) := by decide +kernel
theorem dX2_put_62 : decode cX2_put 62 = .ok (.iload 6, 2) := by decide +kernel
theorem dX2_put_64 : decode cX2_put 64 = .ok (.invokevirtual 33, 3) := by decide +kernel
theorem dX2_put_67 : decode cX2_put 67 = .ok (.ireturn, 1) := by decide +kernel
theorem dX2_put_68 : decode cX2_put 68 = .ok (.aload 5, 2) := by decide +kernel
theorem dX2_put_70 : decode cX2_put 70 = .ok (.getfield 49, 3) := by decide +kernel
theorem dX2_put_73 : decode cX2_put 73 = .ok (.iload_n 2, 1) := by decide +kernel
theorem dX2_put_74 : decode cX2_put 74 = .ok (.aaload, 1) := by decide +kernel
theorem dX2_put_75 : decode cX2_put 75 = .ok (.iload_n 3, 1) := by decide +kernel
theorem dX2_put_76 : decode cX2_put 76 = .ok (.iload 4, 2) := by decide +kernel
theorem dX2_put_78 : decode cX2_put 78 = .ok (.invokevirtual 66, 3) := by decide +kernel
theorem dX2_put_81 : decode cX2_put 81 = .ok (.iconst 1, 1) := by decide +kernel
theorem dX2_put_82 : decode cX2_put 82 = .ok (.ireturn, 1) := by decide +kernel
theorem dX2_get_0 : decode cX2_get 0 = .ok (.aload_n 0, 1) := by decide +kernel
theorem dX2_get_1 : decode cX2_get 1 = .ok (.iload_n 1, 1) := by decide +kernel
theorem dX2_get_2 : decode cX2_get 2 = .ok (.invokevirtual 41, 3) := by decide +kernel
theorem dX2_get_5 : decode cX2_get 5 = .ok (.ifCond .eq 6, 3) := by decide +kernel
theorem dX2_get_8 : decode cX2_get 8 = .ok (.ldc 45, 2) := by decide +kernel
theorem dX2_get_10 : decode cX2_get 10 = .ok (.ireturn, 1) := by decide +kernel
theorem dX2_get_11 : decode cX2_get 11 = .ok (.aload_n 0, 1) := by decide +kernel
theorem dX2_get_12 : decode cX2_get 12 = .ok (.getfield 11, 3) := by decide +kernel
theorem dX2_get_15 : decode cX2_get 15 = .ok (.iload_n 1, 1) := by decide +kernel
theorem dX2_get_16 : decode cX2_get 16 = .ok (.aaload, 1) := by decide +kernel
theorem dX2_get_17 : decode cX2_get 17 = .ok (.astore 4, 2) := by decide +kernel
theorem dX2_get_19 : decode cX2_get 19 = .ok (.aload 4, 2) := by decide +kernel
theorem dX2_get_21 : decode cX2_get 21 = .ok (.iload_n 2, 1) := by decide +kernel
theorem dX2_get_22 : decode cX2_get 22 = .ok (.iload_n 3, 1) := by decide +kernel
theorem dX2_get_23 : decode cX2_get 23 = .ok (.invokevirtual 63, 3) := by decide +kernel
theorem dX2_get_26 : decode cX2_get 26 = .ok (.istore 5, 2) := by decide +kernel
theorem dX2_get_28 : decode cX2_get 28 = .ok (.iload 5, 2) := by decide +kernel
theorem dX2_get_30 : decode cX2_get 30 = .ok (.ifCond .eq 10, 3) := by decide +kernel
theorem dX2_get_33 : decode cX2_get 33 = .ok (.aload_n 0, 1) := by decide +kernel
theorem dX2_get_34 : decode cX2_get 34 = .ok (.iload 5, 2) := by decide +kernel
theorem dX2_get_36 : decode cX2_get 36 = .ok (.invokevirtual 33, 3) := by decide +kernel
theorem dX2_get_39 : decode cX2_get 39 = .ok (.ireturn, 1) := by decide +kernel
theorem dX2_get_40 : decode cX2_get 40 = .ok (.aload 4, 2) := by decide +kernel
theorem dX2_get_42 : decode cX2_get 42 = .ok (.getfield 49, 3) := by decide +kernel
theorem dX2_get_45 : decode cX2_get 45 = .ok (.iload_n 2, 1) := by decide +kernel
theorem dX2_get_46 : decode cX2_get 46 = .ok (.aaload, 1) := by decide +kernel
theorem dX2_get_47 : decode cX2_get 47 = .ok (.iload_n 3, 1) := by decide +kernel
theorem dX2_get_48 : decode cX2_get 48 = .ok (.invokevirtual 69, 3) := by decide +kernel
theorem dX2_get_51 : decode cX2_get 51 = .ok (.ireturn, 1) := by decide +kernel
theorem dX2_real_0 : decode cX2_real 0 = .ok (.aload_n 0, 1) := by decide +kernel
theorem dX2_real_1 : decode cX2_real 1 = .ok (.iload_n 1, 1) := by decide +kernel
theorem dX2_real_2 : decode cX2_real 2 = .ok (.invokevirtual 41, 3) := by decide +kernel
theorem dX2_real_5 : decode cX2_real 5 = .ok (.ifCond .eq 5, 3) := by decide +kernel
theorem dX2_real_8 : decode cX2_real 8 = .ok (.dconst 0, 1) := by decide +kernel
theorem dX2_real_9 : decode cX2_real 9 = .ok (.dreturn, 1) := by decide +kernel
theorem dX2_real_10 : decode cX2_real 10 = .ok (.aload_n 0, 1) := by decide +kernel
theorem dX2_real_11 : decode cX2_real 11 = .ok (.getfield 11, 3) := by decide +kernel
theorem dX2_real_14 : decode cX2_real 14 = .ok (.iload_n 1, 1) := by decide +kernel
theorem dX2_real_15 : decode cX2_real 15 = .ok (.aaload, 1) := by decide +kernel
theorem dX2_real_16 : decode cX2_real 16 = .ok (.astore 4, 2) := by decide +kernel
theorem dX2_real_18 : decode cX2_real 18 = .ok (.aload 4, 2) := by decide +kernel
theorem dX2_real_20 : decode cX2_real 20 = .ok (.getfield 55, 3) := by decide +kernel
theorem dX2_real_23 : decode cX2_real 23 = .ok (.iconst 2, 1) := by decide +kernel
theorem dX2_real_24 : decode cX2_real 24 = .ok (.if_icmp .ne 13, 3) := by decide +kernel
theorem dX2_real_27 : decode cX2_real 27 = .ok (.aload 4, 2) := by decide +kernel
theorem dX2_real_29 : decode cX2_real 29 = .ok (.iload_n 2, 1) := by decide +kernel
theorem dX2_real_30 : decode cX2_real 30 = .ok (.iload_n 3, 1) := by decide +kernel
theorem dX2_real_31 : decode cX2_real 31 = .ok (.invokevirtual 63, 3) := by decide +kernel
theorem dX2_real_34 : decode cX2_real 34 = .ok (.ifCond .eq 5, 3) := by decide +kernel
theorem dX2_real_37 : decode cX2_real 37 = .ok (.dconst 0, 1) := by decide +kernel
theorem dX2_real_38 : decode cX2_real 38 = .ok (.dreturn, 1) := by decide +kernel
theorem dX2_real_39 : decode cX2_real 39 = .ok (.aload 4, 2) := by decide +kernel
theorem dX2_real_41 : decode cX2_real 41 = .ok (.getfield 49, 3) := by decide +kernel
theorem dX2_real_44 : decode cX2_real 44 = .ok (.iload_n 2, 1) := by decide +kernel
theorem dX2_real_45 : decode cX2_real 45 = .ok (.aaload, 1) := by decide +kernel
theorem dX2_real_46 : decode cX2_real 46 = .ok (.getfield 72, 3) := by decide +kernel
theorem dX2_real_49 : decode cX2_real 49 = .ok (.iload_n 3, 1) := by decide +kernel
theorem dX2_real_50 : decode cX2_real 50 = .ok (.daload, 1) := by decide +kernel
theorem dX2_real_51 : decode cX2_real 51 = .ok (.dreturn, 1) := by decide +kernel
theorem dX2_told_0 : decode cX2_told 0 = .ok (.aload_n 0, 1) := by decide +kernel
theorem dX2_told_1 : decode cX2_told 1 = .ok (.iload_n 1, 1) := by decide +kernel
theorem dX2_told_2 : decode cX2_told 2 = .ok (.invokevirtual 41, 3) := by decide +kernel
theorem dX2_told_5 : decode cX2_told 5 = .ok (.ifCond .eq 6, 3) := by decide +kernel
theorem dX2_told_8 : decode cX2_told 8 = .ok (.ldc 45, 2) := by decide +kernel
theorem dX2_told_10 : decode cX2_told 10 = .ok (.ireturn, 1) := by decide +kernel
theorem dX2_told_11 : decode cX2_told 11 = .ok (.aload_n 0, 1) := by decide +kernel
theorem dX2_told_12 : decode cX2_told 12 = .ok (.getfield 11, 3) := by decide +kernel
theorem dX2_told_15 : decode cX2_told 15 = .ok (.iload_n 1, 1) := by decide +kernel
theorem dX2_told_16 : decode cX2_told 16 = .ok (.aaload, 1) := by decide +kernel
theorem dX2_told_17 : decode cX2_told 17 = .ok (.astore 4, 2) := by decide +kernel
theorem dX2_told_19 : decode cX2_told 19 = .ok (.iload_n 3, 1) := by decide +kernel
theorem dX2_told_20 : decode cX2_told 20 = .ok (.tableswitch 73 0 2 #[28, 34, 40], 28) := by decide +kernel
theorem dX2_told_48 : decode cX2_told 48 = .ok (.aload 4, 2) := by decide +kernel
theorem dX2_told_50 : decode cX2_told 50 = .ok (.getfield 55, 3) := by decide +kernel
theorem dX2_told_53 : decode cX2_told 53 = .ok (.ireturn, 1) := by decide +kernel
theorem dX2_told_54 : decode cX2_told 54 = .ok (.aload 4, 2) := by decide +kernel
theorem dX2_told_56 : decode cX2_told 56 = .ok (.getfield 76, 3) := by decide +kernel
theorem dX2_told_59 : decode cX2_told 59 = .ok (.ireturn, 1) := by decide +kernel
theorem dX2_told_60 : decode cX2_told 60 = .ok (.aload 4, 2) := by decide +kernel
theorem dX2_told_62 : decode cX2_told 62 = .ok (.iload_n 2, 1) := by decide +kernel
theorem dX2_told_63 : decode cX2_told 63 = .ok (.invokevirtual 79, 3) := by decide +kernel
theorem dX2_told_66 : decode cX2_told 66 = .ok (.istore 5, 2) := by decide +kernel
theorem dX2_told_68 : decode cX2_told 68 = .ok (.iload 5, 2) := by decide +kernel
theorem dX2_told_70 : decode cX2_told 70 = .ok (.ifCond .eq 12, 3) := by decide +kernel
theorem dX2_told_73 : decode cX2_told 73 = .ok (.aload_n 0, 1) := by decide +kernel
theorem dX2_told_74 : decode cX2_told 74 = .ok (.iload 5, 2) := by decide +kernel
theorem dX2_told_76 : decode cX2_told 76 = .ok (.invokevirtual 33, 3) := by decide +kernel
theorem dX2_told_79 : decode cX2_told 79 = .ok (.goto 13, 3) := by decide +kernel
theorem dX2_told_82 : decode cX2_told 82 = .ok (.aload 4, 2) := by decide +kernel
theorem dX2_told_84 : decode cX2_told 84 = .ok (.getfield 49, 3) := by decide +kernel
theorem dX2_told_87 : decode cX2_told 87 = .ok (.iload_n 2, 1) := by decide +kernel
theorem dX2_told_88 : decode cX2_told 88 = .ok (.aaload, 1) := by decide +kernel
theorem dX2_told_89 : decode cX2_told 89 = .ok (.invokevirtual 82, 3) := by decide +kernel
theorem dX2_told_92 : decode cX2_told 92 = .ok (.ireturn, 1) := by decide +kernel
theorem dX2_told_93 : decode cX2_told 93 = .ok (.ldc 27, 2) := by decide +kernel
theorem dX2_told_95 : decode cX2_told 95 = .ok (.ireturn, 1) := by decide +kernel
theorem dX2_odd_0 : decode cX2_odd 0 = .ok (.aload_n 0, 1) := by decide +kernel
theorem dX2_odd_1 : decode cX2_odd 1 = .ok (.iload_n 1, 1) := by decide +kernel
theorem dX2_odd_2 : decode cX2_odd 2 = .ok (.invokevirtual 41, 3) := by decide +kernel
theorem dX2_odd_5 : decode cX2_odd 5 = .ok (.ifCond .eq 8, 3) := by decide +kernel
theorem dX2_odd_8 : decode cX2_odd 8 = .ok (.ldc 45, 2) := by decide +kernel
theorem dX2_odd_10 : decode cX2_odd 10 = .ok (.goto 12, 3) := by decide +kernel
theorem dX2_odd_13 : decode cX2_odd 13 = .ok (.aload_n 0, 1) := by decide +kernel
theorem dX2_odd_14 : decode cX2_odd 14 = .ok (.getfield 11, 3) := by decide +kernel
theorem dX2_odd_17 : decode cX2_odd 17 = .ok (.iload_n 1, 1) := by decide +kernel
theorem dX2_odd_18 : decode cX2_odd 18 = .ok (.aaload, 1) := by decide +kernel
theorem dX2_odd_19 : decode cX2_odd 19 = .ok (.invokevirtual 86, 3) := by decide +kernel
theorem dX2_odd_22 : decode cX2_odd 22 = .ok (.ireturn, 1) := by decide +kernel
theorem dX2_copy_0 : decode cX2_copy 0 = .ok (.aload_n 0, 1) := by decide +kernel
theorem dX2_copy_1 : decode cX2_copy 1 = .ok (.iload_n 1, 1) := by decide +kernel
theorem dX2_copy_2 : decode cX2_copy 2 = .ok (.invokevirtual 41, 3) := by decide +kernel
theorem dX2_copy_5 : decode cX2_copy 5 = .ok (.ifCond .ne 12, 3) := by decide +kernel
theorem dX2_copy_8 : decode cX2_copy 8 = .ok (.aload_n 0, 1) := by decide +kernel
theorem dX2_copy_9 : decode cX2_copy 9 = .ok (.iload 4, 2) := by decide +kernel
theorem dX2_copy_11 : decode cX2_copy 11 = .ok (.invokevirtual 41, 3) := by decide +kernel
theorem dX2_copy_14 : decode cX2_copy 14 = .ok (.ifCond .eq 6, 3) := by decide +kernel
theorem dX2_copy_17 : decode cX2_copy 17 = .ok (.ldc 45, 2) := by decide +kernel
theorem dX2_copy_19 : decode cX2_copy 19 = .ok (.ireturn, 1) := by decide +kernel
theorem dX2_copy_20 : decode cX2_copy 20 = .ok (.aload_n 0, 1) := by decide +kernel
theorem dX2_copy_21 : decode cX2_copy 21 = .ok (.getfield 11, 3) := by decide +kernel
theorem dX2_copy_24 : decode cX2_copy 24 = .ok (.iload_n 1, 1) := by decide +kernel
theorem dX2_copy_25 : decode cX2_copy 25 = .ok (.aaload, 1) := by decide +kernel
theorem dX2_copy_26 : decode cX2_copy 26 = .ok (.astore 8, 2) := by decide +kernel
theorem dX2_copy_28 : decode cX2_copy 28 = .ok (.aload_n 0, 1) := by decide +kernel
theorem dX2_copy_29 : decode cX2_copy 29 = .ok (.getfield 11, 3) := by decide +kernel
theorem dX2_copy_32 : decode cX2_copy 32 = .ok (.iload 4, 2) := by decide +kernel
theorem dX2_copy_34 : decode cX2_copy 34 = .ok (.aaload, 1) := by decide +kernel
theorem dX2_copy_35 : decode cX2_copy 35 = .ok (.astore 9, 2) := by decide +kernel
theorem dX2_copy_37 : decode cX2_copy 37 = .ok (.aload 8, 2) := by decide +kernel
theorem dX2_copy_39 : decode cX2_copy 39 = .ok (.iload_n 2, 1) := by decide +kernel
theorem dX2_copy_40 : decode cX2_copy 40 = .ok (.invokevirtual 46, 3) := by decide +kernel
theorem dX2_copy_43 : decode cX2_copy 43 = .ok (.ifCond .eq 13, 3) := by decide +kernel
theorem dX2_copy_46 : decode cX2_copy 46 = .ok (.aload 9, 2) := by decide +kernel
theorem dX2_copy_48 : decode cX2_copy 48 = .ok (.iload 5, 2) := by decide +kernel
theorem dX2_copy_50 : decode cX2_copy 50 = .ok (.invokevirtual 46, 3) := by decide +kernel
theorem dX2_copy_53 : decode cX2_copy 53 = .ok (.ifCond .ne 9, 3) := by decide +kernel
theorem dX2_copy_56 : decode cX2_copy 56 = .ok (.aload_n 0, 1) := by decide +kernel
theorem dX2_copy_57 : decode cX2_copy 57 = .ok (.iconst 2, 1) := by decide +kernel
theorem dX2_copy_58 : decode cX2_copy 58 = .ok (.invokevirtual 33, 3) := by decide +kernel
theorem dX2_copy_61 : decode cX2_copy 61 = .ok (.ireturn, 1) := by decide +kernel
theorem dX2_copy_62 : decode cX2_copy 62 = .ok (.aload 8, 2) := by decide +kernel
theorem dX2_copy_64 : decode cX2_copy 64 = .ok (.getfield 49, 3) := by decide +kernel
theorem dX2_copy_67 : decode cX2_copy 67 = .ok (.iload_n 2, 1) := by decide +kernel
theorem dX2_copy_68 : decode cX2_copy 68 = .ok (.aaload, 1) := by decide +kernel
theorem dX2_copy_69 : decode cX2_copy 69 = .ok (.astore 10, 2) := by decide +kernel
theorem dX2_copy_71 : decode cX2_copy 71 = .ok (.aload 9, 2) := by decide +kernel
theorem dX2_copy_73 : decode cX2_copy 73 = .ok (.getfield 49, 3) := by decide +kernel
theorem dX2_copy_76 : decode cX2_copy 76 = .ok (.iload 5, 2) := by decide +kernel
theorem dX2_copy_78 : decode cX2_copy 78 = .ok (.aaload, 1) := by decide +kernel
theorem dX2_copy_79 : decode cX2_copy 79 = .ok (.astore 11, 2) := by decide +kernel
theorem dX2_copy_81 : decode cX2_copy 81 = .ok (.aload 10, 2) := by decide +kernel
theorem dX2_copy_83 : decode cX2_copy 83 = .ok (.ifnull 8, 3) := by decide +kernel
theorem dX2_copy_86 : decode cX2_copy 86 = .ok (.aload 11, 2) := by decide +kernel
theorem dX2_copy_88 : decode cX2_copy 88 = .ok (.ifnonnull 9, 3) := by decide +kernel
theorem dX2_copy_91 : decode cX2_copy 91 = .ok (.aload_n 0, 1) := by decide +kernel
theorem dX2_copy_92 : decode cX2_copy 92 = .ok (.iconst 1, 1) := by decide +kernel
theorem dX2_copy_93 : decode cX2_copy 93 = .ok (.invokevirtual 33, 3) := by decide +kernel
theorem dX2_copy_96 : decode cX2_copy 96 = .ok (.ireturn, 1) := by decide +kernel
theorem dX2_copy_97 : decode cX2_copy 97 = .ok (.aload 8, 2) := by decide +kernel
theorem dX2_copy_99 : decode cX2_copy 99 = .ok (.getfield 55, 3) := by decide +kernel
theorem dX2_copy_102 : decode cX2_copy 102 = .ok (.aload 9, 2) := by decide +kernel
theorem dX2_copy_104 : decode cX2_copy 104 = .ok (.getfield 55, 3) := by decide +kernel
theorem dX2_copy_107 : decode cX2_copy 107 = .ok (.if_icmp .eq 9, 3) := by decide +kernel
theorem dX2_copy_110 : decode cX2_copy 110 = .ok (.aload_n 0, 1) := by decide +kernel
theorem dX2_copy_111 : decode cX2_copy 111 = .ok (.iconst 3, 1) := by decide +kernel
theorem dX2_copy_112 : decode cX2_copy 112 = .ok (.invokevirtual 33, 3) := by decide +kernel
theorem dX2_copy_115 : decode cX2_copy 115 = .ok (.ireturn, 1) := by decide +kernel
theorem dX2_copy_116 : decode cX2_copy 116 = .ok (.aload 10, 2) := by decide +kernel
theorem dX2_copy_118 : decode cX2_copy 118 = .ok (.iload_n 3, 1) := by decide +kernel
theorem dX2_copy_119 : decode cX2_copy 119 = .ok (.iload 7, 2) := by decide +kernel
theorem dX2_copy_121 : decode cX2_copy 121 = .ok (.invokevirtual 89, 3) := by decide +kernel
theorem dX2_copy_124 : decode cX2_copy 124 = .ok (.ifCond .eq 15, 3) := by decide +kernel
theorem dX2_copy_127 : decode cX2_copy 127 = .ok (.aload 11, 2) := by decide +kernel
theorem dX2_copy_129 : decode cX2_copy 129 = .ok (.iload 6, 2) := by decide +kernel
theorem dX2_copy_131 : decode cX2_copy 131 = .ok (.iload 7, 2) := by decide +kernel
theorem dX2_copy_133 : decode cX2_copy 133 = .ok (.invokevirtual 89, 3) := by decide +kernel
theorem dX2_copy_136 : decode cX2_copy 136 = .ok (.ifCond .ne 9, 3) := by decide +kernel
theorem dX2_copy_139 : decode cX2_copy 139 = .ok (.aload_n 0, 1) := by decide +kernel
theorem dX2_copy_140 : decode cX2_copy 140 = .ok (.iconst 2, 1) := by decide +kernel
theorem dX2_copy_141 : decode cX2_copy 141 = .ok (.invokevirtual 33, 3) := by decide +kernel
theorem dX2_copy_144 : decode cX2_copy 144 = .ok (.ireturn, 1) := by decide +kernel
theorem dX2_copy_145 : decode cX2_copy 145 = .ok (.aload 11, 2) := by decide +kernel
theorem dX2_copy_147 : decode cX2_copy 147 = .ok (.iload 6, 2) := by decide +kernel
theorem dX2_copy_149 : decode cX2_copy 149 = .ok (.aload 10, 2) := by decide +kernel
theorem dX2_copy_151 : decode cX2_copy 151 = .ok (.iload_n 3, 1) := by decide +kernel
theorem dX2_copy_152 : decode cX2_copy 152 = .ok (.iload 7, 2) := by decide +kernel
theorem dX2_copy_154 : decode cX2_copy 154 = .ok (.invokevirtual 93, 3) := by decide +kernel
theorem dX2_copy_157 : decode cX2_copy 157 = .ok (.iconst 1, 1) := by decide +kernel
theorem dX2_copy_158 : decode cX2_copy 158 = .ok (.ireturn, 1) := by decide +kernel
theorem dX2_turned_0 : decode cX2_turned 0 = .ok (.aload_n 0, 1) := by decide +kernel
theorem dX2_turned_1 : decode cX2_turned 1 = .ok (.iload_n 1, 1) := by decide +kernel
theorem dX2_turned_2 : decode cX2_turned 2 = .ok (.invokevirtual 41, 3) := by decide +kernel
theorem dX2_turned_5 : decode cX2_turned 5 = .ok (.ifCond .eq 6, 3) := by decide +kernel
theorem dX2_turned_8 : decode cX2_turned 8 = .ok (.ldc 45, 2) := by decide +kernel
theorem dX2_turned_10 : decode cX2_turned 10 = .ok (.ireturn, 1) := by decide +kernel
theorem dX2_turned_11 : decode cX2_turned 11 = .ok (.aload_n 0, 1) := by decide +kernel
theorem dX2_turned_12 : decode cX2_turned 12 = .ok (.getfield 11, 3) := by decide +kernel
theorem dX2_turned_15 : decode cX2_turned 15 = .ok (.iload_n 1, 1) := by decide +kernel
theorem dX2_turned_16 : decode cX2_turned 16 = .ok (.aaload, 1) := by decide +kernel
theorem dX2_turned_17 : decode cX2_turned 17 = .ok (.astore_n 2, 1) := by decide +kernel
theorem dX2_turned_18 : decode cX2_turned 18 = .ok (.aload_n 2, 1) := by decide +kernel
theorem dX2_turned_19 : decode cX2_turned 19 = .ok (.invokevirtual 97, 3) := by decide +kernel
theorem dX2_turned_22 : decode cX2_turned 22 = .ok (.ifCond .eq 12, 3) := by decide +kernel
theorem dX2_turned_25 : decode cX2_turned 25 = .ok (.aload_n 2, 1) := by decide +kernel
theorem dX2_turned_26 : decode cX2_turned 26 = .ok (.invokevirtual 100, 3) := by decide +kernel
theorem dX2_turned_29 : decode cX2_turned 29 = .ok (.bipush 12, 2) := by decide +kernel
theorem dX2_turned_31 : decode cX2_turned 31 = .ok (.if_icmp .le 6, 3) := by decide +kernel
theorem dX2_turned_34 : decode cX2_turned 34 = .ok (.ldc 103, 2) := by decide +kernel
theorem dX2_turned_36 : decode cX2_turned 36 = .ok (.ireturn, 1) := by decide +kernel
theorem dX2_turned_37 : decode cX2_turned 37 = .ok (.aload_n 0, 1) := by decide +kernel
theorem dX2_turned_38 : decode cX2_turned 38 = .ok (.invokevirtual 28, 3) := by decide +kernel
theorem dX2_turned_41 : decode cX2_turned 41 = .ok (.ifCond .eq 6, 3) := by decide +kernel
theorem dX2_turned_44 : decode cX2_turned 44 = .ok (.ldc 32, 2) := by decide +kernel
theorem dX2_turned_46 : decode cX2_turned 46 = .ok (.ireturn, 1) := by decide +kernel
theorem dX2_turned_47 : decode cX2_turned 47 = .ok (.aload_n 0, 1) := by decide +kernel
theorem dX2_turned_48 : decode cX2_turned 48 = .ok (.aload_n 2, 1) := by decide +kernel
theorem dX2_turned_49 : decode cX2_turned 49 = .ok (.getfield 55, 3) := by decide +kernel
theorem dX2_turned_52 : decode cX2_turned 52 = .ok (.aload_n 2, 1) := by decide +kernel
theorem dX2_turned_53 : decode cX2_turned 53 = .ok (.invokevirtual 100, 3) := by decide +kernel
theorem dX2_turned_56 : decode cX2_turned 56 = .ok (.aload_n 2, 1) := by decide +kernel
theorem dX2_turned_57 : decode cX2_turned 57 = .ok (.getfield 76, 3) := by decide +kernel
theorem dX2_turned_60 : decode cX2_turned 60 = .ok (.invokevirtual 104, 3) := by decide +kernel
theorem dX2_turned_63 : decode cX2_turned 63 = .ok (.istore_n 3, 1) := by decide +kernel
theorem dX2_turned_64 : decode cX2_turned 64 = .ok (.aload_n 0, 1) := by decide +kernel
theorem dX2_turned_65 : decode cX2_turned 65 = .ok (.getfield 11, 3) := by decide +kernel
theorem dX2_turned_68 : decode cX2_turned 68 = .ok (.iload_n 3, 1) := by decide +kernel
theorem dX2_turned_69 : decode cX2_turned 69 = .ok (.aaload, 1) := by decide +kernel
theorem dX2_turned_70 : decode cX2_turned 70 = .ok (.astore 4, 2) := by decide +kernel
theorem dX2_turned_72 : decode cX2_turned 72 = .ok (.iconst 0, 1) := by decide +kernel
theorem dX2_turned_73 : decode cX2_turned 73 = .ok (.istore 5, 2) := by decide +kernel
theorem dX2_turned_75 : decode cX2_turned 75 = .ok (.iload 5, 2) := by decide +kernel
theorem dX2_turned_77 : decode cX2_turned 77 = .ok (.aload 4, 2) := by decide +kernel
theorem dX2_turned_79 : decode cX2_turned 79 = .ok (.getfield 76, 3) := by decide +kernel
theorem dX2_turned_82 : decode cX2_turned 82 = .ok (.if_icmp .ge 50, 3) := by decide +kernel
theorem dX2_turned_85 : decode cX2_turned 85 = .ok (.iconst 0, 1) := by decide +kernel
theorem dX2_turned_86 : decode cX2_turned 86 = .ok (.istore 6, 2) := by decide +kernel
theorem dX2_turned_88 : decode cX2_turned 88 = .ok (.iload 6, 2) := by decide +kernel
theorem dX2_turned_90 : decode cX2_turned 90 = .ok (.aload_n 2, 1) := by decide +kernel
theorem dX2_turned_91 : decode cX2_turned 91 = .ok (.getfield 76, 3) := by decide +kernel
theorem dX2_turned_94 : decode cX2_turned 94 = .ok (.if_icmp .ge 32, 3) := by decide +kernel
theorem dX2_turned_97 : decode cX2_turned 97 = .ok (.aload 4, 2) := by decide +kernel
theorem dX2_turned_99 : decode cX2_turned 99 = .ok (.getfield 49, 3) := by decide +kernel
theorem dX2_turned_102 : decode cX2_turned 102 = .ok (.iload 5, 2) := by decide +kernel
theorem dX2_turned_104 : decode cX2_turned 104 = .ok (.aaload, 1) := by decide +kernel
theorem dX2_turned_105 : decode cX2_turned 105 = .ok (.iload 6, 2) := by decide +kernel
theorem dX2_turned_107 : decode cX2_turned 107 = .ok (.aload_n 2, 1) := by decide +kernel
theorem dX2_turned_108 : decode cX2_turned 108 = .ok (.getfield 49, 3) := by decide +kernel
theorem dX2_turned_111 : decode cX2_turned 111 = .ok (.iload 6, 2) := by decide +kernel
theorem dX2_turned_113 : decode cX2_turned 113 = .ok (.aaload, 1) := by decide +kernel
theorem dX2_turned_114 : decode cX2_turned 114 = .ok (.iload 5, 2) := by decide +kernel
theorem dX2_turned_116 : decode cX2_turned 116 = .ok (.iconst 1, 1) := by decide +kernel
theorem dX2_turned_117 : decode cX2_turned 117 = .ok (.invokevirtual 93, 3) := by decide +kernel
theorem dX2_turned_120 : decode cX2_turned 120 = .ok (.iinc 6 1, 3) := by decide +kernel
theorem dX2_turned_123 : decode cX2_turned 123 = .ok (.goto (-35), 3) := by decide +kernel
theorem dX2_turned_126 : decode cX2_turned 126 = .ok (.iinc 5 1, 3) := by decide +kernel
theorem dX2_turned_129 : decode cX2_turned 129 = .ok (.goto (-54), 3) := by decide +kernel
theorem dX2_turned_132 : decode cX2_turned 132 = .ok (.iload_n 3, 1) := by decide +kernel
theorem dX2_turned_133 : decode cX2_turned 133 = .ok (.ireturn, 1) := by decide +kernel
theorem dX2_product_0 : decode cX2_product 0 = .ok (.aload_n 0, 1) := by decide +kernel
theorem dX2_product_1 : decode cX2_product 1 = .ok (.iload_n 1, 1) := by decide +kernel
theorem dX2_product_2 : decode cX2_product 2 = .ok (.invokevirtual 41, 3) := by decide +kernel
theorem dX2_product_5 : decode cX2_product 5 = .ok (.ifCond .ne 11, 3) := by decide +kernel
theorem dX2_product_8 : decode cX2_product 8 = .ok (.aload_n 0, 1) := by decide +kernel
theorem dX2_product_9 : decode cX2_product 9 = .ok (.iload_n 2, 1) := by decide +kernel
theorem dX2_product_10 : decode cX2_product 10 = .ok (.invokevirtual 41, 3) := by decide +kernel
theorem dX2_product_13 : decode cX2_product 13 = .ok (.ifCond .eq 6, 3) := by decide +kernel
theorem dX2_product_16 : decode cX2_product 16 = .ok (.ldc 45, 2) := by decide +kernel
theorem dX2_product_18 : decode cX2_product 18 = .ok (.ireturn, 1) := by decide +kernel
theorem dX2_product_19 : decode cX2_product 19 = .ok (.aload_n 0, 1) := by decide +kernel
theorem dX2_product_20 : decode cX2_product 20 = .ok (.getfield 11, 3) := by decide +kernel
theorem dX2_product_23 : decode cX2_product 23 = .ok (.iload_n 1, 1) := by decide +kernel
theorem dX2_product_24 : decode cX2_product 24 = .ok (.aaload, 1) := by decide +kernel
theorem dX2_product_25 : decode cX2_product 25 = .ok (.astore_n 3, 1) := by decide +kernel
theorem dX2_product_26 : decode cX2_product 26 = .ok (.aload_n 0, 1) := by decide +kernel
theorem dX2_product_27 : decode cX2_product 27 = .ok (.getfield 11, 3) := by decide +kernel
theorem dX2_product_30 : decode cX2_product 30 = .ok (.iload_n 2, 1) := by decide +kernel
theorem dX2_product_31 : decode cX2_product 31 = .ok (.aaload, 1) := by decide +kernel
theorem dX2_product_32 : decode cX2_product 32 = .ok (.astore 4, 2) := by decide +kernel
theorem dX2_product_34 : decode cX2_product 34 = .ok (.aload_n 3, 1) := by decide +kernel
theorem dX2_product_35 : decode cX2_product 35 = .ok (.aload 4, 2) := by decide +kernel
theorem dX2_product_37 : decode cX2_product 37 = .ok (.invokestatic 108, 3) := by decide +kernel
theorem dX2_product_40 : decode cX2_product 40 = .ok (.ifCond .ne 6, 3) := by decide +kernel
theorem dX2_product_43 : decode cX2_product 43 = .ok (.ldc 103, 2) := by decide +kernel
theorem dX2_product_45 : decode cX2_product 45 = .ok (.ireturn, 1) := by decide +kernel
theorem dX2_product_46 : decode cX2_product 46 = .ok (.aload_n 0, 1) := by decide +kernel
theorem dX2_product_47 : decode cX2_product 47 = .ok (.invokevirtual 28, 3) := by decide +kernel
theorem dX2_product_50 : decode cX2_product 50 = .ok (.ifCond .eq 6, 3) := by decide +kernel
theorem dX2_product_53 : decode cX2_product 53 = .ok (.ldc 32, 2) := by decide +kernel
theorem dX2_product_55 : decode cX2_product 55 = .ok (.ireturn, 1) := by decide +kernel
theorem dX2_product_56 : decode cX2_product 56 = .ok (.aload_n 0, 1) := by decide +kernel
theorem dX2_product_57 : decode cX2_product 57 = .ok (.aload_n 3, 1) := by decide +kernel
theorem dX2_product_58 : decode cX2_product 58 = .ok (.getfield 55, 3) := by decide +kernel
theorem dX2_product_61 : decode cX2_product 61 = .ok (.aload_n 3, 1) := by decide +kernel
theorem dX2_product_62 : decode cX2_product 62 = .ok (.getfield 76, 3) := by decide +kernel
theorem dX2_product_65 : decode cX2_product 65 = .ok (.aload 4, 2) := by decide +kernel
theorem dX2_product_67 : decode cX2_product 67 = .ok (.invokevirtual 100, 3) := by decide +kernel
theorem dX2_product_70 : decode cX2_product 70 = .ok (.invokevirtual 104, 3) := by decide +kernel
theorem dX2_product_73 : decode cX2_product 73 = .ok (.istore 5, 2) := by decide +kernel
theorem dX2_product_75 : decode cX2_product 75 = .ok (.aload_n 0, 1) := by decide +kernel
theorem dX2_product_76 : decode cX2_product 76 = .ok (.getfield 11, 3) := by decide +kernel
theorem dX2_product_79 : decode cX2_product 79 = .ok (.iload 5, 2) := by decide +kernel
theorem dX2_product_81 : decode cX2_product 81 = .ok (.aaload, 1) := by decide +kernel
theorem dX2_product_82 : decode cX2_product 82 = .ok (.astore 6, 2) := by decide +kernel
theorem dX2_product_84 : decode cX2_product 84 = .ok (.iconst 0, 1) := by decide +kernel
theorem dX2_product_85 : decode cX2_product 85 = .ok (.istore 7, 2) := by decide +kernel
theorem dX2_product_87 : decode cX2_product 87 = .ok (.iload 7, 2) := by decide +kernel
theorem dX2_product_89 : decode cX2_product 89 = .ok (.aload 6, 2) := by decide +kernel
theorem dX2_product_91 : decode cX2_product 91 = .ok (.getfield 76, 3) := by decide +kernel
theorem dX2_product_94 : decode cX2_product 94 = .ok (.if_icmp .ge 56, 3) := by decide +kernel
theorem dX2_product_97 : decode cX2_product 97 = .ok (.iconst 0, 1) := by decide +kernel
theorem dX2_product_98 : decode cX2_product 98 = .ok (.istore 8, 2) := by decide +kernel
theorem dX2_product_100 : decode cX2_product 100 = .ok (.iload 8, 2) := by decide +kernel
theorem dX2_product_102 : decode cX2_product 102 = .ok (.aload 6, 2) := by decide +kernel
theorem dX2_product_104 : decode cX2_product 104 = .ok (.getfield 49, 3) := by decide +kernel
theorem dX2_product_107 : decode cX2_product 107 = .ok (.iload 7, 2) := by decide +kernel
theorem dX2_product_109 : decode cX2_product 109 = .ok (.aaload, 1) := by decide +kernel
theorem dX2_product_110 : decode cX2_product 110 = .ok (.invokevirtual 82, 3) := by decide +kernel
theorem dX2_product_113 : decode cX2_product 113 = .ok (.if_icmp .ge 31, 3) := by decide +kernel
theorem dX2_product_116 : decode cX2_product 116 = .ok (.aload 6, 2) := by decide +kernel
theorem dX2_product_118 : decode cX2_product 118 = .ok (.getfield 49, 3) := by decide +kernel
theorem dX2_product_121 : decode cX2_product 121 = .ok (.iload 7, 2) := by decide +kernel
theorem dX2_product_123 : decode cX2_product 123 = .ok (.aaload, 1) := by decide +kernel
theorem dX2_product_124 : decode cX2_product 124 = .ok (.iload 8, 2) := by decide +kernel
theorem dX2_product_126 : decode cX2_product 126 = .ok (.aload_n 3, 1) := by decide +kernel
theorem dX2_product_127 : decode cX2_product 127 = .ok (.getfield 49, 3) := by decide +kernel
theorem dX2_product_130 : decode cX2_product 130 = .ok (.iload 7, 2) := by decide +kernel
theorem dX2_product_132 : decode cX2_product 132 = .ok (.aaload, 1) := by decide +kernel
theorem dX2_product_133 : decode cX2_product 133 = .ok (.aload 4, 2) := by decide +kernel
theorem dX2_product_135 : decode cX2_product 135 = .ok (.invokestatic 112, 3) := by decide +kernel
theorem dX2_product_138 : decode cX2_product 138 = .ok (.iinc 8 1, 3) := by decide +kernel
theorem dX2_product_141 : decode cX2_product 141 = .ok (.goto (-41), 3) := by decide +kernel
theorem dX2_product_144 : decode cX2_product 144 = .ok (.iinc 7 1, 3) := by decide +kernel
theorem dX2_product_147 : decode cX2_product 147 = .ok (.goto (-60), 3) := by decide +kernel
theorem dX2_product_150 : decode cX2_product 150 = .ok (.iload 5, 2) := by decide +kernel
theorem dX2_product_152 : decode cX2_product 152 = .ok (.ireturn, 1) := by decide +kernel
theorem dX2_distances_0 : decode cX2_distances 0 = .ok (.aload_n 0, 1) := by decide +kernel
theorem dX2_distances_1 : decode cX2_distances 1 = .ok (.iload_n 1, 1) := by decide +kernel
theorem dX2_distances_2 : decode cX2_distances 2 = .ok (.invokevirtual 41, 3) := by decide +kernel
theorem dX2_distances_5 : decode cX2_distances 5 = .ok (.ifCond .eq 6, 3) := by decide +kernel
theorem dX2_distances_8 : decode cX2_distances 8 = .ok (.ldc 45, 2) := by decide +kernel
theorem dX2_distances_10 : decode cX2_distances 10 = .ok (.ireturn, 1) := by decide +kernel
theorem dX2_distances_11 : decode cX2_distances 11 = .ok (.aload_n 0, 1) := by decide +kernel
theorem dX2_distances_12 : decode cX2_distances 12 = .ok (.getfield 11, 3) := by decide +kernel
theorem dX2_distances_15 : decode cX2_distances 15 = .ok (.iload_n 1, 1) := by decide +kernel
theorem dX2_distances_16 : decode cX2_distances 16 = .ok (.aaload, 1) := by decide +kernel
theorem dX2_distances_17 : decode cX2_distances 17 = .ok (.astore_n 2, 1) := by decide +kernel
theorem dX2_distances_18 : decode cX2_distances 18 = .ok (.aload_n 2, 1) := by decide +kernel
theorem dX2_distances_19 : decode cX2_distances 19 = .ok (.getfield 55, 3) := by decide +kernel
theorem dX2_distances_22 : decode cX2_distances 22 = .ok (.ifCond .ne 12, 3) := by decide +kernel
theorem dX2_distances_25 : decode cX2_distances 25 = .ok (.aload_n 2, 1) := by decide +kernel
theorem dX2_distances_26 : decode cX2_distances 26 = .ok (.invokevirtual 86, 3) := by decide +kernel
theorem dX2_distances_29 : decode cX2_distances 29 = .ok (.ldc 62, 2) := by decide +kernel
theorem dX2_distances_31 : decode cX2_distances 31 = .ok (.if_icmp .eq 6, 3) := by decide +kernel
theorem dX2_distances_34 : decode cX2_distances 34 = .ok (.ldc 103, 2) := by decide +kernel
theorem dX2_distances_36 : decode cX2_distances 36 = .ok (.ireturn, 1) := by decide +kernel
theorem dX2_distances_37 : decode cX2_distances 37 = .ok (.aload_n 0, 1) := by decide +kernel
theorem dX2_distances_38 : decode cX2_distances 38 = .ok (.invokevirtual 28, 3) := by decide +kernel
theorem dX2_distances_41 : decode cX2_distances 41 = .ok (.ifCond .eq 6, 3) := by decide +kernel
theorem dX2_distances_44 : decode cX2_distances 44 = .ok (.ldc 32, 2) := by decide +kernel
theorem dX2_distances_46 : decode cX2_distances 46 = .ok (.ireturn, 1) := by decide +kernel
theorem dX2_distances_47 : decode cX2_distances 47 = .ok (.aload_n 0, 1) := by decide +kernel
theorem dX2_distances_48 : decode cX2_distances 48 = .ok (.iconst 1, 1) := by decide +kernel
theorem dX2_distances_49 : decode cX2_distances 49 = .ok (.aload_n 2, 1) := by decide +kernel
theorem dX2_distances_50 : decode cX2_distances 50 = .ok (.getfield 76, 3) := by decide +kernel
theorem dX2_distances_53 : decode cX2_distances 53 = .ok (.aload_n 2, 1) := by decide +kernel
theorem dX2_distances_54 : decode cX2_distances 54 = .ok (.getfield 76, 3) := by decide +kernel
theorem dX2_distances_57 : decode cX2_distances 57 = .ok (.invokevirtual 104, 3) := by decide +kernel
theorem dX2_distances_60 : decode cX2_distances 60 = .ok (.istore_n 3, 1) := by decide +kernel
theorem dX2_distances_61 : decode cX2_distances 61 = .ok (.aload_n 0, 1) := by decide +kernel
theorem dX2_distances_62 : decode cX2_distances 62 = .ok (.getfield 11, 3) := by decide +kernel
theorem dX2_distances_65 : decode cX2_distances 65 = .ok (.iload_n 3, 1) := by decide +kernel
theorem dX2_distances_66 : decode cX2_distances 66 = .ok (.aaload, 1) := by decide +kernel
theorem dX2_distances_67 : decode cX2_distances 67 = .ok (.astore 4, 2) := by decide +kernel
theorem dX2_distances_69 : decode cX2_distances 69 = .ok (.iconst 0, 1) := by decide +kernel
theorem dX2_distances_70 : decode cX2_distances 70 = .ok (.istore 5, 2) := by decide +kernel
theorem dX2_distances_72 : decode cX2_distances 72 = .ok (.iload 5, 2) := by decide +kernel
theorem dX2_distances_74 : decode cX2_distances 74 = .ok (.aload 4, 2) := by decide +kernel
theorem dX2_distances_76 : decode cX2_distances 76 = .ok (.getfield 76, 3) := by decide +kernel
theorem dX2_distances_79 : decode cX2_distances 79 = .ok (.if_icmp .ge 35, 3) := by decide +kernel
theorem dX2_distances_82 : decode cX2_distances 82 = .ok (.aload 4, 2) := by decide +kernel
theorem dX2_distances_84 : decode cX2_distances 84 = .ok (.getfield 49, 3) := by decide +kernel
theorem dX2_distances_87 : decode cX2_distances 87 = .ok (.iload 5, 2) := by decide +kernel
theorem dX2_distances_89 : decode cX2_distances 89 = .ok (.aaload, 1) := by decide +kernel
theorem dX2_distances_90 : decode cX2_distances 90 = .ok (.getfield 116, 3) := by decide +kernel
theorem dX2_distances_93 : decode cX2_distances 93 = .ok (.aload_n 2, 1) := by decide +kernel
theorem dX2_distances_94 : decode cX2_distances 94 = .ok (.getfield 49, 3) := by decide +kernel
theorem dX2_distances_97 : decode cX2_distances 97 = .ok (.iload 5, 2) := by decide +kernel
theorem dX2_distances_99 : decode cX2_distances 99 = .ok (.aaload, 1) := by decide +kernel
theorem dX2_distances_100 : decode cX2_distances 100 = .ok (.getfield 116, 3) := by decide +kernel
theorem dX2_distances_103 : decode cX2_distances 103 = .ok (.iload 5, 2) := by decide +kernel
theorem dX2_distances_105 : decode cX2_distances 105 = .ok (.invokestatic 119, 3) := by decide +kernel
theorem dX2_distances_108 : decode cX2_distances 108 = .ok (.iinc 5 1, 3) := by decide +kernel
theorem dX2_distances_111 : decode cX2_distances 111 = .ok (.goto (-39), 3) := by decide +kernel
theorem dX2_distances_114 : decode cX2_distances 114 = .ok (.iconst 0, 1) := by decide +kernel
theorem dX2_distances_115 : decode cX2_distances 115 = .ok (.istore 5, 2) := by decide +kernel
theorem dX2_distances_117 : decode cX2_distances 117 = .ok (.iload 5, 2) := by decide +kernel
theorem dX2_distances_119 : decode cX2_distances 119 = .ok (.aload 4, 2) := by decide +kernel
theorem dX2_distances_121 : decode cX2_distances 121 = .ok (.getfield 76, 3) := by decide +kernel
theorem dX2_distances_124 : decode cX2_distances 124 = .ok (.if_icmp .ge 55, 3) := by decide +kernel
theorem dX2_distances_127 : decode cX2_distances 127 = .ok (.iconst 0, 1) := by decide +kernel
theorem dX2_distances_128 : decode cX2_distances 128 = .ok (.istore 6, 2) := by decide +kernel
theorem dX2_distances_130 : decode cX2_distances 130 = .ok (.iload 6, 2) := by decide +kernel
theorem dX2_distances_132 : decode cX2_distances 132 = .ok (.aload 4, 2) := by decide +kernel
theorem dX2_distances_134 : decode cX2_distances 134 = .ok (.getfield 76, 3) := by decide +kernel
theorem dX2_distances_137 : decode cX2_distances 137 = .ok (.if_icmp .ge 36, 3) := by decide +kernel
theorem dX2_distances_140 : decode cX2_distances 140 = .ok (.iload 5, 2) := by decide +kernel
theorem dX2_distances_142 : decode cX2_distances 142 = .ok (.aload 4, 2) := by decide +kernel
theorem dX2_distances_144 : decode cX2_distances 144 = .ok (.getfield 49, 3) := by decide +kernel
theorem dX2_distances_147 : decode cX2_distances 147 = .ok (.iload 6, 2) := by decide +kernel
theorem dX2_distances_149 : decode cX2_distances 149 = .ok (.aaload, 1) := by decide +kernel
theorem dX2_distances_150 : decode cX2_distances 150 = .ok (.getfield 116, 3) := by decide +kernel
theorem dX2_distances_153 : decode cX2_distances 153 = .ok (.aload 4, 2) := by decide +kernel
theorem dX2_distances_155 : decode cX2_distances 155 = .ok (.getfield 49, 3) := by decide +kernel
theorem dX2_distances_158 : decode cX2_distances 158 = .ok (.iload 5, 2) := by decide +kernel
theorem dX2_distances_160 : decode cX2_distances 160 = .ok (.aaload, 1) := by decide +kernel
theorem dX2_distances_161 : decode cX2_distances 161 = .ok (.getfield 116, 3) := by decide +kernel
theorem dX2_distances_164 : decode cX2_distances 164 = .ok (.invokestatic 123, 3) := by decide +kernel
theorem dX2_distances_167 : decode cX2_distances 167 = .ok (.iinc 6 1, 3) := by decide +kernel
theorem dX2_distances_170 : decode cX2_distances 170 = .ok (.goto (-40), 3) := by decide +kernel
theorem dX2_distances_173 : decode cX2_distances 173 = .ok (.iinc 5 1, 3) := by decide +kernel
theorem dX2_distances_176 : decode cX2_distances 176 = .ok (.goto (-59), 3) := by decide +kernel
theorem dX2_distances_179 : decode cX2_distances 179 = .ok (.iload_n 3, 1) := by decide +kernel
theorem dX2_distances_180 : decode cX2_distances 180 = .ok (.ireturn, 1) := by decide +kernel
theorem dX2_pack_0 : decode cX2_pack 0 = .ok (.aload_n 0, 1) := by decide +kernel
theorem dX2_pack_1 : decode cX2_pack 1 = .ok (.iload_n 1, 1) := by decide +kernel
theorem dX2_pack_2 : decode cX2_pack 2 = .ok (.invokevirtual 41, 3) := by decide +kernel
theorem dX2_pack_5 : decode cX2_pack 5 = .ok (.ifCond .eq 6, 3) := by decide +kernel
theorem dX2_pack_8 : decode cX2_pack 8 = .ok (.ldc 45, 2) := by decide +kernel
theorem dX2_pack_10 : decode cX2_pack 10 = .ok (.ireturn, 1) := by decide +kernel
theorem dX2_pack_11 : decode cX2_pack 11 = .ok (.aload_n 0, 1) := by decide +kernel
theorem dX2_pack_12 : decode cX2_pack 12 = .ok (.getfield 11, 3) := by decide +kernel
theorem dX2_pack_15 : decode cX2_pack 15 = .ok (.iload_n 1, 1) := by decide +kernel
theorem dX2_pack_16 : decode cX2_pack 16 = .ok (.aaload, 1) := by decide +kernel
theorem dX2_pack_17 : decode cX2_pack 17 = .ok (.astore_n 2, 1) := by decide +kernel
theorem dX2_pack_18 : decode cX2_pack 18 = .ok (.aload_n 2, 1) := by decide +kernel
theorem dX2_pack_19 : decode cX2_pack 19 = .ok (.getfield 55, 3) := by decide +kernel
theorem dX2_pack_22 : decode cX2_pack 22 = .ok (.ifCond .eq 6, 3) := by decide +kernel
theorem dX2_pack_25 : decode cX2_pack 25 = .ok (.ldc 103, 2) := by decide +kernel
theorem dX2_pack_27 : decode cX2_pack 27 = .ok (.ireturn, 1) := by decide +kernel
theorem dX2_pack_28 : decode cX2_pack 28 = .ok (.aload_n 2, 1) := by decide +kernel
theorem dX2_pack_29 : decode cX2_pack 29 = .ok (.invokevirtual 127, 3) := by decide +kernel
theorem dX2_pack_32 : decode cX2_pack 32 = .ok (.ifCond .le 9, 3) := by decide +kernel
theorem dX2_pack_35 : decode cX2_pack 35 = .ok (.aload_n 0, 1) := by decide +kernel
theorem dX2_pack_36 : decode cX2_pack 36 = .ok (.iconst 1, 1) := by decide +kernel
theorem dX2_pack_37 : decode cX2_pack 37 = .ok (.invokevirtual 33, 3) := by decide +kernel
theorem dX2_pack_40 : decode cX2_pack 40 = .ok (.ireturn, 1) := by decide +kernel
theorem dX2_pack_41 : decode cX2_pack 41 = .ok (.aload_n 0, 1) := by decide +kernel
theorem dX2_pack_42 : decode cX2_pack 42 = .ok (.getfield 16, 3) := by decide +kernel
theorem dX2_pack_45 : decode cX2_pack 45 = .ok (.iconst 0, 1) := by decide +kernel
theorem dX2_pack_46 : decode cX2_pack 46 = .ok (.invokestatic 130, 3) := by decide +kernel
theorem dX2_pack_49 : decode cX2_pack 49 = .ok (.iconst 0, 1) := by decide +kernel
theorem dX2_pack_50 : decode cX2_pack 50 = .ok (.istore_n 3, 1) := by decide +kernel
theorem dX2_pack_51 : decode cX2_pack 51 = .ok (.iconst 0, 1) := by decide +kernel
theorem dX2_pack_52 : decode cX2_pack 52 = .ok (.istore 4, 2) := by decide +kernel
theorem dX2_pack_54 : decode cX2_pack 54 = .ok (.iload 4, 2) := by decide +kernel
theorem dX2_pack_56 : decode cX2_pack 56 = .ok (.aload_n 2, 1) := by decide +kernel
theorem dX2_pack_57 : decode cX2_pack 57 = .ok (.getfield 76, 3) := by decide +kernel
theorem dX2_pack_60 : decode cX2_pack 60 = .ok (.if_icmp .ge 37, 3) := by decide +kernel
theorem dX2_pack_63 : decode cX2_pack 63 = .ok (.aload_n 0, 1) := by decide +kernel
theorem dX2_pack_64 : decode cX2_pack 64 = .ok (.aload_n 2, 1) := by decide +kernel
theorem dX2_pack_65 : decode cX2_pack 65 = .ok (.getfield 49, 3) := by decide +kernel
theorem dX2_pack_68 : decode cX2_pack 68 = .ok (.iload 4, 2) := by decide +kernel
theorem dX2_pack_70 : decode cX2_pack 70 = .ok (.aaload, 1) := by decide +kernel
theorem dX2_pack_71 : decode cX2_pack 71 = .ok (.getfield 116, 3) := by decide +kernel
theorem dX2_pack_74 : decode cX2_pack 74 = .ok (.iload_n 3, 1) := by decide +kernel
theorem dX2_pack_75 : decode cX2_pack 75 = .ok (.invokevirtual 136, 3) := by decide +kernel
theorem dX2_pack_78 : decode cX2_pack 78 = .ok (.iload_n 3, 1) := by decide +kernel
theorem dX2_pack_79 : decode cX2_pack 79 = .ok (.aload_n 2, 1) := by decide +kernel
theorem dX2_pack_80 : decode cX2_pack 80 = .ok (.getfield 49, 3) := by decide +kernel
theorem dX2_pack_83 : decode cX2_pack 83 = .ok (.iload 4, 2) := by decide +kernel
theorem dX2_pack_85 : decode cX2_pack 85 = .ok (.aaload, 1) := by decide +kernel
theorem dX2_pack_86 : decode cX2_pack 86 = .ok (.invokevirtual 82, 3) := by decide +kernel
theorem dX2_pack_89 : decode cX2_pack 89 = .ok (.iadd, 1) := by decide +kernel
theorem dX2_pack_90 : decode cX2_pack 90 = .ok (.istore_n 3, 1) := by decide +kernel
theorem dX2_pack_91 : decode cX2_pack 91 = .ok (.iinc 4 1, 3) := by decide +kernel
theorem dX2_pack_94 : decode cX2_pack 94 = .ok (.goto (-40), 3) := by decide +kernel
theorem dX2_pack_97 : decode cX2_pack 97 = .ok (.aload_n 0, 1) := by decide +kernel
theorem dX2_pack_98 : decode cX2_pack 98 = .ok (.iload_n 3, 1) := by decide +kernel
theorem dX2_pack_99 : decode cX2_pack 99 = .ok (.bipush 32, 2) := by decide +kernel
theorem dX2_pack_101 : decode cX2_pack 101 = .ok (.iadd, 1) := by decide +kernel
theorem dX2_pack_102 : decode cX2_pack 102 = .ok (.iconst 1, 1) := by decide +kernel
theorem dX2_pack_103 : decode cX2_pack 103 = .ok (.isub, 1) := by decide +kernel
theorem dX2_pack_104 : decode cX2_pack 104 = .ok (.bipush 32, 2) := by decide +kernel
theorem dX2_pack_106 : decode cX2_pack 106 = .ok (.idiv, 1) := by decide +kernel
theorem dX2_pack_107 : decode cX2_pack 107 = .ok (.putfield 139, 3) := by decide +kernel
theorem dX2_pack_110 : decode cX2_pack 110 = .ok (.aload_n 0, 1) := by decide +kernel
theorem dX2_pack_111 : decode cX2_pack 111 = .ok (.getfield 139, 3) := by decide +kernel
theorem dX2_pack_114 : decode cX2_pack 114 = .ok (.ireturn, 1) := by decide +kernel
theorem dX2_word_0 : decode cX2_word 0 = .ok (.iload_n 1, 1) := by decide +kernel
theorem dX2_word_1 : decode cX2_word 1 = .ok (.ifCond .lt 20, 3) := by decide +kernel
theorem dX2_word_4 : decode cX2_word 4 = .ok (.iload_n 1, 1) := by decide +kernel
theorem dX2_word_5 : decode cX2_word 5 = .ok (.aload_n 0, 1) := by decide +kernel
theorem dX2_word_6 : decode cX2_word 6 = .ok (.getfield 139, 3) := by decide +kernel
theorem dX2_word_9 : decode cX2_word 9 = .ok (.if_icmp .ge 12, 3) := by decide +kernel
theorem dX2_word_12 : decode cX2_word 12 = .ok (.aload_n 0, 1) := by decide +kernel
theorem dX2_word_13 : decode cX2_word 13 = .ok (.getfield 16, 3) := by decide +kernel
theorem dX2_word_16 : decode cX2_word 16 = .ok (.iload_n 1, 1) := by decide +kernel
theorem dX2_word_17 : decode cX2_word 17 = .ok (.iaload, 1) := by decide +kernel
theorem dX2_word_18 : decode cX2_word 18 = .ok (.goto 5, 3) := by decide +kernel
theorem dX2_word_21 : decode cX2_word 21 = .ok (.ldc 62, 2) := by decide +kernel
theorem dX2_word_23 : decode cX2_word 23 = .ok (.ireturn, 1) := by decide +kernel
theorem dX2_alike_0 : decode cX2_alike 0 = .ok (.aload_n 0, 1) := by decide +kernel
theorem dX2_alike_1 : decode cX2_alike 1 = .ok (.iload_n 1, 1) := by decide +kernel
theorem dX2_alike_2 : decode cX2_alike 2 = .ok (.invokevirtual 41, 3) := by decide +kernel
theorem dX2_alike_5 : decode cX2_alike 5 = .ok (.ifCond .ne 11, 3) := by decide +kernel
theorem dX2_alike_8 : decode cX2_alike 8 = .ok (.aload_n 0, 1) := by decide +kernel
theorem dX2_alike_9 : decode cX2_alike 9 = .ok (.iload_n 2, 1) := by decide +kernel
theorem dX2_alike_10 : decode cX2_alike 10 = .ok (.invokevirtual 41, 3) := by decide +kernel
theorem dX2_alike_13 : decode cX2_alike 13 = .ok (.ifCond .eq 6, 3) := by decide +kernel
theorem dX2_alike_16 : decode cX2_alike 16 = .ok (.ldc 45, 2) := by decide +kernel
theorem dX2_alike_18 : decode cX2_alike 18 = .ok (.ireturn, 1) := by decide +kernel
theorem dX2_alike_19 : decode cX2_alike 19 = .ok (.aload_n 0, 1) := by decide +kernel
theorem dX2_alike_20 : decode cX2_alike 20 = .ok (.getfield 11, 3) := by decide +kernel
theorem dX2_alike_23 : decode cX2_alike 23 = .ok (.iload_n 1, 1) := by decide +kernel
theorem dX2_alike_24 : decode cX2_alike 24 = .ok (.aaload, 1) := by decide +kernel
theorem dX2_alike_25 : decode cX2_alike 25 = .ok (.aload_n 0, 1) := by decide +kernel
theorem dX2_alike_26 : decode cX2_alike 26 = .ok (.getfield 11, 3) := by decide +kernel
theorem dX2_alike_29 : decode cX2_alike 29 = .ok (.iload_n 2, 1) := by decide +kernel
theorem dX2_alike_30 : decode cX2_alike 30 = .ok (.aaload, 1) := by decide +kernel
theorem dX2_alike_31 : decode cX2_alike 31 = .ok (.invokevirtual 142, 3) := by decide +kernel
theorem dX2_alike_34 : decode cX2_alike 34 = .ok (.ifCond .eq 7, 3) := by decide +kernel
theorem dX2_alike_37 : decode cX2_alike 37 = .ok (.iconst 1, 1) := by decide +kernel
theorem dX2_alike_38 : decode cX2_alike 38 = .ok (.goto 4, 3) := by decide +kernel
theorem dX2_alike_41 : decode cX2_alike 41 = .ok (.iconst 0, 1) := by decide +kernel
theorem dX2_alike_42 : decode cX2_alike 42 = .ok (.ireturn, 1) := by decide +kernel
theorem dX2_same_0 : decode cX2_same 0 = .ok (.aload_n 0, 1) := by decide +kernel
theorem dX2_same_1 : decode cX2_same 1 = .ok (.iload_n 1, 1) := by decide +kernel
theorem dX2_same_2 : decode cX2_same 2 = .ok (.invokevirtual 41, 3) := by decide +kernel
theorem dX2_same_5 : decode cX2_same 5 = .ok (.ifCond .ne 11, 3) := by decide +kernel
theorem dX2_same_8 : decode cX2_same 8 = .ok (.aload_n 0, 1) := by decide +kernel
theorem dX2_same_9 : decode cX2_same 9 = .ok (.iload_n 3, 1) := by decide +kernel
theorem dX2_same_10 : decode cX2_same 10 = .ok (.invokevirtual 41, 3) := by decide +kernel
theorem dX2_same_13 : decode cX2_same 13 = .ok (.ifCond .eq 6, 3) := by decide +kernel
theorem dX2_same_16 : decode cX2_same 16 = .ok (.ldc 45, 2) := by decide +kernel
theorem dX2_same_18 : decode cX2_same 18 = .ok (.ireturn, 1) := by decide +kernel
theorem dX2_same_19 : decode cX2_same 19 = .ok (.aload_n 0, 1) := by decide +kernel
theorem dX2_same_20 : decode cX2_same 20 = .ok (.getfield 11, 3) := by decide +kernel
theorem dX2_same_23 : decode cX2_same 23 = .ok (.iload_n 1, 1) := by decide +kernel
theorem dX2_same_24 : decode cX2_same 24 = .ok (.aaload, 1) := by decide +kernel
theorem dX2_same_25 : decode cX2_same 25 = .ok (.astore 5, 2) := by decide +kernel
theorem dX2_same_27 : decode cX2_same 27 = .ok (.aload_n 0, 1) := by decide +kernel
theorem dX2_same_28 : decode cX2_same 28 = .ok (.getfield 11, 3) := by decide +kernel
theorem dX2_same_31 : decode cX2_same 31 = .ok (.iload_n 3, 1) := by decide +kernel
theorem dX2_same_32 : decode cX2_same 32 = .ok (.aaload, 1) := by decide +kernel
theorem dX2_same_33 : decode cX2_same 33 = .ok (.astore 6, 2) := by decide +kernel
theorem dX2_same_35 : decode cX2_same 35 = .ok (.aload 5, 2) := by decide +kernel
theorem dX2_same_37 : decode cX2_same 37 = .ok (.iload_n 2, 1) := by decide +kernel
theorem dX2_same_38 : decode cX2_same 38 = .ok (.invokevirtual 46, 3) := by decide +kernel
theorem dX2_same_41 : decode cX2_same 41 = .ok (.ifCond .eq 13, 3) := by decide +kernel
theorem dX2_same_44 : decode cX2_same 44 = .ok (.aload 6, 2) := by decide +kernel
theorem dX2_same_46 : decode cX2_same 46 = .ok (.iload 4, 2) := by decide +kernel
theorem dX2_same_48 : decode cX2_same 48 = .ok (.invokevirtual 46, 3) := by decide +kernel
theorem dX2_same_51 : decode cX2_same 51 = .ok (.ifCond .ne 9, 3) := by decide +kernel
theorem dX2_same_54 : decode cX2_same 54 = .ok (.aload_n 0, 1) := by decide +kernel
theorem dX2_same_55 : decode cX2_same 55 = .ok (.iconst 2, 1) := by decide +kernel
theorem dX2_same_56 : decode cX2_same 56 = .ok (.invokevirtual 33, 3) := by decide +kernel
theorem dX2_same_59 : decode cX2_same 59 = .ok (.ireturn, 1) := by decide +kernel
theorem dX2_same_60 : decode cX2_same 60 = .ok (.aload 5, 2) := by decide +kernel
theorem dX2_same_62 : decode cX2_same 62 = .ok (.getfield 49, 3) := by decide +kernel
theorem dX2_same_65 : decode cX2_same 65 = .ok (.iload_n 2, 1) := by decide +kernel
theorem dX2_same_66 : decode cX2_same 66 = .ok (.aaload, 1) := by decide +kernel
theorem dX2_same_67 : decode cX2_same 67 = .ok (.ifnull 25, 3) := by decide +kernel
theorem dX2_same_70 : decode cX2_same 70 = .ok (.aload 5, 2) := by decide +kernel
theorem dX2_same_72 : decode cX2_same 72 = .ok (.getfield 49, 3) := by decide +kernel
theorem dX2_same_75 : decode cX2_same 75 = .ok (.iload_n 2, 1) := by decide +kernel
theorem dX2_same_76 : decode cX2_same 76 = .ok (.aaload, 1) := by decide +kernel
theorem dX2_same_77 : decode cX2_same 77 = .ok (.aload 6, 2) := by decide +kernel
theorem dX2_same_79 : decode cX2_same 79 = .ok (.getfield 49, 3) := by decide +kernel
theorem dX2_same_82 : decode cX2_same 82 = .ok (.iload 4, 2) := by decide +kernel
theorem dX2_same_84 : decode cX2_same 84 = .ok (.aaload, 1) := by decide +kernel
theorem dX2_same_85 : decode cX2_same 85 = .ok (.if_acmp .ne 7, 3) := by decide +kernel
theorem dX2_same_88 : decode cX2_same 88 = .ok (.iconst 1, 1) := by decide +kernel
theorem dX2_same_89 : decode cX2_same 89 = .ok (.goto 4, 3) := by decide +kernel
theorem dX2_same_92 : decode cX2_same 92 = .ok (.iconst 0, 1) := by decide +kernel
theorem dX2_same_93 : decode cX2_same 93 = .ok (.ireturn, 1) := by decide +kernel
theorem dX2_total_0 : decode cX2_total 0 = .ok (.aload_n 0, 1) := by decide +kernel
theorem dX2_total_1 : decode cX2_total 1 = .ok (.iload_n 1, 1) := by decide +kernel
theorem dX2_total_2 : decode cX2_total 2 = .ok (.invokevirtual 41, 3) := by decide +kernel
theorem dX2_total_5 : decode cX2_total 5 = .ok (.ifCond .eq 6, 3) := by decide +kernel
theorem dX2_total_8 : decode cX2_total 8 = .ok (.ldc 45, 2) := by decide +kernel
theorem dX2_total_10 : decode cX2_total 10 = .ok (.ireturn, 1) := by decide +kernel
theorem dX2_total_11 : decode cX2_total 11 = .ok (.aload_n 0, 1) := by decide +kernel
theorem dX2_total_12 : decode cX2_total 12 = .ok (.iconst 0, 1) := by decide +kernel
theorem dX2_total_13 : decode cX2_total 13 = .ok (.putfield 146, 3) := by decide +kernel
theorem dX2_total_16 : decode cX2_total 16 = .ok (.aload_n 0, 1) := by decide +kernel
theorem dX2_total_17 : decode cX2_total 17 = .ok (.iconst 0, 1) := by decide +kernel
theorem dX2_total_18 : decode cX2_total 18 = .ok (.putfield 149, 3) := by decide +kernel
theorem dX2_total_21 : decode cX2_total 21 = .ok (.aload_n 0, 1) := by decide +kernel
theorem dX2_total_22 : decode cX2_total 22 = .ok (.iload_n 1, 1) := by decide +kernel
theorem dX2_total_23 : decode cX2_total 23 = .ok (.iconst 0, 1) := by decide +kernel
theorem dX2_total_24 : decode cX2_total 24 = .ok (.invokevirtual 152, 3) := by decide +kernel
theorem dX2_total_27 : decode cX2_total 27 = .ok (.istore_n 2, 1) := by decide +kernel
theorem dX2_total_28 : decode cX2_total 28 = .ok (.aload_n 0, 1) := by decide +kernel
theorem dX2_total_29 : decode cX2_total 29 = .ok (.getfield 149, 3) := by decide +kernel
theorem dX2_total_32 : decode cX2_total 32 = .ok (.ifCond .eq 14, 3) := by decide +kernel
theorem dX2_total_35 : decode cX2_total 35 = .ok (.aload_n 0, 1) := by decide +kernel
theorem dX2_total_36 : decode cX2_total 36 = .ok (.aload_n 0, 1) := by decide +kernel
theorem dX2_total_37 : decode cX2_total 37 = .ok (.getfield 149, 3) := by decide +kernel
theorem dX2_total_40 : decode cX2_total 40 = .ok (.invokevirtual 33, 3) := by decide +kernel
theorem dX2_total_43 : decode cX2_total 43 = .ok (.goto 4, 3) := by decide +kernel
