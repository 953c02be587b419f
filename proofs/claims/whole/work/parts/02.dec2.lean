theorem dX3_cellCause_6 : decode cX3_cellCause 6 = .ok (.ifCond .ne 5, 3) := by decide +kernel
theorem dX3_cellCause_9 : decode cX3_cellCause 9 = .ok (.iconst 2, 1) := by decide +kernel
theorem dX3_cellCause_10 : decode cX3_cellCause 10 = .ok (.ireturn, 1) := by decide +kernel
theorem dX3_cellCause_11 : decode cX3_cellCause 11 = .ok (.aload_n 0, 1) := by decide +kernel
theorem dX3_cellCause_12 : decode cX3_cellCause 12 = .ok (.getfield 16, 3) := by decide +kernel
theorem dX3_cellCause_15 : decode cX3_cellCause 15 = .ok (.bipush 12, 2) := by decide +kernel
theorem dX3_cellCause_17 : decode cX3_cellCause 17 = .ok (.iload_n 1, 1) := by decide +kernel
theorem dX3_cellCause_18 : decode cX3_cellCause 18 = .ok (.imul, 1) := by decide +kernel
theorem dX3_cellCause_19 : decode cX3_cellCause 19 = .ok (.iload_n 2, 1) := by decide +kernel
theorem dX3_cellCause_20 : decode cX3_cellCause 20 = .ok (.iadd, 1) := by decide +kernel
theorem dX3_cellCause_21 : decode cX3_cellCause 21 = .ok (.iaload, 1) := by decide +kernel
theorem dX3_cellCause_22 : decode cX3_cellCause 22 = .ok (.istore 4, 2) := by decide +kernel
theorem dX3_cellCause_24 : decode cX3_cellCause 24 = .ok (.iload 4, 2) := by decide +kernel
theorem dX3_cellCause_26 : decode cX3_cellCause 26 = .ok (.ifCond .ge 7, 3) := by decide +kernel
theorem dX3_cellCause_29 : decode cX3_cellCause 29 = .ok (.iconst 1, 1) := by decide +kernel
theorem dX3_cellCause_30 : decode cX3_cellCause 30 = .ok (.goto 25, 3) := by decide +kernel
theorem dX3_cellCause_33 : decode cX3_cellCause 33 = .ok (.iload_n 3, 1) := by decide +kernel
theorem dX3_cellCause_34 : decode cX3_cellCause 34 = .ok (.iconst 0, 1) := by decide +kernel
theorem dX3_cellCause_35 : decode cX3_cellCause 35 = .ok (.aload_n 0, 1) := by decide +kernel
theorem dX3_cellCause_36 : decode cX3_cellCause 36 = .ok (.getfield 19, 3) := by decide +kernel
theorem dX3_cellCause_39 : decode cX3_cellCause 39 = .ok (.iload 4, 2) := by decide +kernel
theorem dX3_cellCause_41 : decode cX3_cellCause 41 = .ok (.iaload, 1) := by decide +kernel
theorem dX3_cellCause_42 : decode cX3_cellCause 42 = .ok (.iconst 1, 1) := by decide +kernel
theorem dX3_cellCause_43 : decode cX3_cellCause 43 = .ok (.isub, 1) := by decide +kernel
theorem dX3_cellCause_44 : decode cX3_cellCause 44 = .ok (.invokestatic 58, 3) := by decide +kernel
theorem dX3_cellCause_47 : decode cX3_cellCause 47 = .ok (.ifCond .eq 7, 3) := by decide +kernel
theorem dX3_cellCause_50 : decode cX3_cellCause 50 = .ok (.iconst 0, 1) := by decide +kernel
theorem dX3_cellCause_51 : decode cX3_cellCause 51 = .ok (.goto 4, 3) := by decide +kernel
theorem dX3_cellCause_54 : decode cX3_cellCause 54 = .ok (.iconst 2, 1) := by decide +kernel
theorem dX3_cellCause_55 : decode cX3_cellCause 55 = .ok (.ireturn, 1) := by decide +kernel
theorem dX3_put_0 : decode cX3_put 0 = .ok (.aload_n 0, 1) := by decide +kernel
theorem dX3_put_1 : decode cX3_put 1 = .ok (.iload_n 1, 1) := by decide +kernel
theorem dX3_put_2 : decode cX3_put 2 = .ok (.invokevirtual 79, 3) := by decide +kernel
theorem dX3_put_5 : decode cX3_put 5 = .ok (.ifCond .eq 29, 3) := by decide +kernel
theorem dX3_put_8 : decode cX3_put 8 = .ok (.aload_n 0, 1) := by decide +kernel
theorem dX3_put_9 : decode cX3_put 9 = .ok (.getfield 7, 3) := by decide +kernel
theorem dX3_put_12 : decode cX3_put 12 = .ok (.iload_n 1, 1) := by decide +kernel
theorem dX3_put_13 : decode cX3_put 13 = .ok (.iaload, 1) := by decide +kernel
theorem dX3_put_14 : decode cX3_put 14 = .ok (.iconst 3, 1) := by decide +kernel
theorem dX3_put_15 : decode cX3_put 15 = .ok (.if_icmp .ne 22, 3) := by decide +kernel
theorem dX3_put_18 : decode cX3_put 18 = .ok (.iload 4, 2) := by decide +kernel
theorem dX3_put_20 : decode cX3_put 20 = .ok (.ldc 65, 2) := by decide +kernel
theorem dX3_put_22 : decode cX3_put 22 = .ok (.if_icmp .eq 15, 3) := by decide +kernel
theorem dX3_put_25 : decode cX3_put 25 = .ok (.aload_n 0, 1) := by decide +kernel
theorem dX3_put_26 : decode cX3_put 26 = .ok (.iload 4, 2) := by decide +kernel
theorem dX3_put_28 : decode cX3_put 28 = .ok (.invokevirtual 79, 3) := by decide +kernel
theorem dX3_put_31 : decode cX3_put 31 = .ok (.ifCond .ne 6, 3) := by decide +kernel
theorem dX3_put_34 : decode cX3_put 34 = .ok (.ldc 83, 2) := by decide +kernel
theorem dX3_put_36 : decode cX3_put 36 = .ok (.ireturn, 1) := by decide +kernel
theorem dX3_put_37 : decode cX3_put 37 = .ok (.aload_n 0, 1) := by decide +kernel
theorem dX3_put_38 : decode cX3_put 38 = .ok (.iload_n 1, 1) := by decide +kernel
theorem dX3_put_39 : decode cX3_put 39 = .ok (.iload_n 2, 1) := by decide +kernel
theorem dX3_put_40 : decode cX3_put 40 = .ok (.iload_n 3, 1) := by decide +kernel
theorem dX3_put_41 : decode cX3_put 41 = .ok (.invokevirtual 91, 3) := by decide +kernel
theorem dX3_put_44 : decode cX3_put 44 = .ok (.istore 5, 2) := by decide +kernel
theorem dX3_put_46 : decode cX3_put 46 = .ok (.iload 5, 2) := by decide +kernel
theorem dX3_put_48 : decode cX3_put 48 = .ok (.ifCond .le 10, 3) := by decide +kernel
theorem dX3_put_51 : decode cX3_put 51 = .ok (.aload_n 0, 1) := by decide +kernel
theorem dX3_put_52 : decode cX3_put 52 = .ok (.iload 5, 2) := by decide +kernel
theorem dX3_put_54 : decode cX3_put 54 = .ok (.invokevirtual 75, 3) := by decide +kernel
theorem dX3_put_57 : decode cX3_put 57 = .ok (.ireturn, 1) := by decide +kernel
theorem dX3_put_58 : decode cX3_put 58 = .ok (.bipush 16, 2) := by decide +kernel
theorem dX3_put_60 : decode cX3_put 60 = .ok (.aload_n 0, 1) := by decide +kernel
theorem dX3_put_61 : decode cX3_put 61 = .ok (.getfield 16, 3) := by decide +kernel
theorem dX3_put_64 : decode cX3_put 64 = .ok (.bipush 12, 2) := by decide +kernel
theorem dX3_put_66 : decode cX3_put 66 = .ok (.iload_n 1, 1) := by decide +kernel
theorem dX3_put_67 : decode cX3_put 67 = .ok (.imul, 1) := by decide +kernel
theorem dX3_put_68 : decode cX3_put 68 = .ok (.iload_n 2, 1) := by decide +kernel
theorem dX3_put_69 : decode cX3_put 69 = .ok (.iadd, 1) := by decide +kernel
theorem dX3_put_70 : decode cX3_put 70 = .ok (.iaload, 1) := by decide +kernel
theorem dX3_put_71 : decode cX3_put 71 = .ok (.imul, 1) := by decide +kernel
theorem dX3_put_72 : decode cX3_put 72 = .ok (.iload_n 3, 1) := by decide +kernel
theorem dX3_put_73 : decode cX3_put 73 = .ok (.iadd, 1) := by decide +kernel
theorem dX3_put_74 : decode cX3_put 74 = .ok (.istore 6, 2) := by decide +kernel
theorem dX3_put_76 : decode cX3_put 76 = .ok (.aload_n 0, 1) := by decide +kernel
theorem dX3_put_77 : decode cX3_put 77 = .ok (.getfield 22, 3) := by decide +kernel
theorem dX3_put_80 : decode cX3_put 80 = .ok (.iload 6, 2) := by decide +kernel
theorem dX3_put_82 : decode cX3_put 82 = .ok (.aload_n 0, 1) := by decide +kernel
theorem dX3_put_83 : decode cX3_put 83 = .ok (.getfield 7, 3) := by decide +kernel
theorem dX3_put_86 : decode cX3_put 86 = .ok (.iload_n 1, 1) := by decide +kernel
theorem dX3_put_87 : decode cX3_put 87 = .ok (.iaload, 1) := by decide +kernel
theorem dX3_put_88 : decode cX3_put 88 = .ok (.ifCond .ne 16, 3) := by decide +kernel
theorem dX3_put_91 : decode cX3_put 91 = .ok (.iload 4, 2) := by decide +kernel
theorem dX3_put_93 : decode cX3_put 93 = .ok (.ifCond .ne 7, 3) := by decide +kernel
theorem dX3_put_96 : decode cX3_put 96 = .ok (.iconst 0, 1) := by decide +kernel
theorem dX3_put_97 : decode cX3_put 97 = .ok (.goto 9, 3) := by decide +kernel
theorem dX3_put_100 : decode cX3_put 100 = .ok (.iconst 1, 1) := by decide +kernel
theorem dX3_put_101 : decode cX3_put 101 = .ok (.goto 5, 3) := by decide +kernel
theorem dX3_put_104 : decode cX3_put 104 = .ok (.iload 4, 2) := by decide +kernel
theorem dX3_put_106 : decode cX3_put 106 = .ok (.iastore, 1) := by decide +kernel
theorem dX3_put_107 : decode cX3_put 107 = .ok (.aload_n 0, 1) := by decide +kernel
theorem dX3_put_108 : decode cX3_put 108 = .ok (.getfield 25, 3) := by decide +kernel
theorem dX3_put_111 : decode cX3_put 111 = .ok (.iload 6, 2) := by decide +kernel
theorem dX3_put_113 : decode cX3_put 113 = .ok (.iload 4, 2) := by decide +kernel
theorem dX3_put_115 : decode cX3_put 115 = .ok (.i2d, 1) := by decide +kernel
theorem dX3_put_116 : decode cX3_put 116 = .ok (.ldc2_w 95, 3) := by decide +kernel
theorem dX3_put_119 : decode cX3_put 119 = .ok (.ddiv, 1) := by decide +kernel
theorem dX3_put_120 : decode cX3_put 120 = .ok (.dastore, 1) := by decide +kernel
theorem dX3_put_121 : decode cX3_put 121 = .ok (.iconst 1, 1) := by decide +kernel
theorem dX3_put_122 : decode cX3_put 122 = .ok (.ireturn, 1) := by decide +kernel
theorem dX3_get_0 : decode cX3_get 0 = .ok (.aload_n 0, 1) := by decide +kernel
theorem dX3_get_1 : decode cX3_get 1 = .ok (.iload_n 1, 1) := by decide +kernel
theorem dX3_get_2 : decode cX3_get 2 = .ok (.invokevirtual 79, 3) := by decide +kernel
theorem dX3_get_5 : decode cX3_get 5 = .ok (.ifCond .ne 6, 3) := by decide +kernel
theorem dX3_get_8 : decode cX3_get 8 = .ok (.ldc 83, 2) := by decide +kernel
theorem dX3_get_10 : decode cX3_get 10 = .ok (.ireturn, 1) := by decide +kernel
theorem dX3_get_11 : decode cX3_get 11 = .ok (.aload_n 0, 1) := by decide +kernel
theorem dX3_get_12 : decode cX3_get 12 = .ok (.iload_n 1, 1) := by decide +kernel
theorem dX3_get_13 : decode cX3_get 13 = .ok (.iload_n 2, 1) := by decide +kernel
theorem dX3_get_14 : decode cX3_get 14 = .ok (.iload_n 3, 1) := by decide +kernel
theorem dX3_get_15 : decode cX3_get 15 = .ok (.invokevirtual 91, 3) := by decide +kernel
theorem dX3_get_18 : decode cX3_get 18 = .ok (.istore 4, 2) := by decide +kernel
theorem dX3_get_20 : decode cX3_get 20 = .ok (.iload 4, 2) := by decide +kernel
theorem dX3_get_22 : decode cX3_get 22 = .ok (.ifCond .le 12, 3) := by decide +kernel
theorem dX3_get_25 : decode cX3_get 25 = .ok (.aload_n 0, 1) := by decide +kernel
theorem dX3_get_26 : decode cX3_get 26 = .ok (.iload 4, 2) := by decide +kernel
theorem dX3_get_28 : decode cX3_get 28 = .ok (.invokevirtual 75, 3) := by decide +kernel
theorem dX3_get_31 : decode cX3_get 31 = .ok (.goto 29, 3) := by decide +kernel
theorem dX3_get_34 : decode cX3_get 34 = .ok (.aload_n 0, 1) := by decide +kernel
theorem dX3_get_35 : decode cX3_get 35 = .ok (.aload_n 0, 1) := by decide +kernel
theorem dX3_get_36 : decode cX3_get 36 = .ok (.getfield 7, 3) := by decide +kernel
theorem dX3_get_39 : decode cX3_get 39 = .ok (.iload_n 1, 1) := by decide +kernel
theorem dX3_get_40 : decode cX3_get 40 = .ok (.iaload, 1) := by decide +kernel
theorem dX3_get_41 : decode cX3_get 41 = .ok (.bipush 16, 2) := by decide +kernel
theorem dX3_get_43 : decode cX3_get 43 = .ok (.aload_n 0, 1) := by decide +kernel
theorem dX3_get_44 : decode cX3_get 44 = .ok (.getfield 16, 3) := by decide +kernel
theorem dX3_get_47 : decode cX3_get 47 = .ok (.bipush 12, 2) := by decide +kernel
theorem dX3_get_49 : decode cX3_get 49 = .ok (.iload_n 1, 1) := by decide +kernel
theorem dX3_get_50 : decode cX3_get 50 = .ok (.imul, 1) := by decide +kernel
theorem dX3_get_51 : decode cX3_get 51 = .ok (.iload_n 2, 1) := by decide +kernel
theorem dX3_get_52 : decode cX3_get 52 = .ok (.iadd, 1) := by decide +kernel
theorem dX3_get_53 : decode cX3_get 53 = .ok (.iaload, 1) := by decide +kernel
theorem dX3_get_54 : decode cX3_get 54 = .ok (.imul, 1) := by decide +kernel
theorem dX3_get_55 : decode cX3_get 55 = .ok (.iload_n 3, 1) := by decide +kernel
theorem dX3_get_56 : decode cX3_get 56 = .ok (.iadd, 1) := by decide +kernel
theorem dX3_get_57 : decode cX3_get 57 = .ok (.invokevirtual 97, 3) := by decide +kernel
theorem dX3_get_60 : decode cX3_get 60 = .ok (.ireturn, 1) := by decide +kernel
theorem dX3_toldAt_0 : decode cX3_toldAt 0 = .ok (.iload_n 1, 1) := by decide +kernel
theorem dX3_toldAt_1 : decode cX3_toldAt 1 = .ok (.iconst 2, 1) := by decide +kernel
theorem dX3_toldAt_2 : decode cX3_toldAt 2 = .ok (.if_icmp .ne 13, 3) := by decide +kernel
theorem dX3_toldAt_5 : decode cX3_toldAt 5 = .ok (.aload_n 0, 1) := by decide +kernel
theorem dX3_toldAt_6 : decode cX3_toldAt 6 = .ok (.getfield 25, 3) := by decide +kernel
theorem dX3_toldAt_9 : decode cX3_toldAt 9 = .ok (.iload_n 2, 1) := by decide +kernel
theorem dX3_toldAt_10 : decode cX3_toldAt 10 = .ok (.daload, 1) := by decide +kernel
theorem dX3_toldAt_11 : decode cX3_toldAt 11 = .ok (.d2i, 1) := by decide +kernel
theorem dX3_toldAt_12 : decode cX3_toldAt 12 = .ok (.goto 9, 3) := by decide +kernel
theorem dX3_toldAt_15 : decode cX3_toldAt 15 = .ok (.aload_n 0, 1) := by decide +kernel
theorem dX3_toldAt_16 : decode cX3_toldAt 16 = .ok (.getfield 22, 3) := by decide +kernel
theorem dX3_toldAt_19 : decode cX3_toldAt 19 = .ok (.iload_n 2, 1) := by decide +kernel
theorem dX3_toldAt_20 : decode cX3_toldAt 20 = .ok (.iaload, 1) := by decide +kernel
theorem dX3_toldAt_21 : decode cX3_toldAt 21 = .ok (.ireturn, 1) := by decide +kernel
theorem dX3_real_0 : decode cX3_real 0 = .ok (.aload_n 0, 1) := by decide +kernel
theorem dX3_real_1 : decode cX3_real 1 = .ok (.iload_n 1, 1) := by decide +kernel
theorem dX3_real_2 : decode cX3_real 2 = .ok (.invokevirtual 79, 3) := by decide +kernel
theorem dX3_real_5 : decode cX3_real 5 = .ok (.ifCond .ne 5, 3) := by decide +kernel
theorem dX3_real_8 : decode cX3_real 8 = .ok (.dconst 0, 1) := by decide +kernel
theorem dX3_real_9 : decode cX3_real 9 = .ok (.dreturn, 1) := by decide +kernel
theorem dX3_real_10 : decode cX3_real 10 = .ok (.aload_n 0, 1) := by decide +kernel
theorem dX3_real_11 : decode cX3_real 11 = .ok (.iload_n 1, 1) := by decide +kernel
theorem dX3_real_12 : decode cX3_real 12 = .ok (.iload_n 2, 1) := by decide +kernel
theorem dX3_real_13 : decode cX3_real 13 = .ok (.iload_n 3, 1) := by decide +kernel
theorem dX3_real_14 : decode cX3_real 14 = .ok (.invokevirtual 91, 3) := by decide +kernel
theorem dX3_real_17 : decode cX3_real 17 = .ok (.istore 4, 2) := by decide +kernel
theorem dX3_real_19 : decode cX3_real 19 = .ok (.iload 4, 2) := by decide +kernel
theorem dX3_real_21 : decode cX3_real 21 = .ok (.ifCond .gt 13, 3) := by decide +kernel
theorem dX3_real_24 : decode cX3_real 24 = .ok (.aload_n 0, 1) := by decide +kernel
theorem dX3_real_25 : decode cX3_real 25 = .ok (.getfield 7, 3) := by decide +kernel
theorem dX3_real_28 : decode cX3_real 28 = .ok (.iload_n 1, 1) := by decide +kernel
theorem dX3_real_29 : decode cX3_real 29 = .ok (.iaload, 1) := by decide +kernel
theorem dX3_real_30 : decode cX3_real 30 = .ok (.iconst 2, 1) := by decide +kernel
theorem dX3_real_31 : decode cX3_real 31 = .ok (.if_icmp .eq 7, 3) := by decide +kernel
theorem dX3_real_34 : decode cX3_real 34 = .ok (.dconst 0, 1) := by decide +kernel
theorem dX3_real_35 : decode cX3_real 35 = .ok (.goto 24, 3) := by decide +kernel
theorem dX3_real_38 : decode cX3_real 38 = .ok (.aload_n 0, 1) := by decide +kernel
theorem dX3_real_39 : decode cX3_real 39 = .ok (.getfield 25, 3) := by decide +kernel
theorem dX3_real_42 : decode cX3_real 42 = .ok (.bipush 16, 2) := by decide +kernel
theorem dX3_real_44 : decode cX3_real 44 = .ok (.aload_n 0, 1) := by decide +kernel
theorem dX3_real_45 : decode cX3_real 45 = .ok (.getfield 16, 3) := by decide +kernel
theorem dX3_real_48 : decode cX3_real 48 = .ok (.bipush 12, 2) := by decide +kernel
theorem dX3_real_50 : decode cX3_real 50 = .ok (.iload_n 1, 1) := by decide +kernel
theorem dX3_real_51 : decode cX3_real 51 = .ok (.imul, 1) := by decide +kernel
theorem dX3_real_52 : decode cX3_real 52 = .ok (.iload_n 2, 1) := by decide +kernel
theorem dX3_real_53 : decode cX3_real 53 = .ok (.iadd, 1) := by decide +kernel
theorem dX3_real_54 : decode cX3_real 54 = .ok (.iaload, 1) := by decide +kernel
theorem dX3_real_55 : decode cX3_real 55 = .ok (.imul, 1) := by decide +kernel
theorem dX3_real_56 : decode cX3_real 56 = .ok (.iload_n 3, 1) := by decide +kernel
theorem dX3_real_57 : decode cX3_real 57 = .ok (.iadd, 1) := by decide +kernel
theorem dX3_real_58 : decode cX3_real 58 = .ok (.daload, 1) := by decide +kernel
theorem dX3_real_59 : decode cX3_real 59 = .ok (.dstore 5, 2) := by decide +kernel
theorem dX3_real_61 : decode cX3_real 61 = .ok (.dload 5, 2) := by decide +kernel
theorem dX3_real_63 : decode cX3_real 63 = .ok (.dload 5, 2) := by decide +kernel
theorem dX3_real_65 : decode cX3_real 65 = .ok (.dcmp .l, 1) := by decide +kernel
theorem dX3_real_66 : decode cX3_real 66 = .ok (.ifCond .eq 7, 3) := by decide +kernel
theorem dX3_real_69 : decode cX3_real 69 = .ok (.dconst 0, 1) := by decide +kernel
theorem dX3_real_70 : decode cX3_real 70 = .ok (.goto 5, 3) := by decide +kernel
theorem dX3_real_73 : decode cX3_real 73 = .ok (.dload 5, 2) := by decide +kernel
theorem dX3_real_75 : decode cX3_real 75 = .ok (.dreturn, 1) := by decide +kernel
theorem dX3_told_0 : decode cX3_told 0 = .ok (.aload_n 0, 1) := by decide +kernel
theorem dX3_told_1 : decode cX3_told 1 = .ok (.iload_n 1, 1) := by decide +kernel
theorem dX3_told_2 : decode cX3_told 2 = .ok (.invokevirtual 79, 3) := by decide +kernel
theorem dX3_told_5 : decode cX3_told 5 = .ok (.ifCond .ne 6, 3) := by decide +kernel
theorem dX3_told_8 : decode cX3_told 8 = .ok (.ldc 83, 2) := by decide +kernel
theorem dX3_told_10 : decode cX3_told 10 = .ok (.ireturn, 1) := by decide +kernel
theorem dX3_told_11 : decode cX3_told 11 = .ok (.iload_n 3, 1) := by decide +kernel
theorem dX3_told_12 : decode cX3_told 12 = .ok (.iconst 0, 1) := by decide +kernel
theorem dX3_told_13 : decode cX3_told 13 = .ok (.iconst 2, 1) := by decide +kernel
theorem dX3_told_14 : decode cX3_told 14 = .ok (.invokestatic 58, 3) := by decide +kernel
theorem dX3_told_17 : decode cX3_told 17 = .ok (.ifCond .ne 6, 3) := by decide +kernel
theorem dX3_told_20 : decode cX3_told 20 = .ok (.ldc 73, 2) := by decide +kernel
theorem dX3_told_22 : decode cX3_told 22 = .ok (.ireturn, 1) := by decide +kernel
theorem dX3_told_23 : decode cX3_told 23 = .ok (.iload_n 3, 1) := by decide +kernel
theorem dX3_told_24 : decode cX3_told 24 = .ok (.iconst 2, 1) := by decide +kernel
theorem dX3_told_25 : decode cX3_told 25 = .ok (.if_icmp .ge 23, 3) := by decide +kernel
theorem dX3_told_28 : decode cX3_told 28 = .ok (.iload_n 3, 1) := by decide +kernel
theorem dX3_told_29 : decode cX3_told 29 = .ok (.ifCond .ne 12, 3) := by decide +kernel
theorem dX3_told_32 : decode cX3_told 32 = .ok (.aload_n 0, 1) := by decide +kernel
theorem dX3_told_33 : decode cX3_told 33 = .ok (.getfield 7, 3) := by decide +kernel
theorem dX3_told_36 : decode cX3_told 36 = .ok (.iload_n 1, 1) := by decide +kernel
theorem dX3_told_37 : decode cX3_told 37 = .ok (.iaload, 1) := by decide +kernel
theorem dX3_told_38 : decode cX3_told 38 = .ok (.goto 9, 3) := by decide +kernel
theorem dX3_told_41 : decode cX3_told 41 = .ok (.aload_n 0, 1) := by decide +kernel
theorem dX3_told_42 : decode cX3_told 42 = .ok (.getfield 13, 3) := by decide +kernel
theorem dX3_told_45 : decode cX3_told 45 = .ok (.iload_n 1, 1) := by decide +kernel
theorem dX3_told_46 : decode cX3_told 46 = .ok (.iaload, 1) := by decide +kernel
theorem dX3_told_47 : decode cX3_told 47 = .ok (.ireturn, 1) := by decide +kernel
theorem dX3_told_48 : decode cX3_told 48 = .ok (.aload_n 0, 1) := by decide +kernel
theorem dX3_told_49 : decode cX3_told 49 = .ok (.iload_n 1, 1) := by decide +kernel
theorem dX3_told_50 : decode cX3_told 50 = .ok (.iload_n 2, 1) := by decide +kernel
theorem dX3_told_51 : decode cX3_told 51 = .ok (.invokevirtual 84, 3) := by decide +kernel
theorem dX3_told_54 : decode cX3_told 54 = .ok (.ifCond .ne 9, 3) := by decide +kernel
theorem dX3_told_57 : decode cX3_told 57 = .ok (.aload_n 0, 1) := by decide +kernel
theorem dX3_told_58 : decode cX3_told 58 = .ok (.iconst 2, 1) := by decide +kernel
theorem dX3_told_59 : decode cX3_told 59 = .ok (.invokevirtual 75, 3) := by decide +kernel
theorem dX3_told_62 : decode cX3_told 62 = .ok (.ireturn, 1) := by decide +kernel
theorem dX3_told_63 : decode cX3_told 63 = .ok (.aload_n 0, 1) := by decide +kernel
theorem dX3_told_64 : decode cX3_told 64 = .ok (.getfield 16, 3) := by decide +kernel
theorem dX3_told_67 : decode cX3_told 67 = .ok (.bipush 12, 2) := by decide +kernel
theorem dX3_told_69 : decode cX3_told 69 = .ok (.iload_n 1, 1) := by decide +kernel
theorem dX3_told_70 : decode cX3_told 70 = .ok (.imul, 1) := by decide +kernel
theorem dX3_told_71 : decode cX3_told 71 = .ok (.iload_n 2, 1) := by decide +kernel
theorem dX3_told_72 : decode cX3_told 72 = .ok (.iadd, 1) := by decide +kernel
theorem dX3_told_73 : decode cX3_told 73 = .ok (.iaload, 1) := by decide +kernel
theorem dX3_told_74 : decode cX3_told 74 = .ok (.istore 4, 2) := by decide +kernel
theorem dX3_told_76 : decode cX3_told 76 = .ok (.iload 4, 2) := by decide +kernel
theorem dX3_told_78 : decode cX3_told 78 = .ok (.ifCond .ge 11, 3) := by decide +kernel
theorem dX3_told_81 : decode cX3_told 81 = .ok (.aload_n 0, 1) := by decide +kernel
theorem dX3_told_82 : decode cX3_told 82 = .ok (.iconst 1, 1) := by decide +kernel
theorem dX3_told_83 : decode cX3_told 83 = .ok (.invokevirtual 75, 3) := by decide +kernel
theorem dX3_told_86 : decode cX3_told 86 = .ok (.goto 10, 3) := by decide +kernel
theorem dX3_told_89 : decode cX3_told 89 = .ok (.aload_n 0, 1) := by decide +kernel
theorem dX3_told_90 : decode cX3_told 90 = .ok (.getfield 19, 3) := by decide +kernel
theorem dX3_told_93 : decode cX3_told 93 = .ok (.iload 4, 2) := by decide +kernel
theorem dX3_told_95 : decode cX3_told 95 = .ok (.iaload, 1) := by decide +kernel
theorem dX3_told_96 : decode cX3_told 96 = .ok (.ireturn, 1) := by decide +kernel
theorem dX3_firstOdd_0 : decode cX3_firstOdd 0 = .ok (.iconst 0, 1) := by decide +kernel
theorem dX3_firstOdd_1 : decode cX3_firstOdd 1 = .ok (.istore_n 2, 1) := by decide +kernel
theorem dX3_firstOdd_2 : decode cX3_firstOdd 2 = .ok (.iload_n 2, 1) := by decide +kernel
theorem dX3_firstOdd_3 : decode cX3_firstOdd 3 = .ok (.aload_n 0, 1) := by decide +kernel
theorem dX3_firstOdd_4 : decode cX3_firstOdd 4 = .ok (.getfield 13, 3) := by decide +kernel
theorem dX3_firstOdd_7 : decode cX3_firstOdd 7 = .ok (.iload_n 1, 1) := by decide +kernel
theorem dX3_firstOdd_8 : decode cX3_firstOdd 8 = .ok (.iaload, 1) := by decide +kernel
theorem dX3_firstOdd_9 : decode cX3_firstOdd 9 = .ok (.if_icmp .ge 42, 3) := by decide +kernel
theorem dX3_firstOdd_12 : decode cX3_firstOdd 12 = .ok (.aload_n 0, 1) := by decide +kernel
theorem dX3_firstOdd_13 : decode cX3_firstOdd 13 = .ok (.getfield 16, 3) := by decide +kernel
theorem dX3_firstOdd_16 : decode cX3_firstOdd 16 = .ok (.bipush 12, 2) := by decide +kernel
theorem dX3_firstOdd_18 : decode cX3_firstOdd 18 = .ok (.iload_n 1, 1) := by decide +kernel
theorem dX3_firstOdd_19 : decode cX3_firstOdd 19 = .ok (.imul, 1) := by decide +kernel
theorem dX3_firstOdd_20 : decode cX3_firstOdd 20 = .ok (.iload_n 2, 1) := by decide +kernel
theorem dX3_firstOdd_21 : decode cX3_firstOdd 21 = .ok (.iadd, 1) := by decide +kernel
theorem dX3_firstOdd_22 : decode cX3_firstOdd 22 = .ok (.iaload, 1) := by decide +kernel
theorem dX3_firstOdd_23 : decode cX3_firstOdd 23 = .ok (.istore_n 3, 1) := by decide +kernel
theorem dX3_firstOdd_24 : decode cX3_firstOdd 24 = .ok (.iload_n 3, 1) := by decide +kernel
theorem dX3_firstOdd_25 : decode cX3_firstOdd 25 = .ok (.ifCond .lt 18, 3) := by decide +kernel
theorem dX3_firstOdd_28 : decode cX3_firstOdd 28 = .ok (.aload_n 0, 1) := by decide +kernel
theorem dX3_firstOdd_29 : decode cX3_firstOdd 29 = .ok (.getfield 19, 3) := by decide +kernel
theorem dX3_firstOdd_32 : decode cX3_firstOdd 32 = .ok (.iload_n 3, 1) := by decide +kernel
theorem dX3_firstOdd_33 : decode cX3_firstOdd 33 = .ok (.iaload, 1) := by decide +kernel
theorem dX3_firstOdd_34 : decode cX3_firstOdd 34 = .ok (.aload_n 0, 1) := by decide +kernel
theorem dX3_firstOdd_35 : decode cX3_firstOdd 35 = .ok (.getfield 13, 3) := by decide +kernel
theorem dX3_firstOdd_38 : decode cX3_firstOdd 38 = .ok (.iload_n 1, 1) := by decide +kernel
theorem dX3_firstOdd_39 : decode cX3_firstOdd 39 = .ok (.iaload, 1) := by decide +kernel
theorem dX3_firstOdd_40 : decode cX3_firstOdd 40 = .ok (.if_icmp .eq 5, 3) := by decide +kernel
theorem dX3_firstOdd_43 : decode cX3_firstOdd 43 = .ok (.iload_n 2, 1) := by decide +kernel
theorem dX3_firstOdd_44 : decode cX3_firstOdd 44 = .ok (.ireturn, 1) := by decide +kernel
theorem dX3_firstOdd_45 : decode cX3_firstOdd 45 = .ok (.iinc 2 1, 3) := by decide +kernel
theorem dX3_firstOdd_48 : decode cX3_firstOdd 48 = .ok (.goto (-46), 3) := by decide +kernel
theorem dX3_firstOdd_51 : decode cX3_firstOdd 51 = .ok (.ldc 65, 2) := by decide +kernel
theorem dX3_firstOdd_53 : decode cX3_firstOdd 53 = .ok (.ireturn, 1) := by decide +kernel
theorem dX3_odd_0 : decode cX3_odd 0 = .ok (.aload_n 0, 1) := by decide +kernel
theorem dX3_odd_1 : decode cX3_odd 1 = .ok (.iload_n 1, 1) := by decide +kernel
theorem dX3_odd_2 : decode cX3_odd 2 = .ok (.invokevirtual 79, 3) := by decide +kernel
theorem dX3_odd_5 : decode cX3_odd 5 = .ok (.ifCond .eq 11, 3) := by decide +kernel
theorem dX3_odd_8 : decode cX3_odd 8 = .ok (.aload_n 0, 1) := by decide +kernel
theorem dX3_odd_9 : decode cX3_odd 9 = .ok (.iload_n 1, 1) := by decide +kernel
theorem dX3_odd_10 : decode cX3_odd 10 = .ok (.invokevirtual 100, 3) := by decide +kernel
theorem dX3_odd_13 : decode cX3_odd 13 = .ok (.goto 5, 3) := by decide +kernel
theorem dX3_odd_16 : decode cX3_odd 16 = .ok (.ldc 83, 2) := by decide +kernel
theorem dX3_odd_18 : decode cX3_odd 18 = .ok (.ireturn, 1) := by decide +kernel
theorem dX3_copy_0 : decode cX3_copy 0 = .ok (.aload_n 0, 1) := by decide +kernel
theorem dX3_copy_1 : decode cX3_copy 1 = .ok (.iload_n 1, 1) := by decide +kernel
theorem dX3_copy_2 : decode cX3_copy 2 = .ok (.invokevirtual 79, 3) := by decide +kernel
theorem dX3_copy_5 : decode cX3_copy 5 = .ok (.ifCond .eq 12, 3) := by decide +kernel
theorem dX3_copy_8 : decode cX3_copy 8 = .ok (.aload_n 0, 1) := by decide +kernel
theorem dX3_copy_9 : decode cX3_copy 9 = .ok (.iload 4, 2) := by decide +kernel
theorem dX3_copy_11 : decode cX3_copy 11 = .ok (.invokevirtual 79, 3) := by decide +kernel
theorem dX3_copy_14 : decode cX3_copy 14 = .ok (.ifCond .ne 6, 3) := by decide +kernel
theorem dX3_copy_17 : decode cX3_copy 17 = .ok (.ldc 83, 2) := by decide +kernel
theorem dX3_copy_19 : decode cX3_copy 19 = .ok (.ireturn, 1) := by decide +kernel
theorem dX3_copy_20 : decode cX3_copy 20 = .ok (.aload_n 0, 1) := by decide +kernel
theorem dX3_copy_21 : decode cX3_copy 21 = .ok (.iload_n 1, 1) := by decide +kernel
theorem dX3_copy_22 : decode cX3_copy 22 = .ok (.iload_n 2, 1) := by decide +kernel
theorem dX3_copy_23 : decode cX3_copy 23 = .ok (.invokevirtual 84, 3) := by decide +kernel
theorem dX3_copy_26 : decode cX3_copy 26 = .ok (.ifCond .eq 14, 3) := by decide +kernel
theorem dX3_copy_29 : decode cX3_copy 29 = .ok (.aload_n 0, 1) := by decide +kernel
theorem dX3_copy_30 : decode cX3_copy 30 = .ok (.iload 4, 2) := by decide +kernel
theorem dX3_copy_32 : decode cX3_copy 32 = .ok (.iload 5, 2) := by decide +kernel
theorem dX3_copy_34 : decode cX3_copy 34 = .ok (.invokevirtual 84, 3) := by decide +kernel
theorem dX3_copy_37 : decode cX3_copy 37 = .ok (.ifCond .ne 9, 3) := by decide +kernel
theorem dX3_copy_40 : decode cX3_copy 40 = .ok (.aload_n 0, 1) := by decide +kernel
theorem dX3_copy_41 : decode cX3_copy 41 = .ok (.iconst 2, 1) := by decide +kernel
theorem dX3_copy_42 : decode cX3_copy 42 = .ok (.invokevirtual 75, 3) := by decide +kernel
theorem dX3_copy_45 : decode cX3_copy 45 = .ok (.ireturn, 1) := by decide +kernel
theorem dX3_copy_46 : decode cX3_copy 46 = .ok (.aload_n 0, 1) := by decide +kernel
theorem dX3_copy_47 : decode cX3_copy 47 = .ok (.getfield 16, 3) := by decide +kernel
theorem dX3_copy_50 : decode cX3_copy 50 = .ok (.bipush 12, 2) := by decide +kernel
theorem dX3_copy_52 : decode cX3_copy 52 = .ok (.iload_n 1, 1) := by decide +kernel
theorem dX3_copy_53 : decode cX3_copy 53 = .ok (.imul, 1) := by decide +kernel
theorem dX3_copy_54 : decode cX3_copy 54 = .ok (.iload_n 2, 1) := by decide +kernel
theorem dX3_copy_55 : decode cX3_copy 55 = .ok (.iadd, 1) := by decide +kernel
theorem dX3_copy_56 : decode cX3_copy 56 = .ok (.iaload, 1) := by decide +kernel
theorem dX3_copy_57 : decode cX3_copy 57 = .ok (.istore 8, 2) := by decide +kernel
theorem dX3_copy_59 : decode cX3_copy 59 = .ok (.aload_n 0, 1) := by decide +kernel
theorem dX3_copy_60 : decode cX3_copy 60 = .ok (.getfield 16, 3) := by decide +kernel
theorem dX3_copy_63 : decode cX3_copy 63 = .ok (.bipush 12, 2) := by decide +kernel
theorem dX3_copy_65 : decode cX3_copy 65 = .ok (.iload 4, 2) := by decide +kernel
theorem dX3_copy_67 : decode cX3_copy 67 = .ok (.imul, 1) := by decide +kernel
theorem dX3_copy_68 : decode cX3_copy 68 = .ok (.iload 5, 2) := by decide +kernel
theorem dX3_copy_70 : decode cX3_copy 70 = .ok (.iadd, 1) := by decide +kernel
theorem dX3_copy_71 : decode cX3_copy 71 = .ok (.iaload, 1) := by decide +kernel
theorem dX3_copy_72 : decode cX3_copy 72 = .ok (.istore 9, 2) := by decide +kernel
theorem dX3_copy_74 : decode cX3_copy 74 = .ok (.iload 8, 2) := by decide +kernel
theorem dX3_copy_76 : decode cX3_copy 76 = .ok (.ifCond .lt 8, 3) := by decide +kernel
theorem dX3_copy_79 : decode cX3_copy 79 = .ok (.iload 9, 2) := by decide +kernel
theorem dX3_copy_81 : decode cX3_copy 81 = .ok (.ifCond .ge 9, 3) := by decide +kernel
theorem dX3_copy_84 : decode cX3_copy 84 = .ok (.aload_n 0, 1) := by decide +kernel
theorem dX3_copy_85 : decode cX3_copy 85 = .ok (.iconst 1, 1) := by decide +kernel
theorem dX3_copy_86 : decode cX3_copy 86 = .ok (.invokevirtual 75, 3) := by decide +kernel
theorem dX3_copy_89 : decode cX3_copy 89 = .ok (.ireturn, 1) := by decide +kernel
theorem dX3_copy_90 : decode cX3_copy 90 = .ok (.aload_n 0, 1) := by decide +kernel
theorem dX3_copy_91 : decode cX3_copy 91 = .ok (.getfield 7, 3) := by decide +kernel
theorem dX3_copy_94 : decode cX3_copy 94 = .ok (.iload_n 1, 1) := by decide +kernel
theorem dX3_copy_95 : decode cX3_copy 95 = .ok (.iaload, 1) := by decide +kernel
theorem dX3_copy_96 : decode cX3_copy 96 = .ok (.aload_n 0, 1) := by decide +kernel
theorem dX3_copy_97 : decode cX3_copy 97 = .ok (.getfield 7, 3) := by decide +kernel
theorem dX3_copy_100 : decode cX3_copy 100 = .ok (.iload 4, 2) := by decide +kernel
theorem dX3_copy_102 : decode cX3_copy 102 = .ok (.iaload, 1) := by decide +kernel
theorem dX3_copy_103 : decode cX3_copy 103 = .ok (.if_icmp .eq 9, 3) := by decide +kernel
theorem dX3_copy_106 : decode cX3_copy 106 = .ok (.aload_n 0, 1) := by decide +kernel
theorem dX3_copy_107 : decode cX3_copy 107 = .ok (.iconst 3, 1) := by decide +kernel
theorem dX3_copy_108 : decode cX3_copy 108 = .ok (.invokevirtual 75, 3) := by decide +kernel
theorem dX3_copy_111 : decode cX3_copy 111 = .ok (.ireturn, 1) := by decide +kernel
theorem dX3_copy_112 : decode cX3_copy 112 = .ok (.iload_n 3, 1) := by decide +kernel
theorem dX3_copy_113 : decode cX3_copy 113 = .ok (.ifCond .lt 50, 3) := by decide +kernel
theorem dX3_copy_116 : decode cX3_copy 116 = .ok (.iload 6, 2) := by decide +kernel
theorem dX3_copy_118 : decode cX3_copy 118 = .ok (.ifCond .lt 45, 3) := by decide +kernel
theorem dX3_copy_121 : decode cX3_copy 121 = .ok (.iload 7, 2) := by decide +kernel
theorem dX3_copy_123 : decode cX3_copy 123 = .ok (.ifCond .lt 40, 3) := by decide +kernel
theorem dX3_copy_126 : decode cX3_copy 126 = .ok (.iload_n 3, 1) := by decide +kernel
theorem dX3_copy_127 : decode cX3_copy 127 = .ok (.i2l, 1) := by decide +kernel
theorem dX3_copy_128 : decode cX3_copy 128 = .ok (.iload 7, 2) := by decide +kernel
theorem dX3_copy_130 : decode cX3_copy 130 = .ok (.i2l, 1) := by decide +kernel
theorem dX3_copy_131 : decode cX3_copy 131 = .ok (.ladd, 1) := by decide +kernel
theorem dX3_copy_132 : decode cX3_copy 132 = .ok (.aload_n 0, 1) := by decide +kernel
theorem dX3_copy_133 : decode cX3_copy 133 = .ok (.getfield 19, 3) := by decide +kernel
theorem dX3_copy_136 : decode cX3_copy 136 = .ok (.iload 8, 2) := by decide +kernel
theorem dX3_copy_138 : decode cX3_copy 138 = .ok (.iaload, 1) := by decide +kernel
theorem dX3_copy_139 : decode cX3_copy 139 = .ok (.i2l, 1) := by decide +kernel
theorem dX3_copy_140 : decode cX3_copy 140 = .ok (.lcmp, 1) := by decide +kernel
theorem dX3_copy_141 : decode cX3_copy 141 = .ok (.ifCond .gt 22, 3) := by decide +kernel
theorem dX3_copy_144 : decode cX3_copy 144 = .ok (.iload 6, 2) := by decide +kernel
theorem dX3_copy_146 : decode cX3_copy 146 = .ok (.i2l, 1) := by decide +kernel
theorem dX3_copy_147 : decode cX3_copy 147 = .ok (.iload 7, 2) := by decide +kernel
theorem dX3_copy_149 : decode cX3_copy 149 = .ok (.i2l, 1) := by decide +kernel
theorem dX3_copy_150 : decode cX3_copy 150 = .ok (.ladd, 1) := by decide +kernel
theorem dX3_copy_151 : decode cX3_copy 151 = .ok (.aload_n 0, 1) := by decide +kernel
theorem dX3_copy_152 : decode cX3_copy 152 = .ok (.getfield 19, 3) := by decide +kernel
theorem dX3_copy_155 : decode cX3_copy 155 = .ok (.iload 9, 2) := by decide +kernel
theorem dX3_copy_157 : decode cX3_copy 157 = .ok (.iaload, 1) := by decide +kernel
theorem dX3_copy_158 : decode cX3_copy 158 = .ok (.i2l, 1) := by decide +kernel
theorem dX3_copy_159 : decode cX3_copy 159 = .ok (.lcmp, 1) := by decide +kernel
theorem dX3_copy_160 : decode cX3_copy 160 = .ok (.ifCond .le 9, 3) := by decide +kernel
theorem dX3_copy_163 : decode cX3_copy 163 = .ok (.aload_n 0, 1) := by decide +kernel
theorem dX3_copy_164 : decode cX3_copy 164 = .ok (.iconst 2, 1) := by decide +kernel
theorem dX3_copy_165 : decode cX3_copy 165 = .ok (.invokevirtual 75, 3) := by decide +kernel
theorem dX3_copy_168 : decode cX3_copy 168 = .ok (.ireturn, 1) := by decide +kernel
theorem dX3_copy_169 : decode cX3_copy 169 = .ok (.iconst 0, 1) := by decide +kernel
theorem dX3_copy_170 : decode cX3_copy 170 = .ok (.istore 10, 2) := by decide +kernel
theorem dX3_copy_172 : decode cX3_copy 172 = .ok (.iload 10, 2) := by decide +kernel
theorem dX3_copy_174 : decode cX3_copy 174 = .ok (.iload 7, 2) := by decide +kernel
theorem dX3_copy_176 : decode cX3_copy 176 = .ok (.if_icmp .ge 98, 3) := by decide +kernel
theorem dX3_copy_179 : decode cX3_copy 179 = .ok (.iload 8, 2) := by decide +kernel
theorem dX3_copy_181 : decode cX3_copy 181 = .ok (.iload 9, 2) := by decide +kernel
theorem dX3_copy_183 : decode cX3_copy 183 = .ok (.if_icmp .ne 19, 3) := by decide +kernel
theorem dX3_copy_186 : decode cX3_copy 186 = .ok (.iload_n 3, 1) := by decide +kernel
theorem dX3_copy_187 : decode cX3_copy 187 = .ok (.iload 6, 2) := by decide +kernel
theorem dX3_copy_189 : decode cX3_copy 189 = .ok (.if_icmp .ge 13, 3) := by decide +kernel
theorem dX3_copy_192 : decode cX3_copy 192 = .ok (.iload 7, 2) := by decide +kernel
theorem dX3_copy_194 : decode cX3_copy 194 = .ok (.iconst 1, 1) := by decide +kernel
theorem dX3_copy_195 : decode cX3_copy 195 = .ok (.isub, 1) := by decide +kernel
theorem dX3_copy_196 : decode cX3_copy 196 = .ok (.iload 10, 2) := by decide +kernel
theorem dX3_copy_198 : decode cX3_copy 198 = .ok (.isub, 1) := by decide +kernel
theorem dX3_copy_199 : decode cX3_copy 199 = .ok (.goto 5, 3) := by decide +kernel
theorem dX3_copy_202 : decode cX3_copy 202 = .ok (.iload 10, 2) := by decide +kernel
theorem dX3_copy_204 : decode cX3_copy 204 = .ok (.istore 11, 2) := by decide +kernel
theorem dX3_copy_206 : decode cX3_copy 206 = .ok (.aload_n 0, 1) := by decide +kernel
theorem dX3_copy_207 : decode cX3_copy 207 = .ok (.getfield 22, 3) := by decide +kernel
theorem dX3_copy_210 : decode cX3_copy 210 = .ok (.bipush 16, 2) := by decide +kernel
theorem dX3_copy_212 : decode cX3_copy 212 = .ok (.iload 9, 2) := by decide +kernel
theorem dX3_copy_214 : decode cX3_copy 214 = .ok (.imul, 1) := by decide +kernel
theorem dX3_copy_215 : decode cX3_copy 215 = .ok (.iload 6, 2) := by decide +kernel
theorem dX3_copy_217 : decode cX3_copy 217 = .ok (.iadd, 1) := by decide +kernel
theorem dX3_copy_218 : decode cX3_copy 218 = .ok (.iload 11, 2) := by decide +kernel
theorem dX3_copy_220 : decode cX3_copy 220 = .ok (.iadd, 1) := by decide +kernel
theorem dX3_copy_221 : decode cX3_copy 221 = .ok (.aload_n 0, 1) := by decide +kernel
theorem dX3_copy_222 : decode cX3_copy 222 = .ok (.getfield 22, 3) := by decide +kernel
theorem dX3_copy_225 : decode cX3_copy 225 = .ok (.bipush 16, 2) := by decide +kernel
theorem dX3_copy_227 : decode cX3_copy 227 = .ok (.iload 8, 2) := by decide +kernel
theorem dX3_copy_229 : decode cX3_copy 229 = .ok (.imul, 1) := by decide +kernel
theorem dX3_copy_230 : decode cX3_copy 230 = .ok (.iload_n 3, 1) := by decide +kernel
theorem dX3_copy_231 : decode cX3_copy 231 = .ok (.iadd, 1) := by decide +kernel
theorem dX3_copy_232 : decode cX3_copy 232 = .ok (.iload 11, 2) := by decide +kernel
theorem dX3_copy_234 : decode cX3_copy 234 = .ok (.iadd, 1) := by decide +kernel
theorem dX3_copy_235 : decode cX3_copy 235 = .ok (.iaload, 1) := by decide +kernel
theorem dX3_copy_236 : decode cX3_copy 236 = .ok (.iastore, 1) := by decide +kernel
theorem dX3_copy_237 : decode cX3_copy 237 = .ok (.aload_n 0, 1) := by decide +kernel
theorem dX3_copy_238 : decode cX3_copy 238 = .ok (.getfield 25, 3) := by decide +kernel
theorem dX3_copy_241 : decode cX3_copy 241 = .ok (.bipush 16, 2) := by decide +kernel
theorem dX3_copy_243 : decode cX3_copy 243 = .ok (.iload 9, 2) := by decide +kernel
theorem dX3_copy_245 : decode cX3_copy 245 = .ok (.imul, 1) := by decide +kernel
theorem dX3_copy_246 : decode cX3_copy 246 = .ok (.iload 6, 2) := by decide +kernel
theorem dX3_copy_248 : decode cX3_copy 248 = .ok (.iadd, 1) := by decide +kernel
theorem dX3_copy_249 : decode cX3_copy 249 = .ok (.iload 11, 2) := by decide +kernel
theorem dX3_copy_251 : decode cX3_copy 251 = .ok (.iadd, 1) := by decide +kernel
theorem dX3_copy_252 : decode cX3_copy 252 = .ok (.aload_n 0, 1) := by decide +kernel
theorem dX3_copy_253 : decode cX3_copy 253 = .ok (.getfield 25, 3) := by decide +kernel
theorem dX3_copy_256 : decode cX3_copy 256 = .ok (.bipush 16, 2) := by decide +kernel
theorem dX3_copy_258 : decode cX3_copy 258 = .ok (.iload 8, 2) := by decide +kernel
theorem dX3_copy_260 : decode cX3_copy 260 = .ok (.imul, 1) := by decide +kernel
theorem dX3_copy_261 : decode cX3_copy 261 = .ok (.iload_n 3, 1) := by decide +kernel
theorem dX3_copy_262 : decode cX3_copy 262 = .ok (.iadd, 1) := by decide +kernel
theorem dX3_copy_263 : decode cX3_copy 263 = .ok (.iload 11, 2) := by decide +kernel
theorem dX3_copy_265 : decode cX3_copy 265 = .ok (.iadd, 1) := by decide +kernel
theorem dX3_copy_266 : decode cX3_copy 266 = .ok (.daload, 1) := by decide +kernel
theorem dX3_copy_267 : decode cX3_copy 267 = .ok (.dastore, 1) := by decide +kernel
theorem dX3_copy_268 : decode cX3_copy 268 = .ok (.iinc 10 1, 3) := by decide +kernel
theorem dX3_copy_271 : decode cX3_copy 271 = .ok (.goto (-99), 3) := by decide +kernel
theorem dX3_copy_274 : decode cX3_copy 274 = .ok (.iconst 1, 1) := by decide +kernel
theorem dX3_copy_275 : decode cX3_copy 275 = .ok (.ireturn, 1) := by decide +kernel
theorem dX3_isEven_0 : decode cX3_isEven 0 = .ok (.iconst 1, 1) := by decide +kernel
theorem dX3_isEven_1 : decode cX3_isEven 1 = .ok (.istore_n 2, 1) := by decide +kernel
theorem dX3_isEven_2 : decode cX3_isEven 2 = .ok (.iconst 0, 1) := by decide +kernel
theorem dX3_isEven_3 : decode cX3_isEven 3 = .ok (.istore_n 3, 1) := by decide +kernel
theorem dX3_isEven_4 : decode cX3_isEven 4 = .ok (.iload_n 3, 1) := by decide +kernel
theorem dX3_isEven_5 : decode cX3_isEven 5 = .ok (.aload_n 0, 1) := by decide +kernel
theorem dX3_isEven_6 : decode cX3_isEven 6 = .ok (.getfield 13, 3) := by decide +kernel
theorem dX3_isEven_9 : decode cX3_isEven 9 = .ok (.iload_n 1, 1) := by decide +kernel
theorem dX3_isEven_10 : decode cX3_isEven 10 = .ok (.iaload, 1) := by decide +kernel
theorem dX3_isEven_11 : decode cX3_isEven 11 = .ok (.if_icmp .ge 52, 3) := by decide +kernel
theorem dX3_isEven_14 : decode cX3_isEven 14 = .ok (.aload_n 0, 1) := by decide +kernel
theorem dX3_isEven_15 : decode cX3_isEven 15 = .ok (.getfield 16, 3) := by decide +kernel
theorem dX3_isEven_18 : decode cX3_isEven 18 = .ok (.bipush 12, 2) := by decide +kernel
theorem dX3_isEven_20 : decode cX3_isEven 20 = .ok (.iload_n 1, 1) := by decide +kernel
theorem dX3_isEven_21 : decode cX3_isEven 21 = .ok (.imul, 1) := by decide +kernel
theorem dX3_isEven_22 : decode cX3_isEven 22 = .ok (.iload_n 3, 1) := by decide +kernel
theorem dX3_isEven_23 : decode cX3_isEven 23 = .ok (.iadd, 1) := by decide +kernel
theorem dX3_isEven_24 : decode cX3_isEven 24 = .ok (.iaload, 1) := by decide +kernel
theorem dX3_isEven_25 : decode cX3_isEven 25 = .ok (.istore 4, 2) := by decide +kernel
theorem dX3_isEven_27 : decode cX3_isEven 27 = .ok (.iload_n 2, 1) := by decide +kernel
theorem dX3_isEven_28 : decode cX3_isEven 28 = .ok (.ifCond .eq 27, 3) := by decide +kernel
theorem dX3_isEven_31 : decode cX3_isEven 31 = .ok (.iload 4, 2) := by decide +kernel
theorem dX3_isEven_33 : decode cX3_isEven 33 = .ok (.ifCond .lt 22, 3) := by decide +kernel
theorem dX3_isEven_36 : decode cX3_isEven 36 = .ok (.aload_n 0, 1) := by decide +kernel
theorem dX3_isEven_37 : decode cX3_isEven 37 = .ok (.getfield 19, 3) := by decide +kernel
theorem dX3_isEven_40 : decode cX3_isEven 40 = .ok (.iload 4, 2) := by decide +kernel
theorem dX3_isEven_42 : decode cX3_isEven 42 = .ok (.iaload, 1) := by decide +kernel
theorem dX3_isEven_43 : decode cX3_isEven 43 = .ok (.aload_n 0, 1) := by decide +kernel
theorem dX3_isEven_44 : decode cX3_isEven 44 = .ok (.iload_n 1, 1) := by decide +kernel
theorem dX3_isEven_45 : decode cX3_isEven 45 = .ok (.invokevirtual 103, 3) := by decide +kernel
theorem dX3_isEven_48 : decode cX3_isEven 48 = .ok (.if_icmp .ne 7, 3) := by decide +kernel
theorem dX3_isEven_51 : decode cX3_isEven 51 = .ok (.iconst 1, 1) := by decide +kernel
theorem dX3_isEven_52 : decode cX3_isEven 52 = .ok (.goto 4, 3) := by decide +kernel
theorem dX3_isEven_55 : decode cX3_isEven 55 = .ok (.iconst 0, 1) := by decide +kernel
theorem dX3_isEven_56 : decode cX3_isEven 56 = .ok (.istore_n 2, 1) := by decide +kernel
theorem dX3_isEven_57 : decode cX3_isEven 57 = .ok (.iinc 3 1, 3) := by decide +kernel
theorem dX3_isEven_60 : decode cX3_isEven 60 = .ok (.goto (-56), 3) := by decide +kernel
theorem dX3_isEven_63 : decode cX3_isEven 63 = .ok (.iload_n 2, 1) := by decide +kernel
theorem dX3_isEven_64 : decode cX3_isEven 64 = .ok (.ireturn, 1) := by decide +kernel
theorem dX3_wideOf_0 : decode cX3_wideOf 0 = .ok (.aload_n 0, 1) := by decide +kernel
theorem dX3_wideOf_1 : decode cX3_wideOf 1 = .ok (.getfield 13, 3) := by decide +kernel
theorem dX3_wideOf_4 : decode cX3_wideOf 4 = .ok (.iload_n 1, 1) := by decide +kernel
theorem dX3_wideOf_5 : decode cX3_wideOf 5 = .ok (.iaload, 1) := by decide +kernel
theorem dX3_wideOf_6 : decode cX3_wideOf 6 = .ok (.ifCond .eq 15, 3) := by decide +kernel
theorem dX3_wideOf_9 : decode cX3_wideOf 9 = .ok (.aload_n 0, 1) := by decide +kernel
theorem dX3_wideOf_10 : decode cX3_wideOf 10 = .ok (.getfield 16, 3) := by decide +kernel
theorem dX3_wideOf_13 : decode cX3_wideOf 13 = .ok (.bipush 12, 2) := by decide +kernel
theorem dX3_wideOf_15 : decode cX3_wideOf 15 = .ok (.iload_n 1, 1) := by decide +kernel
theorem dX3_wideOf_16 : decode cX3_wideOf 16 = .ok (.imul, 1) := by decide +kernel
theorem dX3_wideOf_17 : decode cX3_wideOf 17 = .ok (.iaload, 1) := by decide +kernel
theorem dX3_wideOf_18 : decode cX3_wideOf 18 = .ok (.ifCond .ge 7, 3) := by decide +kernel
theorem dX3_wideOf_21 : decode cX3_wideOf 21 = .ok (.iconst 0, 1) := by decide +kernel
theorem dX3_wideOf_22 : decode cX3_wideOf 22 = .ok (.goto 17, 3) := by decide +kernel
theorem dX3_wideOf_25 : decode cX3_wideOf 25 = .ok (.aload_n 0, 1) := by decide +kernel
theorem dX3_wideOf_26 : decode cX3_wideOf 26 = .ok (.getfield 19, 3) := by decide +kernel
theorem dX3_wideOf_29 : decode cX3_wideOf 29 = .ok (.aload_n 0, 1) := by decide +kernel
theorem dX3_wideOf_30 : decode cX3_wideOf 30 = .ok (.getfield 16, 3) := by decide +kernel
theorem dX3_wideOf_33 : decode cX3_wideOf 33 = .ok (.bipush 12, 2) := by decide +kernel
theorem dX3_wideOf_35 : decode cX3_wideOf 35 = .ok (.iload_n 1, 1) := by decide +kernel
theorem dX3_wideOf_36 : decode cX3_wideOf 36 = .ok (.imul, 1) := by decide +kernel
theorem dX3_wideOf_37 : decode cX3_wideOf 37 = .ok (.iaload, 1) := by decide +kernel
theorem dX3_wideOf_38 : decode cX3_wideOf 38 = .ok (.iaload, 1) := by decide +kernel
theorem dX3_wideOf_39 : decode cX3_wideOf 39 = .ok (.ireturn, 1) := by decide +kernel
theorem dX3_cellOf_0 : decode cX3_cellOf 0 = .ok (.bipush 16, 2) := by decide +kernel
theorem dX3_cellOf_2 : decode cX3_cellOf 2 = .ok (.aload_n 0, 1) := by decide +kernel
theorem dX3_cellOf_3 : decode cX3_cellOf 3 = .ok (.getfield 16, 3) := by decide +kernel
theorem dX3_cellOf_6 : decode cX3_cellOf 6 = .ok (.bipush 12, 2) := by decide +kernel
theorem dX3_cellOf_8 : decode cX3_cellOf 8 = .ok (.iload_n 1, 1) := by decide +kernel
theorem dX3_cellOf_9 : decode cX3_cellOf 9 = .ok (.imul, 1) := by decide +kernel
theorem dX3_cellOf_10 : decode cX3_cellOf 10 = .ok (.iload_n 2, 1) := by decide +kernel
theorem dX3_cellOf_11 : decode cX3_cellOf 11 = .ok (.iadd, 1) := by decide +kernel
theorem dX3_cellOf_12 : decode cX3_cellOf 12 = .ok (.iaload, 1) := by decide +kernel
theorem dX3_cellOf_13 : decode cX3_cellOf 13 = .ok (.imul, 1) := by decide +kernel
theorem dX3_cellOf_14 : decode cX3_cellOf 14 = .ok (.iload_n 3, 1) := by decide +kernel
theorem dX3_cellOf_15 : decode cX3_cellOf 15 = .ok (.iadd, 1) := by decide +kernel
theorem dX3_cellOf_16 : decode cX3_cellOf 16 = .ok (.ireturn, 1) := by decide +kernel
theorem dX3_turned_0 : decode cX3_turned 0 = .ok (.aload_n 0, 1) := by decide +kernel
theorem dX3_turned_1 : decode cX3_turned 1 = .ok (.iload_n 1, 1) := by decide +kernel
theorem dX3_turned_2 : decode cX3_turned 2 = .ok (.invokevirtual 79, 3) := by decide +kernel
theorem dX3_turned_5 : decode cX3_turned 5 = .ok (.ifCond .ne 6, 3) := by decide +kernel
theorem dX3_turned_8 : decode cX3_turned 8 = .ok (.ldc 83, 2) := by decide +kernel
theorem dX3_turned_10 : decode cX3_turned 10 = .ok (.ireturn, 1) := by decide +kernel
theorem dX3_turned_11 : decode cX3_turned 11 = .ok (.aload_n 0, 1) := by decide +kernel
theorem dX3_turned_12 : decode cX3_turned 12 = .ok (.iload_n 1, 1) := by decide +kernel
theorem dX3_turned_13 : decode cX3_turned 13 = .ok (.invokevirtual 106, 3) := by decide +kernel
theorem dX3_turned_16 : decode cX3_turned 16 = .ok (.ifCond .eq 13, 3) := by decide +kernel
theorem dX3_turned_19 : decode cX3_turned 19 = .ok (.aload_n 0, 1) := by decide +kernel
theorem dX3_turned_20 : decode cX3_turned 20 = .ok (.iload_n 1, 1) := by decide +kernel
theorem dX3_turned_21 : decode cX3_turned 21 = .ok (.invokevirtual 103, 3) := by decide +kernel
theorem dX3_turned_24 : decode cX3_turned 24 = .ok (.bipush 12, 2) := by decide +kernel
theorem dX3_turned_26 : decode cX3_turned 26 = .ok (.if_icmp .le 6, 3) := by decide +kernel
theorem dX3_turned_29 : decode cX3_turned 29 = .ok (.ldc 109, 2) := by decide +kernel
theorem dX3_turned_31 : decode cX3_turned 31 = .ok (.ireturn, 1) := by decide +kernel
theorem dX3_turned_32 : decode cX3_turned 32 = .ok (.aload_n 0, 1) := by decide +kernel
theorem dX3_turned_33 : decode cX3_turned 33 = .ok (.getfield 55, 3) := by decide +kernel
theorem dX3_turned_36 : decode cX3_turned 36 = .ok (.bipush 16, 2) := by decide +kernel
theorem dX3_turned_38 : decode cX3_turned 38 = .ok (.if_icmp .ne 6, 3) := by decide +kernel
theorem dX3_turned_41 : decode cX3_turned 41 = .ok (.ldc 74, 2) := by decide +kernel
theorem dX3_turned_43 : decode cX3_turned 43 = .ok (.ireturn, 1) := by decide +kernel
theorem dX3_turned_44 : decode cX3_turned 44 = .ok (.aload_n 0, 1) := by decide +kernel
theorem dX3_turned_45 : decode cX3_turned 45 = .ok (.invokevirtual 88, 3) := by decide +kernel
theorem dX3_turned_48 : decode cX3_turned 48 = .ok (.aload_n 0, 1) := by decide +kernel
theorem dX3_turned_49 : decode cX3_turned 49 = .ok (.aload_n 0, 1) := by decide +kernel
theorem dX3_turned_50 : decode cX3_turned 50 = .ok (.getfield 7, 3) := by decide +kernel
theorem dX3_turned_53 : decode cX3_turned 53 = .ok (.iload_n 1, 1) := by decide +kernel
theorem dX3_turned_54 : decode cX3_turned 54 = .ok (.iaload, 1) := by decide +kernel
theorem dX3_turned_55 : decode cX3_turned 55 = .ok (.aload_n 0, 1) := by decide +kernel
theorem dX3_turned_56 : decode cX3_turned 56 = .ok (.iload_n 1, 1) := by decide +kernel
theorem dX3_turned_57 : decode cX3_turned 57 = .ok (.invokevirtual 103, 3) := by decide +kernel
theorem dX3_turned_60 : decode cX3_turned 60 = .ok (.aload_n 0, 1) := by decide +kernel
theorem dX3_turned_61 : decode cX3_turned 61 = .ok (.getfield 13, 3) := by decide +kernel
theorem dX3_turned_64 : decode cX3_turned 64 = .ok (.iload_n 1, 1) := by decide +kernel
theorem dX3_turned_65 : decode cX3_turned 65 = .ok (.iaload, 1) := by decide +kernel
theorem dX3_turned_66 : decode cX3_turned 66 = .ok (.invokevirtual 110, 3) := by decide +kernel
theorem dX3_turned_69 : decode cX3_turned 69 = .ok (.istore_n 2, 1) := by decide +kernel
theorem dX3_turned_70 : decode cX3_turned 70 = .ok (.iconst 0, 1) := by decide +kernel
theorem dX3_turned_71 : decode cX3_turned 71 = .ok (.istore_n 3, 1) := by decide +kernel
theorem dX3_turned_72 : decode cX3_turned 72 = .ok (.iload_n 3, 1) := by decide +kernel
theorem dX3_turned_73 : decode cX3_turned 73 = .ok (.aload_n 0, 1) := by decide +kernel
theorem dX3_turned_74 : decode cX3_turned 74 = .ok (.getfield 13, 3) := by decide +kernel
theorem dX3_turned_77 : decode cX3_turned 77 = .ok (.iload_n 2, 1) := by decide +kernel
theorem dX3_turned_78 : decode cX3_turned 78 = .ok (.iaload, 1) := by decide +kernel
theorem dX3_turned_79 : decode cX3_turned 79 = .ok (.if_icmp .ge 81, 3) := by decide +kernel
theorem dX3_turned_82 : decode cX3_turned 82 = .ok (.iconst 0, 1) := by decide +kernel
theorem dX3_turned_83 : decode cX3_turned 83 = .ok (.istore 4, 2) := by decide +kernel
theorem dX3_turned_85 : decode cX3_turned 85 = .ok (.iload 4, 2) := by decide +kernel
theorem dX3_turned_87 : decode cX3_turned 87 = .ok (.aload_n 0, 1) := by decide +kernel
theorem dX3_turned_88 : decode cX3_turned 88 = .ok (.getfield 13, 3) := by decide +kernel
theorem dX3_turned_91 : decode cX3_turned 91 = .ok (.iload_n 1, 1) := by decide +kernel
theorem dX3_turned_92 : decode cX3_turned 92 = .ok (.iaload, 1) := by decide +kernel
theorem dX3_turned_93 : decode cX3_turned 93 = .ok (.if_icmp .ge 61, 3) := by decide +kernel
theorem dX3_turned_96 : decode cX3_turned 96 = .ok (.aload_n 0, 1) := by decide +kernel
theorem dX3_turned_97 : decode cX3_turned 97 = .ok (.getfield 22, 3) := by decide +kernel
theorem dX3_turned_100 : decode cX3_turned 100 = .ok (.aload_n 0, 1) := by decide +kernel
theorem dX3_turned_101 : decode cX3_turned 101 = .ok (.iload_n 2, 1) := by decide +kernel
theorem dX3_turned_102 : decode cX3_turned 102 = .ok (.iload_n 3, 1) := by decide +kernel
theorem dX3_turned_103 : decode cX3_turned 103 = .ok (.iload 4, 2) := by decide +kernel
theorem dX3_turned_105 : decode cX3_turned 105 = .ok (.invokevirtual 113, 3) := by decide +kernel
theorem dX3_turned_108 : decode cX3_turned 108 = .ok (.aload_n 0, 1) := by decide +kernel
theorem dX3_turned_109 : decode cX3_turned 109 = .ok (.getfield 22, 3) := by decide +kernel
theorem dX3_turned_112 : decode cX3_turned 112 = .ok (.aload_n 0, 1) := by decide +kernel
theorem dX3_turned_113 : decode cX3_turned 113 = .ok (.iload_n 1, 1) := by decide +kernel
theorem dX3_turned_114 : decode cX3_turned 114 = .ok (.iload 4, 2) := by decide +kernel
theorem dX3_turned_116 : decode cX3_turned 116 = .ok (.iload_n 3, 1) := by decide +kernel
theorem dX3_turned_117 : decode cX3_turned 117 = .ok (.invokevirtual 113, 3) := by decide +kernel
theorem dX3_turned_120 : decode cX3_turned 120 = .ok (.iaload, 1) := by decide +kernel
theorem dX3_turned_121 : decode cX3_turned 121 = .ok (.iastore, 1) := by decide +kernel
theorem dX3_turned_122 : decode cX3_turned 122 = .ok (.aload_n 0, 1) := by decide +kernel
theorem dX3_turned_123 : decode cX3_turned 123 = .ok (.getfield 25, 3) := by decide +kernel
theorem dX3_turned_126 : decode cX3_turned 126 = .ok (.aload_n 0, 1) := by decide +kernel
theorem dX3_turned_127 : decode cX3_turned 127 = .ok (.iload_n 2, 1) := by decide +kernel
theorem dX3_turned_128 : decode cX3_turned 128 = .ok (.iload_n 3, 1) := by decide +kernel
theorem dX3_turned_129 : decode cX3_turned 129 = .ok (.iload 4, 2) := by decide +kernel
theorem dX3_turned_131 : decode cX3_turned 131 = .ok (.invokevirtual 113, 3) := by decide +kernel
theorem dX3_turned_134 : decode cX3_turned 134 = .ok (.aload_n 0, 1) := by decide +kernel
theorem dX3_turned_135 : decode cX3_turned 135 = .ok (.getfield 25, 3) := by decide +kernel
theorem dX3_turned_138 : decode cX3_turned 138 = .ok (.aload_n 0, 1) := by decide +kernel
theorem dX3_turned_139 : decode cX3_turned 139 = .ok (.iload_n 1, 1) := by decide +kernel
theorem dX3_turned_140 : decode cX3_turned 140 = .ok (.iload 4, 2) := by decide +kernel
theorem dX3_turned_142 : decode cX3_turned 142 = .ok (.iload_n 3, 1) := by decide +kernel
theorem dX3_turned_143 : decode cX3_turned 143 = .ok (.invokevirtual 113, 3) := by decide +kernel
theorem dX3_turned_146 : decode cX3_turned 146 = .ok (.daload, 1) := by decide +kernel
theorem dX3_turned_147 : decode cX3_turned 147 = .ok (.dastore, 1) := by decide +kernel
theorem dX3_turned_148 : decode cX3_turned 148 = .ok (.iinc 4 1, 3) := by decide +kernel
theorem dX3_turned_151 : decode cX3_turned 151 = .ok (.goto (-66), 3) := by decide +kernel
theorem dX3_turned_154 : decode cX3_turned 154 = .ok (.iinc 3 1, 3) := by decide +kernel
theorem dX3_turned_157 : decode cX3_turned 157 = .ok (.goto (-85), 3) := by decide +kernel
theorem dX3_turned_160 : decode cX3_turned 160 = .ok (.iload_n 2, 1) := by decide +kernel
theorem dX3_turned_161 : decode cX3_turned 161 = .ok (.ireturn, 1) := by decide +kernel
theorem dX3_hasNone_0 : decode cX3_hasNone 0 = .ok (.dload_n 1, 1) := by decide +kernel
theorem dX3_hasNone_1 : decode cX3_hasNone 1 = .ok (.ldc2_w 116, 3) := by decide +kernel
theorem dX3_hasNone_4 : decode cX3_hasNone 4 = .ok (.dcmp .l, 1) := by decide +kernel
theorem dX3_hasNone_5 : decode cX3_hasNone 5 = .ok (.ifCond .gt 11, 3) := by decide +kernel
theorem dX3_hasNone_8 : decode cX3_hasNone 8 = .ok (.dload_n 1, 1) := by decide +kernel
theorem dX3_hasNone_9 : decode cX3_hasNone 9 = .ok (.ldc2_w 118, 3) := by decide +kernel
theorem dX3_hasNone_12 : decode cX3_hasNone 12 = .ok (.dcmp .g, 1) := by decide +kernel
theorem dX3_hasNone_13 : decode cX3_hasNone 13 = .ok (.ifCond .ge 7, 3) := by decide +kernel
theorem dX3_hasNone_16 : decode cX3_hasNone 16 = .ok (.iconst 1, 1) := by decide +kernel
theorem dX3_hasNone_17 : decode cX3_hasNone 17 = .ok (.goto 4, 3) := by decide +kernel
theorem dX3_hasNone_20 : decode cX3_hasNone 20 = .ok (.iconst 0, 1) := by decide +kernel
theorem dX3_hasNone_21 : decode cX3_hasNone 21 = .ok (.istore 5, 2) := by decide +kernel
theorem dX3_hasNone_23 : decode cX3_hasNone 23 = .ok (.dload_n 3, 1) := by decide +kernel
theorem dX3_hasNone_24 : decode cX3_hasNone 24 = .ok (.ldc2_w 116, 3) := by decide +kernel
theorem dX3_hasNone_27 : decode cX3_hasNone 27 = .ok (.dcmp .l, 1) := by decide +kernel
theorem dX3_hasNone_28 : decode cX3_hasNone 28 = .ok (.ifCond .gt 11, 3) := by decide +kernel
theorem dX3_hasNone_31 : decode cX3_hasNone 31 = .ok (.dload_n 3, 1) := by decide +kernel
theorem dX3_hasNone_32 : decode cX3_hasNone 32 = .ok (.ldc2_w 118, 3) := by decide +kernel
theorem dX3_hasNone_35 : decode cX3_hasNone 35 = .ok (.dcmp .g, 1) := by decide +kernel
theorem dX3_hasNone_36 : decode cX3_hasNone 36 = .ok (.ifCond .ge 7, 3) := by decide +kernel
theorem dX3_hasNone_39 : decode cX3_hasNone 39 = .ok (.iconst 1, 1) := by decide +kernel
theorem dX3_hasNone_40 : decode cX3_hasNone 40 = .ok (.goto 4, 3) := by decide +kernel
theorem dX3_hasNone_43 : decode cX3_hasNone 43 = .ok (.iconst 0, 1) := by decide +kernel
theorem dX3_hasNone_44 : decode cX3_hasNone 44 = .ok (.istore 6, 2) := by decide +kernel
theorem dX3_hasNone_46 : decode cX3_hasNone 46 = .ok (.iload_n 0, 1) := by decide +kernel
theorem dX3_hasNone_47 : decode cX3_hasNone 47 = .ok (.tableswitch 188 0 4 #[33, 74, 115, 143, 171], 33) := by decide +kernel
theorem dX3_hasNone_80 : decode cX3_hasNone 80 = .ok (.iload 5, 2) := by decide +kernel
theorem dX3_hasNone_82 : decode cX3_hasNone 82 = .ok (.ifCond .eq 37, 3) := by decide +kernel
theorem dX3_hasNone_85 : decode cX3_hasNone 85 = .ok (.iload 6, 2) := by decide +kernel
theorem dX3_hasNone_87 : decode cX3_hasNone 87 = .ok (.ifCond .eq 32, 3) := by decide +kernel
theorem dX3_hasNone_90 : decode cX3_hasNone 90 = .ok (.dload_n 1, 1) := by decide +kernel
theorem dX3_hasNone_91 : decode cX3_hasNone 91 = .ok (.dconst 0, 1) := by decide +kernel
theorem dX3_hasNone_92 : decode cX3_hasNone 92 = .ok (.dcmp .l, 1) := by decide +kernel
theorem dX3_hasNone_93 : decode cX3_hasNone 93 = .ok (.ifCond .le 7, 3) := by decide +kernel
theorem dX3_hasNone_96 : decode cX3_hasNone 96 = .ok (.iconst 1, 1) := by decide +kernel
theorem dX3_hasNone_97 : decode cX3_hasNone 97 = .ok (.goto 4, 3) := by decide +kernel
theorem dX3_hasNone_100 : decode cX3_hasNone 100 = .ok (.iconst 0, 1) := by decide +kernel
theorem dX3_hasNone_101 : decode cX3_hasNone 101 = .ok (.dload_n 3, 1) := by decide +kernel
theorem dX3_hasNone_102 : decode cX3_hasNone 102 = .ok (.dconst 0, 1) := by decide +kernel
theorem dX3_hasNone_103 : decode cX3_hasNone 103 = .ok (.dcmp .l, 1) := by decide +kernel
theorem dX3_hasNone_104 : decode cX3_hasNone 104 = .ok (.ifCond .le 7, 3) := by decide +kernel
theorem dX3_hasNone_107 : decode cX3_hasNone 107 = .ok (.iconst 1, 1) := by decide +kernel
theorem dX3_hasNone_108 : decode cX3_hasNone 108 = .ok (.goto 4, 3) := by decide +kernel
theorem dX3_hasNone_111 : decode cX3_hasNone 111 = .ok (.iconst 0, 1) := by decide +kernel
theorem dX3_hasNone_112 : decode cX3_hasNone 112 = .ok (.if_icmp .eq 7, 3) := by decide +kernel
theorem dX3_hasNone_115 : decode cX3_hasNone 115 = .ok (.iconst 1, 1) := by decide +kernel
theorem dX3_hasNone_116 : decode cX3_hasNone 116 = .ok (.goto 4, 3) := by decide +kernel
theorem dX3_hasNone_119 : decode cX3_hasNone 119 = .ok (.iconst 0, 1) := by decide +kernel
theorem dX3_hasNone_120 : decode cX3_hasNone 120 = .ok (.ireturn, 1) := by decide +kernel
theorem dX3_hasNone_121 : decode cX3_hasNone 121 = .ok (.iload 5, 2) := by decide +kernel
theorem dX3_hasNone_123 : decode cX3_hasNone 123 = .ok (.ifCond .eq 37, 3) := by decide +kernel
theorem dX3_hasNone_126 : decode cX3_hasNone 126 = .ok (.iload 6, 2) := by decide +kernel
theorem dX3_hasNone_128 : decode cX3_hasNone 128 = .ok (.ifCond .eq 32, 3) := by decide +kernel
theorem dX3_hasNone_131 : decode cX3_hasNone 131 = .ok (.dload_n 1, 1) := by decide +kernel
theorem dX3_hasNone_132 : decode cX3_hasNone 132 = .ok (.dconst 0, 1) := by decide +kernel
theorem dX3_hasNone_133 : decode cX3_hasNone 133 = .ok (.dcmp .l, 1) := by decide +kernel
theorem dX3_hasNone_134 : decode cX3_hasNone 134 = .ok (.ifCond .le 7, 3) := by decide +kernel
theorem dX3_hasNone_137 : decode cX3_hasNone 137 = .ok (.iconst 1, 1) := by decide +kernel
theorem dX3_hasNone_138 : decode cX3_hasNone 138 = .ok (.goto 4, 3) := by decide +kernel
theorem dX3_hasNone_141 : decode cX3_hasNone 141 = .ok (.iconst 0, 1) := by decide +kernel
theorem dX3_hasNone_142 : decode cX3_hasNone 142 = .ok (.dload_n 3, 1) := by decide +kernel
theorem dX3_hasNone_143 : decode cX3_hasNone 143 = .ok (.dconst 0, 1) := by decide +kernel
theorem dX3_hasNone_144 : decode cX3_hasNone 144 = .ok (.dcmp .l, 1) := by decide +kernel
theorem dX3_hasNone_145 : decode cX3_hasNone 145 = .ok (.ifCond .le 7, 3) := by decide +kernel
theorem dX3_hasNone_148 : decode cX3_hasNone 148 = .ok (.iconst 1, 1) := by decide +kernel
theorem dX3_hasNone_149 : decode cX3_hasNone 149 = .ok (.goto 4, 3) := by decide +kernel
theorem dX3_hasNone_152 : decode cX3_hasNone 152 = .ok (.iconst 0, 1) := by decide +kernel
theorem dX3_hasNone_153 : decode cX3_hasNone 153 = .ok (.if_icmp .ne 7, 3) := by decide +kernel
theorem dX3_hasNone_156 : decode cX3_hasNone 156 = .ok (.iconst 1, 1) := by decide +kernel
theorem dX3_hasNone_157 : decode cX3_hasNone 157 = .ok (.goto 4, 3) := by decide +kernel
theorem dX3_hasNone_160 : decode cX3_hasNone 160 = .ok (.iconst 0, 1) := by decide +kernel
theorem dX3_hasNone_161 : decode cX3_hasNone 161 = .ok (.ireturn, 1) := by decide +kernel
theorem dX3_hasNone_162 : decode cX3_hasNone 162 = .ok (.iload 5, 2) := by decide +kernel
theorem dX3_hasNone_164 : decode cX3_hasNone 164 = .ok (.ifCond .eq 9, 3) := by decide +kernel
theorem dX3_hasNone_167 : decode cX3_hasNone 167 = .ok (.dload_n 3, 1) := by decide +kernel
theorem dX3_hasNone_168 : decode cX3_hasNone 168 = .ok (.dconst 0, 1) := by decide +kernel
theorem dX3_hasNone_169 : decode cX3_hasNone 169 = .ok (.dcmp .l, 1) := by decide +kernel
theorem dX3_hasNone_170 : decode cX3_hasNone 170 = .ok (.ifCond .eq 14, 3) := by decide +kernel
theorem dX3_hasNone_173 : decode cX3_hasNone 173 = .ok (.dload_n 1, 1) := by decide +kernel
theorem dX3_hasNone_174 : decode cX3_hasNone 174 = .ok (.dconst 0, 1) := by decide +kernel
theorem dX3_hasNone_175 : decode cX3_hasNone 175 = .ok (.dcmp .l, 1) := by decide +kernel
theorem dX3_hasNone_176 : decode cX3_hasNone 176 = .ok (.ifCond .ne 12, 3) := by decide +kernel
theorem dX3_hasNone_179 : decode cX3_hasNone 179 = .ok (.iload 6, 2) := by decide +kernel
theorem dX3_hasNone_181 : decode cX3_hasNone 181 = .ok (.ifCond .eq 7, 3) := by decide +kernel
theorem dX3_hasNone_184 : decode cX3_hasNone 184 = .ok (.iconst 1, 1) := by decide +kernel
theorem dX3_hasNone_185 : decode cX3_hasNone 185 = .ok (.goto 4, 3) := by decide +kernel
theorem dX3_hasNone_188 : decode cX3_hasNone 188 = .ok (.iconst 0, 1) := by decide +kernel
theorem dX3_hasNone_189 : decode cX3_hasNone 189 = .ok (.ireturn, 1) := by decide +kernel
theorem dX3_hasNone_190 : decode cX3_hasNone 190 = .ok (.iload 5, 2) := by decide +kernel
theorem dX3_hasNone_192 : decode cX3_hasNone 192 = .ok (.ifCond .eq 8, 3) := by decide +kernel
theorem dX3_hasNone_195 : decode cX3_hasNone 195 = .ok (.iload 6, 2) := by decide +kernel
theorem dX3_hasNone_197 : decode cX3_hasNone 197 = .ok (.ifCond .ne 15, 3) := by decide +kernel
theorem dX3_hasNone_200 : decode cX3_hasNone 200 = .ok (.dload_n 1, 1) := by decide +kernel
theorem dX3_hasNone_201 : decode cX3_hasNone 201 = .ok (.dconst 0, 1) := by decide +kernel
theorem dX3_hasNone_202 : decode cX3_hasNone 202 = .ok (.dcmp .l, 1) := by decide +kernel
theorem dX3_hasNone_203 : decode cX3_hasNone 203 = .ok (.ifCond .ne 13, 3) := by decide +kernel
theorem dX3_hasNone_206 : decode cX3_hasNone 206 = .ok (.dload_n 3, 1) := by decide +kernel
theorem dX3_hasNone_207 : decode cX3_hasNone 207 = .ok (.dconst 0, 1) := by decide +kernel
theorem dX3_hasNone_208 : decode cX3_hasNone 208 = .ok (.dcmp .l, 1) := by decide +kernel
theorem dX3_hasNone_209 : decode cX3_hasNone 209 = .ok (.ifCond .ne 7, 3) := by decide +kernel
theorem dX3_hasNone_212 : decode cX3_hasNone 212 = .ok (.iconst 1, 1) := by decide +kernel
theorem dX3_hasNone_213 : decode cX3_hasNone 213 = .ok (.goto 4, 3) := by decide +kernel
theorem dX3_hasNone_216 : decode cX3_hasNone 216 = .ok (.iconst 0, 1) := by decide +kernel
theorem dX3_hasNone_217 : decode cX3_hasNone 217 = .ok (.ireturn, 1) := by decide +kernel
theorem dX3_hasNone_218 : decode cX3_hasNone 218 = .ok (.iload 5, 2) := by decide +kernel
theorem dX3_hasNone_220 : decode cX3_hasNone 220 = .ok (.ifCond .ne 9, 3) := by decide +kernel
theorem dX3_hasNone_223 : decode cX3_hasNone 223 = .ok (.dload_n 3, 1) := by decide +kernel
theorem dX3_hasNone_224 : decode cX3_hasNone 224 = .ok (.dconst 0, 1) := by decide +kernel
theorem dX3_hasNone_225 : decode cX3_hasNone 225 = .ok (.dcmp .l, 1) := by decide +kernel
theorem dX3_hasNone_226 : decode cX3_hasNone 226 = .ok (.ifCond .ne 7, 3) := by decide +kernel
theorem dX3_hasNone_229 : decode cX3_hasNone 229 = .ok (.iconst 1, 1) := by decide +kernel
theorem dX3_hasNone_230 : decode cX3_hasNone 230 = .ok (.goto 4, 3) := by decide +kernel
theorem dX3_hasNone_233 : decode cX3_hasNone 233 = .ok (.iconst 0, 1) := by decide +kernel
theorem dX3_hasNone_234 : decode cX3_hasNone 234 = .ok (.ireturn, 1) := by decide +kernel
theorem dX3_hasNone_235 : decode cX3_hasNone 235 = .ok (.iconst 0, 1) := by decide +kernel
theorem dX3_hasNone_236 : decode cX3_hasNone 236 = .ok (.ireturn, 1) := by decide +kernel
theorem dX3_noNumber_0 : decode cX3_noNumber 0 = .ok (.ldc2_w 120, 3) := by decide +kernel
theorem dX3_noNumber_3 : decode cX3_noNumber 3 = .ok (.invokestatic 122, 3) := by decide +kernel
theorem dX3_noNumber_6 : decode cX3_noNumber 6 = .ok (.dreturn, 1) := by decide +kernel
theorem dX3_reckoned_0 : decode cX3_reckoned 0 = .ok (.dload_n 1, 1) := by decide +kernel
theorem dX3_reckoned_1 : decode cX3_reckoned 1 = .ok (.dload_n 1, 1) := by decide +kernel
theorem dX3_reckoned_2 : decode cX3_reckoned 2 = .ok (.dcmp .l, 1) := by decide +kernel
theorem dX3_reckoned_3 : decode cX3_reckoned 3 = .ok (.ifCond .ne 18, 3) := by decide +kernel
theorem dX3_reckoned_6 : decode cX3_reckoned 6 = .ok (.dload_n 3, 1) := by decide +kernel
theorem dX3_reckoned_7 : decode cX3_reckoned 7 = .ok (.dload_n 3, 1) := by decide +kernel
theorem dX3_reckoned_8 : decode cX3_reckoned 8 = .ok (.dcmp .l, 1) := by decide +kernel
theorem dX3_reckoned_9 : decode cX3_reckoned 9 = .ok (.ifCond .ne 12, 3) := by decide +kernel
theorem dX3_reckoned_12 : decode cX3_reckoned 12 = .ok (.iload_n 0, 1) := by decide +kernel
theorem dX3_reckoned_13 : decode cX3_reckoned 13 = .ok (.dload_n 1, 1) := by decide +kernel
theorem dX3_reckoned_14 : decode cX3_reckoned 14 = .ok (.dload_n 3, 1) := by decide +kernel
theorem dX3_reckoned_15 : decode cX3_reckoned 15 = .ok (.invokestatic 128, 3) := by decide +kernel
theorem dX3_reckoned_18 : decode cX3_reckoned 18 = .ok (.ifCond .eq 9, 3) := by decide +kernel
theorem dX3_reckoned_21 : decode cX3_reckoned 21 = .ok (.invokestatic 132, 3) := by decide +kernel
theorem dX3_reckoned_24 : decode cX3_reckoned 24 = .ok (.goto 16, 3) := by decide +kernel
theorem dX3_reckoned_27 : decode cX3_reckoned 27 = .ok (.iload_n 0, 1) := by decide +kernel
theorem dX3_reckoned_28 : decode cX3_reckoned 28 = .ok (.ifCond .ne 9, 3) := by decide +kernel
theorem dX3_reckoned_31 : decode cX3_reckoned 31 = .ok (.dload_n 1, 1) := by decide +kernel
theorem dX3_reckoned_32 : decode cX3_reckoned 32 = .ok (.dload_n 3, 1) := by decide +kernel
theorem dX3_reckoned_33 : decode cX3_reckoned 33 = .ok (.dadd, 1) := by decide +kernel
theorem dX3_reckoned_34 : decode cX3_reckoned 34 = .ok (.goto 6, 3) := by decide +kernel
theorem dX3_reckoned_37 : decode cX3_reckoned 37 = .ok (.dload_n 1, 1) := by decide +kernel
theorem dX3_reckoned_38 : decode cX3_reckoned 38 = .ok (.dload_n 3, 1) := by decide +kernel
theorem dX3_reckoned_39 : decode cX3_reckoned 39 = .ok (.dmul, 1) := by decide +kernel
theorem dX3_reckoned_40 : decode cX3_reckoned 40 = .ok (.dreturn, 1) := by decide +kernel
theorem dX3_product_0 : decode cX3_product 0 = .ok (.aload_n 0, 1) := by decide +kernel
theorem dX3_product_1 : decode cX3_product 1 = .ok (.iload_n 1, 1) := by decide +kernel
theorem dX3_product_2 : decode cX3_product 2 = .ok (.invokevirtual 79, 3) := by decide +kernel
theorem dX3_product_5 : decode cX3_product 5 = .ok (.ifCond .eq 11, 3) := by decide +kernel
theorem dX3_product_8 : decode cX3_product 8 = .ok (.aload_n 0, 1) := by decide +kernel
theorem dX3_product_9 : decode cX3_product 9 = .ok (.iload_n 2, 1) := by decide +kernel
theorem dX3_product_10 : decode cX3_product 10 = .ok (.invokevirtual 79, 3) := by decide +kernel
theorem dX3_product_13 : decode cX3_product 13 = .ok (.ifCond .ne 6, 3) := by decide +kernel
theorem dX3_product_16 : decode cX3_product 16 = .ok (.ldc 83, 2) := by decide +kernel
theorem dX3_product_18 : decode cX3_product 18 = .ok (.ireturn, 1) := by decide +kernel
theorem dX3_product_19 : decode cX3_product 19 = .ok (.aload_n 0, 1) := by decide +kernel
theorem dX3_product_20 : decode cX3_product 20 = .ok (.getfield 7, 3) := by decide +kernel
theorem dX3_product_23 : decode cX3_product 23 = .ok (.iload_n 1, 1) := by decide +kernel
theorem dX3_product_24 : decode cX3_product 24 = .ok (.iaload, 1) := by decide +kernel
theorem dX3_product_25 : decode cX3_product 25 = .ok (.iconst 3, 1) := by decide +kernel
theorem dX3_product_26 : decode cX3_product 26 = .ok (.if_icmp .eq 48, 3) := by decide +kernel
theorem dX3_product_29 : decode cX3_product 29 = .ok (.aload_n 0, 1) := by decide +kernel
theorem dX3_product_30 : decode cX3_product 30 = .ok (.getfield 7, 3) := by decide +kernel
theorem dX3_product_33 : decode cX3_product 33 = .ok (.iload_n 1, 1) := by decide +kernel
theorem dX3_product_34 : decode cX3_product 34 = .ok (.iaload, 1) := by decide +kernel
theorem dX3_product_35 : decode cX3_product 35 = .ok (.aload_n 0, 1) := by decide +kernel
theorem dX3_product_36 : decode cX3_product 36 = .ok (.getfield 7, 3) := by decide +kernel
theorem dX3_product_39 : decode cX3_product 39 = .ok (.iload_n 2, 1) := by decide +kernel
theorem dX3_product_40 : decode cX3_product 40 = .ok (.iaload, 1) := by decide +kernel
theorem dX3_product_41 : decode cX3_product 41 = .ok (.if_icmp .ne 33, 3) := by decide +kernel
theorem dX3_product_44 : decode cX3_product 44 = .ok (.aload_n 0, 1) := by decide +kernel
theorem dX3_product_45 : decode cX3_product 45 = .ok (.iload_n 1, 1) := by decide +kernel
theorem dX3_product_46 : decode cX3_product 46 = .ok (.invokevirtual 106, 3) := by decide +kernel
theorem dX3_product_49 : decode cX3_product 49 = .ok (.ifCond .eq 25, 3) := by decide +kernel
theorem dX3_product_52 : decode cX3_product 52 = .ok (.aload_n 0, 1) := by decide +kernel
theorem dX3_product_53 : decode cX3_product 53 = .ok (.iload_n 2, 1) := by decide +kernel
theorem dX3_product_54 : decode cX3_product 54 = .ok (.invokevirtual 106, 3) := by decide +kernel
theorem dX3_product_57 : decode cX3_product 57 = .ok (.ifCond .eq 17, 3) := by decide +kernel
theorem dX3_product_60 : decode cX3_product 60 = .ok (.aload_n 0, 1) := by decide +kernel
theorem dX3_product_61 : decode cX3_product 61 = .ok (.iload_n 1, 1) := by decide +kernel
theorem dX3_product_62 : decode cX3_product 62 = .ok (.invokevirtual 103, 3) := by decide +kernel
theorem dX3_product_65 : decode cX3_product 65 = .ok (.aload_n 0, 1) := by decide +kernel
theorem dX3_product_66 : decode cX3_product 66 = .ok (.getfield 13, 3) := by decide +kernel
theorem dX3_product_69 : decode cX3_product 69 = .ok (.iload_n 2, 1) := by decide +kernel
theorem dX3_product_70 : decode cX3_product 70 = .ok (.iaload, 1) := by decide +kernel
theorem dX3_product_71 : decode cX3_product 71 = .ok (.if_icmp .eq 6, 3) := by decide +kernel
theorem dX3_product_74 : decode cX3_product 74 = .ok (.ldc 109, 2) := by decide +kernel
theorem dX3_product_76 : decode cX3_product 76 = .ok (.ireturn, 1) := by decide +kernel
theorem dX3_product_77 : decode cX3_product 77 = .ok (.aload_n 0, 1) := by decide +kernel
theorem dX3_product_78 : decode cX3_product 78 = .ok (.getfield 55, 3) := by decide +kernel
theorem dX3_product_81 : decode cX3_product 81 = .ok (.bipush 16, 2) := by decide +kernel
theorem dX3_product_83 : decode cX3_product 83 = .ok (.if_icmp .ne 6, 3) := by decide +kernel
theorem dX3_product_86 : decode cX3_product 86 = .ok (.ldc 74, 2) := by decide +kernel
theorem dX3_product_88 : decode cX3_product 88 = .ok (.ireturn, 1) := by decide +kernel
theorem dX3_product_89 : decode cX3_product 89 = .ok (.aload_n 0, 1) := by decide +kernel
theorem dX3_product_90 : decode cX3_product 90 = .ok (.invokevirtual 88, 3) := by decide +kernel
theorem dX3_product_93 : decode cX3_product 93 = .ok (.aload_n 0, 1) := by decide +kernel
theorem dX3_product_94 : decode cX3_product 94 = .ok (.aload_n 0, 1) := by decide +kernel
theorem dX3_product_95 : decode cX3_product 95 = .ok (.getfield 7, 3) := by decide +kernel
theorem dX3_product_98 : decode cX3_product 98 = .ok (.iload_n 1, 1) := by decide +kernel
theorem dX3_product_99 : decode cX3_product 99 = .ok (.iaload, 1) := by decide +kernel
theorem dX3_product_100 : decode cX3_product 100 = .ok (.aload_n 0, 1) := by decide +kernel
theorem dX3_product_101 : decode cX3_product 101 = .ok (.getfield 13, 3) := by decide +kernel
theorem dX3_product_104 : decode cX3_product 104 = .ok (.iload_n 1, 1) := by decide +kernel
theorem dX3_product_105 : decode cX3_product 105 = .ok (.iaload, 1) := by decide +kernel
theorem dX3_product_106 : decode cX3_product 106 = .ok (.aload_n 0, 1) := by decide +kernel
theorem dX3_product_107 : decode cX3_product 107 = .ok (.iload_n 2, 1) := by decide +kernel
theorem dX3_product_108 : decode cX3_product 108 = .ok (.invokevirtual 103, 3) := by decide +kernel
theorem dX3_product_111 : decode cX3_product 111 = .ok (.invokevirtual 110, 3) := by decide +kernel
theorem dX3_product_114 : decode cX3_product 114 = .ok (.istore_n 3, 1) := by decide +kernel
theorem dX3_product_115 : decode cX3_product 115 = .ok (.iconst 0, 1) := by decide +kernel
theorem dX3_product_116 : decode cX3_product 116 = .ok (.istore 4, 2) := by decide +kernel
theorem dX3_product_118 : decode cX3_product 118 = .ok (.iload 4, 2) := by decide +kernel
theorem dX3_product_120 : decode cX3_product 120 = .ok (.aload_n 0, 1) := by decide +kernel
theorem dX3_product_121 : decode cX3_product 121 = .ok (.getfield 13, 3) := by decide +kernel
theorem dX3_product_124 : decode cX3_product 124 = .ok (.iload_n 1, 1) := by decide +kernel
theorem dX3_product_125 : decode cX3_product 125 = .ok (.iaload, 1) := by decide +kernel
theorem dX3_product_126 : decode cX3_product 126 = .ok (.if_icmp .ge 182, 3) := by decide +kernel
theorem dX3_product_129 : decode cX3_product 129 = .ok (.iconst 0, 1) := by decide +kernel
theorem dX3_product_130 : decode cX3_product 130 = .ok (.istore 5, 2) := by decide +kernel
theorem dX3_product_132 : decode cX3_product 132 = .ok (.iload 5, 2) := by decide +kernel
theorem dX3_product_134 : decode cX3_product 134 = .ok (.aload_n 0, 1) := by decide +kernel
theorem dX3_product_135 : decode cX3_product 135 = .ok (.iload_n 2, 1) := by decide +kernel
theorem dX3_product_136 : decode cX3_product 136 = .ok (.invokevirtual 103, 3) := by decide +kernel
theorem dX3_product_139 : decode cX3_product 139 = .ok (.if_icmp .ge 163, 3) := by decide +kernel
theorem dX3_product_142 : decode cX3_product 142 = .ok (.iconst 0, 1) := by decide +kernel
theorem dX3_product_143 : decode cX3_product 143 = .ok (.istore 6, 2) := by decide +kernel
theorem dX3_product_145 : decode cX3_product 145 = .ok (.dconst 0, 1) := by decide +kernel
theorem dX3_product_146 : decode cX3_product 146 = .ok (.dstore 7, 2) := by decide +kernel
theorem dX3_product_148 : decode cX3_product 148 = .ok (.iconst 0, 1) := by decide +kernel
theorem dX3_product_149 : decode cX3_product 149 = .ok (.istore 9, 2) := by decide +kernel
theorem dX3_product_151 : decode cX3_product 151 = .ok (.iload 9, 2) := by decide +kernel
theorem dX3_product_153 : decode cX3_product 153 = .ok (.aload_n 0, 1) := by decide +kernel
theorem dX3_product_154 : decode cX3_product 154 = .ok (.getfield 13, 3) := by decide +kernel
theorem dX3_product_157 : decode cX3_product 157 = .ok (.iload_n 2, 1) := by decide +kernel
theorem dX3_product_158 : decode cX3_product 158 = .ok (.iaload, 1) := by decide +kernel
theorem dX3_product_159 : decode cX3_product 159 = .ok (.if_icmp .ge 83, 3) := by decide +kernel
theorem dX3_product_162 : decode cX3_product 162 = .ok (.iload 6, 2) := by decide +kernel
theorem dX3_product_164 : decode cX3_product 164 = .ok (.aload_n 0, 1) := by decide +kernel
theorem dX3_product_165 : decode cX3_product 165 = .ok (.getfield 22, 3) := by decide +kernel
theorem dX3_product_168 : decode cX3_product 168 = .ok (.aload_n 0, 1) := by decide +kernel
theorem dX3_product_169 : decode cX3_product 169 = .ok (.iload_n 1, 1) := by decide +kernel
theorem dX3_product_170 : decode cX3_product 170 = .ok (.iload 4, 2) := by decide +kernel
theorem dX3_product_172 : decode cX3_product 172 = .ok (.iload 9, 2) := by decide +kernel
theorem dX3_product_174 : decode cX3_product 174 = .ok (.invokevirtual 113, 3) := by decide +kernel
theorem dX3_product_177 : decode cX3_product 177 = .ok (.iaload, 1) := by decide +kernel
theorem dX3_product_178 : decode cX3_product 178 = .ok (.aload_n 0, 1) := by decide +kernel
theorem dX3_product_179 : decode cX3_product 179 = .ok (.getfield 22, 3) := by decide +kernel
theorem dX3_product_182 : decode cX3_product 182 = .ok (.aload_n 0, 1) := by decide +kernel
theorem dX3_product_183 : decode cX3_product 183 = .ok (.iload_n 2, 1) := by decide +kernel
theorem dX3_product_184 : decode cX3_product 184 = .ok (.iload 9, 2) := by decide +kernel
theorem dX3_product_186 : decode cX3_product 186 = .ok (.iload 5, 2) := by decide +kernel
theorem dX3_product_188 : decode cX3_product 188 = .ok (.invokevirtual 113, 3) := by decide +kernel
theorem dX3_product_191 : decode cX3_product 191 = .ok (.iaload, 1) := by decide +kernel
theorem dX3_product_192 : decode cX3_product 192 = .ok (.imul, 1) := by decide +kernel
theorem dX3_product_193 : decode cX3_product 193 = .ok (.iadd, 1) := by decide +kernel
theorem dX3_product_194 : decode cX3_product 194 = .ok (.istore 6, 2) := by decide +kernel
theorem dX3_product_196 : decode cX3_product 196 = .ok (.iconst 0, 1) := by decide +kernel
theorem dX3_product_197 : decode cX3_product 197 = .ok (.dload 7, 2) := by decide +kernel
theorem dX3_product_199 : decode cX3_product 199 = .ok (.iconst 2, 1) := by decide +kernel
theorem dX3_product_200 : decode cX3_product 200 = .ok (.aload_n 0, 1) := by decide +kernel
theorem dX3_product_201 : decode cX3_product 201 = .ok (.getfield 25, 3) := by decide +kernel
theorem dX3_product_204 : decode cX3_product 204 = .ok (.aload_n 0, 1) := by decide +kernel
theorem dX3_product_205 : decode cX3_product 205 = .ok (.iload_n 1, 1) := by decide +kernel
theorem dX3_product_206 : decode cX3_product 206 = .ok (.iload 4, 2) := by decide +kernel
theorem dX3_product_208 : decode cX3_product 208 = .ok (.iload 9, 2) := by decide +kernel
theorem dX3_product_210 : decode cX3_product 210 = .ok (.invokevirtual 113, 3) := by decide +kernel
theorem dX3_product_213 : decode cX3_product 213 = .ok (.daload, 1) := by decide +kernel
theorem dX3_product_214 : decode cX3_product 214 = .ok (.aload_n 0, 1) := by decide +kernel
theorem dX3_product_215 : decode cX3_product 215 = .ok (.getfield 25, 3) := by decide +kernel
theorem dX3_product_218 : decode cX3_product 218 = .ok (.aload_n 0, 1) := by decide +kernel
theorem dX3_product_219 : decode cX3_product 219 = .ok (.iload_n 2, 1) := by decide +kernel
theorem dX3_product_220 : decode cX3_product 220 = .ok (.iload 9, 2) := by decide +kernel
theorem dX3_product_222 : decode cX3_product 222 = .ok (.iload 5, 2) := by decide +kernel
theorem dX3_product_224 : decode cX3_product 224 = .ok (.invokevirtual 113, 3) := by decide +kernel
theorem dX3_product_227 : decode cX3_product 227 = .ok (.daload, 1) := by decide +kernel
theorem dX3_product_228 : decode cX3_product 228 = .ok (.invokestatic 136, 3) := by decide +kernel
theorem dX3_product_231 : decode cX3_product 231 = .ok (.invokestatic 136, 3) := by decide +kernel
theorem dX3_product_234 : decode cX3_product 234 = .ok (.dstore 7, 2) := by decide +kernel
theorem dX3_product_236 : decode cX3_product 236 = .ok (.iinc 9 1, 3) := by decide +kernel
theorem dX3_product_239 : decode cX3_product 239 = .ok (.goto (-88), 3) := by decide +kernel
theorem dX3_product_242 : decode cX3_product 242 = .ok (.aload_n 0, 1) := by decide +kernel
theorem dX3_product_243 : decode cX3_product 243 = .ok (.getfield 22, 3) := by decide +kernel
theorem dX3_product_246 : decode cX3_product 246 = .ok (.aload_n 0, 1) := by decide +kernel
theorem dX3_product_247 : decode cX3_product 247 = .ok (.iload_n 3, 1) := by decide +kernel
theorem dX3_product_248 : decode cX3_product 248 = .ok (.iload 4, 2) := by decide +kernel
theorem dX3_product_250 : decode cX3_product 250 = .ok (.iload 5, 2) := by decide +kernel
theorem dX3_product_252 : decode cX3_product 252 = .ok (.invokevirtual 113, 3) := by decide +kernel
theorem dX3_product_255 : decode cX3_product 255 = .ok (.aload_n 0, 1) := by decide +kernel
theorem dX3_product_256 : decode cX3_product 256 = .ok (.getfield 7, 3) := by decide +kernel
theorem dX3_product_259 : decode cX3_product 259 = .ok (.iload_n 1, 1) := by decide +kernel
theorem dX3_product_260 : decode cX3_product 260 = .ok (.iaload, 1) := by decide +kernel
theorem dX3_product_261 : decode cX3_product 261 = .ok (.ifCond .ne 16, 3) := by decide +kernel
theorem dX3_product_264 : decode cX3_product 264 = .ok (.iload 6, 2) := by decide +kernel
theorem dX3_product_266 : decode cX3_product 266 = .ok (.ifCond .le 7, 3) := by decide +kernel
theorem dX3_product_269 : decode cX3_product 269 = .ok (.iconst 1, 1) := by decide +kernel
theorem dX3_product_270 : decode cX3_product 270 = .ok (.goto 9, 3) := by decide +kernel
theorem dX3_product_273 : decode cX3_product 273 = .ok (.iconst 0, 1) := by decide +kernel
theorem dX3_product_274 : decode cX3_product 274 = .ok (.goto 5, 3) := by decide +kernel
theorem dX3_product_277 : decode cX3_product 277 = .ok (.iload 6, 2) := by decide +kernel
theorem dX3_product_279 : decode cX3_product 279 = .ok (.iastore, 1) := by decide +kernel
theorem dX3_product_280 : decode cX3_product 280 = .ok (.aload_n 0, 1) := by decide +kernel
theorem dX3_product_281 : decode cX3_product 281 = .ok (.getfield 25, 3) := by decide +kernel
theorem dX3_product_284 : decode cX3_product 284 = .ok (.aload_n 0, 1) := by decide +kernel
theorem dX3_product_285 : decode cX3_product 285 = .ok (.iload_n 3, 1) := by decide +kernel
theorem dX3_product_286 : decode cX3_product 286 = .ok (.iload 4, 2) := by decide +kernel
theorem dX3_product_288 : decode cX3_product 288 = .ok (.iload 5, 2) := by decide +kernel
theorem dX3_product_290 : decode cX3_product 290 = .ok (.invokevirtual 113, 3) := by decide +kernel
theorem dX3_product_293 : decode cX3_product 293 = .ok (.dload 7, 2) := by decide +kernel
theorem dX3_product_295 : decode cX3_product 295 = .ok (.dastore, 1) := by decide +kernel
theorem dX3_product_296 : decode cX3_product 296 = .ok (.iinc 5 1, 3) := by decide +kernel
theorem dX3_product_299 : decode cX3_product 299 = .ok (.goto (-167), 3) := by decide +kernel
theorem dX3_product_302 : decode cX3_product 302 = .ok (.iinc 4 1, 3) := by decide +kernel
theorem dX3_product_305 : decode cX3_product 305 = .ok (.goto (-187), 3) := by decide +kernel
theorem dX3_product_308 : decode cX3_product 308 = .ok (.iload_n 3, 1) := by decide +kernel
theorem dX3_product_309 : decode cX3_product 309 = .ok (.ireturn, 1) := by decide +kernel
theorem dX3_distances_0 : decode cX3_distances 0 = .ok (.aload_n 0, 1) := by decide +kernel
theorem dX3_distances_1 : decode cX3_distances 1 = .ok (.iload_n 1, 1) := by decide +kernel
theorem dX3_distances_2 : decode cX3_distances 2 = .ok (.invokevirtual 79, 3) := by decide +kernel
theorem dX3_distances_5 : decode cX3_distances 5 = .ok (.ifCond .ne 6, 3) := by decide +kernel
theorem dX3_distances_8 : decode cX3_distances 8 = .ok (.ldc 83, 2) := by decide +kernel
theorem dX3_distances_10 : decode cX3_distances 10 = .ok (.ireturn, 1) := by decide +kernel
theorem dX3_distances_11 : decode cX3_distances 11 = .ok (.aload_n 0, 1) := by decide +kernel
theorem dX3_distances_12 : decode cX3_distances 12 = .ok (.getfield 7, 3) := by decide +kernel
theorem dX3_distances_15 : decode cX3_distances 15 = .ok (.iload_n 1, 1) := by decide +kernel
theorem dX3_distances_16 : decode cX3_distances 16 = .ok (.iaload, 1) := by decide +kernel
theorem dX3_distances_17 : decode cX3_distances 17 = .ok (.ifCond .ne 13, 3) := by decide +kernel
theorem dX3_distances_20 : decode cX3_distances 20 = .ok (.aload_n 0, 1) := by decide +kernel
theorem dX3_distances_21 : decode cX3_distances 21 = .ok (.iload_n 1, 1) := by decide +kernel
theorem dX3_distances_22 : decode cX3_distances 22 = .ok (.invokevirtual 100, 3) := by decide +kernel
theorem dX3_distances_25 : decode cX3_distances 25 = .ok (.ldc 65, 2) := by decide +kernel
theorem dX3_distances_27 : decode cX3_distances 27 = .ok (.if_icmp .eq 6, 3) := by decide +kernel
theorem dX3_distances_30 : decode cX3_distances 30 = .ok (.ldc 109, 2) := by decide +kernel
theorem dX3_distances_32 : decode cX3_distances 32 = .ok (.ireturn, 1) := by decide +kernel
theorem dX3_distances_33 : decode cX3_distances 33 = .ok (.aload_n 0, 1) := by decide +kernel
theorem dX3_distances_34 : decode cX3_distances 34 = .ok (.getfield 55, 3) := by decide +kernel
theorem dX3_distances_37 : decode cX3_distances 37 = .ok (.bipush 16, 2) := by decide +kernel
theorem dX3_distances_39 : decode cX3_distances 39 = .ok (.if_icmp .ne 6, 3) := by decide +kernel
theorem dX3_distances_42 : decode cX3_distances 42 = .ok (.ldc 74, 2) := by decide +kernel
theorem dX3_distances_44 : decode cX3_distances 44 = .ok (.ireturn, 1) := by decide +kernel
theorem dX3_distances_45 : decode cX3_distances 45 = .ok (.aload_n 0, 1) := by decide +kernel
theorem dX3_distances_46 : decode cX3_distances 46 = .ok (.invokevirtual 88, 3) := by decide +kernel
theorem dX3_distances_49 : decode cX3_distances 49 = .ok (.aload_n 0, 1) := by decide +kernel
theorem dX3_distances_50 : decode cX3_distances 50 = .ok (.getfield 13, 3) := by decide +kernel
theorem dX3_distances_53 : decode cX3_distances 53 = .ok (.iload_n 1, 1) := by decide +kernel
theorem dX3_distances_54 : decode cX3_distances 54 = .ok (.iaload, 1) := by decide +kernel
theorem dX3_distances_55 : decode cX3_distances 55 = .ok (.istore_n 2, 1) := by decide +kernel
theorem dX3_distances_56 : decode cX3_distances 56 = .ok (.aload_n 0, 1) := by decide +kernel
theorem dX3_distances_57 : decode cX3_distances 57 = .ok (.iconst 1, 1) := by decide +kernel
theorem dX3_distances_58 : decode cX3_distances 58 = .ok (.iload_n 2, 1) := by decide +kernel
theorem dX3_distances_59 : decode cX3_distances 59 = .ok (.iload_n 2, 1) := by decide +kernel
theorem dX3_distances_60 : decode cX3_distances 60 = .ok (.invokevirtual 110, 3) := by decide +kernel
theorem dX3_distances_63 : decode cX3_distances 63 = .ok (.istore_n 3, 1) := by decide +kernel
theorem dX3_distances_64 : decode cX3_distances 64 = .ok (.iconst 0, 1) := by decide +kernel
theorem dX3_distances_65 : decode cX3_distances 65 = .ok (.istore 4, 2) := by decide +kernel
theorem dX3_distances_67 : decode cX3_distances 67 = .ok (.iload 4, 2) := by decide +kernel
theorem dX3_distances_69 : decode cX3_distances 69 = .ok (.iload_n 2, 1) := by decide +kernel
theorem dX3_distances_70 : decode cX3_distances 70 = .ok (.if_icmp .ge 197, 3) := by decide +kernel
theorem dX3_distances_73 : decode cX3_distances 73 = .ok (.iconst 0, 1) := by decide +kernel
theorem dX3_distances_74 : decode cX3_distances 74 = .ok (.istore 5, 2) := by decide +kernel
theorem dX3_distances_76 : decode cX3_distances 76 = .ok (.iload 5, 2) := by decide +kernel
theorem dX3_distances_78 : decode cX3_distances 78 = .ok (.iload_n 2, 1) := by decide +kernel
theorem dX3_distances_79 : decode cX3_distances 79 = .ok (.if_icmp .ge 35, 3) := by decide +kernel
theorem dX3_distances_82 : decode cX3_distances 82 = .ok (.aload_n 0, 1) := by decide +kernel
theorem dX3_distances_83 : decode cX3_distances 83 = .ok (.getfield 22, 3) := by decide +kernel
theorem dX3_distances_86 : decode cX3_distances 86 = .ok (.aload_n 0, 1) := by decide +kernel
theorem dX3_distances_87 : decode cX3_distances 87 = .ok (.iload_n 3, 1) := by decide +kernel
theorem dX3_distances_88 : decode cX3_distances 88 = .ok (.iload 4, 2) := by decide +kernel
theorem dX3_distances_90 : decode cX3_distances 90 = .ok (.iload 5, 2) := by decide +kernel
theorem dX3_distances_92 : decode cX3_distances 92 = .ok (.invokevirtual 113, 3) := by decide +kernel
theorem dX3_distances_95 : decode cX3_distances 95 = .ok (.iload 4, 2) := by decide +kernel
theorem dX3_distances_97 : decode cX3_distances 97 = .ok (.iload 5, 2) := by decide +kernel
theorem dX3_distances_99 : decode cX3_distances 99 = .ok (.if_icmp .ne 7, 3) := by decide +kernel
theorem dX3_distances_102 : decode cX3_distances 102 = .ok (.iconst 0, 1) := by decide +kernel
theorem dX3_distances_103 : decode cX3_distances 103 = .ok (.goto 4, 3) := by decide +kernel
theorem dX3_distances_106 : decode cX3_distances 106 = .ok (.iconst (-1), 1) := by decide +kernel
theorem dX3_distances_107 : decode cX3_distances 107 = .ok (.iastore, 1) := by decide +kernel
theorem dX3_distances_108 : decode cX3_distances 108 = .ok (.iinc 5 1, 3) := by decide +kernel
theorem dX3_distances_111 : decode cX3_distances 111 = .ok (.goto (-35), 3) := by decide +kernel
theorem dX3_distances_114 : decode cX3_distances 114 = .ok (.iconst 0, 1) := by decide +kernel
theorem dX3_distances_115 : decode cX3_distances 115 = .ok (.istore 5, 2) := by decide +kernel
theorem dX3_distances_117 : decode cX3_distances 117 = .ok (.iload 5, 2) := by decide +kernel
theorem dX3_distances_119 : decode cX3_distances 119 = .ok (.iload_n 2, 1) := by decide +kernel
theorem dX3_distances_120 : decode cX3_distances 120 = .ok (.if_icmp .ge 141, 3) := by decide +kernel
theorem dX3_distances_123 : decode cX3_distances 123 = .ok (.iconst 0, 1) := by decide +kernel
theorem dX3_distances_124 : decode cX3_distances 124 = .ok (.istore 6, 2) := by decide +kernel
theorem dX3_distances_126 : decode cX3_distances 126 = .ok (.iload 6, 2) := by decide +kernel
theorem dX3_distances_128 : decode cX3_distances 128 = .ok (.iload_n 2, 1) := by decide +kernel
theorem dX3_distances_129 : decode cX3_distances 129 = .ok (.if_icmp .ge 126, 3) := by decide +kernel
theorem dX3_distances_132 : decode cX3_distances 132 = .ok (.iconst 0, 1) := by decide +kernel
theorem dX3_distances_133 : decode cX3_distances 133 = .ok (.istore 7, 2) := by decide +kernel
theorem dX3_distances_135 : decode cX3_distances 135 = .ok (.iload 7, 2) := by decide +kernel
theorem dX3_distances_137 : decode cX3_distances 137 = .ok (.iload_n 2, 1) := by decide +kernel
theorem dX3_distances_138 : decode cX3_distances 138 = .ok (.if_icmp .ge 111, 3) := by decide +kernel
theorem dX3_distances_141 : decode cX3_distances 141 = .ok (.aload_n 0, 1) := by decide +kernel
theorem dX3_distances_142 : decode cX3_distances 142 = .ok (.getfield 22, 3) := by decide +kernel
theorem dX3_distances_145 : decode cX3_distances 145 = .ok (.aload_n 0, 1) := by decide +kernel
theorem dX3_distances_146 : decode cX3_distances 146 = .ok (.iload_n 3, 1) := by decide +kernel
theorem dX3_distances_147 : decode cX3_distances 147 = .ok (.iload 4, 2) := by decide +kernel
theorem dX3_distances_149 : decode cX3_distances 149 = .ok (.iload 6, 2) := by decide +kernel
theorem dX3_distances_151 : decode cX3_distances 151 = .ok (.invokevirtual 113, 3) := by decide +kernel
theorem dX3_distances_154 : decode cX3_distances 154 = .ok (.iaload, 1) := by decide +kernel
theorem dX3_distances_155 : decode cX3_distances 155 = .ok (.iload 5, 2) := by decide +kernel
theorem dX3_distances_157 : decode cX3_distances 157 = .ok (.if_icmp .ne 92, 3) := by decide +kernel
theorem dX3_distances_160 : decode cX3_distances 160 = .ok (.aload_n 0, 1) := by decide +kernel
theorem dX3_distances_161 : decode cX3_distances 161 = .ok (.getfield 22, 3) := by decide +kernel
theorem dX3_distances_164 : decode cX3_distances 164 = .ok (.aload_n 0, 1) := by decide +kernel
theorem dX3_distances_165 : decode cX3_distances 165 = .ok (.iload_n 1, 1) := by decide +kernel
theorem dX3_distances_166 : decode cX3_distances 166 = .ok (.iload 6, 2) := by decide +kernel
theorem dX3_distances_168 : decode cX3_distances 168 = .ok (.iload 7, 2) := by decide +kernel
theorem dX3_distances_170 : decode cX3_distances 170 = .ok (.invokevirtual 113, 3) := by decide +kernel
theorem dX3_distances_173 : decode cX3_distances 173 = .ok (.iaload, 1) := by decide +kernel
theorem dX3_distances_174 : decode cX3_distances 174 = .ok (.iconst 1, 1) := by decide +kernel
theorem dX3_distances_175 : decode cX3_distances 175 = .ok (.if_icmp .ne 25, 3) := by decide +kernel
theorem dX3_distances_178 : decode cX3_distances 178 = .ok (.aload_n 0, 1) := by decide +kernel
theorem dX3_distances_179 : decode cX3_distances 179 = .ok (.getfield 22, 3) := by decide +kernel
theorem dX3_distances_182 : decode cX3_distances 182 = .ok (.aload_n 0, 1) := by decide +kernel
theorem dX3_distances_183 : decode cX3_distances 183 = .ok (.iload_n 3, 1) := by decide +kernel
theorem dX3_distances_184 : decode cX3_distances 184 = .ok (.iload 4, 2) := by decide +kernel
theorem dX3_distances_186 : decode cX3_distances 186 = .ok (.iload 7, 2) := by decide +kernel
theorem dX3_distances_188 : decode cX3_distances 188 = .ok (.invokevirtual 113, 3) := by decide +kernel
theorem dX3_distances_191 : decode cX3_distances 191 = .ok (.iaload, 1) := by decide +kernel
theorem dX3_distances_192 : decode cX3_distances 192 = .ok (.iconst (-1), 1) := by decide +kernel
theorem dX3_distances_193 : decode cX3_distances 193 = .ok (.if_icmp .ne 7, 3) := by decide +kernel
theorem dX3_distances_196 : decode cX3_distances 196 = .ok (.iconst 1, 1) := by decide +kernel
theorem dX3_distances_197 : decode cX3_distances 197 = .ok (.goto 4, 3) := by decide +kernel
theorem dX3_distances_200 : decode cX3_distances 200 = .ok (.iconst 0, 1) := by decide +kernel
theorem dX3_distances_201 : decode cX3_distances 201 = .ok (.istore 8, 2) := by decide +kernel
theorem dX3_distances_203 : decode cX3_distances 203 = .ok (.aload_n 0, 1) := by decide +kernel
theorem dX3_distances_204 : decode cX3_distances 204 = .ok (.getfield 22, 3) := by decide +kernel
theorem dX3_distances_207 : decode cX3_distances 207 = .ok (.aload_n 0, 1) := by decide +kernel
theorem dX3_distances_208 : decode cX3_distances 208 = .ok (.iload_n 3, 1) := by decide +kernel
theorem dX3_distances_209 : decode cX3_distances 209 = .ok (.iload 4, 2) := by decide +kernel
theorem dX3_distances_211 : decode cX3_distances 211 = .ok (.iload 7, 2) := by decide +kernel
theorem dX3_distances_213 : decode cX3_distances 213 = .ok (.invokevirtual 113, 3) := by decide +kernel
theorem dX3_distances_216 : decode cX3_distances 216 = .ok (.iload 8, 2) := by decide +kernel
theorem dX3_distances_218 : decode cX3_distances 218 = .ok (.ifCond .eq 10, 3) := by decide +kernel
theorem dX3_distances_221 : decode cX3_distances 221 = .ok (.iload 5, 2) := by decide +kernel
theorem dX3_distances_223 : decode cX3_distances 223 = .ok (.iconst 1, 1) := by decide +kernel
theorem dX3_distances_224 : decode cX3_distances 224 = .ok (.iadd, 1) := by decide +kernel
theorem dX3_distances_225 : decode cX3_distances 225 = .ok (.goto 17, 3) := by decide +kernel
theorem dX3_distances_228 : decode cX3_distances 228 = .ok (.aload_n 0, 1) := by decide +kernel
theorem dX3_distances_229 : decode cX3_distances 229 = .ok (.getfield 22, 3) := by decide +kernel
theorem dX3_distances_232 : decode cX3_distances 232 = .ok (.aload_n 0, 1) := by decide +kernel
theorem dX3_distances_233 : decode cX3_distances 233 = .ok (.iload_n 3, 1) := by decide +kernel
theorem dX3_distances_234 : decode cX3_distances 234 = .ok (.iload 4, 2) := by decide +kernel
theorem dX3_distances_236 : decode cX3_distances 236 = .ok (.iload 7, 2) := by decide +kernel
theorem dX3_distances_238 : decode cX3_distances 238 = .ok (.invokevirtual 113, 3) := by decide +kernel
theorem dX3_distances_241 : decode cX3_distances 241 = .ok (.iaload, 1) := by decide +kernel
theorem dX3_distances_242 : decode cX3_distances 242 = .ok (.iastore, 1) := by decide +kernel
theorem dX3_distances_243 : decode cX3_distances 243 = .ok (.iinc 7 1, 3) := by decide +kernel
theorem dX3_distances_246 : decode cX3_distances 246 = .ok (.goto (-111), 3) := by decide +kernel
theorem dX3_distances_249 : decode cX3_distances 249 = .ok (.iinc 6 1, 3) := by decide +kernel
theorem dX3_distances_252 : decode cX3_distances 252 = .ok (.goto (-126), 3) := by decide +kernel
theorem dX3_distances_255 : decode cX3_distances 255 = .ok (.iinc 5 1, 3) := by decide +kernel
theorem dX3_distances_258 : decode cX3_distances 258 = .ok (.goto (-141), 3) := by decide +kernel
theorem dX3_distances_261 : decode cX3_distances 261 = .ok (.iinc 4 1, 3) := by decide +kernel
theorem dX3_distances_264 : decode cX3_distances 264 = .ok (.goto (-197), 3) := by decide +kernel
theorem dX3_distances_267 : decode cX3_distances 267 = .ok (.iload_n 3, 1) := by decide +kernel
theorem dX3_distances_268 : decode cX3_distances 268 = .ok (.ireturn, 1) := by decide +kernel
theorem dX3_pack_0 : decode cX3_pack 0 = .ok (.aload_n 0, 1) := by decide +kernel
theorem dX3_pack_1 : decode cX3_pack 1 = .ok (.iload_n 1, 1) := by decide +kernel
theorem dX3_pack_2 : decode cX3_pack 2 = .ok (.invokevirtual 79, 3) := by decide +kernel
theorem dX3_pack_5 : decode cX3_pack 5 = .ok (.ifCond .ne 6, 3) := by decide +kernel
theorem dX3_pack_8 : decode cX3_pack 8 = .ok (.ldc 83, 2) := by decide +kernel
theorem dX3_pack_10 : decode cX3_pack 10 = .ok (.ireturn, 1) := by decide +kernel
theorem dX3_pack_11 : decode cX3_pack 11 = .ok (.aload_n 0, 1) := by decide +kernel
theorem dX3_pack_12 : decode cX3_pack 12 = .ok (.getfield 7, 3) := by decide +kernel
theorem dX3_pack_15 : decode cX3_pack 15 = .ok (.iload_n 1, 1) := by decide +kernel
theorem dX3_pack_16 : decode cX3_pack 16 = .ok (.iaload, 1) := by decide +kernel
theorem dX3_pack_17 : decode cX3_pack 17 = .ok (.ifCond .eq 6, 3) := by decide +kernel
theorem dX3_pack_20 : decode cX3_pack 20 = .ok (.ldc 109, 2) := by decide +kernel
theorem dX3_pack_22 : decode cX3_pack 22 = .ok (.ireturn, 1) := by decide +kernel
theorem dX3_pack_23 : decode cX3_pack 23 = .ok (.iconst 0, 1) := by decide +kernel
theorem dX3_pack_24 : decode cX3_pack 24 = .ok (.istore_n 2, 1) := by decide +kernel
theorem dX3_pack_25 : decode cX3_pack 25 = .ok (.iload_n 2, 1) := by decide +kernel
theorem dX3_pack_26 : decode cX3_pack 26 = .ok (.aload_n 0, 1) := by decide +kernel
theorem dX3_pack_27 : decode cX3_pack 27 = .ok (.getfield 13, 3) := by decide +kernel
theorem dX3_pack_30 : decode cX3_pack 30 = .ok (.iload_n 1, 1) := by decide +kernel
theorem dX3_pack_31 : decode cX3_pack 31 = .ok (.iaload, 1) := by decide +kernel
theorem dX3_pack_32 : decode cX3_pack 32 = .ok (.if_icmp .ge 29, 3) := by decide +kernel
theorem dX3_pack_35 : decode cX3_pack 35 = .ok (.aload_n 0, 1) := by decide +kernel
theorem dX3_pack_36 : decode cX3_pack 36 = .ok (.getfield 16, 3) := by decide +kernel
theorem dX3_pack_39 : decode cX3_pack 39 = .ok (.bipush 12, 2) := by decide +kernel
theorem dX3_pack_41 : decode cX3_pack 41 = .ok (.iload_n 1, 1) := by decide +kernel
theorem dX3_pack_42 : decode cX3_pack 42 = .ok (.imul, 1) := by decide +kernel
theorem dX3_pack_43 : decode cX3_pack 43 = .ok (.iload_n 2, 1) := by decide +kernel
theorem dX3_pack_44 : decode cX3_pack 44 = .ok (.iadd, 1) := by decide +kernel
theorem dX3_pack_45 : decode cX3_pack 45 = .ok (.iaload, 1) := by decide +kernel
theorem dX3_pack_46 : decode cX3_pack 46 = .ok (.ifCond .ge 9, 3) := by decide +kernel
theorem dX3_pack_49 : decode cX3_pack 49 = .ok (.aload_n 0, 1) := by decide +kernel
theorem dX3_pack_50 : decode cX3_pack 50 = .ok (.iconst 1, 1) := by decide +kernel
theorem dX3_pack_51 : decode cX3_pack 51 = .ok (.invokevirtual 75, 3) := by decide +kernel
theorem dX3_pack_54 : decode cX3_pack 54 = .ok (.ireturn, 1) := by decide +kernel
theorem dX3_pack_55 : decode cX3_pack 55 = .ok (.iinc 2 1, 3) := by decide +kernel
theorem dX3_pack_58 : decode cX3_pack 58 = .ok (.goto (-33), 3) := by decide +kernel
theorem dX3_pack_61 : decode cX3_pack 61 = .ok (.iconst 0, 1) := by decide +kernel
theorem dX3_pack_62 : decode cX3_pack 62 = .ok (.istore_n 2, 1) := by decide +kernel
theorem dX3_pack_63 : decode cX3_pack 63 = .ok (.iload_n 2, 1) := by decide +kernel
theorem dX3_pack_64 : decode cX3_pack 64 = .ok (.bipush 8, 2) := by decide +kernel
theorem dX3_pack_66 : decode cX3_pack 66 = .ok (.if_icmp .ge 16, 3) := by decide +kernel
theorem dX3_pack_69 : decode cX3_pack 69 = .ok (.aload_n 0, 1) := by decide +kernel
theorem dX3_pack_70 : decode cX3_pack 70 = .ok (.getfield 32, 3) := by decide +kernel
theorem dX3_pack_73 : decode cX3_pack 73 = .ok (.iload_n 2, 1) := by decide +kernel
theorem dX3_pack_74 : decode cX3_pack 74 = .ok (.iconst 0, 1) := by decide +kernel
theorem dX3_pack_75 : decode cX3_pack 75 = .ok (.iastore, 1) := by decide +kernel
theorem dX3_pack_76 : decode cX3_pack 76 = .ok (.iinc 2 1, 3) := by decide +kernel
theorem dX3_pack_79 : decode cX3_pack 79 = .ok (.goto (-16), 3) := by decide +kernel
theorem dX3_pack_82 : decode cX3_pack 82 = .ok (.iconst 0, 1) := by decide +kernel
theorem dX3_pack_83 : decode cX3_pack 83 = .ok (.istore_n 2, 1) := by decide +kernel
theorem dX3_pack_84 : decode cX3_pack 84 = .ok (.iconst 0, 1) := by decide +kernel
theorem dX3_pack_85 : decode cX3_pack 85 = .ok (.istore_n 3, 1) := by decide +kernel
theorem dX3_pack_86 : decode cX3_pack 86 = .ok (.iload_n 3, 1) := by decide +kernel
theorem dX3_pack_87 : decode cX3_pack 87 = .ok (.aload_n 0, 1) := by decide +kernel
theorem dX3_pack_88 : decode cX3_pack 88 = .ok (.getfield 13, 3) := by decide +kernel
theorem dX3_pack_91 : decode cX3_pack 91 = .ok (.iload_n 1, 1) := by decide +kernel
theorem dX3_pack_92 : decode cX3_pack 92 = .ok (.iaload, 1) := by decide +kernel
theorem dX3_pack_93 : decode cX3_pack 93 = .ok (.if_icmp .ge 72, 3) := by decide +kernel
theorem dX3_pack_96 : decode cX3_pack 96 = .ok (.iconst 0, 1) := by decide +kernel
theorem dX3_pack_97 : decode cX3_pack 97 = .ok (.istore 4, 2) := by decide +kernel
theorem dX3_pack_99 : decode cX3_pack 99 = .ok (.iload 4, 2) := by decide +kernel
theorem dX3_pack_101 : decode cX3_pack 101 = .ok (.aload_n 0, 1) := by decide +kernel
theorem dX3_pack_102 : decode cX3_pack 102 = .ok (.getfield 19, 3) := by decide +kernel
theorem dX3_pack_105 : decode cX3_pack 105 = .ok (.aload_n 0, 1) := by decide +kernel
theorem dX3_pack_106 : decode cX3_pack 106 = .ok (.getfield 16, 3) := by decide +kernel
theorem dX3_pack_109 : decode cX3_pack 109 = .ok (.bipush 12, 2) := by decide +kernel
theorem dX3_pack_111 : decode cX3_pack 111 = .ok (.iload_n 1, 1) := by decide +kernel
theorem dX3_pack_112 : decode cX3_pack 112 = .ok (.imul, 1) := by decide +kernel
theorem dX3_pack_113 : decode cX3_pack 113 = .ok (.iload_n 3, 1) := by decide +kernel
theorem dX3_pack_114 : decode cX3_pack 114 = .ok (.iadd, 1) := by decide +kernel
theorem dX3_pack_115 : decode cX3_pack 115 = .ok (.iaload, 1) := by decide +kernel
theorem dX3_pack_116 : decode cX3_pack 116 = .ok (.iaload, 1) := by decide +kernel
theorem dX3_pack_117 : decode cX3_pack 117 = .ok (.if_icmp .ge 42, 3) := by decide +kernel
theorem dX3_pack_120 : decode cX3_pack 120 = .ok (.aload_n 0, 1) := by decide +kernel
theorem dX3_pack_121 : decode cX3_pack 121 = .ok (.getfield 32, 3) := by decide +kernel
theorem dX3_pack_124 : decode cX3_pack 124 = .ok (.iload_n 2, 1) := by decide +kernel
theorem dX3_pack_125 : decode cX3_pack 125 = .ok (.bipush 32, 2) := by decide +kernel
theorem dX3_pack_127 : decode cX3_pack 127 = .ok (.idiv, 1) := by decide +kernel
theorem dX3_pack_128 : decode cX3_pack 128 = .ok (.dup2, 1) := by decide +kernel
theorem dX3_pack_129 : decode cX3_pack 129 = .ok (.iaload, 1) := by decide +kernel
theorem dX3_pack_130 : decode cX3_pack 130 = .ok (.aload_n 0, 1) := by decide +kernel
theorem dX3_pack_131 : decode cX3_pack 131 = .ok (.getfield 22, 3) := by decide +kernel
theorem dX3_pack_134 : decode cX3_pack 134 = .ok (.aload_n 0, 1) := by decide +kernel
theorem dX3_pack_135 : decode cX3_pack 135 = .ok (.iload_n 1, 1) := by decide +kernel
theorem dX3_pack_136 : decode cX3_pack 136 = .ok (.iload_n 3, 1) := by decide +kernel
theorem dX3_pack_137 : decode cX3_pack 137 = .ok (.iload 4, 2) := by decide +kernel
theorem dX3_pack_139 : decode cX3_pack 139 = .ok (.invokevirtual 113, 3) := by decide +kernel
theorem dX3_pack_142 : decode cX3_pack 142 = .ok (.iaload, 1) := by decide +kernel
theorem dX3_pack_143 : decode cX3_pack 143 = .ok (.iload_n 2, 1) := by decide +kernel
theorem dX3_pack_144 : decode cX3_pack 144 = .ok (.bipush 32, 2) := by decide +kernel
theorem dX3_pack_146 : decode cX3_pack 146 = .ok (.irem, 1) := by decide +kernel
theorem dX3_pack_147 : decode cX3_pack 147 = .ok (.ishl, 1) := by decide +kernel
theorem dX3_pack_148 : decode cX3_pack 148 = .ok (.ior, 1) := by decide +kernel
theorem dX3_pack_149 : decode cX3_pack 149 = .ok (.iastore, 1) := by decide +kernel
theorem dX3_pack_150 : decode cX3_pack 150 = .ok (.iinc 2 1, 3) := by decide +kernel
theorem dX3_pack_153 : decode cX3_pack 153 = .ok (.iinc 4 1, 3) := by decide +kernel
theorem dX3_pack_156 : decode cX3_pack 156 = .ok (.goto (-57), 3) := by decide +kernel
theorem dX3_pack_159 : decode cX3_pack 159 = .ok (.iinc 3 1, 3) := by decide +kernel
theorem dX3_pack_162 : decode cX3_pack 162 = .ok (.goto (-76), 3) := by decide +kernel
theorem dX3_pack_165 : decode cX3_pack 165 = .ok (.aload_n 0, 1) := by decide +kernel
theorem dX3_pack_166 : decode cX3_pack 166 = .ok (.iload_n 2, 1) := by decide +kernel
theorem dX3_pack_167 : decode cX3_pack 167 = .ok (.bipush 31, 2) := by decide +kernel
theorem dX3_pack_169 : decode cX3_pack 169 = .ok (.iadd, 1) := by decide +kernel
theorem dX3_pack_170 : decode cX3_pack 170 = .ok (.bipush 32, 2) := by decide +kernel
theorem dX3_pack_172 : decode cX3_pack 172 = .ok (.idiv, 1) := by decide +kernel
theorem dX3_pack_173 : decode cX3_pack 173 = .ok (.putfield 140, 3) := by decide +kernel
theorem dX3_pack_176 : decode cX3_pack 176 = .ok (.aload_n 0, 1) := by decide +kernel
theorem dX3_pack_177 : decode cX3_pack 177 = .ok (.getfield 140, 3) := by decide +kernel
theorem dX3_pack_180 : decode cX3_pack 180 = .ok (.ireturn, 1) := by decide +kernel
theorem dX3_word_0 : decode cX3_word 0 = .ok (.iload_n 1, 1) := by decide +kernel
theorem dX3_word_1 : decode cX3_word 1 = .ok (.iconst 0, 1) := by decide +kernel
theorem dX3_word_2 : decode cX3_word 2 = .ok (.aload_n 0, 1) := by decide +kernel
theorem dX3_word_3 : decode cX3_word 3 = .ok (.getfield 140, 3) := by decide +kernel
theorem dX3_word_6 : decode cX3_word 6 = .ok (.iconst 1, 1) := by decide +kernel
theorem dX3_word_7 : decode cX3_word 7 = .ok (.isub, 1) := by decide +kernel
theorem dX3_word_8 : decode cX3_word 8 = .ok (.invokestatic 58, 3) := by decide +kernel
theorem dX3_word_11 : decode cX3_word 11 = .ok (.ifCond .eq 12, 3) := by decide +kernel
theorem dX3_word_14 : decode cX3_word 14 = .ok (.aload_n 0, 1) := by decide +kernel
theorem dX3_word_15 : decode cX3_word 15 = .ok (.getfield 32, 3) := by decide +kernel
theorem dX3_word_18 : decode cX3_word 18 = .ok (.iload_n 1, 1) := by decide +kernel
theorem dX3_word_19 : decode cX3_word 19 = .ok (.iaload, 1) := by decide +kernel
theorem dX3_word_20 : decode cX3_word 20 = .ok (.goto 5, 3) := by decide +kernel
theorem dX3_word_23 : decode cX3_word 23 = .ok (.ldc 65, 2) := by decide +kernel
theorem dX3_word_25 : decode cX3_word 25 = .ok (.ireturn, 1) := by decide +kernel
theorem dX3_areAlike_0 : decode cX3_areAlike 0 = .ok (.iload_n 2, 1) := by decide +kernel
theorem dX3_areAlike_1 : decode cX3_areAlike 1 = .ok (.ifCond .lt 7, 3) := by decide +kernel
theorem dX3_areAlike_4 : decode cX3_areAlike 4 = .ok (.iload_n 3, 1) := by decide +kernel
theorem dX3_areAlike_5 : decode cX3_areAlike 5 = .ok (.ifCond .ge 17, 3) := by decide +kernel
theorem dX3_areAlike_8 : decode cX3_areAlike 8 = .ok (.iload_n 2, 1) := by decide +kernel
theorem dX3_areAlike_9 : decode cX3_areAlike 9 = .ok (.ifCond .ge 11, 3) := by decide +kernel
theorem dX3_areAlike_12 : decode cX3_areAlike 12 = .ok (.iload_n 3, 1) := by decide +kernel
theorem dX3_areAlike_13 : decode cX3_areAlike 13 = .ok (.ifCond .ge 7, 3) := by decide +kernel
theorem dX3_areAlike_16 : decode cX3_areAlike 16 = .ok (.iconst 1, 1) := by decide +kernel
theorem dX3_areAlike_17 : decode cX3_areAlike 17 = .ok (.goto 4, 3) := by decide +kernel
theorem dX3_areAlike_20 : decode cX3_areAlike 20 = .ok (.iconst 0, 1) := by decide +kernel
theorem dX3_areAlike_21 : decode cX3_areAlike 21 = .ok (.ireturn, 1) := by decide +kernel
theorem dX3_areAlike_22 : decode cX3_areAlike 22 = .ok (.aload_n 0, 1) := by decide +kernel
theorem dX3_areAlike_23 : decode cX3_areAlike 23 = .ok (.getfield 19, 3) := by decide +kernel
theorem dX3_areAlike_26 : decode cX3_areAlike 26 = .ok (.iload_n 2, 1) := by decide +kernel
theorem dX3_areAlike_27 : decode cX3_areAlike 27 = .ok (.iaload, 1) := by decide +kernel
theorem dX3_areAlike_28 : decode cX3_areAlike 28 = .ok (.aload_n 0, 1) := by decide +kernel
theorem dX3_areAlike_29 : decode cX3_areAlike 29 = .ok (.getfield 19, 3) := by decide +kernel
theorem dX3_areAlike_32 : decode cX3_areAlike 32 = .ok (.iload_n 3, 1) := by decide +kernel
theorem dX3_areAlike_33 : decode cX3_areAlike 33 = .ok (.iaload, 1) := by decide +kernel
theorem dX3_areAlike_34 : decode cX3_areAlike 34 = .ok (.if_icmp .ne 7, 3) := by decide +kernel
theorem dX3_areAlike_37 : decode cX3_areAlike 37 = .ok (.iconst 1, 1) := by decide +kernel
theorem dX3_areAlike_38 : decode cX3_areAlike 38 = .ok (.goto 4, 3) := by decide +kernel
theorem dX3_areAlike_41 : decode cX3_areAlike 41 = .ok (.iconst 0, 1) := by decide +kernel
theorem dX3_areAlike_42 : decode cX3_areAlike 42 = .ok (.istore 4, 2) := by decide +kernel
theorem dX3_areAlike_44 : decode cX3_areAlike 44 = .ok (.iconst 0, 1) := by decide +kernel
theorem dX3_areAlike_45 : decode cX3_areAlike 45 = .ok (.istore 5, 2) := by decide +kernel
theorem dX3_areAlike_47 : decode cX3_areAlike 47 = .ok (.iload 5, 2) := by decide +kernel
theorem dX3_areAlike_49 : decode cX3_areAlike 49 = .ok (.aload_n 0, 1) := by decide +kernel
theorem dX3_areAlike_50 : decode cX3_areAlike 50 = .ok (.getfield 19, 3) := by decide +kernel
theorem dX3_areAlike_53 : decode cX3_areAlike 53 = .ok (.iload_n 2, 1) := by decide +kernel
theorem dX3_areAlike_54 : decode cX3_areAlike 54 = .ok (.iaload, 1) := by decide +kernel
theorem dX3_areAlike_55 : decode cX3_areAlike 55 = .ok (.if_icmp .ge 89, 3) := by decide +kernel
theorem dX3_areAlike_58 : decode cX3_areAlike 58 = .ok (.iload 4, 2) := by decide +kernel
theorem dX3_areAlike_60 : decode cX3_areAlike 60 = .ok (.ifCond .eq 84, 3) := by decide +kernel
theorem dX3_areAlike_63 : decode cX3_areAlike 63 = .ok (.iload_n 1, 1) := by decide +kernel
theorem dX3_areAlike_64 : decode cX3_areAlike 64 = .ok (.iconst 2, 1) := by decide +kernel
theorem dX3_areAlike_65 : decode cX3_areAlike 65 = .ok (.if_icmp .ne 39, 3) := by decide +kernel
theorem dX3_areAlike_68 : decode cX3_areAlike 68 = .ok (.aload_n 0, 1) := by decide +kernel
theorem dX3_areAlike_69 : decode cX3_areAlike 69 = .ok (.getfield 25, 3) := by decide +kernel
theorem dX3_areAlike_72 : decode cX3_areAlike 72 = .ok (.bipush 16, 2) := by decide +kernel
theorem dX3_areAlike_74 : decode cX3_areAlike 74 = .ok (.iload_n 2, 1) := by decide +kernel
theorem dX3_areAlike_75 : decode cX3_areAlike 75 = .ok (.imul, 1) := by decide +kernel
theorem dX3_areAlike_76 : decode cX3_areAlike 76 = .ok (.iload 5, 2) := by decide +kernel
theorem dX3_areAlike_78 : decode cX3_areAlike 78 = .ok (.iadd, 1) := by decide +kernel
theorem dX3_areAlike_79 : decode cX3_areAlike 79 = .ok (.daload, 1) := by decide +kernel
theorem dX3_areAlike_80 : decode cX3_areAlike 80 = .ok (.aload_n 0, 1) := by decide +kernel
theorem dX3_areAlike_81 : decode cX3_areAlike 81 = .ok (.getfield 25, 3) := by decide +kernel
theorem dX3_areAlike_84 : decode cX3_areAlike 84 = .ok (.bipush 16, 2) := by decide +kernel
theorem dX3_areAlike_86 : decode cX3_areAlike 86 = .ok (.iload_n 3, 1) := by decide +kernel
theorem dX3_areAlike_87 : decode cX3_areAlike 87 = .ok (.imul, 1) := by decide +kernel
theorem dX3_areAlike_88 : decode cX3_areAlike 88 = .ok (.iload 5, 2) := by decide +kernel
theorem dX3_areAlike_90 : decode cX3_areAlike 90 = .ok (.iadd, 1) := by decide +kernel
theorem dX3_areAlike_91 : decode cX3_areAlike 91 = .ok (.daload, 1) := by decide +kernel
theorem dX3_areAlike_92 : decode cX3_areAlike 92 = .ok (.dcmp .l, 1) := by decide +kernel
theorem dX3_areAlike_93 : decode cX3_areAlike 93 = .ok (.ifCond .ne 7, 3) := by decide +kernel
theorem dX3_areAlike_96 : decode cX3_areAlike 96 = .ok (.iconst 1, 1) := by decide +kernel
theorem dX3_areAlike_97 : decode cX3_areAlike 97 = .ok (.goto 39, 3) := by decide +kernel
theorem dX3_areAlike_100 : decode cX3_areAlike 100 = .ok (.iconst 0, 1) := by decide +kernel
theorem dX3_areAlike_101 : decode cX3_areAlike 101 = .ok (.goto 35, 3) := by decide +kernel
theorem dX3_areAlike_104 : decode cX3_areAlike 104 = .ok (.aload_n 0, 1) := by decide +kernel
theorem dX3_areAlike_105 : decode cX3_areAlike 105 = .ok (.getfield 22, 3) := by decide +kernel
theorem dX3_areAlike_108 : decode cX3_areAlike 108 = .ok (.bipush 16, 2) := by decide +kernel
theorem dX3_areAlike_110 : decode cX3_areAlike 110 = .ok (.iload_n 2, 1) := by decide +kernel
theorem dX3_areAlike_111 : decode cX3_areAlike 111 = .ok (.imul, 1) := by decide +kernel
theorem dX3_areAlike_112 : decode cX3_areAlike 112 = .ok (.iload 5, 2) := by decide +kernel
theorem dX3_areAlike_114 : decode cX3_areAlike 114 = .ok (.iadd, 1) := by decide +kernel
theorem dX3_areAlike_115 : decode cX3_areAlike 115 = .ok (.iaload, 1) := by decide +kernel
theorem dX3_areAlike_116 : decode cX3_areAlike 116 = .ok (.aload_n 0, 1) := by decide +kernel
theorem dX3_areAlike_117 : decode cX3_areAlike 117 = .ok (.getfield 22, 3) := by decide +kernel
theorem dX3_areAlike_120 : decode cX3_areAlike 120 = .ok (.bipush 16, 2) := by decide +kernel
theorem dX3_areAlike_122 : decode cX3_areAlike 122 = .ok (.iload_n 3, 1) := by decide +kernel
theorem dX3_areAlike_123 : decode cX3_areAlike 123 = .ok (.imul, 1) := by decide +kernel
theorem dX3_areAlike_124 : decode cX3_areAlike 124 = .ok (.iload 5, 2) := by decide +kernel
theorem dX3_areAlike_126 : decode cX3_areAlike 126 = .ok (.iadd, 1) := by decide +kernel
theorem dX3_areAlike_127 : decode cX3_areAlike 127 = .ok (.iaload, 1) := by decide +kernel
theorem dX3_areAlike_128 : decode cX3_areAlike 128 = .ok (.if_icmp .ne 7, 3) := by decide +kernel
theorem dX3_areAlike_131 : decode cX3_areAlike 131 = .ok (.iconst 1, 1) := by decide +kernel
theorem dX3_areAlike_132 : decode cX3_areAlike 132 = .ok (.goto 4, 3) := by decide +kernel
theorem dX3_areAlike_135 : decode cX3_areAlike 135 = .ok (.iconst 0, 1) := by decide +kernel
theorem dX3_areAlike_136 : decode cX3_areAlike 136 = .ok (.istore 4, 2) := by decide +kernel
theorem dX3_areAlike_138 : decode cX3_areAlike 138 = .ok (.iinc 5 1, 3) := by decide +kernel
theorem dX3_areAlike_141 : decode cX3_areAlike 141 = .ok (.goto (-94), 3) := by decide +kernel
theorem dX3_areAlike_144 : decode cX3_areAlike 144 = .ok (.iload 4, 2) := by decide +kernel
theorem dX3_areAlike_146 : decode cX3_areAlike 146 = .ok (.ireturn, 1) := by decide +kernel
theorem dX3_alike_0 : decode cX3_alike 0 = .ok (.aload_n 0, 1) := by decide +kernel
theorem dX3_alike_1 : decode cX3_alike 1 = .ok (.iload_n 1, 1) := by decide +kernel
theorem dX3_alike_2 : decode cX3_alike 2 = .ok (.invokevirtual 79, 3) := by decide +kernel
theorem dX3_alike_5 : decode cX3_alike 5 = .ok (.ifCond .eq 11, 3) := by decide +kernel
