theorem dX2_total_46 : decode cX2_total 46 = .ok (.iload_n 2, 1) := by decide +kernel
theorem dX2_total_47 : decode cX2_total 47 = .ok (.ireturn, 1) := by decide +kernel
theorem dX2_entered_0 : decode cX2_entered 0 = .ok (.aload_n 0, 1) := by decide +kernel
theorem dX2_entered_1 : decode cX2_entered 1 = .ok (.getfield 146, 3) := by decide +kernel
theorem dX2_entered_4 : decode cX2_entered 4 = .ok (.ireturn, 1) := by decide +kernel
theorem dX2_deep_0 : decode cX2_deep 0 = .ok (.aload_n 0, 1) := by decide +kernel
theorem dX2_deep_1 : decode cX2_deep 1 = .ok (.iload_n 1, 1) := by decide +kernel
theorem dX2_deep_2 : decode cX2_deep 2 = .ok (.invokevirtual 41, 3) := by decide +kernel
theorem dX2_deep_5 : decode cX2_deep 5 = .ok (.ifCond .eq 6, 3) := by decide +kernel
theorem dX2_deep_8 : decode cX2_deep 8 = .ok (.ldc 45, 2) := by decide +kernel
theorem dX2_deep_10 : decode cX2_deep 10 = .ok (.ireturn, 1) := by decide +kernel
theorem dX2_deep_11 : decode cX2_deep 11 = .ok (.aload_n 0, 1) := by decide +kernel
theorem dX2_deep_12 : decode cX2_deep 12 = .ok (.getfield 24, 3) := by decide +kernel
theorem dX2_deep_15 : decode cX2_deep 15 = .ok (.bipush (-2), 2) := by decide +kernel
theorem dX2_deep_17 : decode cX2_deep 17 = .ok (.invokestatic 130, 3) := by decide +kernel
theorem dX2_deep_20 : decode cX2_deep 20 = .ok (.aload_n 0, 1) := by decide +kernel
theorem dX2_deep_21 : decode cX2_deep 21 = .ok (.iload_n 1, 1) := by decide +kernel
theorem dX2_deep_22 : decode cX2_deep 22 = .ok (.iconst 0, 1) := by decide +kernel
theorem dX2_deep_23 : decode cX2_deep 23 = .ok (.invokevirtual 155, 3) := by decide +kernel
theorem dX2_deep_26 : decode cX2_deep 26 = .ok (.istore_n 2, 1) := by decide +kernel
theorem dX2_deep_27 : decode cX2_deep 27 = .ok (.iload_n 2, 1) := by decide +kernel
theorem dX2_deep_28 : decode cX2_deep 28 = .ok (.iconst (-1), 1) := by decide +kernel
theorem dX2_deep_29 : decode cX2_deep 29 = .ok (.if_icmp .ne 11, 3) := by decide +kernel
theorem dX2_deep_32 : decode cX2_deep 32 = .ok (.aload_n 0, 1) := by decide +kernel
theorem dX2_deep_33 : decode cX2_deep 33 = .ok (.iconst 5, 1) := by decide +kernel
theorem dX2_deep_34 : decode cX2_deep 34 = .ok (.invokevirtual 33, 3) := by decide +kernel
theorem dX2_deep_37 : decode cX2_deep 37 = .ok (.goto 4, 3) := by decide +kernel
theorem dX2_deep_40 : decode cX2_deep 40 = .ok (.iload_n 2, 1) := by decide +kernel
theorem dX2_deep_41 : decode cX2_deep 41 = .ok (.ireturn, 1) := by decide +kernel
theorem dX2_count_0 : decode cX2_count 0 = .ok (.iload_n 1, 1) := by decide +kernel
theorem dX2_count_1 : decode cX2_count 1 = .ok (.tableswitch 51 0 3 #[31, 36, 41, 46], 31) := by decide +kernel
theorem dX2_count_32 : decode cX2_count 32 = .ok (.aload_n 0, 1) := by decide +kernel
theorem dX2_count_33 : decode cX2_count 33 = .ok (.getfield 158, 3) := by decide +kernel
theorem dX2_count_36 : decode cX2_count 36 = .ok (.ireturn, 1) := by decide +kernel
theorem dX2_count_37 : decode cX2_count 37 = .ok (.aload_n 0, 1) := by decide +kernel
theorem dX2_count_38 : decode cX2_count 38 = .ok (.invokevirtual 161, 3) := by decide +kernel
theorem dX2_count_41 : decode cX2_count 41 = .ok (.ireturn, 1) := by decide +kernel
theorem dX2_count_42 : decode cX2_count 42 = .ok (.aload_n 0, 1) := by decide +kernel
theorem dX2_count_43 : decode cX2_count 43 = .ok (.invokevirtual 164, 3) := by decide +kernel
theorem dX2_count_46 : decode cX2_count 46 = .ok (.ireturn, 1) := by decide +kernel
theorem dX2_count_47 : decode cX2_count 47 = .ok (.aload_n 0, 1) := by decide +kernel
theorem dX2_count_48 : decode cX2_count 48 = .ok (.getfield 167, 3) := by decide +kernel
theorem dX2_count_51 : decode cX2_count 51 = .ok (.ireturn, 1) := by decide +kernel
theorem dX2_count_52 : decode cX2_count 52 = .ok (.ldc 27, 2) := by decide +kernel
theorem dX2_count_54 : decode cX2_count 54 = .ok (.ireturn, 1) := by decide +kernel
theorem dX2_clear_0 : decode cX2_clear 0 = .ok (.aload_n 0, 1) := by decide +kernel
theorem dX2_clear_1 : decode cX2_clear 1 = .ok (.getfield 158, 3) := by decide +kernel
theorem dX2_clear_4 : decode cX2_clear 4 = .ok (.istore_n 1, 1) := by decide +kernel
theorem dX2_clear_5 : decode cX2_clear 5 = .ok (.aload_n 0, 1) := by decide +kernel
theorem dX2_clear_6 : decode cX2_clear 6 = .ok (.iconst 0, 1) := by decide +kernel
theorem dX2_clear_7 : decode cX2_clear 7 = .ok (.putfield 158, 3) := by decide +kernel
theorem dX2_clear_10 : decode cX2_clear 10 = .ok (.aload_n 0, 1) := by decide +kernel
theorem dX2_clear_11 : decode cX2_clear 11 = .ok (.iconst 0, 1) := by decide +kernel
theorem dX2_clear_12 : decode cX2_clear 12 = .ok (.putfield 167, 3) := by decide +kernel
theorem dX2_clear_15 : decode cX2_clear 15 = .ok (.aload_n 0, 1) := by decide +kernel
theorem dX2_clear_16 : decode cX2_clear 16 = .ok (.iconst 0, 1) := by decide +kernel
theorem dX2_clear_17 : decode cX2_clear 17 = .ok (.putfield 139, 3) := by decide +kernel
theorem dX2_clear_20 : decode cX2_clear 20 = .ok (.aload_n 0, 1) := by decide +kernel
theorem dX2_clear_21 : decode cX2_clear 21 = .ok (.iconst 0, 1) := by decide +kernel
theorem dX2_clear_22 : decode cX2_clear 22 = .ok (.putfield 146, 3) := by decide +kernel
theorem dX2_clear_25 : decode cX2_clear 25 = .ok (.iload_n 1, 1) := by decide +kernel
theorem dX2_clear_26 : decode cX2_clear 26 = .ok (.ireturn, 1) := by decide +kernel
theorem dX2_isUnknown_0 : decode cX2_isUnknown 0 = .ok (.iload_n 1, 1) := by decide +kernel
theorem dX2_isUnknown_1 : decode cX2_isUnknown 1 = .ok (.ifCond .lt 11, 3) := by decide +kernel
theorem dX2_isUnknown_4 : decode cX2_isUnknown 4 = .ok (.iload_n 1, 1) := by decide +kernel
theorem dX2_isUnknown_5 : decode cX2_isUnknown 5 = .ok (.aload_n 0, 1) := by decide +kernel
theorem dX2_isUnknown_6 : decode cX2_isUnknown 6 = .ok (.getfield 158, 3) := by decide +kernel
theorem dX2_isUnknown_9 : decode cX2_isUnknown 9 = .ok (.if_icmp .lt 7, 3) := by decide +kernel
theorem dX2_isUnknown_12 : decode cX2_isUnknown 12 = .ok (.iconst 1, 1) := by decide +kernel
theorem dX2_isUnknown_13 : decode cX2_isUnknown 13 = .ok (.goto 4, 3) := by decide +kernel
theorem dX2_isUnknown_16 : decode cX2_isUnknown 16 = .ok (.iconst 0, 1) := by decide +kernel
theorem dX2_isUnknown_17 : decode cX2_isUnknown 17 = .ok (.ireturn, 1) := by decide +kernel
theorem dX2_isFull_0 : decode cX2_isFull 0 = .ok (.aload_n 0, 1) := by decide +kernel
theorem dX2_isFull_1 : decode cX2_isFull 1 = .ok (.getfield 158, 3) := by decide +kernel
theorem dX2_isFull_4 : decode cX2_isFull 4 = .ok (.bipush 16, 2) := by decide +kernel
theorem dX2_isFull_6 : decode cX2_isFull 6 = .ok (.if_icmp .lt 7, 3) := by decide +kernel
theorem dX2_isFull_9 : decode cX2_isFull 9 = .ok (.iconst 1, 1) := by decide +kernel
theorem dX2_isFull_10 : decode cX2_isFull 10 = .ok (.goto 4, 3) := by decide +kernel
theorem dX2_isFull_13 : decode cX2_isFull 13 = .ok (.iconst 0, 1) := by decide +kernel
theorem dX2_isFull_14 : decode cX2_isFull 14 = .ok (.ireturn, 1) := by decide +kernel
theorem dX2_failed_0 : decode cX2_failed 0 = .ok (.aload_n 0, 1) := by decide +kernel
theorem dX2_failed_1 : decode cX2_failed 1 = .ok (.dup, 1) := by decide +kernel
theorem dX2_failed_2 : decode cX2_failed 2 = .ok (.getfield 167, 3) := by decide +kernel
theorem dX2_failed_5 : decode cX2_failed 5 = .ok (.iconst 1, 1) := by decide +kernel
theorem dX2_failed_6 : decode cX2_failed 6 = .ok (.iadd, 1) := by decide +kernel
theorem dX2_failed_7 : decode cX2_failed 7 = .ok (.putfield 167, 3) := by decide +kernel
theorem dX2_failed_10 : decode cX2_failed 10 = .ok (.ldc 170, 2) := by decide +kernel
theorem dX2_failed_12 : decode cX2_failed 12 = .ok (.iload_n 1, 1) := by decide +kernel
theorem dX2_failed_13 : decode cX2_failed 13 = .ok (.isub, 1) := by decide +kernel
theorem dX2_failed_14 : decode cX2_failed 14 = .ok (.ireturn, 1) := by decide +kernel
theorem dX2_begun_0 : decode cX2_begun 0 = .ok (.aload_n 0, 1) := by decide +kernel
theorem dX2_begun_1 : decode cX2_begun 1 = .ok (.getfield 158, 3) := by decide +kernel
theorem dX2_begun_4 : decode cX2_begun 4 = .ok (.istore_n 3, 1) := by decide +kernel
theorem dX2_begun_5 : decode cX2_begun 5 = .ok (.aload_n 0, 1) := by decide +kernel
theorem dX2_begun_6 : decode cX2_begun 6 = .ok (.getfield 11, 3) := by decide +kernel
theorem dX2_begun_9 : decode cX2_begun 9 = .ok (.iload_n 3, 1) := by decide +kernel
theorem dX2_begun_10 : decode cX2_begun 10 = .ok (.aaload, 1) := by decide +kernel
theorem dX2_begun_11 : decode cX2_begun 11 = .ok (.iload_n 1, 1) := by decide +kernel
theorem dX2_begun_12 : decode cX2_begun 12 = .ok (.iload_n 2, 1) := by decide +kernel
theorem dX2_begun_13 : decode cX2_begun 13 = .ok (.invokevirtual 171, 3) := by decide +kernel
theorem dX2_begun_16 : decode cX2_begun 16 = .ok (.aload_n 0, 1) := by decide +kernel
theorem dX2_begun_17 : decode cX2_begun 17 = .ok (.dup, 1) := by decide +kernel
theorem dX2_begun_18 : decode cX2_begun 18 = .ok (.getfield 158, 3) := by decide +kernel
theorem dX2_begun_21 : decode cX2_begun 21 = .ok (.iconst 1, 1) := by decide +kernel
theorem dX2_begun_22 : decode cX2_begun 22 = .ok (.iadd, 1) := by decide +kernel
theorem dX2_begun_23 : decode cX2_begun 23 = .ok (.putfield 158, 3) := by decide +kernel
theorem dX2_begun_26 : decode cX2_begun 26 = .ok (.iload_n 3, 1) := by decide +kernel
theorem dX2_begun_27 : decode cX2_begun 27 = .ok (.ireturn, 1) := by decide +kernel
theorem dX2_begunWithRows_0 : decode cX2_begunWithRows 0 = .ok (.aload_n 0, 1) := by decide +kernel
theorem dX2_begunWithRows_1 : decode cX2_begunWithRows 1 = .ok (.iload_n 1, 1) := by decide +kernel
theorem dX2_begunWithRows_2 : decode cX2_begunWithRows 2 = .ok (.iload_n 2, 1) := by decide +kernel
theorem dX2_begunWithRows_3 : decode cX2_begunWithRows 3 = .ok (.invokevirtual 37, 3) := by decide +kernel
theorem dX2_begunWithRows_6 : decode cX2_begunWithRows 6 = .ok (.istore 4, 2) := by decide +kernel
theorem dX2_begunWithRows_8 : decode cX2_begunWithRows 8 = .ok (.aload_n 0, 1) := by decide +kernel
theorem dX2_begunWithRows_9 : decode cX2_begunWithRows 9 = .ok (.getfield 11, 3) := by decide +kernel
theorem dX2_begunWithRows_12 : decode cX2_begunWithRows 12 = .ok (.iload 4, 2) := by decide +kernel
theorem dX2_begunWithRows_14 : decode cX2_begunWithRows 14 = .ok (.aaload, 1) := by decide +kernel
theorem dX2_begunWithRows_15 : decode cX2_begunWithRows 15 = .ok (.astore 5, 2) := by decide +kernel
theorem dX2_begunWithRows_17 : decode cX2_begunWithRows 17 = .ok (.iconst 0, 1) := by decide +kernel
theorem dX2_begunWithRows_18 : decode cX2_begunWithRows 18 = .ok (.istore 6, 2) := by decide +kernel
theorem dX2_begunWithRows_20 : decode cX2_begunWithRows 20 = .ok (.iload 6, 2) := by decide +kernel
theorem dX2_begunWithRows_22 : decode cX2_begunWithRows 22 = .ok (.aload 5, 2) := by decide +kernel
theorem dX2_begunWithRows_24 : decode cX2_begunWithRows 24 = .ok (.getfield 76, 3) := by decide +kernel
theorem dX2_begunWithRows_27 : decode cX2_begunWithRows 27 = .ok (.if_icmp .ge 26, 3) := by decide +kernel
theorem dX2_begunWithRows_30 : decode cX2_begunWithRows 30 = .ok (.aload 5, 2) := by decide +kernel
theorem dX2_begunWithRows_32 : decode cX2_begunWithRows 32 = .ok (.getfield 49, 3) := by decide +kernel
theorem dX2_begunWithRows_35 : decode cX2_begunWithRows 35 = .ok (.iload 6, 2) := by decide +kernel
theorem dX2_begunWithRows_37 : decode cX2_begunWithRows 37 = .ok (.new 53, 3) := by decide +kernel
theorem dX2_begunWithRows_40 : decode cX2_begunWithRows 40 = .ok (.dup, 1) := by decide +kernel
theorem dX2_begunWithRows_41 : decode cX2_begunWithRows 41 = .ok (.iload_n 1, 1) := by decide +kernel
theorem dX2_begunWithRows_42 : decode cX2_begunWithRows 42 = .ok (.iload_n 3, 1) := by decide +kernel
theorem dX2_begunWithRows_43 : decode cX2_begunWithRows 43 = .ok (.invokespecial 59, 3) := by decide +kernel
theorem dX2_begunWithRows_46 : decode cX2_begunWithRows 46 = .ok (.aastore, 1) := by decide +kernel
theorem dX2_begunWithRows_47 : decode cX2_begunWithRows 47 = .ok (.iinc 6 1, 3) := by decide +kernel
theorem dX2_begunWithRows_50 : decode cX2_begunWithRows 50 = .ok (.goto (-30), 3) := by decide +kernel
theorem dX2_begunWithRows_53 : decode cX2_begunWithRows 53 = .ok (.iload 4, 2) := by decide +kernel
theorem dX2_begunWithRows_55 : decode cX2_begunWithRows 55 = .ok (.ireturn, 1) := by decide +kernel
theorem dX2_canMultiply_0 : decode cX2_canMultiply 0 = .ok (.aload_n 0, 1) := by decide +kernel
theorem dX2_canMultiply_1 : decode cX2_canMultiply 1 = .ok (.getfield 55, 3) := by decide +kernel
theorem dX2_canMultiply_4 : decode cX2_canMultiply 4 = .ok (.iconst 3, 1) := by decide +kernel
theorem dX2_canMultiply_5 : decode cX2_canMultiply 5 = .ok (.if_icmp .eq 43, 3) := by decide +kernel
theorem dX2_canMultiply_8 : decode cX2_canMultiply 8 = .ok (.aload_n 0, 1) := by decide +kernel
theorem dX2_canMultiply_9 : decode cX2_canMultiply 9 = .ok (.getfield 55, 3) := by decide +kernel
theorem dX2_canMultiply_12 : decode cX2_canMultiply 12 = .ok (.aload_n 1, 1) := by decide +kernel
theorem dX2_canMultiply_13 : decode cX2_canMultiply 13 = .ok (.getfield 55, 3) := by decide +kernel
theorem dX2_canMultiply_16 : decode cX2_canMultiply 16 = .ok (.if_icmp .ne 32, 3) := by decide +kernel
theorem dX2_canMultiply_19 : decode cX2_canMultiply 19 = .ok (.aload_n 0, 1) := by decide +kernel
theorem dX2_canMultiply_20 : decode cX2_canMultiply 20 = .ok (.invokevirtual 97, 3) := by decide +kernel
theorem dX2_canMultiply_23 : decode cX2_canMultiply 23 = .ok (.ifCond .eq 25, 3) := by decide +kernel
theorem dX2_canMultiply_26 : decode cX2_canMultiply 26 = .ok (.aload_n 1, 1) := by decide +kernel
theorem dX2_canMultiply_27 : decode cX2_canMultiply 27 = .ok (.invokevirtual 97, 3) := by decide +kernel
theorem dX2_canMultiply_30 : decode cX2_canMultiply 30 = .ok (.ifCond .eq 18, 3) := by decide +kernel
theorem dX2_canMultiply_33 : decode cX2_canMultiply 33 = .ok (.aload_n 0, 1) := by decide +kernel
theorem dX2_canMultiply_34 : decode cX2_canMultiply 34 = .ok (.invokevirtual 100, 3) := by decide +kernel
theorem dX2_canMultiply_37 : decode cX2_canMultiply 37 = .ok (.aload_n 1, 1) := by decide +kernel
theorem dX2_canMultiply_38 : decode cX2_canMultiply 38 = .ok (.getfield 76, 3) := by decide +kernel
theorem dX2_canMultiply_41 : decode cX2_canMultiply 41 = .ok (.if_icmp .ne 7, 3) := by decide +kernel
theorem dX2_canMultiply_44 : decode cX2_canMultiply 44 = .ok (.iconst 1, 1) := by decide +kernel
theorem dX2_canMultiply_45 : decode cX2_canMultiply 45 = .ok (.goto 4, 3) := by decide +kernel
theorem dX2_canMultiply_48 : decode cX2_canMultiply 48 = .ok (.iconst 0, 1) := by decide +kernel
theorem dX2_canMultiply_49 : decode cX2_canMultiply 49 = .ok (.ireturn, 1) := by decide +kernel
theorem dX2_multiply_0 : decode cX2_multiply 0 = .ok (.aload_n 0, 1) := by decide +kernel
theorem dX2_multiply_1 : decode cX2_multiply 1 = .ok (.getfield 174, 3) := by decide +kernel
theorem dX2_multiply_4 : decode cX2_multiply 4 = .ok (.lookupswitch 48 #[(0, 28), (1, 38)], 28) := by decide +kernel
theorem dX2_multiply_32 : decode cX2_multiply 32 = .ok (.aload_n 0, 1) := by decide +kernel
theorem dX2_multiply_33 : decode cX2_multiply 33 = .ok (.iload_n 1, 1) := by decide +kernel
theorem dX2_multiply_34 : decode cX2_multiply 34 = .ok (.aload_n 2, 1) := by decide +kernel
theorem dX2_multiply_35 : decode cX2_multiply 35 = .ok (.aload_n 3, 1) := by decide +kernel
theorem dX2_multiply_36 : decode cX2_multiply 36 = .ok (.invokestatic 175, 3) := by decide +kernel
theorem dX2_multiply_39 : decode cX2_multiply 39 = .ok (.goto 20, 3) := by decide +kernel
theorem dX2_multiply_42 : decode cX2_multiply 42 = .ok (.aload_n 0, 1) := by decide +kernel
theorem dX2_multiply_43 : decode cX2_multiply 43 = .ok (.iload_n 1, 1) := by decide +kernel
theorem dX2_multiply_44 : decode cX2_multiply 44 = .ok (.aload_n 2, 1) := by decide +kernel
theorem dX2_multiply_45 : decode cX2_multiply 45 = .ok (.aload_n 3, 1) := by decide +kernel
theorem dX2_multiply_46 : decode cX2_multiply 46 = .ok (.invokestatic 178, 3) := by decide +kernel
theorem dX2_multiply_49 : decode cX2_multiply 49 = .ok (.goto 10, 3) := by decide +kernel
theorem dX2_multiply_52 : decode cX2_multiply 52 = .ok (.aload_n 0, 1) := by decide +kernel
theorem dX2_multiply_53 : decode cX2_multiply 53 = .ok (.iload_n 1, 1) := by decide +kernel
theorem dX2_multiply_54 : decode cX2_multiply 54 = .ok (.aload_n 2, 1) := by decide +kernel
theorem dX2_multiply_55 : decode cX2_multiply 55 = .ok (.aload_n 3, 1) := by decide +kernel
theorem dX2_multiply_56 : decode cX2_multiply 56 = .ok (.invokestatic 181, 3) := by decide +kernel
theorem dX2_multiply_59 : decode cX2_multiply 59 = .ok (.return_, 1) := by decide +kernel
theorem dX2_multiplyBits_0 : decode cX2_multiplyBits 0 = .ok (.iconst 0, 1) := by decide +kernel
theorem dX2_multiplyBits_1 : decode cX2_multiplyBits 1 = .ok (.istore 4, 2) := by decide +kernel
theorem dX2_multiplyBits_3 : decode cX2_multiplyBits 3 = .ok (.iconst 0, 1) := by decide +kernel
theorem dX2_multiplyBits_4 : decode cX2_multiplyBits 4 = .ok (.istore 5, 2) := by decide +kernel
theorem dX2_multiplyBits_6 : decode cX2_multiplyBits 6 = .ok (.iload 5, 2) := by decide +kernel
theorem dX2_multiplyBits_8 : decode cX2_multiplyBits 8 = .ok (.aload_n 2, 1) := by decide +kernel
theorem dX2_multiplyBits_9 : decode cX2_multiplyBits 9 = .ok (.invokevirtual 82, 3) := by decide +kernel
theorem dX2_multiplyBits_12 : decode cX2_multiplyBits 12 = .ok (.if_icmp .ge 34, 3) := by decide +kernel
theorem dX2_multiplyBits_15 : decode cX2_multiplyBits 15 = .ok (.iload 4, 2) := by decide +kernel
theorem dX2_multiplyBits_17 : decode cX2_multiplyBits 17 = .ok (.aload_n 2, 1) := by decide +kernel
theorem dX2_multiplyBits_18 : decode cX2_multiplyBits 18 = .ok (.getfield 116, 3) := by decide +kernel
theorem dX2_multiplyBits_21 : decode cX2_multiplyBits 21 = .ok (.iload 5, 2) := by decide +kernel
theorem dX2_multiplyBits_23 : decode cX2_multiplyBits 23 = .ok (.iaload, 1) := by decide +kernel
theorem dX2_multiplyBits_24 : decode cX2_multiplyBits 24 = .ok (.aload_n 3, 1) := by decide +kernel
theorem dX2_multiplyBits_25 : decode cX2_multiplyBits 25 = .ok (.getfield 49, 3) := by decide +kernel
theorem dX2_multiplyBits_28 : decode cX2_multiplyBits 28 = .ok (.iload 5, 2) := by decide +kernel
theorem dX2_multiplyBits_30 : decode cX2_multiplyBits 30 = .ok (.aaload, 1) := by decide +kernel
theorem dX2_multiplyBits_31 : decode cX2_multiplyBits 31 = .ok (.getfield 116, 3) := by decide +kernel
theorem dX2_multiplyBits_34 : decode cX2_multiplyBits 34 = .ok (.iload_n 1, 1) := by decide +kernel
theorem dX2_multiplyBits_35 : decode cX2_multiplyBits 35 = .ok (.iaload, 1) := by decide +kernel
theorem dX2_multiplyBits_36 : decode cX2_multiplyBits 36 = .ok (.iand, 1) := by decide +kernel
theorem dX2_multiplyBits_37 : decode cX2_multiplyBits 37 = .ok (.ior, 1) := by decide +kernel
theorem dX2_multiplyBits_38 : decode cX2_multiplyBits 38 = .ok (.istore 4, 2) := by decide +kernel
theorem dX2_multiplyBits_40 : decode cX2_multiplyBits 40 = .ok (.iinc 5 1, 3) := by decide +kernel
theorem dX2_multiplyBits_43 : decode cX2_multiplyBits 43 = .ok (.goto (-37), 3) := by decide +kernel
theorem dX2_multiplyBits_46 : decode cX2_multiplyBits 46 = .ok (.aload_n 0, 1) := by decide +kernel
theorem dX2_multiplyBits_47 : decode cX2_multiplyBits 47 = .ok (.getfield 116, 3) := by decide +kernel
theorem dX2_multiplyBits_50 : decode cX2_multiplyBits 50 = .ok (.iload_n 1, 1) := by decide +kernel
theorem dX2_multiplyBits_51 : decode cX2_multiplyBits 51 = .ok (.iload 4, 2) := by decide +kernel
theorem dX2_multiplyBits_53 : decode cX2_multiplyBits 53 = .ok (.iastore, 1) := by decide +kernel
theorem dX2_multiplyBits_54 : decode cX2_multiplyBits 54 = .ok (.return_, 1) := by decide +kernel
theorem dX2_multiplyNumbers_0 : decode cX2_multiplyNumbers 0 = .ok (.iconst 0, 1) := by decide +kernel
theorem dX2_multiplyNumbers_1 : decode cX2_multiplyNumbers 1 = .ok (.istore 4, 2) := by decide +kernel
theorem dX2_multiplyNumbers_3 : decode cX2_multiplyNumbers 3 = .ok (.iconst 0, 1) := by decide +kernel
theorem dX2_multiplyNumbers_4 : decode cX2_multiplyNumbers 4 = .ok (.istore 5, 2) := by decide +kernel
theorem dX2_multiplyNumbers_6 : decode cX2_multiplyNumbers 6 = .ok (.iload 5, 2) := by decide +kernel
theorem dX2_multiplyNumbers_8 : decode cX2_multiplyNumbers 8 = .ok (.aload_n 2, 1) := by decide +kernel
theorem dX2_multiplyNumbers_9 : decode cX2_multiplyNumbers 9 = .ok (.invokevirtual 82, 3) := by decide +kernel
theorem dX2_multiplyNumbers_12 : decode cX2_multiplyNumbers 12 = .ok (.if_icmp .ge 34, 3) := by decide +kernel
theorem dX2_multiplyNumbers_15 : decode cX2_multiplyNumbers 15 = .ok (.iload 4, 2) := by decide +kernel
theorem dX2_multiplyNumbers_17 : decode cX2_multiplyNumbers 17 = .ok (.aload_n 2, 1) := by decide +kernel
theorem dX2_multiplyNumbers_18 : decode cX2_multiplyNumbers 18 = .ok (.getfield 116, 3) := by decide +kernel
theorem dX2_multiplyNumbers_21 : decode cX2_multiplyNumbers 21 = .ok (.iload 5, 2) := by decide +kernel
theorem dX2_multiplyNumbers_23 : decode cX2_multiplyNumbers 23 = .ok (.iaload, 1) := by decide +kernel
theorem dX2_multiplyNumbers_24 : decode cX2_multiplyNumbers 24 = .ok (.aload_n 3, 1) := by decide +kernel
theorem dX2_multiplyNumbers_25 : decode cX2_multiplyNumbers 25 = .ok (.getfield 49, 3) := by decide +kernel
theorem dX2_multiplyNumbers_28 : decode cX2_multiplyNumbers 28 = .ok (.iload 5, 2) := by decide +kernel
theorem dX2_multiplyNumbers_30 : decode cX2_multiplyNumbers 30 = .ok (.aaload, 1) := by decide +kernel
theorem dX2_multiplyNumbers_31 : decode cX2_multiplyNumbers 31 = .ok (.getfield 116, 3) := by decide +kernel
theorem dX2_multiplyNumbers_34 : decode cX2_multiplyNumbers 34 = .ok (.iload_n 1, 1) := by decide +kernel
theorem dX2_multiplyNumbers_35 : decode cX2_multiplyNumbers 35 = .ok (.iaload, 1) := by decide +kernel
theorem dX2_multiplyNumbers_36 : decode cX2_multiplyNumbers 36 = .ok (.imul, 1) := by decide +kernel
theorem dX2_multiplyNumbers_37 : decode cX2_multiplyNumbers 37 = .ok (.iadd, 1) := by decide +kernel
theorem dX2_multiplyNumbers_38 : decode cX2_multiplyNumbers 38 = .ok (.istore 4, 2) := by decide +kernel
theorem dX2_multiplyNumbers_40 : decode cX2_multiplyNumbers 40 = .ok (.iinc 5 1, 3) := by decide +kernel
theorem dX2_multiplyNumbers_43 : decode cX2_multiplyNumbers 43 = .ok (.goto (-37), 3) := by decide +kernel
theorem dX2_multiplyNumbers_46 : decode cX2_multiplyNumbers 46 = .ok (.aload_n 0, 1) := by decide +kernel
theorem dX2_multiplyNumbers_47 : decode cX2_multiplyNumbers 47 = .ok (.getfield 116, 3) := by decide +kernel
theorem dX2_multiplyNumbers_50 : decode cX2_multiplyNumbers 50 = .ok (.iload_n 1, 1) := by decide +kernel
theorem dX2_multiplyNumbers_51 : decode cX2_multiplyNumbers 51 = .ok (.iload 4, 2) := by decide +kernel
theorem dX2_multiplyNumbers_53 : decode cX2_multiplyNumbers 53 = .ok (.iastore, 1) := by decide +kernel
theorem dX2_multiplyNumbers_54 : decode cX2_multiplyNumbers 54 = .ok (.return_, 1) := by decide +kernel
theorem dX2_multiplyReals_0 : decode cX2_multiplyReals 0 = .ok (.dconst 0, 1) := by decide +kernel
theorem dX2_multiplyReals_1 : decode cX2_multiplyReals 1 = .ok (.dstore 4, 2) := by decide +kernel
theorem dX2_multiplyReals_3 : decode cX2_multiplyReals 3 = .ok (.iconst 0, 1) := by decide +kernel
theorem dX2_multiplyReals_4 : decode cX2_multiplyReals 4 = .ok (.istore 6, 2) := by decide +kernel
theorem dX2_multiplyReals_6 : decode cX2_multiplyReals 6 = .ok (.iload 6, 2) := by decide +kernel
theorem dX2_multiplyReals_8 : decode cX2_multiplyReals 8 = .ok (.aload_n 2, 1) := by decide +kernel
theorem dX2_multiplyReals_9 : decode cX2_multiplyReals 9 = .ok (.invokevirtual 82, 3) := by decide +kernel
theorem dX2_multiplyReals_12 : decode cX2_multiplyReals 12 = .ok (.if_icmp .ge 102, 3) := by decide +kernel
theorem dX2_multiplyReals_15 : decode cX2_multiplyReals 15 = .ok (.aload_n 3, 1) := by decide +kernel
theorem dX2_multiplyReals_16 : decode cX2_multiplyReals 16 = .ok (.getfield 49, 3) := by decide +kernel
theorem dX2_multiplyReals_19 : decode cX2_multiplyReals 19 = .ok (.iload 6, 2) := by decide +kernel
theorem dX2_multiplyReals_21 : decode cX2_multiplyReals 21 = .ok (.aaload, 1) := by decide +kernel
theorem dX2_multiplyReals_22 : decode cX2_multiplyReals 22 = .ok (.astore 7, 2) := by decide +kernel
theorem dX2_multiplyReals_24 : decode cX2_multiplyReals 24 = .ok (.aload_n 2, 1) := by decide +kernel
theorem dX2_multiplyReals_25 : decode cX2_multiplyReals 25 = .ok (.iload 6, 2) := by decide +kernel
theorem dX2_multiplyReals_27 : decode cX2_multiplyReals 27 = .ok (.invokevirtual 184, 3) := by decide +kernel
theorem dX2_multiplyReals_30 : decode cX2_multiplyReals 30 = .ok (.ifCond .ne 32, 3) := by decide +kernel
theorem dX2_multiplyReals_33 : decode cX2_multiplyReals 33 = .ok (.aload 7, 2) := by decide +kernel
theorem dX2_multiplyReals_35 : decode cX2_multiplyReals 35 = .ok (.iload_n 1, 1) := by decide +kernel
theorem dX2_multiplyReals_36 : decode cX2_multiplyReals 36 = .ok (.invokevirtual 184, 3) := by decide +kernel
theorem dX2_multiplyReals_39 : decode cX2_multiplyReals 39 = .ok (.ifCond .ne 23, 3) := by decide +kernel
theorem dX2_multiplyReals_42 : decode cX2_multiplyReals 42 = .ok (.aload_n 2, 1) := by decide +kernel
theorem dX2_multiplyReals_43 : decode cX2_multiplyReals 43 = .ok (.getfield 72, 3) := by decide +kernel
theorem dX2_multiplyReals_46 : decode cX2_multiplyReals 46 = .ok (.iload 6, 2) := by decide +kernel
theorem dX2_multiplyReals_48 : decode cX2_multiplyReals 48 = .ok (.daload, 1) := by decide +kernel
theorem dX2_multiplyReals_49 : decode cX2_multiplyReals 49 = .ok (.aload 7, 2) := by decide +kernel
theorem dX2_multiplyReals_51 : decode cX2_multiplyReals 51 = .ok (.getfield 72, 3) := by decide +kernel
theorem dX2_multiplyReals_54 : decode cX2_multiplyReals 54 = .ok (.iload_n 1, 1) := by decide +kernel
theorem dX2_multiplyReals_55 : decode cX2_multiplyReals 55 = .ok (.daload, 1) := by decide +kernel
theorem dX2_multiplyReals_56 : decode cX2_multiplyReals 56 = .ok (.invokestatic 187, 3) := by decide +kernel
theorem dX2_multiplyReals_59 : decode cX2_multiplyReals 59 = .ok (.ifCond .eq 9, 3) := by decide +kernel
theorem dX2_multiplyReals_62 : decode cX2_multiplyReals 62 = .ok (.aload_n 0, 1) := by decide +kernel
theorem dX2_multiplyReals_63 : decode cX2_multiplyReals 63 = .ok (.iload_n 1, 1) := by decide +kernel
theorem dX2_multiplyReals_64 : decode cX2_multiplyReals 64 = .ok (.invokevirtual 191, 3) := by decide +kernel
theorem dX2_multiplyReals_67 : decode cX2_multiplyReals 67 = .ok (.return_, 1) := by decide +kernel
theorem dX2_multiplyReals_68 : decode cX2_multiplyReals 68 = .ok (.aload_n 2, 1) := by decide +kernel
theorem dX2_multiplyReals_69 : decode cX2_multiplyReals 69 = .ok (.getfield 72, 3) := by decide +kernel
theorem dX2_multiplyReals_72 : decode cX2_multiplyReals 72 = .ok (.iload 6, 2) := by decide +kernel
theorem dX2_multiplyReals_74 : decode cX2_multiplyReals 74 = .ok (.daload, 1) := by decide +kernel
theorem dX2_multiplyReals_75 : decode cX2_multiplyReals 75 = .ok (.aload 7, 2) := by decide +kernel
theorem dX2_multiplyReals_77 : decode cX2_multiplyReals 77 = .ok (.getfield 72, 3) := by decide +kernel
theorem dX2_multiplyReals_80 : decode cX2_multiplyReals 80 = .ok (.iload_n 1, 1) := by decide +kernel
theorem dX2_multiplyReals_81 : decode cX2_multiplyReals 81 = .ok (.daload, 1) := by decide +kernel
theorem dX2_multiplyReals_82 : decode cX2_multiplyReals 82 = .ok (.dmul, 1) := by decide +kernel
theorem dX2_multiplyReals_83 : decode cX2_multiplyReals 83 = .ok (.dstore 8, 2) := by decide +kernel
theorem dX2_multiplyReals_85 : decode cX2_multiplyReals 85 = .ok (.dload 4, 2) := by decide +kernel
theorem dX2_multiplyReals_87 : decode cX2_multiplyReals 87 = .ok (.dload 8, 2) := by decide +kernel
theorem dX2_multiplyReals_89 : decode cX2_multiplyReals 89 = .ok (.invokestatic 195, 3) := by decide +kernel
theorem dX2_multiplyReals_92 : decode cX2_multiplyReals 92 = .ok (.ifCond .eq 9, 3) := by decide +kernel
theorem dX2_multiplyReals_95 : decode cX2_multiplyReals 95 = .ok (.aload_n 0, 1) := by decide +kernel
theorem dX2_multiplyReals_96 : decode cX2_multiplyReals 96 = .ok (.iload_n 1, 1) := by decide +kernel
theorem dX2_multiplyReals_97 : decode cX2_multiplyReals 97 = .ok (.invokevirtual 191, 3) := by decide +kernel
theorem dX2_multiplyReals_100 : decode cX2_multiplyReals 100 = .ok (.return_, 1) := by decide +kernel
theorem dX2_multiplyReals_101 : decode cX2_multiplyReals 101 = .ok (.dload 4, 2) := by decide +kernel
theorem dX2_multiplyReals_103 : decode cX2_multiplyReals 103 = .ok (.dload 8, 2) := by decide +kernel
theorem dX2_multiplyReals_105 : decode cX2_multiplyReals 105 = .ok (.dadd, 1) := by decide +kernel
theorem dX2_multiplyReals_106 : decode cX2_multiplyReals 106 = .ok (.dstore 4, 2) := by decide +kernel
theorem dX2_multiplyReals_108 : decode cX2_multiplyReals 108 = .ok (.iinc 6 1, 3) := by decide +kernel
theorem dX2_multiplyReals_111 : decode cX2_multiplyReals 111 = .ok (.goto (-105), 3) := by decide +kernel
theorem dX2_multiplyReals_114 : decode cX2_multiplyReals 114 = .ok (.aload_n 0, 1) := by decide +kernel
theorem dX2_multiplyReals_115 : decode cX2_multiplyReals 115 = .ok (.getfield 72, 3) := by decide +kernel
theorem dX2_multiplyReals_118 : decode cX2_multiplyReals 118 = .ok (.iload_n 1, 1) := by decide +kernel
theorem dX2_multiplyReals_119 : decode cX2_multiplyReals 119 = .ok (.dload 4, 2) := by decide +kernel
theorem dX2_multiplyReals_121 : decode cX2_multiplyReals 121 = .ok (.dastore, 1) := by decide +kernel
theorem dX2_multiplyReals_122 : decode cX2_multiplyReals 122 = .ok (.return_, 1) := by decide +kernel
theorem dX2_isNoProduct_0 : decode cX2_isNoProduct 0 = .ok (.dload_n 0, 1) := by decide +kernel
theorem dX2_isNoProduct_1 : decode cX2_isNoProduct 1 = .ok (.dconst 0, 1) := by decide +kernel
theorem dX2_isNoProduct_2 : decode cX2_isNoProduct 2 = .ok (.dcmp .l, 1) := by decide +kernel
theorem dX2_isNoProduct_3 : decode cX2_isNoProduct 3 = .ok (.ifCond .ne 10, 3) := by decide +kernel
theorem dX2_isNoProduct_6 : decode cX2_isNoProduct 6 = .ok (.dload_n 2, 1) := by decide +kernel
theorem dX2_isNoProduct_7 : decode cX2_isNoProduct 7 = .ok (.invokestatic 198, 3) := by decide +kernel
theorem dX2_isNoProduct_10 : decode cX2_isNoProduct 10 = .ok (.ifCond .ne 16, 3) := by decide +kernel
theorem dX2_isNoProduct_13 : decode cX2_isNoProduct 13 = .ok (.dload_n 2, 1) := by decide +kernel
theorem dX2_isNoProduct_14 : decode cX2_isNoProduct 14 = .ok (.dconst 0, 1) := by decide +kernel
theorem dX2_isNoProduct_15 : decode cX2_isNoProduct 15 = .ok (.dcmp .l, 1) := by decide +kernel
theorem dX2_isNoProduct_16 : decode cX2_isNoProduct 16 = .ok (.ifCond .ne 14, 3) := by decide +kernel
theorem dX2_isNoProduct_19 : decode cX2_isNoProduct 19 = .ok (.dload_n 0, 1) := by decide +kernel
theorem dX2_isNoProduct_20 : decode cX2_isNoProduct 20 = .ok (.invokestatic 198, 3) := by decide +kernel
theorem dX2_isNoProduct_23 : decode cX2_isNoProduct 23 = .ok (.ifCond .eq 7, 3) := by decide +kernel
theorem dX2_isNoProduct_26 : decode cX2_isNoProduct 26 = .ok (.iconst 1, 1) := by decide +kernel
theorem dX2_isNoProduct_27 : decode cX2_isNoProduct 27 = .ok (.goto 4, 3) := by decide +kernel
theorem dX2_isNoProduct_30 : decode cX2_isNoProduct 30 = .ok (.iconst 0, 1) := by decide +kernel
theorem dX2_isNoProduct_31 : decode cX2_isNoProduct 31 = .ok (.ireturn, 1) := by decide +kernel
theorem dX2_isNoSum_0 : decode cX2_isNoSum 0 = .ok (.dload_n 0, 1) := by decide +kernel
theorem dX2_isNoSum_1 : decode cX2_isNoSum 1 = .ok (.invokestatic 198, 3) := by decide +kernel
theorem dX2_isNoSum_4 : decode cX2_isNoSum 4 = .ok (.ifCond .eq 20, 3) := by decide +kernel
theorem dX2_isNoSum_7 : decode cX2_isNoSum 7 = .ok (.dload_n 2, 1) := by decide +kernel
theorem dX2_isNoSum_8 : decode cX2_isNoSum 8 = .ok (.invokestatic 198, 3) := by decide +kernel
theorem dX2_isNoSum_11 : decode cX2_isNoSum 11 = .ok (.ifCond .eq 13, 3) := by decide +kernel
theorem dX2_isNoSum_14 : decode cX2_isNoSum 14 = .ok (.dload_n 0, 1) := by decide +kernel
theorem dX2_isNoSum_15 : decode cX2_isNoSum 15 = .ok (.dload_n 2, 1) := by decide +kernel
theorem dX2_isNoSum_16 : decode cX2_isNoSum 16 = .ok (.dcmp .l, 1) := by decide +kernel
theorem dX2_isNoSum_17 : decode cX2_isNoSum 17 = .ok (.ifCond .eq 7, 3) := by decide +kernel
theorem dX2_isNoSum_20 : decode cX2_isNoSum 20 = .ok (.iconst 1, 1) := by decide +kernel
theorem dX2_isNoSum_21 : decode cX2_isNoSum 21 = .ok (.goto 4, 3) := by decide +kernel
theorem dX2_isNoSum_24 : decode cX2_isNoSum 24 = .ok (.iconst 0, 1) := by decide +kernel
theorem dX2_isNoSum_25 : decode cX2_isNoSum 25 = .ok (.ireturn, 1) := by decide +kernel
theorem dX2_isEndless_0 : decode cX2_isEndless 0 = .ok (.dload_n 0, 1) := by decide +kernel
theorem dX2_isEndless_1 : decode cX2_isEndless 1 = .ok (.ldc2_w 202, 3) := by decide +kernel
theorem dX2_isEndless_4 : decode cX2_isEndless 4 = .ok (.dcmp .l, 1) := by decide +kernel
theorem dX2_isEndless_5 : decode cX2_isEndless 5 = .ok (.ifCond .gt 11, 3) := by decide +kernel
theorem dX2_isEndless_8 : decode cX2_isEndless 8 = .ok (.dload_n 0, 1) := by decide +kernel
theorem dX2_isEndless_9 : decode cX2_isEndless 9 = .ok (.ldc2_w 204, 3) := by decide +kernel
theorem dX2_isEndless_12 : decode cX2_isEndless 12 = .ok (.dcmp .g, 1) := by decide +kernel
theorem dX2_isEndless_13 : decode cX2_isEndless 13 = .ok (.ifCond .ge 7, 3) := by decide +kernel
theorem dX2_isEndless_16 : decode cX2_isEndless 16 = .ok (.iconst 1, 1) := by decide +kernel
theorem dX2_isEndless_17 : decode cX2_isEndless 17 = .ok (.goto 4, 3) := by decide +kernel
theorem dX2_isEndless_20 : decode cX2_isEndless 20 = .ok (.iconst 0, 1) := by decide +kernel
theorem dX2_isEndless_21 : decode cX2_isEndless 21 = .ok (.ireturn, 1) := by decide +kernel
theorem dX2_writeSteps_0 : decode cX2_writeSteps 0 = .ok (.iconst 0, 1) := by decide +kernel
theorem dX2_writeSteps_1 : decode cX2_writeSteps 1 = .ok (.istore_n 3, 1) := by decide +kernel
theorem dX2_writeSteps_2 : decode cX2_writeSteps 2 = .ok (.iload_n 3, 1) := by decide +kernel
theorem dX2_writeSteps_3 : decode cX2_writeSteps 3 = .ok (.aload_n 0, 1) := by decide +kernel
theorem dX2_writeSteps_4 : decode cX2_writeSteps 4 = .ok (.arraylength, 1) := by decide +kernel
theorem dX2_writeSteps_5 : decode cX2_writeSteps 5 = .ok (.if_icmp .ge 41, 3) := by decide +kernel
theorem dX2_writeSteps_8 : decode cX2_writeSteps 8 = .ok (.iload_n 3, 1) := by decide +kernel
theorem dX2_writeSteps_9 : decode cX2_writeSteps 9 = .ok (.aload_n 1, 1) := by decide +kernel
theorem dX2_writeSteps_10 : decode cX2_writeSteps 10 = .ok (.arraylength, 1) := by decide +kernel
theorem dX2_writeSteps_11 : decode cX2_writeSteps 11 = .ok (.if_icmp .ge 35, 3) := by decide +kernel
theorem dX2_writeSteps_14 : decode cX2_writeSteps 14 = .ok (.iload_n 3, 1) := by decide +kernel
theorem dX2_writeSteps_15 : decode cX2_writeSteps 15 = .ok (.iload_n 2, 1) := by decide +kernel
theorem dX2_writeSteps_16 : decode cX2_writeSteps 16 = .ok (.if_icmp .ne 10, 3) := by decide +kernel
theorem dX2_writeSteps_19 : decode cX2_writeSteps 19 = .ok (.aload_n 0, 1) := by decide +kernel
theorem dX2_writeSteps_20 : decode cX2_writeSteps 20 = .ok (.iload_n 3, 1) := by decide +kernel
theorem dX2_writeSteps_21 : decode cX2_writeSteps 21 = .ok (.iconst 0, 1) := by decide +kernel
theorem dX2_writeSteps_22 : decode cX2_writeSteps 22 = .ok (.iastore, 1) := by decide +kernel
theorem dX2_writeSteps_23 : decode cX2_writeSteps 23 = .ok (.goto 17, 3) := by decide +kernel
theorem dX2_writeSteps_26 : decode cX2_writeSteps 26 = .ok (.aload_n 0, 1) := by decide +kernel
theorem dX2_writeSteps_27 : decode cX2_writeSteps 27 = .ok (.iload_n 3, 1) := by decide +kernel
theorem dX2_writeSteps_28 : decode cX2_writeSteps 28 = .ok (.aload_n 1, 1) := by decide +kernel
theorem dX2_writeSteps_29 : decode cX2_writeSteps 29 = .ok (.iload_n 3, 1) := by decide +kernel
theorem dX2_writeSteps_30 : decode cX2_writeSteps 30 = .ok (.iaload, 1) := by decide +kernel
theorem dX2_writeSteps_31 : decode cX2_writeSteps 31 = .ok (.ifCond .eq 7, 3) := by decide +kernel
theorem dX2_writeSteps_34 : decode cX2_writeSteps 34 = .ok (.iconst 1, 1) := by decide +kernel
theorem dX2_writeSteps_35 : decode cX2_writeSteps 35 = .ok (.goto 4, 3) := by decide +kernel
theorem dX2_writeSteps_38 : decode cX2_writeSteps 38 = .ok (.iconst (-1), 1) := by decide +kernel
theorem dX2_writeSteps_39 : decode cX2_writeSteps 39 = .ok (.iastore, 1) := by decide +kernel
theorem dX2_writeSteps_40 : decode cX2_writeSteps 40 = .ok (.iinc 3 1, 3) := by decide +kernel
theorem dX2_writeSteps_43 : decode cX2_writeSteps 43 = .ok (.goto (-41), 3) := by decide +kernel
theorem dX2_writeSteps_46 : decode cX2_writeSteps 46 = .ok (.return_, 1) := by decide +kernel
theorem dX2_shortenThrough_0 : decode cX2_shortenThrough 0 = .ok (.aload_n 1, 1) := by decide +kernel
theorem dX2_shortenThrough_1 : decode cX2_shortenThrough 1 = .ok (.iload_n 0, 1) := by decide +kernel
theorem dX2_shortenThrough_2 : decode cX2_shortenThrough 2 = .ok (.iaload, 1) := by decide +kernel
theorem dX2_shortenThrough_3 : decode cX2_shortenThrough 3 = .ok (.iconst (-1), 1) := by decide +kernel
theorem dX2_shortenThrough_4 : decode cX2_shortenThrough 4 = .ok (.if_icmp .ne 4, 3) := by decide +kernel
theorem dX2_shortenThrough_7 : decode cX2_shortenThrough 7 = .ok (.return_, 1) := by decide +kernel
theorem dX2_shortenThrough_8 : decode cX2_shortenThrough 8 = .ok (.iconst 0, 1) := by decide +kernel
theorem dX2_shortenThrough_9 : decode cX2_shortenThrough 9 = .ok (.istore_n 3, 1) := by decide +kernel
theorem dX2_shortenThrough_10 : decode cX2_shortenThrough 10 = .ok (.iload_n 3, 1) := by decide +kernel
theorem dX2_shortenThrough_11 : decode cX2_shortenThrough 11 = .ok (.aload_n 1, 1) := by decide +kernel
theorem dX2_shortenThrough_12 : decode cX2_shortenThrough 12 = .ok (.arraylength, 1) := by decide +kernel
theorem dX2_shortenThrough_13 : decode cX2_shortenThrough 13 = .ok (.if_icmp .ge 51, 3) := by decide +kernel
theorem dX2_shortenThrough_16 : decode cX2_shortenThrough 16 = .ok (.iload_n 3, 1) := by decide +kernel
theorem dX2_shortenThrough_17 : decode cX2_shortenThrough 17 = .ok (.aload_n 2, 1) := by decide +kernel
theorem dX2_shortenThrough_18 : decode cX2_shortenThrough 18 = .ok (.arraylength, 1) := by decide +kernel
theorem dX2_shortenThrough_19 : decode cX2_shortenThrough 19 = .ok (.if_icmp .ge 45, 3) := by decide +kernel
theorem dX2_shortenThrough_22 : decode cX2_shortenThrough 22 = .ok (.aload_n 2, 1) := by decide +kernel
theorem dX2_shortenThrough_23 : decode cX2_shortenThrough 23 = .ok (.iload_n 3, 1) := by decide +kernel
theorem dX2_shortenThrough_24 : decode cX2_shortenThrough 24 = .ok (.iaload, 1) := by decide +kernel
theorem dX2_shortenThrough_25 : decode cX2_shortenThrough 25 = .ok (.iconst (-1), 1) := by decide +kernel
theorem dX2_shortenThrough_26 : decode cX2_shortenThrough 26 = .ok (.if_icmp .eq 32, 3) := by decide +kernel
theorem dX2_shortenThrough_29 : decode cX2_shortenThrough 29 = .ok (.aload_n 1, 1) := by decide +kernel
theorem dX2_shortenThrough_30 : decode cX2_shortenThrough 30 = .ok (.iload_n 0, 1) := by decide +kernel
theorem dX2_shortenThrough_31 : decode cX2_shortenThrough 31 = .ok (.iaload, 1) := by decide +kernel
theorem dX2_shortenThrough_32 : decode cX2_shortenThrough 32 = .ok (.aload_n 2, 1) := by decide +kernel
theorem dX2_shortenThrough_33 : decode cX2_shortenThrough 33 = .ok (.iload_n 3, 1) := by decide +kernel
theorem dX2_shortenThrough_34 : decode cX2_shortenThrough 34 = .ok (.iaload, 1) := by decide +kernel
theorem dX2_shortenThrough_35 : decode cX2_shortenThrough 35 = .ok (.iadd, 1) := by decide +kernel
theorem dX2_shortenThrough_36 : decode cX2_shortenThrough 36 = .ok (.istore 4, 2) := by decide +kernel
theorem dX2_shortenThrough_38 : decode cX2_shortenThrough 38 = .ok (.aload_n 1, 1) := by decide +kernel
theorem dX2_shortenThrough_39 : decode cX2_shortenThrough 39 = .ok (.iload_n 3, 1) := by decide +kernel
theorem dX2_shortenThrough_40 : decode cX2_shortenThrough 40 = .ok (.iaload, 1) := by decide +kernel
theorem dX2_shortenThrough_41 : decode cX2_shortenThrough 41 = .ok (.iconst (-1), 1) := by decide +kernel
theorem dX2_shortenThrough_42 : decode cX2_shortenThrough 42 = .ok (.if_icmp .eq 11, 3) := by decide +kernel
theorem dX2_shortenThrough_45 : decode cX2_shortenThrough 45 = .ok (.iload 4, 2) := by decide +kernel
theorem dX2_shortenThrough_47 : decode cX2_shortenThrough 47 = .ok (.aload_n 1, 1) := by decide +kernel
theorem dX2_shortenThrough_48 : decode cX2_shortenThrough 48 = .ok (.iload_n 3, 1) := by decide +kernel
theorem dX2_shortenThrough_49 : decode cX2_shortenThrough 49 = .ok (.iaload, 1) := by decide +kernel
theorem dX2_shortenThrough_50 : decode cX2_shortenThrough 50 = .ok (.if_icmp .ge 8, 3) := by decide +kernel
theorem dX2_shortenThrough_53 : decode cX2_shortenThrough 53 = .ok (.aload_n 1, 1) := by decide +kernel
theorem dX2_shortenThrough_54 : decode cX2_shortenThrough 54 = .ok (.iload_n 3, 1) := by decide +kernel
theorem dX2_shortenThrough_55 : decode cX2_shortenThrough 55 = .ok (.iload 4, 2) := by decide +kernel
theorem dX2_shortenThrough_57 : decode cX2_shortenThrough 57 = .ok (.iastore, 1) := by decide +kernel
theorem dX2_shortenThrough_58 : decode cX2_shortenThrough 58 = .ok (.iinc 3 1, 3) := by decide +kernel
theorem dX2_shortenThrough_61 : decode cX2_shortenThrough 61 = .ok (.goto (-51), 3) := by decide +kernel
theorem dX2_shortenThrough_64 : decode cX2_shortenThrough 64 = .ok (.return_, 1) := by decide +kernel
theorem dX2_packRow_0 : decode cX2_packRow 0 = .ok (.iconst 0, 1) := by decide +kernel
theorem dX2_packRow_1 : decode cX2_packRow 1 = .ok (.istore_n 3, 1) := by decide +kernel
theorem dX2_packRow_2 : decode cX2_packRow 2 = .ok (.iload_n 3, 1) := by decide +kernel
theorem dX2_packRow_3 : decode cX2_packRow 3 = .ok (.aload_n 1, 1) := by decide +kernel
theorem dX2_packRow_4 : decode cX2_packRow 4 = .ok (.arraylength, 1) := by decide +kernel
theorem dX2_packRow_5 : decode cX2_packRow 5 = .ok (.if_icmp .ge 40, 3) := by decide +kernel
theorem dX2_packRow_8 : decode cX2_packRow 8 = .ok (.iload_n 2, 1) := by decide +kernel
theorem dX2_packRow_9 : decode cX2_packRow 9 = .ok (.iload_n 3, 1) := by decide +kernel
theorem dX2_packRow_10 : decode cX2_packRow 10 = .ok (.iadd, 1) := by decide +kernel
theorem dX2_packRow_11 : decode cX2_packRow 11 = .ok (.istore 4, 2) := by decide +kernel
theorem dX2_packRow_13 : decode cX2_packRow 13 = .ok (.aload_n 1, 1) := by decide +kernel
theorem dX2_packRow_14 : decode cX2_packRow 14 = .ok (.iload_n 3, 1) := by decide +kernel
theorem dX2_packRow_15 : decode cX2_packRow 15 = .ok (.iaload, 1) := by decide +kernel
theorem dX2_packRow_16 : decode cX2_packRow 16 = .ok (.ifCond .eq 23, 3) := by decide +kernel
theorem dX2_packRow_19 : decode cX2_packRow 19 = .ok (.aload_n 0, 1) := by decide +kernel
theorem dX2_packRow_20 : decode cX2_packRow 20 = .ok (.getfield 16, 3) := by decide +kernel
theorem dX2_packRow_23 : decode cX2_packRow 23 = .ok (.iload 4, 2) := by decide +kernel
theorem dX2_packRow_25 : decode cX2_packRow 25 = .ok (.bipush 32, 2) := by decide +kernel
theorem dX2_packRow_27 : decode cX2_packRow 27 = .ok (.idiv, 1) := by decide +kernel
theorem dX2_packRow_28 : decode cX2_packRow 28 = .ok (.dup2, 1) := by decide +kernel
theorem dX2_packRow_29 : decode cX2_packRow 29 = .ok (.iaload, 1) := by decide +kernel
theorem dX2_packRow_30 : decode cX2_packRow 30 = .ok (.iconst 1, 1) := by decide +kernel
theorem dX2_packRow_31 : decode cX2_packRow 31 = .ok (.iload 4, 2) := by decide +kernel
theorem dX2_packRow_33 : decode cX2_packRow 33 = .ok (.bipush 32, 2) := by decide +kernel
theorem dX2_packRow_35 : decode cX2_packRow 35 = .ok (.irem, 1) := by decide +kernel
theorem dX2_packRow_36 : decode cX2_packRow 36 = .ok (.ishl, 1) := by decide +kernel
theorem dX2_packRow_37 : decode cX2_packRow 37 = .ok (.ior, 1) := by decide +kernel
theorem dX2_packRow_38 : decode cX2_packRow 38 = .ok (.iastore, 1) := by decide +kernel
theorem dX2_packRow_39 : decode cX2_packRow 39 = .ok (.iinc 3 1, 3) := by decide +kernel
theorem dX2_packRow_42 : decode cX2_packRow 42 = .ok (.goto (-40), 3) := by decide +kernel
theorem dX2_packRow_45 : decode cX2_packRow 45 = .ok (.return_, 1) := by decide +kernel
theorem dX2_totalOfTable_0 : decode cX2_totalOfTable 0 = .ok (.aload_n 0, 1) := by decide +kernel
theorem dX2_totalOfTable_1 : decode cX2_totalOfTable 1 = .ok (.getfield 20, 3) := by decide +kernel
theorem dX2_totalOfTable_4 : decode cX2_totalOfTable 4 = .ok (.iload_n 1, 1) := by decide +kernel
theorem dX2_totalOfTable_5 : decode cX2_totalOfTable 5 = .ok (.baload, 1) := by decide +kernel
theorem dX2_totalOfTable_6 : decode cX2_totalOfTable 6 = .ok (.ifCond .ne 9, 3) := by decide +kernel
theorem dX2_totalOfTable_9 : decode cX2_totalOfTable 9 = .ok (.iload_n 2, 1) := by decide +kernel
theorem dX2_totalOfTable_10 : decode cX2_totalOfTable 10 = .ok (.bipush 16, 2) := by decide +kernel
theorem dX2_totalOfTable_12 : decode cX2_totalOfTable 12 = .ok (.if_icmp .lt 10, 3) := by decide +kernel
theorem dX2_totalOfTable_15 : decode cX2_totalOfTable 15 = .ok (.aload_n 0, 1) := by decide +kernel
theorem dX2_totalOfTable_16 : decode cX2_totalOfTable 16 = .ok (.iconst 5, 1) := by decide +kernel
theorem dX2_totalOfTable_17 : decode cX2_totalOfTable 17 = .ok (.putfield 149, 3) := by decide +kernel
theorem dX2_totalOfTable_20 : decode cX2_totalOfTable 20 = .ok (.iconst 0, 1) := by decide +kernel
theorem dX2_totalOfTable_21 : decode cX2_totalOfTable 21 = .ok (.ireturn, 1) := by decide +kernel
theorem dX2_totalOfTable_22 : decode cX2_totalOfTable 22 = .ok (.aload_n 0, 1) := by decide +kernel
theorem dX2_totalOfTable_23 : decode cX2_totalOfTable 23 = .ok (.getfield 146, 3) := by decide +kernel
theorem dX2_totalOfTable_26 : decode cX2_totalOfTable 26 = .ok (.sipush 1000, 3) := by decide +kernel
theorem dX2_totalOfTable_29 : decode cX2_totalOfTable 29 = .ok (.if_icmp .lt 11, 3) := by decide +kernel
theorem dX2_totalOfTable_32 : decode cX2_totalOfTable 32 = .ok (.aload_n 0, 1) := by decide +kernel
theorem dX2_totalOfTable_33 : decode cX2_totalOfTable 33 = .ok (.bipush 6, 2) := by decide +kernel
theorem dX2_totalOfTable_35 : decode cX2_totalOfTable 35 = .ok (.putfield 149, 3) := by decide +kernel
theorem dX2_totalOfTable_38 : decode cX2_totalOfTable 38 = .ok (.iconst 0, 1) := by decide +kernel
theorem dX2_totalOfTable_39 : decode cX2_totalOfTable 39 = .ok (.ireturn, 1) := by decide +kernel
theorem dX2_totalOfTable_40 : decode cX2_totalOfTable 40 = .ok (.aload_n 0, 1) := by decide +kernel
theorem dX2_totalOfTable_41 : decode cX2_totalOfTable 41 = .ok (.dup, 1) := by decide +kernel
theorem dX2_totalOfTable_42 : decode cX2_totalOfTable 42 = .ok (.getfield 146, 3) := by decide +kernel
theorem dX2_totalOfTable_45 : decode cX2_totalOfTable 45 = .ok (.iconst 1, 1) := by decide +kernel
theorem dX2_totalOfTable_46 : decode cX2_totalOfTable 46 = .ok (.iadd, 1) := by decide +kernel
theorem dX2_totalOfTable_47 : decode cX2_totalOfTable 47 = .ok (.putfield 146, 3) := by decide +kernel
theorem dX2_totalOfTable_50 : decode cX2_totalOfTable 50 = .ok (.aload_n 0, 1) := by decide +kernel
theorem dX2_totalOfTable_51 : decode cX2_totalOfTable 51 = .ok (.getfield 20, 3) := by decide +kernel
theorem dX2_totalOfTable_54 : decode cX2_totalOfTable 54 = .ok (.iload_n 1, 1) := by decide +kernel
theorem dX2_totalOfTable_55 : decode cX2_totalOfTable 55 = .ok (.iconst 1, 1) := by decide +kernel
theorem dX2_totalOfTable_56 : decode cX2_totalOfTable 56 = .ok (.bastore, 1) := by decide +kernel
theorem dX2_totalOfTable_57 : decode cX2_totalOfTable 57 = .ok (.aload_n 0, 1) := by decide +kernel
theorem dX2_totalOfTable_58 : decode cX2_totalOfTable 58 = .ok (.getfield 11, 3) := by decide +kernel
theorem dX2_totalOfTable_61 : decode cX2_totalOfTable 61 = .ok (.iload_n 1, 1) := by decide +kernel
theorem dX2_totalOfTable_62 : decode cX2_totalOfTable 62 = .ok (.aaload, 1) := by decide +kernel
theorem dX2_totalOfTable_63 : decode cX2_totalOfTable 63 = .ok (.astore_n 3, 1) := by decide +kernel
theorem dX2_totalOfTable_64 : decode cX2_totalOfTable 64 = .ok (.iconst 0, 1) := by decide +kernel
theorem dX2_totalOfTable_65 : decode cX2_totalOfTable 65 = .ok (.istore 4, 2) := by decide +kernel
theorem dX2_totalOfTable_67 : decode cX2_totalOfTable 67 = .ok (.iconst 0, 1) := by decide +kernel
theorem dX2_totalOfTable_68 : decode cX2_totalOfTable 68 = .ok (.istore 5, 2) := by decide +kernel
theorem dX2_totalOfTable_70 : decode cX2_totalOfTable 70 = .ok (.iload 5, 2) := by decide +kernel
theorem dX2_totalOfTable_72 : decode cX2_totalOfTable 72 = .ok (.aload_n 3, 1) := by decide +kernel
theorem dX2_totalOfTable_73 : decode cX2_totalOfTable 73 = .ok (.getfield 76, 3) := by decide +kernel
theorem dX2_totalOfTable_76 : decode cX2_totalOfTable 76 = .ok (.if_icmp .ge 33, 3) := by decide +kernel
theorem dX2_totalOfTable_79 : decode cX2_totalOfTable 79 = .ok (.aload_n 0, 1) := by decide +kernel
theorem dX2_totalOfTable_80 : decode cX2_totalOfTable 80 = .ok (.getfield 149, 3) := by decide +kernel
theorem dX2_totalOfTable_83 : decode cX2_totalOfTable 83 = .ok (.ifCond .ne 26, 3) := by decide +kernel
theorem dX2_totalOfTable_86 : decode cX2_totalOfTable 86 = .ok (.iload 4, 2) := by decide +kernel
theorem dX2_totalOfTable_88 : decode cX2_totalOfTable 88 = .ok (.aload_n 0, 1) := by decide +kernel
theorem dX2_totalOfTable_89 : decode cX2_totalOfTable 89 = .ok (.aload_n 3, 1) := by decide +kernel
theorem dX2_totalOfTable_90 : decode cX2_totalOfTable 90 = .ok (.getfield 49, 3) := by decide +kernel
theorem dX2_totalOfTable_93 : decode cX2_totalOfTable 93 = .ok (.iload 5, 2) := by decide +kernel
theorem dX2_totalOfTable_95 : decode cX2_totalOfTable 95 = .ok (.aaload, 1) := by decide +kernel
theorem dX2_totalOfTable_96 : decode cX2_totalOfTable 96 = .ok (.iload_n 2, 1) := by decide +kernel
theorem dX2_totalOfTable_97 : decode cX2_totalOfTable 97 = .ok (.invokevirtual 206, 3) := by decide +kernel
theorem dX2_totalOfTable_100 : decode cX2_totalOfTable 100 = .ok (.iadd, 1) := by decide +kernel
theorem dX2_totalOfTable_101 : decode cX2_totalOfTable 101 = .ok (.istore 4, 2) := by decide +kernel
theorem dX2_totalOfTable_103 : decode cX2_totalOfTable 103 = .ok (.iinc 5 1, 3) := by decide +kernel
theorem dX2_totalOfTable_106 : decode cX2_totalOfTable 106 = .ok (.goto (-36), 3) := by decide +kernel
theorem dX2_totalOfTable_109 : decode cX2_totalOfTable 109 = .ok (.aload_n 0, 1) := by decide +kernel
theorem dX2_totalOfTable_110 : decode cX2_totalOfTable 110 = .ok (.getfield 20, 3) := by decide +kernel
theorem dX2_totalOfTable_113 : decode cX2_totalOfTable 113 = .ok (.iload_n 1, 1) := by decide +kernel
theorem dX2_totalOfTable_114 : decode cX2_totalOfTable 114 = .ok (.iconst 0, 1) := by decide +kernel
theorem dX2_totalOfTable_115 : decode cX2_totalOfTable 115 = .ok (.bastore, 1) := by decide +kernel
theorem dX2_totalOfTable_116 : decode cX2_totalOfTable 116 = .ok (.iload 4, 2) := by decide +kernel
theorem dX2_totalOfTable_118 : decode cX2_totalOfTable 118 = .ok (.ireturn, 1) := by decide +kernel
theorem dX2_totalOfRow_0 : decode cX2_totalOfRow 0 = .ok (.aload_n 1, 1) := by decide +kernel
theorem dX2_totalOfRow_1 : decode cX2_totalOfRow 1 = .ok (.ifnonnull 10, 3) := by decide +kernel
theorem dX2_totalOfRow_4 : decode cX2_totalOfRow 4 = .ok (.aload_n 0, 1) := by decide +kernel
theorem dX2_totalOfRow_5 : decode cX2_totalOfRow 5 = .ok (.iconst 1, 1) := by decide +kernel
theorem dX2_totalOfRow_6 : decode cX2_totalOfRow 6 = .ok (.putfield 149, 3) := by decide +kernel
theorem dX2_totalOfRow_9 : decode cX2_totalOfRow 9 = .ok (.iconst 0, 1) := by decide +kernel
theorem dX2_totalOfRow_10 : decode cX2_totalOfRow 10 = .ok (.ireturn, 1) := by decide +kernel
theorem dX2_totalOfRow_11 : decode cX2_totalOfRow 11 = .ok (.aload_n 1, 1) := by decide +kernel
theorem dX2_totalOfRow_12 : decode cX2_totalOfRow 12 = .ok (.getfield 174, 3) := by decide +kernel
theorem dX2_totalOfRow_15 : decode cX2_totalOfRow 15 = .ok (.iconst 3, 1) := by decide +kernel
theorem dX2_totalOfRow_16 : decode cX2_totalOfRow 16 = .ok (.if_icmp .ne 12, 3) := by decide +kernel
theorem dX2_totalOfRow_19 : decode cX2_totalOfRow 19 = .ok (.aload_n 0, 1) := by decide +kernel
theorem dX2_totalOfRow_20 : decode cX2_totalOfRow 20 = .ok (.aload_n 1, 1) := by decide +kernel
theorem dX2_totalOfRow_21 : decode cX2_totalOfRow 21 = .ok (.iload_n 2, 1) := by decide +kernel
theorem dX2_totalOfRow_22 : decode cX2_totalOfRow 22 = .ok (.invokevirtual 210, 3) := by decide +kernel
theorem dX2_totalOfRow_25 : decode cX2_totalOfRow 25 = .ok (.goto 7, 3) := by decide +kernel
theorem dX2_totalOfRow_28 : decode cX2_totalOfRow 28 = .ok (.aload_n 1, 1) := by decide +kernel
theorem dX2_totalOfRow_29 : decode cX2_totalOfRow 29 = .ok (.invokevirtual 213, 3) := by decide +kernel
theorem dX2_totalOfRow_32 : decode cX2_totalOfRow 32 = .ok (.ireturn, 1) := by decide +kernel
theorem dX2_totalOfLinks_0 : decode cX2_totalOfLinks 0 = .ok (.iconst 0, 1) := by decide +kernel
theorem dX2_totalOfLinks_1 : decode cX2_totalOfLinks 1 = .ok (.istore_n 3, 1) := by decide +kernel
theorem dX2_totalOfLinks_2 : decode cX2_totalOfLinks 2 = .ok (.iconst 0, 1) := by decide +kernel
theorem dX2_totalOfLinks_3 : decode cX2_totalOfLinks 3 = .ok (.istore 4, 2) := by decide +kernel
theorem dX2_totalOfLinks_5 : decode cX2_totalOfLinks 5 = .ok (.iload 4, 2) := by decide +kernel
theorem dX2_totalOfLinks_7 : decode cX2_totalOfLinks 7 = .ok (.aload_n 1, 1) := by decide +kernel
theorem dX2_totalOfLinks_8 : decode cX2_totalOfLinks 8 = .ok (.invokevirtual 82, 3) := by decide +kernel
theorem dX2_totalOfLinks_11 : decode cX2_totalOfLinks 11 = .ok (.if_icmp .ge 47, 3) := by decide +kernel
theorem dX2_totalOfLinks_14 : decode cX2_totalOfLinks 14 = .ok (.aload_n 0, 1) := by decide +kernel
theorem dX2_totalOfLinks_15 : decode cX2_totalOfLinks 15 = .ok (.getfield 149, 3) := by decide +kernel
theorem dX2_totalOfLinks_18 : decode cX2_totalOfLinks 18 = .ok (.ifCond .ne 40, 3) := by decide +kernel
theorem dX2_totalOfLinks_21 : decode cX2_totalOfLinks 21 = .ok (.aload_n 0, 1) := by decide +kernel
theorem dX2_totalOfLinks_22 : decode cX2_totalOfLinks 22 = .ok (.aload_n 1, 1) := by decide +kernel
theorem dX2_totalOfLinks_23 : decode cX2_totalOfLinks 23 = .ok (.getfield 116, 3) := by decide +kernel
theorem dX2_totalOfLinks_26 : decode cX2_totalOfLinks 26 = .ok (.iload 4, 2) := by decide +kernel
theorem dX2_totalOfLinks_28 : decode cX2_totalOfLinks 28 = .ok (.iaload, 1) := by decide +kernel
theorem dX2_totalOfLinks_29 : decode cX2_totalOfLinks 29 = .ok (.invokevirtual 41, 3) := by decide +kernel
theorem dX2_totalOfLinks_32 : decode cX2_totalOfLinks 32 = .ok (.ifCond .ne 20, 3) := by decide +kernel
theorem dX2_totalOfLinks_35 : decode cX2_totalOfLinks 35 = .ok (.iload_n 3, 1) := by decide +kernel
theorem dX2_totalOfLinks_36 : decode cX2_totalOfLinks 36 = .ok (.aload_n 0, 1) := by decide +kernel
theorem dX2_totalOfLinks_37 : decode cX2_totalOfLinks 37 = .ok (.aload_n 1, 1) := by decide +kernel
theorem dX2_totalOfLinks_38 : decode cX2_totalOfLinks 38 = .ok (.getfield 116, 3) := by decide +kernel
theorem dX2_totalOfLinks_41 : decode cX2_totalOfLinks 41 = .ok (.iload 4, 2) := by decide +kernel
theorem dX2_totalOfLinks_43 : decode cX2_totalOfLinks 43 = .ok (.iaload, 1) := by decide +kernel
theorem dX2_totalOfLinks_44 : decode cX2_totalOfLinks 44 = .ok (.iload_n 2, 1) := by decide +kernel
theorem dX2_totalOfLinks_45 : decode cX2_totalOfLinks 45 = .ok (.iconst 1, 1) := by decide +kernel
theorem dX2_totalOfLinks_46 : decode cX2_totalOfLinks 46 = .ok (.iadd, 1) := by decide +kernel
theorem dX2_totalOfLinks_47 : decode cX2_totalOfLinks 47 = .ok (.invokevirtual 152, 3) := by decide +kernel
theorem dX2_totalOfLinks_50 : decode cX2_totalOfLinks 50 = .ok (.iadd, 1) := by decide +kernel
theorem dX2_totalOfLinks_51 : decode cX2_totalOfLinks 51 = .ok (.istore_n 3, 1) := by decide +kernel
theorem dX2_totalOfLinks_52 : decode cX2_totalOfLinks 52 = .ok (.iinc 4 1, 3) := by decide +kernel
theorem dX2_totalOfLinks_55 : decode cX2_totalOfLinks 55 = .ok (.goto (-50), 3) := by decide +kernel
theorem dX2_totalOfLinks_58 : decode cX2_totalOfLinks 58 = .ok (.iload_n 3, 1) := by decide +kernel
theorem dX2_totalOfLinks_59 : decode cX2_totalOfLinks 59 = .ok (.ireturn, 1) := by decide +kernel
theorem dX2_depthOfTable_0 : decode cX2_depthOfTable 0 = .ok (.aload_n 0, 1) := by decide +kernel
theorem dX2_depthOfTable_1 : decode cX2_depthOfTable 1 = .ok (.getfield 24, 3) := by decide +kernel
theorem dX2_depthOfTable_4 : decode cX2_depthOfTable 4 = .ok (.iload_n 1, 1) := by decide +kernel
theorem dX2_depthOfTable_5 : decode cX2_depthOfTable 5 = .ok (.iaload, 1) := by decide +kernel
theorem dX2_depthOfTable_6 : decode cX2_depthOfTable 6 = .ok (.bipush (-2), 2) := by decide +kernel
theorem dX2_depthOfTable_8 : decode cX2_depthOfTable 8 = .ok (.if_icmp .eq 10, 3) := by decide +kernel
theorem dX2_depthOfTable_11 : decode cX2_depthOfTable 11 = .ok (.aload_n 0, 1) := by decide +kernel
theorem dX2_depthOfTable_12 : decode cX2_depthOfTable 12 = .ok (.getfield 24, 3) := by decide +kernel
theorem dX2_depthOfTable_15 : decode cX2_depthOfTable 15 = .ok (.iload_n 1, 1) := by decide +kernel
theorem dX2_depthOfTable_16 : decode cX2_depthOfTable 16 = .ok (.iaload, 1) := by decide +kernel
theorem dX2_depthOfTable_17 : decode cX2_depthOfTable 17 = .ok (.ireturn, 1) := by decide +kernel
theorem dX2_depthOfTable_18 : decode cX2_depthOfTable 18 = .ok (.aload_n 0, 1) := by decide +kernel
theorem dX2_depthOfTable_19 : decode cX2_depthOfTable 19 = .ok (.getfield 11, 3) := by decide +kernel
theorem dX2_depthOfTable_22 : decode cX2_depthOfTable 22 = .ok (.iload_n 1, 1) := by decide +kernel
theorem dX2_depthOfTable_23 : decode cX2_depthOfTable 23 = .ok (.aaload, 1) := by decide +kernel
theorem dX2_depthOfTable_24 : decode cX2_depthOfTable 24 = .ok (.astore_n 3, 1) := by decide +kernel
theorem dX2_depthOfTable_25 : decode cX2_depthOfTable 25 = .ok (.aload_n 3, 1) := by decide +kernel
theorem dX2_depthOfTable_26 : decode cX2_depthOfTable 26 = .ok (.getfield 55, 3) := by decide +kernel
theorem dX2_depthOfTable_29 : decode cX2_depthOfTable 29 = .ok (.iconst 3, 1) := by decide +kernel
theorem dX2_depthOfTable_30 : decode cX2_depthOfTable 30 = .ok (.if_icmp .eq 12, 3) := by decide +kernel
theorem dX2_depthOfTable_33 : decode cX2_depthOfTable 33 = .ok (.aload_n 0, 1) := by decide +kernel
theorem dX2_depthOfTable_34 : decode cX2_depthOfTable 34 = .ok (.getfield 24, 3) := by decide +kernel
theorem dX2_depthOfTable_37 : decode cX2_depthOfTable 37 = .ok (.iload_n 1, 1) := by decide +kernel
theorem dX2_depthOfTable_38 : decode cX2_depthOfTable 38 = .ok (.iconst 0, 1) := by decide +kernel
theorem dX2_depthOfTable_39 : decode cX2_depthOfTable 39 = .ok (.iastore, 1) := by decide +kernel
theorem dX2_depthOfTable_40 : decode cX2_depthOfTable 40 = .ok (.iconst 0, 1) := by decide +kernel
theorem dX2_depthOfTable_41 : decode cX2_depthOfTable 41 = .ok (.ireturn, 1) := by decide +kernel
theorem dX2_depthOfTable_42 : decode cX2_depthOfTable 42 = .ok (.aload_n 0, 1) := by decide +kernel
theorem dX2_depthOfTable_43 : decode cX2_depthOfTable 43 = .ok (.getfield 24, 3) := by decide +kernel
theorem dX2_depthOfTable_46 : decode cX2_depthOfTable 46 = .ok (.iload_n 1, 1) := by decide +kernel
theorem dX2_depthOfTable_47 : decode cX2_depthOfTable 47 = .ok (.iconst (-1), 1) := by decide +kernel
theorem dX2_depthOfTable_48 : decode cX2_depthOfTable 48 = .ok (.iastore, 1) := by decide +kernel
theorem dX2_depthOfTable_49 : decode cX2_depthOfTable 49 = .ok (.iconst 0, 1) := by decide +kernel
theorem dX2_depthOfTable_50 : decode cX2_depthOfTable 50 = .ok (.istore 4, 2) := by decide +kernel
theorem dX2_depthOfTable_52 : decode cX2_depthOfTable 52 = .ok (.iconst 0, 1) := by decide +kernel
theorem dX2_depthOfTable_53 : decode cX2_depthOfTable 53 = .ok (.istore 5, 2) := by decide +kernel
theorem dX2_depthOfTable_55 : decode cX2_depthOfTable 55 = .ok (.iload 5, 2) := by decide +kernel
theorem dX2_depthOfTable_57 : decode cX2_depthOfTable 57 = .ok (.aload_n 3, 1) := by decide +kernel
theorem dX2_depthOfTable_58 : decode cX2_depthOfTable 58 = .ok (.getfield 76, 3) := by decide +kernel
theorem dX2_depthOfTable_61 : decode cX2_depthOfTable 61 = .ok (.if_icmp .ge 40, 3) := by decide +kernel
theorem dX2_depthOfTable_64 : decode cX2_depthOfTable 64 = .ok (.aload_n 0, 1) := by decide +kernel
theorem dX2_depthOfTable_65 : decode cX2_depthOfTable 65 = .ok (.aload_n 3, 1) := by decide +kernel
theorem dX2_depthOfTable_66 : decode cX2_depthOfTable 66 = .ok (.getfield 49, 3) := by decide +kernel
theorem dX2_depthOfTable_69 : decode cX2_depthOfTable 69 = .ok (.iload 5, 2) := by decide +kernel
theorem dX2_depthOfTable_71 : decode cX2_depthOfTable 71 = .ok (.aaload, 1) := by decide +kernel
theorem dX2_depthOfTable_72 : decode cX2_depthOfTable 72 = .ok (.iload_n 2, 1) := by decide +kernel
theorem dX2_depthOfTable_73 : decode cX2_depthOfTable 73 = .ok (.invokevirtual 216, 3) := by decide +kernel
theorem dX2_depthOfTable_76 : decode cX2_depthOfTable 76 = .ok (.istore 6, 2) := by decide +kernel
theorem dX2_depthOfTable_78 : decode cX2_depthOfTable 78 = .ok (.iload 6, 2) := by decide +kernel
theorem dX2_depthOfTable_80 : decode cX2_depthOfTable 80 = .ok (.iconst (-1), 1) := by decide +kernel
theorem dX2_depthOfTable_81 : decode cX2_depthOfTable 81 = .ok (.if_icmp .ne 5, 3) := by decide +kernel
theorem dX2_depthOfTable_84 : decode cX2_depthOfTable 84 = .ok (.iconst (-1), 1) := by decide +kernel
theorem dX2_depthOfTable_85 : decode cX2_depthOfTable 85 = .ok (.ireturn, 1) := by decide +kernel
theorem dX2_depthOfTable_86 : decode cX2_depthOfTable 86 = .ok (.iload 4, 2) := by decide +kernel
theorem dX2_depthOfTable_88 : decode cX2_depthOfTable 88 = .ok (.iload 6, 2) := by decide +kernel
theorem dX2_depthOfTable_90 : decode cX2_depthOfTable 90 = .ok (.invokestatic 219, 3) := by decide +kernel
theorem dX2_depthOfTable_93 : decode cX2_depthOfTable 93 = .ok (.istore 4, 2) := by decide +kernel
theorem dX2_depthOfTable_95 : decode cX2_depthOfTable 95 = .ok (.iinc 5 1, 3) := by decide +kernel
theorem dX2_depthOfTable_98 : decode cX2_depthOfTable 98 = .ok (.goto (-43), 3) := by decide +kernel
theorem dX2_depthOfTable_101 : decode cX2_depthOfTable 101 = .ok (.aload_n 0, 1) := by decide +kernel
theorem dX2_depthOfTable_102 : decode cX2_depthOfTable 102 = .ok (.getfield 24, 3) := by decide +kernel
theorem dX2_depthOfTable_105 : decode cX2_depthOfTable 105 = .ok (.iload_n 1, 1) := by decide +kernel
theorem dX2_depthOfTable_106 : decode cX2_depthOfTable 106 = .ok (.iload 4, 2) := by decide +kernel
theorem dX2_depthOfTable_108 : decode cX2_depthOfTable 108 = .ok (.iconst 1, 1) := by decide +kernel
theorem dX2_depthOfTable_109 : decode cX2_depthOfTable 109 = .ok (.iadd, 1) := by decide +kernel
theorem dX2_depthOfTable_110 : decode cX2_depthOfTable 110 = .ok (.iastore, 1) := by decide +kernel
theorem dX2_depthOfTable_111 : decode cX2_depthOfTable 111 = .ok (.iload 4, 2) := by decide +kernel
theorem dX2_depthOfTable_113 : decode cX2_depthOfTable 113 = .ok (.iconst 1, 1) := by decide +kernel
theorem dX2_depthOfTable_114 : decode cX2_depthOfTable 114 = .ok (.iadd, 1) := by decide +kernel
theorem dX2_depthOfTable_115 : decode cX2_depthOfTable 115 = .ok (.ireturn, 1) := by decide +kernel
theorem dX2_deepestLink_0 : decode cX2_deepestLink 0 = .ok (.aload_n 1, 1) := by decide +kernel
theorem dX2_deepestLink_1 : decode cX2_deepestLink 1 = .ok (.ifnonnull 5, 3) := by decide +kernel
theorem dX2_deepestLink_4 : decode cX2_deepestLink 4 = .ok (.iconst 0, 1) := by decide +kernel
theorem dX2_deepestLink_5 : decode cX2_deepestLink 5 = .ok (.ireturn, 1) := by decide +kernel
theorem dX2_deepestLink_6 : decode cX2_deepestLink 6 = .ok (.iload_n 2, 1) := by decide +kernel
theorem dX2_deepestLink_7 : decode cX2_deepestLink 7 = .ok (.bipush 16, 2) := by decide +kernel
theorem dX2_deepestLink_9 : decode cX2_deepestLink 9 = .ok (.if_icmp .lt 5, 3) := by decide +kernel
theorem dX2_deepestLink_12 : decode cX2_deepestLink 12 = .ok (.iconst (-1), 1) := by decide +kernel
theorem dX2_deepestLink_13 : decode cX2_deepestLink 13 = .ok (.ireturn, 1) := by decide +kernel
theorem dX2_deepestLink_14 : decode cX2_deepestLink 14 = .ok (.iconst 0, 1) := by decide +kernel
theorem dX2_deepestLink_15 : decode cX2_deepestLink 15 = .ok (.istore_n 3, 1) := by decide +kernel
theorem dX2_deepestLink_16 : decode cX2_deepestLink 16 = .ok (.iconst 0, 1) := by decide +kernel
theorem dX2_deepestLink_17 : decode cX2_deepestLink 17 = .ok (.istore 4, 2) := by decide +kernel
theorem dX2_deepestLink_19 : decode cX2_deepestLink 19 = .ok (.iload 4, 2) := by decide +kernel
theorem dX2_deepestLink_21 : decode cX2_deepestLink 21 = .ok (.aload_n 1, 1) := by decide +kernel
theorem dX2_deepestLink_22 : decode cX2_deepestLink 22 = .ok (.invokevirtual 82, 3) := by decide +kernel
theorem dX2_deepestLink_25 : decode cX2_deepestLink 25 = .ok (.if_icmp .ge 57, 3) := by decide +kernel
theorem dX2_deepestLink_28 : decode cX2_deepestLink 28 = .ok (.aload_n 1, 1) := by decide +kernel
theorem dX2_deepestLink_29 : decode cX2_deepestLink 29 = .ok (.getfield 116, 3) := by decide +kernel
theorem dX2_deepestLink_32 : decode cX2_deepestLink 32 = .ok (.iload 4, 2) := by decide +kernel
theorem dX2_deepestLink_34 : decode cX2_deepestLink 34 = .ok (.iaload, 1) := by decide +kernel
theorem dX2_deepestLink_35 : decode cX2_deepestLink 35 = .ok (.istore 5, 2) := by decide +kernel
theorem dX2_deepestLink_37 : decode cX2_deepestLink 37 = .ok (.aload_n 0, 1) := by decide +kernel
theorem dX2_deepestLink_38 : decode cX2_deepestLink 38 = .ok (.iload 5, 2) := by decide +kernel
theorem dX2_deepestLink_40 : decode cX2_deepestLink 40 = .ok (.invokevirtual 41, 3) := by decide +kernel
theorem dX2_deepestLink_43 : decode cX2_deepestLink 43 = .ok (.ifCond .eq 7, 3) := by decide +kernel
theorem dX2_deepestLink_46 : decode cX2_deepestLink 46 = .ok (.iconst 0, 1) := by decide +kernel
theorem dX2_deepestLink_47 : decode cX2_deepestLink 47 = .ok (.goto 12, 3) := by decide +kernel
theorem dX2_deepestLink_50 : decode cX2_deepestLink 50 = .ok (.aload_n 0, 1) := by decide +kernel
theorem dX2_deepestLink_51 : decode cX2_deepestLink 51 = .ok (.iload 5, 2) := by decide +kernel
theorem dX2_deepestLink_53 : decode cX2_deepestLink 53 = .ok (.iload_n 2, 1) := by decide +kernel
theorem dX2_deepestLink_54 : decode cX2_deepestLink 54 = .ok (.iconst 1, 1) := by decide +kernel
theorem dX2_deepestLink_55 : decode cX2_deepestLink 55 = .ok (.iadd, 1) := by decide +kernel
theorem dX2_deepestLink_56 : decode cX2_deepestLink 56 = .ok (.invokevirtual 155, 3) := by decide +kernel
theorem dX2_deepestLink_59 : decode cX2_deepestLink 59 = .ok (.istore 6, 2) := by decide +kernel
theorem dX2_deepestLink_61 : decode cX2_deepestLink 61 = .ok (.iload 6, 2) := by decide +kernel
theorem dX2_deepestLink_63 : decode cX2_deepestLink 63 = .ok (.iconst (-1), 1) := by decide +kernel
theorem dX2_deepestLink_64 : decode cX2_deepestLink 64 = .ok (.if_icmp .ne 5, 3) := by decide +kernel
theorem dX2_deepestLink_67 : decode cX2_deepestLink 67 = .ok (.iconst (-1), 1) := by decide +kernel
theorem dX2_deepestLink_68 : decode cX2_deepestLink 68 = .ok (.ireturn, 1) := by decide +kernel
theorem dX2_deepestLink_69 : decode cX2_deepestLink 69 = .ok (.iload_n 3, 1) := by decide +kernel
theorem dX2_deepestLink_70 : decode cX2_deepestLink 70 = .ok (.iload 6, 2) := by decide +kernel
theorem dX2_deepestLink_72 : decode cX2_deepestLink 72 = .ok (.invokestatic 219, 3) := by decide +kernel
theorem dX2_deepestLink_75 : decode cX2_deepestLink 75 = .ok (.istore_n 3, 1) := by decide +kernel
theorem dX2_deepestLink_76 : decode cX2_deepestLink 76 = .ok (.iinc 4 1, 3) := by decide +kernel
theorem dX2_deepestLink_79 : decode cX2_deepestLink 79 = .ok (.goto (-60), 3) := by decide +kernel
theorem dX2_deepestLink_82 : decode cX2_deepestLink 82 = .ok (.iload_n 3, 1) := by decide +kernel
theorem dX2_deepestLink_83 : decode cX2_deepestLink 83 = .ok (.ireturn, 1) := by decide +kernel
theorem dX2_standingRows_0 : decode cX2_standingRows 0 = .ok (.aload_n 0, 1) := by decide +kernel
theorem dX2_standingRows_1 : decode cX2_standingRows 1 = .ok (.dup, 1) := by decide +kernel
theorem dX2_standingRows_2 : decode cX2_standingRows 2 = .ok (.getfield 224, 3) := by decide +kernel
theorem dX2_standingRows_5 : decode cX2_standingRows 5 = .ok (.iconst 1, 1) := by decide +kernel
theorem dX2_standingRows_6 : decode cX2_standingRows 6 = .ok (.iadd, 1) := by decide +kernel
theorem dX2_standingRows_7 : decode cX2_standingRows 7 = .ok (.putfield 224, 3) := by decide +kernel
theorem dX2_standingRows_10 : decode cX2_standingRows 10 = .ok (.iconst 0, 1) := by decide +kernel
theorem dX2_standingRows_11 : decode cX2_standingRows 11 = .ok (.istore_n 1, 1) := by decide +kernel
theorem dX2_standingRows_12 : decode cX2_standingRows 12 = .ok (.iconst 0, 1) := by decide +kernel
theorem dX2_standingRows_13 : decode cX2_standingRows 13 = .ok (.istore_n 2, 1) := by decide +kernel
theorem dX2_standingRows_14 : decode cX2_standingRows 14 = .ok (.iload_n 2, 1) := by decide +kernel
theorem dX2_standingRows_15 : decode cX2_standingRows 15 = .ok (.aload_n 0, 1) := by decide +kernel
theorem dX2_standingRows_16 : decode cX2_standingRows 16 = .ok (.getfield 158, 3) := by decide +kernel
theorem dX2_standingRows_19 : decode cX2_standingRows 19 = .ok (.if_icmp .ge 25, 3) := by decide +kernel
theorem dX2_standingRows_22 : decode cX2_standingRows 22 = .ok (.iload_n 1, 1) := by decide +kernel
theorem dX2_standingRows_23 : decode cX2_standingRows 23 = .ok (.aload_n 0, 1) := by decide +kernel
theorem dX2_standingRows_24 : decode cX2_standingRows 24 = .ok (.getfield 11, 3) := by decide +kernel
theorem dX2_standingRows_27 : decode cX2_standingRows 27 = .ok (.iload_n 2, 1) := by decide +kernel
theorem dX2_standingRows_28 : decode cX2_standingRows 28 = .ok (.aaload, 1) := by decide +kernel
theorem dX2_standingRows_29 : decode cX2_standingRows 29 = .ok (.aload_n 0, 1) := by decide +kernel
theorem dX2_standingRows_30 : decode cX2_standingRows 30 = .ok (.getfield 224, 3) := by decide +kernel
theorem dX2_standingRows_33 : decode cX2_standingRows 33 = .ok (.invokevirtual 227, 3) := by decide +kernel
theorem dX2_standingRows_36 : decode cX2_standingRows 36 = .ok (.iadd, 1) := by decide +kernel
theorem dX2_standingRows_37 : decode cX2_standingRows 37 = .ok (.istore_n 1, 1) := by decide +kernel
theorem dX2_standingRows_38 : decode cX2_standingRows 38 = .ok (.iinc 2 1, 3) := by decide +kernel
theorem dX2_standingRows_41 : decode cX2_standingRows 41 = .ok (.goto (-27), 3) := by decide +kernel
theorem dX2_standingRows_44 : decode cX2_standingRows 44 = .ok (.iload_n 1, 1) := by decide +kernel
theorem dX2_standingRows_45 : decode cX2_standingRows 45 = .ok (.ireturn, 1) := by decide +kernel
theorem dX2_allFallenPlaces_0 : decode cX2_allFallenPlaces 0 = .ok (.iconst 0, 1) := by decide +kernel
theorem dX2_allFallenPlaces_1 : decode cX2_allFallenPlaces 1 = .ok (.istore_n 1, 1) := by decide +kernel
theorem dX2_allFallenPlaces_2 : decode cX2_allFallenPlaces 2 = .ok (.iconst 0, 1) := by decide +kernel
theorem dX2_allFallenPlaces_3 : decode cX2_allFallenPlaces 3 = .ok (.istore_n 2, 1) := by decide +kernel
theorem dX2_allFallenPlaces_4 : decode cX2_allFallenPlaces 4 = .ok (.iload_n 2, 1) := by decide +kernel
theorem dX2_allFallenPlaces_5 : decode cX2_allFallenPlaces 5 = .ok (.aload_n 0, 1) := by decide +kernel
theorem dX2_allFallenPlaces_6 : decode cX2_allFallenPlaces 6 = .ok (.getfield 158, 3) := by decide +kernel
theorem dX2_allFallenPlaces_9 : decode cX2_allFallenPlaces 9 = .ok (.if_icmp .ge 21, 3) := by decide +kernel
theorem dX2_allFallenPlaces_12 : decode cX2_allFallenPlaces 12 = .ok (.iload_n 1, 1) := by decide +kernel
theorem dX2_allFallenPlaces_13 : decode cX2_allFallenPlaces 13 = .ok (.aload_n 0, 1) := by decide +kernel
theorem dX2_allFallenPlaces_14 : decode cX2_allFallenPlaces 14 = .ok (.getfield 11, 3) := by decide +kernel
theorem dX2_allFallenPlaces_17 : decode cX2_allFallenPlaces 17 = .ok (.iload_n 2, 1) := by decide +kernel
theorem dX2_allFallenPlaces_18 : decode cX2_allFallenPlaces 18 = .ok (.aaload, 1) := by decide +kernel
theorem dX2_allFallenPlaces_19 : decode cX2_allFallenPlaces 19 = .ok (.invokevirtual 127, 3) := by decide +kernel
theorem dX2_allFallenPlaces_22 : decode cX2_allFallenPlaces 22 = .ok (.iadd, 1) := by decide +kernel
theorem dX2_allFallenPlaces_23 : decode cX2_allFallenPlaces 23 = .ok (.istore_n 1, 1) := by decide +kernel
theorem dX2_allFallenPlaces_24 : decode cX2_allFallenPlaces 24 = .ok (.iinc 2 1, 3) := by decide +kernel
theorem dX2_allFallenPlaces_27 : decode cX2_allFallenPlaces 27 = .ok (.goto (-23), 3) := by decide +kernel
theorem dX2_allFallenPlaces_30 : decode cX2_allFallenPlaces 30 = .ok (.iload_n 1, 1) := by decide +kernel
theorem dX2_allFallenPlaces_31 : decode cX2_allFallenPlaces 31 = .ok (.ireturn, 1) := by decide +kernel
theorem dX3_init_0 : decode cX3_init 0 = .ok (.aload_n 0, 1) := by decide +kernel
theorem dX3_init_1 : decode cX3_init 1 = .ok (.invokespecial 1, 3) := by decide +kernel
theorem dX3_init_4 : decode cX3_init 4 = .ok (.aload_n 0, 1) := by decide +kernel
theorem dX3_init_5 : decode cX3_init 5 = .ok (.bipush 16, 2) := by decide +kernel
theorem dX3_init_7 : decode cX3_init 7 = .ok (.newarray .int, 2) := by decide +kernel
theorem dX3_init_9 : decode cX3_init 9 = .ok (.putfield 7, 3) := by decide +kernel
theorem dX3_init_12 : decode cX3_init 12 = .ok (.aload_n 0, 1) := by decide +kernel
theorem dX3_init_13 : decode cX3_init 13 = .ok (.bipush 16, 2) := by decide +kernel
theorem dX3_init_15 : decode cX3_init 15 = .ok (.newarray .int, 2) := by decide +kernel
theorem dX3_init_17 : decode cX3_init 17 = .ok (.putfield 13, 3) := by decide +kernel
theorem dX3_init_20 : decode cX3_init 20 = .ok (.aload_n 0, 1) := by decide +kernel
theorem dX3_init_21 : decode cX3_init 21 = .ok (.sipush 192, 3) := by decide +kernel
theorem dX3_init_24 : decode cX3_init 24 = .ok (.newarray .int, 2) := by decide +kernel
theorem dX3_init_26 : decode cX3_init 26 = .ok (.putfield 16, 3) := by decide +kernel
theorem dX3_init_29 : decode cX3_init 29 = .ok (.aload_n 0, 1) := by decide +kernel
theorem dX3_init_30 : decode cX3_init 30 = .ok (.sipush 900, 3) := by decide +kernel
theorem dX3_init_33 : decode cX3_init 33 = .ok (.newarray .int, 2) := by decide +kernel
theorem dX3_init_35 : decode cX3_init 35 = .ok (.putfield 19, 3) := by decide +kernel
theorem dX3_init_38 : decode cX3_init 38 = .ok (.aload_n 0, 1) := by decide +kernel
theorem dX3_init_39 : decode cX3_init 39 = .ok (.sipush 14400, 3) := by decide +kernel
theorem dX3_init_42 : decode cX3_init 42 = .ok (.newarray .int, 2) := by decide +kernel
theorem dX3_init_44 : decode cX3_init 44 = .ok (.putfield 22, 3) := by decide +kernel
theorem dX3_init_47 : decode cX3_init 47 = .ok (.aload_n 0, 1) := by decide +kernel
theorem dX3_init_48 : decode cX3_init 48 = .ok (.sipush 14400, 3) := by decide +kernel
theorem dX3_init_51 : decode cX3_init 51 = .ok (.newarray .double, 2) := by decide +kernel
theorem dX3_init_53 : decode cX3_init 53 = .ok (.putfield 25, 3) := by decide +kernel
theorem dX3_init_56 : decode cX3_init 56 = .ok (.aload_n 0, 1) := by decide +kernel
theorem dX3_init_57 : decode cX3_init 57 = .ok (.sipush 900, 3) := by decide +kernel
theorem dX3_init_60 : decode cX3_init 60 = .ok (.newarray .int, 2) := by decide +kernel
theorem dX3_init_62 : decode cX3_init 62 = .ok (.putfield 29, 3) := by decide +kernel
theorem dX3_init_65 : decode cX3_init 65 = .ok (.aload_n 0, 1) := by decide +kernel
theorem dX3_init_66 : decode cX3_init 66 = .ok (.bipush 8, 2) := by decide +kernel
theorem dX3_init_68 : decode cX3_init 68 = .ok (.newarray .int, 2) := by decide +kernel
theorem dX3_init_70 : decode cX3_init 70 = .ok (.putfield 32, 3) := by decide +kernel
theorem dX3_init_73 : decode cX3_init 73 = .ok (.aload_n 0, 1) := by decide +kernel
theorem dX3_init_74 : decode cX3_init 74 = .ok (.bipush 17, 2) := by decide +kernel
theorem dX3_init_76 : decode cX3_init 76 = .ok (.newarray .int, 2) := by decide +kernel
theorem dX3_init_78 : decode cX3_init 78 = .ok (.putfield 35, 3) := by decide +kernel
theorem dX3_init_81 : decode cX3_init 81 = .ok (.aload_n 0, 1) := by decide +kernel
theorem dX3_init_82 : decode cX3_init 82 = .ok (.bipush 17, 2) := by decide +kernel
theorem dX3_init_84 : decode cX3_init 84 = .ok (.newarray .int, 2) := by decide +kernel
theorem dX3_init_86 : decode cX3_init 86 = .ok (.putfield 38, 3) := by decide +kernel
theorem dX3_init_89 : decode cX3_init 89 = .ok (.aload_n 0, 1) := by decide +kernel
theorem dX3_init_90 : decode cX3_init 90 = .ok (.bipush 16, 2) := by decide +kernel
theorem dX3_init_92 : decode cX3_init 92 = .ok (.newarray .int, 2) := by decide +kernel
theorem dX3_init_94 : decode cX3_init 94 = .ok (.putfield 41, 3) := by decide +kernel
theorem dX3_init_97 : decode cX3_init 97 = .ok (.aload_n 0, 1) := by decide +kernel
theorem dX3_init_98 : decode cX3_init 98 = .ok (.bipush 16, 2) := by decide +kernel
theorem dX3_init_100 : decode cX3_init 100 = .ok (.newarray .int, 2) := by decide +kernel
theorem dX3_init_102 : decode cX3_init 102 = .ok (.putfield 44, 3) := by decide +kernel
theorem dX3_init_105 : decode cX3_init 105 = .ok (.aload_n 0, 1) := by decide +kernel
theorem dX3_init_106 : decode cX3_init 106 = .ok (.bipush 16, 2) := by decide +kernel
theorem dX3_init_108 : decode cX3_init 108 = .ok (.newarray .int, 2) := by decide +kernel
theorem dX3_init_110 : decode cX3_init 110 = .ok (.putfield 47, 3) := by decide +kernel
theorem dX3_init_113 : decode cX3_init 113 = .ok (.return_, 1) := by decide +kernel
theorem dX3_in_0 : decode cX3_in 0 = .ok (.iload_n 0, 1) := by decide +kernel
theorem dX3_in_1 : decode cX3_in 1 = .ok (.iload_n 1, 1) := by decide +kernel
theorem dX3_in_2 : decode cX3_in 2 = .ok (.if_icmp .lt 12, 3) := by decide +kernel
theorem dX3_in_5 : decode cX3_in 5 = .ok (.iload_n 0, 1) := by decide +kernel
theorem dX3_in_6 : decode cX3_in 6 = .ok (.iload_n 2, 1) := by decide +kernel
theorem dX3_in_7 : decode cX3_in 7 = .ok (.if_icmp .gt 7, 3) := by decide +kernel
theorem dX3_in_10 : decode cX3_in 10 = .ok (.iconst 1, 1) := by decide +kernel
theorem dX3_in_11 : decode cX3_in 11 = .ok (.goto 4, 3) := by decide +kernel
theorem dX3_in_14 : decode cX3_in 14 = .ok (.iconst 0, 1) := by decide +kernel
theorem dX3_in_15 : decode cX3_in 15 = .ok (.ireturn, 1) := by decide +kernel
theorem dX3_fails_0 : decode cX3_fails 0 = .ok (.aload_n 0, 1) := by decide +kernel
theorem dX3_fails_1 : decode cX3_fails 1 = .ok (.dup, 1) := by decide +kernel
theorem dX3_fails_2 : decode cX3_fails 2 = .ok (.getfield 50, 3) := by decide +kernel
theorem dX3_fails_5 : decode cX3_fails 5 = .ok (.iconst 1, 1) := by decide +kernel
theorem dX3_fails_6 : decode cX3_fails 6 = .ok (.iadd, 1) := by decide +kernel
theorem dX3_fails_7 : decode cX3_fails 7 = .ok (.putfield 50, 3) := by decide +kernel
theorem dX3_fails_10 : decode cX3_fails 10 = .ok (.ldc 54, 2) := by decide +kernel
theorem dX3_fails_12 : decode cX3_fails 12 = .ok (.iload_n 1, 1) := by decide +kernel
theorem dX3_fails_13 : decode cX3_fails 13 = .ok (.isub, 1) := by decide +kernel
theorem dX3_fails_14 : decode cX3_fails 14 = .ok (.ireturn, 1) := by decide +kernel
theorem dX3_isTable_0 : decode cX3_isTable 0 = .ok (.iload_n 1, 1) := by decide +kernel
theorem dX3_isTable_1 : decode cX3_isTable 1 = .ok (.iconst 0, 1) := by decide +kernel
theorem dX3_isTable_2 : decode cX3_isTable 2 = .ok (.aload_n 0, 1) := by decide +kernel
theorem dX3_isTable_3 : decode cX3_isTable 3 = .ok (.getfield 55, 3) := by decide +kernel
theorem dX3_isTable_6 : decode cX3_isTable 6 = .ok (.iconst 1, 1) := by decide +kernel
theorem dX3_isTable_7 : decode cX3_isTable 7 = .ok (.isub, 1) := by decide +kernel
theorem dX3_isTable_8 : decode cX3_isTable 8 = .ok (.invokestatic 58, 3) := by decide +kernel
theorem dX3_isTable_11 : decode cX3_isTable 11 = .ok (.ireturn, 1) := by decide +kernel
theorem dX3_newTable_0 : decode cX3_newTable 0 = .ok (.aload_n 0, 1) := by decide +kernel
theorem dX3_newTable_1 : decode cX3_newTable 1 = .ok (.getfield 7, 3) := by decide +kernel
theorem dX3_newTable_4 : decode cX3_newTable 4 = .ok (.aload_n 0, 1) := by decide +kernel
theorem dX3_newTable_5 : decode cX3_newTable 5 = .ok (.getfield 55, 3) := by decide +kernel
theorem dX3_newTable_8 : decode cX3_newTable 8 = .ok (.iload_n 1, 1) := by decide +kernel
theorem dX3_newTable_9 : decode cX3_newTable 9 = .ok (.iastore, 1) := by decide +kernel
theorem dX3_newTable_10 : decode cX3_newTable 10 = .ok (.aload_n 0, 1) := by decide +kernel
theorem dX3_newTable_11 : decode cX3_newTable 11 = .ok (.getfield 13, 3) := by decide +kernel
theorem dX3_newTable_14 : decode cX3_newTable 14 = .ok (.aload_n 0, 1) := by decide +kernel
theorem dX3_newTable_15 : decode cX3_newTable 15 = .ok (.getfield 55, 3) := by decide +kernel
theorem dX3_newTable_18 : decode cX3_newTable 18 = .ok (.iload_n 2, 1) := by decide +kernel
theorem dX3_newTable_19 : decode cX3_newTable 19 = .ok (.iastore, 1) := by decide +kernel
theorem dX3_newTable_20 : decode cX3_newTable 20 = .ok (.iconst 0, 1) := by decide +kernel
theorem dX3_newTable_21 : decode cX3_newTable 21 = .ok (.istore_n 3, 1) := by decide +kernel
theorem dX3_newTable_22 : decode cX3_newTable 22 = .ok (.iload_n 3, 1) := by decide +kernel
theorem dX3_newTable_23 : decode cX3_newTable 23 = .ok (.iload_n 2, 1) := by decide +kernel
theorem dX3_newTable_24 : decode cX3_newTable 24 = .ok (.if_icmp .ge 24, 3) := by decide +kernel
theorem dX3_newTable_27 : decode cX3_newTable 27 = .ok (.aload_n 0, 1) := by decide +kernel
theorem dX3_newTable_28 : decode cX3_newTable 28 = .ok (.getfield 16, 3) := by decide +kernel
theorem dX3_newTable_31 : decode cX3_newTable 31 = .ok (.bipush 12, 2) := by decide +kernel
theorem dX3_newTable_33 : decode cX3_newTable 33 = .ok (.aload_n 0, 1) := by decide +kernel
theorem dX3_newTable_34 : decode cX3_newTable 34 = .ok (.getfield 55, 3) := by decide +kernel
theorem dX3_newTable_37 : decode cX3_newTable 37 = .ok (.imul, 1) := by decide +kernel
theorem dX3_newTable_38 : decode cX3_newTable 38 = .ok (.iload_n 3, 1) := by decide +kernel
theorem dX3_newTable_39 : decode cX3_newTable 39 = .ok (.iadd, 1) := by decide +kernel
theorem dX3_newTable_40 : decode cX3_newTable 40 = .ok (.iconst (-1), 1) := by decide +kernel
theorem dX3_newTable_41 : decode cX3_newTable 41 = .ok (.iastore, 1) := by decide +kernel
theorem dX3_newTable_42 : decode cX3_newTable 42 = .ok (.iinc 3 1, 3) := by decide +kernel
theorem dX3_newTable_45 : decode cX3_newTable 45 = .ok (.goto (-23), 3) := by decide +kernel
theorem dX3_newTable_48 : decode cX3_newTable 48 = .ok (.aload_n 0, 1) := by decide +kernel
theorem dX3_newTable_49 : decode cX3_newTable 49 = .ok (.dup, 1) := by decide +kernel
theorem dX3_newTable_50 : decode cX3_newTable 50 = .ok (.getfield 55, 3) := by decide +kernel
theorem dX3_newTable_53 : decode cX3_newTable 53 = .ok (.iconst 1, 1) := by decide +kernel
theorem dX3_newTable_54 : decode cX3_newTable 54 = .ok (.iadd, 1) := by decide +kernel
theorem dX3_newTable_55 : decode cX3_newTable 55 = .ok (.putfield 55, 3) := by decide +kernel
theorem dX3_newTable_58 : decode cX3_newTable 58 = .ok (.aload_n 0, 1) := by decide +kernel
theorem dX3_newTable_59 : decode cX3_newTable 59 = .ok (.getfield 55, 3) := by decide +kernel
theorem dX3_newTable_62 : decode cX3_newTable 62 = .ok (.iconst 1, 1) := by decide +kernel
theorem dX3_newTable_63 : decode cX3_newTable 63 = .ok (.isub, 1) := by decide +kernel
theorem dX3_newTable_64 : decode cX3_newTable 64 = .ok (.ireturn, 1) := by decide +kernel
theorem dX3_newRow_0 : decode cX3_newRow 0 = .ok (.aload_n 0, 1) := by decide +kernel
theorem dX3_newRow_1 : decode cX3_newRow 1 = .ok (.getfield 19, 3) := by decide +kernel
theorem dX3_newRow_4 : decode cX3_newRow 4 = .ok (.aload_n 0, 1) := by decide +kernel
theorem dX3_newRow_5 : decode cX3_newRow 5 = .ok (.getfield 62, 3) := by decide +kernel
theorem dX3_newRow_8 : decode cX3_newRow 8 = .ok (.iload_n 2, 1) := by decide +kernel
theorem dX3_newRow_9 : decode cX3_newRow 9 = .ok (.iastore, 1) := by decide +kernel
theorem dX3_newRow_10 : decode cX3_newRow 10 = .ok (.iconst 0, 1) := by decide +kernel
theorem dX3_newRow_11 : decode cX3_newRow 11 = .ok (.istore_n 3, 1) := by decide +kernel
theorem dX3_newRow_12 : decode cX3_newRow 12 = .ok (.iload_n 3, 1) := by decide +kernel
theorem dX3_newRow_13 : decode cX3_newRow 13 = .ok (.bipush 16, 2) := by decide +kernel
theorem dX3_newRow_15 : decode cX3_newRow 15 = .ok (.if_icmp .ge 49, 3) := by decide +kernel
theorem dX3_newRow_18 : decode cX3_newRow 18 = .ok (.aload_n 0, 1) := by decide +kernel
theorem dX3_newRow_19 : decode cX3_newRow 19 = .ok (.getfield 22, 3) := by decide +kernel
theorem dX3_newRow_22 : decode cX3_newRow 22 = .ok (.bipush 16, 2) := by decide +kernel
theorem dX3_newRow_24 : decode cX3_newRow 24 = .ok (.aload_n 0, 1) := by decide +kernel
theorem dX3_newRow_25 : decode cX3_newRow 25 = .ok (.getfield 62, 3) := by decide +kernel
theorem dX3_newRow_28 : decode cX3_newRow 28 = .ok (.imul, 1) := by decide +kernel
theorem dX3_newRow_29 : decode cX3_newRow 29 = .ok (.iload_n 3, 1) := by decide +kernel
theorem dX3_newRow_30 : decode cX3_newRow 30 = .ok (.iadd, 1) := by decide +kernel
theorem dX3_newRow_31 : decode cX3_newRow 31 = .ok (.iload_n 1, 1) := by decide +kernel
theorem dX3_newRow_32 : decode cX3_newRow 32 = .ok (.iconst 3, 1) := by decide +kernel
theorem dX3_newRow_33 : decode cX3_newRow 33 = .ok (.if_icmp .ne 8, 3) := by decide +kernel
theorem dX3_newRow_36 : decode cX3_newRow 36 = .ok (.ldc 65, 2) := by decide +kernel
theorem dX3_newRow_38 : decode cX3_newRow 38 = .ok (.goto 4, 3) := by decide +kernel
theorem dX3_newRow_41 : decode cX3_newRow 41 = .ok (.iconst 0, 1) := by decide +kernel
theorem dX3_newRow_42 : decode cX3_newRow 42 = .ok (.iastore, 1) := by decide +kernel
theorem dX3_newRow_43 : decode cX3_newRow 43 = .ok (.aload_n 0, 1) := by decide +kernel
theorem dX3_newRow_44 : decode cX3_newRow 44 = .ok (.getfield 25, 3) := by decide +kernel
theorem dX3_newRow_47 : decode cX3_newRow 47 = .ok (.bipush 16, 2) := by decide +kernel
theorem dX3_newRow_49 : decode cX3_newRow 49 = .ok (.aload_n 0, 1) := by decide +kernel
theorem dX3_newRow_50 : decode cX3_newRow 50 = .ok (.getfield 62, 3) := by decide +kernel
theorem dX3_newRow_53 : decode cX3_newRow 53 = .ok (.imul, 1) := by decide +kernel
theorem dX3_newRow_54 : decode cX3_newRow 54 = .ok (.iload_n 3, 1) := by decide +kernel
theorem dX3_newRow_55 : decode cX3_newRow 55 = .ok (.iadd, 1) := by decide +kernel
theorem dX3_newRow_56 : decode cX3_newRow 56 = .ok (.dconst 0, 1) := by decide +kernel
theorem dX3_newRow_57 : decode cX3_newRow 57 = .ok (.dastore, 1) := by decide +kernel
theorem dX3_newRow_58 : decode cX3_newRow 58 = .ok (.iinc 3 1, 3) := by decide +kernel
theorem dX3_newRow_61 : decode cX3_newRow 61 = .ok (.goto (-49), 3) := by decide +kernel
theorem dX3_newRow_64 : decode cX3_newRow 64 = .ok (.aload_n 0, 1) := by decide +kernel
theorem dX3_newRow_65 : decode cX3_newRow 65 = .ok (.dup, 1) := by decide +kernel
theorem dX3_newRow_66 : decode cX3_newRow 66 = .ok (.getfield 62, 3) := by decide +kernel
theorem dX3_newRow_69 : decode cX3_newRow 69 = .ok (.iconst 1, 1) := by decide +kernel
theorem dX3_newRow_70 : decode cX3_newRow 70 = .ok (.iadd, 1) := by decide +kernel
theorem dX3_newRow_71 : decode cX3_newRow 71 = .ok (.putfield 62, 3) := by decide +kernel
theorem dX3_newRow_74 : decode cX3_newRow 74 = .ok (.aload_n 0, 1) := by decide +kernel
theorem dX3_newRow_75 : decode cX3_newRow 75 = .ok (.getfield 62, 3) := by decide +kernel
theorem dX3_newRow_78 : decode cX3_newRow 78 = .ok (.iconst 1, 1) := by decide +kernel
theorem dX3_newRow_79 : decode cX3_newRow 79 = .ok (.isub, 1) := by decide +kernel
theorem dX3_newRow_80 : decode cX3_newRow 80 = .ok (.ireturn, 1) := by decide +kernel
theorem dX3_newEven_0 : decode cX3_newEven 0 = .ok (.aload_n 0, 1) := by decide +kernel
theorem dX3_newEven_1 : decode cX3_newEven 1 = .ok (.iload_n 1, 1) := by decide +kernel
theorem dX3_newEven_2 : decode cX3_newEven 2 = .ok (.iload_n 2, 1) := by decide +kernel
theorem dX3_newEven_3 : decode cX3_newEven 3 = .ok (.invokevirtual 66, 3) := by decide +kernel
theorem dX3_newEven_6 : decode cX3_newEven 6 = .ok (.istore 4, 2) := by decide +kernel
theorem dX3_newEven_8 : decode cX3_newEven 8 = .ok (.iconst 0, 1) := by decide +kernel
theorem dX3_newEven_9 : decode cX3_newEven 9 = .ok (.istore 5, 2) := by decide +kernel
theorem dX3_newEven_11 : decode cX3_newEven 11 = .ok (.iload 5, 2) := by decide +kernel
theorem dX3_newEven_13 : decode cX3_newEven 13 = .ok (.iload_n 2, 1) := by decide +kernel
theorem dX3_newEven_14 : decode cX3_newEven 14 = .ok (.if_icmp .ge 28, 3) := by decide +kernel
theorem dX3_newEven_17 : decode cX3_newEven 17 = .ok (.aload_n 0, 1) := by decide +kernel
theorem dX3_newEven_18 : decode cX3_newEven 18 = .ok (.getfield 16, 3) := by decide +kernel
theorem dX3_newEven_21 : decode cX3_newEven 21 = .ok (.bipush 12, 2) := by decide +kernel
theorem dX3_newEven_23 : decode cX3_newEven 23 = .ok (.iload 4, 2) := by decide +kernel
theorem dX3_newEven_25 : decode cX3_newEven 25 = .ok (.imul, 1) := by decide +kernel
theorem dX3_newEven_26 : decode cX3_newEven 26 = .ok (.iload 5, 2) := by decide +kernel
theorem dX3_newEven_28 : decode cX3_newEven 28 = .ok (.iadd, 1) := by decide +kernel
theorem dX3_newEven_29 : decode cX3_newEven 29 = .ok (.aload_n 0, 1) := by decide +kernel
theorem dX3_newEven_30 : decode cX3_newEven 30 = .ok (.iload_n 1, 1) := by decide +kernel
theorem dX3_newEven_31 : decode cX3_newEven 31 = .ok (.iload_n 3, 1) := by decide +kernel
theorem dX3_newEven_32 : decode cX3_newEven 32 = .ok (.invokevirtual 70, 3) := by decide +kernel
theorem dX3_newEven_35 : decode cX3_newEven 35 = .ok (.iastore, 1) := by decide +kernel
theorem dX3_newEven_36 : decode cX3_newEven 36 = .ok (.iinc 5 1, 3) := by decide +kernel
theorem dX3_newEven_39 : decode cX3_newEven 39 = .ok (.goto (-28), 3) := by decide +kernel
theorem dX3_newEven_42 : decode cX3_newEven 42 = .ok (.iload 4, 2) := by decide +kernel
theorem dX3_newEven_44 : decode cX3_newEven 44 = .ok (.ireturn, 1) := by decide +kernel
theorem dX3_table_0 : decode cX3_table 0 = .ok (.iload_n 1, 1) := by decide +kernel
theorem dX3_table_1 : decode cX3_table 1 = .ok (.iconst 0, 1) := by decide +kernel
theorem dX3_table_2 : decode cX3_table 2 = .ok (.iconst 3, 1) := by decide +kernel
theorem dX3_table_3 : decode cX3_table 3 = .ok (.invokestatic 58, 3) := by decide +kernel
theorem dX3_table_6 : decode cX3_table 6 = .ok (.ifCond .eq 9, 3) := by decide +kernel
theorem dX3_table_9 : decode cX3_table 9 = .ok (.iload_n 2, 1) := by decide +kernel
theorem dX3_table_10 : decode cX3_table 10 = .ok (.bipush 12, 2) := by decide +kernel
theorem dX3_table_12 : decode cX3_table 12 = .ok (.if_icmp .le 6, 3) := by decide +kernel
theorem dX3_table_15 : decode cX3_table 15 = .ok (.ldc 73, 2) := by decide +kernel
theorem dX3_table_17 : decode cX3_table 17 = .ok (.ireturn, 1) := by decide +kernel
theorem dX3_table_18 : decode cX3_table 18 = .ok (.aload_n 0, 1) := by decide +kernel
theorem dX3_table_19 : decode cX3_table 19 = .ok (.getfield 55, 3) := by decide +kernel
theorem dX3_table_22 : decode cX3_table 22 = .ok (.bipush 16, 2) := by decide +kernel
theorem dX3_table_24 : decode cX3_table 24 = .ok (.if_icmp .ne 6, 3) := by decide +kernel
theorem dX3_table_27 : decode cX3_table 27 = .ok (.ldc 74, 2) := by decide +kernel
theorem dX3_table_29 : decode cX3_table 29 = .ok (.ireturn, 1) := by decide +kernel
theorem dX3_table_30 : decode cX3_table 30 = .ok (.iload_n 2, 1) := by decide +kernel
theorem dX3_table_31 : decode cX3_table 31 = .ok (.ifCond .ge 11, 3) := by decide +kernel
theorem dX3_table_34 : decode cX3_table 34 = .ok (.aload_n 0, 1) := by decide +kernel
theorem dX3_table_35 : decode cX3_table 35 = .ok (.iconst 4, 1) := by decide +kernel
theorem dX3_table_36 : decode cX3_table 36 = .ok (.invokevirtual 75, 3) := by decide +kernel
theorem dX3_table_39 : decode cX3_table 39 = .ok (.goto 9, 3) := by decide +kernel
theorem dX3_table_42 : decode cX3_table 42 = .ok (.aload_n 0, 1) := by decide +kernel
theorem dX3_table_43 : decode cX3_table 43 = .ok (.iload_n 1, 1) := by decide +kernel
theorem dX3_table_44 : decode cX3_table 44 = .ok (.iload_n 2, 1) := by decide +kernel
theorem dX3_table_45 : decode cX3_table 45 = .ok (.invokevirtual 66, 3) := by decide +kernel
theorem dX3_table_48 : decode cX3_table 48 = .ok (.ireturn, 1) := by decide +kernel
theorem dX3_isPlace_0 : decode cX3_isPlace 0 = .ok (.iload_n 2, 1) := by decide +kernel
theorem dX3_isPlace_1 : decode cX3_isPlace 1 = .ok (.iconst 0, 1) := by decide +kernel
theorem dX3_isPlace_2 : decode cX3_isPlace 2 = .ok (.aload_n 0, 1) := by decide +kernel
theorem dX3_isPlace_3 : decode cX3_isPlace 3 = .ok (.getfield 13, 3) := by decide +kernel
theorem dX3_isPlace_6 : decode cX3_isPlace 6 = .ok (.iload_n 1, 1) := by decide +kernel
theorem dX3_isPlace_7 : decode cX3_isPlace 7 = .ok (.iaload, 1) := by decide +kernel
theorem dX3_isPlace_8 : decode cX3_isPlace 8 = .ok (.iconst 1, 1) := by decide +kernel
theorem dX3_isPlace_9 : decode cX3_isPlace 9 = .ok (.isub, 1) := by decide +kernel
theorem dX3_isPlace_10 : decode cX3_isPlace 10 = .ok (.invokestatic 58, 3) := by decide +kernel
theorem dX3_isPlace_13 : decode cX3_isPlace 13 = .ok (.ireturn, 1) := by decide +kernel
theorem dX3_row_0 : decode cX3_row 0 = .ok (.aload_n 0, 1) := by decide +kernel
theorem dX3_row_1 : decode cX3_row 1 = .ok (.iload_n 1, 1) := by decide +kernel
theorem dX3_row_2 : decode cX3_row 2 = .ok (.invokevirtual 79, 3) := by decide +kernel
theorem dX3_row_5 : decode cX3_row 5 = .ok (.ifCond .ne 6, 3) := by decide +kernel
theorem dX3_row_8 : decode cX3_row 8 = .ok (.ldc 83, 2) := by decide +kernel
theorem dX3_row_10 : decode cX3_row 10 = .ok (.ireturn, 1) := by decide +kernel
theorem dX3_row_11 : decode cX3_row 11 = .ok (.iload_n 3, 1) := by decide +kernel
theorem dX3_row_12 : decode cX3_row 12 = .ok (.bipush 16, 2) := by decide +kernel
theorem dX3_row_14 : decode cX3_row 14 = .ok (.if_icmp .le 6, 3) := by decide +kernel
theorem dX3_row_17 : decode cX3_row 17 = .ok (.ldc 73, 2) := by decide +kernel
theorem dX3_row_19 : decode cX3_row 19 = .ok (.ireturn, 1) := by decide +kernel
theorem dX3_row_20 : decode cX3_row 20 = .ok (.iload_n 3, 1) := by decide +kernel
theorem dX3_row_21 : decode cX3_row 21 = .ok (.ifCond .lt 12, 3) := by decide +kernel
theorem dX3_row_24 : decode cX3_row 24 = .ok (.aload_n 0, 1) := by decide +kernel
theorem dX3_row_25 : decode cX3_row 25 = .ok (.iload_n 1, 1) := by decide +kernel
theorem dX3_row_26 : decode cX3_row 26 = .ok (.iload_n 2, 1) := by decide +kernel
theorem dX3_row_27 : decode cX3_row 27 = .ok (.invokevirtual 84, 3) := by decide +kernel
theorem dX3_row_30 : decode cX3_row 30 = .ok (.ifCond .ne 17, 3) := by decide +kernel
theorem dX3_row_33 : decode cX3_row 33 = .ok (.aload_n 0, 1) := by decide +kernel
theorem dX3_row_34 : decode cX3_row 34 = .ok (.iload_n 3, 1) := by decide +kernel
theorem dX3_row_35 : decode cX3_row 35 = .ok (.ifCond .ge 7, 3) := by decide +kernel
theorem dX3_row_38 : decode cX3_row 38 = .ok (.iconst 4, 1) := by decide +kernel
theorem dX3_row_39 : decode cX3_row 39 = .ok (.goto 4, 3) := by decide +kernel
theorem dX3_row_42 : decode cX3_row 42 = .ok (.iconst 2, 1) := by decide +kernel
theorem dX3_row_43 : decode cX3_row 43 = .ok (.invokevirtual 75, 3) := by decide +kernel
theorem dX3_row_46 : decode cX3_row 46 = .ok (.ireturn, 1) := by decide +kernel
theorem dX3_row_47 : decode cX3_row 47 = .ok (.aload_n 0, 1) := by decide +kernel
theorem dX3_row_48 : decode cX3_row 48 = .ok (.invokevirtual 88, 3) := by decide +kernel
theorem dX3_row_51 : decode cX3_row 51 = .ok (.aload_n 0, 1) := by decide +kernel
theorem dX3_row_52 : decode cX3_row 52 = .ok (.getfield 16, 3) := by decide +kernel
theorem dX3_row_55 : decode cX3_row 55 = .ok (.bipush 12, 2) := by decide +kernel
theorem dX3_row_57 : decode cX3_row 57 = .ok (.iload_n 1, 1) := by decide +kernel
theorem dX3_row_58 : decode cX3_row 58 = .ok (.imul, 1) := by decide +kernel
theorem dX3_row_59 : decode cX3_row 59 = .ok (.iload_n 2, 1) := by decide +kernel
theorem dX3_row_60 : decode cX3_row 60 = .ok (.iadd, 1) := by decide +kernel
theorem dX3_row_61 : decode cX3_row 61 = .ok (.aload_n 0, 1) := by decide +kernel
theorem dX3_row_62 : decode cX3_row 62 = .ok (.aload_n 0, 1) := by decide +kernel
theorem dX3_row_63 : decode cX3_row 63 = .ok (.getfield 7, 3) := by decide +kernel
theorem dX3_row_66 : decode cX3_row 66 = .ok (.iload_n 1, 1) := by decide +kernel
theorem dX3_row_67 : decode cX3_row 67 = .ok (.iaload, 1) := by decide +kernel
theorem dX3_row_68 : decode cX3_row 68 = .ok (.iload_n 3, 1) := by decide +kernel
theorem dX3_row_69 : decode cX3_row 69 = .ok (.invokevirtual 70, 3) := by decide +kernel
theorem dX3_row_72 : decode cX3_row 72 = .ok (.iastore, 1) := by decide +kernel
theorem dX3_row_73 : decode cX3_row 73 = .ok (.iconst 1, 1) := by decide +kernel
theorem dX3_row_74 : decode cX3_row 74 = .ok (.ireturn, 1) := by decide +kernel
theorem dX3_squeeze_0 : decode cX3_squeeze 0 = .ok (.aload_n 0, 1) := by decide +kernel
theorem dX3_squeeze_1 : decode cX3_squeeze 1 = .ok (.getfield 62, 3) := by decide +kernel
theorem dX3_squeeze_4 : decode cX3_squeeze 4 = .ok (.sipush 500, 3) := by decide +kernel
theorem dX3_squeeze_7 : decode cX3_squeeze 7 = .ok (.if_icmp .ge 4, 3) := by decide +kernel
theorem dX3_squeeze_10 : decode cX3_squeeze 10 = .ok (.return_, 1) := by decide +kernel
theorem dX3_squeeze_11 : decode cX3_squeeze 11 = .ok (.iconst 0, 1) := by decide +kernel
theorem dX3_squeeze_12 : decode cX3_squeeze 12 = .ok (.istore_n 1, 1) := by decide +kernel
theorem dX3_squeeze_13 : decode cX3_squeeze 13 = .ok (.iload_n 1, 1) := by decide +kernel
theorem dX3_squeeze_14 : decode cX3_squeeze 14 = .ok (.aload_n 0, 1) := by decide +kernel
theorem dX3_squeeze_15 : decode cX3_squeeze 15 = .ok (.getfield 62, 3) := by decide +kernel
theorem dX3_squeeze_18 : decode cX3_squeeze 18 = .ok (.if_icmp .ge 16, 3) := by decide +kernel
theorem dX3_squeeze_21 : decode cX3_squeeze 21 = .ok (.aload_n 0, 1) := by decide +kernel
theorem dX3_squeeze_22 : decode cX3_squeeze 22 = .ok (.getfield 29, 3) := by decide +kernel
theorem dX3_squeeze_25 : decode cX3_squeeze 25 = .ok (.iload_n 1, 1) := by decide +kernel
theorem dX3_squeeze_26 : decode cX3_squeeze 26 = .ok (.iconst (-1), 1) := by decide +kernel
theorem dX3_squeeze_27 : decode cX3_squeeze 27 = .ok (.iastore, 1) := by decide +kernel
theorem dX3_squeeze_28 : decode cX3_squeeze 28 = .ok (.iinc 1 1, 3) := by decide +kernel
theorem dX3_squeeze_31 : decode cX3_squeeze 31 = .ok (.goto (-18), 3) := by decide +kernel
theorem dX3_squeeze_34 : decode cX3_squeeze 34 = .ok (.iconst 0, 1) := by decide +kernel
theorem dX3_squeeze_35 : decode cX3_squeeze 35 = .ok (.istore_n 1, 1) := by decide +kernel
theorem dX3_squeeze_36 : decode cX3_squeeze 36 = .ok (.iload_n 1, 1) := by decide +kernel
theorem dX3_squeeze_37 : decode cX3_squeeze 37 = .ok (.sipush 192, 3) := by decide +kernel
theorem dX3_squeeze_40 : decode cX3_squeeze 40 = .ok (.if_icmp .ge 57, 3) := by decide +kernel
theorem dX3_squeeze_43 : decode cX3_squeeze 43 = .ok (.iload_n 1, 1) := by decide +kernel
theorem dX3_squeeze_44 : decode cX3_squeeze 44 = .ok (.bipush 12, 2) := by decide +kernel
theorem dX3_squeeze_46 : decode cX3_squeeze 46 = .ok (.idiv, 1) := by decide +kernel
theorem dX3_squeeze_47 : decode cX3_squeeze 47 = .ok (.aload_n 0, 1) := by decide +kernel
theorem dX3_squeeze_48 : decode cX3_squeeze 48 = .ok (.getfield 55, 3) := by decide +kernel
theorem dX3_squeeze_51 : decode cX3_squeeze 51 = .ok (.if_icmp .ge 40, 3) := by decide +kernel
theorem dX3_squeeze_54 : decode cX3_squeeze 54 = .ok (.iload_n 1, 1) := by decide +kernel
theorem dX3_squeeze_55 : decode cX3_squeeze 55 = .ok (.bipush 12, 2) := by decide +kernel
theorem dX3_squeeze_57 : decode cX3_squeeze 57 = .ok (.irem, 1) := by decide +kernel
theorem dX3_squeeze_58 : decode cX3_squeeze 58 = .ok (.aload_n 0, 1) := by decide +kernel
theorem dX3_squeeze_59 : decode cX3_squeeze 59 = .ok (.getfield 13, 3) := by decide +kernel
theorem dX3_squeeze_62 : decode cX3_squeeze 62 = .ok (.iload_n 1, 1) := by decide +kernel
theorem dX3_squeeze_63 : decode cX3_squeeze 63 = .ok (.bipush 12, 2) := by decide +kernel
theorem dX3_squeeze_65 : decode cX3_squeeze 65 = .ok (.idiv, 1) := by decide +kernel
theorem dX3_squeeze_66 : decode cX3_squeeze 66 = .ok (.iaload, 1) := by decide +kernel
theorem dX3_squeeze_67 : decode cX3_squeeze 67 = .ok (.if_icmp .ge 24, 3) := by decide +kernel
theorem dX3_squeeze_70 : decode cX3_squeeze 70 = .ok (.aload_n 0, 1) := by decide +kernel
theorem dX3_squeeze_71 : decode cX3_squeeze 71 = .ok (.getfield 16, 3) := by decide +kernel
theorem dX3_squeeze_74 : decode cX3_squeeze 74 = .ok (.iload_n 1, 1) := by decide +kernel
theorem dX3_squeeze_75 : decode cX3_squeeze 75 = .ok (.iaload, 1) := by decide +kernel
theorem dX3_squeeze_76 : decode cX3_squeeze 76 = .ok (.ifCond .lt 15, 3) := by decide +kernel
theorem dX3_squeeze_79 : decode cX3_squeeze 79 = .ok (.aload_n 0, 1) := by decide +kernel
theorem dX3_squeeze_80 : decode cX3_squeeze 80 = .ok (.getfield 29, 3) := by decide +kernel
theorem dX3_squeeze_83 : decode cX3_squeeze 83 = .ok (.aload_n 0, 1) := by decide +kernel
theorem dX3_squeeze_84 : decode cX3_squeeze 84 = .ok (.getfield 16, 3) := by decide +kernel
theorem dX3_squeeze_87 : decode cX3_squeeze 87 = .ok (.iload_n 1, 1) := by decide +kernel
theorem dX3_squeeze_88 : decode cX3_squeeze 88 = .ok (.iaload, 1) := by decide +kernel
theorem dX3_squeeze_89 : decode cX3_squeeze 89 = .ok (.iconst 0, 1) := by decide +kernel
theorem dX3_squeeze_90 : decode cX3_squeeze 90 = .ok (.iastore, 1) := by decide +kernel
theorem dX3_squeeze_91 : decode cX3_squeeze 91 = .ok (.iinc 1 1, 3) := by decide +kernel
theorem dX3_squeeze_94 : decode cX3_squeeze 94 = .ok (.goto (-58), 3) := by decide +kernel
theorem dX3_squeeze_97 : decode cX3_squeeze 97 = .ok (.iconst 0, 1) := by decide +kernel
theorem dX3_squeeze_98 : decode cX3_squeeze 98 = .ok (.istore_n 1, 1) := by decide +kernel
theorem dX3_squeeze_99 : decode cX3_squeeze 99 = .ok (.iconst 0, 1) := by decide +kernel
theorem dX3_squeeze_100 : decode cX3_squeeze 100 = .ok (.istore_n 2, 1) := by decide +kernel
theorem dX3_squeeze_101 : decode cX3_squeeze 101 = .ok (.iload_n 2, 1) := by decide +kernel
theorem dX3_squeeze_102 : decode cX3_squeeze 102 = .ok (.aload_n 0, 1) := by decide +kernel
theorem dX3_squeeze_103 : decode cX3_squeeze 103 = .ok (.getfield 62, 3) := by decide +kernel
theorem dX3_squeeze_106 : decode cX3_squeeze 106 = .ok (.if_icmp .ge 98, 3) := by decide +kernel
theorem dX3_squeeze_109 : decode cX3_squeeze 109 = .ok (.aload_n 0, 1) := by decide +kernel
theorem dX3_squeeze_110 : decode cX3_squeeze 110 = .ok (.getfield 29, 3) := by decide +kernel
theorem dX3_squeeze_113 : decode cX3_squeeze 113 = .ok (.iload_n 2, 1) := by decide +kernel
theorem dX3_squeeze_114 : decode cX3_squeeze 114 = .ok (.iaload, 1) := by decide +kernel
theorem dX3_squeeze_115 : decode cX3_squeeze 115 = .ok (.ifCond .ne 83, 3) := by decide +kernel
theorem dX3_squeeze_118 : decode cX3_squeeze 118 = .ok (.aload_n 0, 1) := by decide +kernel
theorem dX3_squeeze_119 : decode cX3_squeeze 119 = .ok (.getfield 29, 3) := by decide +kernel
theorem dX3_squeeze_122 : decode cX3_squeeze 122 = .ok (.iload_n 2, 1) := by decide +kernel
theorem dX3_squeeze_123 : decode cX3_squeeze 123 = .ok (.iload_n 1, 1) := by decide +kernel
theorem dX3_squeeze_124 : decode cX3_squeeze 124 = .ok (.iastore, 1) := by decide +kernel
theorem dX3_squeeze_125 : decode cX3_squeeze 125 = .ok (.aload_n 0, 1) := by decide +kernel
theorem dX3_squeeze_126 : decode cX3_squeeze 126 = .ok (.getfield 19, 3) := by decide +kernel
theorem dX3_squeeze_129 : decode cX3_squeeze 129 = .ok (.iload_n 1, 1) := by decide +kernel
theorem dX3_squeeze_130 : decode cX3_squeeze 130 = .ok (.aload_n 0, 1) := by decide +kernel
theorem dX3_squeeze_131 : decode cX3_squeeze 131 = .ok (.getfield 19, 3) := by decide +kernel
theorem dX3_squeeze_134 : decode cX3_squeeze 134 = .ok (.iload_n 2, 1) := by decide +kernel
theorem dX3_squeeze_135 : decode cX3_squeeze 135 = .ok (.iaload, 1) := by decide +kernel
theorem dX3_squeeze_136 : decode cX3_squeeze 136 = .ok (.iastore, 1) := by decide +kernel
theorem dX3_squeeze_137 : decode cX3_squeeze 137 = .ok (.iconst 0, 1) := by decide +kernel
theorem dX3_squeeze_138 : decode cX3_squeeze 138 = .ok (.istore_n 3, 1) := by decide +kernel
theorem dX3_squeeze_139 : decode cX3_squeeze 139 = .ok (.iload_n 3, 1) := by decide +kernel
theorem dX3_squeeze_140 : decode cX3_squeeze 140 = .ok (.bipush 16, 2) := by decide +kernel
theorem dX3_squeeze_142 : decode cX3_squeeze 142 = .ok (.if_icmp .ge 53, 3) := by decide +kernel
theorem dX3_squeeze_145 : decode cX3_squeeze 145 = .ok (.aload_n 0, 1) := by decide +kernel
theorem dX3_squeeze_146 : decode cX3_squeeze 146 = .ok (.getfield 22, 3) := by decide +kernel
theorem dX3_squeeze_149 : decode cX3_squeeze 149 = .ok (.bipush 16, 2) := by decide +kernel
theorem dX3_squeeze_151 : decode cX3_squeeze 151 = .ok (.iload_n 1, 1) := by decide +kernel
theorem dX3_squeeze_152 : decode cX3_squeeze 152 = .ok (.imul, 1) := by decide +kernel
theorem dX3_squeeze_153 : decode cX3_squeeze 153 = .ok (.iload_n 3, 1) := by decide +kernel
theorem dX3_squeeze_154 : decode cX3_squeeze 154 = .ok (.iadd, 1) := by decide +kernel
theorem dX3_squeeze_155 : decode cX3_squeeze 155 = .ok (.aload_n 0, 1) := by decide +kernel
theorem dX3_squeeze_156 : decode cX3_squeeze 156 = .ok (.getfield 22, 3) := by decide +kernel
theorem dX3_squeeze_159 : decode cX3_squeeze 159 = .ok (.bipush 16, 2) := by decide +kernel
theorem dX3_squeeze_161 : decode cX3_squeeze 161 = .ok (.iload_n 2, 1) := by decide +kernel
theorem dX3_squeeze_162 : decode cX3_squeeze 162 = .ok (.imul, 1) := by decide +kernel
theorem dX3_squeeze_163 : decode cX3_squeeze 163 = .ok (.iload_n 3, 1) := by decide +kernel
theorem dX3_squeeze_164 : decode cX3_squeeze 164 = .ok (.iadd, 1) := by decide +kernel
theorem dX3_squeeze_165 : decode cX3_squeeze 165 = .ok (.iaload, 1) := by decide +kernel
theorem dX3_squeeze_166 : decode cX3_squeeze 166 = .ok (.iastore, 1) := by decide +kernel
theorem dX3_squeeze_167 : decode cX3_squeeze 167 = .ok (.aload_n 0, 1) := by decide +kernel
theorem dX3_squeeze_168 : decode cX3_squeeze 168 = .ok (.getfield 25, 3) := by decide +kernel
theorem dX3_squeeze_171 : decode cX3_squeeze 171 = .ok (.bipush 16, 2) := by decide +kernel
theorem dX3_squeeze_173 : decode cX3_squeeze 173 = .ok (.iload_n 1, 1) := by decide +kernel
theorem dX3_squeeze_174 : decode cX3_squeeze 174 = .ok (.imul, 1) := by decide +kernel
theorem dX3_squeeze_175 : decode cX3_squeeze 175 = .ok (.iload_n 3, 1) := by decide +kernel
theorem dX3_squeeze_176 : decode cX3_squeeze 176 = .ok (.iadd, 1) := by decide +kernel
theorem dX3_squeeze_177 : decode cX3_squeeze 177 = .ok (.aload_n 0, 1) := by decide +kernel
theorem dX3_squeeze_178 : decode cX3_squeeze 178 = .ok (.getfield 25, 3) := by decide +kernel
theorem dX3_squeeze_181 : decode cX3_squeeze 181 = .ok (.bipush 16, 2) := by decide +kernel
theorem dX3_squeeze_183 : decode cX3_squeeze 183 = .ok (.iload_n 2, 1) := by decide +kernel
theorem dX3_squeeze_184 : decode cX3_squeeze 184 = .ok (.imul, 1) := by decide +kernel
theorem dX3_squeeze_185 : decode cX3_squeeze 185 = .ok (.iload_n 3, 1) := by decide +kernel
theorem dX3_squeeze_186 : decode cX3_squeeze 186 = .ok (.iadd, 1) := by decide +kernel
theorem dX3_squeeze_187 : decode cX3_squeeze 187 = .ok (.daload, 1) := by decide +kernel
theorem dX3_squeeze_188 : decode cX3_squeeze 188 = .ok (.dastore, 1) := by decide +kernel
theorem dX3_squeeze_189 : decode cX3_squeeze 189 = .ok (.iinc 3 1, 3) := by decide +kernel
theorem dX3_squeeze_192 : decode cX3_squeeze 192 = .ok (.goto (-53), 3) := by decide +kernel
theorem dX3_squeeze_195 : decode cX3_squeeze 195 = .ok (.iinc 1 1, 3) := by decide +kernel
theorem dX3_squeeze_198 : decode cX3_squeeze 198 = .ok (.iinc 2 1, 3) := by decide +kernel
theorem dX3_squeeze_201 : decode cX3_squeeze 201 = .ok (.goto (-100), 3) := by decide +kernel
theorem dX3_squeeze_204 : decode cX3_squeeze 204 = .ok (.aload_n 0, 1) := by decide +kernel
theorem dX3_squeeze_205 : decode cX3_squeeze 205 = .ok (.iload_n 1, 1) := by decide +kernel
theorem dX3_squeeze_206 : decode cX3_squeeze 206 = .ok (.putfield 62, 3) := by decide +kernel
theorem dX3_squeeze_209 : decode cX3_squeeze 209 = .ok (.iconst 0, 1) := by decide +kernel
theorem dX3_squeeze_210 : decode cX3_squeeze 210 = .ok (.istore_n 2, 1) := by decide +kernel
theorem dX3_squeeze_211 : decode cX3_squeeze 211 = .ok (.iload_n 2, 1) := by decide +kernel
theorem dX3_squeeze_212 : decode cX3_squeeze 212 = .ok (.sipush 192, 3) := by decide +kernel
theorem dX3_squeeze_215 : decode cX3_squeeze 215 = .ok (.if_icmp .ge 62, 3) := by decide +kernel
theorem dX3_squeeze_218 : decode cX3_squeeze 218 = .ok (.iload_n 2, 1) := by decide +kernel
theorem dX3_squeeze_219 : decode cX3_squeeze 219 = .ok (.bipush 12, 2) := by decide +kernel
theorem dX3_squeeze_221 : decode cX3_squeeze 221 = .ok (.idiv, 1) := by decide +kernel
theorem dX3_squeeze_222 : decode cX3_squeeze 222 = .ok (.aload_n 0, 1) := by decide +kernel
theorem dX3_squeeze_223 : decode cX3_squeeze 223 = .ok (.getfield 55, 3) := by decide +kernel
theorem dX3_squeeze_226 : decode cX3_squeeze 226 = .ok (.if_icmp .ge 45, 3) := by decide +kernel
theorem dX3_squeeze_229 : decode cX3_squeeze 229 = .ok (.iload_n 2, 1) := by decide +kernel
theorem dX3_squeeze_230 : decode cX3_squeeze 230 = .ok (.bipush 12, 2) := by decide +kernel
theorem dX3_squeeze_232 : decode cX3_squeeze 232 = .ok (.irem, 1) := by decide +kernel
theorem dX3_squeeze_233 : decode cX3_squeeze 233 = .ok (.aload_n 0, 1) := by decide +kernel
theorem dX3_squeeze_234 : decode cX3_squeeze 234 = .ok (.getfield 13, 3) := by decide +kernel
theorem dX3_squeeze_237 : decode cX3_squeeze 237 = .ok (.iload_n 2, 1) := by decide +kernel
theorem dX3_squeeze_238 : decode cX3_squeeze 238 = .ok (.bipush 12, 2) := by decide +kernel
theorem dX3_squeeze_240 : decode cX3_squeeze 240 = .ok (.idiv, 1) := by decide +kernel
theorem dX3_squeeze_241 : decode cX3_squeeze 241 = .ok (.iaload, 1) := by decide +kernel
theorem dX3_squeeze_242 : decode cX3_squeeze 242 = .ok (.if_icmp .ge 29, 3) := by decide +kernel
theorem dX3_squeeze_245 : decode cX3_squeeze 245 = .ok (.aload_n 0, 1) := by decide +kernel
theorem dX3_squeeze_246 : decode cX3_squeeze 246 = .ok (.getfield 16, 3) := by decide +kernel
theorem dX3_squeeze_249 : decode cX3_squeeze 249 = .ok (.iload_n 2, 1) := by decide +kernel
theorem dX3_squeeze_250 : decode cX3_squeeze 250 = .ok (.iaload, 1) := by decide +kernel
theorem dX3_squeeze_251 : decode cX3_squeeze 251 = .ok (.ifCond .lt 20, 3) := by decide +kernel
theorem dX3_squeeze_254 : decode cX3_squeeze 254 = .ok (.aload_n 0, 1) := by decide +kernel
theorem dX3_squeeze_255 : decode cX3_squeeze 255 = .ok (.getfield 16, 3) := by decide +kernel
theorem dX3_squeeze_258 : decode cX3_squeeze 258 = .ok (.iload_n 2, 1) := by decide +kernel
theorem dX3_squeeze_259 : decode cX3_squeeze 259 = .ok (.aload_n 0, 1) := by decide +kernel
theorem dX3_squeeze_260 : decode cX3_squeeze 260 = .ok (.getfield 29, 3) := by decide +kernel
theorem dX3_squeeze_263 : decode cX3_squeeze 263 = .ok (.aload_n 0, 1) := by decide +kernel
theorem dX3_squeeze_264 : decode cX3_squeeze 264 = .ok (.getfield 16, 3) := by decide +kernel
theorem dX3_squeeze_267 : decode cX3_squeeze 267 = .ok (.iload_n 2, 1) := by decide +kernel
theorem dX3_squeeze_268 : decode cX3_squeeze 268 = .ok (.iaload, 1) := by decide +kernel
theorem dX3_squeeze_269 : decode cX3_squeeze 269 = .ok (.iaload, 1) := by decide +kernel
theorem dX3_squeeze_270 : decode cX3_squeeze 270 = .ok (.iastore, 1) := by decide +kernel
theorem dX3_squeeze_271 : decode cX3_squeeze 271 = .ok (.iinc 2 1, 3) := by decide +kernel
theorem dX3_squeeze_274 : decode cX3_squeeze 274 = .ok (.goto (-63), 3) := by decide +kernel
theorem dX3_squeeze_277 : decode cX3_squeeze 277 = .ok (.return_, 1) := by decide +kernel
theorem dX3_share_0 : decode cX3_share 0 = .ok (.aload_n 0, 1) := by decide +kernel
theorem dX3_share_1 : decode cX3_share 1 = .ok (.iload_n 1, 1) := by decide +kernel
theorem dX3_share_2 : decode cX3_share 2 = .ok (.invokevirtual 79, 3) := by decide +kernel
theorem dX3_share_5 : decode cX3_share 5 = .ok (.ifCond .eq 11, 3) := by decide +kernel
theorem dX3_share_8 : decode cX3_share 8 = .ok (.aload_n 0, 1) := by decide +kernel
theorem dX3_share_9 : decode cX3_share 9 = .ok (.iload_n 3, 1) := by decide +kernel
theorem dX3_share_10 : decode cX3_share 10 = .ok (.invokevirtual 79, 3) := by decide +kernel
theorem dX3_share_13 : decode cX3_share 13 = .ok (.ifCond .ne 6, 3) := by decide +kernel
theorem dX3_share_16 : decode cX3_share 16 = .ok (.ldc 83, 2) := by decide +kernel
theorem dX3_share_18 : decode cX3_share 18 = .ok (.ireturn, 1) := by decide +kernel
theorem dX3_share_19 : decode cX3_share 19 = .ok (.aload_n 0, 1) := by decide +kernel
theorem dX3_share_20 : decode cX3_share 20 = .ok (.iload_n 3, 1) := by decide +kernel
theorem dX3_share_21 : decode cX3_share 21 = .ok (.iload 4, 2) := by decide +kernel
theorem dX3_share_23 : decode cX3_share 23 = .ok (.invokevirtual 84, 3) := by decide +kernel
theorem dX3_share_26 : decode cX3_share 26 = .ok (.ifCond .eq 12, 3) := by decide +kernel
theorem dX3_share_29 : decode cX3_share 29 = .ok (.aload_n 0, 1) := by decide +kernel
theorem dX3_share_30 : decode cX3_share 30 = .ok (.iload_n 1, 1) := by decide +kernel
theorem dX3_share_31 : decode cX3_share 31 = .ok (.iload_n 2, 1) := by decide +kernel
theorem dX3_share_32 : decode cX3_share 32 = .ok (.invokevirtual 84, 3) := by decide +kernel
theorem dX3_share_35 : decode cX3_share 35 = .ok (.ifCond .ne 9, 3) := by decide +kernel
theorem dX3_share_38 : decode cX3_share 38 = .ok (.aload_n 0, 1) := by decide +kernel
theorem dX3_share_39 : decode cX3_share 39 = .ok (.iconst 2, 1) := by decide +kernel
theorem dX3_share_40 : decode cX3_share 40 = .ok (.invokevirtual 75, 3) := by decide +kernel
theorem dX3_share_43 : decode cX3_share 43 = .ok (.ireturn, 1) := by decide +kernel
theorem dX3_share_44 : decode cX3_share 44 = .ok (.aload_n 0, 1) := by decide +kernel
theorem dX3_share_45 : decode cX3_share 45 = .ok (.getfield 16, 3) := by decide +kernel
theorem dX3_share_48 : decode cX3_share 48 = .ok (.bipush 12, 2) := by decide +kernel
theorem dX3_share_50 : decode cX3_share 50 = .ok (.iload_n 3, 1) := by decide +kernel
theorem dX3_share_51 : decode cX3_share 51 = .ok (.imul, 1) := by decide +kernel
theorem dX3_share_52 : decode cX3_share 52 = .ok (.iload 4, 2) := by decide +kernel
theorem dX3_share_54 : decode cX3_share 54 = .ok (.iadd, 1) := by decide +kernel
theorem dX3_share_55 : decode cX3_share 55 = .ok (.iaload, 1) := by decide +kernel
theorem dX3_share_56 : decode cX3_share 56 = .ok (.istore 5, 2) := by decide +kernel
theorem dX3_share_58 : decode cX3_share 58 = .ok (.iload 5, 2) := by decide +kernel
theorem dX3_share_60 : decode cX3_share 60 = .ok (.ifCond .lt 18, 3) := by decide +kernel
theorem dX3_share_63 : decode cX3_share 63 = .ok (.aload_n 0, 1) := by decide +kernel
theorem dX3_share_64 : decode cX3_share 64 = .ok (.getfield 7, 3) := by decide +kernel
theorem dX3_share_67 : decode cX3_share 67 = .ok (.iload_n 1, 1) := by decide +kernel
theorem dX3_share_68 : decode cX3_share 68 = .ok (.iaload, 1) := by decide +kernel
theorem dX3_share_69 : decode cX3_share 69 = .ok (.aload_n 0, 1) := by decide +kernel
theorem dX3_share_70 : decode cX3_share 70 = .ok (.getfield 7, 3) := by decide +kernel
theorem dX3_share_73 : decode cX3_share 73 = .ok (.iload_n 3, 1) := by decide +kernel
theorem dX3_share_74 : decode cX3_share 74 = .ok (.iaload, 1) := by decide +kernel
theorem dX3_share_75 : decode cX3_share 75 = .ok (.if_icmp .eq 18, 3) := by decide +kernel
theorem dX3_share_78 : decode cX3_share 78 = .ok (.aload_n 0, 1) := by decide +kernel
theorem dX3_share_79 : decode cX3_share 79 = .ok (.iload 5, 2) := by decide +kernel
theorem dX3_share_81 : decode cX3_share 81 = .ok (.ifCond .ge 7, 3) := by decide +kernel
theorem dX3_share_84 : decode cX3_share 84 = .ok (.iconst 1, 1) := by decide +kernel
theorem dX3_share_85 : decode cX3_share 85 = .ok (.goto 4, 3) := by decide +kernel
theorem dX3_share_88 : decode cX3_share 88 = .ok (.iconst 3, 1) := by decide +kernel
theorem dX3_share_89 : decode cX3_share 89 = .ok (.invokevirtual 75, 3) := by decide +kernel
theorem dX3_share_92 : decode cX3_share 92 = .ok (.ireturn, 1) := by decide +kernel
theorem dX3_share_93 : decode cX3_share 93 = .ok (.aload_n 0, 1) := by decide +kernel
theorem dX3_share_94 : decode cX3_share 94 = .ok (.getfield 16, 3) := by decide +kernel
theorem dX3_share_97 : decode cX3_share 97 = .ok (.bipush 12, 2) := by decide +kernel
theorem dX3_share_99 : decode cX3_share 99 = .ok (.iload_n 1, 1) := by decide +kernel
theorem dX3_share_100 : decode cX3_share 100 = .ok (.imul, 1) := by decide +kernel
theorem dX3_share_101 : decode cX3_share 101 = .ok (.iload_n 2, 1) := by decide +kernel
theorem dX3_share_102 : decode cX3_share 102 = .ok (.iadd, 1) := by decide +kernel
theorem dX3_share_103 : decode cX3_share 103 = .ok (.iload 5, 2) := by decide +kernel
theorem dX3_share_105 : decode cX3_share 105 = .ok (.iastore, 1) := by decide +kernel
theorem dX3_share_106 : decode cX3_share 106 = .ok (.iconst 1, 1) := by decide +kernel
theorem dX3_share_107 : decode cX3_share 107 = .ok (.ireturn, 1) := by decide +kernel
theorem dX3_fall_0 : decode cX3_fall 0 = .ok (.aload_n 0, 1) := by decide +kernel
theorem dX3_fall_1 : decode cX3_fall 1 = .ok (.iload_n 1, 1) := by decide +kernel
theorem dX3_fall_2 : decode cX3_fall 2 = .ok (.invokevirtual 79, 3) := by decide +kernel
theorem dX3_fall_5 : decode cX3_fall 5 = .ok (.ifCond .ne 6, 3) := by decide +kernel
theorem dX3_fall_8 : decode cX3_fall 8 = .ok (.ldc 83, 2) := by decide +kernel
theorem dX3_fall_10 : decode cX3_fall 10 = .ok (.ireturn, 1) := by decide +kernel
theorem dX3_fall_11 : decode cX3_fall 11 = .ok (.aload_n 0, 1) := by decide +kernel
theorem dX3_fall_12 : decode cX3_fall 12 = .ok (.iload_n 1, 1) := by decide +kernel
theorem dX3_fall_13 : decode cX3_fall 13 = .ok (.iload_n 2, 1) := by decide +kernel
theorem dX3_fall_14 : decode cX3_fall 14 = .ok (.invokevirtual 84, 3) := by decide +kernel
theorem dX3_fall_17 : decode cX3_fall 17 = .ok (.ifCond .ne 9, 3) := by decide +kernel
theorem dX3_fall_20 : decode cX3_fall 20 = .ok (.aload_n 0, 1) := by decide +kernel
theorem dX3_fall_21 : decode cX3_fall 21 = .ok (.iconst 2, 1) := by decide +kernel
theorem dX3_fall_22 : decode cX3_fall 22 = .ok (.invokevirtual 75, 3) := by decide +kernel
theorem dX3_fall_25 : decode cX3_fall 25 = .ok (.ireturn, 1) := by decide +kernel
theorem dX3_fall_26 : decode cX3_fall 26 = .ok (.aload_n 0, 1) := by decide +kernel
theorem dX3_fall_27 : decode cX3_fall 27 = .ok (.getfield 16, 3) := by decide +kernel
theorem dX3_fall_30 : decode cX3_fall 30 = .ok (.bipush 12, 2) := by decide +kernel
theorem dX3_fall_32 : decode cX3_fall 32 = .ok (.iload_n 1, 1) := by decide +kernel
theorem dX3_fall_33 : decode cX3_fall 33 = .ok (.imul, 1) := by decide +kernel
theorem dX3_fall_34 : decode cX3_fall 34 = .ok (.iload_n 2, 1) := by decide +kernel
theorem dX3_fall_35 : decode cX3_fall 35 = .ok (.iadd, 1) := by decide +kernel
theorem dX3_fall_36 : decode cX3_fall 36 = .ok (.iaload, 1) := by decide +kernel
theorem dX3_fall_37 : decode cX3_fall 37 = .ok (.ifCond .ge 7, 3) := by decide +kernel
theorem dX3_fall_40 : decode cX3_fall 40 = .ok (.iconst 0, 1) := by decide +kernel
theorem dX3_fall_41 : decode cX3_fall 41 = .ok (.goto 4, 3) := by decide +kernel
theorem dX3_fall_44 : decode cX3_fall 44 = .ok (.iconst 1, 1) := by decide +kernel
theorem dX3_fall_45 : decode cX3_fall 45 = .ok (.istore_n 3, 1) := by decide +kernel
theorem dX3_fall_46 : decode cX3_fall 46 = .ok (.aload_n 0, 1) := by decide +kernel
theorem dX3_fall_47 : decode cX3_fall 47 = .ok (.getfield 16, 3) := by decide +kernel
theorem dX3_fall_50 : decode cX3_fall 50 = .ok (.bipush 12, 2) := by decide +kernel
theorem dX3_fall_52 : decode cX3_fall 52 = .ok (.iload_n 1, 1) := by decide +kernel
theorem dX3_fall_53 : decode cX3_fall 53 = .ok (.imul, 1) := by decide +kernel
theorem dX3_fall_54 : decode cX3_fall 54 = .ok (.iload_n 2, 1) := by decide +kernel
theorem dX3_fall_55 : decode cX3_fall 55 = .ok (.iadd, 1) := by decide +kernel
theorem dX3_fall_56 : decode cX3_fall 56 = .ok (.iconst (-1), 1) := by decide +kernel
theorem dX3_fall_57 : decode cX3_fall 57 = .ok (.iastore, 1) := by decide +kernel
theorem dX3_fall_58 : decode cX3_fall 58 = .ok (.iload_n 3, 1) := by decide +kernel
theorem dX3_fall_59 : decode cX3_fall 59 = .ok (.ireturn, 1) := by decide +kernel
theorem dX3_cellCause_0 : decode cX3_cellCause 0 = .ok (.aload_n 0, 1) := by decide +kernel
theorem dX3_cellCause_1 : decode cX3_cellCause 1 = .ok (.iload_n 1, 1) := by decide +kernel
theorem dX3_cellCause_2 : decode cX3_cellCause 2 = .ok (.iload_n 2, 1) := by decide +kernel
theorem dX3_cellCause_3 : decode cX3_cellCause 3 = .ok (.invokevirtual 84, 3) := by decide +kernel
