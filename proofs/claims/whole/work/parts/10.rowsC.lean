section ROWSC
variable {X : I_X} {d : Nat} {L : I_L} {st : List Value} {h : I_H} {a b v i a1 a2 a3 a4 a5 a6 a7 : Int32} {w w1 w2 w3 : UInt64} {l1 l2 : Int64} {r r2 r1 r3 r4 r5 : Option Nat} {q q0 : Nat} {x0 x1 x2 x3 x4 x5 x6 x7 x8 x9 x10 x11 x12 : Option Value}
theorem e_X3_init_0 : ev X d 68 0 (some (va_rf r) :: L) st h = ev X d 68 1 (some (va_rf r) :: L) (va_rf r :: st) h := g_aload_n dX3_init_0 rfl
theorem e_X3_init_1 (hs : I_cat st ≤ 8) : ev X d 68 1 L (va_rf (some q) :: st) h = ev X d 68 4 L st h := g_obj dX3_init_1 (by decide) hs
theorem e_X3_init_4 : ev X d 68 4 (some (va_rf r) :: L) st h = ev X d 68 5 (some (va_rf r) :: L) (va_rf r :: st) h := g_aload_n dX3_init_4 rfl
theorem e_X3_init_5 : ev X d 68 5 L st h = ev X d 68 7 L (.int 16 :: st) h := g_bipush dX3_init_5 (by decide)
theorem e_X3_init_7 (hm : I_mk a = true) : ev X d 68 7 L (.int a :: st) h = ev X d 68 9 L (va_rf (some h.1) :: st) (I_new h a.toNatClampNeg (.inl (0, a.toNatClampNeg, .inl (fun _ => 0)))) := g_newa (e := fun n => .inl (0, n, .inl (fun _ => 0))) dX3_init_7 (fun _ => rfl) hm
theorem e_X3_init_9 : ev X d 68 9 L (va_rf (some q0) :: va_rf (some q) :: st) h = (I_putf X h q 3 1 (va_rf (some q0))).bind (fun h => ev X d 68 12 L st h) := g_put dX3_init_9 (by decide) (by first | rfl | decide)
theorem e_X3_init_12 : ev X d 68 12 (some (va_rf r) :: L) st h = ev X d 68 13 (some (va_rf r) :: L) (va_rf r :: st) h := g_aload_n dX3_init_12 rfl
theorem e_X3_init_13 : ev X d 68 13 L st h = ev X d 68 15 L (.int 16 :: st) h := g_bipush dX3_init_13 (by decide)
theorem e_X3_init_15 (hm : I_mk a = true) : ev X d 68 15 L (.int a :: st) h = ev X d 68 17 L (va_rf (some h.1) :: st) (I_new h a.toNatClampNeg (.inl (0, a.toNatClampNeg, .inl (fun _ => 0)))) := g_newa (e := fun n => .inl (0, n, .inl (fun _ => 0))) dX3_init_15 (fun _ => rfl) hm
theorem e_X3_init_17 : ev X d 68 17 L (va_rf (some q0) :: va_rf (some q) :: st) h = (I_putf X h q 3 2 (va_rf (some q0))).bind (fun h => ev X d 68 20 L st h) := g_put dX3_init_17 (by decide) (by first | rfl | decide)
theorem e_X3_init_20 : ev X d 68 20 (some (va_rf r) :: L) st h = ev X d 68 21 (some (va_rf r) :: L) (va_rf r :: st) h := g_aload_n dX3_init_20 rfl
theorem e_X3_init_21 : ev X d 68 21 L st h = ev X d 68 24 L (.int 192 :: st) h := g_sipush dX3_init_21 (by decide)
theorem e_X3_init_24 (hm : I_mk a = true) : ev X d 68 24 L (.int a :: st) h = ev X d 68 26 L (va_rf (some h.1) :: st) (I_new h a.toNatClampNeg (.inl (0, a.toNatClampNeg, .inl (fun _ => 0)))) := g_newa (e := fun n => .inl (0, n, .inl (fun _ => 0))) dX3_init_24 (fun _ => rfl) hm
theorem e_X3_init_26 : ev X d 68 26 L (va_rf (some q0) :: va_rf (some q) :: st) h = (I_putf X h q 3 3 (va_rf (some q0))).bind (fun h => ev X d 68 29 L st h) := g_put dX3_init_26 (by decide) (by first | rfl | decide)
theorem e_X3_init_29 : ev X d 68 29 (some (va_rf r) :: L) st h = ev X d 68 30 (some (va_rf r) :: L) (va_rf r :: st) h := g_aload_n dX3_init_29 rfl
theorem e_X3_init_30 : ev X d 68 30 L st h = ev X d 68 33 L (.int 900 :: st) h := g_sipush dX3_init_30 (by decide)
theorem e_X3_init_33 (hm : I_mk a = true) : ev X d 68 33 L (.int a :: st) h = ev X d 68 35 L (va_rf (some h.1) :: st) (I_new h a.toNatClampNeg (.inl (0, a.toNatClampNeg, .inl (fun _ => 0)))) := g_newa (e := fun n => .inl (0, n, .inl (fun _ => 0))) dX3_init_33 (fun _ => rfl) hm
theorem e_X3_init_35 : ev X d 68 35 L (va_rf (some q0) :: va_rf (some q) :: st) h = (I_putf X h q 3 5 (va_rf (some q0))).bind (fun h => ev X d 68 38 L st h) := g_put dX3_init_35 (by decide) (by first | rfl | decide)
theorem e_X3_init_38 : ev X d 68 38 (some (va_rf r) :: L) st h = ev X d 68 39 (some (va_rf r) :: L) (va_rf r :: st) h := g_aload_n dX3_init_38 rfl
theorem e_X3_init_39 : ev X d 68 39 L st h = ev X d 68 42 L (.int 14400 :: st) h := g_sipush dX3_init_39 (by decide)
theorem e_X3_init_42 (hm : I_mk a = true) : ev X d 68 42 L (.int a :: st) h = ev X d 68 44 L (va_rf (some h.1) :: st) (I_new h a.toNatClampNeg (.inl (0, a.toNatClampNeg, .inl (fun _ => 0)))) := g_newa (e := fun n => .inl (0, n, .inl (fun _ => 0))) dX3_init_42 (fun _ => rfl) hm
theorem e_X3_init_44 : ev X d 68 44 L (va_rf (some q0) :: va_rf (some q) :: st) h = (I_putf X h q 3 6 (va_rf (some q0))).bind (fun h => ev X d 68 47 L st h) := g_put dX3_init_44 (by decide) (by first | rfl | decide)
theorem e_X3_init_47 : ev X d 68 47 (some (va_rf r) :: L) st h = ev X d 68 48 (some (va_rf r) :: L) (va_rf r :: st) h := g_aload_n dX3_init_47 rfl
theorem e_X3_init_48 : ev X d 68 48 L st h = ev X d 68 51 L (.int 14400 :: st) h := g_sipush dX3_init_48 (by decide)
theorem e_X3_init_51 (hm : I_mk a = true) : ev X d 68 51 L (.int a :: st) h = ev X d 68 53 L (va_rf (some h.1) :: st) (I_new h a.toNatClampNeg (.inl (1, a.toNatClampNeg, .inr (.inr (.inr (.inl (fun _ => 0))))))) := g_newa (e := fun n => .inl (1, n, .inr (.inr (.inr (.inl (fun _ => 0)))))) dX3_init_51 (fun _ => rfl) hm
theorem e_X3_init_53 : ev X d 68 53 L (va_rf (some q0) :: va_rf (some q) :: st) h = (I_putf X h q 3 7 (va_rf (some q0))).bind (fun h => ev X d 68 56 L st h) := g_put dX3_init_53 (by decide) (by first | rfl | decide)
theorem e_X3_init_56 : ev X d 68 56 (some (va_rf r) :: L) st h = ev X d 68 57 (some (va_rf r) :: L) (va_rf r :: st) h := g_aload_n dX3_init_56 rfl
theorem e_X3_init_57 : ev X d 68 57 L st h = ev X d 68 60 L (.int 900 :: st) h := g_sipush dX3_init_57 (by decide)
theorem e_X3_init_60 (hm : I_mk a = true) : ev X d 68 60 L (.int a :: st) h = ev X d 68 62 L (va_rf (some h.1) :: st) (I_new h a.toNatClampNeg (.inl (0, a.toNatClampNeg, .inl (fun _ => 0)))) := g_newa (e := fun n => .inl (0, n, .inl (fun _ => 0))) dX3_init_60 (fun _ => rfl) hm
theorem e_X3_init_62 : ev X d 68 62 L (va_rf (some q0) :: va_rf (some q) :: st) h = (I_putf X h q 3 9 (va_rf (some q0))).bind (fun h => ev X d 68 65 L st h) := g_put dX3_init_62 (by decide) (by first | rfl | decide)
theorem e_X3_init_65 : ev X d 68 65 (some (va_rf r) :: L) st h = ev X d 68 66 (some (va_rf r) :: L) (va_rf r :: st) h := g_aload_n dX3_init_65 rfl
theorem e_X3_init_66 : ev X d 68 66 L st h = ev X d 68 68 L (.int 8 :: st) h := g_bipush dX3_init_66 (by decide)
theorem e_X3_init_68 (hm : I_mk a = true) : ev X d 68 68 L (.int a :: st) h = ev X d 68 70 L (va_rf (some h.1) :: st) (I_new h a.toNatClampNeg (.inl (0, a.toNatClampNeg, .inl (fun _ => 0)))) := g_newa (e := fun n => .inl (0, n, .inl (fun _ => 0))) dX3_init_68 (fun _ => rfl) hm
theorem e_X3_init_70 : ev X d 68 70 L (va_rf (some q0) :: va_rf (some q) :: st) h = (I_putf X h q 3 11 (va_rf (some q0))).bind (fun h => ev X d 68 73 L st h) := g_put dX3_init_70 (by decide) (by first | rfl | decide)
theorem e_X3_init_73 : ev X d 68 73 (some (va_rf r) :: L) st h = ev X d 68 74 (some (va_rf r) :: L) (va_rf r :: st) h := g_aload_n dX3_init_73 rfl
theorem e_X3_init_74 : ev X d 68 74 L st h = ev X d 68 76 L (.int 17 :: st) h := g_bipush dX3_init_74 (by decide)
theorem e_X3_init_76 (hm : I_mk a = true) : ev X d 68 76 L (.int a :: st) h = ev X d 68 78 L (va_rf (some h.1) :: st) (I_new h a.toNatClampNeg (.inl (0, a.toNatClampNeg, .inl (fun _ => 0)))) := g_newa (e := fun n => .inl (0, n, .inl (fun _ => 0))) dX3_init_76 (fun _ => rfl) hm
theorem e_X3_init_78 : ev X d 68 78 L (va_rf (some q0) :: va_rf (some q) :: st) h = (I_putf X h q 3 13 (va_rf (some q0))).bind (fun h => ev X d 68 81 L st h) := g_put dX3_init_78 (by decide) (by first | rfl | decide)
theorem e_X3_init_81 : ev X d 68 81 (some (va_rf r) :: L) st h = ev X d 68 82 (some (va_rf r) :: L) (va_rf r :: st) h := g_aload_n dX3_init_81 rfl
theorem e_X3_init_82 : ev X d 68 82 L st h = ev X d 68 84 L (.int 17 :: st) h := g_bipush dX3_init_82 (by decide)
theorem e_X3_init_84 (hm : I_mk a = true) : ev X d 68 84 L (.int a :: st) h = ev X d 68 86 L (va_rf (some h.1) :: st) (I_new h a.toNatClampNeg (.inl (0, a.toNatClampNeg, .inl (fun _ => 0)))) := g_newa (e := fun n => .inl (0, n, .inl (fun _ => 0))) dX3_init_84 (fun _ => rfl) hm
theorem e_X3_init_86 : ev X d 68 86 L (va_rf (some q0) :: va_rf (some q) :: st) h = (I_putf X h q 3 14 (va_rf (some q0))).bind (fun h => ev X d 68 89 L st h) := g_put dX3_init_86 (by decide) (by first | rfl | decide)
theorem e_X3_init_89 : ev X d 68 89 (some (va_rf r) :: L) st h = ev X d 68 90 (some (va_rf r) :: L) (va_rf r :: st) h := g_aload_n dX3_init_89 rfl
theorem e_X3_init_90 : ev X d 68 90 L st h = ev X d 68 92 L (.int 16 :: st) h := g_bipush dX3_init_90 (by decide)
theorem e_X3_init_92 (hm : I_mk a = true) : ev X d 68 92 L (.int a :: st) h = ev X d 68 94 L (va_rf (some h.1) :: st) (I_new h a.toNatClampNeg (.inl (0, a.toNatClampNeg, .inl (fun _ => 0)))) := g_newa (e := fun n => .inl (0, n, .inl (fun _ => 0))) dX3_init_92 (fun _ => rfl) hm
theorem e_X3_init_94 : ev X d 68 94 L (va_rf (some q0) :: va_rf (some q) :: st) h = (I_putf X h q 3 15 (va_rf (some q0))).bind (fun h => ev X d 68 97 L st h) := g_put dX3_init_94 (by decide) (by first | rfl | decide)
theorem e_X3_init_97 : ev X d 68 97 (some (va_rf r) :: L) st h = ev X d 68 98 (some (va_rf r) :: L) (va_rf r :: st) h := g_aload_n dX3_init_97 rfl
theorem e_X3_init_98 : ev X d 68 98 L st h = ev X d 68 100 L (.int 16 :: st) h := g_bipush dX3_init_98 (by decide)
theorem e_X3_init_100 (hm : I_mk a = true) : ev X d 68 100 L (.int a :: st) h = ev X d 68 102 L (va_rf (some h.1) :: st) (I_new h a.toNatClampNeg (.inl (0, a.toNatClampNeg, .inl (fun _ => 0)))) := g_newa (e := fun n => .inl (0, n, .inl (fun _ => 0))) dX3_init_100 (fun _ => rfl) hm
theorem e_X3_init_102 : ev X d 68 102 L (va_rf (some q0) :: va_rf (some q) :: st) h = (I_putf X h q 3 16 (va_rf (some q0))).bind (fun h => ev X d 68 105 L st h) := g_put dX3_init_102 (by decide) (by first | rfl | decide)
theorem e_X3_init_105 : ev X d 68 105 (some (va_rf r) :: L) st h = ev X d 68 106 (some (va_rf r) :: L) (va_rf r :: st) h := g_aload_n dX3_init_105 rfl
theorem e_X3_init_106 : ev X d 68 106 L st h = ev X d 68 108 L (.int 16 :: st) h := g_bipush dX3_init_106 (by decide)
theorem e_X3_init_108 (hm : I_mk a = true) : ev X d 68 108 L (.int a :: st) h = ev X d 68 110 L (va_rf (some h.1) :: st) (I_new h a.toNatClampNeg (.inl (0, a.toNatClampNeg, .inl (fun _ => 0)))) := g_newa (e := fun n => .inl (0, n, .inl (fun _ => 0))) dX3_init_108 (fun _ => rfl) hm
theorem e_X3_init_110 : ev X d 68 110 L (va_rf (some q0) :: va_rf (some q) :: st) h = (I_putf X h q 3 17 (va_rf (some q0))).bind (fun h => ev X d 68 113 L st h) := g_put dX3_init_110 (by decide) (by first | rfl | decide)
theorem e_X3_init_113 : ev X d 68 113 L [] h = some (none, h) := g_vret dX3_init_113 rfl
theorem e_X3_in_0 : ev X d 69 0 (some (.int a) :: L) st h = ev X d 69 1 (some (.int a) :: L) (.int a :: st) h := g_iload_n dX3_in_0 rfl
theorem e_X3_in_1 : ev X d 69 1 (x0 :: some (.int a) :: L) st h = ev X d 69 2 (x0 :: some (.int a) :: L) (.int a :: st) h := g_iload_n dX3_in_1 rfl
theorem e_X3_in_2 : ev X d 69 2 L (.int b :: .int a :: st) h = if a < b then ev X d 69 14 L st h else ev X d 69 5 L st h := g_icmp_lt dX3_in_2 (by decide)
theorem e_X3_in_5 : ev X d 69 5 (some (.int a) :: L) st h = ev X d 69 6 (some (.int a) :: L) (.int a :: st) h := g_iload_n dX3_in_5 rfl
theorem e_X3_in_6 : ev X d 69 6 (x0 :: x1 :: some (.int a) :: L) st h = ev X d 69 7 (x0 :: x1 :: some (.int a) :: L) (.int a :: st) h := g_iload_n dX3_in_6 rfl
theorem e_X3_in_7 : ev X d 69 7 L (.int b :: .int a :: st) h = if b < a then ev X d 69 14 L st h else ev X d 69 10 L st h := g_icmp_gt dX3_in_7 (by decide)
theorem e_X3_in_10 : ev X d 69 10 L st h = ev X d 69 11 L (.int 1 :: st) h := g_iconst dX3_in_10 (by decide)
theorem e_X3_in_11 : ev X d 69 11 L st h = ev X d 69 15 L st h := g_goto dX3_in_11 (by decide)
theorem e_X3_in_14 : ev X d 69 14 L st h = ev X d 69 15 L (.int 0 :: st) h := g_iconst dX3_in_14 (by decide)
theorem e_X3_in_15 (ha : a = 0 ∨ a = 1) : ev X d 69 15 L [.int a] h = some (some (.int a), h) := g_zret dX3_in_15 rfl ha
theorem e_X3_fails_0 : ev X d 70 0 (some (va_rf r) :: L) st h = ev X d 70 1 (some (va_rf r) :: L) (va_rf r :: st) h := g_aload_n dX3_fails_0 rfl
theorem e_X3_fails_1 : ev X d 70 1 L (va_rf r :: st) h = ev X d 70 2 L (va_rf r :: va_rf r :: st) h := g_dup dX3_fails_1
theorem e_X3_fails_1i : ev X d 70 1 L (.int a :: st) h = ev X d 70 2 L (.int a :: .int a :: st) h := g_dupi dX3_fails_1
theorem e_X3_fails_2 : ev X d 70 2 L (va_rf (some q) :: st) h = (I_getf X h q 3 8).bind (fun v => ev X d 70 5 L (v :: st) h) := g_get dX3_fails_2 (by decide)
theorem e_X3_fails_5 : ev X d 70 5 L st h = ev X d 70 6 L (.int 1 :: st) h := g_iconst dX3_fails_5 (by decide)
theorem e_X3_fails_6 : ev X d 70 6 L (.int b :: .int a :: st) h = ev X d 70 7 L (.int (a + b) :: st) h := g_iadd dX3_fails_6
theorem e_X3_fails_7 : ev X d 70 7 L (.int a :: va_rf (some q) :: st) h = (I_putf X h q 3 8 (.int a)).bind (fun h => ev X d 70 10 L st h) := g_put dX3_fails_7 (by decide) (by first | rfl | decide)
theorem e_X3_fails_10 : ev X d 70 10 L st h = ev X d 70 12 L (.int (-1000010) :: st) h := g_ldc dX3_fails_10 (by decide)
theorem e_X3_fails_12 : ev X d 70 12 (x0 :: some (.int a) :: L) st h = ev X d 70 13 (x0 :: some (.int a) :: L) (.int a :: st) h := g_iload_n dX3_fails_12 rfl
theorem e_X3_fails_13 : ev X d 70 13 L (.int b :: .int a :: st) h = ev X d 70 14 L (.int (a - b) :: st) h := g_isub dX3_fails_13
theorem e_X3_fails_14 : ev X d 70 14 L [.int a] h = some (some (.int a), h) := g_iret dX3_fails_14 rfl
theorem e_X3_isTable_0 : ev X d 71 0 (x0 :: some (.int a) :: L) st h = ev X d 71 1 (x0 :: some (.int a) :: L) (.int a :: st) h := g_iload_n dX3_isTable_0 rfl
theorem e_X3_isTable_1 : ev X d 71 1 L st h = ev X d 71 2 L (.int 0 :: st) h := g_iconst dX3_isTable_1 (by decide)
theorem e_X3_isTable_2 : ev X d 71 2 (some (va_rf r) :: L) st h = ev X d 71 3 (some (va_rf r) :: L) (va_rf r :: st) h := g_aload_n dX3_isTable_2 rfl
theorem e_X3_isTable_3 : ev X d 71 3 L (va_rf (some q) :: st) h = (I_getf X h q 3 0).bind (fun v => ev X d 71 6 L (v :: st) h) := g_get dX3_isTable_3 (by decide)
theorem e_X3_isTable_6 : ev X d 71 6 L st h = ev X d 71 7 L (.int 1 :: st) h := g_iconst dX3_isTable_6 (by decide)
theorem e_X3_isTable_7 : ev X d 71 7 L (.int b :: .int a :: st) h = ev X d 71 8 L (.int (a - b) :: st) h := g_isub dX3_isTable_7
theorem e_X3_isTable_8 (hs : I_cat st ≤ 8) : ev X (d + 1) 71 8 L (.int a3 :: .int a2 :: .int a1 :: st) h = (ev X d 69 0 [some (.int a1), some (.int a2), some (.int a3)] [] h).bind (fun r => ev X (d + 1) 71 11 L (r.1.toList ++ st) r.2) := g_callS (as := [.int a3, .int a2, .int a1]) dX3_isTable_8 (by decide) (by decide) I_np_69 rfl (by simp only [List.reverse_cons, List.reverse_nil, List.nil_append, List.cons_append, I_slots_n, I_slots_i, I_slots_d, I_slots_q, List.length_cons, List.length_nil]; decide) (by simp only [I_ent, List.reverse_cons, List.reverse_nil, List.nil_append, List.cons_append, I_slots_n, I_slots_i, I_slots_d, I_slots_q, List.length_cons, List.length_nil]; rfl) rfl hs
theorem e_X3_isTable_11 (ha : a = 0 ∨ a = 1) : ev X d 71 11 L [.int a] h = some (some (.int a), h) := g_zret dX3_isTable_11 rfl ha
theorem e_X3_newTable_0 : ev X d 72 0 (some (va_rf r) :: L) st h = ev X d 72 1 (some (va_rf r) :: L) (va_rf r :: st) h := g_aload_n dX3_newTable_0 rfl
theorem e_X3_newTable_1 : ev X d 72 1 L (va_rf (some q) :: st) h = (I_getf X h q 3 1).bind (fun v => ev X d 72 4 L (v :: st) h) := g_get dX3_newTable_1 (by decide)
theorem e_X3_newTable_4 : ev X d 72 4 (some (va_rf r) :: L) st h = ev X d 72 5 (some (va_rf r) :: L) (va_rf r :: st) h := g_aload_n dX3_newTable_4 rfl
theorem e_X3_newTable_5 : ev X d 72 5 L (va_rf (some q) :: st) h = (I_getf X h q 3 0).bind (fun v => ev X d 72 8 L (v :: st) h) := g_get dX3_newTable_5 (by decide)
theorem e_X3_newTable_8 : ev X d 72 8 (x0 :: some (.int a) :: L) st h = ev X d 72 9 (x0 :: some (.int a) :: L) (.int a :: st) h := g_iload_n dX3_newTable_8 rfl
theorem e_X3_newTable_9 : ev X d 72 9 L (.int v :: .int i :: va_rf (some q) :: st) h = (I_asti X h 0 q i v).bind (fun h => ev X d 72 10 L st h) := g_iast dX3_newTable_9
theorem e_X3_newTable_10 : ev X d 72 10 (some (va_rf r) :: L) st h = ev X d 72 11 (some (va_rf r) :: L) (va_rf r :: st) h := g_aload_n dX3_newTable_10 rfl
theorem e_X3_newTable_11 : ev X d 72 11 L (va_rf (some q) :: st) h = (I_getf X h q 3 2).bind (fun v => ev X d 72 14 L (v :: st) h) := g_get dX3_newTable_11 (by decide)
theorem e_X3_newTable_14 : ev X d 72 14 (some (va_rf r) :: L) st h = ev X d 72 15 (some (va_rf r) :: L) (va_rf r :: st) h := g_aload_n dX3_newTable_14 rfl
theorem e_X3_newTable_15 : ev X d 72 15 L (va_rf (some q) :: st) h = (I_getf X h q 3 0).bind (fun v => ev X d 72 18 L (v :: st) h) := g_get dX3_newTable_15 (by decide)
theorem e_X3_newTable_18 : ev X d 72 18 (x0 :: x1 :: some (.int a) :: L) st h = ev X d 72 19 (x0 :: x1 :: some (.int a) :: L) (.int a :: st) h := g_iload_n dX3_newTable_18 rfl
theorem e_X3_newTable_19 : ev X d 72 19 L (.int v :: .int i :: va_rf (some q) :: st) h = (I_asti X h 0 q i v).bind (fun h => ev X d 72 20 L st h) := g_iast dX3_newTable_19
theorem e_X3_newTable_20 : ev X d 72 20 L st h = ev X d 72 21 L (.int 0 :: st) h := g_iconst dX3_newTable_20 (by decide)
theorem e_X3_newTable_21 (hx : I_c2 x2 = false) : ev X d 72 21 (x0 :: x1 :: x2 :: x3 :: L) (.int a :: st) h = ev X d 72 22 (x0 :: x1 :: x2 :: some (.int a) :: L) st h := g_istore_n dX3_newTable_21 (I_st1_3 hx)
theorem e_X3_newTable_22 : ev X d 72 22 (x0 :: x1 :: x2 :: some (.int a) :: L) st h = ev X d 72 23 (x0 :: x1 :: x2 :: some (.int a) :: L) (.int a :: st) h := g_iload_n dX3_newTable_22 rfl
theorem e_X3_newTable_23 : ev X d 72 23 (x0 :: x1 :: some (.int a) :: L) st h = ev X d 72 24 (x0 :: x1 :: some (.int a) :: L) (.int a :: st) h := g_iload_n dX3_newTable_23 rfl
theorem e_X3_newTable_24 : ev X d 72 24 L (.int b :: .int a :: st) h = if b ≤ a then ev X d 72 48 L st h else ev X d 72 27 L st h := g_icmp_ge dX3_newTable_24 (by decide)
theorem e_X3_newTable_27 : ev X d 72 27 (some (va_rf r) :: L) st h = ev X d 72 28 (some (va_rf r) :: L) (va_rf r :: st) h := g_aload_n dX3_newTable_27 rfl
theorem e_X3_newTable_28 : ev X d 72 28 L (va_rf (some q) :: st) h = (I_getf X h q 3 3).bind (fun v => ev X d 72 31 L (v :: st) h) := g_get dX3_newTable_28 (by decide)
theorem e_X3_newTable_31 : ev X d 72 31 L st h = ev X d 72 33 L (.int 12 :: st) h := g_bipush dX3_newTable_31 (by decide)
theorem e_X3_newTable_33 : ev X d 72 33 (some (va_rf r) :: L) st h = ev X d 72 34 (some (va_rf r) :: L) (va_rf r :: st) h := g_aload_n dX3_newTable_33 rfl
theorem e_X3_newTable_34 : ev X d 72 34 L (va_rf (some q) :: st) h = (I_getf X h q 3 0).bind (fun v => ev X d 72 37 L (v :: st) h) := g_get dX3_newTable_34 (by decide)
theorem e_X3_newTable_37 : ev X d 72 37 L (.int b :: .int a :: st) h = ev X d 72 38 L (.int (a * b) :: st) h := g_imul dX3_newTable_37
theorem e_X3_newTable_38 : ev X d 72 38 (x0 :: x1 :: x2 :: some (.int a) :: L) st h = ev X d 72 39 (x0 :: x1 :: x2 :: some (.int a) :: L) (.int a :: st) h := g_iload_n dX3_newTable_38 rfl
theorem e_X3_newTable_39 : ev X d 72 39 L (.int b :: .int a :: st) h = ev X d 72 40 L (.int (a + b) :: st) h := g_iadd dX3_newTable_39
theorem e_X3_newTable_40 : ev X d 72 40 L st h = ev X d 72 41 L (.int (-1) :: st) h := g_iconst dX3_newTable_40 (by decide)
theorem e_X3_newTable_41 : ev X d 72 41 L (.int v :: .int i :: va_rf (some q) :: st) h = (I_asti X h 0 q i v).bind (fun h => ev X d 72 42 L st h) := g_iast dX3_newTable_41
theorem e_X3_newTable_42 (hx : I_c2 x2 = false) : ev X d 72 42 (x0 :: x1 :: x2 :: some (.int a) :: L) st h = ev X d 72 45 (x0 :: x1 :: x2 :: some (.int (a + 1)) :: L) st h := g_iinc dX3_newTable_42 (by decide) rfl (I_st1_3 hx)
theorem e_X3_newTable_45 : ev X d 72 45 L st h = ev X d 72 22 L st h := g_goto dX3_newTable_45 (by decide)
theorem e_X3_newTable_48 : ev X d 72 48 (some (va_rf r) :: L) st h = ev X d 72 49 (some (va_rf r) :: L) (va_rf r :: st) h := g_aload_n dX3_newTable_48 rfl
theorem e_X3_newTable_49 : ev X d 72 49 L (va_rf r :: st) h = ev X d 72 50 L (va_rf r :: va_rf r :: st) h := g_dup dX3_newTable_49
theorem e_X3_newTable_49i : ev X d 72 49 L (.int a :: st) h = ev X d 72 50 L (.int a :: .int a :: st) h := g_dupi dX3_newTable_49
theorem e_X3_newTable_50 : ev X d 72 50 L (va_rf (some q) :: st) h = (I_getf X h q 3 0).bind (fun v => ev X d 72 53 L (v :: st) h) := g_get dX3_newTable_50 (by decide)
theorem e_X3_newTable_53 : ev X d 72 53 L st h = ev X d 72 54 L (.int 1 :: st) h := g_iconst dX3_newTable_53 (by decide)
theorem e_X3_newTable_54 : ev X d 72 54 L (.int b :: .int a :: st) h = ev X d 72 55 L (.int (a + b) :: st) h := g_iadd dX3_newTable_54
theorem e_X3_newTable_55 : ev X d 72 55 L (.int a :: va_rf (some q) :: st) h = (I_putf X h q 3 0 (.int a)).bind (fun h => ev X d 72 58 L st h) := g_put dX3_newTable_55 (by decide) (by first | rfl | decide)
theorem e_X3_newTable_58 : ev X d 72 58 (some (va_rf r) :: L) st h = ev X d 72 59 (some (va_rf r) :: L) (va_rf r :: st) h := g_aload_n dX3_newTable_58 rfl
theorem e_X3_newTable_59 : ev X d 72 59 L (va_rf (some q) :: st) h = (I_getf X h q 3 0).bind (fun v => ev X d 72 62 L (v :: st) h) := g_get dX3_newTable_59 (by decide)
theorem e_X3_newTable_62 : ev X d 72 62 L st h = ev X d 72 63 L (.int 1 :: st) h := g_iconst dX3_newTable_62 (by decide)
theorem e_X3_newTable_63 : ev X d 72 63 L (.int b :: .int a :: st) h = ev X d 72 64 L (.int (a - b) :: st) h := g_isub dX3_newTable_63
theorem e_X3_newTable_64 : ev X d 72 64 L [.int a] h = some (some (.int a), h) := g_iret dX3_newTable_64 rfl
theorem e_X3_newRow_0 : ev X d 73 0 (some (va_rf r) :: L) st h = ev X d 73 1 (some (va_rf r) :: L) (va_rf r :: st) h := g_aload_n dX3_newRow_0 rfl
theorem e_X3_newRow_1 : ev X d 73 1 L (va_rf (some q) :: st) h = (I_getf X h q 3 5).bind (fun v => ev X d 73 4 L (v :: st) h) := g_get dX3_newRow_1 (by decide)
theorem e_X3_newRow_4 : ev X d 73 4 (some (va_rf r) :: L) st h = ev X d 73 5 (some (va_rf r) :: L) (va_rf r :: st) h := g_aload_n dX3_newRow_4 rfl
theorem e_X3_newRow_5 : ev X d 73 5 L (va_rf (some q) :: st) h = (I_getf X h q 3 4).bind (fun v => ev X d 73 8 L (v :: st) h) := g_get dX3_newRow_5 (by decide)
theorem e_X3_newRow_8 : ev X d 73 8 (x0 :: x1 :: some (.int a) :: L) st h = ev X d 73 9 (x0 :: x1 :: some (.int a) :: L) (.int a :: st) h := g_iload_n dX3_newRow_8 rfl
theorem e_X3_newRow_9 : ev X d 73 9 L (.int v :: .int i :: va_rf (some q) :: st) h = (I_asti X h 0 q i v).bind (fun h => ev X d 73 10 L st h) := g_iast dX3_newRow_9
theorem e_X3_newRow_10 : ev X d 73 10 L st h = ev X d 73 11 L (.int 0 :: st) h := g_iconst dX3_newRow_10 (by decide)
theorem e_X3_newRow_11 (hx : I_c2 x2 = false) : ev X d 73 11 (x0 :: x1 :: x2 :: x3 :: L) (.int a :: st) h = ev X d 73 12 (x0 :: x1 :: x2 :: some (.int a) :: L) st h := g_istore_n dX3_newRow_11 (I_st1_3 hx)
theorem e_X3_newRow_12 : ev X d 73 12 (x0 :: x1 :: x2 :: some (.int a) :: L) st h = ev X d 73 13 (x0 :: x1 :: x2 :: some (.int a) :: L) (.int a :: st) h := g_iload_n dX3_newRow_12 rfl
theorem e_X3_newRow_13 : ev X d 73 13 L st h = ev X d 73 15 L (.int 16 :: st) h := g_bipush dX3_newRow_13 (by decide)
theorem e_X3_newRow_15 : ev X d 73 15 L (.int b :: .int a :: st) h = if b ≤ a then ev X d 73 64 L st h else ev X d 73 18 L st h := g_icmp_ge dX3_newRow_15 (by decide)
theorem e_X3_newRow_18 : ev X d 73 18 (some (va_rf r) :: L) st h = ev X d 73 19 (some (va_rf r) :: L) (va_rf r :: st) h := g_aload_n dX3_newRow_18 rfl
theorem e_X3_newRow_19 : ev X d 73 19 L (va_rf (some q) :: st) h = (I_getf X h q 3 6).bind (fun v => ev X d 73 22 L (v :: st) h) := g_get dX3_newRow_19 (by decide)
theorem e_X3_newRow_22 : ev X d 73 22 L st h = ev X d 73 24 L (.int 16 :: st) h := g_bipush dX3_newRow_22 (by decide)
theorem e_X3_newRow_24 : ev X d 73 24 (some (va_rf r) :: L) st h = ev X d 73 25 (some (va_rf r) :: L) (va_rf r :: st) h := g_aload_n dX3_newRow_24 rfl
theorem e_X3_newRow_25 : ev X d 73 25 L (va_rf (some q) :: st) h = (I_getf X h q 3 4).bind (fun v => ev X d 73 28 L (v :: st) h) := g_get dX3_newRow_25 (by decide)
theorem e_X3_newRow_28 : ev X d 73 28 L (.int b :: .int a :: st) h = ev X d 73 29 L (.int (a * b) :: st) h := g_imul dX3_newRow_28
theorem e_X3_newRow_29 : ev X d 73 29 (x0 :: x1 :: x2 :: some (.int a) :: L) st h = ev X d 73 30 (x0 :: x1 :: x2 :: some (.int a) :: L) (.int a :: st) h := g_iload_n dX3_newRow_29 rfl
theorem e_X3_newRow_30 : ev X d 73 30 L (.int b :: .int a :: st) h = ev X d 73 31 L (.int (a + b) :: st) h := g_iadd dX3_newRow_30
theorem e_X3_newRow_31 : ev X d 73 31 (x0 :: some (.int a) :: L) st h = ev X d 73 32 (x0 :: some (.int a) :: L) (.int a :: st) h := g_iload_n dX3_newRow_31 rfl
theorem e_X3_newRow_32 : ev X d 73 32 L st h = ev X d 73 33 L (.int 3 :: st) h := g_iconst dX3_newRow_32 (by decide)
theorem e_X3_newRow_33 : ev X d 73 33 L (.int b :: .int a :: st) h = if a = b then ev X d 73 36 L st h else ev X d 73 41 L st h := g_icmp_ne dX3_newRow_33 (by decide)
theorem e_X3_newRow_36 : ev X d 73 36 L st h = ev X d 73 38 L (.int (-1000009) :: st) h := g_ldc dX3_newRow_36 (by decide)
theorem e_X3_newRow_38 : ev X d 73 38 L st h = ev X d 73 42 L st h := g_goto dX3_newRow_38 (by decide)
theorem e_X3_newRow_41 : ev X d 73 41 L st h = ev X d 73 42 L (.int 0 :: st) h := g_iconst dX3_newRow_41 (by decide)
theorem e_X3_newRow_42 : ev X d 73 42 L (.int v :: .int i :: va_rf (some q) :: st) h = (I_asti X h 0 q i v).bind (fun h => ev X d 73 43 L st h) := g_iast dX3_newRow_42
theorem e_X3_newRow_43 : ev X d 73 43 (some (va_rf r) :: L) st h = ev X d 73 44 (some (va_rf r) :: L) (va_rf r :: st) h := g_aload_n dX3_newRow_43 rfl
theorem e_X3_newRow_44 : ev X d 73 44 L (va_rf (some q) :: st) h = (I_getf X h q 3 7).bind (fun v => ev X d 73 47 L (v :: st) h) := g_get dX3_newRow_44 (by decide)
theorem e_X3_newRow_47 : ev X d 73 47 L st h = ev X d 73 49 L (.int 16 :: st) h := g_bipush dX3_newRow_47 (by decide)
theorem e_X3_newRow_49 : ev X d 73 49 (some (va_rf r) :: L) st h = ev X d 73 50 (some (va_rf r) :: L) (va_rf r :: st) h := g_aload_n dX3_newRow_49 rfl
theorem e_X3_newRow_50 : ev X d 73 50 L (va_rf (some q) :: st) h = (I_getf X h q 3 4).bind (fun v => ev X d 73 53 L (v :: st) h) := g_get dX3_newRow_50 (by decide)
theorem e_X3_newRow_53 : ev X d 73 53 L (.int b :: .int a :: st) h = ev X d 73 54 L (.int (a * b) :: st) h := g_imul dX3_newRow_53
theorem e_X3_newRow_54 : ev X d 73 54 (x0 :: x1 :: x2 :: some (.int a) :: L) st h = ev X d 73 55 (x0 :: x1 :: x2 :: some (.int a) :: L) (.int a :: st) h := g_iload_n dX3_newRow_54 rfl
theorem e_X3_newRow_55 : ev X d 73 55 L (.int b :: .int a :: st) h = ev X d 73 56 L (.int (a + b) :: st) h := g_iadd dX3_newRow_55
theorem e_X3_newRow_56 : ev X d 73 56 L st h = ev X d 73 57 L (.double 0 :: st) h := g_dconst dX3_newRow_56
theorem e_X3_newRow_57 : ev X d 73 57 L (.double w :: .int i :: va_rf (some q) :: st) h = (I_astd X h q i w).bind (fun h => ev X d 73 58 L st h) := g_dast dX3_newRow_57
theorem e_X3_newRow_58 (hx : I_c2 x2 = false) : ev X d 73 58 (x0 :: x1 :: x2 :: some (.int a) :: L) st h = ev X d 73 61 (x0 :: x1 :: x2 :: some (.int (a + 1)) :: L) st h := g_iinc dX3_newRow_58 (by decide) rfl (I_st1_3 hx)
theorem e_X3_newRow_61 : ev X d 73 61 L st h = ev X d 73 12 L st h := g_goto dX3_newRow_61 (by decide)
theorem e_X3_newRow_64 : ev X d 73 64 (some (va_rf r) :: L) st h = ev X d 73 65 (some (va_rf r) :: L) (va_rf r :: st) h := g_aload_n dX3_newRow_64 rfl
theorem e_X3_newRow_65 : ev X d 73 65 L (va_rf r :: st) h = ev X d 73 66 L (va_rf r :: va_rf r :: st) h := g_dup dX3_newRow_65
theorem e_X3_newRow_65i : ev X d 73 65 L (.int a :: st) h = ev X d 73 66 L (.int a :: .int a :: st) h := g_dupi dX3_newRow_65
theorem e_X3_newRow_66 : ev X d 73 66 L (va_rf (some q) :: st) h = (I_getf X h q 3 4).bind (fun v => ev X d 73 69 L (v :: st) h) := g_get dX3_newRow_66 (by decide)
theorem e_X3_newRow_69 : ev X d 73 69 L st h = ev X d 73 70 L (.int 1 :: st) h := g_iconst dX3_newRow_69 (by decide)
theorem e_X3_newRow_70 : ev X d 73 70 L (.int b :: .int a :: st) h = ev X d 73 71 L (.int (a + b) :: st) h := g_iadd dX3_newRow_70
theorem e_X3_newRow_71 : ev X d 73 71 L (.int a :: va_rf (some q) :: st) h = (I_putf X h q 3 4 (.int a)).bind (fun h => ev X d 73 74 L st h) := g_put dX3_newRow_71 (by decide) (by first | rfl | decide)
theorem e_X3_newRow_74 : ev X d 73 74 (some (va_rf r) :: L) st h = ev X d 73 75 (some (va_rf r) :: L) (va_rf r :: st) h := g_aload_n dX3_newRow_74 rfl
theorem e_X3_newRow_75 : ev X d 73 75 L (va_rf (some q) :: st) h = (I_getf X h q 3 4).bind (fun v => ev X d 73 78 L (v :: st) h) := g_get dX3_newRow_75 (by decide)
theorem e_X3_newRow_78 : ev X d 73 78 L st h = ev X d 73 79 L (.int 1 :: st) h := g_iconst dX3_newRow_78 (by decide)
theorem e_X3_newRow_79 : ev X d 73 79 L (.int b :: .int a :: st) h = ev X d 73 80 L (.int (a - b) :: st) h := g_isub dX3_newRow_79
theorem e_X3_newRow_80 : ev X d 73 80 L [.int a] h = some (some (.int a), h) := g_iret dX3_newRow_80 rfl
theorem e_X3_newEven_0 : ev X d 74 0 (some (va_rf r) :: L) st h = ev X d 74 1 (some (va_rf r) :: L) (va_rf r :: st) h := g_aload_n dX3_newEven_0 rfl
theorem e_X3_newEven_1 : ev X d 74 1 (x0 :: some (.int a) :: L) st h = ev X d 74 2 (x0 :: some (.int a) :: L) (.int a :: st) h := g_iload_n dX3_newEven_1 rfl
theorem e_X3_newEven_2 : ev X d 74 2 (x0 :: x1 :: some (.int a) :: L) st h = ev X d 74 3 (x0 :: x1 :: some (.int a) :: L) (.int a :: st) h := g_iload_n dX3_newEven_2 rfl
theorem e_X3_newEven_3 (hc : I_isC X h q 3 = true) (hs : I_cat st ≤ 8) : ev X (d + 1) 74 3 L (.int a2 :: .int a1 :: va_rf (some q) :: st) h = (ev X d 72 0 [some (va_rf (some q)), some (.int a1), some (.int a2), none] [] h).bind (fun r => ev X (d + 1) 74 6 L (r.1.toList ++ st) r.2) := g_callV (as := [.int a2, .int a1]) dX3_newEven_3 (by decide) (by decide) I_np_72 rfl (by simp only [List.reverse_cons, List.reverse_nil, List.nil_append, List.cons_append, I_slots_n, I_slots_i, I_slots_d, I_slots_q, List.length_cons, List.length_nil]; decide) (by simp only [I_ent, List.reverse_cons, List.reverse_nil, List.nil_append, List.cons_append, I_slots_n, I_slots_i, I_slots_d, I_slots_q, List.length_cons, List.length_nil]; rfl) rfl hc hs
theorem e_X3_newEven_6 (hx : I_c2 x3 = false) : ev X d 74 6 (x0 :: x1 :: x2 :: x3 :: x4 :: L) (.int a :: st) h = ev X d 74 8 (x0 :: x1 :: x2 :: x3 :: some (.int a) :: L) st h := g_istore dX3_newEven_6 (I_st1_4 hx)
theorem e_X3_newEven_8 : ev X d 74 8 L st h = ev X d 74 9 L (.int 0 :: st) h := g_iconst dX3_newEven_8 (by decide)
theorem e_X3_newEven_9 (hx : I_c2 x4 = false) : ev X d 74 9 (x0 :: x1 :: x2 :: x3 :: x4 :: x5 :: L) (.int a :: st) h = ev X d 74 11 (x0 :: x1 :: x2 :: x3 :: x4 :: some (.int a) :: L) st h := g_istore dX3_newEven_9 (I_st1_5 hx)
theorem e_X3_newEven_11 : ev X d 74 11 (x0 :: x1 :: x2 :: x3 :: x4 :: some (.int a) :: L) st h = ev X d 74 13 (x0 :: x1 :: x2 :: x3 :: x4 :: some (.int a) :: L) (.int a :: st) h := g_iload dX3_newEven_11 rfl
theorem e_X3_newEven_13 : ev X d 74 13 (x0 :: x1 :: some (.int a) :: L) st h = ev X d 74 14 (x0 :: x1 :: some (.int a) :: L) (.int a :: st) h := g_iload_n dX3_newEven_13 rfl
theorem e_X3_newEven_14 : ev X d 74 14 L (.int b :: .int a :: st) h = if b ≤ a then ev X d 74 42 L st h else ev X d 74 17 L st h := g_icmp_ge dX3_newEven_14 (by decide)
theorem e_X3_newEven_17 : ev X d 74 17 (some (va_rf r) :: L) st h = ev X d 74 18 (some (va_rf r) :: L) (va_rf r :: st) h := g_aload_n dX3_newEven_17 rfl
theorem e_X3_newEven_18 : ev X d 74 18 L (va_rf (some q) :: st) h = (I_getf X h q 3 3).bind (fun v => ev X d 74 21 L (v :: st) h) := g_get dX3_newEven_18 (by decide)
theorem e_X3_newEven_21 : ev X d 74 21 L st h = ev X d 74 23 L (.int 12 :: st) h := g_bipush dX3_newEven_21 (by decide)
theorem e_X3_newEven_23 : ev X d 74 23 (x0 :: x1 :: x2 :: x3 :: some (.int a) :: L) st h = ev X d 74 25 (x0 :: x1 :: x2 :: x3 :: some (.int a) :: L) (.int a :: st) h := g_iload dX3_newEven_23 rfl
theorem e_X3_newEven_25 : ev X d 74 25 L (.int b :: .int a :: st) h = ev X d 74 26 L (.int (a * b) :: st) h := g_imul dX3_newEven_25
theorem e_X3_newEven_26 : ev X d 74 26 (x0 :: x1 :: x2 :: x3 :: x4 :: some (.int a) :: L) st h = ev X d 74 28 (x0 :: x1 :: x2 :: x3 :: x4 :: some (.int a) :: L) (.int a :: st) h := g_iload dX3_newEven_26 rfl
theorem e_X3_newEven_28 : ev X d 74 28 L (.int b :: .int a :: st) h = ev X d 74 29 L (.int (a + b) :: st) h := g_iadd dX3_newEven_28
theorem e_X3_newEven_29 : ev X d 74 29 (some (va_rf r) :: L) st h = ev X d 74 30 (some (va_rf r) :: L) (va_rf r :: st) h := g_aload_n dX3_newEven_29 rfl
theorem e_X3_newEven_30 : ev X d 74 30 (x0 :: some (.int a) :: L) st h = ev X d 74 31 (x0 :: some (.int a) :: L) (.int a :: st) h := g_iload_n dX3_newEven_30 rfl
theorem e_X3_newEven_31 : ev X d 74 31 (x0 :: x1 :: x2 :: some (.int a) :: L) st h = ev X d 74 32 (x0 :: x1 :: x2 :: some (.int a) :: L) (.int a :: st) h := g_iload_n dX3_newEven_31 rfl
theorem e_X3_newEven_32 (hc : I_isC X h q 3 = true) (hs : I_cat st ≤ 8) : ev X (d + 1) 74 32 L (.int a2 :: .int a1 :: va_rf (some q) :: st) h = (ev X d 73 0 [some (va_rf (some q)), some (.int a1), some (.int a2), none] [] h).bind (fun r => ev X (d + 1) 74 35 L (r.1.toList ++ st) r.2) := g_callV (as := [.int a2, .int a1]) dX3_newEven_32 (by decide) (by decide) I_np_73 rfl (by simp only [List.reverse_cons, List.reverse_nil, List.nil_append, List.cons_append, I_slots_n, I_slots_i, I_slots_d, I_slots_q, List.length_cons, List.length_nil]; decide) (by simp only [I_ent, List.reverse_cons, List.reverse_nil, List.nil_append, List.cons_append, I_slots_n, I_slots_i, I_slots_d, I_slots_q, List.length_cons, List.length_nil]; rfl) rfl hc hs
theorem e_X3_newEven_35 : ev X d 74 35 L (.int v :: .int i :: va_rf (some q) :: st) h = (I_asti X h 0 q i v).bind (fun h => ev X d 74 36 L st h) := g_iast dX3_newEven_35
theorem e_X3_newEven_36 (hx : I_c2 x4 = false) : ev X d 74 36 (x0 :: x1 :: x2 :: x3 :: x4 :: some (.int a) :: L) st h = ev X d 74 39 (x0 :: x1 :: x2 :: x3 :: x4 :: some (.int (a + 1)) :: L) st h := g_iinc dX3_newEven_36 (by decide) rfl (I_st1_5 hx)
theorem e_X3_newEven_39 : ev X d 74 39 L st h = ev X d 74 11 L st h := g_goto dX3_newEven_39 (by decide)
theorem e_X3_newEven_42 : ev X d 74 42 (x0 :: x1 :: x2 :: x3 :: some (.int a) :: L) st h = ev X d 74 44 (x0 :: x1 :: x2 :: x3 :: some (.int a) :: L) (.int a :: st) h := g_iload dX3_newEven_42 rfl
theorem e_X3_newEven_44 : ev X d 74 44 L [.int a] h = some (some (.int a), h) := g_iret dX3_newEven_44 rfl
theorem e_X3_table_0 : ev X d 75 0 (x0 :: some (.int a) :: L) st h = ev X d 75 1 (x0 :: some (.int a) :: L) (.int a :: st) h := g_iload_n dX3_table_0 rfl
theorem e_X3_table_1 : ev X d 75 1 L st h = ev X d 75 2 L (.int 0 :: st) h := g_iconst dX3_table_1 (by decide)
theorem e_X3_table_2 : ev X d 75 2 L st h = ev X d 75 3 L (.int 3 :: st) h := g_iconst dX3_table_2 (by decide)
theorem e_X3_table_3 (hs : I_cat st ≤ 8) : ev X (d + 1) 75 3 L (.int a3 :: .int a2 :: .int a1 :: st) h = (ev X d 69 0 [some (.int a1), some (.int a2), some (.int a3)] [] h).bind (fun r => ev X (d + 1) 75 6 L (r.1.toList ++ st) r.2) := g_callS (as := [.int a3, .int a2, .int a1]) dX3_table_3 (by decide) (by decide) I_np_69 rfl (by simp only [List.reverse_cons, List.reverse_nil, List.nil_append, List.cons_append, I_slots_n, I_slots_i, I_slots_d, I_slots_q, List.length_cons, List.length_nil]; decide) (by simp only [I_ent, List.reverse_cons, List.reverse_nil, List.nil_append, List.cons_append, I_slots_n, I_slots_i, I_slots_d, I_slots_q, List.length_cons, List.length_nil]; rfl) rfl hs
theorem e_X3_table_6 : ev X d 75 6 L (.int a :: st) h = if a = 0 then ev X d 75 15 L st h else ev X d 75 9 L st h := g_if_eq dX3_table_6 (by decide)
theorem e_X3_table_9 : ev X d 75 9 (x0 :: x1 :: some (.int a) :: L) st h = ev X d 75 10 (x0 :: x1 :: some (.int a) :: L) (.int a :: st) h := g_iload_n dX3_table_9 rfl
theorem e_X3_table_10 : ev X d 75 10 L st h = ev X d 75 12 L (.int 12 :: st) h := g_bipush dX3_table_10 (by decide)
theorem e_X3_table_12 : ev X d 75 12 L (.int b :: .int a :: st) h = if a ≤ b then ev X d 75 18 L st h else ev X d 75 15 L st h := g_icmp_le dX3_table_12 (by decide)
theorem e_X3_table_15 : ev X d 75 15 L st h = ev X d 75 17 L (.int (-1000002) :: st) h := g_ldc dX3_table_15 (by decide)
theorem e_X3_table_17 : ev X d 75 17 L [.int a] h = some (some (.int a), h) := g_iret dX3_table_17 rfl
theorem e_X3_table_18 : ev X d 75 18 (some (va_rf r) :: L) st h = ev X d 75 19 (some (va_rf r) :: L) (va_rf r :: st) h := g_aload_n dX3_table_18 rfl
theorem e_X3_table_19 : ev X d 75 19 L (va_rf (some q) :: st) h = (I_getf X h q 3 0).bind (fun v => ev X d 75 22 L (v :: st) h) := g_get dX3_table_19 (by decide)
theorem e_X3_table_22 : ev X d 75 22 L st h = ev X d 75 24 L (.int 16 :: st) h := g_bipush dX3_table_22 (by decide)
theorem e_X3_table_24 : ev X d 75 24 L (.int b :: .int a :: st) h = if a = b then ev X d 75 27 L st h else ev X d 75 30 L st h := g_icmp_ne dX3_table_24 (by decide)
theorem e_X3_table_27 : ev X d 75 27 L st h = ev X d 75 29 L (.int (-1000004) :: st) h := g_ldc dX3_table_27 (by decide)
theorem e_X3_table_29 : ev X d 75 29 L [.int a] h = some (some (.int a), h) := g_iret dX3_table_29 rfl
theorem e_X3_table_30 : ev X d 75 30 (x0 :: x1 :: some (.int a) :: L) st h = ev X d 75 31 (x0 :: x1 :: some (.int a) :: L) (.int a :: st) h := g_iload_n dX3_table_30 rfl
theorem e_X3_table_31 : ev X d 75 31 L (.int a :: st) h = if 0 ≤ a then ev X d 75 42 L st h else ev X d 75 34 L st h := g_if_ge dX3_table_31 (by decide)
theorem e_X3_table_34 : ev X d 75 34 (some (va_rf r) :: L) st h = ev X d 75 35 (some (va_rf r) :: L) (va_rf r :: st) h := g_aload_n dX3_table_34 rfl
theorem e_X3_table_35 : ev X d 75 35 L st h = ev X d 75 36 L (.int 4 :: st) h := g_iconst dX3_table_35 (by decide)
theorem e_X3_table_36 (hc : I_isC X h q 3 = true) (hs : I_cat st ≤ 8) : ev X (d + 1) 75 36 L (.int a1 :: va_rf (some q) :: st) h = (ev X d 70 0 [some (va_rf (some q)), some (.int a1)] [] h).bind (fun r => ev X (d + 1) 75 39 L (r.1.toList ++ st) r.2) := g_callV (as := [.int a1]) dX3_table_36 (by decide) (by decide) I_np_70 rfl (by simp only [List.reverse_cons, List.reverse_nil, List.nil_append, List.cons_append, I_slots_n, I_slots_i, I_slots_d, I_slots_q, List.length_cons, List.length_nil]; decide) (by simp only [I_ent, List.reverse_cons, List.reverse_nil, List.nil_append, List.cons_append, I_slots_n, I_slots_i, I_slots_d, I_slots_q, List.length_cons, List.length_nil]; rfl) rfl hc hs
theorem e_X3_table_39 : ev X d 75 39 L st h = ev X d 75 48 L st h := g_goto dX3_table_39 (by decide)
theorem e_X3_table_42 : ev X d 75 42 (some (va_rf r) :: L) st h = ev X d 75 43 (some (va_rf r) :: L) (va_rf r :: st) h := g_aload_n dX3_table_42 rfl
theorem e_X3_table_43 : ev X d 75 43 (x0 :: some (.int a) :: L) st h = ev X d 75 44 (x0 :: some (.int a) :: L) (.int a :: st) h := g_iload_n dX3_table_43 rfl
theorem e_X3_table_44 : ev X d 75 44 (x0 :: x1 :: some (.int a) :: L) st h = ev X d 75 45 (x0 :: x1 :: some (.int a) :: L) (.int a :: st) h := g_iload_n dX3_table_44 rfl
theorem e_X3_table_45 (hc : I_isC X h q 3 = true) (hs : I_cat st ≤ 8) : ev X (d + 1) 75 45 L (.int a2 :: .int a1 :: va_rf (some q) :: st) h = (ev X d 72 0 [some (va_rf (some q)), some (.int a1), some (.int a2), none] [] h).bind (fun r => ev X (d + 1) 75 48 L (r.1.toList ++ st) r.2) := g_callV (as := [.int a2, .int a1]) dX3_table_45 (by decide) (by decide) I_np_72 rfl (by simp only [List.reverse_cons, List.reverse_nil, List.nil_append, List.cons_append, I_slots_n, I_slots_i, I_slots_d, I_slots_q, List.length_cons, List.length_nil]; decide) (by simp only [I_ent, List.reverse_cons, List.reverse_nil, List.nil_append, List.cons_append, I_slots_n, I_slots_i, I_slots_d, I_slots_q, List.length_cons, List.length_nil]; rfl) rfl hc hs
theorem e_X3_table_48 : ev X d 75 48 L [.int a] h = some (some (.int a), h) := g_iret dX3_table_48 rfl
theorem e_X3_isPlace_0 : ev X d 76 0 (x0 :: x1 :: some (.int a) :: L) st h = ev X d 76 1 (x0 :: x1 :: some (.int a) :: L) (.int a :: st) h := g_iload_n dX3_isPlace_0 rfl
theorem e_X3_isPlace_1 : ev X d 76 1 L st h = ev X d 76 2 L (.int 0 :: st) h := g_iconst dX3_isPlace_1 (by decide)
theorem e_X3_isPlace_2 : ev X d 76 2 (some (va_rf r) :: L) st h = ev X d 76 3 (some (va_rf r) :: L) (va_rf r :: st) h := g_aload_n dX3_isPlace_2 rfl
theorem e_X3_isPlace_3 : ev X d 76 3 L (va_rf (some q) :: st) h = (I_getf X h q 3 2).bind (fun v => ev X d 76 6 L (v :: st) h) := g_get dX3_isPlace_3 (by decide)
theorem e_X3_isPlace_6 : ev X d 76 6 (x0 :: some (.int a) :: L) st h = ev X d 76 7 (x0 :: some (.int a) :: L) (.int a :: st) h := g_iload_n dX3_isPlace_6 rfl
theorem e_X3_isPlace_7 : ev X d 76 7 L (.int i :: va_rf (some q) :: st) h = (I_aldi X h 0 q i).bind (fun v => ev X d 76 8 L (.int v :: st) h) := g_iald dX3_isPlace_7 (by decide)
theorem e_X3_isPlace_8 : ev X d 76 8 L st h = ev X d 76 9 L (.int 1 :: st) h := g_iconst dX3_isPlace_8 (by decide)
theorem e_X3_isPlace_9 : ev X d 76 9 L (.int b :: .int a :: st) h = ev X d 76 10 L (.int (a - b) :: st) h := g_isub dX3_isPlace_9
theorem e_X3_isPlace_10 (hs : I_cat st ≤ 8) : ev X (d + 1) 76 10 L (.int a3 :: .int a2 :: .int a1 :: st) h = (ev X d 69 0 [some (.int a1), some (.int a2), some (.int a3)] [] h).bind (fun r => ev X (d + 1) 76 13 L (r.1.toList ++ st) r.2) := g_callS (as := [.int a3, .int a2, .int a1]) dX3_isPlace_10 (by decide) (by decide) I_np_69 rfl (by simp only [List.reverse_cons, List.reverse_nil, List.nil_append, List.cons_append, I_slots_n, I_slots_i, I_slots_d, I_slots_q, List.length_cons, List.length_nil]; decide) (by simp only [I_ent, List.reverse_cons, List.reverse_nil, List.nil_append, List.cons_append, I_slots_n, I_slots_i, I_slots_d, I_slots_q, List.length_cons, List.length_nil]; rfl) rfl hs
theorem e_X3_isPlace_13 (ha : a = 0 ∨ a = 1) : ev X d 76 13 L [.int a] h = some (some (.int a), h) := g_zret dX3_isPlace_13 rfl ha
theorem e_X3_row_0 : ev X d 77 0 (some (va_rf r) :: L) st h = ev X d 77 1 (some (va_rf r) :: L) (va_rf r :: st) h := g_aload_n dX3_row_0 rfl
theorem e_X3_row_1 : ev X d 77 1 (x0 :: some (.int a) :: L) st h = ev X d 77 2 (x0 :: some (.int a) :: L) (.int a :: st) h := g_iload_n dX3_row_1 rfl
theorem e_X3_row_2 (hc : I_isC X h q 3 = true) (hs : I_cat st ≤ 8) : ev X (d + 1) 77 2 L (.int a1 :: va_rf (some q) :: st) h = (ev X d 71 0 [some (va_rf (some q)), some (.int a1)] [] h).bind (fun r => ev X (d + 1) 77 5 L (r.1.toList ++ st) r.2) := g_callV (as := [.int a1]) dX3_row_2 (by decide) (by decide) I_np_71 rfl (by simp only [List.reverse_cons, List.reverse_nil, List.nil_append, List.cons_append, I_slots_n, I_slots_i, I_slots_d, I_slots_q, List.length_cons, List.length_nil]; decide) (by simp only [I_ent, List.reverse_cons, List.reverse_nil, List.nil_append, List.cons_append, I_slots_n, I_slots_i, I_slots_d, I_slots_q, List.length_cons, List.length_nil]; rfl) rfl hc hs
theorem e_X3_row_5 : ev X d 77 5 L (.int a :: st) h = if a = 0 then ev X d 77 8 L st h else ev X d 77 11 L st h := g_if_ne dX3_row_5 (by decide)
theorem e_X3_row_8 : ev X d 77 8 L st h = ev X d 77 10 L (.int (-1000001) :: st) h := g_ldc dX3_row_8 (by decide)
theorem e_X3_row_10 : ev X d 77 10 L [.int a] h = some (some (.int a), h) := g_iret dX3_row_10 rfl
theorem e_X3_row_11 : ev X d 77 11 (x0 :: x1 :: x2 :: some (.int a) :: L) st h = ev X d 77 12 (x0 :: x1 :: x2 :: some (.int a) :: L) (.int a :: st) h := g_iload_n dX3_row_11 rfl
theorem e_X3_row_12 : ev X d 77 12 L st h = ev X d 77 14 L (.int 16 :: st) h := g_bipush dX3_row_12 (by decide)
theorem e_X3_row_14 : ev X d 77 14 L (.int b :: .int a :: st) h = if a ≤ b then ev X d 77 20 L st h else ev X d 77 17 L st h := g_icmp_le dX3_row_14 (by decide)
theorem e_X3_row_17 : ev X d 77 17 L st h = ev X d 77 19 L (.int (-1000002) :: st) h := g_ldc dX3_row_17 (by decide)
theorem e_X3_row_19 : ev X d 77 19 L [.int a] h = some (some (.int a), h) := g_iret dX3_row_19 rfl
theorem e_X3_row_20 : ev X d 77 20 (x0 :: x1 :: x2 :: some (.int a) :: L) st h = ev X d 77 21 (x0 :: x1 :: x2 :: some (.int a) :: L) (.int a :: st) h := g_iload_n dX3_row_20 rfl
theorem e_X3_row_21 : ev X d 77 21 L (.int a :: st) h = if a < 0 then ev X d 77 33 L st h else ev X d 77 24 L st h := g_if_lt dX3_row_21 (by decide)
theorem e_X3_row_24 : ev X d 77 24 (some (va_rf r) :: L) st h = ev X d 77 25 (some (va_rf r) :: L) (va_rf r :: st) h := g_aload_n dX3_row_24 rfl
theorem e_X3_row_25 : ev X d 77 25 (x0 :: some (.int a) :: L) st h = ev X d 77 26 (x0 :: some (.int a) :: L) (.int a :: st) h := g_iload_n dX3_row_25 rfl
theorem e_X3_row_26 : ev X d 77 26 (x0 :: x1 :: some (.int a) :: L) st h = ev X d 77 27 (x0 :: x1 :: some (.int a) :: L) (.int a :: st) h := g_iload_n dX3_row_26 rfl
theorem e_X3_row_27 (hc : I_isC X h q 3 = true) (hs : I_cat st ≤ 8) : ev X (d + 1) 77 27 L (.int a2 :: .int a1 :: va_rf (some q) :: st) h = (ev X d 76 0 [some (va_rf (some q)), some (.int a1), some (.int a2)] [] h).bind (fun r => ev X (d + 1) 77 30 L (r.1.toList ++ st) r.2) := g_callV (as := [.int a2, .int a1]) dX3_row_27 (by decide) (by decide) I_np_76 rfl (by simp only [List.reverse_cons, List.reverse_nil, List.nil_append, List.cons_append, I_slots_n, I_slots_i, I_slots_d, I_slots_q, List.length_cons, List.length_nil]; decide) (by simp only [I_ent, List.reverse_cons, List.reverse_nil, List.nil_append, List.cons_append, I_slots_n, I_slots_i, I_slots_d, I_slots_q, List.length_cons, List.length_nil]; rfl) rfl hc hs
theorem e_X3_row_30 : ev X d 77 30 L (.int a :: st) h = if a = 0 then ev X d 77 33 L st h else ev X d 77 47 L st h := g_if_ne dX3_row_30 (by decide)
theorem e_X3_row_33 : ev X d 77 33 (some (va_rf r) :: L) st h = ev X d 77 34 (some (va_rf r) :: L) (va_rf r :: st) h := g_aload_n dX3_row_33 rfl
theorem e_X3_row_34 : ev X d 77 34 (x0 :: x1 :: x2 :: some (.int a) :: L) st h = ev X d 77 35 (x0 :: x1 :: x2 :: some (.int a) :: L) (.int a :: st) h := g_iload_n dX3_row_34 rfl
theorem e_X3_row_35 : ev X d 77 35 L (.int a :: st) h = if 0 ≤ a then ev X d 77 42 L st h else ev X d 77 38 L st h := g_if_ge dX3_row_35 (by decide)
theorem e_X3_row_38 : ev X d 77 38 L st h = ev X d 77 39 L (.int 4 :: st) h := g_iconst dX3_row_38 (by decide)
theorem e_X3_row_39 : ev X d 77 39 L st h = ev X d 77 43 L st h := g_goto dX3_row_39 (by decide)
theorem e_X3_row_42 : ev X d 77 42 L st h = ev X d 77 43 L (.int 2 :: st) h := g_iconst dX3_row_42 (by decide)
theorem e_X3_row_43 (hc : I_isC X h q 3 = true) (hs : I_cat st ≤ 8) : ev X (d + 1) 77 43 L (.int a1 :: va_rf (some q) :: st) h = (ev X d 70 0 [some (va_rf (some q)), some (.int a1)] [] h).bind (fun r => ev X (d + 1) 77 46 L (r.1.toList ++ st) r.2) := g_callV (as := [.int a1]) dX3_row_43 (by decide) (by decide) I_np_70 rfl (by simp only [List.reverse_cons, List.reverse_nil, List.nil_append, List.cons_append, I_slots_n, I_slots_i, I_slots_d, I_slots_q, List.length_cons, List.length_nil]; decide) (by simp only [I_ent, List.reverse_cons, List.reverse_nil, List.nil_append, List.cons_append, I_slots_n, I_slots_i, I_slots_d, I_slots_q, List.length_cons, List.length_nil]; rfl) rfl hc hs
theorem e_X3_row_46 : ev X d 77 46 L [.int a] h = some (some (.int a), h) := g_iret dX3_row_46 rfl
theorem e_X3_row_47 : ev X d 77 47 (some (va_rf r) :: L) st h = ev X d 77 48 (some (va_rf r) :: L) (va_rf r :: st) h := g_aload_n dX3_row_47 rfl
theorem e_X3_row_48 (hc : I_isC X h q 3 = true) (hs : I_cat st ≤ 8) : ev X (d + 1) 77 48 L (va_rf (some q) :: st) h = (ev X d 78 0 [some (va_rf (some q)), none, none, none] [] h).bind (fun r => ev X (d + 1) 77 51 L (r.1.toList ++ st) r.2) := g_callV (as := []) dX3_row_48 (by decide) (by decide) I_np_78 rfl (by simp only [List.reverse_cons, List.reverse_nil, List.nil_append, List.cons_append, I_slots_n, I_slots_i, I_slots_d, I_slots_q, List.length_cons, List.length_nil]; decide) (by simp only [I_ent, List.reverse_cons, List.reverse_nil, List.nil_append, List.cons_append, I_slots_n, I_slots_i, I_slots_d, I_slots_q, List.length_cons, List.length_nil]; rfl) rfl hc hs
theorem e_X3_row_51 : ev X d 77 51 (some (va_rf r) :: L) st h = ev X d 77 52 (some (va_rf r) :: L) (va_rf r :: st) h := g_aload_n dX3_row_51 rfl
theorem e_X3_row_52 : ev X d 77 52 L (va_rf (some q) :: st) h = (I_getf X h q 3 3).bind (fun v => ev X d 77 55 L (v :: st) h) := g_get dX3_row_52 (by decide)
theorem e_X3_row_55 : ev X d 77 55 L st h = ev X d 77 57 L (.int 12 :: st) h := g_bipush dX3_row_55 (by decide)
theorem e_X3_row_57 : ev X d 77 57 (x0 :: some (.int a) :: L) st h = ev X d 77 58 (x0 :: some (.int a) :: L) (.int a :: st) h := g_iload_n dX3_row_57 rfl
theorem e_X3_row_58 : ev X d 77 58 L (.int b :: .int a :: st) h = ev X d 77 59 L (.int (a * b) :: st) h := g_imul dX3_row_58
theorem e_X3_row_59 : ev X d 77 59 (x0 :: x1 :: some (.int a) :: L) st h = ev X d 77 60 (x0 :: x1 :: some (.int a) :: L) (.int a :: st) h := g_iload_n dX3_row_59 rfl
theorem e_X3_row_60 : ev X d 77 60 L (.int b :: .int a :: st) h = ev X d 77 61 L (.int (a + b) :: st) h := g_iadd dX3_row_60
theorem e_X3_row_61 : ev X d 77 61 (some (va_rf r) :: L) st h = ev X d 77 62 (some (va_rf r) :: L) (va_rf r :: st) h := g_aload_n dX3_row_61 rfl
theorem e_X3_row_62 : ev X d 77 62 (some (va_rf r) :: L) st h = ev X d 77 63 (some (va_rf r) :: L) (va_rf r :: st) h := g_aload_n dX3_row_62 rfl
theorem e_X3_row_63 : ev X d 77 63 L (va_rf (some q) :: st) h = (I_getf X h q 3 1).bind (fun v => ev X d 77 66 L (v :: st) h) := g_get dX3_row_63 (by decide)
theorem e_X3_row_66 : ev X d 77 66 (x0 :: some (.int a) :: L) st h = ev X d 77 67 (x0 :: some (.int a) :: L) (.int a :: st) h := g_iload_n dX3_row_66 rfl
theorem e_X3_row_67 : ev X d 77 67 L (.int i :: va_rf (some q) :: st) h = (I_aldi X h 0 q i).bind (fun v => ev X d 77 68 L (.int v :: st) h) := g_iald dX3_row_67 (by decide)
theorem e_X3_row_68 : ev X d 77 68 (x0 :: x1 :: x2 :: some (.int a) :: L) st h = ev X d 77 69 (x0 :: x1 :: x2 :: some (.int a) :: L) (.int a :: st) h := g_iload_n dX3_row_68 rfl
theorem e_X3_row_69 (hc : I_isC X h q 3 = true) (hs : I_cat st ≤ 8) : ev X (d + 1) 77 69 L (.int a2 :: .int a1 :: va_rf (some q) :: st) h = (ev X d 73 0 [some (va_rf (some q)), some (.int a1), some (.int a2), none] [] h).bind (fun r => ev X (d + 1) 77 72 L (r.1.toList ++ st) r.2) := g_callV (as := [.int a2, .int a1]) dX3_row_69 (by decide) (by decide) I_np_73 rfl (by simp only [List.reverse_cons, List.reverse_nil, List.nil_append, List.cons_append, I_slots_n, I_slots_i, I_slots_d, I_slots_q, List.length_cons, List.length_nil]; decide) (by simp only [I_ent, List.reverse_cons, List.reverse_nil, List.nil_append, List.cons_append, I_slots_n, I_slots_i, I_slots_d, I_slots_q, List.length_cons, List.length_nil]; rfl) rfl hc hs
theorem e_X3_row_72 : ev X d 77 72 L (.int v :: .int i :: va_rf (some q) :: st) h = (I_asti X h 0 q i v).bind (fun h => ev X d 77 73 L st h) := g_iast dX3_row_72
theorem e_X3_row_73 : ev X d 77 73 L st h = ev X d 77 74 L (.int 1 :: st) h := g_iconst dX3_row_73 (by decide)
theorem e_X3_row_74 : ev X d 77 74 L [.int a] h = some (some (.int a), h) := g_iret dX3_row_74 rfl
theorem e_X3_squeeze_0 : ev X d 78 0 (some (va_rf r) :: L) st h = ev X d 78 1 (some (va_rf r) :: L) (va_rf r :: st) h := g_aload_n dX3_squeeze_0 rfl
theorem e_X3_squeeze_1 : ev X d 78 1 L (va_rf (some q) :: st) h = (I_getf X h q 3 4).bind (fun v => ev X d 78 4 L (v :: st) h) := g_get dX3_squeeze_1 (by decide)
theorem e_X3_squeeze_4 : ev X d 78 4 L st h = ev X d 78 7 L (.int 500 :: st) h := g_sipush dX3_squeeze_4 (by decide)
theorem e_X3_squeeze_7 : ev X d 78 7 L (.int b :: .int a :: st) h = if b ≤ a then ev X d 78 11 L st h else ev X d 78 10 L st h := g_icmp_ge dX3_squeeze_7 (by decide)
theorem e_X3_squeeze_10 : ev X d 78 10 L [] h = some (none, h) := g_vret dX3_squeeze_10 rfl
theorem e_X3_squeeze_11 : ev X d 78 11 L st h = ev X d 78 12 L (.int 0 :: st) h := g_iconst dX3_squeeze_11 (by decide)
theorem e_X3_squeeze_12 (hx : I_c2 x0 = false) : ev X d 78 12 (x0 :: x1 :: L) (.int a :: st) h = ev X d 78 13 (x0 :: some (.int a) :: L) st h := g_istore_n dX3_squeeze_12 (I_st1_1 hx)
theorem e_X3_squeeze_13 : ev X d 78 13 (x0 :: some (.int a) :: L) st h = ev X d 78 14 (x0 :: some (.int a) :: L) (.int a :: st) h := g_iload_n dX3_squeeze_13 rfl
theorem e_X3_squeeze_14 : ev X d 78 14 (some (va_rf r) :: L) st h = ev X d 78 15 (some (va_rf r) :: L) (va_rf r :: st) h := g_aload_n dX3_squeeze_14 rfl
theorem e_X3_squeeze_15 : ev X d 78 15 L (va_rf (some q) :: st) h = (I_getf X h q 3 4).bind (fun v => ev X d 78 18 L (v :: st) h) := g_get dX3_squeeze_15 (by decide)
theorem e_X3_squeeze_18 : ev X d 78 18 L (.int b :: .int a :: st) h = if b ≤ a then ev X d 78 34 L st h else ev X d 78 21 L st h := g_icmp_ge dX3_squeeze_18 (by decide)
theorem e_X3_squeeze_21 : ev X d 78 21 (some (va_rf r) :: L) st h = ev X d 78 22 (some (va_rf r) :: L) (va_rf r :: st) h := g_aload_n dX3_squeeze_21 rfl
theorem e_X3_squeeze_22 : ev X d 78 22 L (va_rf (some q) :: st) h = (I_getf X h q 3 9).bind (fun v => ev X d 78 25 L (v :: st) h) := g_get dX3_squeeze_22 (by decide)
theorem e_X3_squeeze_25 : ev X d 78 25 (x0 :: some (.int a) :: L) st h = ev X d 78 26 (x0 :: some (.int a) :: L) (.int a :: st) h := g_iload_n dX3_squeeze_25 rfl
theorem e_X3_squeeze_26 : ev X d 78 26 L st h = ev X d 78 27 L (.int (-1) :: st) h := g_iconst dX3_squeeze_26 (by decide)
theorem e_X3_squeeze_27 : ev X d 78 27 L (.int v :: .int i :: va_rf (some q) :: st) h = (I_asti X h 0 q i v).bind (fun h => ev X d 78 28 L st h) := g_iast dX3_squeeze_27
theorem e_X3_squeeze_28 (hx : I_c2 x0 = false) : ev X d 78 28 (x0 :: some (.int a) :: L) st h = ev X d 78 31 (x0 :: some (.int (a + 1)) :: L) st h := g_iinc dX3_squeeze_28 (by decide) rfl (I_st1_1 hx)
theorem e_X3_squeeze_31 : ev X d 78 31 L st h = ev X d 78 13 L st h := g_goto dX3_squeeze_31 (by decide)
theorem e_X3_squeeze_34 : ev X d 78 34 L st h = ev X d 78 35 L (.int 0 :: st) h := g_iconst dX3_squeeze_34 (by decide)
theorem e_X3_squeeze_35 (hx : I_c2 x0 = false) : ev X d 78 35 (x0 :: x1 :: L) (.int a :: st) h = ev X d 78 36 (x0 :: some (.int a) :: L) st h := g_istore_n dX3_squeeze_35 (I_st1_1 hx)
theorem e_X3_squeeze_36 : ev X d 78 36 (x0 :: some (.int a) :: L) st h = ev X d 78 37 (x0 :: some (.int a) :: L) (.int a :: st) h := g_iload_n dX3_squeeze_36 rfl
theorem e_X3_squeeze_37 : ev X d 78 37 L st h = ev X d 78 40 L (.int 192 :: st) h := g_sipush dX3_squeeze_37 (by decide)
theorem e_X3_squeeze_40 : ev X d 78 40 L (.int b :: .int a :: st) h = if b ≤ a then ev X d 78 97 L st h else ev X d 78 43 L st h := g_icmp_ge dX3_squeeze_40 (by decide)
theorem e_X3_squeeze_43 : ev X d 78 43 (x0 :: some (.int a) :: L) st h = ev X d 78 44 (x0 :: some (.int a) :: L) (.int a :: st) h := g_iload_n dX3_squeeze_43 rfl
theorem e_X3_squeeze_44 : ev X d 78 44 L st h = ev X d 78 46 L (.int 12 :: st) h := g_bipush dX3_squeeze_44 (by decide)
theorem e_X3_squeeze_46 (hb : ¬ b = 0) : ev X d 78 46 L (.int b :: .int a :: st) h = ev X d 78 47 L (.int (a / b) :: st) h := g_idiv dX3_squeeze_46 hb
theorem e_X3_squeeze_47 : ev X d 78 47 (some (va_rf r) :: L) st h = ev X d 78 48 (some (va_rf r) :: L) (va_rf r :: st) h := g_aload_n dX3_squeeze_47 rfl
theorem e_X3_squeeze_48 : ev X d 78 48 L (va_rf (some q) :: st) h = (I_getf X h q 3 0).bind (fun v => ev X d 78 51 L (v :: st) h) := g_get dX3_squeeze_48 (by decide)
theorem e_X3_squeeze_51 : ev X d 78 51 L (.int b :: .int a :: st) h = if b ≤ a then ev X d 78 91 L st h else ev X d 78 54 L st h := g_icmp_ge dX3_squeeze_51 (by decide)
theorem e_X3_squeeze_54 : ev X d 78 54 (x0 :: some (.int a) :: L) st h = ev X d 78 55 (x0 :: some (.int a) :: L) (.int a :: st) h := g_iload_n dX3_squeeze_54 rfl
theorem e_X3_squeeze_55 : ev X d 78 55 L st h = ev X d 78 57 L (.int 12 :: st) h := g_bipush dX3_squeeze_55 (by decide)
theorem e_X3_squeeze_57 (hb : ¬ b = 0) : ev X d 78 57 L (.int b :: .int a :: st) h = ev X d 78 58 L (.int (a - a / b * b) :: st) h := g_irem dX3_squeeze_57 hb
theorem e_X3_squeeze_58 : ev X d 78 58 (some (va_rf r) :: L) st h = ev X d 78 59 (some (va_rf r) :: L) (va_rf r :: st) h := g_aload_n dX3_squeeze_58 rfl
theorem e_X3_squeeze_59 : ev X d 78 59 L (va_rf (some q) :: st) h = (I_getf X h q 3 2).bind (fun v => ev X d 78 62 L (v :: st) h) := g_get dX3_squeeze_59 (by decide)
theorem e_X3_squeeze_62 : ev X d 78 62 (x0 :: some (.int a) :: L) st h = ev X d 78 63 (x0 :: some (.int a) :: L) (.int a :: st) h := g_iload_n dX3_squeeze_62 rfl
theorem e_X3_squeeze_63 : ev X d 78 63 L st h = ev X d 78 65 L (.int 12 :: st) h := g_bipush dX3_squeeze_63 (by decide)
theorem e_X3_squeeze_65 (hb : ¬ b = 0) : ev X d 78 65 L (.int b :: .int a :: st) h = ev X d 78 66 L (.int (a / b) :: st) h := g_idiv dX3_squeeze_65 hb
theorem e_X3_squeeze_66 : ev X d 78 66 L (.int i :: va_rf (some q) :: st) h = (I_aldi X h 0 q i).bind (fun v => ev X d 78 67 L (.int v :: st) h) := g_iald dX3_squeeze_66 (by decide)
theorem e_X3_squeeze_67 : ev X d 78 67 L (.int b :: .int a :: st) h = if b ≤ a then ev X d 78 91 L st h else ev X d 78 70 L st h := g_icmp_ge dX3_squeeze_67 (by decide)
theorem e_X3_squeeze_70 : ev X d 78 70 (some (va_rf r) :: L) st h = ev X d 78 71 (some (va_rf r) :: L) (va_rf r :: st) h := g_aload_n dX3_squeeze_70 rfl
theorem e_X3_squeeze_71 : ev X d 78 71 L (va_rf (some q) :: st) h = (I_getf X h q 3 3).bind (fun v => ev X d 78 74 L (v :: st) h) := g_get dX3_squeeze_71 (by decide)
theorem e_X3_squeeze_74 : ev X d 78 74 (x0 :: some (.int a) :: L) st h = ev X d 78 75 (x0 :: some (.int a) :: L) (.int a :: st) h := g_iload_n dX3_squeeze_74 rfl
theorem e_X3_squeeze_75 : ev X d 78 75 L (.int i :: va_rf (some q) :: st) h = (I_aldi X h 0 q i).bind (fun v => ev X d 78 76 L (.int v :: st) h) := g_iald dX3_squeeze_75 (by decide)
theorem e_X3_squeeze_76 : ev X d 78 76 L (.int a :: st) h = if a < 0 then ev X d 78 91 L st h else ev X d 78 79 L st h := g_if_lt dX3_squeeze_76 (by decide)
theorem e_X3_squeeze_79 : ev X d 78 79 (some (va_rf r) :: L) st h = ev X d 78 80 (some (va_rf r) :: L) (va_rf r :: st) h := g_aload_n dX3_squeeze_79 rfl
theorem e_X3_squeeze_80 : ev X d 78 80 L (va_rf (some q) :: st) h = (I_getf X h q 3 9).bind (fun v => ev X d 78 83 L (v :: st) h) := g_get dX3_squeeze_80 (by decide)
theorem e_X3_squeeze_83 : ev X d 78 83 (some (va_rf r) :: L) st h = ev X d 78 84 (some (va_rf r) :: L) (va_rf r :: st) h := g_aload_n dX3_squeeze_83 rfl
theorem e_X3_squeeze_84 : ev X d 78 84 L (va_rf (some q) :: st) h = (I_getf X h q 3 3).bind (fun v => ev X d 78 87 L (v :: st) h) := g_get dX3_squeeze_84 (by decide)
theorem e_X3_squeeze_87 : ev X d 78 87 (x0 :: some (.int a) :: L) st h = ev X d 78 88 (x0 :: some (.int a) :: L) (.int a :: st) h := g_iload_n dX3_squeeze_87 rfl
theorem e_X3_squeeze_88 : ev X d 78 88 L (.int i :: va_rf (some q) :: st) h = (I_aldi X h 0 q i).bind (fun v => ev X d 78 89 L (.int v :: st) h) := g_iald dX3_squeeze_88 (by decide)
theorem e_X3_squeeze_89 : ev X d 78 89 L st h = ev X d 78 90 L (.int 0 :: st) h := g_iconst dX3_squeeze_89 (by decide)
theorem e_X3_squeeze_90 : ev X d 78 90 L (.int v :: .int i :: va_rf (some q) :: st) h = (I_asti X h 0 q i v).bind (fun h => ev X d 78 91 L st h) := g_iast dX3_squeeze_90
theorem e_X3_squeeze_91 (hx : I_c2 x0 = false) : ev X d 78 91 (x0 :: some (.int a) :: L) st h = ev X d 78 94 (x0 :: some (.int (a + 1)) :: L) st h := g_iinc dX3_squeeze_91 (by decide) rfl (I_st1_1 hx)
theorem e_X3_squeeze_94 : ev X d 78 94 L st h = ev X d 78 36 L st h := g_goto dX3_squeeze_94 (by decide)
theorem e_X3_squeeze_97 : ev X d 78 97 L st h = ev X d 78 98 L (.int 0 :: st) h := g_iconst dX3_squeeze_97 (by decide)
theorem e_X3_squeeze_98 (hx : I_c2 x0 = false) : ev X d 78 98 (x0 :: x1 :: L) (.int a :: st) h = ev X d 78 99 (x0 :: some (.int a) :: L) st h := g_istore_n dX3_squeeze_98 (I_st1_1 hx)
theorem e_X3_squeeze_99 : ev X d 78 99 L st h = ev X d 78 100 L (.int 0 :: st) h := g_iconst dX3_squeeze_99 (by decide)
theorem e_X3_squeeze_100 (hx : I_c2 x1 = false) : ev X d 78 100 (x0 :: x1 :: x2 :: L) (.int a :: st) h = ev X d 78 101 (x0 :: x1 :: some (.int a) :: L) st h := g_istore_n dX3_squeeze_100 (I_st1_2 hx)
theorem e_X3_squeeze_101 : ev X d 78 101 (x0 :: x1 :: some (.int a) :: L) st h = ev X d 78 102 (x0 :: x1 :: some (.int a) :: L) (.int a :: st) h := g_iload_n dX3_squeeze_101 rfl
theorem e_X3_squeeze_102 : ev X d 78 102 (some (va_rf r) :: L) st h = ev X d 78 103 (some (va_rf r) :: L) (va_rf r :: st) h := g_aload_n dX3_squeeze_102 rfl
theorem e_X3_squeeze_103 : ev X d 78 103 L (va_rf (some q) :: st) h = (I_getf X h q 3 4).bind (fun v => ev X d 78 106 L (v :: st) h) := g_get dX3_squeeze_103 (by decide)
theorem e_X3_squeeze_106 : ev X d 78 106 L (.int b :: .int a :: st) h = if b ≤ a then ev X d 78 204 L st h else ev X d 78 109 L st h := g_icmp_ge dX3_squeeze_106 (by decide)
theorem e_X3_squeeze_109 : ev X d 78 109 (some (va_rf r) :: L) st h = ev X d 78 110 (some (va_rf r) :: L) (va_rf r :: st) h := g_aload_n dX3_squeeze_109 rfl
theorem e_X3_squeeze_110 : ev X d 78 110 L (va_rf (some q) :: st) h = (I_getf X h q 3 9).bind (fun v => ev X d 78 113 L (v :: st) h) := g_get dX3_squeeze_110 (by decide)
theorem e_X3_squeeze_113 : ev X d 78 113 (x0 :: x1 :: some (.int a) :: L) st h = ev X d 78 114 (x0 :: x1 :: some (.int a) :: L) (.int a :: st) h := g_iload_n dX3_squeeze_113 rfl
theorem e_X3_squeeze_114 : ev X d 78 114 L (.int i :: va_rf (some q) :: st) h = (I_aldi X h 0 q i).bind (fun v => ev X d 78 115 L (.int v :: st) h) := g_iald dX3_squeeze_114 (by decide)
theorem e_X3_squeeze_115 : ev X d 78 115 L (.int a :: st) h = if a = 0 then ev X d 78 118 L st h else ev X d 78 198 L st h := g_if_ne dX3_squeeze_115 (by decide)
theorem e_X3_squeeze_118 : ev X d 78 118 (some (va_rf r) :: L) st h = ev X d 78 119 (some (va_rf r) :: L) (va_rf r :: st) h := g_aload_n dX3_squeeze_118 rfl
theorem e_X3_squeeze_119 : ev X d 78 119 L (va_rf (some q) :: st) h = (I_getf X h q 3 9).bind (fun v => ev X d 78 122 L (v :: st) h) := g_get dX3_squeeze_119 (by decide)
theorem e_X3_squeeze_122 : ev X d 78 122 (x0 :: x1 :: some (.int a) :: L) st h = ev X d 78 123 (x0 :: x1 :: some (.int a) :: L) (.int a :: st) h := g_iload_n dX3_squeeze_122 rfl
theorem e_X3_squeeze_123 : ev X d 78 123 (x0 :: some (.int a) :: L) st h = ev X d 78 124 (x0 :: some (.int a) :: L) (.int a :: st) h := g_iload_n dX3_squeeze_123 rfl
theorem e_X3_squeeze_124 : ev X d 78 124 L (.int v :: .int i :: va_rf (some q) :: st) h = (I_asti X h 0 q i v).bind (fun h => ev X d 78 125 L st h) := g_iast dX3_squeeze_124
theorem e_X3_squeeze_125 : ev X d 78 125 (some (va_rf r) :: L) st h = ev X d 78 126 (some (va_rf r) :: L) (va_rf r :: st) h := g_aload_n dX3_squeeze_125 rfl
theorem e_X3_squeeze_126 : ev X d 78 126 L (va_rf (some q) :: st) h = (I_getf X h q 3 5).bind (fun v => ev X d 78 129 L (v :: st) h) := g_get dX3_squeeze_126 (by decide)
theorem e_X3_squeeze_129 : ev X d 78 129 (x0 :: some (.int a) :: L) st h = ev X d 78 130 (x0 :: some (.int a) :: L) (.int a :: st) h := g_iload_n dX3_squeeze_129 rfl
theorem e_X3_squeeze_130 : ev X d 78 130 (some (va_rf r) :: L) st h = ev X d 78 131 (some (va_rf r) :: L) (va_rf r :: st) h := g_aload_n dX3_squeeze_130 rfl
theorem e_X3_squeeze_131 : ev X d 78 131 L (va_rf (some q) :: st) h = (I_getf X h q 3 5).bind (fun v => ev X d 78 134 L (v :: st) h) := g_get dX3_squeeze_131 (by decide)
theorem e_X3_squeeze_134 : ev X d 78 134 (x0 :: x1 :: some (.int a) :: L) st h = ev X d 78 135 (x0 :: x1 :: some (.int a) :: L) (.int a :: st) h := g_iload_n dX3_squeeze_134 rfl
theorem e_X3_squeeze_135 : ev X d 78 135 L (.int i :: va_rf (some q) :: st) h = (I_aldi X h 0 q i).bind (fun v => ev X d 78 136 L (.int v :: st) h) := g_iald dX3_squeeze_135 (by decide)
theorem e_X3_squeeze_136 : ev X d 78 136 L (.int v :: .int i :: va_rf (some q) :: st) h = (I_asti X h 0 q i v).bind (fun h => ev X d 78 137 L st h) := g_iast dX3_squeeze_136
theorem e_X3_squeeze_137 : ev X d 78 137 L st h = ev X d 78 138 L (.int 0 :: st) h := g_iconst dX3_squeeze_137 (by decide)
theorem e_X3_squeeze_138 (hx : I_c2 x2 = false) : ev X d 78 138 (x0 :: x1 :: x2 :: x3 :: L) (.int a :: st) h = ev X d 78 139 (x0 :: x1 :: x2 :: some (.int a) :: L) st h := g_istore_n dX3_squeeze_138 (I_st1_3 hx)
theorem e_X3_squeeze_139 : ev X d 78 139 (x0 :: x1 :: x2 :: some (.int a) :: L) st h = ev X d 78 140 (x0 :: x1 :: x2 :: some (.int a) :: L) (.int a :: st) h := g_iload_n dX3_squeeze_139 rfl
theorem e_X3_squeeze_140 : ev X d 78 140 L st h = ev X d 78 142 L (.int 16 :: st) h := g_bipush dX3_squeeze_140 (by decide)
theorem e_X3_squeeze_142 : ev X d 78 142 L (.int b :: .int a :: st) h = if b ≤ a then ev X d 78 195 L st h else ev X d 78 145 L st h := g_icmp_ge dX3_squeeze_142 (by decide)
theorem e_X3_squeeze_145 : ev X d 78 145 (some (va_rf r) :: L) st h = ev X d 78 146 (some (va_rf r) :: L) (va_rf r :: st) h := g_aload_n dX3_squeeze_145 rfl
theorem e_X3_squeeze_146 : ev X d 78 146 L (va_rf (some q) :: st) h = (I_getf X h q 3 6).bind (fun v => ev X d 78 149 L (v :: st) h) := g_get dX3_squeeze_146 (by decide)
theorem e_X3_squeeze_149 : ev X d 78 149 L st h = ev X d 78 151 L (.int 16 :: st) h := g_bipush dX3_squeeze_149 (by decide)
theorem e_X3_squeeze_151 : ev X d 78 151 (x0 :: some (.int a) :: L) st h = ev X d 78 152 (x0 :: some (.int a) :: L) (.int a :: st) h := g_iload_n dX3_squeeze_151 rfl
theorem e_X3_squeeze_152 : ev X d 78 152 L (.int b :: .int a :: st) h = ev X d 78 153 L (.int (a * b) :: st) h := g_imul dX3_squeeze_152
theorem e_X3_squeeze_153 : ev X d 78 153 (x0 :: x1 :: x2 :: some (.int a) :: L) st h = ev X d 78 154 (x0 :: x1 :: x2 :: some (.int a) :: L) (.int a :: st) h := g_iload_n dX3_squeeze_153 rfl
theorem e_X3_squeeze_154 : ev X d 78 154 L (.int b :: .int a :: st) h = ev X d 78 155 L (.int (a + b) :: st) h := g_iadd dX3_squeeze_154
theorem e_X3_squeeze_155 : ev X d 78 155 (some (va_rf r) :: L) st h = ev X d 78 156 (some (va_rf r) :: L) (va_rf r :: st) h := g_aload_n dX3_squeeze_155 rfl
theorem e_X3_squeeze_156 : ev X d 78 156 L (va_rf (some q) :: st) h = (I_getf X h q 3 6).bind (fun v => ev X d 78 159 L (v :: st) h) := g_get dX3_squeeze_156 (by decide)
theorem e_X3_squeeze_159 : ev X d 78 159 L st h = ev X d 78 161 L (.int 16 :: st) h := g_bipush dX3_squeeze_159 (by decide)
theorem e_X3_squeeze_161 : ev X d 78 161 (x0 :: x1 :: some (.int a) :: L) st h = ev X d 78 162 (x0 :: x1 :: some (.int a) :: L) (.int a :: st) h := g_iload_n dX3_squeeze_161 rfl
theorem e_X3_squeeze_162 : ev X d 78 162 L (.int b :: .int a :: st) h = ev X d 78 163 L (.int (a * b) :: st) h := g_imul dX3_squeeze_162
theorem e_X3_squeeze_163 : ev X d 78 163 (x0 :: x1 :: x2 :: some (.int a) :: L) st h = ev X d 78 164 (x0 :: x1 :: x2 :: some (.int a) :: L) (.int a :: st) h := g_iload_n dX3_squeeze_163 rfl
theorem e_X3_squeeze_164 : ev X d 78 164 L (.int b :: .int a :: st) h = ev X d 78 165 L (.int (a + b) :: st) h := g_iadd dX3_squeeze_164
theorem e_X3_squeeze_165 : ev X d 78 165 L (.int i :: va_rf (some q) :: st) h = (I_aldi X h 0 q i).bind (fun v => ev X d 78 166 L (.int v :: st) h) := g_iald dX3_squeeze_165 (by decide)
theorem e_X3_squeeze_166 : ev X d 78 166 L (.int v :: .int i :: va_rf (some q) :: st) h = (I_asti X h 0 q i v).bind (fun h => ev X d 78 167 L st h) := g_iast dX3_squeeze_166
theorem e_X3_squeeze_167 : ev X d 78 167 (some (va_rf r) :: L) st h = ev X d 78 168 (some (va_rf r) :: L) (va_rf r :: st) h := g_aload_n dX3_squeeze_167 rfl
theorem e_X3_squeeze_168 : ev X d 78 168 L (va_rf (some q) :: st) h = (I_getf X h q 3 7).bind (fun v => ev X d 78 171 L (v :: st) h) := g_get dX3_squeeze_168 (by decide)
theorem e_X3_squeeze_171 : ev X d 78 171 L st h = ev X d 78 173 L (.int 16 :: st) h := g_bipush dX3_squeeze_171 (by decide)
theorem e_X3_squeeze_173 : ev X d 78 173 (x0 :: some (.int a) :: L) st h = ev X d 78 174 (x0 :: some (.int a) :: L) (.int a :: st) h := g_iload_n dX3_squeeze_173 rfl
theorem e_X3_squeeze_174 : ev X d 78 174 L (.int b :: .int a :: st) h = ev X d 78 175 L (.int (a * b) :: st) h := g_imul dX3_squeeze_174
theorem e_X3_squeeze_175 : ev X d 78 175 (x0 :: x1 :: x2 :: some (.int a) :: L) st h = ev X d 78 176 (x0 :: x1 :: x2 :: some (.int a) :: L) (.int a :: st) h := g_iload_n dX3_squeeze_175 rfl
theorem e_X3_squeeze_176 : ev X d 78 176 L (.int b :: .int a :: st) h = ev X d 78 177 L (.int (a + b) :: st) h := g_iadd dX3_squeeze_176
theorem e_X3_squeeze_177 : ev X d 78 177 (some (va_rf r) :: L) st h = ev X d 78 178 (some (va_rf r) :: L) (va_rf r :: st) h := g_aload_n dX3_squeeze_177 rfl
theorem e_X3_squeeze_178 : ev X d 78 178 L (va_rf (some q) :: st) h = (I_getf X h q 3 7).bind (fun v => ev X d 78 181 L (v :: st) h) := g_get dX3_squeeze_178 (by decide)
theorem e_X3_squeeze_181 : ev X d 78 181 L st h = ev X d 78 183 L (.int 16 :: st) h := g_bipush dX3_squeeze_181 (by decide)
theorem e_X3_squeeze_183 : ev X d 78 183 (x0 :: x1 :: some (.int a) :: L) st h = ev X d 78 184 (x0 :: x1 :: some (.int a) :: L) (.int a :: st) h := g_iload_n dX3_squeeze_183 rfl
theorem e_X3_squeeze_184 : ev X d 78 184 L (.int b :: .int a :: st) h = ev X d 78 185 L (.int (a * b) :: st) h := g_imul dX3_squeeze_184
theorem e_X3_squeeze_185 : ev X d 78 185 (x0 :: x1 :: x2 :: some (.int a) :: L) st h = ev X d 78 186 (x0 :: x1 :: x2 :: some (.int a) :: L) (.int a :: st) h := g_iload_n dX3_squeeze_185 rfl
theorem e_X3_squeeze_186 : ev X d 78 186 L (.int b :: .int a :: st) h = ev X d 78 187 L (.int (a + b) :: st) h := g_iadd dX3_squeeze_186
theorem e_X3_squeeze_187 : ev X d 78 187 L (.int i :: va_rf (some q) :: st) h = (I_aldd X h q i).bind (fun v => ev X d 78 188 L (.double v :: st) h) := g_dald dX3_squeeze_187
theorem e_X3_squeeze_188 : ev X d 78 188 L (.double w :: .int i :: va_rf (some q) :: st) h = (I_astd X h q i w).bind (fun h => ev X d 78 189 L st h) := g_dast dX3_squeeze_188
theorem e_X3_squeeze_189 (hx : I_c2 x2 = false) : ev X d 78 189 (x0 :: x1 :: x2 :: some (.int a) :: L) st h = ev X d 78 192 (x0 :: x1 :: x2 :: some (.int (a + 1)) :: L) st h := g_iinc dX3_squeeze_189 (by decide) rfl (I_st1_3 hx)
theorem e_X3_squeeze_192 : ev X d 78 192 L st h = ev X d 78 139 L st h := g_goto dX3_squeeze_192 (by decide)
theorem e_X3_squeeze_195 (hx : I_c2 x0 = false) : ev X d 78 195 (x0 :: some (.int a) :: L) st h = ev X d 78 198 (x0 :: some (.int (a + 1)) :: L) st h := g_iinc dX3_squeeze_195 (by decide) rfl (I_st1_1 hx)
theorem e_X3_squeeze_198 (hx : I_c2 x1 = false) : ev X d 78 198 (x0 :: x1 :: some (.int a) :: L) st h = ev X d 78 201 (x0 :: x1 :: some (.int (a + 1)) :: L) st h := g_iinc dX3_squeeze_198 (by decide) rfl (I_st1_2 hx)
theorem e_X3_squeeze_201 : ev X d 78 201 L st h = ev X d 78 101 L st h := g_goto dX3_squeeze_201 (by decide)
theorem e_X3_squeeze_204 : ev X d 78 204 (some (va_rf r) :: L) st h = ev X d 78 205 (some (va_rf r) :: L) (va_rf r :: st) h := g_aload_n dX3_squeeze_204 rfl
theorem e_X3_squeeze_205 : ev X d 78 205 (x0 :: some (.int a) :: L) st h = ev X d 78 206 (x0 :: some (.int a) :: L) (.int a :: st) h := g_iload_n dX3_squeeze_205 rfl
theorem e_X3_squeeze_206 : ev X d 78 206 L (.int a :: va_rf (some q) :: st) h = (I_putf X h q 3 4 (.int a)).bind (fun h => ev X d 78 209 L st h) := g_put dX3_squeeze_206 (by decide) (by first | rfl | decide)
theorem e_X3_squeeze_209 : ev X d 78 209 L st h = ev X d 78 210 L (.int 0 :: st) h := g_iconst dX3_squeeze_209 (by decide)
theorem e_X3_squeeze_210 (hx : I_c2 x1 = false) : ev X d 78 210 (x0 :: x1 :: x2 :: L) (.int a :: st) h = ev X d 78 211 (x0 :: x1 :: some (.int a) :: L) st h := g_istore_n dX3_squeeze_210 (I_st1_2 hx)
theorem e_X3_squeeze_211 : ev X d 78 211 (x0 :: x1 :: some (.int a) :: L) st h = ev X d 78 212 (x0 :: x1 :: some (.int a) :: L) (.int a :: st) h := g_iload_n dX3_squeeze_211 rfl
theorem e_X3_squeeze_212 : ev X d 78 212 L st h = ev X d 78 215 L (.int 192 :: st) h := g_sipush dX3_squeeze_212 (by decide)
theorem e_X3_squeeze_215 : ev X d 78 215 L (.int b :: .int a :: st) h = if b ≤ a then ev X d 78 277 L st h else ev X d 78 218 L st h := g_icmp_ge dX3_squeeze_215 (by decide)
theorem e_X3_squeeze_218 : ev X d 78 218 (x0 :: x1 :: some (.int a) :: L) st h = ev X d 78 219 (x0 :: x1 :: some (.int a) :: L) (.int a :: st) h := g_iload_n dX3_squeeze_218 rfl
theorem e_X3_squeeze_219 : ev X d 78 219 L st h = ev X d 78 221 L (.int 12 :: st) h := g_bipush dX3_squeeze_219 (by decide)
theorem e_X3_squeeze_221 (hb : ¬ b = 0) : ev X d 78 221 L (.int b :: .int a :: st) h = ev X d 78 222 L (.int (a / b) :: st) h := g_idiv dX3_squeeze_221 hb
theorem e_X3_squeeze_222 : ev X d 78 222 (some (va_rf r) :: L) st h = ev X d 78 223 (some (va_rf r) :: L) (va_rf r :: st) h := g_aload_n dX3_squeeze_222 rfl
theorem e_X3_squeeze_223 : ev X d 78 223 L (va_rf (some q) :: st) h = (I_getf X h q 3 0).bind (fun v => ev X d 78 226 L (v :: st) h) := g_get dX3_squeeze_223 (by decide)
theorem e_X3_squeeze_226 : ev X d 78 226 L (.int b :: .int a :: st) h = if b ≤ a then ev X d 78 271 L st h else ev X d 78 229 L st h := g_icmp_ge dX3_squeeze_226 (by decide)
theorem e_X3_squeeze_229 : ev X d 78 229 (x0 :: x1 :: some (.int a) :: L) st h = ev X d 78 230 (x0 :: x1 :: some (.int a) :: L) (.int a :: st) h := g_iload_n dX3_squeeze_229 rfl
theorem e_X3_squeeze_230 : ev X d 78 230 L st h = ev X d 78 232 L (.int 12 :: st) h := g_bipush dX3_squeeze_230 (by decide)
theorem e_X3_squeeze_232 (hb : ¬ b = 0) : ev X d 78 232 L (.int b :: .int a :: st) h = ev X d 78 233 L (.int (a - a / b * b) :: st) h := g_irem dX3_squeeze_232 hb
theorem e_X3_squeeze_233 : ev X d 78 233 (some (va_rf r) :: L) st h = ev X d 78 234 (some (va_rf r) :: L) (va_rf r :: st) h := g_aload_n dX3_squeeze_233 rfl
theorem e_X3_squeeze_234 : ev X d 78 234 L (va_rf (some q) :: st) h = (I_getf X h q 3 2).bind (fun v => ev X d 78 237 L (v :: st) h) := g_get dX3_squeeze_234 (by decide)
theorem e_X3_squeeze_237 : ev X d 78 237 (x0 :: x1 :: some (.int a) :: L) st h = ev X d 78 238 (x0 :: x1 :: some (.int a) :: L) (.int a :: st) h := g_iload_n dX3_squeeze_237 rfl
theorem e_X3_squeeze_238 : ev X d 78 238 L st h = ev X d 78 240 L (.int 12 :: st) h := g_bipush dX3_squeeze_238 (by decide)
theorem e_X3_squeeze_240 (hb : ¬ b = 0) : ev X d 78 240 L (.int b :: .int a :: st) h = ev X d 78 241 L (.int (a / b) :: st) h := g_idiv dX3_squeeze_240 hb
theorem e_X3_squeeze_241 : ev X d 78 241 L (.int i :: va_rf (some q) :: st) h = (I_aldi X h 0 q i).bind (fun v => ev X d 78 242 L (.int v :: st) h) := g_iald dX3_squeeze_241 (by decide)
theorem e_X3_squeeze_242 : ev X d 78 242 L (.int b :: .int a :: st) h = if b ≤ a then ev X d 78 271 L st h else ev X d 78 245 L st h := g_icmp_ge dX3_squeeze_242 (by decide)
theorem e_X3_squeeze_245 : ev X d 78 245 (some (va_rf r) :: L) st h = ev X d 78 246 (some (va_rf r) :: L) (va_rf r :: st) h := g_aload_n dX3_squeeze_245 rfl
theorem e_X3_squeeze_246 : ev X d 78 246 L (va_rf (some q) :: st) h = (I_getf X h q 3 3).bind (fun v => ev X d 78 249 L (v :: st) h) := g_get dX3_squeeze_246 (by decide)
theorem e_X3_squeeze_249 : ev X d 78 249 (x0 :: x1 :: some (.int a) :: L) st h = ev X d 78 250 (x0 :: x1 :: some (.int a) :: L) (.int a :: st) h := g_iload_n dX3_squeeze_249 rfl
theorem e_X3_squeeze_250 : ev X d 78 250 L (.int i :: va_rf (some q) :: st) h = (I_aldi X h 0 q i).bind (fun v => ev X d 78 251 L (.int v :: st) h) := g_iald dX3_squeeze_250 (by decide)
theorem e_X3_squeeze_251 : ev X d 78 251 L (.int a :: st) h = if a < 0 then ev X d 78 271 L st h else ev X d 78 254 L st h := g_if_lt dX3_squeeze_251 (by decide)
theorem e_X3_squeeze_254 : ev X d 78 254 (some (va_rf r) :: L) st h = ev X d 78 255 (some (va_rf r) :: L) (va_rf r :: st) h := g_aload_n dX3_squeeze_254 rfl
theorem e_X3_squeeze_255 : ev X d 78 255 L (va_rf (some q) :: st) h = (I_getf X h q 3 3).bind (fun v => ev X d 78 258 L (v :: st) h) := g_get dX3_squeeze_255 (by decide)
theorem e_X3_squeeze_258 : ev X d 78 258 (x0 :: x1 :: some (.int a) :: L) st h = ev X d 78 259 (x0 :: x1 :: some (.int a) :: L) (.int a :: st) h := g_iload_n dX3_squeeze_258 rfl
theorem e_X3_squeeze_259 : ev X d 78 259 (some (va_rf r) :: L) st h = ev X d 78 260 (some (va_rf r) :: L) (va_rf r :: st) h := g_aload_n dX3_squeeze_259 rfl
theorem e_X3_squeeze_260 : ev X d 78 260 L (va_rf (some q) :: st) h = (I_getf X h q 3 9).bind (fun v => ev X d 78 263 L (v :: st) h) := g_get dX3_squeeze_260 (by decide)
theorem e_X3_squeeze_263 : ev X d 78 263 (some (va_rf r) :: L) st h = ev X d 78 264 (some (va_rf r) :: L) (va_rf r :: st) h := g_aload_n dX3_squeeze_263 rfl
theorem e_X3_squeeze_264 : ev X d 78 264 L (va_rf (some q) :: st) h = (I_getf X h q 3 3).bind (fun v => ev X d 78 267 L (v :: st) h) := g_get dX3_squeeze_264 (by decide)
theorem e_X3_squeeze_267 : ev X d 78 267 (x0 :: x1 :: some (.int a) :: L) st h = ev X d 78 268 (x0 :: x1 :: some (.int a) :: L) (.int a :: st) h := g_iload_n dX3_squeeze_267 rfl
theorem e_X3_squeeze_268 : ev X d 78 268 L (.int i :: va_rf (some q) :: st) h = (I_aldi X h 0 q i).bind (fun v => ev X d 78 269 L (.int v :: st) h) := g_iald dX3_squeeze_268 (by decide)
theorem e_X3_squeeze_269 : ev X d 78 269 L (.int i :: va_rf (some q) :: st) h = (I_aldi X h 0 q i).bind (fun v => ev X d 78 270 L (.int v :: st) h) := g_iald dX3_squeeze_269 (by decide)
theorem e_X3_squeeze_270 : ev X d 78 270 L (.int v :: .int i :: va_rf (some q) :: st) h = (I_asti X h 0 q i v).bind (fun h => ev X d 78 271 L st h) := g_iast dX3_squeeze_270
theorem e_X3_squeeze_271 (hx : I_c2 x1 = false) : ev X d 78 271 (x0 :: x1 :: some (.int a) :: L) st h = ev X d 78 274 (x0 :: x1 :: some (.int (a + 1)) :: L) st h := g_iinc dX3_squeeze_271 (by decide) rfl (I_st1_2 hx)
theorem e_X3_squeeze_274 : ev X d 78 274 L st h = ev X d 78 211 L st h := g_goto dX3_squeeze_274 (by decide)
theorem e_X3_squeeze_277 : ev X d 78 277 L [] h = some (none, h) := g_vret dX3_squeeze_277 rfl
theorem e_X3_share_0 : ev X d 79 0 (some (va_rf r) :: L) st h = ev X d 79 1 (some (va_rf r) :: L) (va_rf r :: st) h := g_aload_n dX3_share_0 rfl
theorem e_X3_share_1 : ev X d 79 1 (x0 :: some (.int a) :: L) st h = ev X d 79 2 (x0 :: some (.int a) :: L) (.int a :: st) h := g_iload_n dX3_share_1 rfl
theorem e_X3_share_2 (hc : I_isC X h q 3 = true) (hs : I_cat st ≤ 8) : ev X (d + 1) 79 2 L (.int a1 :: va_rf (some q) :: st) h = (ev X d 71 0 [some (va_rf (some q)), some (.int a1)] [] h).bind (fun r => ev X (d + 1) 79 5 L (r.1.toList ++ st) r.2) := g_callV (as := [.int a1]) dX3_share_2 (by decide) (by decide) I_np_71 rfl (by simp only [List.reverse_cons, List.reverse_nil, List.nil_append, List.cons_append, I_slots_n, I_slots_i, I_slots_d, I_slots_q, List.length_cons, List.length_nil]; decide) (by simp only [I_ent, List.reverse_cons, List.reverse_nil, List.nil_append, List.cons_append, I_slots_n, I_slots_i, I_slots_d, I_slots_q, List.length_cons, List.length_nil]; rfl) rfl hc hs
theorem e_X3_share_5 : ev X d 79 5 L (.int a :: st) h = if a = 0 then ev X d 79 16 L st h else ev X d 79 8 L st h := g_if_eq dX3_share_5 (by decide)
theorem e_X3_share_8 : ev X d 79 8 (some (va_rf r) :: L) st h = ev X d 79 9 (some (va_rf r) :: L) (va_rf r :: st) h := g_aload_n dX3_share_8 rfl
theorem e_X3_share_9 : ev X d 79 9 (x0 :: x1 :: x2 :: some (.int a) :: L) st h = ev X d 79 10 (x0 :: x1 :: x2 :: some (.int a) :: L) (.int a :: st) h := g_iload_n dX3_share_9 rfl
theorem e_X3_share_10 (hc : I_isC X h q 3 = true) (hs : I_cat st ≤ 8) : ev X (d + 1) 79 10 L (.int a1 :: va_rf (some q) :: st) h = (ev X d 71 0 [some (va_rf (some q)), some (.int a1)] [] h).bind (fun r => ev X (d + 1) 79 13 L (r.1.toList ++ st) r.2) := g_callV (as := [.int a1]) dX3_share_10 (by decide) (by decide) I_np_71 rfl (by simp only [List.reverse_cons, List.reverse_nil, List.nil_append, List.cons_append, I_slots_n, I_slots_i, I_slots_d, I_slots_q, List.length_cons, List.length_nil]; decide) (by simp only [I_ent, List.reverse_cons, List.reverse_nil, List.nil_append, List.cons_append, I_slots_n, I_slots_i, I_slots_d, I_slots_q, List.length_cons, List.length_nil]; rfl) rfl hc hs
theorem e_X3_share_13 : ev X d 79 13 L (.int a :: st) h = if a = 0 then ev X d 79 16 L st h else ev X d 79 19 L st h := g_if_ne dX3_share_13 (by decide)
theorem e_X3_share_16 : ev X d 79 16 L st h = ev X d 79 18 L (.int (-1000001) :: st) h := g_ldc dX3_share_16 (by decide)
theorem e_X3_share_18 : ev X d 79 18 L [.int a] h = some (some (.int a), h) := g_iret dX3_share_18 rfl
theorem e_X3_share_19 : ev X d 79 19 (some (va_rf r) :: L) st h = ev X d 79 20 (some (va_rf r) :: L) (va_rf r :: st) h := g_aload_n dX3_share_19 rfl
theorem e_X3_share_20 : ev X d 79 20 (x0 :: x1 :: x2 :: some (.int a) :: L) st h = ev X d 79 21 (x0 :: x1 :: x2 :: some (.int a) :: L) (.int a :: st) h := g_iload_n dX3_share_20 rfl
theorem e_X3_share_21 : ev X d 79 21 (x0 :: x1 :: x2 :: x3 :: some (.int a) :: L) st h = ev X d 79 23 (x0 :: x1 :: x2 :: x3 :: some (.int a) :: L) (.int a :: st) h := g_iload dX3_share_21 rfl
theorem e_X3_share_23 (hc : I_isC X h q 3 = true) (hs : I_cat st ≤ 8) : ev X (d + 1) 79 23 L (.int a2 :: .int a1 :: va_rf (some q) :: st) h = (ev X d 76 0 [some (va_rf (some q)), some (.int a1), some (.int a2)] [] h).bind (fun r => ev X (d + 1) 79 26 L (r.1.toList ++ st) r.2) := g_callV (as := [.int a2, .int a1]) dX3_share_23 (by decide) (by decide) I_np_76 rfl (by simp only [List.reverse_cons, List.reverse_nil, List.nil_append, List.cons_append, I_slots_n, I_slots_i, I_slots_d, I_slots_q, List.length_cons, List.length_nil]; decide) (by simp only [I_ent, List.reverse_cons, List.reverse_nil, List.nil_append, List.cons_append, I_slots_n, I_slots_i, I_slots_d, I_slots_q, List.length_cons, List.length_nil]; rfl) rfl hc hs
theorem e_X3_share_26 : ev X d 79 26 L (.int a :: st) h = if a = 0 then ev X d 79 38 L st h else ev X d 79 29 L st h := g_if_eq dX3_share_26 (by decide)
theorem e_X3_share_29 : ev X d 79 29 (some (va_rf r) :: L) st h = ev X d 79 30 (some (va_rf r) :: L) (va_rf r :: st) h := g_aload_n dX3_share_29 rfl
theorem e_X3_share_30 : ev X d 79 30 (x0 :: some (.int a) :: L) st h = ev X d 79 31 (x0 :: some (.int a) :: L) (.int a :: st) h := g_iload_n dX3_share_30 rfl
theorem e_X3_share_31 : ev X d 79 31 (x0 :: x1 :: some (.int a) :: L) st h = ev X d 79 32 (x0 :: x1 :: some (.int a) :: L) (.int a :: st) h := g_iload_n dX3_share_31 rfl
theorem e_X3_share_32 (hc : I_isC X h q 3 = true) (hs : I_cat st ≤ 8) : ev X (d + 1) 79 32 L (.int a2 :: .int a1 :: va_rf (some q) :: st) h = (ev X d 76 0 [some (va_rf (some q)), some (.int a1), some (.int a2)] [] h).bind (fun r => ev X (d + 1) 79 35 L (r.1.toList ++ st) r.2) := g_callV (as := [.int a2, .int a1]) dX3_share_32 (by decide) (by decide) I_np_76 rfl (by simp only [List.reverse_cons, List.reverse_nil, List.nil_append, List.cons_append, I_slots_n, I_slots_i, I_slots_d, I_slots_q, List.length_cons, List.length_nil]; decide) (by simp only [I_ent, List.reverse_cons, List.reverse_nil, List.nil_append, List.cons_append, I_slots_n, I_slots_i, I_slots_d, I_slots_q, List.length_cons, List.length_nil]; rfl) rfl hc hs
theorem e_X3_share_35 : ev X d 79 35 L (.int a :: st) h = if a = 0 then ev X d 79 38 L st h else ev X d 79 44 L st h := g_if_ne dX3_share_35 (by decide)
theorem e_X3_share_38 : ev X d 79 38 (some (va_rf r) :: L) st h = ev X d 79 39 (some (va_rf r) :: L) (va_rf r :: st) h := g_aload_n dX3_share_38 rfl
theorem e_X3_share_39 : ev X d 79 39 L st h = ev X d 79 40 L (.int 2 :: st) h := g_iconst dX3_share_39 (by decide)
theorem e_X3_share_40 (hc : I_isC X h q 3 = true) (hs : I_cat st ≤ 8) : ev X (d + 1) 79 40 L (.int a1 :: va_rf (some q) :: st) h = (ev X d 70 0 [some (va_rf (some q)), some (.int a1)] [] h).bind (fun r => ev X (d + 1) 79 43 L (r.1.toList ++ st) r.2) := g_callV (as := [.int a1]) dX3_share_40 (by decide) (by decide) I_np_70 rfl (by simp only [List.reverse_cons, List.reverse_nil, List.nil_append, List.cons_append, I_slots_n, I_slots_i, I_slots_d, I_slots_q, List.length_cons, List.length_nil]; decide) (by simp only [I_ent, List.reverse_cons, List.reverse_nil, List.nil_append, List.cons_append, I_slots_n, I_slots_i, I_slots_d, I_slots_q, List.length_cons, List.length_nil]; rfl) rfl hc hs
theorem e_X3_share_43 : ev X d 79 43 L [.int a] h = some (some (.int a), h) := g_iret dX3_share_43 rfl
theorem e_X3_share_44 : ev X d 79 44 (some (va_rf r) :: L) st h = ev X d 79 45 (some (va_rf r) :: L) (va_rf r :: st) h := g_aload_n dX3_share_44 rfl
theorem e_X3_share_45 : ev X d 79 45 L (va_rf (some q) :: st) h = (I_getf X h q 3 3).bind (fun v => ev X d 79 48 L (v :: st) h) := g_get dX3_share_45 (by decide)
theorem e_X3_share_48 : ev X d 79 48 L st h = ev X d 79 50 L (.int 12 :: st) h := g_bipush dX3_share_48 (by decide)
theorem e_X3_share_50 : ev X d 79 50 (x0 :: x1 :: x2 :: some (.int a) :: L) st h = ev X d 79 51 (x0 :: x1 :: x2 :: some (.int a) :: L) (.int a :: st) h := g_iload_n dX3_share_50 rfl
theorem e_X3_share_51 : ev X d 79 51 L (.int b :: .int a :: st) h = ev X d 79 52 L (.int (a * b) :: st) h := g_imul dX3_share_51
theorem e_X3_share_52 : ev X d 79 52 (x0 :: x1 :: x2 :: x3 :: some (.int a) :: L) st h = ev X d 79 54 (x0 :: x1 :: x2 :: x3 :: some (.int a) :: L) (.int a :: st) h := g_iload dX3_share_52 rfl
theorem e_X3_share_54 : ev X d 79 54 L (.int b :: .int a :: st) h = ev X d 79 55 L (.int (a + b) :: st) h := g_iadd dX3_share_54
theorem e_X3_share_55 : ev X d 79 55 L (.int i :: va_rf (some q) :: st) h = (I_aldi X h 0 q i).bind (fun v => ev X d 79 56 L (.int v :: st) h) := g_iald dX3_share_55 (by decide)
theorem e_X3_share_56 (hx : I_c2 x4 = false) : ev X d 79 56 (x0 :: x1 :: x2 :: x3 :: x4 :: x5 :: L) (.int a :: st) h = ev X d 79 58 (x0 :: x1 :: x2 :: x3 :: x4 :: some (.int a) :: L) st h := g_istore dX3_share_56 (I_st1_5 hx)
theorem e_X3_share_58 : ev X d 79 58 (x0 :: x1 :: x2 :: x3 :: x4 :: some (.int a) :: L) st h = ev X d 79 60 (x0 :: x1 :: x2 :: x3 :: x4 :: some (.int a) :: L) (.int a :: st) h := g_iload dX3_share_58 rfl
theorem e_X3_share_60 : ev X d 79 60 L (.int a :: st) h = if a < 0 then ev X d 79 78 L st h else ev X d 79 63 L st h := g_if_lt dX3_share_60 (by decide)
theorem e_X3_share_63 : ev X d 79 63 (some (va_rf r) :: L) st h = ev X d 79 64 (some (va_rf r) :: L) (va_rf r :: st) h := g_aload_n dX3_share_63 rfl
theorem e_X3_share_64 : ev X d 79 64 L (va_rf (some q) :: st) h = (I_getf X h q 3 1).bind (fun v => ev X d 79 67 L (v :: st) h) := g_get dX3_share_64 (by decide)
theorem e_X3_share_67 : ev X d 79 67 (x0 :: some (.int a) :: L) st h = ev X d 79 68 (x0 :: some (.int a) :: L) (.int a :: st) h := g_iload_n dX3_share_67 rfl
theorem e_X3_share_68 : ev X d 79 68 L (.int i :: va_rf (some q) :: st) h = (I_aldi X h 0 q i).bind (fun v => ev X d 79 69 L (.int v :: st) h) := g_iald dX3_share_68 (by decide)
theorem e_X3_share_69 : ev X d 79 69 (some (va_rf r) :: L) st h = ev X d 79 70 (some (va_rf r) :: L) (va_rf r :: st) h := g_aload_n dX3_share_69 rfl
theorem e_X3_share_70 : ev X d 79 70 L (va_rf (some q) :: st) h = (I_getf X h q 3 1).bind (fun v => ev X d 79 73 L (v :: st) h) := g_get dX3_share_70 (by decide)
theorem e_X3_share_73 : ev X d 79 73 (x0 :: x1 :: x2 :: some (.int a) :: L) st h = ev X d 79 74 (x0 :: x1 :: x2 :: some (.int a) :: L) (.int a :: st) h := g_iload_n dX3_share_73 rfl
theorem e_X3_share_74 : ev X d 79 74 L (.int i :: va_rf (some q) :: st) h = (I_aldi X h 0 q i).bind (fun v => ev X d 79 75 L (.int v :: st) h) := g_iald dX3_share_74 (by decide)
theorem e_X3_share_75 : ev X d 79 75 L (.int b :: .int a :: st) h = if a = b then ev X d 79 93 L st h else ev X d 79 78 L st h := g_icmp_eq dX3_share_75 (by decide)
theorem e_X3_share_78 : ev X d 79 78 (some (va_rf r) :: L) st h = ev X d 79 79 (some (va_rf r) :: L) (va_rf r :: st) h := g_aload_n dX3_share_78 rfl
theorem e_X3_share_79 : ev X d 79 79 (x0 :: x1 :: x2 :: x3 :: x4 :: some (.int a) :: L) st h = ev X d 79 81 (x0 :: x1 :: x2 :: x3 :: x4 :: some (.int a) :: L) (.int a :: st) h := g_iload dX3_share_79 rfl
theorem e_X3_share_81 : ev X d 79 81 L (.int a :: st) h = if 0 ≤ a then ev X d 79 88 L st h else ev X d 79 84 L st h := g_if_ge dX3_share_81 (by decide)
theorem e_X3_share_84 : ev X d 79 84 L st h = ev X d 79 85 L (.int 1 :: st) h := g_iconst dX3_share_84 (by decide)
theorem e_X3_share_85 : ev X d 79 85 L st h = ev X d 79 89 L st h := g_goto dX3_share_85 (by decide)
theorem e_X3_share_88 : ev X d 79 88 L st h = ev X d 79 89 L (.int 3 :: st) h := g_iconst dX3_share_88 (by decide)
theorem e_X3_share_89 (hc : I_isC X h q 3 = true) (hs : I_cat st ≤ 8) : ev X (d + 1) 79 89 L (.int a1 :: va_rf (some q) :: st) h = (ev X d 70 0 [some (va_rf (some q)), some (.int a1)] [] h).bind (fun r => ev X (d + 1) 79 92 L (r.1.toList ++ st) r.2) := g_callV (as := [.int a1]) dX3_share_89 (by decide) (by decide) I_np_70 rfl (by simp only [List.reverse_cons, List.reverse_nil, List.nil_append, List.cons_append, I_slots_n, I_slots_i, I_slots_d, I_slots_q, List.length_cons, List.length_nil]; decide) (by simp only [I_ent, List.reverse_cons, List.reverse_nil, List.nil_append, List.cons_append, I_slots_n, I_slots_i, I_slots_d, I_slots_q, List.length_cons, List.length_nil]; rfl) rfl hc hs
theorem e_X3_share_92 : ev X d 79 92 L [.int a] h = some (some (.int a), h) := g_iret dX3_share_92 rfl
theorem e_X3_share_93 : ev X d 79 93 (some (va_rf r) :: L) st h = ev X d 79 94 (some (va_rf r) :: L) (va_rf r :: st) h := g_aload_n dX3_share_93 rfl
theorem e_X3_share_94 : ev X d 79 94 L (va_rf (some q) :: st) h = (I_getf X h q 3 3).bind (fun v => ev X d 79 97 L (v :: st) h) := g_get dX3_share_94 (by decide)
theorem e_X3_share_97 : ev X d 79 97 L st h = ev X d 79 99 L (.int 12 :: st) h := g_bipush dX3_share_97 (by decide)
theorem e_X3_share_99 : ev X d 79 99 (x0 :: some (.int a) :: L) st h = ev X d 79 100 (x0 :: some (.int a) :: L) (.int a :: st) h := g_iload_n dX3_share_99 rfl
theorem e_X3_share_100 : ev X d 79 100 L (.int b :: .int a :: st) h = ev X d 79 101 L (.int (a * b) :: st) h := g_imul dX3_share_100
theorem e_X3_share_101 : ev X d 79 101 (x0 :: x1 :: some (.int a) :: L) st h = ev X d 79 102 (x0 :: x1 :: some (.int a) :: L) (.int a :: st) h := g_iload_n dX3_share_101 rfl
theorem e_X3_share_102 : ev X d 79 102 L (.int b :: .int a :: st) h = ev X d 79 103 L (.int (a + b) :: st) h := g_iadd dX3_share_102
theorem e_X3_share_103 : ev X d 79 103 (x0 :: x1 :: x2 :: x3 :: x4 :: some (.int a) :: L) st h = ev X d 79 105 (x0 :: x1 :: x2 :: x3 :: x4 :: some (.int a) :: L) (.int a :: st) h := g_iload dX3_share_103 rfl
theorem e_X3_share_105 : ev X d 79 105 L (.int v :: .int i :: va_rf (some q) :: st) h = (I_asti X h 0 q i v).bind (fun h => ev X d 79 106 L st h) := g_iast dX3_share_105
theorem e_X3_share_106 : ev X d 79 106 L st h = ev X d 79 107 L (.int 1 :: st) h := g_iconst dX3_share_106 (by decide)
theorem e_X3_share_107 : ev X d 79 107 L [.int a] h = some (some (.int a), h) := g_iret dX3_share_107 rfl
theorem e_X3_fall_0 : ev X d 80 0 (some (va_rf r) :: L) st h = ev X d 80 1 (some (va_rf r) :: L) (va_rf r :: st) h := g_aload_n dX3_fall_0 rfl
theorem e_X3_fall_1 : ev X d 80 1 (x0 :: some (.int a) :: L) st h = ev X d 80 2 (x0 :: some (.int a) :: L) (.int a :: st) h := g_iload_n dX3_fall_1 rfl
theorem e_X3_fall_2 (hc : I_isC X h q 3 = true) (hs : I_cat st ≤ 8) : ev X (d + 1) 80 2 L (.int a1 :: va_rf (some q) :: st) h = (ev X d 71 0 [some (va_rf (some q)), some (.int a1)] [] h).bind (fun r => ev X (d + 1) 80 5 L (r.1.toList ++ st) r.2) := g_callV (as := [.int a1]) dX3_fall_2 (by decide) (by decide) I_np_71 rfl (by simp only [List.reverse_cons, List.reverse_nil, List.nil_append, List.cons_append, I_slots_n, I_slots_i, I_slots_d, I_slots_q, List.length_cons, List.length_nil]; decide) (by simp only [I_ent, List.reverse_cons, List.reverse_nil, List.nil_append, List.cons_append, I_slots_n, I_slots_i, I_slots_d, I_slots_q, List.length_cons, List.length_nil]; rfl) rfl hc hs
theorem e_X3_fall_5 : ev X d 80 5 L (.int a :: st) h = if a = 0 then ev X d 80 8 L st h else ev X d 80 11 L st h := g_if_ne dX3_fall_5 (by decide)
theorem e_X3_fall_8 : ev X d 80 8 L st h = ev X d 80 10 L (.int (-1000001) :: st) h := g_ldc dX3_fall_8 (by decide)
theorem e_X3_fall_10 : ev X d 80 10 L [.int a] h = some (some (.int a), h) := g_iret dX3_fall_10 rfl
theorem e_X3_fall_11 : ev X d 80 11 (some (va_rf r) :: L) st h = ev X d 80 12 (some (va_rf r) :: L) (va_rf r :: st) h := g_aload_n dX3_fall_11 rfl
theorem e_X3_fall_12 : ev X d 80 12 (x0 :: some (.int a) :: L) st h = ev X d 80 13 (x0 :: some (.int a) :: L) (.int a :: st) h := g_iload_n dX3_fall_12 rfl
theorem e_X3_fall_13 : ev X d 80 13 (x0 :: x1 :: some (.int a) :: L) st h = ev X d 80 14 (x0 :: x1 :: some (.int a) :: L) (.int a :: st) h := g_iload_n dX3_fall_13 rfl
theorem e_X3_fall_14 (hc : I_isC X h q 3 = true) (hs : I_cat st ≤ 8) : ev X (d + 1) 80 14 L (.int a2 :: .int a1 :: va_rf (some q) :: st) h = (ev X d 76 0 [some (va_rf (some q)), some (.int a1), some (.int a2)] [] h).bind (fun r => ev X (d + 1) 80 17 L (r.1.toList ++ st) r.2) := g_callV (as := [.int a2, .int a1]) dX3_fall_14 (by decide) (by decide) I_np_76 rfl (by simp only [List.reverse_cons, List.reverse_nil, List.nil_append, List.cons_append, I_slots_n, I_slots_i, I_slots_d, I_slots_q, List.length_cons, List.length_nil]; decide) (by simp only [I_ent, List.reverse_cons, List.reverse_nil, List.nil_append, List.cons_append, I_slots_n, I_slots_i, I_slots_d, I_slots_q, List.length_cons, List.length_nil]; rfl) rfl hc hs
theorem e_X3_fall_17 : ev X d 80 17 L (.int a :: st) h = if a = 0 then ev X d 80 20 L st h else ev X d 80 26 L st h := g_if_ne dX3_fall_17 (by decide)
theorem e_X3_fall_20 : ev X d 80 20 (some (va_rf r) :: L) st h = ev X d 80 21 (some (va_rf r) :: L) (va_rf r :: st) h := g_aload_n dX3_fall_20 rfl
theorem e_X3_fall_21 : ev X d 80 21 L st h = ev X d 80 22 L (.int 2 :: st) h := g_iconst dX3_fall_21 (by decide)
theorem e_X3_fall_22 (hc : I_isC X h q 3 = true) (hs : I_cat st ≤ 8) : ev X (d + 1) 80 22 L (.int a1 :: va_rf (some q) :: st) h = (ev X d 70 0 [some (va_rf (some q)), some (.int a1)] [] h).bind (fun r => ev X (d + 1) 80 25 L (r.1.toList ++ st) r.2) := g_callV (as := [.int a1]) dX3_fall_22 (by decide) (by decide) I_np_70 rfl (by simp only [List.reverse_cons, List.reverse_nil, List.nil_append, List.cons_append, I_slots_n, I_slots_i, I_slots_d, I_slots_q, List.length_cons, List.length_nil]; decide) (by simp only [I_ent, List.reverse_cons, List.reverse_nil, List.nil_append, List.cons_append, I_slots_n, I_slots_i, I_slots_d, I_slots_q, List.length_cons, List.length_nil]; rfl) rfl hc hs
theorem e_X3_fall_25 : ev X d 80 25 L [.int a] h = some (some (.int a), h) := g_iret dX3_fall_25 rfl
theorem e_X3_fall_26 : ev X d 80 26 (some (va_rf r) :: L) st h = ev X d 80 27 (some (va_rf r) :: L) (va_rf r :: st) h := g_aload_n dX3_fall_26 rfl
theorem e_X3_fall_27 : ev X d 80 27 L (va_rf (some q) :: st) h = (I_getf X h q 3 3).bind (fun v => ev X d 80 30 L (v :: st) h) := g_get dX3_fall_27 (by decide)
theorem e_X3_fall_30 : ev X d 80 30 L st h = ev X d 80 32 L (.int 12 :: st) h := g_bipush dX3_fall_30 (by decide)
theorem e_X3_fall_32 : ev X d 80 32 (x0 :: some (.int a) :: L) st h = ev X d 80 33 (x0 :: some (.int a) :: L) (.int a :: st) h := g_iload_n dX3_fall_32 rfl
theorem e_X3_fall_33 : ev X d 80 33 L (.int b :: .int a :: st) h = ev X d 80 34 L (.int (a * b) :: st) h := g_imul dX3_fall_33
theorem e_X3_fall_34 : ev X d 80 34 (x0 :: x1 :: some (.int a) :: L) st h = ev X d 80 35 (x0 :: x1 :: some (.int a) :: L) (.int a :: st) h := g_iload_n dX3_fall_34 rfl
theorem e_X3_fall_35 : ev X d 80 35 L (.int b :: .int a :: st) h = ev X d 80 36 L (.int (a + b) :: st) h := g_iadd dX3_fall_35
theorem e_X3_fall_36 : ev X d 80 36 L (.int i :: va_rf (some q) :: st) h = (I_aldi X h 0 q i).bind (fun v => ev X d 80 37 L (.int v :: st) h) := g_iald dX3_fall_36 (by decide)
theorem e_X3_fall_37 : ev X d 80 37 L (.int a :: st) h = if 0 ≤ a then ev X d 80 44 L st h else ev X d 80 40 L st h := g_if_ge dX3_fall_37 (by decide)
theorem e_X3_fall_40 : ev X d 80 40 L st h = ev X d 80 41 L (.int 0 :: st) h := g_iconst dX3_fall_40 (by decide)
theorem e_X3_fall_41 : ev X d 80 41 L st h = ev X d 80 45 L st h := g_goto dX3_fall_41 (by decide)
theorem e_X3_fall_44 : ev X d 80 44 L st h = ev X d 80 45 L (.int 1 :: st) h := g_iconst dX3_fall_44 (by decide)
theorem e_X3_fall_45 (hx : I_c2 x2 = false) : ev X d 80 45 (x0 :: x1 :: x2 :: x3 :: L) (.int a :: st) h = ev X d 80 46 (x0 :: x1 :: x2 :: some (.int a) :: L) st h := g_istore_n dX3_fall_45 (I_st1_3 hx)
theorem e_X3_fall_46 : ev X d 80 46 (some (va_rf r) :: L) st h = ev X d 80 47 (some (va_rf r) :: L) (va_rf r :: st) h := g_aload_n dX3_fall_46 rfl
theorem e_X3_fall_47 : ev X d 80 47 L (va_rf (some q) :: st) h = (I_getf X h q 3 3).bind (fun v => ev X d 80 50 L (v :: st) h) := g_get dX3_fall_47 (by decide)
theorem e_X3_fall_50 : ev X d 80 50 L st h = ev X d 80 52 L (.int 12 :: st) h := g_bipush dX3_fall_50 (by decide)
theorem e_X3_fall_52 : ev X d 80 52 (x0 :: some (.int a) :: L) st h = ev X d 80 53 (x0 :: some (.int a) :: L) (.int a :: st) h := g_iload_n dX3_fall_52 rfl
theorem e_X3_fall_53 : ev X d 80 53 L (.int b :: .int a :: st) h = ev X d 80 54 L (.int (a * b) :: st) h := g_imul dX3_fall_53
theorem e_X3_fall_54 : ev X d 80 54 (x0 :: x1 :: some (.int a) :: L) st h = ev X d 80 55 (x0 :: x1 :: some (.int a) :: L) (.int a :: st) h := g_iload_n dX3_fall_54 rfl
theorem e_X3_fall_55 : ev X d 80 55 L (.int b :: .int a :: st) h = ev X d 80 56 L (.int (a + b) :: st) h := g_iadd dX3_fall_55
theorem e_X3_fall_56 : ev X d 80 56 L st h = ev X d 80 57 L (.int (-1) :: st) h := g_iconst dX3_fall_56 (by decide)
theorem e_X3_fall_57 : ev X d 80 57 L (.int v :: .int i :: va_rf (some q) :: st) h = (I_asti X h 0 q i v).bind (fun h => ev X d 80 58 L st h) := g_iast dX3_fall_57
theorem e_X3_fall_58 : ev X d 80 58 (x0 :: x1 :: x2 :: some (.int a) :: L) st h = ev X d 80 59 (x0 :: x1 :: x2 :: some (.int a) :: L) (.int a :: st) h := g_iload_n dX3_fall_58 rfl
theorem e_X3_fall_59 : ev X d 80 59 L [.int a] h = some (some (.int a), h) := g_iret dX3_fall_59 rfl
theorem e_X3_cellCause_0 : ev X d 81 0 (some (va_rf r) :: L) st h = ev X d 81 1 (some (va_rf r) :: L) (va_rf r :: st) h := g_aload_n dX3_cellCause_0 rfl
theorem e_X3_cellCause_1 : ev X d 81 1 (x0 :: some (.int a) :: L) st h = ev X d 81 2 (x0 :: some (.int a) :: L) (.int a :: st) h := g_iload_n dX3_cellCause_1 rfl
theorem e_X3_cellCause_2 : ev X d 81 2 (x0 :: x1 :: some (.int a) :: L) st h = ev X d 81 3 (x0 :: x1 :: some (.int a) :: L) (.int a :: st) h := g_iload_n dX3_cellCause_2 rfl
theorem e_X3_cellCause_3 (hc : I_isC X h q 3 = true) (hs : I_cat st ≤ 8) : ev X (d + 1) 81 3 L (.int a2 :: .int a1 :: va_rf (some q) :: st) h = (ev X d 76 0 [some (va_rf (some q)), some (.int a1), some (.int a2)] [] h).bind (fun r => ev X (d + 1) 81 6 L (r.1.toList ++ st) r.2) := g_callV (as := [.int a2, .int a1]) dX3_cellCause_3 (by decide) (by decide) I_np_76 rfl (by simp only [List.reverse_cons, List.reverse_nil, List.nil_append, List.cons_append, I_slots_n, I_slots_i, I_slots_d, I_slots_q, List.length_cons, List.length_nil]; decide) (by simp only [I_ent, List.reverse_cons, List.reverse_nil, List.nil_append, List.cons_append, I_slots_n, I_slots_i, I_slots_d, I_slots_q, List.length_cons, List.length_nil]; rfl) rfl hc hs
theorem e_X3_cellCause_6 : ev X d 81 6 L (.int a :: st) h = if a = 0 then ev X d 81 9 L st h else ev X d 81 11 L st h := g_if_ne dX3_cellCause_6 (by decide)
theorem e_X3_cellCause_9 : ev X d 81 9 L st h = ev X d 81 10 L (.int 2 :: st) h := g_iconst dX3_cellCause_9 (by decide)
theorem e_X3_cellCause_10 : ev X d 81 10 L [.int a] h = some (some (.int a), h) := g_iret dX3_cellCause_10 rfl
theorem e_X3_cellCause_11 : ev X d 81 11 (some (va_rf r) :: L) st h = ev X d 81 12 (some (va_rf r) :: L) (va_rf r :: st) h := g_aload_n dX3_cellCause_11 rfl
theorem e_X3_cellCause_12 : ev X d 81 12 L (va_rf (some q) :: st) h = (I_getf X h q 3 3).bind (fun v => ev X d 81 15 L (v :: st) h) := g_get dX3_cellCause_12 (by decide)
theorem e_X3_cellCause_15 : ev X d 81 15 L st h = ev X d 81 17 L (.int 12 :: st) h := g_bipush dX3_cellCause_15 (by decide)
theorem e_X3_cellCause_17 : ev X d 81 17 (x0 :: some (.int a) :: L) st h = ev X d 81 18 (x0 :: some (.int a) :: L) (.int a :: st) h := g_iload_n dX3_cellCause_17 rfl
theorem e_X3_cellCause_18 : ev X d 81 18 L (.int b :: .int a :: st) h = ev X d 81 19 L (.int (a * b) :: st) h := g_imul dX3_cellCause_18
theorem e_X3_cellCause_19 : ev X d 81 19 (x0 :: x1 :: some (.int a) :: L) st h = ev X d 81 20 (x0 :: x1 :: some (.int a) :: L) (.int a :: st) h := g_iload_n dX3_cellCause_19 rfl
theorem e_X3_cellCause_20 : ev X d 81 20 L (.int b :: .int a :: st) h = ev X d 81 21 L (.int (a + b) :: st) h := g_iadd dX3_cellCause_20
theorem e_X3_cellCause_21 : ev X d 81 21 L (.int i :: va_rf (some q) :: st) h = (I_aldi X h 0 q i).bind (fun v => ev X d 81 22 L (.int v :: st) h) := g_iald dX3_cellCause_21 (by decide)
theorem e_X3_cellCause_22 (hx : I_c2 x3 = false) : ev X d 81 22 (x0 :: x1 :: x2 :: x3 :: x4 :: L) (.int a :: st) h = ev X d 81 24 (x0 :: x1 :: x2 :: x3 :: some (.int a) :: L) st h := g_istore dX3_cellCause_22 (I_st1_4 hx)
theorem e_X3_cellCause_24 : ev X d 81 24 (x0 :: x1 :: x2 :: x3 :: some (.int a) :: L) st h = ev X d 81 26 (x0 :: x1 :: x2 :: x3 :: some (.int a) :: L) (.int a :: st) h := g_iload dX3_cellCause_24 rfl
theorem e_X3_cellCause_26 : ev X d 81 26 L (.int a :: st) h = if 0 ≤ a then ev X d 81 33 L st h else ev X d 81 29 L st h := g_if_ge dX3_cellCause_26 (by decide)
theorem e_X3_cellCause_29 : ev X d 81 29 L st h = ev X d 81 30 L (.int 1 :: st) h := g_iconst dX3_cellCause_29 (by decide)
theorem e_X3_cellCause_30 : ev X d 81 30 L st h = ev X d 81 55 L st h := g_goto dX3_cellCause_30 (by decide)
theorem e_X3_cellCause_33 : ev X d 81 33 (x0 :: x1 :: x2 :: some (.int a) :: L) st h = ev X d 81 34 (x0 :: x1 :: x2 :: some (.int a) :: L) (.int a :: st) h := g_iload_n dX3_cellCause_33 rfl
theorem e_X3_cellCause_34 : ev X d 81 34 L st h = ev X d 81 35 L (.int 0 :: st) h := g_iconst dX3_cellCause_34 (by decide)
theorem e_X3_cellCause_35 : ev X d 81 35 (some (va_rf r) :: L) st h = ev X d 81 36 (some (va_rf r) :: L) (va_rf r :: st) h := g_aload_n dX3_cellCause_35 rfl
theorem e_X3_cellCause_36 : ev X d 81 36 L (va_rf (some q) :: st) h = (I_getf X h q 3 5).bind (fun v => ev X d 81 39 L (v :: st) h) := g_get dX3_cellCause_36 (by decide)
theorem e_X3_cellCause_39 : ev X d 81 39 (x0 :: x1 :: x2 :: x3 :: some (.int a) :: L) st h = ev X d 81 41 (x0 :: x1 :: x2 :: x3 :: some (.int a) :: L) (.int a :: st) h := g_iload dX3_cellCause_39 rfl
theorem e_X3_cellCause_41 : ev X d 81 41 L (.int i :: va_rf (some q) :: st) h = (I_aldi X h 0 q i).bind (fun v => ev X d 81 42 L (.int v :: st) h) := g_iald dX3_cellCause_41 (by decide)
theorem e_X3_cellCause_42 : ev X d 81 42 L st h = ev X d 81 43 L (.int 1 :: st) h := g_iconst dX3_cellCause_42 (by decide)
theorem e_X3_cellCause_43 : ev X d 81 43 L (.int b :: .int a :: st) h = ev X d 81 44 L (.int (a - b) :: st) h := g_isub dX3_cellCause_43
theorem e_X3_cellCause_44 (hs : I_cat st ≤ 8) : ev X (d + 1) 81 44 L (.int a3 :: .int a2 :: .int a1 :: st) h = (ev X d 69 0 [some (.int a1), some (.int a2), some (.int a3)] [] h).bind (fun r => ev X (d + 1) 81 47 L (r.1.toList ++ st) r.2) := g_callS (as := [.int a3, .int a2, .int a1]) dX3_cellCause_44 (by decide) (by decide) I_np_69 rfl (by simp only [List.reverse_cons, List.reverse_nil, List.nil_append, List.cons_append, I_slots_n, I_slots_i, I_slots_d, I_slots_q, List.length_cons, List.length_nil]; decide) (by simp only [I_ent, List.reverse_cons, List.reverse_nil, List.nil_append, List.cons_append, I_slots_n, I_slots_i, I_slots_d, I_slots_q, List.length_cons, List.length_nil]; rfl) rfl hs
theorem e_X3_cellCause_47 : ev X d 81 47 L (.int a :: st) h = if a = 0 then ev X d 81 54 L st h else ev X d 81 50 L st h := g_if_eq dX3_cellCause_47 (by decide)
theorem e_X3_cellCause_50 : ev X d 81 50 L st h = ev X d 81 51 L (.int 0 :: st) h := g_iconst dX3_cellCause_50 (by decide)
theorem e_X3_cellCause_51 : ev X d 81 51 L st h = ev X d 81 55 L st h := g_goto dX3_cellCause_51 (by decide)
theorem e_X3_cellCause_54 : ev X d 81 54 L st h = ev X d 81 55 L (.int 2 :: st) h := g_iconst dX3_cellCause_54 (by decide)
theorem e_X3_cellCause_55 : ev X d 81 55 L [.int a] h = some (some (.int a), h) := g_iret dX3_cellCause_55 rfl
theorem e_X3_put_0 : ev X d 82 0 (some (va_rf r) :: L) st h = ev X d 82 1 (some (va_rf r) :: L) (va_rf r :: st) h := g_aload_n dX3_put_0 rfl
theorem e_X3_put_1 : ev X d 82 1 (x0 :: some (.int a) :: L) st h = ev X d 82 2 (x0 :: some (.int a) :: L) (.int a :: st) h := g_iload_n dX3_put_1 rfl
theorem e_X3_put_2 (hc : I_isC X h q 3 = true) (hs : I_cat st ≤ 8) : ev X (d + 1) 82 2 L (.int a1 :: va_rf (some q) :: st) h = (ev X d 71 0 [some (va_rf (some q)), some (.int a1)] [] h).bind (fun r => ev X (d + 1) 82 5 L (r.1.toList ++ st) r.2) := g_callV (as := [.int a1]) dX3_put_2 (by decide) (by decide) I_np_71 rfl (by simp only [List.reverse_cons, List.reverse_nil, List.nil_append, List.cons_append, I_slots_n, I_slots_i, I_slots_d, I_slots_q, List.length_cons, List.length_nil]; decide) (by simp only [I_ent, List.reverse_cons, List.reverse_nil, List.nil_append, List.cons_append, I_slots_n, I_slots_i, I_slots_d, I_slots_q, List.length_cons, List.length_nil]; rfl) rfl hc hs
theorem e_X3_put_5 : ev X d 82 5 L (.int a :: st) h = if a = 0 then ev X d 82 34 L st h else ev X d 82 8 L st h := g_if_eq dX3_put_5 (by decide)
theorem e_X3_put_8 : ev X d 82 8 (some (va_rf r) :: L) st h = ev X d 82 9 (some (va_rf r) :: L) (va_rf r :: st) h := g_aload_n dX3_put_8 rfl
theorem e_X3_put_9 : ev X d 82 9 L (va_rf (some q) :: st) h = (I_getf X h q 3 1).bind (fun v => ev X d 82 12 L (v :: st) h) := g_get dX3_put_9 (by decide)
theorem e_X3_put_12 : ev X d 82 12 (x0 :: some (.int a) :: L) st h = ev X d 82 13 (x0 :: some (.int a) :: L) (.int a :: st) h := g_iload_n dX3_put_12 rfl
theorem e_X3_put_13 : ev X d 82 13 L (.int i :: va_rf (some q) :: st) h = (I_aldi X h 0 q i).bind (fun v => ev X d 82 14 L (.int v :: st) h) := g_iald dX3_put_13 (by decide)
theorem e_X3_put_14 : ev X d 82 14 L st h = ev X d 82 15 L (.int 3 :: st) h := g_iconst dX3_put_14 (by decide)
theorem e_X3_put_15 : ev X d 82 15 L (.int b :: .int a :: st) h = if a = b then ev X d 82 18 L st h else ev X d 82 37 L st h := g_icmp_ne dX3_put_15 (by decide)
theorem e_X3_put_18 : ev X d 82 18 (x0 :: x1 :: x2 :: x3 :: some (.int a) :: L) st h = ev X d 82 20 (x0 :: x1 :: x2 :: x3 :: some (.int a) :: L) (.int a :: st) h := g_iload dX3_put_18 rfl
theorem e_X3_put_20 : ev X d 82 20 L st h = ev X d 82 22 L (.int (-1000009) :: st) h := g_ldc dX3_put_20 (by decide)
theorem e_X3_put_22 : ev X d 82 22 L (.int b :: .int a :: st) h = if a = b then ev X d 82 37 L st h else ev X d 82 25 L st h := g_icmp_eq dX3_put_22 (by decide)
theorem e_X3_put_25 : ev X d 82 25 (some (va_rf r) :: L) st h = ev X d 82 26 (some (va_rf r) :: L) (va_rf r :: st) h := g_aload_n dX3_put_25 rfl
theorem e_X3_put_26 : ev X d 82 26 (x0 :: x1 :: x2 :: x3 :: some (.int a) :: L) st h = ev X d 82 28 (x0 :: x1 :: x2 :: x3 :: some (.int a) :: L) (.int a :: st) h := g_iload dX3_put_26 rfl
theorem e_X3_put_28 (hc : I_isC X h q 3 = true) (hs : I_cat st ≤ 8) : ev X (d + 1) 82 28 L (.int a1 :: va_rf (some q) :: st) h = (ev X d 71 0 [some (va_rf (some q)), some (.int a1)] [] h).bind (fun r => ev X (d + 1) 82 31 L (r.1.toList ++ st) r.2) := g_callV (as := [.int a1]) dX3_put_28 (by decide) (by decide) I_np_71 rfl (by simp only [List.reverse_cons, List.reverse_nil, List.nil_append, List.cons_append, I_slots_n, I_slots_i, I_slots_d, I_slots_q, List.length_cons, List.length_nil]; decide) (by simp only [I_ent, List.reverse_cons, List.reverse_nil, List.nil_append, List.cons_append, I_slots_n, I_slots_i, I_slots_d, I_slots_q, List.length_cons, List.length_nil]; rfl) rfl hc hs
theorem e_X3_put_31 : ev X d 82 31 L (.int a :: st) h = if a = 0 then ev X d 82 34 L st h else ev X d 82 37 L st h := g_if_ne dX3_put_31 (by decide)
theorem e_X3_put_34 : ev X d 82 34 L st h = ev X d 82 36 L (.int (-1000001) :: st) h := g_ldc dX3_put_34 (by decide)
theorem e_X3_put_36 : ev X d 82 36 L [.int a] h = some (some (.int a), h) := g_iret dX3_put_36 rfl
theorem e_X3_put_37 : ev X d 82 37 (some (va_rf r) :: L) st h = ev X d 82 38 (some (va_rf r) :: L) (va_rf r :: st) h := g_aload_n dX3_put_37 rfl
theorem e_X3_put_38 : ev X d 82 38 (x0 :: some (.int a) :: L) st h = ev X d 82 39 (x0 :: some (.int a) :: L) (.int a :: st) h := g_iload_n dX3_put_38 rfl
theorem e_X3_put_39 : ev X d 82 39 (x0 :: x1 :: some (.int a) :: L) st h = ev X d 82 40 (x0 :: x1 :: some (.int a) :: L) (.int a :: st) h := g_iload_n dX3_put_39 rfl
theorem e_X3_put_40 : ev X d 82 40 (x0 :: x1 :: x2 :: some (.int a) :: L) st h = ev X d 82 41 (x0 :: x1 :: x2 :: some (.int a) :: L) (.int a :: st) h := g_iload_n dX3_put_40 rfl
theorem e_X3_put_41 (hc : I_isC X h q 3 = true) (hs : I_cat st ≤ 8) : ev X (d + 1) 82 41 L (.int a3 :: .int a2 :: .int a1 :: va_rf (some q) :: st) h = (ev X d 81 0 [some (va_rf (some q)), some (.int a1), some (.int a2), some (.int a3), none] [] h).bind (fun r => ev X (d + 1) 82 44 L (r.1.toList ++ st) r.2) := g_callV (as := [.int a3, .int a2, .int a1]) dX3_put_41 (by decide) (by decide) I_np_81 rfl (by simp only [List.reverse_cons, List.reverse_nil, List.nil_append, List.cons_append, I_slots_n, I_slots_i, I_slots_d, I_slots_q, List.length_cons, List.length_nil]; decide) (by simp only [I_ent, List.reverse_cons, List.reverse_nil, List.nil_append, List.cons_append, I_slots_n, I_slots_i, I_slots_d, I_slots_q, List.length_cons, List.length_nil]; rfl) rfl hc hs
theorem e_X3_put_44 (hx : I_c2 x4 = false) : ev X d 82 44 (x0 :: x1 :: x2 :: x3 :: x4 :: x5 :: L) (.int a :: st) h = ev X d 82 46 (x0 :: x1 :: x2 :: x3 :: x4 :: some (.int a) :: L) st h := g_istore dX3_put_44 (I_st1_5 hx)
theorem e_X3_put_46 : ev X d 82 46 (x0 :: x1 :: x2 :: x3 :: x4 :: some (.int a) :: L) st h = ev X d 82 48 (x0 :: x1 :: x2 :: x3 :: x4 :: some (.int a) :: L) (.int a :: st) h := g_iload dX3_put_46 rfl
theorem e_X3_put_48 : ev X d 82 48 L (.int a :: st) h = if a ≤ 0 then ev X d 82 58 L st h else ev X d 82 51 L st h := g_if_le dX3_put_48 (by decide)
theorem e_X3_put_51 : ev X d 82 51 (some (va_rf r) :: L) st h = ev X d 82 52 (some (va_rf r) :: L) (va_rf r :: st) h := g_aload_n dX3_put_51 rfl
theorem e_X3_put_52 : ev X d 82 52 (x0 :: x1 :: x2 :: x3 :: x4 :: some (.int a) :: L) st h = ev X d 82 54 (x0 :: x1 :: x2 :: x3 :: x4 :: some (.int a) :: L) (.int a :: st) h := g_iload dX3_put_52 rfl
theorem e_X3_put_54 (hc : I_isC X h q 3 = true) (hs : I_cat st ≤ 8) : ev X (d + 1) 82 54 L (.int a1 :: va_rf (some q) :: st) h = (ev X d 70 0 [some (va_rf (some q)), some (.int a1)] [] h).bind (fun r => ev X (d + 1) 82 57 L (r.1.toList ++ st) r.2) := g_callV (as := [.int a1]) dX3_put_54 (by decide) (by decide) I_np_70 rfl (by simp only [List.reverse_cons, List.reverse_nil, List.nil_append, List.cons_append, I_slots_n, I_slots_i, I_slots_d, I_slots_q, List.length_cons, List.length_nil]; decide) (by simp only [I_ent, List.reverse_cons, List.reverse_nil, List.nil_append, List.cons_append, I_slots_n, I_slots_i, I_slots_d, I_slots_q, List.length_cons, List.length_nil]; rfl) rfl hc hs
theorem e_X3_put_57 : ev X d 82 57 L [.int a] h = some (some (.int a), h) := g_iret dX3_put_57 rfl
theorem e_X3_put_58 : ev X d 82 58 L st h = ev X d 82 60 L (.int 16 :: st) h := g_bipush dX3_put_58 (by decide)
theorem e_X3_put_60 : ev X d 82 60 (some (va_rf r) :: L) st h = ev X d 82 61 (some (va_rf r) :: L) (va_rf r :: st) h := g_aload_n dX3_put_60 rfl
theorem e_X3_put_61 : ev X d 82 61 L (va_rf (some q) :: st) h = (I_getf X h q 3 3).bind (fun v => ev X d 82 64 L (v :: st) h) := g_get dX3_put_61 (by decide)
theorem e_X3_put_64 : ev X d 82 64 L st h = ev X d 82 66 L (.int 12 :: st) h := g_bipush dX3_put_64 (by decide)
theorem e_X3_put_66 : ev X d 82 66 (x0 :: some (.int a) :: L) st h = ev X d 82 67 (x0 :: some (.int a) :: L) (.int a :: st) h := g_iload_n dX3_put_66 rfl
theorem e_X3_put_67 : ev X d 82 67 L (.int b :: .int a :: st) h = ev X d 82 68 L (.int (a * b) :: st) h := g_imul dX3_put_67
theorem e_X3_put_68 : ev X d 82 68 (x0 :: x1 :: some (.int a) :: L) st h = ev X d 82 69 (x0 :: x1 :: some (.int a) :: L) (.int a :: st) h := g_iload_n dX3_put_68 rfl
theorem e_X3_put_69 : ev X d 82 69 L (.int b :: .int a :: st) h = ev X d 82 70 L (.int (a + b) :: st) h := g_iadd dX3_put_69
theorem e_X3_put_70 : ev X d 82 70 L (.int i :: va_rf (some q) :: st) h = (I_aldi X h 0 q i).bind (fun v => ev X d 82 71 L (.int v :: st) h) := g_iald dX3_put_70 (by decide)
theorem e_X3_put_71 : ev X d 82 71 L (.int b :: .int a :: st) h = ev X d 82 72 L (.int (a * b) :: st) h := g_imul dX3_put_71
theorem e_X3_put_72 : ev X d 82 72 (x0 :: x1 :: x2 :: some (.int a) :: L) st h = ev X d 82 73 (x0 :: x1 :: x2 :: some (.int a) :: L) (.int a :: st) h := g_iload_n dX3_put_72 rfl
theorem e_X3_put_73 : ev X d 82 73 L (.int b :: .int a :: st) h = ev X d 82 74 L (.int (a + b) :: st) h := g_iadd dX3_put_73
theorem e_X3_put_74 (hx : I_c2 x5 = false) : ev X d 82 74 (x0 :: x1 :: x2 :: x3 :: x4 :: x5 :: x6 :: L) (.int a :: st) h = ev X d 82 76 (x0 :: x1 :: x2 :: x3 :: x4 :: x5 :: some (.int a) :: L) st h := g_istore dX3_put_74 (I_st1_6 hx)
theorem e_X3_put_76 : ev X d 82 76 (some (va_rf r) :: L) st h = ev X d 82 77 (some (va_rf r) :: L) (va_rf r :: st) h := g_aload_n dX3_put_76 rfl
theorem e_X3_put_77 : ev X d 82 77 L (va_rf (some q) :: st) h = (I_getf X h q 3 6).bind (fun v => ev X d 82 80 L (v :: st) h) := g_get dX3_put_77 (by decide)
theorem e_X3_put_80 : ev X d 82 80 (x0 :: x1 :: x2 :: x3 :: x4 :: x5 :: some (.int a) :: L) st h = ev X d 82 82 (x0 :: x1 :: x2 :: x3 :: x4 :: x5 :: some (.int a) :: L) (.int a :: st) h := g_iload dX3_put_80 rfl
theorem e_X3_put_82 : ev X d 82 82 (some (va_rf r) :: L) st h = ev X d 82 83 (some (va_rf r) :: L) (va_rf r :: st) h := g_aload_n dX3_put_82 rfl
theorem e_X3_put_83 : ev X d 82 83 L (va_rf (some q) :: st) h = (I_getf X h q 3 1).bind (fun v => ev X d 82 86 L (v :: st) h) := g_get dX3_put_83 (by decide)
theorem e_X3_put_86 : ev X d 82 86 (x0 :: some (.int a) :: L) st h = ev X d 82 87 (x0 :: some (.int a) :: L) (.int a :: st) h := g_iload_n dX3_put_86 rfl
theorem e_X3_put_87 : ev X d 82 87 L (.int i :: va_rf (some q) :: st) h = (I_aldi X h 0 q i).bind (fun v => ev X d 82 88 L (.int v :: st) h) := g_iald dX3_put_87 (by decide)
theorem e_X3_put_88 : ev X d 82 88 L (.int a :: st) h = if a = 0 then ev X d 82 91 L st h else ev X d 82 104 L st h := g_if_ne dX3_put_88 (by decide)
theorem e_X3_put_91 : ev X d 82 91 (x0 :: x1 :: x2 :: x3 :: some (.int a) :: L) st h = ev X d 82 93 (x0 :: x1 :: x2 :: x3 :: some (.int a) :: L) (.int a :: st) h := g_iload dX3_put_91 rfl
theorem e_X3_put_93 : ev X d 82 93 L (.int a :: st) h = if a = 0 then ev X d 82 96 L st h else ev X d 82 100 L st h := g_if_ne dX3_put_93 (by decide)
theorem e_X3_put_96 : ev X d 82 96 L st h = ev X d 82 97 L (.int 0 :: st) h := g_iconst dX3_put_96 (by decide)
theorem e_X3_put_97 : ev X d 82 97 L st h = ev X d 82 106 L st h := g_goto dX3_put_97 (by decide)
theorem e_X3_put_100 : ev X d 82 100 L st h = ev X d 82 101 L (.int 1 :: st) h := g_iconst dX3_put_100 (by decide)
theorem e_X3_put_101 : ev X d 82 101 L st h = ev X d 82 106 L st h := g_goto dX3_put_101 (by decide)
theorem e_X3_put_104 : ev X d 82 104 (x0 :: x1 :: x2 :: x3 :: some (.int a) :: L) st h = ev X d 82 106 (x0 :: x1 :: x2 :: x3 :: some (.int a) :: L) (.int a :: st) h := g_iload dX3_put_104 rfl
theorem e_X3_put_106 : ev X d 82 106 L (.int v :: .int i :: va_rf (some q) :: st) h = (I_asti X h 0 q i v).bind (fun h => ev X d 82 107 L st h) := g_iast dX3_put_106
theorem e_X3_put_107 : ev X d 82 107 (some (va_rf r) :: L) st h = ev X d 82 108 (some (va_rf r) :: L) (va_rf r :: st) h := g_aload_n dX3_put_107 rfl
theorem e_X3_put_108 : ev X d 82 108 L (va_rf (some q) :: st) h = (I_getf X h q 3 7).bind (fun v => ev X d 82 111 L (v :: st) h) := g_get dX3_put_108 (by decide)
theorem e_X3_put_111 : ev X d 82 111 (x0 :: x1 :: x2 :: x3 :: x4 :: x5 :: some (.int a) :: L) st h = ev X d 82 113 (x0 :: x1 :: x2 :: x3 :: x4 :: x5 :: some (.int a) :: L) (.int a :: st) h := g_iload dX3_put_111 rfl
theorem e_X3_put_113 : ev X d 82 113 (x0 :: x1 :: x2 :: x3 :: some (.int a) :: L) st h = ev X d 82 115 (x0 :: x1 :: x2 :: x3 :: some (.int a) :: L) (.int a :: st) h := g_iload dX3_put_113 rfl
theorem e_X3_put_115 : ev X d 82 115 L (.int a :: st) h = ev X d 82 116 L (.double (FP.i2d a) :: st) h := g_i2d dX3_put_115
theorem e_X3_put_116 : ev X d 82 116 L st h = ev X d 82 119 L (.double 4652007308841189376 :: st) h := g_ldcd dX3_put_116 (by decide)
theorem e_X3_put_119 (hn : I_nan (FP.ddiv w1 w2) = true) : ev X d 82 119 L (.double w2 :: .double w1 :: st) h = ev X d 82 120 L (.double (FP.ddiv w1 w2) :: st) h := g_ddiv dX3_put_119 hn
theorem e_X3_put_120 : ev X d 82 120 L (.double w :: .int i :: va_rf (some q) :: st) h = (I_astd X h q i w).bind (fun h => ev X d 82 121 L st h) := g_dast dX3_put_120
theorem e_X3_put_121 : ev X d 82 121 L st h = ev X d 82 122 L (.int 1 :: st) h := g_iconst dX3_put_121 (by decide)
theorem e_X3_put_122 : ev X d 82 122 L [.int a] h = some (some (.int a), h) := g_iret dX3_put_122 rfl
theorem e_X3_get_0 : ev X d 83 0 (some (va_rf r) :: L) st h = ev X d 83 1 (some (va_rf r) :: L) (va_rf r :: st) h := g_aload_n dX3_get_0 rfl
theorem e_X3_get_1 : ev X d 83 1 (x0 :: some (.int a) :: L) st h = ev X d 83 2 (x0 :: some (.int a) :: L) (.int a :: st) h := g_iload_n dX3_get_1 rfl
theorem e_X3_get_2 (hc : I_isC X h q 3 = true) (hs : I_cat st ≤ 8) : ev X (d + 1) 83 2 L (.int a1 :: va_rf (some q) :: st) h = (ev X d 71 0 [some (va_rf (some q)), some (.int a1)] [] h).bind (fun r => ev X (d + 1) 83 5 L (r.1.toList ++ st) r.2) := g_callV (as := [.int a1]) dX3_get_2 (by decide) (by decide) I_np_71 rfl (by simp only [List.reverse_cons, List.reverse_nil, List.nil_append, List.cons_append, I_slots_n, I_slots_i, I_slots_d, I_slots_q, List.length_cons, List.length_nil]; decide) (by simp only [I_ent, List.reverse_cons, List.reverse_nil, List.nil_append, List.cons_append, I_slots_n, I_slots_i, I_slots_d, I_slots_q, List.length_cons, List.length_nil]; rfl) rfl hc hs
theorem e_X3_get_5 : ev X d 83 5 L (.int a :: st) h = if a = 0 then ev X d 83 8 L st h else ev X d 83 11 L st h := g_if_ne dX3_get_5 (by decide)
theorem e_X3_get_8 : ev X d 83 8 L st h = ev X d 83 10 L (.int (-1000001) :: st) h := g_ldc dX3_get_8 (by decide)
theorem e_X3_get_10 : ev X d 83 10 L [.int a] h = some (some (.int a), h) := g_iret dX3_get_10 rfl
theorem e_X3_get_11 : ev X d 83 11 (some (va_rf r) :: L) st h = ev X d 83 12 (some (va_rf r) :: L) (va_rf r :: st) h := g_aload_n dX3_get_11 rfl
theorem e_X3_get_12 : ev X d 83 12 (x0 :: some (.int a) :: L) st h = ev X d 83 13 (x0 :: some (.int a) :: L) (.int a :: st) h := g_iload_n dX3_get_12 rfl
theorem e_X3_get_13 : ev X d 83 13 (x0 :: x1 :: some (.int a) :: L) st h = ev X d 83 14 (x0 :: x1 :: some (.int a) :: L) (.int a :: st) h := g_iload_n dX3_get_13 rfl
theorem e_X3_get_14 : ev X d 83 14 (x0 :: x1 :: x2 :: some (.int a) :: L) st h = ev X d 83 15 (x0 :: x1 :: x2 :: some (.int a) :: L) (.int a :: st) h := g_iload_n dX3_get_14 rfl
theorem e_X3_get_15 (hc : I_isC X h q 3 = true) (hs : I_cat st ≤ 8) : ev X (d + 1) 83 15 L (.int a3 :: .int a2 :: .int a1 :: va_rf (some q) :: st) h = (ev X d 81 0 [some (va_rf (some q)), some (.int a1), some (.int a2), some (.int a3), none] [] h).bind (fun r => ev X (d + 1) 83 18 L (r.1.toList ++ st) r.2) := g_callV (as := [.int a3, .int a2, .int a1]) dX3_get_15 (by decide) (by decide) I_np_81 rfl (by simp only [List.reverse_cons, List.reverse_nil, List.nil_append, List.cons_append, I_slots_n, I_slots_i, I_slots_d, I_slots_q, List.length_cons, List.length_nil]; decide) (by simp only [I_ent, List.reverse_cons, List.reverse_nil, List.nil_append, List.cons_append, I_slots_n, I_slots_i, I_slots_d, I_slots_q, List.length_cons, List.length_nil]; rfl) rfl hc hs
theorem e_X3_get_18 (hx : I_c2 x3 = false) : ev X d 83 18 (x0 :: x1 :: x2 :: x3 :: x4 :: L) (.int a :: st) h = ev X d 83 20 (x0 :: x1 :: x2 :: x3 :: some (.int a) :: L) st h := g_istore dX3_get_18 (I_st1_4 hx)
theorem e_X3_get_20 : ev X d 83 20 (x0 :: x1 :: x2 :: x3 :: some (.int a) :: L) st h = ev X d 83 22 (x0 :: x1 :: x2 :: x3 :: some (.int a) :: L) (.int a :: st) h := g_iload dX3_get_20 rfl
theorem e_X3_get_22 : ev X d 83 22 L (.int a :: st) h = if a ≤ 0 then ev X d 83 34 L st h else ev X d 83 25 L st h := g_if_le dX3_get_22 (by decide)
theorem e_X3_get_25 : ev X d 83 25 (some (va_rf r) :: L) st h = ev X d 83 26 (some (va_rf r) :: L) (va_rf r :: st) h := g_aload_n dX3_get_25 rfl
theorem e_X3_get_26 : ev X d 83 26 (x0 :: x1 :: x2 :: x3 :: some (.int a) :: L) st h = ev X d 83 28 (x0 :: x1 :: x2 :: x3 :: some (.int a) :: L) (.int a :: st) h := g_iload dX3_get_26 rfl
theorem e_X3_get_28 (hc : I_isC X h q 3 = true) (hs : I_cat st ≤ 8) : ev X (d + 1) 83 28 L (.int a1 :: va_rf (some q) :: st) h = (ev X d 70 0 [some (va_rf (some q)), some (.int a1)] [] h).bind (fun r => ev X (d + 1) 83 31 L (r.1.toList ++ st) r.2) := g_callV (as := [.int a1]) dX3_get_28 (by decide) (by decide) I_np_70 rfl (by simp only [List.reverse_cons, List.reverse_nil, List.nil_append, List.cons_append, I_slots_n, I_slots_i, I_slots_d, I_slots_q, List.length_cons, List.length_nil]; decide) (by simp only [I_ent, List.reverse_cons, List.reverse_nil, List.nil_append, List.cons_append, I_slots_n, I_slots_i, I_slots_d, I_slots_q, List.length_cons, List.length_nil]; rfl) rfl hc hs
theorem e_X3_get_31 : ev X d 83 31 L st h = ev X d 83 60 L st h := g_goto dX3_get_31 (by decide)
theorem e_X3_get_34 : ev X d 83 34 (some (va_rf r) :: L) st h = ev X d 83 35 (some (va_rf r) :: L) (va_rf r :: st) h := g_aload_n dX3_get_34 rfl
theorem e_X3_get_35 : ev X d 83 35 (some (va_rf r) :: L) st h = ev X d 83 36 (some (va_rf r) :: L) (va_rf r :: st) h := g_aload_n dX3_get_35 rfl
theorem e_X3_get_36 : ev X d 83 36 L (va_rf (some q) :: st) h = (I_getf X h q 3 1).bind (fun v => ev X d 83 39 L (v :: st) h) := g_get dX3_get_36 (by decide)
theorem e_X3_get_39 : ev X d 83 39 (x0 :: some (.int a) :: L) st h = ev X d 83 40 (x0 :: some (.int a) :: L) (.int a :: st) h := g_iload_n dX3_get_39 rfl
theorem e_X3_get_40 : ev X d 83 40 L (.int i :: va_rf (some q) :: st) h = (I_aldi X h 0 q i).bind (fun v => ev X d 83 41 L (.int v :: st) h) := g_iald dX3_get_40 (by decide)
theorem e_X3_get_41 : ev X d 83 41 L st h = ev X d 83 43 L (.int 16 :: st) h := g_bipush dX3_get_41 (by decide)
theorem e_X3_get_43 : ev X d 83 43 (some (va_rf r) :: L) st h = ev X d 83 44 (some (va_rf r) :: L) (va_rf r :: st) h := g_aload_n dX3_get_43 rfl
theorem e_X3_get_44 : ev X d 83 44 L (va_rf (some q) :: st) h = (I_getf X h q 3 3).bind (fun v => ev X d 83 47 L (v :: st) h) := g_get dX3_get_44 (by decide)
theorem e_X3_get_47 : ev X d 83 47 L st h = ev X d 83 49 L (.int 12 :: st) h := g_bipush dX3_get_47 (by decide)
theorem e_X3_get_49 : ev X d 83 49 (x0 :: some (.int a) :: L) st h = ev X d 83 50 (x0 :: some (.int a) :: L) (.int a :: st) h := g_iload_n dX3_get_49 rfl
theorem e_X3_get_50 : ev X d 83 50 L (.int b :: .int a :: st) h = ev X d 83 51 L (.int (a * b) :: st) h := g_imul dX3_get_50
theorem e_X3_get_51 : ev X d 83 51 (x0 :: x1 :: some (.int a) :: L) st h = ev X d 83 52 (x0 :: x1 :: some (.int a) :: L) (.int a :: st) h := g_iload_n dX3_get_51 rfl
theorem e_X3_get_52 : ev X d 83 52 L (.int b :: .int a :: st) h = ev X d 83 53 L (.int (a + b) :: st) h := g_iadd dX3_get_52
theorem e_X3_get_53 : ev X d 83 53 L (.int i :: va_rf (some q) :: st) h = (I_aldi X h 0 q i).bind (fun v => ev X d 83 54 L (.int v :: st) h) := g_iald dX3_get_53 (by decide)
theorem e_X3_get_54 : ev X d 83 54 L (.int b :: .int a :: st) h = ev X d 83 55 L (.int (a * b) :: st) h := g_imul dX3_get_54
theorem e_X3_get_55 : ev X d 83 55 (x0 :: x1 :: x2 :: some (.int a) :: L) st h = ev X d 83 56 (x0 :: x1 :: x2 :: some (.int a) :: L) (.int a :: st) h := g_iload_n dX3_get_55 rfl
theorem e_X3_get_56 : ev X d 83 56 L (.int b :: .int a :: st) h = ev X d 83 57 L (.int (a + b) :: st) h := g_iadd dX3_get_56
theorem e_X3_get_57 (hc : I_isC X h q 3 = true) (hs : I_cat st ≤ 8) : ev X (d + 1) 83 57 L (.int a2 :: .int a1 :: va_rf (some q) :: st) h = (ev X d 84 0 [some (va_rf (some q)), some (.int a1), some (.int a2)] [] h).bind (fun r => ev X (d + 1) 83 60 L (r.1.toList ++ st) r.2) := g_callV (as := [.int a2, .int a1]) dX3_get_57 (by decide) (by decide) I_np_84 rfl (by simp only [List.reverse_cons, List.reverse_nil, List.nil_append, List.cons_append, I_slots_n, I_slots_i, I_slots_d, I_slots_q, List.length_cons, List.length_nil]; decide) (by simp only [I_ent, List.reverse_cons, List.reverse_nil, List.nil_append, List.cons_append, I_slots_n, I_slots_i, I_slots_d, I_slots_q, List.length_cons, List.length_nil]; rfl) rfl hc hs
theorem e_X3_get_60 : ev X d 83 60 L [.int a] h = some (some (.int a), h) := g_iret dX3_get_60 rfl
theorem e_X3_toldAt_0 : ev X d 84 0 (x0 :: some (.int a) :: L) st h = ev X d 84 1 (x0 :: some (.int a) :: L) (.int a :: st) h := g_iload_n dX3_toldAt_0 rfl
theorem e_X3_toldAt_1 : ev X d 84 1 L st h = ev X d 84 2 L (.int 2 :: st) h := g_iconst dX3_toldAt_1 (by decide)
theorem e_X3_toldAt_2 : ev X d 84 2 L (.int b :: .int a :: st) h = if a = b then ev X d 84 5 L st h else ev X d 84 15 L st h := g_icmp_ne dX3_toldAt_2 (by decide)
theorem e_X3_toldAt_5 : ev X d 84 5 (some (va_rf r) :: L) st h = ev X d 84 6 (some (va_rf r) :: L) (va_rf r :: st) h := g_aload_n dX3_toldAt_5 rfl
theorem e_X3_toldAt_6 : ev X d 84 6 L (va_rf (some q) :: st) h = (I_getf X h q 3 7).bind (fun v => ev X d 84 9 L (v :: st) h) := g_get dX3_toldAt_6 (by decide)
theorem e_X3_toldAt_9 : ev X d 84 9 (x0 :: x1 :: some (.int a) :: L) st h = ev X d 84 10 (x0 :: x1 :: some (.int a) :: L) (.int a :: st) h := g_iload_n dX3_toldAt_9 rfl
theorem e_X3_toldAt_10 : ev X d 84 10 L (.int i :: va_rf (some q) :: st) h = (I_aldd X h q i).bind (fun v => ev X d 84 11 L (.double v :: st) h) := g_dald dX3_toldAt_10
theorem e_X3_toldAt_11 : ev X d 84 11 L (.double w :: st) h = ev X d 84 12 L (.int (FP.d2i w) :: st) h := g_d2i dX3_toldAt_11
theorem e_X3_toldAt_12 : ev X d 84 12 L st h = ev X d 84 21 L st h := g_goto dX3_toldAt_12 (by decide)
theorem e_X3_toldAt_15 : ev X d 84 15 (some (va_rf r) :: L) st h = ev X d 84 16 (some (va_rf r) :: L) (va_rf r :: st) h := g_aload_n dX3_toldAt_15 rfl
theorem e_X3_toldAt_16 : ev X d 84 16 L (va_rf (some q) :: st) h = (I_getf X h q 3 6).bind (fun v => ev X d 84 19 L (v :: st) h) := g_get dX3_toldAt_16 (by decide)
theorem e_X3_toldAt_19 : ev X d 84 19 (x0 :: x1 :: some (.int a) :: L) st h = ev X d 84 20 (x0 :: x1 :: some (.int a) :: L) (.int a :: st) h := g_iload_n dX3_toldAt_19 rfl
theorem e_X3_toldAt_20 : ev X d 84 20 L (.int i :: va_rf (some q) :: st) h = (I_aldi X h 0 q i).bind (fun v => ev X d 84 21 L (.int v :: st) h) := g_iald dX3_toldAt_20 (by decide)
theorem e_X3_toldAt_21 : ev X d 84 21 L [.int a] h = some (some (.int a), h) := g_iret dX3_toldAt_21 rfl
theorem e_X3_real_0 : ev X d 85 0 (some (va_rf r) :: L) st h = ev X d 85 1 (some (va_rf r) :: L) (va_rf r :: st) h := g_aload_n dX3_real_0 rfl
theorem e_X3_real_1 : ev X d 85 1 (x0 :: some (.int a) :: L) st h = ev X d 85 2 (x0 :: some (.int a) :: L) (.int a :: st) h := g_iload_n dX3_real_1 rfl
theorem e_X3_real_2 (hc : I_isC X h q 3 = true) (hs : I_cat st ≤ 8) : ev X (d + 1) 85 2 L (.int a1 :: va_rf (some q) :: st) h = (ev X d 71 0 [some (va_rf (some q)), some (.int a1)] [] h).bind (fun r => ev X (d + 1) 85 5 L (r.1.toList ++ st) r.2) := g_callV (as := [.int a1]) dX3_real_2 (by decide) (by decide) I_np_71 rfl (by simp only [List.reverse_cons, List.reverse_nil, List.nil_append, List.cons_append, I_slots_n, I_slots_i, I_slots_d, I_slots_q, List.length_cons, List.length_nil]; decide) (by simp only [I_ent, List.reverse_cons, List.reverse_nil, List.nil_append, List.cons_append, I_slots_n, I_slots_i, I_slots_d, I_slots_q, List.length_cons, List.length_nil]; rfl) rfl hc hs
theorem e_X3_real_5 : ev X d 85 5 L (.int a :: st) h = if a = 0 then ev X d 85 8 L st h else ev X d 85 10 L st h := g_if_ne dX3_real_5 (by decide)
theorem e_X3_real_8 : ev X d 85 8 L st h = ev X d 85 9 L (.double 0 :: st) h := g_dconst dX3_real_8
theorem e_X3_real_9 : ev X d 85 9 L [.double w] h = some (some (.double w), h) := g_dret dX3_real_9 rfl
theorem e_X3_real_10 : ev X d 85 10 (some (va_rf r) :: L) st h = ev X d 85 11 (some (va_rf r) :: L) (va_rf r :: st) h := g_aload_n dX3_real_10 rfl
theorem e_X3_real_11 : ev X d 85 11 (x0 :: some (.int a) :: L) st h = ev X d 85 12 (x0 :: some (.int a) :: L) (.int a :: st) h := g_iload_n dX3_real_11 rfl
theorem e_X3_real_12 : ev X d 85 12 (x0 :: x1 :: some (.int a) :: L) st h = ev X d 85 13 (x0 :: x1 :: some (.int a) :: L) (.int a :: st) h := g_iload_n dX3_real_12 rfl
theorem e_X3_real_13 : ev X d 85 13 (x0 :: x1 :: x2 :: some (.int a) :: L) st h = ev X d 85 14 (x0 :: x1 :: x2 :: some (.int a) :: L) (.int a :: st) h := g_iload_n dX3_real_13 rfl
theorem e_X3_real_14 (hc : I_isC X h q 3 = true) (hs : I_cat st ≤ 8) : ev X (d + 1) 85 14 L (.int a3 :: .int a2 :: .int a1 :: va_rf (some q) :: st) h = (ev X d 81 0 [some (va_rf (some q)), some (.int a1), some (.int a2), some (.int a3), none] [] h).bind (fun r => ev X (d + 1) 85 17 L (r.1.toList ++ st) r.2) := g_callV (as := [.int a3, .int a2, .int a1]) dX3_real_14 (by decide) (by decide) I_np_81 rfl (by simp only [List.reverse_cons, List.reverse_nil, List.nil_append, List.cons_append, I_slots_n, I_slots_i, I_slots_d, I_slots_q, List.length_cons, List.length_nil]; decide) (by simp only [I_ent, List.reverse_cons, List.reverse_nil, List.nil_append, List.cons_append, I_slots_n, I_slots_i, I_slots_d, I_slots_q, List.length_cons, List.length_nil]; rfl) rfl hc hs
theorem e_X3_real_17 (hx : I_c2 x3 = false) : ev X d 85 17 (x0 :: x1 :: x2 :: x3 :: x4 :: L) (.int a :: st) h = ev X d 85 19 (x0 :: x1 :: x2 :: x3 :: some (.int a) :: L) st h := g_istore dX3_real_17 (I_st1_4 hx)
theorem e_X3_real_19 : ev X d 85 19 (x0 :: x1 :: x2 :: x3 :: some (.int a) :: L) st h = ev X d 85 21 (x0 :: x1 :: x2 :: x3 :: some (.int a) :: L) (.int a :: st) h := g_iload dX3_real_19 rfl
theorem e_X3_real_21 : ev X d 85 21 L (.int a :: st) h = if 0 < a then ev X d 85 34 L st h else ev X d 85 24 L st h := g_if_gt dX3_real_21 (by decide)
theorem e_X3_real_24 : ev X d 85 24 (some (va_rf r) :: L) st h = ev X d 85 25 (some (va_rf r) :: L) (va_rf r :: st) h := g_aload_n dX3_real_24 rfl
theorem e_X3_real_25 : ev X d 85 25 L (va_rf (some q) :: st) h = (I_getf X h q 3 1).bind (fun v => ev X d 85 28 L (v :: st) h) := g_get dX3_real_25 (by decide)
theorem e_X3_real_28 : ev X d 85 28 (x0 :: some (.int a) :: L) st h = ev X d 85 29 (x0 :: some (.int a) :: L) (.int a :: st) h := g_iload_n dX3_real_28 rfl
theorem e_X3_real_29 : ev X d 85 29 L (.int i :: va_rf (some q) :: st) h = (I_aldi X h 0 q i).bind (fun v => ev X d 85 30 L (.int v :: st) h) := g_iald dX3_real_29 (by decide)
theorem e_X3_real_30 : ev X d 85 30 L st h = ev X d 85 31 L (.int 2 :: st) h := g_iconst dX3_real_30 (by decide)
theorem e_X3_real_31 : ev X d 85 31 L (.int b :: .int a :: st) h = if a = b then ev X d 85 38 L st h else ev X d 85 34 L st h := g_icmp_eq dX3_real_31 (by decide)
theorem e_X3_real_34 : ev X d 85 34 L st h = ev X d 85 35 L (.double 0 :: st) h := g_dconst dX3_real_34
theorem e_X3_real_35 : ev X d 85 35 L st h = ev X d 85 59 L st h := g_goto dX3_real_35 (by decide)
theorem e_X3_real_38 : ev X d 85 38 (some (va_rf r) :: L) st h = ev X d 85 39 (some (va_rf r) :: L) (va_rf r :: st) h := g_aload_n dX3_real_38 rfl
theorem e_X3_real_39 : ev X d 85 39 L (va_rf (some q) :: st) h = (I_getf X h q 3 7).bind (fun v => ev X d 85 42 L (v :: st) h) := g_get dX3_real_39 (by decide)
theorem e_X3_real_42 : ev X d 85 42 L st h = ev X d 85 44 L (.int 16 :: st) h := g_bipush dX3_real_42 (by decide)
theorem e_X3_real_44 : ev X d 85 44 (some (va_rf r) :: L) st h = ev X d 85 45 (some (va_rf r) :: L) (va_rf r :: st) h := g_aload_n dX3_real_44 rfl
theorem e_X3_real_45 : ev X d 85 45 L (va_rf (some q) :: st) h = (I_getf X h q 3 3).bind (fun v => ev X d 85 48 L (v :: st) h) := g_get dX3_real_45 (by decide)
theorem e_X3_real_48 : ev X d 85 48 L st h = ev X d 85 50 L (.int 12 :: st) h := g_bipush dX3_real_48 (by decide)
theorem e_X3_real_50 : ev X d 85 50 (x0 :: some (.int a) :: L) st h = ev X d 85 51 (x0 :: some (.int a) :: L) (.int a :: st) h := g_iload_n dX3_real_50 rfl
theorem e_X3_real_51 : ev X d 85 51 L (.int b :: .int a :: st) h = ev X d 85 52 L (.int (a * b) :: st) h := g_imul dX3_real_51
theorem e_X3_real_52 : ev X d 85 52 (x0 :: x1 :: some (.int a) :: L) st h = ev X d 85 53 (x0 :: x1 :: some (.int a) :: L) (.int a :: st) h := g_iload_n dX3_real_52 rfl
theorem e_X3_real_53 : ev X d 85 53 L (.int b :: .int a :: st) h = ev X d 85 54 L (.int (a + b) :: st) h := g_iadd dX3_real_53
theorem e_X3_real_54 : ev X d 85 54 L (.int i :: va_rf (some q) :: st) h = (I_aldi X h 0 q i).bind (fun v => ev X d 85 55 L (.int v :: st) h) := g_iald dX3_real_54 (by decide)
theorem e_X3_real_55 : ev X d 85 55 L (.int b :: .int a :: st) h = ev X d 85 56 L (.int (a * b) :: st) h := g_imul dX3_real_55
theorem e_X3_real_56 : ev X d 85 56 (x0 :: x1 :: x2 :: some (.int a) :: L) st h = ev X d 85 57 (x0 :: x1 :: x2 :: some (.int a) :: L) (.int a :: st) h := g_iload_n dX3_real_56 rfl
theorem e_X3_real_57 : ev X d 85 57 L (.int b :: .int a :: st) h = ev X d 85 58 L (.int (a + b) :: st) h := g_iadd dX3_real_57
theorem e_X3_real_58 : ev X d 85 58 L (.int i :: va_rf (some q) :: st) h = (I_aldd X h q i).bind (fun v => ev X d 85 59 L (.double v :: st) h) := g_dald dX3_real_58
theorem e_X3_real_59 (hx : I_c2 x4 = false) : ev X d 85 59 (x0 :: x1 :: x2 :: x3 :: x4 :: x5 :: x6 :: L) (.double w :: st) h = ev X d 85 61 (x0 :: x1 :: x2 :: x3 :: x4 :: some (.double w) :: none :: L) st h := g_dstore dX3_real_59 (I_st2_5 hx)
theorem e_X3_real_61 : ev X d 85 61 (x0 :: x1 :: x2 :: x3 :: x4 :: some (.double w) :: L) st h = ev X d 85 63 (x0 :: x1 :: x2 :: x3 :: x4 :: some (.double w) :: L) (.double w :: st) h := g_dload dX3_real_61 rfl
theorem e_X3_real_63 : ev X d 85 63 (x0 :: x1 :: x2 :: x3 :: x4 :: some (.double w) :: L) st h = ev X d 85 65 (x0 :: x1 :: x2 :: x3 :: x4 :: some (.double w) :: L) (.double w :: st) h := g_dload dX3_real_63 rfl
theorem e_X3_real_65 : ev X d 85 65 L (.double w2 :: .double w1 :: st) h = ev X d 85 66 L (.int (Op.cmpValue (FP.dcmp w1 w2) .l) :: st) h := g_dcmp dX3_real_65
theorem e_X3_real_66 : ev X d 85 66 L (.int a :: st) h = if a = 0 then ev X d 85 73 L st h else ev X d 85 69 L st h := g_if_eq dX3_real_66 (by decide)
theorem e_X3_real_69 : ev X d 85 69 L st h = ev X d 85 70 L (.double 0 :: st) h := g_dconst dX3_real_69
theorem e_X3_real_70 : ev X d 85 70 L st h = ev X d 85 75 L st h := g_goto dX3_real_70 (by decide)
theorem e_X3_real_73 : ev X d 85 73 (x0 :: x1 :: x2 :: x3 :: x4 :: some (.double w) :: L) st h = ev X d 85 75 (x0 :: x1 :: x2 :: x3 :: x4 :: some (.double w) :: L) (.double w :: st) h := g_dload dX3_real_73 rfl
theorem e_X3_real_75 : ev X d 85 75 L [.double w] h = some (some (.double w), h) := g_dret dX3_real_75 rfl
theorem e_X3_told_0 : ev X d 86 0 (some (va_rf r) :: L) st h = ev X d 86 1 (some (va_rf r) :: L) (va_rf r :: st) h := g_aload_n dX3_told_0 rfl
theorem e_X3_told_1 : ev X d 86 1 (x0 :: some (.int a) :: L) st h = ev X d 86 2 (x0 :: some (.int a) :: L) (.int a :: st) h := g_iload_n dX3_told_1 rfl
theorem e_X3_told_2 (hc : I_isC X h q 3 = true) (hs : I_cat st ≤ 8) : ev X (d + 1) 86 2 L (.int a1 :: va_rf (some q) :: st) h = (ev X d 71 0 [some (va_rf (some q)), some (.int a1)] [] h).bind (fun r => ev X (d + 1) 86 5 L (r.1.toList ++ st) r.2) := g_callV (as := [.int a1]) dX3_told_2 (by decide) (by decide) I_np_71 rfl (by simp only [List.reverse_cons, List.reverse_nil, List.nil_append, List.cons_append, I_slots_n, I_slots_i, I_slots_d, I_slots_q, List.length_cons, List.length_nil]; decide) (by simp only [I_ent, List.reverse_cons, List.reverse_nil, List.nil_append, List.cons_append, I_slots_n, I_slots_i, I_slots_d, I_slots_q, List.length_cons, List.length_nil]; rfl) rfl hc hs
theorem e_X3_told_5 : ev X d 86 5 L (.int a :: st) h = if a = 0 then ev X d 86 8 L st h else ev X d 86 11 L st h := g_if_ne dX3_told_5 (by decide)
theorem e_X3_told_8 : ev X d 86 8 L st h = ev X d 86 10 L (.int (-1000001) :: st) h := g_ldc dX3_told_8 (by decide)
theorem e_X3_told_10 : ev X d 86 10 L [.int a] h = some (some (.int a), h) := g_iret dX3_told_10 rfl
theorem e_X3_told_11 : ev X d 86 11 (x0 :: x1 :: x2 :: some (.int a) :: L) st h = ev X d 86 12 (x0 :: x1 :: x2 :: some (.int a) :: L) (.int a :: st) h := g_iload_n dX3_told_11 rfl
theorem e_X3_told_12 : ev X d 86 12 L st h = ev X d 86 13 L (.int 0 :: st) h := g_iconst dX3_told_12 (by decide)
theorem e_X3_told_13 : ev X d 86 13 L st h = ev X d 86 14 L (.int 2 :: st) h := g_iconst dX3_told_13 (by decide)
theorem e_X3_told_14 (hs : I_cat st ≤ 8) : ev X (d + 1) 86 14 L (.int a3 :: .int a2 :: .int a1 :: st) h = (ev X d 69 0 [some (.int a1), some (.int a2), some (.int a3)] [] h).bind (fun r => ev X (d + 1) 86 17 L (r.1.toList ++ st) r.2) := g_callS (as := [.int a3, .int a2, .int a1]) dX3_told_14 (by decide) (by decide) I_np_69 rfl (by simp only [List.reverse_cons, List.reverse_nil, List.nil_append, List.cons_append, I_slots_n, I_slots_i, I_slots_d, I_slots_q, List.length_cons, List.length_nil]; decide) (by simp only [I_ent, List.reverse_cons, List.reverse_nil, List.nil_append, List.cons_append, I_slots_n, I_slots_i, I_slots_d, I_slots_q, List.length_cons, List.length_nil]; rfl) rfl hs
theorem e_X3_told_17 : ev X d 86 17 L (.int a :: st) h = if a = 0 then ev X d 86 20 L st h else ev X d 86 23 L st h := g_if_ne dX3_told_17 (by decide)
theorem e_X3_told_20 : ev X d 86 20 L st h = ev X d 86 22 L (.int (-1000002) :: st) h := g_ldc dX3_told_20 (by decide)
theorem e_X3_told_22 : ev X d 86 22 L [.int a] h = some (some (.int a), h) := g_iret dX3_told_22 rfl
theorem e_X3_told_23 : ev X d 86 23 (x0 :: x1 :: x2 :: some (.int a) :: L) st h = ev X d 86 24 (x0 :: x1 :: x2 :: some (.int a) :: L) (.int a :: st) h := g_iload_n dX3_told_23 rfl
theorem e_X3_told_24 : ev X d 86 24 L st h = ev X d 86 25 L (.int 2 :: st) h := g_iconst dX3_told_24 (by decide)
theorem e_X3_told_25 : ev X d 86 25 L (.int b :: .int a :: st) h = if b ≤ a then ev X d 86 48 L st h else ev X d 86 28 L st h := g_icmp_ge dX3_told_25 (by decide)
theorem e_X3_told_28 : ev X d 86 28 (x0 :: x1 :: x2 :: some (.int a) :: L) st h = ev X d 86 29 (x0 :: x1 :: x2 :: some (.int a) :: L) (.int a :: st) h := g_iload_n dX3_told_28 rfl
theorem e_X3_told_29 : ev X d 86 29 L (.int a :: st) h = if a = 0 then ev X d 86 32 L st h else ev X d 86 41 L st h := g_if_ne dX3_told_29 (by decide)
theorem e_X3_told_32 : ev X d 86 32 (some (va_rf r) :: L) st h = ev X d 86 33 (some (va_rf r) :: L) (va_rf r :: st) h := g_aload_n dX3_told_32 rfl
theorem e_X3_told_33 : ev X d 86 33 L (va_rf (some q) :: st) h = (I_getf X h q 3 1).bind (fun v => ev X d 86 36 L (v :: st) h) := g_get dX3_told_33 (by decide)
theorem e_X3_told_36 : ev X d 86 36 (x0 :: some (.int a) :: L) st h = ev X d 86 37 (x0 :: some (.int a) :: L) (.int a :: st) h := g_iload_n dX3_told_36 rfl
theorem e_X3_told_37 : ev X d 86 37 L (.int i :: va_rf (some q) :: st) h = (I_aldi X h 0 q i).bind (fun v => ev X d 86 38 L (.int v :: st) h) := g_iald dX3_told_37 (by decide)
theorem e_X3_told_38 : ev X d 86 38 L st h = ev X d 86 47 L st h := g_goto dX3_told_38 (by decide)
theorem e_X3_told_41 : ev X d 86 41 (some (va_rf r) :: L) st h = ev X d 86 42 (some (va_rf r) :: L) (va_rf r :: st) h := g_aload_n dX3_told_41 rfl
theorem e_X3_told_42 : ev X d 86 42 L (va_rf (some q) :: st) h = (I_getf X h q 3 2).bind (fun v => ev X d 86 45 L (v :: st) h) := g_get dX3_told_42 (by decide)
theorem e_X3_told_45 : ev X d 86 45 (x0 :: some (.int a) :: L) st h = ev X d 86 46 (x0 :: some (.int a) :: L) (.int a :: st) h := g_iload_n dX3_told_45 rfl
theorem e_X3_told_46 : ev X d 86 46 L (.int i :: va_rf (some q) :: st) h = (I_aldi X h 0 q i).bind (fun v => ev X d 86 47 L (.int v :: st) h) := g_iald dX3_told_46 (by decide)
theorem e_X3_told_47 : ev X d 86 47 L [.int a] h = some (some (.int a), h) := g_iret dX3_told_47 rfl
theorem e_X3_told_48 : ev X d 86 48 (some (va_rf r) :: L) st h = ev X d 86 49 (some (va_rf r) :: L) (va_rf r :: st) h := g_aload_n dX3_told_48 rfl
theorem e_X3_told_49 : ev X d 86 49 (x0 :: some (.int a) :: L) st h = ev X d 86 50 (x0 :: some (.int a) :: L) (.int a :: st) h := g_iload_n dX3_told_49 rfl
theorem e_X3_told_50 : ev X d 86 50 (x0 :: x1 :: some (.int a) :: L) st h = ev X d 86 51 (x0 :: x1 :: some (.int a) :: L) (.int a :: st) h := g_iload_n dX3_told_50 rfl
theorem e_X3_told_51 (hc : I_isC X h q 3 = true) (hs : I_cat st ≤ 8) : ev X (d + 1) 86 51 L (.int a2 :: .int a1 :: va_rf (some q) :: st) h = (ev X d 76 0 [some (va_rf (some q)), some (.int a1), some (.int a2)] [] h).bind (fun r => ev X (d + 1) 86 54 L (r.1.toList ++ st) r.2) := g_callV (as := [.int a2, .int a1]) dX3_told_51 (by decide) (by decide) I_np_76 rfl (by simp only [List.reverse_cons, List.reverse_nil, List.nil_append, List.cons_append, I_slots_n, I_slots_i, I_slots_d, I_slots_q, List.length_cons, List.length_nil]; decide) (by simp only [I_ent, List.reverse_cons, List.reverse_nil, List.nil_append, List.cons_append, I_slots_n, I_slots_i, I_slots_d, I_slots_q, List.length_cons, List.length_nil]; rfl) rfl hc hs
theorem e_X3_told_54 : ev X d 86 54 L (.int a :: st) h = if a = 0 then ev X d 86 57 L st h else ev X d 86 63 L st h := g_if_ne dX3_told_54 (by decide)
theorem e_X3_told_57 : ev X d 86 57 (some (va_rf r) :: L) st h = ev X d 86 58 (some (va_rf r) :: L) (va_rf r :: st) h := g_aload_n dX3_told_57 rfl
theorem e_X3_told_58 : ev X d 86 58 L st h = ev X d 86 59 L (.int 2 :: st) h := g_iconst dX3_told_58 (by decide)
theorem e_X3_told_59 (hc : I_isC X h q 3 = true) (hs : I_cat st ≤ 8) : ev X (d + 1) 86 59 L (.int a1 :: va_rf (some q) :: st) h = (ev X d 70 0 [some (va_rf (some q)), some (.int a1)] [] h).bind (fun r => ev X (d + 1) 86 62 L (r.1.toList ++ st) r.2) := g_callV (as := [.int a1]) dX3_told_59 (by decide) (by decide) I_np_70 rfl (by simp only [List.reverse_cons, List.reverse_nil, List.nil_append, List.cons_append, I_slots_n, I_slots_i, I_slots_d, I_slots_q, List.length_cons, List.length_nil]; decide) (by simp only [I_ent, List.reverse_cons, List.reverse_nil, List.nil_append, List.cons_append, I_slots_n, I_slots_i, I_slots_d, I_slots_q, List.length_cons, List.length_nil]; rfl) rfl hc hs
theorem e_X3_told_62 : ev X d 86 62 L [.int a] h = some (some (.int a), h) := g_iret dX3_told_62 rfl
theorem e_X3_told_63 : ev X d 86 63 (some (va_rf r) :: L) st h = ev X d 86 64 (some (va_rf r) :: L) (va_rf r :: st) h := g_aload_n dX3_told_63 rfl
theorem e_X3_told_64 : ev X d 86 64 L (va_rf (some q) :: st) h = (I_getf X h q 3 3).bind (fun v => ev X d 86 67 L (v :: st) h) := g_get dX3_told_64 (by decide)
theorem e_X3_told_67 : ev X d 86 67 L st h = ev X d 86 69 L (.int 12 :: st) h := g_bipush dX3_told_67 (by decide)
theorem e_X3_told_69 : ev X d 86 69 (x0 :: some (.int a) :: L) st h = ev X d 86 70 (x0 :: some (.int a) :: L) (.int a :: st) h := g_iload_n dX3_told_69 rfl
theorem e_X3_told_70 : ev X d 86 70 L (.int b :: .int a :: st) h = ev X d 86 71 L (.int (a * b) :: st) h := g_imul dX3_told_70
theorem e_X3_told_71 : ev X d 86 71 (x0 :: x1 :: some (.int a) :: L) st h = ev X d 86 72 (x0 :: x1 :: some (.int a) :: L) (.int a :: st) h := g_iload_n dX3_told_71 rfl
theorem e_X3_told_72 : ev X d 86 72 L (.int b :: .int a :: st) h = ev X d 86 73 L (.int (a + b) :: st) h := g_iadd dX3_told_72
theorem e_X3_told_73 : ev X d 86 73 L (.int i :: va_rf (some q) :: st) h = (I_aldi X h 0 q i).bind (fun v => ev X d 86 74 L (.int v :: st) h) := g_iald dX3_told_73 (by decide)
theorem e_X3_told_74 (hx : I_c2 x3 = false) : ev X d 86 74 (x0 :: x1 :: x2 :: x3 :: x4 :: L) (.int a :: st) h = ev X d 86 76 (x0 :: x1 :: x2 :: x3 :: some (.int a) :: L) st h := g_istore dX3_told_74 (I_st1_4 hx)
theorem e_X3_told_76 : ev X d 86 76 (x0 :: x1 :: x2 :: x3 :: some (.int a) :: L) st h = ev X d 86 78 (x0 :: x1 :: x2 :: x3 :: some (.int a) :: L) (.int a :: st) h := g_iload dX3_told_76 rfl
theorem e_X3_told_78 : ev X d 86 78 L (.int a :: st) h = if 0 ≤ a then ev X d 86 89 L st h else ev X d 86 81 L st h := g_if_ge dX3_told_78 (by decide)
theorem e_X3_told_81 : ev X d 86 81 (some (va_rf r) :: L) st h = ev X d 86 82 (some (va_rf r) :: L) (va_rf r :: st) h := g_aload_n dX3_told_81 rfl
theorem e_X3_told_82 : ev X d 86 82 L st h = ev X d 86 83 L (.int 1 :: st) h := g_iconst dX3_told_82 (by decide)
theorem e_X3_told_83 (hc : I_isC X h q 3 = true) (hs : I_cat st ≤ 8) : ev X (d + 1) 86 83 L (.int a1 :: va_rf (some q) :: st) h = (ev X d 70 0 [some (va_rf (some q)), some (.int a1)] [] h).bind (fun r => ev X (d + 1) 86 86 L (r.1.toList ++ st) r.2) := g_callV (as := [.int a1]) dX3_told_83 (by decide) (by decide) I_np_70 rfl (by simp only [List.reverse_cons, List.reverse_nil, List.nil_append, List.cons_append, I_slots_n, I_slots_i, I_slots_d, I_slots_q, List.length_cons, List.length_nil]; decide) (by simp only [I_ent, List.reverse_cons, List.reverse_nil, List.nil_append, List.cons_append, I_slots_n, I_slots_i, I_slots_d, I_slots_q, List.length_cons, List.length_nil]; rfl) rfl hc hs
theorem e_X3_told_86 : ev X d 86 86 L st h = ev X d 86 96 L st h := g_goto dX3_told_86 (by decide)
theorem e_X3_told_89 : ev X d 86 89 (some (va_rf r) :: L) st h = ev X d 86 90 (some (va_rf r) :: L) (va_rf r :: st) h := g_aload_n dX3_told_89 rfl
theorem e_X3_told_90 : ev X d 86 90 L (va_rf (some q) :: st) h = (I_getf X h q 3 5).bind (fun v => ev X d 86 93 L (v :: st) h) := g_get dX3_told_90 (by decide)
theorem e_X3_told_93 : ev X d 86 93 (x0 :: x1 :: x2 :: x3 :: some (.int a) :: L) st h = ev X d 86 95 (x0 :: x1 :: x2 :: x3 :: some (.int a) :: L) (.int a :: st) h := g_iload dX3_told_93 rfl
theorem e_X3_told_95 : ev X d 86 95 L (.int i :: va_rf (some q) :: st) h = (I_aldi X h 0 q i).bind (fun v => ev X d 86 96 L (.int v :: st) h) := g_iald dX3_told_95 (by decide)
theorem e_X3_told_96 : ev X d 86 96 L [.int a] h = some (some (.int a), h) := g_iret dX3_told_96 rfl
theorem e_X3_firstOdd_0 : ev X d 87 0 L st h = ev X d 87 1 L (.int 0 :: st) h := g_iconst dX3_firstOdd_0 (by decide)
theorem e_X3_firstOdd_1 (hx : I_c2 x1 = false) : ev X d 87 1 (x0 :: x1 :: x2 :: L) (.int a :: st) h = ev X d 87 2 (x0 :: x1 :: some (.int a) :: L) st h := g_istore_n dX3_firstOdd_1 (I_st1_2 hx)
theorem e_X3_firstOdd_2 : ev X d 87 2 (x0 :: x1 :: some (.int a) :: L) st h = ev X d 87 3 (x0 :: x1 :: some (.int a) :: L) (.int a :: st) h := g_iload_n dX3_firstOdd_2 rfl
theorem e_X3_firstOdd_3 : ev X d 87 3 (some (va_rf r) :: L) st h = ev X d 87 4 (some (va_rf r) :: L) (va_rf r :: st) h := g_aload_n dX3_firstOdd_3 rfl
theorem e_X3_firstOdd_4 : ev X d 87 4 L (va_rf (some q) :: st) h = (I_getf X h q 3 2).bind (fun v => ev X d 87 7 L (v :: st) h) := g_get dX3_firstOdd_4 (by decide)
theorem e_X3_firstOdd_7 : ev X d 87 7 (x0 :: some (.int a) :: L) st h = ev X d 87 8 (x0 :: some (.int a) :: L) (.int a :: st) h := g_iload_n dX3_firstOdd_7 rfl
theorem e_X3_firstOdd_8 : ev X d 87 8 L (.int i :: va_rf (some q) :: st) h = (I_aldi X h 0 q i).bind (fun v => ev X d 87 9 L (.int v :: st) h) := g_iald dX3_firstOdd_8 (by decide)
theorem e_X3_firstOdd_9 : ev X d 87 9 L (.int b :: .int a :: st) h = if b ≤ a then ev X d 87 51 L st h else ev X d 87 12 L st h := g_icmp_ge dX3_firstOdd_9 (by decide)
theorem e_X3_firstOdd_12 : ev X d 87 12 (some (va_rf r) :: L) st h = ev X d 87 13 (some (va_rf r) :: L) (va_rf r :: st) h := g_aload_n dX3_firstOdd_12 rfl
theorem e_X3_firstOdd_13 : ev X d 87 13 L (va_rf (some q) :: st) h = (I_getf X h q 3 3).bind (fun v => ev X d 87 16 L (v :: st) h) := g_get dX3_firstOdd_13 (by decide)
theorem e_X3_firstOdd_16 : ev X d 87 16 L st h = ev X d 87 18 L (.int 12 :: st) h := g_bipush dX3_firstOdd_16 (by decide)
theorem e_X3_firstOdd_18 : ev X d 87 18 (x0 :: some (.int a) :: L) st h = ev X d 87 19 (x0 :: some (.int a) :: L) (.int a :: st) h := g_iload_n dX3_firstOdd_18 rfl
theorem e_X3_firstOdd_19 : ev X d 87 19 L (.int b :: .int a :: st) h = ev X d 87 20 L (.int (a * b) :: st) h := g_imul dX3_firstOdd_19
theorem e_X3_firstOdd_20 : ev X d 87 20 (x0 :: x1 :: some (.int a) :: L) st h = ev X d 87 21 (x0 :: x1 :: some (.int a) :: L) (.int a :: st) h := g_iload_n dX3_firstOdd_20 rfl
theorem e_X3_firstOdd_21 : ev X d 87 21 L (.int b :: .int a :: st) h = ev X d 87 22 L (.int (a + b) :: st) h := g_iadd dX3_firstOdd_21
theorem e_X3_firstOdd_22 : ev X d 87 22 L (.int i :: va_rf (some q) :: st) h = (I_aldi X h 0 q i).bind (fun v => ev X d 87 23 L (.int v :: st) h) := g_iald dX3_firstOdd_22 (by decide)
theorem e_X3_firstOdd_23 (hx : I_c2 x2 = false) : ev X d 87 23 (x0 :: x1 :: x2 :: x3 :: L) (.int a :: st) h = ev X d 87 24 (x0 :: x1 :: x2 :: some (.int a) :: L) st h := g_istore_n dX3_firstOdd_23 (I_st1_3 hx)
theorem e_X3_firstOdd_24 : ev X d 87 24 (x0 :: x1 :: x2 :: some (.int a) :: L) st h = ev X d 87 25 (x0 :: x1 :: x2 :: some (.int a) :: L) (.int a :: st) h := g_iload_n dX3_firstOdd_24 rfl
theorem e_X3_firstOdd_25 : ev X d 87 25 L (.int a :: st) h = if a < 0 then ev X d 87 43 L st h else ev X d 87 28 L st h := g_if_lt dX3_firstOdd_25 (by decide)
theorem e_X3_firstOdd_28 : ev X d 87 28 (some (va_rf r) :: L) st h = ev X d 87 29 (some (va_rf r) :: L) (va_rf r :: st) h := g_aload_n dX3_firstOdd_28 rfl
theorem e_X3_firstOdd_29 : ev X d 87 29 L (va_rf (some q) :: st) h = (I_getf X h q 3 5).bind (fun v => ev X d 87 32 L (v :: st) h) := g_get dX3_firstOdd_29 (by decide)
theorem e_X3_firstOdd_32 : ev X d 87 32 (x0 :: x1 :: x2 :: some (.int a) :: L) st h = ev X d 87 33 (x0 :: x1 :: x2 :: some (.int a) :: L) (.int a :: st) h := g_iload_n dX3_firstOdd_32 rfl
theorem e_X3_firstOdd_33 : ev X d 87 33 L (.int i :: va_rf (some q) :: st) h = (I_aldi X h 0 q i).bind (fun v => ev X d 87 34 L (.int v :: st) h) := g_iald dX3_firstOdd_33 (by decide)
theorem e_X3_firstOdd_34 : ev X d 87 34 (some (va_rf r) :: L) st h = ev X d 87 35 (some (va_rf r) :: L) (va_rf r :: st) h := g_aload_n dX3_firstOdd_34 rfl
theorem e_X3_firstOdd_35 : ev X d 87 35 L (va_rf (some q) :: st) h = (I_getf X h q 3 2).bind (fun v => ev X d 87 38 L (v :: st) h) := g_get dX3_firstOdd_35 (by decide)
theorem e_X3_firstOdd_38 : ev X d 87 38 (x0 :: some (.int a) :: L) st h = ev X d 87 39 (x0 :: some (.int a) :: L) (.int a :: st) h := g_iload_n dX3_firstOdd_38 rfl
theorem e_X3_firstOdd_39 : ev X d 87 39 L (.int i :: va_rf (some q) :: st) h = (I_aldi X h 0 q i).bind (fun v => ev X d 87 40 L (.int v :: st) h) := g_iald dX3_firstOdd_39 (by decide)
theorem e_X3_firstOdd_40 : ev X d 87 40 L (.int b :: .int a :: st) h = if a = b then ev X d 87 45 L st h else ev X d 87 43 L st h := g_icmp_eq dX3_firstOdd_40 (by decide)
theorem e_X3_firstOdd_43 : ev X d 87 43 (x0 :: x1 :: some (.int a) :: L) st h = ev X d 87 44 (x0 :: x1 :: some (.int a) :: L) (.int a :: st) h := g_iload_n dX3_firstOdd_43 rfl
theorem e_X3_firstOdd_44 : ev X d 87 44 L [.int a] h = some (some (.int a), h) := g_iret dX3_firstOdd_44 rfl
theorem e_X3_firstOdd_45 (hx : I_c2 x1 = false) : ev X d 87 45 (x0 :: x1 :: some (.int a) :: L) st h = ev X d 87 48 (x0 :: x1 :: some (.int (a + 1)) :: L) st h := g_iinc dX3_firstOdd_45 (by decide) rfl (I_st1_2 hx)
theorem e_X3_firstOdd_48 : ev X d 87 48 L st h = ev X d 87 2 L st h := g_goto dX3_firstOdd_48 (by decide)
theorem e_X3_firstOdd_51 : ev X d 87 51 L st h = ev X d 87 53 L (.int (-1000009) :: st) h := g_ldc dX3_firstOdd_51 (by decide)
theorem e_X3_firstOdd_53 : ev X d 87 53 L [.int a] h = some (some (.int a), h) := g_iret dX3_firstOdd_53 rfl
theorem e_X3_odd_0 : ev X d 88 0 (some (va_rf r) :: L) st h = ev X d 88 1 (some (va_rf r) :: L) (va_rf r :: st) h := g_aload_n dX3_odd_0 rfl
theorem e_X3_odd_1 : ev X d 88 1 (x0 :: some (.int a) :: L) st h = ev X d 88 2 (x0 :: some (.int a) :: L) (.int a :: st) h := g_iload_n dX3_odd_1 rfl
theorem e_X3_odd_2 (hc : I_isC X h q 3 = true) (hs : I_cat st ≤ 8) : ev X (d + 1) 88 2 L (.int a1 :: va_rf (some q) :: st) h = (ev X d 71 0 [some (va_rf (some q)), some (.int a1)] [] h).bind (fun r => ev X (d + 1) 88 5 L (r.1.toList ++ st) r.2) := g_callV (as := [.int a1]) dX3_odd_2 (by decide) (by decide) I_np_71 rfl (by simp only [List.reverse_cons, List.reverse_nil, List.nil_append, List.cons_append, I_slots_n, I_slots_i, I_slots_d, I_slots_q, List.length_cons, List.length_nil]; decide) (by simp only [I_ent, List.reverse_cons, List.reverse_nil, List.nil_append, List.cons_append, I_slots_n, I_slots_i, I_slots_d, I_slots_q, List.length_cons, List.length_nil]; rfl) rfl hc hs
theorem e_X3_odd_5 : ev X d 88 5 L (.int a :: st) h = if a = 0 then ev X d 88 16 L st h else ev X d 88 8 L st h := g_if_eq dX3_odd_5 (by decide)
theorem e_X3_odd_8 : ev X d 88 8 (some (va_rf r) :: L) st h = ev X d 88 9 (some (va_rf r) :: L) (va_rf r :: st) h := g_aload_n dX3_odd_8 rfl
theorem e_X3_odd_9 : ev X d 88 9 (x0 :: some (.int a) :: L) st h = ev X d 88 10 (x0 :: some (.int a) :: L) (.int a :: st) h := g_iload_n dX3_odd_9 rfl
theorem e_X3_odd_10 (hc : I_isC X h q 3 = true) (hs : I_cat st ≤ 8) : ev X (d + 1) 88 10 L (.int a1 :: va_rf (some q) :: st) h = (ev X d 87 0 [some (va_rf (some q)), some (.int a1), none, none] [] h).bind (fun r => ev X (d + 1) 88 13 L (r.1.toList ++ st) r.2) := g_callV (as := [.int a1]) dX3_odd_10 (by decide) (by decide) I_np_87 rfl (by simp only [List.reverse_cons, List.reverse_nil, List.nil_append, List.cons_append, I_slots_n, I_slots_i, I_slots_d, I_slots_q, List.length_cons, List.length_nil]; decide) (by simp only [I_ent, List.reverse_cons, List.reverse_nil, List.nil_append, List.cons_append, I_slots_n, I_slots_i, I_slots_d, I_slots_q, List.length_cons, List.length_nil]; rfl) rfl hc hs
theorem e_X3_odd_13 : ev X d 88 13 L st h = ev X d 88 18 L st h := g_goto dX3_odd_13 (by decide)
theorem e_X3_odd_16 : ev X d 88 16 L st h = ev X d 88 18 L (.int (-1000001) :: st) h := g_ldc dX3_odd_16 (by decide)
theorem e_X3_odd_18 : ev X d 88 18 L [.int a] h = some (some (.int a), h) := g_iret dX3_odd_18 rfl
theorem e_X3_copy_0 : ev X d 89 0 (some (va_rf r) :: L) st h = ev X d 89 1 (some (va_rf r) :: L) (va_rf r :: st) h := g_aload_n dX3_copy_0 rfl
theorem e_X3_copy_1 : ev X d 89 1 (x0 :: some (.int a) :: L) st h = ev X d 89 2 (x0 :: some (.int a) :: L) (.int a :: st) h := g_iload_n dX3_copy_1 rfl
theorem e_X3_copy_2 (hc : I_isC X h q 3 = true) (hs : I_cat st ≤ 8) : ev X (d + 1) 89 2 L (.int a1 :: va_rf (some q) :: st) h = (ev X d 71 0 [some (va_rf (some q)), some (.int a1)] [] h).bind (fun r => ev X (d + 1) 89 5 L (r.1.toList ++ st) r.2) := g_callV (as := [.int a1]) dX3_copy_2 (by decide) (by decide) I_np_71 rfl (by simp only [List.reverse_cons, List.reverse_nil, List.nil_append, List.cons_append, I_slots_n, I_slots_i, I_slots_d, I_slots_q, List.length_cons, List.length_nil]; decide) (by simp only [I_ent, List.reverse_cons, List.reverse_nil, List.nil_append, List.cons_append, I_slots_n, I_slots_i, I_slots_d, I_slots_q, List.length_cons, List.length_nil]; rfl) rfl hc hs
theorem e_X3_copy_5 : ev X d 89 5 L (.int a :: st) h = if a = 0 then ev X d 89 17 L st h else ev X d 89 8 L st h := g_if_eq dX3_copy_5 (by decide)
theorem e_X3_copy_8 : ev X d 89 8 (some (va_rf r) :: L) st h = ev X d 89 9 (some (va_rf r) :: L) (va_rf r :: st) h := g_aload_n dX3_copy_8 rfl
theorem e_X3_copy_9 : ev X d 89 9 (x0 :: x1 :: x2 :: x3 :: some (.int a) :: L) st h = ev X d 89 11 (x0 :: x1 :: x2 :: x3 :: some (.int a) :: L) (.int a :: st) h := g_iload dX3_copy_9 rfl
theorem e_X3_copy_11 (hc : I_isC X h q 3 = true) (hs : I_cat st ≤ 8) : ev X (d + 1) 89 11 L (.int a1 :: va_rf (some q) :: st) h = (ev X d 71 0 [some (va_rf (some q)), some (.int a1)] [] h).bind (fun r => ev X (d + 1) 89 14 L (r.1.toList ++ st) r.2) := g_callV (as := [.int a1]) dX3_copy_11 (by decide) (by decide) I_np_71 rfl (by simp only [List.reverse_cons, List.reverse_nil, List.nil_append, List.cons_append, I_slots_n, I_slots_i, I_slots_d, I_slots_q, List.length_cons, List.length_nil]; decide) (by simp only [I_ent, List.reverse_cons, List.reverse_nil, List.nil_append, List.cons_append, I_slots_n, I_slots_i, I_slots_d, I_slots_q, List.length_cons, List.length_nil]; rfl) rfl hc hs
theorem e_X3_copy_14 : ev X d 89 14 L (.int a :: st) h = if a = 0 then ev X d 89 17 L st h else ev X d 89 20 L st h := g_if_ne dX3_copy_14 (by decide)
theorem e_X3_copy_17 : ev X d 89 17 L st h = ev X d 89 19 L (.int (-1000001) :: st) h := g_ldc dX3_copy_17 (by decide)
theorem e_X3_copy_19 : ev X d 89 19 L [.int a] h = some (some (.int a), h) := g_iret dX3_copy_19 rfl
theorem e_X3_copy_20 : ev X d 89 20 (some (va_rf r) :: L) st h = ev X d 89 21 (some (va_rf r) :: L) (va_rf r :: st) h := g_aload_n dX3_copy_20 rfl
theorem e_X3_copy_21 : ev X d 89 21 (x0 :: some (.int a) :: L) st h = ev X d 89 22 (x0 :: some (.int a) :: L) (.int a :: st) h := g_iload_n dX3_copy_21 rfl
theorem e_X3_copy_22 : ev X d 89 22 (x0 :: x1 :: some (.int a) :: L) st h = ev X d 89 23 (x0 :: x1 :: some (.int a) :: L) (.int a :: st) h := g_iload_n dX3_copy_22 rfl
theorem e_X3_copy_23 (hc : I_isC X h q 3 = true) (hs : I_cat st ≤ 8) : ev X (d + 1) 89 23 L (.int a2 :: .int a1 :: va_rf (some q) :: st) h = (ev X d 76 0 [some (va_rf (some q)), some (.int a1), some (.int a2)] [] h).bind (fun r => ev X (d + 1) 89 26 L (r.1.toList ++ st) r.2) := g_callV (as := [.int a2, .int a1]) dX3_copy_23 (by decide) (by decide) I_np_76 rfl (by simp only [List.reverse_cons, List.reverse_nil, List.nil_append, List.cons_append, I_slots_n, I_slots_i, I_slots_d, I_slots_q, List.length_cons, List.length_nil]; decide) (by simp only [I_ent, List.reverse_cons, List.reverse_nil, List.nil_append, List.cons_append, I_slots_n, I_slots_i, I_slots_d, I_slots_q, List.length_cons, List.length_nil]; rfl) rfl hc hs
theorem e_X3_copy_26 : ev X d 89 26 L (.int a :: st) h = if a = 0 then ev X d 89 40 L st h else ev X d 89 29 L st h := g_if_eq dX3_copy_26 (by decide)
theorem e_X3_copy_29 : ev X d 89 29 (some (va_rf r) :: L) st h = ev X d 89 30 (some (va_rf r) :: L) (va_rf r :: st) h := g_aload_n dX3_copy_29 rfl
theorem e_X3_copy_30 : ev X d 89 30 (x0 :: x1 :: x2 :: x3 :: some (.int a) :: L) st h = ev X d 89 32 (x0 :: x1 :: x2 :: x3 :: some (.int a) :: L) (.int a :: st) h := g_iload dX3_copy_30 rfl
theorem e_X3_copy_32 : ev X d 89 32 (x0 :: x1 :: x2 :: x3 :: x4 :: some (.int a) :: L) st h = ev X d 89 34 (x0 :: x1 :: x2 :: x3 :: x4 :: some (.int a) :: L) (.int a :: st) h := g_iload dX3_copy_32 rfl
theorem e_X3_copy_34 (hc : I_isC X h q 3 = true) (hs : I_cat st ≤ 8) : ev X (d + 1) 89 34 L (.int a2 :: .int a1 :: va_rf (some q) :: st) h = (ev X d 76 0 [some (va_rf (some q)), some (.int a1), some (.int a2)] [] h).bind (fun r => ev X (d + 1) 89 37 L (r.1.toList ++ st) r.2) := g_callV (as := [.int a2, .int a1]) dX3_copy_34 (by decide) (by decide) I_np_76 rfl (by simp only [List.reverse_cons, List.reverse_nil, List.nil_append, List.cons_append, I_slots_n, I_slots_i, I_slots_d, I_slots_q, List.length_cons, List.length_nil]; decide) (by simp only [I_ent, List.reverse_cons, List.reverse_nil, List.nil_append, List.cons_append, I_slots_n, I_slots_i, I_slots_d, I_slots_q, List.length_cons, List.length_nil]; rfl) rfl hc hs
theorem e_X3_copy_37 : ev X d 89 37 L (.int a :: st) h = if a = 0 then ev X d 89 40 L st h else ev X d 89 46 L st h := g_if_ne dX3_copy_37 (by decide)
theorem e_X3_copy_40 : ev X d 89 40 (some (va_rf r) :: L) st h = ev X d 89 41 (some (va_rf r) :: L) (va_rf r :: st) h := g_aload_n dX3_copy_40 rfl
theorem e_X3_copy_41 : ev X d 89 41 L st h = ev X d 89 42 L (.int 2 :: st) h := g_iconst dX3_copy_41 (by decide)
theorem e_X3_copy_42 (hc : I_isC X h q 3 = true) (hs : I_cat st ≤ 8) : ev X (d + 1) 89 42 L (.int a1 :: va_rf (some q) :: st) h = (ev X d 70 0 [some (va_rf (some q)), some (.int a1)] [] h).bind (fun r => ev X (d + 1) 89 45 L (r.1.toList ++ st) r.2) := g_callV (as := [.int a1]) dX3_copy_42 (by decide) (by decide) I_np_70 rfl (by simp only [List.reverse_cons, List.reverse_nil, List.nil_append, List.cons_append, I_slots_n, I_slots_i, I_slots_d, I_slots_q, List.length_cons, List.length_nil]; decide) (by simp only [I_ent, List.reverse_cons, List.reverse_nil, List.nil_append, List.cons_append, I_slots_n, I_slots_i, I_slots_d, I_slots_q, List.length_cons, List.length_nil]; rfl) rfl hc hs
theorem e_X3_copy_45 : ev X d 89 45 L [.int a] h = some (some (.int a), h) := g_iret dX3_copy_45 rfl
theorem e_X3_copy_46 : ev X d 89 46 (some (va_rf r) :: L) st h = ev X d 89 47 (some (va_rf r) :: L) (va_rf r :: st) h := g_aload_n dX3_copy_46 rfl
theorem e_X3_copy_47 : ev X d 89 47 L (va_rf (some q) :: st) h = (I_getf X h q 3 3).bind (fun v => ev X d 89 50 L (v :: st) h) := g_get dX3_copy_47 (by decide)
theorem e_X3_copy_50 : ev X d 89 50 L st h = ev X d 89 52 L (.int 12 :: st) h := g_bipush dX3_copy_50 (by decide)
theorem e_X3_copy_52 : ev X d 89 52 (x0 :: some (.int a) :: L) st h = ev X d 89 53 (x0 :: some (.int a) :: L) (.int a :: st) h := g_iload_n dX3_copy_52 rfl
theorem e_X3_copy_53 : ev X d 89 53 L (.int b :: .int a :: st) h = ev X d 89 54 L (.int (a * b) :: st) h := g_imul dX3_copy_53
theorem e_X3_copy_54 : ev X d 89 54 (x0 :: x1 :: some (.int a) :: L) st h = ev X d 89 55 (x0 :: x1 :: some (.int a) :: L) (.int a :: st) h := g_iload_n dX3_copy_54 rfl
theorem e_X3_copy_55 : ev X d 89 55 L (.int b :: .int a :: st) h = ev X d 89 56 L (.int (a + b) :: st) h := g_iadd dX3_copy_55
theorem e_X3_copy_56 : ev X d 89 56 L (.int i :: va_rf (some q) :: st) h = (I_aldi X h 0 q i).bind (fun v => ev X d 89 57 L (.int v :: st) h) := g_iald dX3_copy_56 (by decide)
theorem e_X3_copy_57 (hx : I_c2 x7 = false) : ev X d 89 57 (x0 :: x1 :: x2 :: x3 :: x4 :: x5 :: x6 :: x7 :: x8 :: L) (.int a :: st) h = ev X d 89 59 (x0 :: x1 :: x2 :: x3 :: x4 :: x5 :: x6 :: x7 :: some (.int a) :: L) st h := g_istore dX3_copy_57 (I_st1_8 hx)
theorem e_X3_copy_59 : ev X d 89 59 (some (va_rf r) :: L) st h = ev X d 89 60 (some (va_rf r) :: L) (va_rf r :: st) h := g_aload_n dX3_copy_59 rfl
theorem e_X3_copy_60 : ev X d 89 60 L (va_rf (some q) :: st) h = (I_getf X h q 3 3).bind (fun v => ev X d 89 63 L (v :: st) h) := g_get dX3_copy_60 (by decide)
theorem e_X3_copy_63 : ev X d 89 63 L st h = ev X d 89 65 L (.int 12 :: st) h := g_bipush dX3_copy_63 (by decide)
theorem e_X3_copy_65 : ev X d 89 65 (x0 :: x1 :: x2 :: x3 :: some (.int a) :: L) st h = ev X d 89 67 (x0 :: x1 :: x2 :: x3 :: some (.int a) :: L) (.int a :: st) h := g_iload dX3_copy_65 rfl
theorem e_X3_copy_67 : ev X d 89 67 L (.int b :: .int a :: st) h = ev X d 89 68 L (.int (a * b) :: st) h := g_imul dX3_copy_67
theorem e_X3_copy_68 : ev X d 89 68 (x0 :: x1 :: x2 :: x3 :: x4 :: some (.int a) :: L) st h = ev X d 89 70 (x0 :: x1 :: x2 :: x3 :: x4 :: some (.int a) :: L) (.int a :: st) h := g_iload dX3_copy_68 rfl
theorem e_X3_copy_70 : ev X d 89 70 L (.int b :: .int a :: st) h = ev X d 89 71 L (.int (a + b) :: st) h := g_iadd dX3_copy_70
theorem e_X3_copy_71 : ev X d 89 71 L (.int i :: va_rf (some q) :: st) h = (I_aldi X h 0 q i).bind (fun v => ev X d 89 72 L (.int v :: st) h) := g_iald dX3_copy_71 (by decide)
theorem e_X3_copy_72 (hx : I_c2 x8 = false) : ev X d 89 72 (x0 :: x1 :: x2 :: x3 :: x4 :: x5 :: x6 :: x7 :: x8 :: x9 :: L) (.int a :: st) h = ev X d 89 74 (x0 :: x1 :: x2 :: x3 :: x4 :: x5 :: x6 :: x7 :: x8 :: some (.int a) :: L) st h := g_istore dX3_copy_72 (I_st1_9 hx)
theorem e_X3_copy_74 : ev X d 89 74 (x0 :: x1 :: x2 :: x3 :: x4 :: x5 :: x6 :: x7 :: some (.int a) :: L) st h = ev X d 89 76 (x0 :: x1 :: x2 :: x3 :: x4 :: x5 :: x6 :: x7 :: some (.int a) :: L) (.int a :: st) h := g_iload dX3_copy_74 rfl
theorem e_X3_copy_76 : ev X d 89 76 L (.int a :: st) h = if a < 0 then ev X d 89 84 L st h else ev X d 89 79 L st h := g_if_lt dX3_copy_76 (by decide)
theorem e_X3_copy_79 : ev X d 89 79 (x0 :: x1 :: x2 :: x3 :: x4 :: x5 :: x6 :: x7 :: x8 :: some (.int a) :: L) st h = ev X d 89 81 (x0 :: x1 :: x2 :: x3 :: x4 :: x5 :: x6 :: x7 :: x8 :: some (.int a) :: L) (.int a :: st) h := g_iload dX3_copy_79 rfl
theorem e_X3_copy_81 : ev X d 89 81 L (.int a :: st) h = if 0 ≤ a then ev X d 89 90 L st h else ev X d 89 84 L st h := g_if_ge dX3_copy_81 (by decide)
theorem e_X3_copy_84 : ev X d 89 84 (some (va_rf r) :: L) st h = ev X d 89 85 (some (va_rf r) :: L) (va_rf r :: st) h := g_aload_n dX3_copy_84 rfl
theorem e_X3_copy_85 : ev X d 89 85 L st h = ev X d 89 86 L (.int 1 :: st) h := g_iconst dX3_copy_85 (by decide)
theorem e_X3_copy_86 (hc : I_isC X h q 3 = true) (hs : I_cat st ≤ 8) : ev X (d + 1) 89 86 L (.int a1 :: va_rf (some q) :: st) h = (ev X d 70 0 [some (va_rf (some q)), some (.int a1)] [] h).bind (fun r => ev X (d + 1) 89 89 L (r.1.toList ++ st) r.2) := g_callV (as := [.int a1]) dX3_copy_86 (by decide) (by decide) I_np_70 rfl (by simp only [List.reverse_cons, List.reverse_nil, List.nil_append, List.cons_append, I_slots_n, I_slots_i, I_slots_d, I_slots_q, List.length_cons, List.length_nil]; decide) (by simp only [I_ent, List.reverse_cons, List.reverse_nil, List.nil_append, List.cons_append, I_slots_n, I_slots_i, I_slots_d, I_slots_q, List.length_cons, List.length_nil]; rfl) rfl hc hs
theorem e_X3_copy_89 : ev X d 89 89 L [.int a] h = some (some (.int a), h) := g_iret dX3_copy_89 rfl
theorem e_X3_copy_90 : ev X d 89 90 (some (va_rf r) :: L) st h = ev X d 89 91 (some (va_rf r) :: L) (va_rf r :: st) h := g_aload_n dX3_copy_90 rfl
theorem e_X3_copy_91 : ev X d 89 91 L (va_rf (some q) :: st) h = (I_getf X h q 3 1).bind (fun v => ev X d 89 94 L (v :: st) h) := g_get dX3_copy_91 (by decide)
theorem e_X3_copy_94 : ev X d 89 94 (x0 :: some (.int a) :: L) st h = ev X d 89 95 (x0 :: some (.int a) :: L) (.int a :: st) h := g_iload_n dX3_copy_94 rfl
theorem e_X3_copy_95 : ev X d 89 95 L (.int i :: va_rf (some q) :: st) h = (I_aldi X h 0 q i).bind (fun v => ev X d 89 96 L (.int v :: st) h) := g_iald dX3_copy_95 (by decide)
theorem e_X3_copy_96 : ev X d 89 96 (some (va_rf r) :: L) st h = ev X d 89 97 (some (va_rf r) :: L) (va_rf r :: st) h := g_aload_n dX3_copy_96 rfl
theorem e_X3_copy_97 : ev X d 89 97 L (va_rf (some q) :: st) h = (I_getf X h q 3 1).bind (fun v => ev X d 89 100 L (v :: st) h) := g_get dX3_copy_97 (by decide)
theorem e_X3_copy_100 : ev X d 89 100 (x0 :: x1 :: x2 :: x3 :: some (.int a) :: L) st h = ev X d 89 102 (x0 :: x1 :: x2 :: x3 :: some (.int a) :: L) (.int a :: st) h := g_iload dX3_copy_100 rfl
theorem e_X3_copy_102 : ev X d 89 102 L (.int i :: va_rf (some q) :: st) h = (I_aldi X h 0 q i).bind (fun v => ev X d 89 103 L (.int v :: st) h) := g_iald dX3_copy_102 (by decide)
theorem e_X3_copy_103 : ev X d 89 103 L (.int b :: .int a :: st) h = if a = b then ev X d 89 112 L st h else ev X d 89 106 L st h := g_icmp_eq dX3_copy_103 (by decide)
theorem e_X3_copy_106 : ev X d 89 106 (some (va_rf r) :: L) st h = ev X d 89 107 (some (va_rf r) :: L) (va_rf r :: st) h := g_aload_n dX3_copy_106 rfl
theorem e_X3_copy_107 : ev X d 89 107 L st h = ev X d 89 108 L (.int 3 :: st) h := g_iconst dX3_copy_107 (by decide)
theorem e_X3_copy_108 (hc : I_isC X h q 3 = true) (hs : I_cat st ≤ 8) : ev X (d + 1) 89 108 L (.int a1 :: va_rf (some q) :: st) h = (ev X d 70 0 [some (va_rf (some q)), some (.int a1)] [] h).bind (fun r => ev X (d + 1) 89 111 L (r.1.toList ++ st) r.2) := g_callV (as := [.int a1]) dX3_copy_108 (by decide) (by decide) I_np_70 rfl (by simp only [List.reverse_cons, List.reverse_nil, List.nil_append, List.cons_append, I_slots_n, I_slots_i, I_slots_d, I_slots_q, List.length_cons, List.length_nil]; decide) (by simp only [I_ent, List.reverse_cons, List.reverse_nil, List.nil_append, List.cons_append, I_slots_n, I_slots_i, I_slots_d, I_slots_q, List.length_cons, List.length_nil]; rfl) rfl hc hs
theorem e_X3_copy_111 : ev X d 89 111 L [.int a] h = some (some (.int a), h) := g_iret dX3_copy_111 rfl
theorem e_X3_copy_112 : ev X d 89 112 (x0 :: x1 :: x2 :: some (.int a) :: L) st h = ev X d 89 113 (x0 :: x1 :: x2 :: some (.int a) :: L) (.int a :: st) h := g_iload_n dX3_copy_112 rfl
theorem e_X3_copy_113 : ev X d 89 113 L (.int a :: st) h = if a < 0 then ev X d 89 163 L st h else ev X d 89 116 L st h := g_if_lt dX3_copy_113 (by decide)
theorem e_X3_copy_116 : ev X d 89 116 (x0 :: x1 :: x2 :: x3 :: x4 :: x5 :: some (.int a) :: L) st h = ev X d 89 118 (x0 :: x1 :: x2 :: x3 :: x4 :: x5 :: some (.int a) :: L) (.int a :: st) h := g_iload dX3_copy_116 rfl
theorem e_X3_copy_118 : ev X d 89 118 L (.int a :: st) h = if a < 0 then ev X d 89 163 L st h else ev X d 89 121 L st h := g_if_lt dX3_copy_118 (by decide)
theorem e_X3_copy_121 : ev X d 89 121 (x0 :: x1 :: x2 :: x3 :: x4 :: x5 :: x6 :: some (.int a) :: L) st h = ev X d 89 123 (x0 :: x1 :: x2 :: x3 :: x4 :: x5 :: x6 :: some (.int a) :: L) (.int a :: st) h := g_iload dX3_copy_121 rfl
theorem e_X3_copy_123 : ev X d 89 123 L (.int a :: st) h = if a < 0 then ev X d 89 163 L st h else ev X d 89 126 L st h := g_if_lt dX3_copy_123 (by decide)
theorem e_X3_copy_126 : ev X d 89 126 (x0 :: x1 :: x2 :: some (.int a) :: L) st h = ev X d 89 127 (x0 :: x1 :: x2 :: some (.int a) :: L) (.int a :: st) h := g_iload_n dX3_copy_126 rfl
theorem e_X3_copy_127 : ev X d 89 127 L (.int a :: st) h = ev X d 89 128 L (.long a.toInt64 :: st) h := g_i2l dX3_copy_127
theorem e_X3_copy_128 : ev X d 89 128 (x0 :: x1 :: x2 :: x3 :: x4 :: x5 :: x6 :: some (.int a) :: L) st h = ev X d 89 130 (x0 :: x1 :: x2 :: x3 :: x4 :: x5 :: x6 :: some (.int a) :: L) (.int a :: st) h := g_iload dX3_copy_128 rfl
theorem e_X3_copy_130 : ev X d 89 130 L (.int a :: st) h = ev X d 89 131 L (.long a.toInt64 :: st) h := g_i2l dX3_copy_130
theorem e_X3_copy_131 : ev X d 89 131 L (.long l2 :: .long l1 :: st) h = ev X d 89 132 L (.long (l1 + l2) :: st) h := g_ladd dX3_copy_131
theorem e_X3_copy_132 : ev X d 89 132 (some (va_rf r) :: L) st h = ev X d 89 133 (some (va_rf r) :: L) (va_rf r :: st) h := g_aload_n dX3_copy_132 rfl
theorem e_X3_copy_133 : ev X d 89 133 L (va_rf (some q) :: st) h = (I_getf X h q 3 5).bind (fun v => ev X d 89 136 L (v :: st) h) := g_get dX3_copy_133 (by decide)
theorem e_X3_copy_136 : ev X d 89 136 (x0 :: x1 :: x2 :: x3 :: x4 :: x5 :: x6 :: x7 :: some (.int a) :: L) st h = ev X d 89 138 (x0 :: x1 :: x2 :: x3 :: x4 :: x5 :: x6 :: x7 :: some (.int a) :: L) (.int a :: st) h := g_iload dX3_copy_136 rfl
theorem e_X3_copy_138 : ev X d 89 138 L (.int i :: va_rf (some q) :: st) h = (I_aldi X h 0 q i).bind (fun v => ev X d 89 139 L (.int v :: st) h) := g_iald dX3_copy_138 (by decide)
theorem e_X3_copy_139 : ev X d 89 139 L (.int a :: st) h = ev X d 89 140 L (.long a.toInt64 :: st) h := g_i2l dX3_copy_139
theorem e_X3_copy_140 : ev X d 89 140 L (.long l2 :: .long l1 :: st) h = ev X d 89 141 L (.int (lg_cmp l1 l2) :: st) h := g_lcmp dX3_copy_140
theorem e_X3_copy_141 : ev X d 89 141 L (.int a :: st) h = if 0 < a then ev X d 89 163 L st h else ev X d 89 144 L st h := g_if_gt dX3_copy_141 (by decide)
theorem e_X3_copy_144 : ev X d 89 144 (x0 :: x1 :: x2 :: x3 :: x4 :: x5 :: some (.int a) :: L) st h = ev X d 89 146 (x0 :: x1 :: x2 :: x3 :: x4 :: x5 :: some (.int a) :: L) (.int a :: st) h := g_iload dX3_copy_144 rfl
theorem e_X3_copy_146 : ev X d 89 146 L (.int a :: st) h = ev X d 89 147 L (.long a.toInt64 :: st) h := g_i2l dX3_copy_146
theorem e_X3_copy_147 : ev X d 89 147 (x0 :: x1 :: x2 :: x3 :: x4 :: x5 :: x6 :: some (.int a) :: L) st h = ev X d 89 149 (x0 :: x1 :: x2 :: x3 :: x4 :: x5 :: x6 :: some (.int a) :: L) (.int a :: st) h := g_iload dX3_copy_147 rfl
theorem e_X3_copy_149 : ev X d 89 149 L (.int a :: st) h = ev X d 89 150 L (.long a.toInt64 :: st) h := g_i2l dX3_copy_149
theorem e_X3_copy_150 : ev X d 89 150 L (.long l2 :: .long l1 :: st) h = ev X d 89 151 L (.long (l1 + l2) :: st) h := g_ladd dX3_copy_150
theorem e_X3_copy_151 : ev X d 89 151 (some (va_rf r) :: L) st h = ev X d 89 152 (some (va_rf r) :: L) (va_rf r :: st) h := g_aload_n dX3_copy_151 rfl
theorem e_X3_copy_152 : ev X d 89 152 L (va_rf (some q) :: st) h = (I_getf X h q 3 5).bind (fun v => ev X d 89 155 L (v :: st) h) := g_get dX3_copy_152 (by decide)
theorem e_X3_copy_155 : ev X d 89 155 (x0 :: x1 :: x2 :: x3 :: x4 :: x5 :: x6 :: x7 :: x8 :: some (.int a) :: L) st h = ev X d 89 157 (x0 :: x1 :: x2 :: x3 :: x4 :: x5 :: x6 :: x7 :: x8 :: some (.int a) :: L) (.int a :: st) h := g_iload dX3_copy_155 rfl
theorem e_X3_copy_157 : ev X d 89 157 L (.int i :: va_rf (some q) :: st) h = (I_aldi X h 0 q i).bind (fun v => ev X d 89 158 L (.int v :: st) h) := g_iald dX3_copy_157 (by decide)
theorem e_X3_copy_158 : ev X d 89 158 L (.int a :: st) h = ev X d 89 159 L (.long a.toInt64 :: st) h := g_i2l dX3_copy_158
theorem e_X3_copy_159 : ev X d 89 159 L (.long l2 :: .long l1 :: st) h = ev X d 89 160 L (.int (lg_cmp l1 l2) :: st) h := g_lcmp dX3_copy_159
theorem e_X3_copy_160 : ev X d 89 160 L (.int a :: st) h = if a ≤ 0 then ev X d 89 169 L st h else ev X d 89 163 L st h := g_if_le dX3_copy_160 (by decide)
theorem e_X3_copy_163 : ev X d 89 163 (some (va_rf r) :: L) st h = ev X d 89 164 (some (va_rf r) :: L) (va_rf r :: st) h := g_aload_n dX3_copy_163 rfl
theorem e_X3_copy_164 : ev X d 89 164 L st h = ev X d 89 165 L (.int 2 :: st) h := g_iconst dX3_copy_164 (by decide)
theorem e_X3_copy_165 (hc : I_isC X h q 3 = true) (hs : I_cat st ≤ 8) : ev X (d + 1) 89 165 L (.int a1 :: va_rf (some q) :: st) h = (ev X d 70 0 [some (va_rf (some q)), some (.int a1)] [] h).bind (fun r => ev X (d + 1) 89 168 L (r.1.toList ++ st) r.2) := g_callV (as := [.int a1]) dX3_copy_165 (by decide) (by decide) I_np_70 rfl (by simp only [List.reverse_cons, List.reverse_nil, List.nil_append, List.cons_append, I_slots_n, I_slots_i, I_slots_d, I_slots_q, List.length_cons, List.length_nil]; decide) (by simp only [I_ent, List.reverse_cons, List.reverse_nil, List.nil_append, List.cons_append, I_slots_n, I_slots_i, I_slots_d, I_slots_q, List.length_cons, List.length_nil]; rfl) rfl hc hs
theorem e_X3_copy_168 : ev X d 89 168 L [.int a] h = some (some (.int a), h) := g_iret dX3_copy_168 rfl
theorem e_X3_copy_169 : ev X d 89 169 L st h = ev X d 89 170 L (.int 0 :: st) h := g_iconst dX3_copy_169 (by decide)
theorem e_X3_copy_170 (hx : I_c2 x9 = false) : ev X d 89 170 (x0 :: x1 :: x2 :: x3 :: x4 :: x5 :: x6 :: x7 :: x8 :: x9 :: x10 :: L) (.int a :: st) h = ev X d 89 172 (x0 :: x1 :: x2 :: x3 :: x4 :: x5 :: x6 :: x7 :: x8 :: x9 :: some (.int a) :: L) st h := g_istore dX3_copy_170 (I_st1_10 hx)
theorem e_X3_copy_172 : ev X d 89 172 (x0 :: x1 :: x2 :: x3 :: x4 :: x5 :: x6 :: x7 :: x8 :: x9 :: some (.int a) :: L) st h = ev X d 89 174 (x0 :: x1 :: x2 :: x3 :: x4 :: x5 :: x6 :: x7 :: x8 :: x9 :: some (.int a) :: L) (.int a :: st) h := g_iload dX3_copy_172 rfl
theorem e_X3_copy_174 : ev X d 89 174 (x0 :: x1 :: x2 :: x3 :: x4 :: x5 :: x6 :: some (.int a) :: L) st h = ev X d 89 176 (x0 :: x1 :: x2 :: x3 :: x4 :: x5 :: x6 :: some (.int a) :: L) (.int a :: st) h := g_iload dX3_copy_174 rfl
theorem e_X3_copy_176 : ev X d 89 176 L (.int b :: .int a :: st) h = if b ≤ a then ev X d 89 274 L st h else ev X d 89 179 L st h := g_icmp_ge dX3_copy_176 (by decide)
theorem e_X3_copy_179 : ev X d 89 179 (x0 :: x1 :: x2 :: x3 :: x4 :: x5 :: x6 :: x7 :: some (.int a) :: L) st h = ev X d 89 181 (x0 :: x1 :: x2 :: x3 :: x4 :: x5 :: x6 :: x7 :: some (.int a) :: L) (.int a :: st) h := g_iload dX3_copy_179 rfl
theorem e_X3_copy_181 : ev X d 89 181 (x0 :: x1 :: x2 :: x3 :: x4 :: x5 :: x6 :: x7 :: x8 :: some (.int a) :: L) st h = ev X d 89 183 (x0 :: x1 :: x2 :: x3 :: x4 :: x5 :: x6 :: x7 :: x8 :: some (.int a) :: L) (.int a :: st) h := g_iload dX3_copy_181 rfl
theorem e_X3_copy_183 : ev X d 89 183 L (.int b :: .int a :: st) h = if a = b then ev X d 89 186 L st h else ev X d 89 202 L st h := g_icmp_ne dX3_copy_183 (by decide)
theorem e_X3_copy_186 : ev X d 89 186 (x0 :: x1 :: x2 :: some (.int a) :: L) st h = ev X d 89 187 (x0 :: x1 :: x2 :: some (.int a) :: L) (.int a :: st) h := g_iload_n dX3_copy_186 rfl
theorem e_X3_copy_187 : ev X d 89 187 (x0 :: x1 :: x2 :: x3 :: x4 :: x5 :: some (.int a) :: L) st h = ev X d 89 189 (x0 :: x1 :: x2 :: x3 :: x4 :: x5 :: some (.int a) :: L) (.int a :: st) h := g_iload dX3_copy_187 rfl
theorem e_X3_copy_189 : ev X d 89 189 L (.int b :: .int a :: st) h = if b ≤ a then ev X d 89 202 L st h else ev X d 89 192 L st h := g_icmp_ge dX3_copy_189 (by decide)
theorem e_X3_copy_192 : ev X d 89 192 (x0 :: x1 :: x2 :: x3 :: x4 :: x5 :: x6 :: some (.int a) :: L) st h = ev X d 89 194 (x0 :: x1 :: x2 :: x3 :: x4 :: x5 :: x6 :: some (.int a) :: L) (.int a :: st) h := g_iload dX3_copy_192 rfl
theorem e_X3_copy_194 : ev X d 89 194 L st h = ev X d 89 195 L (.int 1 :: st) h := g_iconst dX3_copy_194 (by decide)
theorem e_X3_copy_195 : ev X d 89 195 L (.int b :: .int a :: st) h = ev X d 89 196 L (.int (a - b) :: st) h := g_isub dX3_copy_195
theorem e_X3_copy_196 : ev X d 89 196 (x0 :: x1 :: x2 :: x3 :: x4 :: x5 :: x6 :: x7 :: x8 :: x9 :: some (.int a) :: L) st h = ev X d 89 198 (x0 :: x1 :: x2 :: x3 :: x4 :: x5 :: x6 :: x7 :: x8 :: x9 :: some (.int a) :: L) (.int a :: st) h := g_iload dX3_copy_196 rfl
theorem e_X3_copy_198 : ev X d 89 198 L (.int b :: .int a :: st) h = ev X d 89 199 L (.int (a - b) :: st) h := g_isub dX3_copy_198
theorem e_X3_copy_199 : ev X d 89 199 L st h = ev X d 89 204 L st h := g_goto dX3_copy_199 (by decide)
theorem e_X3_copy_202 : ev X d 89 202 (x0 :: x1 :: x2 :: x3 :: x4 :: x5 :: x6 :: x7 :: x8 :: x9 :: some (.int a) :: L) st h = ev X d 89 204 (x0 :: x1 :: x2 :: x3 :: x4 :: x5 :: x6 :: x7 :: x8 :: x9 :: some (.int a) :: L) (.int a :: st) h := g_iload dX3_copy_202 rfl
theorem e_X3_copy_204 (hx : I_c2 x10 = false) : ev X d 89 204 (x0 :: x1 :: x2 :: x3 :: x4 :: x5 :: x6 :: x7 :: x8 :: x9 :: x10 :: x11 :: L) (.int a :: st) h = ev X d 89 206 (x0 :: x1 :: x2 :: x3 :: x4 :: x5 :: x6 :: x7 :: x8 :: x9 :: x10 :: some (.int a) :: L) st h := g_istore dX3_copy_204 (I_st1_11 hx)
theorem e_X3_copy_206 : ev X d 89 206 (some (va_rf r) :: L) st h = ev X d 89 207 (some (va_rf r) :: L) (va_rf r :: st) h := g_aload_n dX3_copy_206 rfl
theorem e_X3_copy_207 : ev X d 89 207 L (va_rf (some q) :: st) h = (I_getf X h q 3 6).bind (fun v => ev X d 89 210 L (v :: st) h) := g_get dX3_copy_207 (by decide)
theorem e_X3_copy_210 : ev X d 89 210 L st h = ev X d 89 212 L (.int 16 :: st) h := g_bipush dX3_copy_210 (by decide)
theorem e_X3_copy_212 : ev X d 89 212 (x0 :: x1 :: x2 :: x3 :: x4 :: x5 :: x6 :: x7 :: x8 :: some (.int a) :: L) st h = ev X d 89 214 (x0 :: x1 :: x2 :: x3 :: x4 :: x5 :: x6 :: x7 :: x8 :: some (.int a) :: L) (.int a :: st) h := g_iload dX3_copy_212 rfl
theorem e_X3_copy_214 : ev X d 89 214 L (.int b :: .int a :: st) h = ev X d 89 215 L (.int (a * b) :: st) h := g_imul dX3_copy_214
theorem e_X3_copy_215 : ev X d 89 215 (x0 :: x1 :: x2 :: x3 :: x4 :: x5 :: some (.int a) :: L) st h = ev X d 89 217 (x0 :: x1 :: x2 :: x3 :: x4 :: x5 :: some (.int a) :: L) (.int a :: st) h := g_iload dX3_copy_215 rfl
theorem e_X3_copy_217 : ev X d 89 217 L (.int b :: .int a :: st) h = ev X d 89 218 L (.int (a + b) :: st) h := g_iadd dX3_copy_217
theorem e_X3_copy_218 : ev X d 89 218 (x0 :: x1 :: x2 :: x3 :: x4 :: x5 :: x6 :: x7 :: x8 :: x9 :: x10 :: some (.int a) :: L) st h = ev X d 89 220 (x0 :: x1 :: x2 :: x3 :: x4 :: x5 :: x6 :: x7 :: x8 :: x9 :: x10 :: some (.int a) :: L) (.int a :: st) h := g_iload dX3_copy_218 rfl
theorem e_X3_copy_220 : ev X d 89 220 L (.int b :: .int a :: st) h = ev X d 89 221 L (.int (a + b) :: st) h := g_iadd dX3_copy_220
theorem e_X3_copy_221 : ev X d 89 221 (some (va_rf r) :: L) st h = ev X d 89 222 (some (va_rf r) :: L) (va_rf r :: st) h := g_aload_n dX3_copy_221 rfl
theorem e_X3_copy_222 : ev X d 89 222 L (va_rf (some q) :: st) h = (I_getf X h q 3 6).bind (fun v => ev X d 89 225 L (v :: st) h) := g_get dX3_copy_222 (by decide)
theorem e_X3_copy_225 : ev X d 89 225 L st h = ev X d 89 227 L (.int 16 :: st) h := g_bipush dX3_copy_225 (by decide)
theorem e_X3_copy_227 : ev X d 89 227 (x0 :: x1 :: x2 :: x3 :: x4 :: x5 :: x6 :: x7 :: some (.int a) :: L) st h = ev X d 89 229 (x0 :: x1 :: x2 :: x3 :: x4 :: x5 :: x6 :: x7 :: some (.int a) :: L) (.int a :: st) h := g_iload dX3_copy_227 rfl
theorem e_X3_copy_229 : ev X d 89 229 L (.int b :: .int a :: st) h = ev X d 89 230 L (.int (a * b) :: st) h := g_imul dX3_copy_229
theorem e_X3_copy_230 : ev X d 89 230 (x0 :: x1 :: x2 :: some (.int a) :: L) st h = ev X d 89 231 (x0 :: x1 :: x2 :: some (.int a) :: L) (.int a :: st) h := g_iload_n dX3_copy_230 rfl
theorem e_X3_copy_231 : ev X d 89 231 L (.int b :: .int a :: st) h = ev X d 89 232 L (.int (a + b) :: st) h := g_iadd dX3_copy_231
theorem e_X3_copy_232 : ev X d 89 232 (x0 :: x1 :: x2 :: x3 :: x4 :: x5 :: x6 :: x7 :: x8 :: x9 :: x10 :: some (.int a) :: L) st h = ev X d 89 234 (x0 :: x1 :: x2 :: x3 :: x4 :: x5 :: x6 :: x7 :: x8 :: x9 :: x10 :: some (.int a) :: L) (.int a :: st) h := g_iload dX3_copy_232 rfl
theorem e_X3_copy_234 : ev X d 89 234 L (.int b :: .int a :: st) h = ev X d 89 235 L (.int (a + b) :: st) h := g_iadd dX3_copy_234
theorem e_X3_copy_235 : ev X d 89 235 L (.int i :: va_rf (some q) :: st) h = (I_aldi X h 0 q i).bind (fun v => ev X d 89 236 L (.int v :: st) h) := g_iald dX3_copy_235 (by decide)
theorem e_X3_copy_236 : ev X d 89 236 L (.int v :: .int i :: va_rf (some q) :: st) h = (I_asti X h 0 q i v).bind (fun h => ev X d 89 237 L st h) := g_iast dX3_copy_236
theorem e_X3_copy_237 : ev X d 89 237 (some (va_rf r) :: L) st h = ev X d 89 238 (some (va_rf r) :: L) (va_rf r :: st) h := g_aload_n dX3_copy_237 rfl
theorem e_X3_copy_238 : ev X d 89 238 L (va_rf (some q) :: st) h = (I_getf X h q 3 7).bind (fun v => ev X d 89 241 L (v :: st) h) := g_get dX3_copy_238 (by decide)
theorem e_X3_copy_241 : ev X d 89 241 L st h = ev X d 89 243 L (.int 16 :: st) h := g_bipush dX3_copy_241 (by decide)
theorem e_X3_copy_243 : ev X d 89 243 (x0 :: x1 :: x2 :: x3 :: x4 :: x5 :: x6 :: x7 :: x8 :: some (.int a) :: L) st h = ev X d 89 245 (x0 :: x1 :: x2 :: x3 :: x4 :: x5 :: x6 :: x7 :: x8 :: some (.int a) :: L) (.int a :: st) h := g_iload dX3_copy_243 rfl
theorem e_X3_copy_245 : ev X d 89 245 L (.int b :: .int a :: st) h = ev X d 89 246 L (.int (a * b) :: st) h := g_imul dX3_copy_245
theorem e_X3_copy_246 : ev X d 89 246 (x0 :: x1 :: x2 :: x3 :: x4 :: x5 :: some (.int a) :: L) st h = ev X d 89 248 (x0 :: x1 :: x2 :: x3 :: x4 :: x5 :: some (.int a) :: L) (.int a :: st) h := g_iload dX3_copy_246 rfl
theorem e_X3_copy_248 : ev X d 89 248 L (.int b :: .int a :: st) h = ev X d 89 249 L (.int (a + b) :: st) h := g_iadd dX3_copy_248
theorem e_X3_copy_249 : ev X d 89 249 (x0 :: x1 :: x2 :: x3 :: x4 :: x5 :: x6 :: x7 :: x8 :: x9 :: x10 :: some (.int a) :: L) st h = ev X d 89 251 (x0 :: x1 :: x2 :: x3 :: x4 :: x5 :: x6 :: x7 :: x8 :: x9 :: x10 :: some (.int a) :: L) (.int a :: st) h := g_iload dX3_copy_249 rfl
theorem e_X3_copy_251 : ev X d 89 251 L (.int b :: .int a :: st) h = ev X d 89 252 L (.int (a + b) :: st) h := g_iadd dX3_copy_251
theorem e_X3_copy_252 : ev X d 89 252 (some (va_rf r) :: L) st h = ev X d 89 253 (some (va_rf r) :: L) (va_rf r :: st) h := g_aload_n dX3_copy_252 rfl
theorem e_X3_copy_253 : ev X d 89 253 L (va_rf (some q) :: st) h = (I_getf X h q 3 7).bind (fun v => ev X d 89 256 L (v :: st) h) := g_get dX3_copy_253 (by decide)
theorem e_X3_copy_256 : ev X d 89 256 L st h = ev X d 89 258 L (.int 16 :: st) h := g_bipush dX3_copy_256 (by decide)
theorem e_X3_copy_258 : ev X d 89 258 (x0 :: x1 :: x2 :: x3 :: x4 :: x5 :: x6 :: x7 :: some (.int a) :: L) st h = ev X d 89 260 (x0 :: x1 :: x2 :: x3 :: x4 :: x5 :: x6 :: x7 :: some (.int a) :: L) (.int a :: st) h := g_iload dX3_copy_258 rfl
theorem e_X3_copy_260 : ev X d 89 260 L (.int b :: .int a :: st) h = ev X d 89 261 L (.int (a * b) :: st) h := g_imul dX3_copy_260
theorem e_X3_copy_261 : ev X d 89 261 (x0 :: x1 :: x2 :: some (.int a) :: L) st h = ev X d 89 262 (x0 :: x1 :: x2 :: some (.int a) :: L) (.int a :: st) h := g_iload_n dX3_copy_261 rfl
theorem e_X3_copy_262 : ev X d 89 262 L (.int b :: .int a :: st) h = ev X d 89 263 L (.int (a + b) :: st) h := g_iadd dX3_copy_262
theorem e_X3_copy_263 : ev X d 89 263 (x0 :: x1 :: x2 :: x3 :: x4 :: x5 :: x6 :: x7 :: x8 :: x9 :: x10 :: some (.int a) :: L) st h = ev X d 89 265 (x0 :: x1 :: x2 :: x3 :: x4 :: x5 :: x6 :: x7 :: x8 :: x9 :: x10 :: some (.int a) :: L) (.int a :: st) h := g_iload dX3_copy_263 rfl
theorem e_X3_copy_265 : ev X d 89 265 L (.int b :: .int a :: st) h = ev X d 89 266 L (.int (a + b) :: st) h := g_iadd dX3_copy_265
theorem e_X3_copy_266 : ev X d 89 266 L (.int i :: va_rf (some q) :: st) h = (I_aldd X h q i).bind (fun v => ev X d 89 267 L (.double v :: st) h) := g_dald dX3_copy_266
theorem e_X3_copy_267 : ev X d 89 267 L (.double w :: .int i :: va_rf (some q) :: st) h = (I_astd X h q i w).bind (fun h => ev X d 89 268 L st h) := g_dast dX3_copy_267
theorem e_X3_copy_268 (hx : I_c2 x9 = false) : ev X d 89 268 (x0 :: x1 :: x2 :: x3 :: x4 :: x5 :: x6 :: x7 :: x8 :: x9 :: some (.int a) :: L) st h = ev X d 89 271 (x0 :: x1 :: x2 :: x3 :: x4 :: x5 :: x6 :: x7 :: x8 :: x9 :: some (.int (a + 1)) :: L) st h := g_iinc dX3_copy_268 (by decide) rfl (I_st1_10 hx)
theorem e_X3_copy_271 : ev X d 89 271 L st h = ev X d 89 172 L st h := g_goto dX3_copy_271 (by decide)
theorem e_X3_copy_274 : ev X d 89 274 L st h = ev X d 89 275 L (.int 1 :: st) h := g_iconst dX3_copy_274 (by decide)
theorem e_X3_copy_275 : ev X d 89 275 L [.int a] h = some (some (.int a), h) := g_iret dX3_copy_275 rfl
theorem e_X3_isEven_0 : ev X d 90 0 L st h = ev X d 90 1 L (.int 1 :: st) h := g_iconst dX3_isEven_0 (by decide)
theorem e_X3_isEven_1 (hx : I_c2 x1 = false) : ev X d 90 1 (x0 :: x1 :: x2 :: L) (.int a :: st) h = ev X d 90 2 (x0 :: x1 :: some (.int a) :: L) st h := g_istore_n dX3_isEven_1 (I_st1_2 hx)
theorem e_X3_isEven_2 : ev X d 90 2 L st h = ev X d 90 3 L (.int 0 :: st) h := g_iconst dX3_isEven_2 (by decide)
theorem e_X3_isEven_3 (hx : I_c2 x2 = false) : ev X d 90 3 (x0 :: x1 :: x2 :: x3 :: L) (.int a :: st) h = ev X d 90 4 (x0 :: x1 :: x2 :: some (.int a) :: L) st h := g_istore_n dX3_isEven_3 (I_st1_3 hx)
theorem e_X3_isEven_4 : ev X d 90 4 (x0 :: x1 :: x2 :: some (.int a) :: L) st h = ev X d 90 5 (x0 :: x1 :: x2 :: some (.int a) :: L) (.int a :: st) h := g_iload_n dX3_isEven_4 rfl
theorem e_X3_isEven_5 : ev X d 90 5 (some (va_rf r) :: L) st h = ev X d 90 6 (some (va_rf r) :: L) (va_rf r :: st) h := g_aload_n dX3_isEven_5 rfl
theorem e_X3_isEven_6 : ev X d 90 6 L (va_rf (some q) :: st) h = (I_getf X h q 3 2).bind (fun v => ev X d 90 9 L (v :: st) h) := g_get dX3_isEven_6 (by decide)
theorem e_X3_isEven_9 : ev X d 90 9 (x0 :: some (.int a) :: L) st h = ev X d 90 10 (x0 :: some (.int a) :: L) (.int a :: st) h := g_iload_n dX3_isEven_9 rfl
theorem e_X3_isEven_10 : ev X d 90 10 L (.int i :: va_rf (some q) :: st) h = (I_aldi X h 0 q i).bind (fun v => ev X d 90 11 L (.int v :: st) h) := g_iald dX3_isEven_10 (by decide)
theorem e_X3_isEven_11 : ev X d 90 11 L (.int b :: .int a :: st) h = if b ≤ a then ev X d 90 63 L st h else ev X d 90 14 L st h := g_icmp_ge dX3_isEven_11 (by decide)
theorem e_X3_isEven_14 : ev X d 90 14 (some (va_rf r) :: L) st h = ev X d 90 15 (some (va_rf r) :: L) (va_rf r :: st) h := g_aload_n dX3_isEven_14 rfl
theorem e_X3_isEven_15 : ev X d 90 15 L (va_rf (some q) :: st) h = (I_getf X h q 3 3).bind (fun v => ev X d 90 18 L (v :: st) h) := g_get dX3_isEven_15 (by decide)
theorem e_X3_isEven_18 : ev X d 90 18 L st h = ev X d 90 20 L (.int 12 :: st) h := g_bipush dX3_isEven_18 (by decide)
theorem e_X3_isEven_20 : ev X d 90 20 (x0 :: some (.int a) :: L) st h = ev X d 90 21 (x0 :: some (.int a) :: L) (.int a :: st) h := g_iload_n dX3_isEven_20 rfl
theorem e_X3_isEven_21 : ev X d 90 21 L (.int b :: .int a :: st) h = ev X d 90 22 L (.int (a * b) :: st) h := g_imul dX3_isEven_21
theorem e_X3_isEven_22 : ev X d 90 22 (x0 :: x1 :: x2 :: some (.int a) :: L) st h = ev X d 90 23 (x0 :: x1 :: x2 :: some (.int a) :: L) (.int a :: st) h := g_iload_n dX3_isEven_22 rfl
theorem e_X3_isEven_23 : ev X d 90 23 L (.int b :: .int a :: st) h = ev X d 90 24 L (.int (a + b) :: st) h := g_iadd dX3_isEven_23
theorem e_X3_isEven_24 : ev X d 90 24 L (.int i :: va_rf (some q) :: st) h = (I_aldi X h 0 q i).bind (fun v => ev X d 90 25 L (.int v :: st) h) := g_iald dX3_isEven_24 (by decide)
theorem e_X3_isEven_25 (hx : I_c2 x3 = false) : ev X d 90 25 (x0 :: x1 :: x2 :: x3 :: x4 :: L) (.int a :: st) h = ev X d 90 27 (x0 :: x1 :: x2 :: x3 :: some (.int a) :: L) st h := g_istore dX3_isEven_25 (I_st1_4 hx)
theorem e_X3_isEven_27 : ev X d 90 27 (x0 :: x1 :: some (.int a) :: L) st h = ev X d 90 28 (x0 :: x1 :: some (.int a) :: L) (.int a :: st) h := g_iload_n dX3_isEven_27 rfl
theorem e_X3_isEven_28 : ev X d 90 28 L (.int a :: st) h = if a = 0 then ev X d 90 55 L st h else ev X d 90 31 L st h := g_if_eq dX3_isEven_28 (by decide)
theorem e_X3_isEven_31 : ev X d 90 31 (x0 :: x1 :: x2 :: x3 :: some (.int a) :: L) st h = ev X d 90 33 (x0 :: x1 :: x2 :: x3 :: some (.int a) :: L) (.int a :: st) h := g_iload dX3_isEven_31 rfl
theorem e_X3_isEven_33 : ev X d 90 33 L (.int a :: st) h = if a < 0 then ev X d 90 55 L st h else ev X d 90 36 L st h := g_if_lt dX3_isEven_33 (by decide)
theorem e_X3_isEven_36 : ev X d 90 36 (some (va_rf r) :: L) st h = ev X d 90 37 (some (va_rf r) :: L) (va_rf r :: st) h := g_aload_n dX3_isEven_36 rfl
theorem e_X3_isEven_37 : ev X d 90 37 L (va_rf (some q) :: st) h = (I_getf X h q 3 5).bind (fun v => ev X d 90 40 L (v :: st) h) := g_get dX3_isEven_37 (by decide)
theorem e_X3_isEven_40 : ev X d 90 40 (x0 :: x1 :: x2 :: x3 :: some (.int a) :: L) st h = ev X d 90 42 (x0 :: x1 :: x2 :: x3 :: some (.int a) :: L) (.int a :: st) h := g_iload dX3_isEven_40 rfl
theorem e_X3_isEven_42 : ev X d 90 42 L (.int i :: va_rf (some q) :: st) h = (I_aldi X h 0 q i).bind (fun v => ev X d 90 43 L (.int v :: st) h) := g_iald dX3_isEven_42 (by decide)
theorem e_X3_isEven_43 : ev X d 90 43 (some (va_rf r) :: L) st h = ev X d 90 44 (some (va_rf r) :: L) (va_rf r :: st) h := g_aload_n dX3_isEven_43 rfl
theorem e_X3_isEven_44 : ev X d 90 44 (x0 :: some (.int a) :: L) st h = ev X d 90 45 (x0 :: some (.int a) :: L) (.int a :: st) h := g_iload_n dX3_isEven_44 rfl
theorem e_X3_isEven_45 (hc : I_isC X h q 3 = true) (hs : I_cat st ≤ 8) : ev X (d + 1) 90 45 L (.int a1 :: va_rf (some q) :: st) h = (ev X d 91 0 [some (va_rf (some q)), some (.int a1)] [] h).bind (fun r => ev X (d + 1) 90 48 L (r.1.toList ++ st) r.2) := g_callV (as := [.int a1]) dX3_isEven_45 (by decide) (by decide) I_np_91 rfl (by simp only [List.reverse_cons, List.reverse_nil, List.nil_append, List.cons_append, I_slots_n, I_slots_i, I_slots_d, I_slots_q, List.length_cons, List.length_nil]; decide) (by simp only [I_ent, List.reverse_cons, List.reverse_nil, List.nil_append, List.cons_append, I_slots_n, I_slots_i, I_slots_d, I_slots_q, List.length_cons, List.length_nil]; rfl) rfl hc hs
theorem e_X3_isEven_48 : ev X d 90 48 L (.int b :: .int a :: st) h = if a = b then ev X d 90 51 L st h else ev X d 90 55 L st h := g_icmp_ne dX3_isEven_48 (by decide)
theorem e_X3_isEven_51 : ev X d 90 51 L st h = ev X d 90 52 L (.int 1 :: st) h := g_iconst dX3_isEven_51 (by decide)
theorem e_X3_isEven_52 : ev X d 90 52 L st h = ev X d 90 56 L st h := g_goto dX3_isEven_52 (by decide)
theorem e_X3_isEven_55 : ev X d 90 55 L st h = ev X d 90 56 L (.int 0 :: st) h := g_iconst dX3_isEven_55 (by decide)
theorem e_X3_isEven_56 (hx : I_c2 x1 = false) : ev X d 90 56 (x0 :: x1 :: x2 :: L) (.int a :: st) h = ev X d 90 57 (x0 :: x1 :: some (.int a) :: L) st h := g_istore_n dX3_isEven_56 (I_st1_2 hx)
theorem e_X3_isEven_57 (hx : I_c2 x2 = false) : ev X d 90 57 (x0 :: x1 :: x2 :: some (.int a) :: L) st h = ev X d 90 60 (x0 :: x1 :: x2 :: some (.int (a + 1)) :: L) st h := g_iinc dX3_isEven_57 (by decide) rfl (I_st1_3 hx)
theorem e_X3_isEven_60 : ev X d 90 60 L st h = ev X d 90 4 L st h := g_goto dX3_isEven_60 (by decide)
theorem e_X3_isEven_63 : ev X d 90 63 (x0 :: x1 :: some (.int a) :: L) st h = ev X d 90 64 (x0 :: x1 :: some (.int a) :: L) (.int a :: st) h := g_iload_n dX3_isEven_63 rfl
theorem e_X3_isEven_64 (ha : a = 0 ∨ a = 1) : ev X d 90 64 L [.int a] h = some (some (.int a), h) := g_zret dX3_isEven_64 rfl ha
theorem e_X3_wideOf_0 : ev X d 91 0 (some (va_rf r) :: L) st h = ev X d 91 1 (some (va_rf r) :: L) (va_rf r :: st) h := g_aload_n dX3_wideOf_0 rfl
theorem e_X3_wideOf_1 : ev X d 91 1 L (va_rf (some q) :: st) h = (I_getf X h q 3 2).bind (fun v => ev X d 91 4 L (v :: st) h) := g_get dX3_wideOf_1 (by decide)
theorem e_X3_wideOf_4 : ev X d 91 4 (x0 :: some (.int a) :: L) st h = ev X d 91 5 (x0 :: some (.int a) :: L) (.int a :: st) h := g_iload_n dX3_wideOf_4 rfl
theorem e_X3_wideOf_5 : ev X d 91 5 L (.int i :: va_rf (some q) :: st) h = (I_aldi X h 0 q i).bind (fun v => ev X d 91 6 L (.int v :: st) h) := g_iald dX3_wideOf_5 (by decide)
theorem e_X3_wideOf_6 : ev X d 91 6 L (.int a :: st) h = if a = 0 then ev X d 91 21 L st h else ev X d 91 9 L st h := g_if_eq dX3_wideOf_6 (by decide)
theorem e_X3_wideOf_9 : ev X d 91 9 (some (va_rf r) :: L) st h = ev X d 91 10 (some (va_rf r) :: L) (va_rf r :: st) h := g_aload_n dX3_wideOf_9 rfl
theorem e_X3_wideOf_10 : ev X d 91 10 L (va_rf (some q) :: st) h = (I_getf X h q 3 3).bind (fun v => ev X d 91 13 L (v :: st) h) := g_get dX3_wideOf_10 (by decide)
theorem e_X3_wideOf_13 : ev X d 91 13 L st h = ev X d 91 15 L (.int 12 :: st) h := g_bipush dX3_wideOf_13 (by decide)
theorem e_X3_wideOf_15 : ev X d 91 15 (x0 :: some (.int a) :: L) st h = ev X d 91 16 (x0 :: some (.int a) :: L) (.int a :: st) h := g_iload_n dX3_wideOf_15 rfl
theorem e_X3_wideOf_16 : ev X d 91 16 L (.int b :: .int a :: st) h = ev X d 91 17 L (.int (a * b) :: st) h := g_imul dX3_wideOf_16
theorem e_X3_wideOf_17 : ev X d 91 17 L (.int i :: va_rf (some q) :: st) h = (I_aldi X h 0 q i).bind (fun v => ev X d 91 18 L (.int v :: st) h) := g_iald dX3_wideOf_17 (by decide)
theorem e_X3_wideOf_18 : ev X d 91 18 L (.int a :: st) h = if 0 ≤ a then ev X d 91 25 L st h else ev X d 91 21 L st h := g_if_ge dX3_wideOf_18 (by decide)
theorem e_X3_wideOf_21 : ev X d 91 21 L st h = ev X d 91 22 L (.int 0 :: st) h := g_iconst dX3_wideOf_21 (by decide)
theorem e_X3_wideOf_22 : ev X d 91 22 L st h = ev X d 91 39 L st h := g_goto dX3_wideOf_22 (by decide)
theorem e_X3_wideOf_25 : ev X d 91 25 (some (va_rf r) :: L) st h = ev X d 91 26 (some (va_rf r) :: L) (va_rf r :: st) h := g_aload_n dX3_wideOf_25 rfl
theorem e_X3_wideOf_26 : ev X d 91 26 L (va_rf (some q) :: st) h = (I_getf X h q 3 5).bind (fun v => ev X d 91 29 L (v :: st) h) := g_get dX3_wideOf_26 (by decide)
theorem e_X3_wideOf_29 : ev X d 91 29 (some (va_rf r) :: L) st h = ev X d 91 30 (some (va_rf r) :: L) (va_rf r :: st) h := g_aload_n dX3_wideOf_29 rfl
theorem e_X3_wideOf_30 : ev X d 91 30 L (va_rf (some q) :: st) h = (I_getf X h q 3 3).bind (fun v => ev X d 91 33 L (v :: st) h) := g_get dX3_wideOf_30 (by decide)
theorem e_X3_wideOf_33 : ev X d 91 33 L st h = ev X d 91 35 L (.int 12 :: st) h := g_bipush dX3_wideOf_33 (by decide)
theorem e_X3_wideOf_35 : ev X d 91 35 (x0 :: some (.int a) :: L) st h = ev X d 91 36 (x0 :: some (.int a) :: L) (.int a :: st) h := g_iload_n dX3_wideOf_35 rfl
theorem e_X3_wideOf_36 : ev X d 91 36 L (.int b :: .int a :: st) h = ev X d 91 37 L (.int (a * b) :: st) h := g_imul dX3_wideOf_36
theorem e_X3_wideOf_37 : ev X d 91 37 L (.int i :: va_rf (some q) :: st) h = (I_aldi X h 0 q i).bind (fun v => ev X d 91 38 L (.int v :: st) h) := g_iald dX3_wideOf_37 (by decide)
theorem e_X3_wideOf_38 : ev X d 91 38 L (.int i :: va_rf (some q) :: st) h = (I_aldi X h 0 q i).bind (fun v => ev X d 91 39 L (.int v :: st) h) := g_iald dX3_wideOf_38 (by decide)
theorem e_X3_wideOf_39 : ev X d 91 39 L [.int a] h = some (some (.int a), h) := g_iret dX3_wideOf_39 rfl
theorem e_X3_cellOf_0 : ev X d 92 0 L st h = ev X d 92 2 L (.int 16 :: st) h := g_bipush dX3_cellOf_0 (by decide)
theorem e_X3_cellOf_2 : ev X d 92 2 (some (va_rf r) :: L) st h = ev X d 92 3 (some (va_rf r) :: L) (va_rf r :: st) h := g_aload_n dX3_cellOf_2 rfl
theorem e_X3_cellOf_3 : ev X d 92 3 L (va_rf (some q) :: st) h = (I_getf X h q 3 3).bind (fun v => ev X d 92 6 L (v :: st) h) := g_get dX3_cellOf_3 (by decide)
theorem e_X3_cellOf_6 : ev X d 92 6 L st h = ev X d 92 8 L (.int 12 :: st) h := g_bipush dX3_cellOf_6 (by decide)
theorem e_X3_cellOf_8 : ev X d 92 8 (x0 :: some (.int a) :: L) st h = ev X d 92 9 (x0 :: some (.int a) :: L) (.int a :: st) h := g_iload_n dX3_cellOf_8 rfl
theorem e_X3_cellOf_9 : ev X d 92 9 L (.int b :: .int a :: st) h = ev X d 92 10 L (.int (a * b) :: st) h := g_imul dX3_cellOf_9
theorem e_X3_cellOf_10 : ev X d 92 10 (x0 :: x1 :: some (.int a) :: L) st h = ev X d 92 11 (x0 :: x1 :: some (.int a) :: L) (.int a :: st) h := g_iload_n dX3_cellOf_10 rfl
theorem e_X3_cellOf_11 : ev X d 92 11 L (.int b :: .int a :: st) h = ev X d 92 12 L (.int (a + b) :: st) h := g_iadd dX3_cellOf_11
theorem e_X3_cellOf_12 : ev X d 92 12 L (.int i :: va_rf (some q) :: st) h = (I_aldi X h 0 q i).bind (fun v => ev X d 92 13 L (.int v :: st) h) := g_iald dX3_cellOf_12 (by decide)
theorem e_X3_cellOf_13 : ev X d 92 13 L (.int b :: .int a :: st) h = ev X d 92 14 L (.int (a * b) :: st) h := g_imul dX3_cellOf_13
theorem e_X3_cellOf_14 : ev X d 92 14 (x0 :: x1 :: x2 :: some (.int a) :: L) st h = ev X d 92 15 (x0 :: x1 :: x2 :: some (.int a) :: L) (.int a :: st) h := g_iload_n dX3_cellOf_14 rfl
theorem e_X3_cellOf_15 : ev X d 92 15 L (.int b :: .int a :: st) h = ev X d 92 16 L (.int (a + b) :: st) h := g_iadd dX3_cellOf_15
theorem e_X3_cellOf_16 : ev X d 92 16 L [.int a] h = some (some (.int a), h) := g_iret dX3_cellOf_16 rfl
theorem e_X3_turned_0 : ev X d 93 0 (some (va_rf r) :: L) st h = ev X d 93 1 (some (va_rf r) :: L) (va_rf r :: st) h := g_aload_n dX3_turned_0 rfl
theorem e_X3_turned_1 : ev X d 93 1 (x0 :: some (.int a) :: L) st h = ev X d 93 2 (x0 :: some (.int a) :: L) (.int a :: st) h := g_iload_n dX3_turned_1 rfl
theorem e_X3_turned_2 (hc : I_isC X h q 3 = true) (hs : I_cat st ≤ 8) : ev X (d + 1) 93 2 L (.int a1 :: va_rf (some q) :: st) h = (ev X d 71 0 [some (va_rf (some q)), some (.int a1)] [] h).bind (fun r => ev X (d + 1) 93 5 L (r.1.toList ++ st) r.2) := g_callV (as := [.int a1]) dX3_turned_2 (by decide) (by decide) I_np_71 rfl (by simp only [List.reverse_cons, List.reverse_nil, List.nil_append, List.cons_append, I_slots_n, I_slots_i, I_slots_d, I_slots_q, List.length_cons, List.length_nil]; decide) (by simp only [I_ent, List.reverse_cons, List.reverse_nil, List.nil_append, List.cons_append, I_slots_n, I_slots_i, I_slots_d, I_slots_q, List.length_cons, List.length_nil]; rfl) rfl hc hs
theorem e_X3_turned_5 : ev X d 93 5 L (.int a :: st) h = if a = 0 then ev X d 93 8 L st h else ev X d 93 11 L st h := g_if_ne dX3_turned_5 (by decide)
theorem e_X3_turned_8 : ev X d 93 8 L st h = ev X d 93 10 L (.int (-1000001) :: st) h := g_ldc dX3_turned_8 (by decide)
theorem e_X3_turned_10 : ev X d 93 10 L [.int a] h = some (some (.int a), h) := g_iret dX3_turned_10 rfl
theorem e_X3_turned_11 : ev X d 93 11 (some (va_rf r) :: L) st h = ev X d 93 12 (some (va_rf r) :: L) (va_rf r :: st) h := g_aload_n dX3_turned_11 rfl
theorem e_X3_turned_12 : ev X d 93 12 (x0 :: some (.int a) :: L) st h = ev X d 93 13 (x0 :: some (.int a) :: L) (.int a :: st) h := g_iload_n dX3_turned_12 rfl
theorem e_X3_turned_13 (hc : I_isC X h q 3 = true) (hs : I_cat st ≤ 8) : ev X (d + 1) 93 13 L (.int a1 :: va_rf (some q) :: st) h = (ev X d 90 0 [some (va_rf (some q)), some (.int a1), none, none, none] [] h).bind (fun r => ev X (d + 1) 93 16 L (r.1.toList ++ st) r.2) := g_callV (as := [.int a1]) dX3_turned_13 (by decide) (by decide) I_np_90 rfl (by simp only [List.reverse_cons, List.reverse_nil, List.nil_append, List.cons_append, I_slots_n, I_slots_i, I_slots_d, I_slots_q, List.length_cons, List.length_nil]; decide) (by simp only [I_ent, List.reverse_cons, List.reverse_nil, List.nil_append, List.cons_append, I_slots_n, I_slots_i, I_slots_d, I_slots_q, List.length_cons, List.length_nil]; rfl) rfl hc hs
theorem e_X3_turned_16 : ev X d 93 16 L (.int a :: st) h = if a = 0 then ev X d 93 29 L st h else ev X d 93 19 L st h := g_if_eq dX3_turned_16 (by decide)
theorem e_X3_turned_19 : ev X d 93 19 (some (va_rf r) :: L) st h = ev X d 93 20 (some (va_rf r) :: L) (va_rf r :: st) h := g_aload_n dX3_turned_19 rfl
theorem e_X3_turned_20 : ev X d 93 20 (x0 :: some (.int a) :: L) st h = ev X d 93 21 (x0 :: some (.int a) :: L) (.int a :: st) h := g_iload_n dX3_turned_20 rfl
theorem e_X3_turned_21 (hc : I_isC X h q 3 = true) (hs : I_cat st ≤ 8) : ev X (d + 1) 93 21 L (.int a1 :: va_rf (some q) :: st) h = (ev X d 91 0 [some (va_rf (some q)), some (.int a1)] [] h).bind (fun r => ev X (d + 1) 93 24 L (r.1.toList ++ st) r.2) := g_callV (as := [.int a1]) dX3_turned_21 (by decide) (by decide) I_np_91 rfl (by simp only [List.reverse_cons, List.reverse_nil, List.nil_append, List.cons_append, I_slots_n, I_slots_i, I_slots_d, I_slots_q, List.length_cons, List.length_nil]; decide) (by simp only [I_ent, List.reverse_cons, List.reverse_nil, List.nil_append, List.cons_append, I_slots_n, I_slots_i, I_slots_d, I_slots_q, List.length_cons, List.length_nil]; rfl) rfl hc hs
theorem e_X3_turned_24 : ev X d 93 24 L st h = ev X d 93 26 L (.int 12 :: st) h := g_bipush dX3_turned_24 (by decide)
theorem e_X3_turned_26 : ev X d 93 26 L (.int b :: .int a :: st) h = if a ≤ b then ev X d 93 32 L st h else ev X d 93 29 L st h := g_icmp_le dX3_turned_26 (by decide)
theorem e_X3_turned_29 : ev X d 93 29 L st h = ev X d 93 31 L (.int (-1000003) :: st) h := g_ldc dX3_turned_29 (by decide)
theorem e_X3_turned_31 : ev X d 93 31 L [.int a] h = some (some (.int a), h) := g_iret dX3_turned_31 rfl
theorem e_X3_turned_32 : ev X d 93 32 (some (va_rf r) :: L) st h = ev X d 93 33 (some (va_rf r) :: L) (va_rf r :: st) h := g_aload_n dX3_turned_32 rfl
theorem e_X3_turned_33 : ev X d 93 33 L (va_rf (some q) :: st) h = (I_getf X h q 3 0).bind (fun v => ev X d 93 36 L (v :: st) h) := g_get dX3_turned_33 (by decide)
theorem e_X3_turned_36 : ev X d 93 36 L st h = ev X d 93 38 L (.int 16 :: st) h := g_bipush dX3_turned_36 (by decide)
theorem e_X3_turned_38 : ev X d 93 38 L (.int b :: .int a :: st) h = if a = b then ev X d 93 41 L st h else ev X d 93 44 L st h := g_icmp_ne dX3_turned_38 (by decide)
theorem e_X3_turned_41 : ev X d 93 41 L st h = ev X d 93 43 L (.int (-1000004) :: st) h := g_ldc dX3_turned_41 (by decide)
theorem e_X3_turned_43 : ev X d 93 43 L [.int a] h = some (some (.int a), h) := g_iret dX3_turned_43 rfl
theorem e_X3_turned_44 : ev X d 93 44 (some (va_rf r) :: L) st h = ev X d 93 45 (some (va_rf r) :: L) (va_rf r :: st) h := g_aload_n dX3_turned_44 rfl
theorem e_X3_turned_45 (hc : I_isC X h q 3 = true) (hs : I_cat st ≤ 8) : ev X (d + 1) 93 45 L (va_rf (some q) :: st) h = (ev X d 78 0 [some (va_rf (some q)), none, none, none] [] h).bind (fun r => ev X (d + 1) 93 48 L (r.1.toList ++ st) r.2) := g_callV (as := []) dX3_turned_45 (by decide) (by decide) I_np_78 rfl (by simp only [List.reverse_cons, List.reverse_nil, List.nil_append, List.cons_append, I_slots_n, I_slots_i, I_slots_d, I_slots_q, List.length_cons, List.length_nil]; decide) (by simp only [I_ent, List.reverse_cons, List.reverse_nil, List.nil_append, List.cons_append, I_slots_n, I_slots_i, I_slots_d, I_slots_q, List.length_cons, List.length_nil]; rfl) rfl hc hs
theorem e_X3_turned_48 : ev X d 93 48 (some (va_rf r) :: L) st h = ev X d 93 49 (some (va_rf r) :: L) (va_rf r :: st) h := g_aload_n dX3_turned_48 rfl
theorem e_X3_turned_49 : ev X d 93 49 (some (va_rf r) :: L) st h = ev X d 93 50 (some (va_rf r) :: L) (va_rf r :: st) h := g_aload_n dX3_turned_49 rfl
theorem e_X3_turned_50 : ev X d 93 50 L (va_rf (some q) :: st) h = (I_getf X h q 3 1).bind (fun v => ev X d 93 53 L (v :: st) h) := g_get dX3_turned_50 (by decide)
theorem e_X3_turned_53 : ev X d 93 53 (x0 :: some (.int a) :: L) st h = ev X d 93 54 (x0 :: some (.int a) :: L) (.int a :: st) h := g_iload_n dX3_turned_53 rfl
theorem e_X3_turned_54 : ev X d 93 54 L (.int i :: va_rf (some q) :: st) h = (I_aldi X h 0 q i).bind (fun v => ev X d 93 55 L (.int v :: st) h) := g_iald dX3_turned_54 (by decide)
theorem e_X3_turned_55 : ev X d 93 55 (some (va_rf r) :: L) st h = ev X d 93 56 (some (va_rf r) :: L) (va_rf r :: st) h := g_aload_n dX3_turned_55 rfl
theorem e_X3_turned_56 : ev X d 93 56 (x0 :: some (.int a) :: L) st h = ev X d 93 57 (x0 :: some (.int a) :: L) (.int a :: st) h := g_iload_n dX3_turned_56 rfl
theorem e_X3_turned_57 (hc : I_isC X h q 3 = true) (hs : I_cat st ≤ 8) : ev X (d + 1) 93 57 L (.int a1 :: va_rf (some q) :: st) h = (ev X d 91 0 [some (va_rf (some q)), some (.int a1)] [] h).bind (fun r => ev X (d + 1) 93 60 L (r.1.toList ++ st) r.2) := g_callV (as := [.int a1]) dX3_turned_57 (by decide) (by decide) I_np_91 rfl (by simp only [List.reverse_cons, List.reverse_nil, List.nil_append, List.cons_append, I_slots_n, I_slots_i, I_slots_d, I_slots_q, List.length_cons, List.length_nil]; decide) (by simp only [I_ent, List.reverse_cons, List.reverse_nil, List.nil_append, List.cons_append, I_slots_n, I_slots_i, I_slots_d, I_slots_q, List.length_cons, List.length_nil]; rfl) rfl hc hs
theorem e_X3_turned_60 : ev X d 93 60 (some (va_rf r) :: L) st h = ev X d 93 61 (some (va_rf r) :: L) (va_rf r :: st) h := g_aload_n dX3_turned_60 rfl
theorem e_X3_turned_61 : ev X d 93 61 L (va_rf (some q) :: st) h = (I_getf X h q 3 2).bind (fun v => ev X d 93 64 L (v :: st) h) := g_get dX3_turned_61 (by decide)
theorem e_X3_turned_64 : ev X d 93 64 (x0 :: some (.int a) :: L) st h = ev X d 93 65 (x0 :: some (.int a) :: L) (.int a :: st) h := g_iload_n dX3_turned_64 rfl
theorem e_X3_turned_65 : ev X d 93 65 L (.int i :: va_rf (some q) :: st) h = (I_aldi X h 0 q i).bind (fun v => ev X d 93 66 L (.int v :: st) h) := g_iald dX3_turned_65 (by decide)
theorem e_X3_turned_66 (hc : I_isC X h q 3 = true) (hs : I_cat st ≤ 8) : ev X (d + 1) 93 66 L (.int a3 :: .int a2 :: .int a1 :: va_rf (some q) :: st) h = (ev X d 74 0 [some (va_rf (some q)), some (.int a1), some (.int a2), some (.int a3), none, none] [] h).bind (fun r => ev X (d + 1) 93 69 L (r.1.toList ++ st) r.2) := g_callV (as := [.int a3, .int a2, .int a1]) dX3_turned_66 (by decide) (by decide) I_np_74 rfl (by simp only [List.reverse_cons, List.reverse_nil, List.nil_append, List.cons_append, I_slots_n, I_slots_i, I_slots_d, I_slots_q, List.length_cons, List.length_nil]; decide) (by simp only [I_ent, List.reverse_cons, List.reverse_nil, List.nil_append, List.cons_append, I_slots_n, I_slots_i, I_slots_d, I_slots_q, List.length_cons, List.length_nil]; rfl) rfl hc hs
theorem e_X3_turned_69 (hx : I_c2 x1 = false) : ev X d 93 69 (x0 :: x1 :: x2 :: L) (.int a :: st) h = ev X d 93 70 (x0 :: x1 :: some (.int a) :: L) st h := g_istore_n dX3_turned_69 (I_st1_2 hx)
theorem e_X3_turned_70 : ev X d 93 70 L st h = ev X d 93 71 L (.int 0 :: st) h := g_iconst dX3_turned_70 (by decide)
theorem e_X3_turned_71 (hx : I_c2 x2 = false) : ev X d 93 71 (x0 :: x1 :: x2 :: x3 :: L) (.int a :: st) h = ev X d 93 72 (x0 :: x1 :: x2 :: some (.int a) :: L) st h := g_istore_n dX3_turned_71 (I_st1_3 hx)
theorem e_X3_turned_72 : ev X d 93 72 (x0 :: x1 :: x2 :: some (.int a) :: L) st h = ev X d 93 73 (x0 :: x1 :: x2 :: some (.int a) :: L) (.int a :: st) h := g_iload_n dX3_turned_72 rfl
theorem e_X3_turned_73 : ev X d 93 73 (some (va_rf r) :: L) st h = ev X d 93 74 (some (va_rf r) :: L) (va_rf r :: st) h := g_aload_n dX3_turned_73 rfl
theorem e_X3_turned_74 : ev X d 93 74 L (va_rf (some q) :: st) h = (I_getf X h q 3 2).bind (fun v => ev X d 93 77 L (v :: st) h) := g_get dX3_turned_74 (by decide)
theorem e_X3_turned_77 : ev X d 93 77 (x0 :: x1 :: some (.int a) :: L) st h = ev X d 93 78 (x0 :: x1 :: some (.int a) :: L) (.int a :: st) h := g_iload_n dX3_turned_77 rfl
theorem e_X3_turned_78 : ev X d 93 78 L (.int i :: va_rf (some q) :: st) h = (I_aldi X h 0 q i).bind (fun v => ev X d 93 79 L (.int v :: st) h) := g_iald dX3_turned_78 (by decide)
theorem e_X3_turned_79 : ev X d 93 79 L (.int b :: .int a :: st) h = if b ≤ a then ev X d 93 160 L st h else ev X d 93 82 L st h := g_icmp_ge dX3_turned_79 (by decide)
theorem e_X3_turned_82 : ev X d 93 82 L st h = ev X d 93 83 L (.int 0 :: st) h := g_iconst dX3_turned_82 (by decide)
theorem e_X3_turned_83 (hx : I_c2 x3 = false) : ev X d 93 83 (x0 :: x1 :: x2 :: x3 :: x4 :: L) (.int a :: st) h = ev X d 93 85 (x0 :: x1 :: x2 :: x3 :: some (.int a) :: L) st h := g_istore dX3_turned_83 (I_st1_4 hx)
theorem e_X3_turned_85 : ev X d 93 85 (x0 :: x1 :: x2 :: x3 :: some (.int a) :: L) st h = ev X d 93 87 (x0 :: x1 :: x2 :: x3 :: some (.int a) :: L) (.int a :: st) h := g_iload dX3_turned_85 rfl
theorem e_X3_turned_87 : ev X d 93 87 (some (va_rf r) :: L) st h = ev X d 93 88 (some (va_rf r) :: L) (va_rf r :: st) h := g_aload_n dX3_turned_87 rfl
theorem e_X3_turned_88 : ev X d 93 88 L (va_rf (some q) :: st) h = (I_getf X h q 3 2).bind (fun v => ev X d 93 91 L (v :: st) h) := g_get dX3_turned_88 (by decide)
theorem e_X3_turned_91 : ev X d 93 91 (x0 :: some (.int a) :: L) st h = ev X d 93 92 (x0 :: some (.int a) :: L) (.int a :: st) h := g_iload_n dX3_turned_91 rfl
theorem e_X3_turned_92 : ev X d 93 92 L (.int i :: va_rf (some q) :: st) h = (I_aldi X h 0 q i).bind (fun v => ev X d 93 93 L (.int v :: st) h) := g_iald dX3_turned_92 (by decide)
theorem e_X3_turned_93 : ev X d 93 93 L (.int b :: .int a :: st) h = if b ≤ a then ev X d 93 154 L st h else ev X d 93 96 L st h := g_icmp_ge dX3_turned_93 (by decide)
theorem e_X3_turned_96 : ev X d 93 96 (some (va_rf r) :: L) st h = ev X d 93 97 (some (va_rf r) :: L) (va_rf r :: st) h := g_aload_n dX3_turned_96 rfl
theorem e_X3_turned_97 : ev X d 93 97 L (va_rf (some q) :: st) h = (I_getf X h q 3 6).bind (fun v => ev X d 93 100 L (v :: st) h) := g_get dX3_turned_97 (by decide)
theorem e_X3_turned_100 : ev X d 93 100 (some (va_rf r) :: L) st h = ev X d 93 101 (some (va_rf r) :: L) (va_rf r :: st) h := g_aload_n dX3_turned_100 rfl
theorem e_X3_turned_101 : ev X d 93 101 (x0 :: x1 :: some (.int a) :: L) st h = ev X d 93 102 (x0 :: x1 :: some (.int a) :: L) (.int a :: st) h := g_iload_n dX3_turned_101 rfl
theorem e_X3_turned_102 : ev X d 93 102 (x0 :: x1 :: x2 :: some (.int a) :: L) st h = ev X d 93 103 (x0 :: x1 :: x2 :: some (.int a) :: L) (.int a :: st) h := g_iload_n dX3_turned_102 rfl
theorem e_X3_turned_103 : ev X d 93 103 (x0 :: x1 :: x2 :: x3 :: some (.int a) :: L) st h = ev X d 93 105 (x0 :: x1 :: x2 :: x3 :: some (.int a) :: L) (.int a :: st) h := g_iload dX3_turned_103 rfl
theorem e_X3_turned_105 (hc : I_isC X h q 3 = true) (hs : I_cat st ≤ 8) : ev X (d + 1) 93 105 L (.int a3 :: .int a2 :: .int a1 :: va_rf (some q) :: st) h = (ev X d 92 0 [some (va_rf (some q)), some (.int a1), some (.int a2), some (.int a3)] [] h).bind (fun r => ev X (d + 1) 93 108 L (r.1.toList ++ st) r.2) := g_callV (as := [.int a3, .int a2, .int a1]) dX3_turned_105 (by decide) (by decide) I_np_92 rfl (by simp only [List.reverse_cons, List.reverse_nil, List.nil_append, List.cons_append, I_slots_n, I_slots_i, I_slots_d, I_slots_q, List.length_cons, List.length_nil]; decide) (by simp only [I_ent, List.reverse_cons, List.reverse_nil, List.nil_append, List.cons_append, I_slots_n, I_slots_i, I_slots_d, I_slots_q, List.length_cons, List.length_nil]; rfl) rfl hc hs
theorem e_X3_turned_108 : ev X d 93 108 (some (va_rf r) :: L) st h = ev X d 93 109 (some (va_rf r) :: L) (va_rf r :: st) h := g_aload_n dX3_turned_108 rfl
theorem e_X3_turned_109 : ev X d 93 109 L (va_rf (some q) :: st) h = (I_getf X h q 3 6).bind (fun v => ev X d 93 112 L (v :: st) h) := g_get dX3_turned_109 (by decide)
theorem e_X3_turned_112 : ev X d 93 112 (some (va_rf r) :: L) st h = ev X d 93 113 (some (va_rf r) :: L) (va_rf r :: st) h := g_aload_n dX3_turned_112 rfl
theorem e_X3_turned_113 : ev X d 93 113 (x0 :: some (.int a) :: L) st h = ev X d 93 114 (x0 :: some (.int a) :: L) (.int a :: st) h := g_iload_n dX3_turned_113 rfl
theorem e_X3_turned_114 : ev X d 93 114 (x0 :: x1 :: x2 :: x3 :: some (.int a) :: L) st h = ev X d 93 116 (x0 :: x1 :: x2 :: x3 :: some (.int a) :: L) (.int a :: st) h := g_iload dX3_turned_114 rfl
theorem e_X3_turned_116 : ev X d 93 116 (x0 :: x1 :: x2 :: some (.int a) :: L) st h = ev X d 93 117 (x0 :: x1 :: x2 :: some (.int a) :: L) (.int a :: st) h := g_iload_n dX3_turned_116 rfl
theorem e_X3_turned_117 (hc : I_isC X h q 3 = true) (hs : I_cat st ≤ 8) : ev X (d + 1) 93 117 L (.int a3 :: .int a2 :: .int a1 :: va_rf (some q) :: st) h = (ev X d 92 0 [some (va_rf (some q)), some (.int a1), some (.int a2), some (.int a3)] [] h).bind (fun r => ev X (d + 1) 93 120 L (r.1.toList ++ st) r.2) := g_callV (as := [.int a3, .int a2, .int a1]) dX3_turned_117 (by decide) (by decide) I_np_92 rfl (by simp only [List.reverse_cons, List.reverse_nil, List.nil_append, List.cons_append, I_slots_n, I_slots_i, I_slots_d, I_slots_q, List.length_cons, List.length_nil]; decide) (by simp only [I_ent, List.reverse_cons, List.reverse_nil, List.nil_append, List.cons_append, I_slots_n, I_slots_i, I_slots_d, I_slots_q, List.length_cons, List.length_nil]; rfl) rfl hc hs
theorem e_X3_turned_120 : ev X d 93 120 L (.int i :: va_rf (some q) :: st) h = (I_aldi X h 0 q i).bind (fun v => ev X d 93 121 L (.int v :: st) h) := g_iald dX3_turned_120 (by decide)
theorem e_X3_turned_121 : ev X d 93 121 L (.int v :: .int i :: va_rf (some q) :: st) h = (I_asti X h 0 q i v).bind (fun h => ev X d 93 122 L st h) := g_iast dX3_turned_121
theorem e_X3_turned_122 : ev X d 93 122 (some (va_rf r) :: L) st h = ev X d 93 123 (some (va_rf r) :: L) (va_rf r :: st) h := g_aload_n dX3_turned_122 rfl
theorem e_X3_turned_123 : ev X d 93 123 L (va_rf (some q) :: st) h = (I_getf X h q 3 7).bind (fun v => ev X d 93 126 L (v :: st) h) := g_get dX3_turned_123 (by decide)
theorem e_X3_turned_126 : ev X d 93 126 (some (va_rf r) :: L) st h = ev X d 93 127 (some (va_rf r) :: L) (va_rf r :: st) h := g_aload_n dX3_turned_126 rfl
theorem e_X3_turned_127 : ev X d 93 127 (x0 :: x1 :: some (.int a) :: L) st h = ev X d 93 128 (x0 :: x1 :: some (.int a) :: L) (.int a :: st) h := g_iload_n dX3_turned_127 rfl
theorem e_X3_turned_128 : ev X d 93 128 (x0 :: x1 :: x2 :: some (.int a) :: L) st h = ev X d 93 129 (x0 :: x1 :: x2 :: some (.int a) :: L) (.int a :: st) h := g_iload_n dX3_turned_128 rfl
theorem e_X3_turned_129 : ev X d 93 129 (x0 :: x1 :: x2 :: x3 :: some (.int a) :: L) st h = ev X d 93 131 (x0 :: x1 :: x2 :: x3 :: some (.int a) :: L) (.int a :: st) h := g_iload dX3_turned_129 rfl
theorem e_X3_turned_131 (hc : I_isC X h q 3 = true) (hs : I_cat st ≤ 8) : ev X (d + 1) 93 131 L (.int a3 :: .int a2 :: .int a1 :: va_rf (some q) :: st) h = (ev X d 92 0 [some (va_rf (some q)), some (.int a1), some (.int a2), some (.int a3)] [] h).bind (fun r => ev X (d + 1) 93 134 L (r.1.toList ++ st) r.2) := g_callV (as := [.int a3, .int a2, .int a1]) dX3_turned_131 (by decide) (by decide) I_np_92 rfl (by simp only [List.reverse_cons, List.reverse_nil, List.nil_append, List.cons_append, I_slots_n, I_slots_i, I_slots_d, I_slots_q, List.length_cons, List.length_nil]; decide) (by simp only [I_ent, List.reverse_cons, List.reverse_nil, List.nil_append, List.cons_append, I_slots_n, I_slots_i, I_slots_d, I_slots_q, List.length_cons, List.length_nil]; rfl) rfl hc hs
theorem e_X3_turned_134 : ev X d 93 134 (some (va_rf r) :: L) st h = ev X d 93 135 (some (va_rf r) :: L) (va_rf r :: st) h := g_aload_n dX3_turned_134 rfl
theorem e_X3_turned_135 : ev X d 93 135 L (va_rf (some q) :: st) h = (I_getf X h q 3 7).bind (fun v => ev X d 93 138 L (v :: st) h) := g_get dX3_turned_135 (by decide)
theorem e_X3_turned_138 : ev X d 93 138 (some (va_rf r) :: L) st h = ev X d 93 139 (some (va_rf r) :: L) (va_rf r :: st) h := g_aload_n dX3_turned_138 rfl
theorem e_X3_turned_139 : ev X d 93 139 (x0 :: some (.int a) :: L) st h = ev X d 93 140 (x0 :: some (.int a) :: L) (.int a :: st) h := g_iload_n dX3_turned_139 rfl
theorem e_X3_turned_140 : ev X d 93 140 (x0 :: x1 :: x2 :: x3 :: some (.int a) :: L) st h = ev X d 93 142 (x0 :: x1 :: x2 :: x3 :: some (.int a) :: L) (.int a :: st) h := g_iload dX3_turned_140 rfl
theorem e_X3_turned_142 : ev X d 93 142 (x0 :: x1 :: x2 :: some (.int a) :: L) st h = ev X d 93 143 (x0 :: x1 :: x2 :: some (.int a) :: L) (.int a :: st) h := g_iload_n dX3_turned_142 rfl
theorem e_X3_turned_143 (hc : I_isC X h q 3 = true) (hs : I_cat st ≤ 8) : ev X (d + 1) 93 143 L (.int a3 :: .int a2 :: .int a1 :: va_rf (some q) :: st) h = (ev X d 92 0 [some (va_rf (some q)), some (.int a1), some (.int a2), some (.int a3)] [] h).bind (fun r => ev X (d + 1) 93 146 L (r.1.toList ++ st) r.2) := g_callV (as := [.int a3, .int a2, .int a1]) dX3_turned_143 (by decide) (by decide) I_np_92 rfl (by simp only [List.reverse_cons, List.reverse_nil, List.nil_append, List.cons_append, I_slots_n, I_slots_i, I_slots_d, I_slots_q, List.length_cons, List.length_nil]; decide) (by simp only [I_ent, List.reverse_cons, List.reverse_nil, List.nil_append, List.cons_append, I_slots_n, I_slots_i, I_slots_d, I_slots_q, List.length_cons, List.length_nil]; rfl) rfl hc hs
theorem e_X3_turned_146 : ev X d 93 146 L (.int i :: va_rf (some q) :: st) h = (I_aldd X h q i).bind (fun v => ev X d 93 147 L (.double v :: st) h) := g_dald dX3_turned_146
theorem e_X3_turned_147 : ev X d 93 147 L (.double w :: .int i :: va_rf (some q) :: st) h = (I_astd X h q i w).bind (fun h => ev X d 93 148 L st h) := g_dast dX3_turned_147
theorem e_X3_turned_148 (hx : I_c2 x3 = false) : ev X d 93 148 (x0 :: x1 :: x2 :: x3 :: some (.int a) :: L) st h = ev X d 93 151 (x0 :: x1 :: x2 :: x3 :: some (.int (a + 1)) :: L) st h := g_iinc dX3_turned_148 (by decide) rfl (I_st1_4 hx)
theorem e_X3_turned_151 : ev X d 93 151 L st h = ev X d 93 85 L st h := g_goto dX3_turned_151 (by decide)
theorem e_X3_turned_154 (hx : I_c2 x2 = false) : ev X d 93 154 (x0 :: x1 :: x2 :: some (.int a) :: L) st h = ev X d 93 157 (x0 :: x1 :: x2 :: some (.int (a + 1)) :: L) st h := g_iinc dX3_turned_154 (by decide) rfl (I_st1_3 hx)
theorem e_X3_turned_157 : ev X d 93 157 L st h = ev X d 93 72 L st h := g_goto dX3_turned_157 (by decide)
theorem e_X3_turned_160 : ev X d 93 160 (x0 :: x1 :: some (.int a) :: L) st h = ev X d 93 161 (x0 :: x1 :: some (.int a) :: L) (.int a :: st) h := g_iload_n dX3_turned_160 rfl
theorem e_X3_turned_161 : ev X d 93 161 L [.int a] h = some (some (.int a), h) := g_iret dX3_turned_161 rfl
theorem e_X3_hasNone_0 : ev X d 94 0 (x0 :: some (.double w) :: L) st h = ev X d 94 1 (x0 :: some (.double w) :: L) (.double w :: st) h := g_dload_n dX3_hasNone_0 rfl
theorem e_X3_hasNone_1 : ev X d 94 1 L st h = ev X d 94 4 L (.double 9218868437227405311 :: st) h := g_ldcd dX3_hasNone_1 (by decide)
theorem e_X3_hasNone_4 : ev X d 94 4 L (.double w2 :: .double w1 :: st) h = ev X d 94 5 L (.int (Op.cmpValue (FP.dcmp w1 w2) .l) :: st) h := g_dcmp dX3_hasNone_4
theorem e_X3_hasNone_5 : ev X d 94 5 L (.int a :: st) h = if 0 < a then ev X d 94 16 L st h else ev X d 94 8 L st h := g_if_gt dX3_hasNone_5 (by decide)
theorem e_X3_hasNone_8 : ev X d 94 8 (x0 :: some (.double w) :: L) st h = ev X d 94 9 (x0 :: some (.double w) :: L) (.double w :: st) h := g_dload_n dX3_hasNone_8 rfl
theorem e_X3_hasNone_9 : ev X d 94 9 L st h = ev X d 94 12 L (.double 18442240474082181119 :: st) h := g_ldcd dX3_hasNone_9 (by decide)
theorem e_X3_hasNone_12 : ev X d 94 12 L (.double w2 :: .double w1 :: st) h = ev X d 94 13 L (.int (Op.cmpValue (FP.dcmp w1 w2) .g) :: st) h := g_dcmp dX3_hasNone_12
theorem e_X3_hasNone_13 : ev X d 94 13 L (.int a :: st) h = if 0 ≤ a then ev X d 94 20 L st h else ev X d 94 16 L st h := g_if_ge dX3_hasNone_13 (by decide)
theorem e_X3_hasNone_16 : ev X d 94 16 L st h = ev X d 94 17 L (.int 1 :: st) h := g_iconst dX3_hasNone_16 (by decide)
theorem e_X3_hasNone_17 : ev X d 94 17 L st h = ev X d 94 21 L st h := g_goto dX3_hasNone_17 (by decide)
theorem e_X3_hasNone_20 : ev X d 94 20 L st h = ev X d 94 21 L (.int 0 :: st) h := g_iconst dX3_hasNone_20 (by decide)
theorem e_X3_hasNone_21 (hx : I_c2 x4 = false) : ev X d 94 21 (x0 :: x1 :: x2 :: x3 :: x4 :: x5 :: L) (.int a :: st) h = ev X d 94 23 (x0 :: x1 :: x2 :: x3 :: x4 :: some (.int a) :: L) st h := g_istore dX3_hasNone_21 (I_st1_5 hx)
theorem e_X3_hasNone_23 : ev X d 94 23 (x0 :: x1 :: x2 :: some (.double w) :: L) st h = ev X d 94 24 (x0 :: x1 :: x2 :: some (.double w) :: L) (.double w :: st) h := g_dload_n dX3_hasNone_23 rfl
theorem e_X3_hasNone_24 : ev X d 94 24 L st h = ev X d 94 27 L (.double 9218868437227405311 :: st) h := g_ldcd dX3_hasNone_24 (by decide)
theorem e_X3_hasNone_27 : ev X d 94 27 L (.double w2 :: .double w1 :: st) h = ev X d 94 28 L (.int (Op.cmpValue (FP.dcmp w1 w2) .l) :: st) h := g_dcmp dX3_hasNone_27
theorem e_X3_hasNone_28 : ev X d 94 28 L (.int a :: st) h = if 0 < a then ev X d 94 39 L st h else ev X d 94 31 L st h := g_if_gt dX3_hasNone_28 (by decide)
theorem e_X3_hasNone_31 : ev X d 94 31 (x0 :: x1 :: x2 :: some (.double w) :: L) st h = ev X d 94 32 (x0 :: x1 :: x2 :: some (.double w) :: L) (.double w :: st) h := g_dload_n dX3_hasNone_31 rfl
theorem e_X3_hasNone_32 : ev X d 94 32 L st h = ev X d 94 35 L (.double 18442240474082181119 :: st) h := g_ldcd dX3_hasNone_32 (by decide)
theorem e_X3_hasNone_35 : ev X d 94 35 L (.double w2 :: .double w1 :: st) h = ev X d 94 36 L (.int (Op.cmpValue (FP.dcmp w1 w2) .g) :: st) h := g_dcmp dX3_hasNone_35
theorem e_X3_hasNone_36 : ev X d 94 36 L (.int a :: st) h = if 0 ≤ a then ev X d 94 43 L st h else ev X d 94 39 L st h := g_if_ge dX3_hasNone_36 (by decide)
theorem e_X3_hasNone_39 : ev X d 94 39 L st h = ev X d 94 40 L (.int 1 :: st) h := g_iconst dX3_hasNone_39 (by decide)
theorem e_X3_hasNone_40 : ev X d 94 40 L st h = ev X d 94 44 L st h := g_goto dX3_hasNone_40 (by decide)
theorem e_X3_hasNone_43 : ev X d 94 43 L st h = ev X d 94 44 L (.int 0 :: st) h := g_iconst dX3_hasNone_43 (by decide)
theorem e_X3_hasNone_44 (hx : I_c2 x5 = false) : ev X d 94 44 (x0 :: x1 :: x2 :: x3 :: x4 :: x5 :: x6 :: L) (.int a :: st) h = ev X d 94 46 (x0 :: x1 :: x2 :: x3 :: x4 :: x5 :: some (.int a) :: L) st h := g_istore dX3_hasNone_44 (I_st1_6 hx)
theorem e_X3_hasNone_46 : ev X d 94 46 (some (.int a) :: L) st h = ev X d 94 47 (some (.int a) :: L) (.int a :: st) h := g_iload_n dX3_hasNone_46 rfl
theorem e_X3_hasNone_47_0 : ev X d 94 47 L (.int 0 :: st) h = ev X d 94 80 L st h := g_tabI (off := 33) dX3_hasNone_47 (by decide) (by decide) (by decide)
theorem e_X3_hasNone_47_1 : ev X d 94 47 L (.int 1 :: st) h = ev X d 94 121 L st h := g_tabI (off := 74) dX3_hasNone_47 (by decide) (by decide) (by decide)
theorem e_X3_hasNone_47_2 : ev X d 94 47 L (.int 2 :: st) h = ev X d 94 162 L st h := g_tabI (off := 115) dX3_hasNone_47 (by decide) (by decide) (by decide)
theorem e_X3_hasNone_47_3 : ev X d 94 47 L (.int 3 :: st) h = ev X d 94 190 L st h := g_tabI (off := 143) dX3_hasNone_47 (by decide) (by decide) (by decide)
theorem e_X3_hasNone_47_4 : ev X d 94 47 L (.int 4 :: st) h = ev X d 94 218 L st h := g_tabI (off := 171) dX3_hasNone_47 (by decide) (by decide) (by decide)
theorem e_X3_hasNone_47_d (hx : a.toInt < 0 ∨ 4 < a.toInt) : ev X d 94 47 L (.int a :: st) h = ev X d 94 235 L st h := g_tabO dX3_hasNone_47 hx (by decide)
theorem e_X3_hasNone_80 : ev X d 94 80 (x0 :: x1 :: x2 :: x3 :: x4 :: some (.int a) :: L) st h = ev X d 94 82 (x0 :: x1 :: x2 :: x3 :: x4 :: some (.int a) :: L) (.int a :: st) h := g_iload dX3_hasNone_80 rfl
theorem e_X3_hasNone_82 : ev X d 94 82 L (.int a :: st) h = if a = 0 then ev X d 94 119 L st h else ev X d 94 85 L st h := g_if_eq dX3_hasNone_82 (by decide)
theorem e_X3_hasNone_85 : ev X d 94 85 (x0 :: x1 :: x2 :: x3 :: x4 :: x5 :: some (.int a) :: L) st h = ev X d 94 87 (x0 :: x1 :: x2 :: x3 :: x4 :: x5 :: some (.int a) :: L) (.int a :: st) h := g_iload dX3_hasNone_85 rfl
theorem e_X3_hasNone_87 : ev X d 94 87 L (.int a :: st) h = if a = 0 then ev X d 94 119 L st h else ev X d 94 90 L st h := g_if_eq dX3_hasNone_87 (by decide)
theorem e_X3_hasNone_90 : ev X d 94 90 (x0 :: some (.double w) :: L) st h = ev X d 94 91 (x0 :: some (.double w) :: L) (.double w :: st) h := g_dload_n dX3_hasNone_90 rfl
theorem e_X3_hasNone_91 : ev X d 94 91 L st h = ev X d 94 92 L (.double 0 :: st) h := g_dconst dX3_hasNone_91
theorem e_X3_hasNone_92 : ev X d 94 92 L (.double w2 :: .double w1 :: st) h = ev X d 94 93 L (.int (Op.cmpValue (FP.dcmp w1 w2) .l) :: st) h := g_dcmp dX3_hasNone_92
theorem e_X3_hasNone_93 : ev X d 94 93 L (.int a :: st) h = if a ≤ 0 then ev X d 94 100 L st h else ev X d 94 96 L st h := g_if_le dX3_hasNone_93 (by decide)
theorem e_X3_hasNone_96 : ev X d 94 96 L st h = ev X d 94 97 L (.int 1 :: st) h := g_iconst dX3_hasNone_96 (by decide)
theorem e_X3_hasNone_97 : ev X d 94 97 L st h = ev X d 94 101 L st h := g_goto dX3_hasNone_97 (by decide)
theorem e_X3_hasNone_100 : ev X d 94 100 L st h = ev X d 94 101 L (.int 0 :: st) h := g_iconst dX3_hasNone_100 (by decide)
theorem e_X3_hasNone_101 : ev X d 94 101 (x0 :: x1 :: x2 :: some (.double w) :: L) st h = ev X d 94 102 (x0 :: x1 :: x2 :: some (.double w) :: L) (.double w :: st) h := g_dload_n dX3_hasNone_101 rfl
theorem e_X3_hasNone_102 : ev X d 94 102 L st h = ev X d 94 103 L (.double 0 :: st) h := g_dconst dX3_hasNone_102
theorem e_X3_hasNone_103 : ev X d 94 103 L (.double w2 :: .double w1 :: st) h = ev X d 94 104 L (.int (Op.cmpValue (FP.dcmp w1 w2) .l) :: st) h := g_dcmp dX3_hasNone_103
theorem e_X3_hasNone_104 : ev X d 94 104 L (.int a :: st) h = if a ≤ 0 then ev X d 94 111 L st h else ev X d 94 107 L st h := g_if_le dX3_hasNone_104 (by decide)
theorem e_X3_hasNone_107 : ev X d 94 107 L st h = ev X d 94 108 L (.int 1 :: st) h := g_iconst dX3_hasNone_107 (by decide)
theorem e_X3_hasNone_108 : ev X d 94 108 L st h = ev X d 94 112 L st h := g_goto dX3_hasNone_108 (by decide)
theorem e_X3_hasNone_111 : ev X d 94 111 L st h = ev X d 94 112 L (.int 0 :: st) h := g_iconst dX3_hasNone_111 (by decide)
theorem e_X3_hasNone_112 : ev X d 94 112 L (.int b :: .int a :: st) h = if a = b then ev X d 94 119 L st h else ev X d 94 115 L st h := g_icmp_eq dX3_hasNone_112 (by decide)
theorem e_X3_hasNone_115 : ev X d 94 115 L st h = ev X d 94 116 L (.int 1 :: st) h := g_iconst dX3_hasNone_115 (by decide)
theorem e_X3_hasNone_116 : ev X d 94 116 L st h = ev X d 94 120 L st h := g_goto dX3_hasNone_116 (by decide)
theorem e_X3_hasNone_119 : ev X d 94 119 L st h = ev X d 94 120 L (.int 0 :: st) h := g_iconst dX3_hasNone_119 (by decide)
theorem e_X3_hasNone_120 (ha : a = 0 ∨ a = 1) : ev X d 94 120 L [.int a] h = some (some (.int a), h) := g_zret dX3_hasNone_120 rfl ha
theorem e_X3_hasNone_121 : ev X d 94 121 (x0 :: x1 :: x2 :: x3 :: x4 :: some (.int a) :: L) st h = ev X d 94 123 (x0 :: x1 :: x2 :: x3 :: x4 :: some (.int a) :: L) (.int a :: st) h := g_iload dX3_hasNone_121 rfl
theorem e_X3_hasNone_123 : ev X d 94 123 L (.int a :: st) h = if a = 0 then ev X d 94 160 L st h else ev X d 94 126 L st h := g_if_eq dX3_hasNone_123 (by decide)
theorem e_X3_hasNone_126 : ev X d 94 126 (x0 :: x1 :: x2 :: x3 :: x4 :: x5 :: some (.int a) :: L) st h = ev X d 94 128 (x0 :: x1 :: x2 :: x3 :: x4 :: x5 :: some (.int a) :: L) (.int a :: st) h := g_iload dX3_hasNone_126 rfl
theorem e_X3_hasNone_128 : ev X d 94 128 L (.int a :: st) h = if a = 0 then ev X d 94 160 L st h else ev X d 94 131 L st h := g_if_eq dX3_hasNone_128 (by decide)
theorem e_X3_hasNone_131 : ev X d 94 131 (x0 :: some (.double w) :: L) st h = ev X d 94 132 (x0 :: some (.double w) :: L) (.double w :: st) h := g_dload_n dX3_hasNone_131 rfl
theorem e_X3_hasNone_132 : ev X d 94 132 L st h = ev X d 94 133 L (.double 0 :: st) h := g_dconst dX3_hasNone_132
theorem e_X3_hasNone_133 : ev X d 94 133 L (.double w2 :: .double w1 :: st) h = ev X d 94 134 L (.int (Op.cmpValue (FP.dcmp w1 w2) .l) :: st) h := g_dcmp dX3_hasNone_133
theorem e_X3_hasNone_134 : ev X d 94 134 L (.int a :: st) h = if a ≤ 0 then ev X d 94 141 L st h else ev X d 94 137 L st h := g_if_le dX3_hasNone_134 (by decide)
theorem e_X3_hasNone_137 : ev X d 94 137 L st h = ev X d 94 138 L (.int 1 :: st) h := g_iconst dX3_hasNone_137 (by decide)
theorem e_X3_hasNone_138 : ev X d 94 138 L st h = ev X d 94 142 L st h := g_goto dX3_hasNone_138 (by decide)
theorem e_X3_hasNone_141 : ev X d 94 141 L st h = ev X d 94 142 L (.int 0 :: st) h := g_iconst dX3_hasNone_141 (by decide)
theorem e_X3_hasNone_142 : ev X d 94 142 (x0 :: x1 :: x2 :: some (.double w) :: L) st h = ev X d 94 143 (x0 :: x1 :: x2 :: some (.double w) :: L) (.double w :: st) h := g_dload_n dX3_hasNone_142 rfl
theorem e_X3_hasNone_143 : ev X d 94 143 L st h = ev X d 94 144 L (.double 0 :: st) h := g_dconst dX3_hasNone_143
theorem e_X3_hasNone_144 : ev X d 94 144 L (.double w2 :: .double w1 :: st) h = ev X d 94 145 L (.int (Op.cmpValue (FP.dcmp w1 w2) .l) :: st) h := g_dcmp dX3_hasNone_144
theorem e_X3_hasNone_145 : ev X d 94 145 L (.int a :: st) h = if a ≤ 0 then ev X d 94 152 L st h else ev X d 94 148 L st h := g_if_le dX3_hasNone_145 (by decide)
theorem e_X3_hasNone_148 : ev X d 94 148 L st h = ev X d 94 149 L (.int 1 :: st) h := g_iconst dX3_hasNone_148 (by decide)
theorem e_X3_hasNone_149 : ev X d 94 149 L st h = ev X d 94 153 L st h := g_goto dX3_hasNone_149 (by decide)
theorem e_X3_hasNone_152 : ev X d 94 152 L st h = ev X d 94 153 L (.int 0 :: st) h := g_iconst dX3_hasNone_152 (by decide)
theorem e_X3_hasNone_153 : ev X d 94 153 L (.int b :: .int a :: st) h = if a = b then ev X d 94 156 L st h else ev X d 94 160 L st h := g_icmp_ne dX3_hasNone_153 (by decide)
theorem e_X3_hasNone_156 : ev X d 94 156 L st h = ev X d 94 157 L (.int 1 :: st) h := g_iconst dX3_hasNone_156 (by decide)
theorem e_X3_hasNone_157 : ev X d 94 157 L st h = ev X d 94 161 L st h := g_goto dX3_hasNone_157 (by decide)
theorem e_X3_hasNone_160 : ev X d 94 160 L st h = ev X d 94 161 L (.int 0 :: st) h := g_iconst dX3_hasNone_160 (by decide)
theorem e_X3_hasNone_161 (ha : a = 0 ∨ a = 1) : ev X d 94 161 L [.int a] h = some (some (.int a), h) := g_zret dX3_hasNone_161 rfl ha
theorem e_X3_hasNone_162 : ev X d 94 162 (x0 :: x1 :: x2 :: x3 :: x4 :: some (.int a) :: L) st h = ev X d 94 164 (x0 :: x1 :: x2 :: x3 :: x4 :: some (.int a) :: L) (.int a :: st) h := g_iload dX3_hasNone_162 rfl
theorem e_X3_hasNone_164 : ev X d 94 164 L (.int a :: st) h = if a = 0 then ev X d 94 173 L st h else ev X d 94 167 L st h := g_if_eq dX3_hasNone_164 (by decide)
theorem e_X3_hasNone_167 : ev X d 94 167 (x0 :: x1 :: x2 :: some (.double w) :: L) st h = ev X d 94 168 (x0 :: x1 :: x2 :: some (.double w) :: L) (.double w :: st) h := g_dload_n dX3_hasNone_167 rfl
theorem e_X3_hasNone_168 : ev X d 94 168 L st h = ev X d 94 169 L (.double 0 :: st) h := g_dconst dX3_hasNone_168
theorem e_X3_hasNone_169 : ev X d 94 169 L (.double w2 :: .double w1 :: st) h = ev X d 94 170 L (.int (Op.cmpValue (FP.dcmp w1 w2) .l) :: st) h := g_dcmp dX3_hasNone_169
theorem e_X3_hasNone_170 : ev X d 94 170 L (.int a :: st) h = if a = 0 then ev X d 94 184 L st h else ev X d 94 173 L st h := g_if_eq dX3_hasNone_170 (by decide)
theorem e_X3_hasNone_173 : ev X d 94 173 (x0 :: some (.double w) :: L) st h = ev X d 94 174 (x0 :: some (.double w) :: L) (.double w :: st) h := g_dload_n dX3_hasNone_173 rfl
theorem e_X3_hasNone_174 : ev X d 94 174 L st h = ev X d 94 175 L (.double 0 :: st) h := g_dconst dX3_hasNone_174
theorem e_X3_hasNone_175 : ev X d 94 175 L (.double w2 :: .double w1 :: st) h = ev X d 94 176 L (.int (Op.cmpValue (FP.dcmp w1 w2) .l) :: st) h := g_dcmp dX3_hasNone_175
theorem e_X3_hasNone_176 : ev X d 94 176 L (.int a :: st) h = if a = 0 then ev X d 94 179 L st h else ev X d 94 188 L st h := g_if_ne dX3_hasNone_176 (by decide)
theorem e_X3_hasNone_179 : ev X d 94 179 (x0 :: x1 :: x2 :: x3 :: x4 :: x5 :: some (.int a) :: L) st h = ev X d 94 181 (x0 :: x1 :: x2 :: x3 :: x4 :: x5 :: some (.int a) :: L) (.int a :: st) h := g_iload dX3_hasNone_179 rfl
theorem e_X3_hasNone_181 : ev X d 94 181 L (.int a :: st) h = if a = 0 then ev X d 94 188 L st h else ev X d 94 184 L st h := g_if_eq dX3_hasNone_181 (by decide)
theorem e_X3_hasNone_184 : ev X d 94 184 L st h = ev X d 94 185 L (.int 1 :: st) h := g_iconst dX3_hasNone_184 (by decide)
theorem e_X3_hasNone_185 : ev X d 94 185 L st h = ev X d 94 189 L st h := g_goto dX3_hasNone_185 (by decide)
theorem e_X3_hasNone_188 : ev X d 94 188 L st h = ev X d 94 189 L (.int 0 :: st) h := g_iconst dX3_hasNone_188 (by decide)
theorem e_X3_hasNone_189 (ha : a = 0 ∨ a = 1) : ev X d 94 189 L [.int a] h = some (some (.int a), h) := g_zret dX3_hasNone_189 rfl ha
theorem e_X3_hasNone_190 : ev X d 94 190 (x0 :: x1 :: x2 :: x3 :: x4 :: some (.int a) :: L) st h = ev X d 94 192 (x0 :: x1 :: x2 :: x3 :: x4 :: some (.int a) :: L) (.int a :: st) h := g_iload dX3_hasNone_190 rfl
theorem e_X3_hasNone_192 : ev X d 94 192 L (.int a :: st) h = if a = 0 then ev X d 94 200 L st h else ev X d 94 195 L st h := g_if_eq dX3_hasNone_192 (by decide)
theorem e_X3_hasNone_195 : ev X d 94 195 (x0 :: x1 :: x2 :: x3 :: x4 :: x5 :: some (.int a) :: L) st h = ev X d 94 197 (x0 :: x1 :: x2 :: x3 :: x4 :: x5 :: some (.int a) :: L) (.int a :: st) h := g_iload dX3_hasNone_195 rfl
theorem e_X3_hasNone_197 : ev X d 94 197 L (.int a :: st) h = if a = 0 then ev X d 94 200 L st h else ev X d 94 212 L st h := g_if_ne dX3_hasNone_197 (by decide)
theorem e_X3_hasNone_200 : ev X d 94 200 (x0 :: some (.double w) :: L) st h = ev X d 94 201 (x0 :: some (.double w) :: L) (.double w :: st) h := g_dload_n dX3_hasNone_200 rfl
theorem e_X3_hasNone_201 : ev X d 94 201 L st h = ev X d 94 202 L (.double 0 :: st) h := g_dconst dX3_hasNone_201
theorem e_X3_hasNone_202 : ev X d 94 202 L (.double w2 :: .double w1 :: st) h = ev X d 94 203 L (.int (Op.cmpValue (FP.dcmp w1 w2) .l) :: st) h := g_dcmp dX3_hasNone_202
theorem e_X3_hasNone_203 : ev X d 94 203 L (.int a :: st) h = if a = 0 then ev X d 94 206 L st h else ev X d 94 216 L st h := g_if_ne dX3_hasNone_203 (by decide)
theorem e_X3_hasNone_206 : ev X d 94 206 (x0 :: x1 :: x2 :: some (.double w) :: L) st h = ev X d 94 207 (x0 :: x1 :: x2 :: some (.double w) :: L) (.double w :: st) h := g_dload_n dX3_hasNone_206 rfl
theorem e_X3_hasNone_207 : ev X d 94 207 L st h = ev X d 94 208 L (.double 0 :: st) h := g_dconst dX3_hasNone_207
theorem e_X3_hasNone_208 : ev X d 94 208 L (.double w2 :: .double w1 :: st) h = ev X d 94 209 L (.int (Op.cmpValue (FP.dcmp w1 w2) .l) :: st) h := g_dcmp dX3_hasNone_208
theorem e_X3_hasNone_209 : ev X d 94 209 L (.int a :: st) h = if a = 0 then ev X d 94 212 L st h else ev X d 94 216 L st h := g_if_ne dX3_hasNone_209 (by decide)
theorem e_X3_hasNone_212 : ev X d 94 212 L st h = ev X d 94 213 L (.int 1 :: st) h := g_iconst dX3_hasNone_212 (by decide)
theorem e_X3_hasNone_213 : ev X d 94 213 L st h = ev X d 94 217 L st h := g_goto dX3_hasNone_213 (by decide)
theorem e_X3_hasNone_216 : ev X d 94 216 L st h = ev X d 94 217 L (.int 0 :: st) h := g_iconst dX3_hasNone_216 (by decide)
theorem e_X3_hasNone_217 (ha : a = 0 ∨ a = 1) : ev X d 94 217 L [.int a] h = some (some (.int a), h) := g_zret dX3_hasNone_217 rfl ha
theorem e_X3_hasNone_218 : ev X d 94 218 (x0 :: x1 :: x2 :: x3 :: x4 :: some (.int a) :: L) st h = ev X d 94 220 (x0 :: x1 :: x2 :: x3 :: x4 :: some (.int a) :: L) (.int a :: st) h := g_iload dX3_hasNone_218 rfl
theorem e_X3_hasNone_220 : ev X d 94 220 L (.int a :: st) h = if a = 0 then ev X d 94 223 L st h else ev X d 94 229 L st h := g_if_ne dX3_hasNone_220 (by decide)
theorem e_X3_hasNone_223 : ev X d 94 223 (x0 :: x1 :: x2 :: some (.double w) :: L) st h = ev X d 94 224 (x0 :: x1 :: x2 :: some (.double w) :: L) (.double w :: st) h := g_dload_n dX3_hasNone_223 rfl
theorem e_X3_hasNone_224 : ev X d 94 224 L st h = ev X d 94 225 L (.double 0 :: st) h := g_dconst dX3_hasNone_224
theorem e_X3_hasNone_225 : ev X d 94 225 L (.double w2 :: .double w1 :: st) h = ev X d 94 226 L (.int (Op.cmpValue (FP.dcmp w1 w2) .l) :: st) h := g_dcmp dX3_hasNone_225
theorem e_X3_hasNone_226 : ev X d 94 226 L (.int a :: st) h = if a = 0 then ev X d 94 229 L st h else ev X d 94 233 L st h := g_if_ne dX3_hasNone_226 (by decide)
theorem e_X3_hasNone_229 : ev X d 94 229 L st h = ev X d 94 230 L (.int 1 :: st) h := g_iconst dX3_hasNone_229 (by decide)
theorem e_X3_hasNone_230 : ev X d 94 230 L st h = ev X d 94 234 L st h := g_goto dX3_hasNone_230 (by decide)
theorem e_X3_hasNone_233 : ev X d 94 233 L st h = ev X d 94 234 L (.int 0 :: st) h := g_iconst dX3_hasNone_233 (by decide)
theorem e_X3_hasNone_234 (ha : a = 0 ∨ a = 1) : ev X d 94 234 L [.int a] h = some (some (.int a), h) := g_zret dX3_hasNone_234 rfl ha
theorem e_X3_hasNone_235 : ev X d 94 235 L st h = ev X d 94 236 L (.int 0 :: st) h := g_iconst dX3_hasNone_235 (by decide)
theorem e_X3_hasNone_236 (ha : a = 0 ∨ a = 1) : ev X d 94 236 L [.int a] h = some (some (.int a), h) := g_zret dX3_hasNone_236 rfl ha
theorem e_X3_noNumber_0 : ev X d 95 0 L st h = ev X d 95 3 L (.long 9221120237041090560 :: st) h := g_ldcl dX3_noNumber_0 (by decide) (by decide)
theorem e_X3_noNumber_3 (hs : I_cat st ≤ 8) : ev X d 95 3 L (.long 9221120237041090560 :: st) h = ev X d 95 6 L (.double 9221120237041090560 :: st) h := g_l2d dX3_noNumber_3 (by decide) hs (by decide)
theorem e_X3_noNumber_6 : ev X d 95 6 L [.double w] h = some (some (.double w), h) := g_dret dX3_noNumber_6 rfl
theorem e_X3_reckoned_0 : ev X d 96 0 (x0 :: some (.double w) :: L) st h = ev X d 96 1 (x0 :: some (.double w) :: L) (.double w :: st) h := g_dload_n dX3_reckoned_0 rfl
theorem e_X3_reckoned_1 : ev X d 96 1 (x0 :: some (.double w) :: L) st h = ev X d 96 2 (x0 :: some (.double w) :: L) (.double w :: st) h := g_dload_n dX3_reckoned_1 rfl
theorem e_X3_reckoned_2 : ev X d 96 2 L (.double w2 :: .double w1 :: st) h = ev X d 96 3 L (.int (Op.cmpValue (FP.dcmp w1 w2) .l) :: st) h := g_dcmp dX3_reckoned_2
theorem e_X3_reckoned_3 : ev X d 96 3 L (.int a :: st) h = if a = 0 then ev X d 96 6 L st h else ev X d 96 21 L st h := g_if_ne dX3_reckoned_3 (by decide)
theorem e_X3_reckoned_6 : ev X d 96 6 (x0 :: x1 :: x2 :: some (.double w) :: L) st h = ev X d 96 7 (x0 :: x1 :: x2 :: some (.double w) :: L) (.double w :: st) h := g_dload_n dX3_reckoned_6 rfl
theorem e_X3_reckoned_7 : ev X d 96 7 (x0 :: x1 :: x2 :: some (.double w) :: L) st h = ev X d 96 8 (x0 :: x1 :: x2 :: some (.double w) :: L) (.double w :: st) h := g_dload_n dX3_reckoned_7 rfl
theorem e_X3_reckoned_8 : ev X d 96 8 L (.double w2 :: .double w1 :: st) h = ev X d 96 9 L (.int (Op.cmpValue (FP.dcmp w1 w2) .l) :: st) h := g_dcmp dX3_reckoned_8
theorem e_X3_reckoned_9 : ev X d 96 9 L (.int a :: st) h = if a = 0 then ev X d 96 12 L st h else ev X d 96 21 L st h := g_if_ne dX3_reckoned_9 (by decide)
theorem e_X3_reckoned_12 : ev X d 96 12 (some (.int a) :: L) st h = ev X d 96 13 (some (.int a) :: L) (.int a :: st) h := g_iload_n dX3_reckoned_12 rfl
theorem e_X3_reckoned_13 : ev X d 96 13 (x0 :: some (.double w) :: L) st h = ev X d 96 14 (x0 :: some (.double w) :: L) (.double w :: st) h := g_dload_n dX3_reckoned_13 rfl
theorem e_X3_reckoned_14 : ev X d 96 14 (x0 :: x1 :: x2 :: some (.double w) :: L) st h = ev X d 96 15 (x0 :: x1 :: x2 :: some (.double w) :: L) (.double w :: st) h := g_dload_n dX3_reckoned_14 rfl
theorem e_X3_reckoned_15 (hs : I_cat st ≤ 8) : ev X (d + 1) 96 15 L (.double w2 :: .double w1 :: .int a1 :: st) h = (ev X d 94 0 [some (.int a1), some (.double w1), none, some (.double w2), none, none, none] [] h).bind (fun r => ev X (d + 1) 96 18 L (r.1.toList ++ st) r.2) := g_callS (as := [.double w2, .double w1, .int a1]) dX3_reckoned_15 (by decide) (by decide) I_np_94 rfl (by simp only [List.reverse_cons, List.reverse_nil, List.nil_append, List.cons_append, I_slots_n, I_slots_i, I_slots_d, I_slots_q, List.length_cons, List.length_nil]; decide) (by simp only [I_ent, List.reverse_cons, List.reverse_nil, List.nil_append, List.cons_append, I_slots_n, I_slots_i, I_slots_d, I_slots_q, List.length_cons, List.length_nil]; rfl) rfl hs
theorem e_X3_reckoned_18 : ev X d 96 18 L (.int a :: st) h = if a = 0 then ev X d 96 27 L st h else ev X d 96 21 L st h := g_if_eq dX3_reckoned_18 (by decide)
theorem e_X3_reckoned_21 (hs : I_cat st ≤ 8) : ev X (d + 1) 96 21 L (st) h = (ev X d 95 0 [] [] h).bind (fun r => ev X (d + 1) 96 24 L (r.1.toList ++ st) r.2) := g_callS (as := []) dX3_reckoned_21 (by decide) (by decide) I_np_95 rfl (by simp only [List.reverse_cons, List.reverse_nil, List.nil_append, List.cons_append, I_slots_n, I_slots_i, I_slots_d, I_slots_q, List.length_cons, List.length_nil]; decide) (by simp only [I_ent, List.reverse_cons, List.reverse_nil, List.nil_append, List.cons_append, I_slots_n, I_slots_i, I_slots_d, I_slots_q, List.length_cons, List.length_nil]; rfl) rfl hs
theorem e_X3_reckoned_24 : ev X d 96 24 L st h = ev X d 96 40 L st h := g_goto dX3_reckoned_24 (by decide)
theorem e_X3_reckoned_27 : ev X d 96 27 (some (.int a) :: L) st h = ev X d 96 28 (some (.int a) :: L) (.int a :: st) h := g_iload_n dX3_reckoned_27 rfl
theorem e_X3_reckoned_28 : ev X d 96 28 L (.int a :: st) h = if a = 0 then ev X d 96 31 L st h else ev X d 96 37 L st h := g_if_ne dX3_reckoned_28 (by decide)
theorem e_X3_reckoned_31 : ev X d 96 31 (x0 :: some (.double w) :: L) st h = ev X d 96 32 (x0 :: some (.double w) :: L) (.double w :: st) h := g_dload_n dX3_reckoned_31 rfl
theorem e_X3_reckoned_32 : ev X d 96 32 (x0 :: x1 :: x2 :: some (.double w) :: L) st h = ev X d 96 33 (x0 :: x1 :: x2 :: some (.double w) :: L) (.double w :: st) h := g_dload_n dX3_reckoned_32 rfl
theorem e_X3_reckoned_33 (hn : I_nan (FP.dadd w1 w2) = true) : ev X d 96 33 L (.double w2 :: .double w1 :: st) h = ev X d 96 34 L (.double (FP.dadd w1 w2) :: st) h := g_dadd dX3_reckoned_33 hn
theorem e_X3_reckoned_34 : ev X d 96 34 L st h = ev X d 96 40 L st h := g_goto dX3_reckoned_34 (by decide)
theorem e_X3_reckoned_37 : ev X d 96 37 (x0 :: some (.double w) :: L) st h = ev X d 96 38 (x0 :: some (.double w) :: L) (.double w :: st) h := g_dload_n dX3_reckoned_37 rfl
theorem e_X3_reckoned_38 : ev X d 96 38 (x0 :: x1 :: x2 :: some (.double w) :: L) st h = ev X d 96 39 (x0 :: x1 :: x2 :: some (.double w) :: L) (.double w :: st) h := g_dload_n dX3_reckoned_38 rfl
theorem e_X3_reckoned_39 (hn : I_nan (FP.dmul w1 w2) = true) : ev X d 96 39 L (.double w2 :: .double w1 :: st) h = ev X d 96 40 L (.double (FP.dmul w1 w2) :: st) h := g_dmul dX3_reckoned_39 hn
theorem e_X3_reckoned_40 : ev X d 96 40 L [.double w] h = some (some (.double w), h) := g_dret dX3_reckoned_40 rfl
theorem e_X3_product_0 : ev X d 97 0 (some (va_rf r) :: L) st h = ev X d 97 1 (some (va_rf r) :: L) (va_rf r :: st) h := g_aload_n dX3_product_0 rfl
theorem e_X3_product_1 : ev X d 97 1 (x0 :: some (.int a) :: L) st h = ev X d 97 2 (x0 :: some (.int a) :: L) (.int a :: st) h := g_iload_n dX3_product_1 rfl
theorem e_X3_product_2 (hc : I_isC X h q 3 = true) (hs : I_cat st ≤ 8) : ev X (d + 1) 97 2 L (.int a1 :: va_rf (some q) :: st) h = (ev X d 71 0 [some (va_rf (some q)), some (.int a1)] [] h).bind (fun r => ev X (d + 1) 97 5 L (r.1.toList ++ st) r.2) := g_callV (as := [.int a1]) dX3_product_2 (by decide) (by decide) I_np_71 rfl (by simp only [List.reverse_cons, List.reverse_nil, List.nil_append, List.cons_append, I_slots_n, I_slots_i, I_slots_d, I_slots_q, List.length_cons, List.length_nil]; decide) (by simp only [I_ent, List.reverse_cons, List.reverse_nil, List.nil_append, List.cons_append, I_slots_n, I_slots_i, I_slots_d, I_slots_q, List.length_cons, List.length_nil]; rfl) rfl hc hs
theorem e_X3_product_5 : ev X d 97 5 L (.int a :: st) h = if a = 0 then ev X d 97 16 L st h else ev X d 97 8 L st h := g_if_eq dX3_product_5 (by decide)
theorem e_X3_product_8 : ev X d 97 8 (some (va_rf r) :: L) st h = ev X d 97 9 (some (va_rf r) :: L) (va_rf r :: st) h := g_aload_n dX3_product_8 rfl
theorem e_X3_product_9 : ev X d 97 9 (x0 :: x1 :: some (.int a) :: L) st h = ev X d 97 10 (x0 :: x1 :: some (.int a) :: L) (.int a :: st) h := g_iload_n dX3_product_9 rfl
theorem e_X3_product_10 (hc : I_isC X h q 3 = true) (hs : I_cat st ≤ 8) : ev X (d + 1) 97 10 L (.int a1 :: va_rf (some q) :: st) h = (ev X d 71 0 [some (va_rf (some q)), some (.int a1)] [] h).bind (fun r => ev X (d + 1) 97 13 L (r.1.toList ++ st) r.2) := g_callV (as := [.int a1]) dX3_product_10 (by decide) (by decide) I_np_71 rfl (by simp only [List.reverse_cons, List.reverse_nil, List.nil_append, List.cons_append, I_slots_n, I_slots_i, I_slots_d, I_slots_q, List.length_cons, List.length_nil]; decide) (by simp only [I_ent, List.reverse_cons, List.reverse_nil, List.nil_append, List.cons_append, I_slots_n, I_slots_i, I_slots_d, I_slots_q, List.length_cons, List.length_nil]; rfl) rfl hc hs
theorem e_X3_product_13 : ev X d 97 13 L (.int a :: st) h = if a = 0 then ev X d 97 16 L st h else ev X d 97 19 L st h := g_if_ne dX3_product_13 (by decide)
theorem e_X3_product_16 : ev X d 97 16 L st h = ev X d 97 18 L (.int (-1000001) :: st) h := g_ldc dX3_product_16 (by decide)
theorem e_X3_product_18 : ev X d 97 18 L [.int a] h = some (some (.int a), h) := g_iret dX3_product_18 rfl
theorem e_X3_product_19 : ev X d 97 19 (some (va_rf r) :: L) st h = ev X d 97 20 (some (va_rf r) :: L) (va_rf r :: st) h := g_aload_n dX3_product_19 rfl
theorem e_X3_product_20 : ev X d 97 20 L (va_rf (some q) :: st) h = (I_getf X h q 3 1).bind (fun v => ev X d 97 23 L (v :: st) h) := g_get dX3_product_20 (by decide)
theorem e_X3_product_23 : ev X d 97 23 (x0 :: some (.int a) :: L) st h = ev X d 97 24 (x0 :: some (.int a) :: L) (.int a :: st) h := g_iload_n dX3_product_23 rfl
theorem e_X3_product_24 : ev X d 97 24 L (.int i :: va_rf (some q) :: st) h = (I_aldi X h 0 q i).bind (fun v => ev X d 97 25 L (.int v :: st) h) := g_iald dX3_product_24 (by decide)
theorem e_X3_product_25 : ev X d 97 25 L st h = ev X d 97 26 L (.int 3 :: st) h := g_iconst dX3_product_25 (by decide)
theorem e_X3_product_26 : ev X d 97 26 L (.int b :: .int a :: st) h = if a = b then ev X d 97 74 L st h else ev X d 97 29 L st h := g_icmp_eq dX3_product_26 (by decide)
theorem e_X3_product_29 : ev X d 97 29 (some (va_rf r) :: L) st h = ev X d 97 30 (some (va_rf r) :: L) (va_rf r :: st) h := g_aload_n dX3_product_29 rfl
theorem e_X3_product_30 : ev X d 97 30 L (va_rf (some q) :: st) h = (I_getf X h q 3 1).bind (fun v => ev X d 97 33 L (v :: st) h) := g_get dX3_product_30 (by decide)
theorem e_X3_product_33 : ev X d 97 33 (x0 :: some (.int a) :: L) st h = ev X d 97 34 (x0 :: some (.int a) :: L) (.int a :: st) h := g_iload_n dX3_product_33 rfl
theorem e_X3_product_34 : ev X d 97 34 L (.int i :: va_rf (some q) :: st) h = (I_aldi X h 0 q i).bind (fun v => ev X d 97 35 L (.int v :: st) h) := g_iald dX3_product_34 (by decide)
theorem e_X3_product_35 : ev X d 97 35 (some (va_rf r) :: L) st h = ev X d 97 36 (some (va_rf r) :: L) (va_rf r :: st) h := g_aload_n dX3_product_35 rfl
theorem e_X3_product_36 : ev X d 97 36 L (va_rf (some q) :: st) h = (I_getf X h q 3 1).bind (fun v => ev X d 97 39 L (v :: st) h) := g_get dX3_product_36 (by decide)
theorem e_X3_product_39 : ev X d 97 39 (x0 :: x1 :: some (.int a) :: L) st h = ev X d 97 40 (x0 :: x1 :: some (.int a) :: L) (.int a :: st) h := g_iload_n dX3_product_39 rfl
theorem e_X3_product_40 : ev X d 97 40 L (.int i :: va_rf (some q) :: st) h = (I_aldi X h 0 q i).bind (fun v => ev X d 97 41 L (.int v :: st) h) := g_iald dX3_product_40 (by decide)
theorem e_X3_product_41 : ev X d 97 41 L (.int b :: .int a :: st) h = if a = b then ev X d 97 44 L st h else ev X d 97 74 L st h := g_icmp_ne dX3_product_41 (by decide)
theorem e_X3_product_44 : ev X d 97 44 (some (va_rf r) :: L) st h = ev X d 97 45 (some (va_rf r) :: L) (va_rf r :: st) h := g_aload_n dX3_product_44 rfl
theorem e_X3_product_45 : ev X d 97 45 (x0 :: some (.int a) :: L) st h = ev X d 97 46 (x0 :: some (.int a) :: L) (.int a :: st) h := g_iload_n dX3_product_45 rfl
theorem e_X3_product_46 (hc : I_isC X h q 3 = true) (hs : I_cat st ≤ 8) : ev X (d + 1) 97 46 L (.int a1 :: va_rf (some q) :: st) h = (ev X d 90 0 [some (va_rf (some q)), some (.int a1), none, none, none] [] h).bind (fun r => ev X (d + 1) 97 49 L (r.1.toList ++ st) r.2) := g_callV (as := [.int a1]) dX3_product_46 (by decide) (by decide) I_np_90 rfl (by simp only [List.reverse_cons, List.reverse_nil, List.nil_append, List.cons_append, I_slots_n, I_slots_i, I_slots_d, I_slots_q, List.length_cons, List.length_nil]; decide) (by simp only [I_ent, List.reverse_cons, List.reverse_nil, List.nil_append, List.cons_append, I_slots_n, I_slots_i, I_slots_d, I_slots_q, List.length_cons, List.length_nil]; rfl) rfl hc hs
theorem e_X3_product_49 : ev X d 97 49 L (.int a :: st) h = if a = 0 then ev X d 97 74 L st h else ev X d 97 52 L st h := g_if_eq dX3_product_49 (by decide)
theorem e_X3_product_52 : ev X d 97 52 (some (va_rf r) :: L) st h = ev X d 97 53 (some (va_rf r) :: L) (va_rf r :: st) h := g_aload_n dX3_product_52 rfl
theorem e_X3_product_53 : ev X d 97 53 (x0 :: x1 :: some (.int a) :: L) st h = ev X d 97 54 (x0 :: x1 :: some (.int a) :: L) (.int a :: st) h := g_iload_n dX3_product_53 rfl
theorem e_X3_product_54 (hc : I_isC X h q 3 = true) (hs : I_cat st ≤ 8) : ev X (d + 1) 97 54 L (.int a1 :: va_rf (some q) :: st) h = (ev X d 90 0 [some (va_rf (some q)), some (.int a1), none, none, none] [] h).bind (fun r => ev X (d + 1) 97 57 L (r.1.toList ++ st) r.2) := g_callV (as := [.int a1]) dX3_product_54 (by decide) (by decide) I_np_90 rfl (by simp only [List.reverse_cons, List.reverse_nil, List.nil_append, List.cons_append, I_slots_n, I_slots_i, I_slots_d, I_slots_q, List.length_cons, List.length_nil]; decide) (by simp only [I_ent, List.reverse_cons, List.reverse_nil, List.nil_append, List.cons_append, I_slots_n, I_slots_i, I_slots_d, I_slots_q, List.length_cons, List.length_nil]; rfl) rfl hc hs
theorem e_X3_product_57 : ev X d 97 57 L (.int a :: st) h = if a = 0 then ev X d 97 74 L st h else ev X d 97 60 L st h := g_if_eq dX3_product_57 (by decide)
theorem e_X3_product_60 : ev X d 97 60 (some (va_rf r) :: L) st h = ev X d 97 61 (some (va_rf r) :: L) (va_rf r :: st) h := g_aload_n dX3_product_60 rfl
theorem e_X3_product_61 : ev X d 97 61 (x0 :: some (.int a) :: L) st h = ev X d 97 62 (x0 :: some (.int a) :: L) (.int a :: st) h := g_iload_n dX3_product_61 rfl
theorem e_X3_product_62 (hc : I_isC X h q 3 = true) (hs : I_cat st ≤ 8) : ev X (d + 1) 97 62 L (.int a1 :: va_rf (some q) :: st) h = (ev X d 91 0 [some (va_rf (some q)), some (.int a1)] [] h).bind (fun r => ev X (d + 1) 97 65 L (r.1.toList ++ st) r.2) := g_callV (as := [.int a1]) dX3_product_62 (by decide) (by decide) I_np_91 rfl (by simp only [List.reverse_cons, List.reverse_nil, List.nil_append, List.cons_append, I_slots_n, I_slots_i, I_slots_d, I_slots_q, List.length_cons, List.length_nil]; decide) (by simp only [I_ent, List.reverse_cons, List.reverse_nil, List.nil_append, List.cons_append, I_slots_n, I_slots_i, I_slots_d, I_slots_q, List.length_cons, List.length_nil]; rfl) rfl hc hs
theorem e_X3_product_65 : ev X d 97 65 (some (va_rf r) :: L) st h = ev X d 97 66 (some (va_rf r) :: L) (va_rf r :: st) h := g_aload_n dX3_product_65 rfl
theorem e_X3_product_66 : ev X d 97 66 L (va_rf (some q) :: st) h = (I_getf X h q 3 2).bind (fun v => ev X d 97 69 L (v :: st) h) := g_get dX3_product_66 (by decide)
theorem e_X3_product_69 : ev X d 97 69 (x0 :: x1 :: some (.int a) :: L) st h = ev X d 97 70 (x0 :: x1 :: some (.int a) :: L) (.int a :: st) h := g_iload_n dX3_product_69 rfl
theorem e_X3_product_70 : ev X d 97 70 L (.int i :: va_rf (some q) :: st) h = (I_aldi X h 0 q i).bind (fun v => ev X d 97 71 L (.int v :: st) h) := g_iald dX3_product_70 (by decide)
theorem e_X3_product_71 : ev X d 97 71 L (.int b :: .int a :: st) h = if a = b then ev X d 97 77 L st h else ev X d 97 74 L st h := g_icmp_eq dX3_product_71 (by decide)
theorem e_X3_product_74 : ev X d 97 74 L st h = ev X d 97 76 L (.int (-1000003) :: st) h := g_ldc dX3_product_74 (by decide)
theorem e_X3_product_76 : ev X d 97 76 L [.int a] h = some (some (.int a), h) := g_iret dX3_product_76 rfl
theorem e_X3_product_77 : ev X d 97 77 (some (va_rf r) :: L) st h = ev X d 97 78 (some (va_rf r) :: L) (va_rf r :: st) h := g_aload_n dX3_product_77 rfl
theorem e_X3_product_78 : ev X d 97 78 L (va_rf (some q) :: st) h = (I_getf X h q 3 0).bind (fun v => ev X d 97 81 L (v :: st) h) := g_get dX3_product_78 (by decide)
theorem e_X3_product_81 : ev X d 97 81 L st h = ev X d 97 83 L (.int 16 :: st) h := g_bipush dX3_product_81 (by decide)
theorem e_X3_product_83 : ev X d 97 83 L (.int b :: .int a :: st) h = if a = b then ev X d 97 86 L st h else ev X d 97 89 L st h := g_icmp_ne dX3_product_83 (by decide)
theorem e_X3_product_86 : ev X d 97 86 L st h = ev X d 97 88 L (.int (-1000004) :: st) h := g_ldc dX3_product_86 (by decide)
theorem e_X3_product_88 : ev X d 97 88 L [.int a] h = some (some (.int a), h) := g_iret dX3_product_88 rfl
theorem e_X3_product_89 : ev X d 97 89 (some (va_rf r) :: L) st h = ev X d 97 90 (some (va_rf r) :: L) (va_rf r :: st) h := g_aload_n dX3_product_89 rfl
theorem e_X3_product_90 (hc : I_isC X h q 3 = true) (hs : I_cat st ≤ 8) : ev X (d + 1) 97 90 L (va_rf (some q) :: st) h = (ev X d 78 0 [some (va_rf (some q)), none, none, none] [] h).bind (fun r => ev X (d + 1) 97 93 L (r.1.toList ++ st) r.2) := g_callV (as := []) dX3_product_90 (by decide) (by decide) I_np_78 rfl (by simp only [List.reverse_cons, List.reverse_nil, List.nil_append, List.cons_append, I_slots_n, I_slots_i, I_slots_d, I_slots_q, List.length_cons, List.length_nil]; decide) (by simp only [I_ent, List.reverse_cons, List.reverse_nil, List.nil_append, List.cons_append, I_slots_n, I_slots_i, I_slots_d, I_slots_q, List.length_cons, List.length_nil]; rfl) rfl hc hs
theorem e_X3_product_93 : ev X d 97 93 (some (va_rf r) :: L) st h = ev X d 97 94 (some (va_rf r) :: L) (va_rf r :: st) h := g_aload_n dX3_product_93 rfl
theorem e_X3_product_94 : ev X d 97 94 (some (va_rf r) :: L) st h = ev X d 97 95 (some (va_rf r) :: L) (va_rf r :: st) h := g_aload_n dX3_product_94 rfl
theorem e_X3_product_95 : ev X d 97 95 L (va_rf (some q) :: st) h = (I_getf X h q 3 1).bind (fun v => ev X d 97 98 L (v :: st) h) := g_get dX3_product_95 (by decide)
theorem e_X3_product_98 : ev X d 97 98 (x0 :: some (.int a) :: L) st h = ev X d 97 99 (x0 :: some (.int a) :: L) (.int a :: st) h := g_iload_n dX3_product_98 rfl
theorem e_X3_product_99 : ev X d 97 99 L (.int i :: va_rf (some q) :: st) h = (I_aldi X h 0 q i).bind (fun v => ev X d 97 100 L (.int v :: st) h) := g_iald dX3_product_99 (by decide)
theorem e_X3_product_100 : ev X d 97 100 (some (va_rf r) :: L) st h = ev X d 97 101 (some (va_rf r) :: L) (va_rf r :: st) h := g_aload_n dX3_product_100 rfl
theorem e_X3_product_101 : ev X d 97 101 L (va_rf (some q) :: st) h = (I_getf X h q 3 2).bind (fun v => ev X d 97 104 L (v :: st) h) := g_get dX3_product_101 (by decide)
theorem e_X3_product_104 : ev X d 97 104 (x0 :: some (.int a) :: L) st h = ev X d 97 105 (x0 :: some (.int a) :: L) (.int a :: st) h := g_iload_n dX3_product_104 rfl
theorem e_X3_product_105 : ev X d 97 105 L (.int i :: va_rf (some q) :: st) h = (I_aldi X h 0 q i).bind (fun v => ev X d 97 106 L (.int v :: st) h) := g_iald dX3_product_105 (by decide)
theorem e_X3_product_106 : ev X d 97 106 (some (va_rf r) :: L) st h = ev X d 97 107 (some (va_rf r) :: L) (va_rf r :: st) h := g_aload_n dX3_product_106 rfl
theorem e_X3_product_107 : ev X d 97 107 (x0 :: x1 :: some (.int a) :: L) st h = ev X d 97 108 (x0 :: x1 :: some (.int a) :: L) (.int a :: st) h := g_iload_n dX3_product_107 rfl
theorem e_X3_product_108 (hc : I_isC X h q 3 = true) (hs : I_cat st ≤ 8) : ev X (d + 1) 97 108 L (.int a1 :: va_rf (some q) :: st) h = (ev X d 91 0 [some (va_rf (some q)), some (.int a1)] [] h).bind (fun r => ev X (d + 1) 97 111 L (r.1.toList ++ st) r.2) := g_callV (as := [.int a1]) dX3_product_108 (by decide) (by decide) I_np_91 rfl (by simp only [List.reverse_cons, List.reverse_nil, List.nil_append, List.cons_append, I_slots_n, I_slots_i, I_slots_d, I_slots_q, List.length_cons, List.length_nil]; decide) (by simp only [I_ent, List.reverse_cons, List.reverse_nil, List.nil_append, List.cons_append, I_slots_n, I_slots_i, I_slots_d, I_slots_q, List.length_cons, List.length_nil]; rfl) rfl hc hs
theorem e_X3_product_111 (hc : I_isC X h q 3 = true) (hs : I_cat st ≤ 8) : ev X (d + 1) 97 111 L (.int a3 :: .int a2 :: .int a1 :: va_rf (some q) :: st) h = (ev X d 74 0 [some (va_rf (some q)), some (.int a1), some (.int a2), some (.int a3), none, none] [] h).bind (fun r => ev X (d + 1) 97 114 L (r.1.toList ++ st) r.2) := g_callV (as := [.int a3, .int a2, .int a1]) dX3_product_111 (by decide) (by decide) I_np_74 rfl (by simp only [List.reverse_cons, List.reverse_nil, List.nil_append, List.cons_append, I_slots_n, I_slots_i, I_slots_d, I_slots_q, List.length_cons, List.length_nil]; decide) (by simp only [I_ent, List.reverse_cons, List.reverse_nil, List.nil_append, List.cons_append, I_slots_n, I_slots_i, I_slots_d, I_slots_q, List.length_cons, List.length_nil]; rfl) rfl hc hs
theorem e_X3_product_114 (hx : I_c2 x2 = false) : ev X d 97 114 (x0 :: x1 :: x2 :: x3 :: L) (.int a :: st) h = ev X d 97 115 (x0 :: x1 :: x2 :: some (.int a) :: L) st h := g_istore_n dX3_product_114 (I_st1_3 hx)
theorem e_X3_product_115 : ev X d 97 115 L st h = ev X d 97 116 L (.int 0 :: st) h := g_iconst dX3_product_115 (by decide)
theorem e_X3_product_116 (hx : I_c2 x3 = false) : ev X d 97 116 (x0 :: x1 :: x2 :: x3 :: x4 :: L) (.int a :: st) h = ev X d 97 118 (x0 :: x1 :: x2 :: x3 :: some (.int a) :: L) st h := g_istore dX3_product_116 (I_st1_4 hx)
theorem e_X3_product_118 : ev X d 97 118 (x0 :: x1 :: x2 :: x3 :: some (.int a) :: L) st h = ev X d 97 120 (x0 :: x1 :: x2 :: x3 :: some (.int a) :: L) (.int a :: st) h := g_iload dX3_product_118 rfl
theorem e_X3_product_120 : ev X d 97 120 (some (va_rf r) :: L) st h = ev X d 97 121 (some (va_rf r) :: L) (va_rf r :: st) h := g_aload_n dX3_product_120 rfl
theorem e_X3_product_121 : ev X d 97 121 L (va_rf (some q) :: st) h = (I_getf X h q 3 2).bind (fun v => ev X d 97 124 L (v :: st) h) := g_get dX3_product_121 (by decide)
theorem e_X3_product_124 : ev X d 97 124 (x0 :: some (.int a) :: L) st h = ev X d 97 125 (x0 :: some (.int a) :: L) (.int a :: st) h := g_iload_n dX3_product_124 rfl
theorem e_X3_product_125 : ev X d 97 125 L (.int i :: va_rf (some q) :: st) h = (I_aldi X h 0 q i).bind (fun v => ev X d 97 126 L (.int v :: st) h) := g_iald dX3_product_125 (by decide)
theorem e_X3_product_126 : ev X d 97 126 L (.int b :: .int a :: st) h = if b ≤ a then ev X d 97 308 L st h else ev X d 97 129 L st h := g_icmp_ge dX3_product_126 (by decide)
theorem e_X3_product_129 : ev X d 97 129 L st h = ev X d 97 130 L (.int 0 :: st) h := g_iconst dX3_product_129 (by decide)
theorem e_X3_product_130 (hx : I_c2 x4 = false) : ev X d 97 130 (x0 :: x1 :: x2 :: x3 :: x4 :: x5 :: L) (.int a :: st) h = ev X d 97 132 (x0 :: x1 :: x2 :: x3 :: x4 :: some (.int a) :: L) st h := g_istore dX3_product_130 (I_st1_5 hx)
theorem e_X3_product_132 : ev X d 97 132 (x0 :: x1 :: x2 :: x3 :: x4 :: some (.int a) :: L) st h = ev X d 97 134 (x0 :: x1 :: x2 :: x3 :: x4 :: some (.int a) :: L) (.int a :: st) h := g_iload dX3_product_132 rfl
theorem e_X3_product_134 : ev X d 97 134 (some (va_rf r) :: L) st h = ev X d 97 135 (some (va_rf r) :: L) (va_rf r :: st) h := g_aload_n dX3_product_134 rfl
theorem e_X3_product_135 : ev X d 97 135 (x0 :: x1 :: some (.int a) :: L) st h = ev X d 97 136 (x0 :: x1 :: some (.int a) :: L) (.int a :: st) h := g_iload_n dX3_product_135 rfl
theorem e_X3_product_136 (hc : I_isC X h q 3 = true) (hs : I_cat st ≤ 8) : ev X (d + 1) 97 136 L (.int a1 :: va_rf (some q) :: st) h = (ev X d 91 0 [some (va_rf (some q)), some (.int a1)] [] h).bind (fun r => ev X (d + 1) 97 139 L (r.1.toList ++ st) r.2) := g_callV (as := [.int a1]) dX3_product_136 (by decide) (by decide) I_np_91 rfl (by simp only [List.reverse_cons, List.reverse_nil, List.nil_append, List.cons_append, I_slots_n, I_slots_i, I_slots_d, I_slots_q, List.length_cons, List.length_nil]; decide) (by simp only [I_ent, List.reverse_cons, List.reverse_nil, List.nil_append, List.cons_append, I_slots_n, I_slots_i, I_slots_d, I_slots_q, List.length_cons, List.length_nil]; rfl) rfl hc hs
theorem e_X3_product_139 : ev X d 97 139 L (.int b :: .int a :: st) h = if b ≤ a then ev X d 97 302 L st h else ev X d 97 142 L st h := g_icmp_ge dX3_product_139 (by decide)
theorem e_X3_product_142 : ev X d 97 142 L st h = ev X d 97 143 L (.int 0 :: st) h := g_iconst dX3_product_142 (by decide)
theorem e_X3_product_143 (hx : I_c2 x5 = false) : ev X d 97 143 (x0 :: x1 :: x2 :: x3 :: x4 :: x5 :: x6 :: L) (.int a :: st) h = ev X d 97 145 (x0 :: x1 :: x2 :: x3 :: x4 :: x5 :: some (.int a) :: L) st h := g_istore dX3_product_143 (I_st1_6 hx)
theorem e_X3_product_145 : ev X d 97 145 L st h = ev X d 97 146 L (.double 0 :: st) h := g_dconst dX3_product_145
theorem e_X3_product_146 (hx : I_c2 x6 = false) : ev X d 97 146 (x0 :: x1 :: x2 :: x3 :: x4 :: x5 :: x6 :: x7 :: x8 :: L) (.double w :: st) h = ev X d 97 148 (x0 :: x1 :: x2 :: x3 :: x4 :: x5 :: x6 :: some (.double w) :: none :: L) st h := g_dstore dX3_product_146 (I_st2_7 hx)
theorem e_X3_product_148 : ev X d 97 148 L st h = ev X d 97 149 L (.int 0 :: st) h := g_iconst dX3_product_148 (by decide)
theorem e_X3_product_149 (hx : I_c2 x8 = false) : ev X d 97 149 (x0 :: x1 :: x2 :: x3 :: x4 :: x5 :: x6 :: x7 :: x8 :: x9 :: L) (.int a :: st) h = ev X d 97 151 (x0 :: x1 :: x2 :: x3 :: x4 :: x5 :: x6 :: x7 :: x8 :: some (.int a) :: L) st h := g_istore dX3_product_149 (I_st1_9 hx)
theorem e_X3_product_151 : ev X d 97 151 (x0 :: x1 :: x2 :: x3 :: x4 :: x5 :: x6 :: x7 :: x8 :: some (.int a) :: L) st h = ev X d 97 153 (x0 :: x1 :: x2 :: x3 :: x4 :: x5 :: x6 :: x7 :: x8 :: some (.int a) :: L) (.int a :: st) h := g_iload dX3_product_151 rfl
theorem e_X3_product_153 : ev X d 97 153 (some (va_rf r) :: L) st h = ev X d 97 154 (some (va_rf r) :: L) (va_rf r :: st) h := g_aload_n dX3_product_153 rfl
theorem e_X3_product_154 : ev X d 97 154 L (va_rf (some q) :: st) h = (I_getf X h q 3 2).bind (fun v => ev X d 97 157 L (v :: st) h) := g_get dX3_product_154 (by decide)
theorem e_X3_product_157 : ev X d 97 157 (x0 :: x1 :: some (.int a) :: L) st h = ev X d 97 158 (x0 :: x1 :: some (.int a) :: L) (.int a :: st) h := g_iload_n dX3_product_157 rfl
theorem e_X3_product_158 : ev X d 97 158 L (.int i :: va_rf (some q) :: st) h = (I_aldi X h 0 q i).bind (fun v => ev X d 97 159 L (.int v :: st) h) := g_iald dX3_product_158 (by decide)
theorem e_X3_product_159 : ev X d 97 159 L (.int b :: .int a :: st) h = if b ≤ a then ev X d 97 242 L st h else ev X d 97 162 L st h := g_icmp_ge dX3_product_159 (by decide)
theorem e_X3_product_162 : ev X d 97 162 (x0 :: x1 :: x2 :: x3 :: x4 :: x5 :: some (.int a) :: L) st h = ev X d 97 164 (x0 :: x1 :: x2 :: x3 :: x4 :: x5 :: some (.int a) :: L) (.int a :: st) h := g_iload dX3_product_162 rfl
theorem e_X3_product_164 : ev X d 97 164 (some (va_rf r) :: L) st h = ev X d 97 165 (some (va_rf r) :: L) (va_rf r :: st) h := g_aload_n dX3_product_164 rfl
theorem e_X3_product_165 : ev X d 97 165 L (va_rf (some q) :: st) h = (I_getf X h q 3 6).bind (fun v => ev X d 97 168 L (v :: st) h) := g_get dX3_product_165 (by decide)
theorem e_X3_product_168 : ev X d 97 168 (some (va_rf r) :: L) st h = ev X d 97 169 (some (va_rf r) :: L) (va_rf r :: st) h := g_aload_n dX3_product_168 rfl
theorem e_X3_product_169 : ev X d 97 169 (x0 :: some (.int a) :: L) st h = ev X d 97 170 (x0 :: some (.int a) :: L) (.int a :: st) h := g_iload_n dX3_product_169 rfl
theorem e_X3_product_170 : ev X d 97 170 (x0 :: x1 :: x2 :: x3 :: some (.int a) :: L) st h = ev X d 97 172 (x0 :: x1 :: x2 :: x3 :: some (.int a) :: L) (.int a :: st) h := g_iload dX3_product_170 rfl
theorem e_X3_product_172 : ev X d 97 172 (x0 :: x1 :: x2 :: x3 :: x4 :: x5 :: x6 :: x7 :: x8 :: some (.int a) :: L) st h = ev X d 97 174 (x0 :: x1 :: x2 :: x3 :: x4 :: x5 :: x6 :: x7 :: x8 :: some (.int a) :: L) (.int a :: st) h := g_iload dX3_product_172 rfl
theorem e_X3_product_174 (hc : I_isC X h q 3 = true) (hs : I_cat st ≤ 8) : ev X (d + 1) 97 174 L (.int a3 :: .int a2 :: .int a1 :: va_rf (some q) :: st) h = (ev X d 92 0 [some (va_rf (some q)), some (.int a1), some (.int a2), some (.int a3)] [] h).bind (fun r => ev X (d + 1) 97 177 L (r.1.toList ++ st) r.2) := g_callV (as := [.int a3, .int a2, .int a1]) dX3_product_174 (by decide) (by decide) I_np_92 rfl (by simp only [List.reverse_cons, List.reverse_nil, List.nil_append, List.cons_append, I_slots_n, I_slots_i, I_slots_d, I_slots_q, List.length_cons, List.length_nil]; decide) (by simp only [I_ent, List.reverse_cons, List.reverse_nil, List.nil_append, List.cons_append, I_slots_n, I_slots_i, I_slots_d, I_slots_q, List.length_cons, List.length_nil]; rfl) rfl hc hs
theorem e_X3_product_177 : ev X d 97 177 L (.int i :: va_rf (some q) :: st) h = (I_aldi X h 0 q i).bind (fun v => ev X d 97 178 L (.int v :: st) h) := g_iald dX3_product_177 (by decide)
theorem e_X3_product_178 : ev X d 97 178 (some (va_rf r) :: L) st h = ev X d 97 179 (some (va_rf r) :: L) (va_rf r :: st) h := g_aload_n dX3_product_178 rfl
theorem e_X3_product_179 : ev X d 97 179 L (va_rf (some q) :: st) h = (I_getf X h q 3 6).bind (fun v => ev X d 97 182 L (v :: st) h) := g_get dX3_product_179 (by decide)
theorem e_X3_product_182 : ev X d 97 182 (some (va_rf r) :: L) st h = ev X d 97 183 (some (va_rf r) :: L) (va_rf r :: st) h := g_aload_n dX3_product_182 rfl
theorem e_X3_product_183 : ev X d 97 183 (x0 :: x1 :: some (.int a) :: L) st h = ev X d 97 184 (x0 :: x1 :: some (.int a) :: L) (.int a :: st) h := g_iload_n dX3_product_183 rfl
theorem e_X3_product_184 : ev X d 97 184 (x0 :: x1 :: x2 :: x3 :: x4 :: x5 :: x6 :: x7 :: x8 :: some (.int a) :: L) st h = ev X d 97 186 (x0 :: x1 :: x2 :: x3 :: x4 :: x5 :: x6 :: x7 :: x8 :: some (.int a) :: L) (.int a :: st) h := g_iload dX3_product_184 rfl
theorem e_X3_product_186 : ev X d 97 186 (x0 :: x1 :: x2 :: x3 :: x4 :: some (.int a) :: L) st h = ev X d 97 188 (x0 :: x1 :: x2 :: x3 :: x4 :: some (.int a) :: L) (.int a :: st) h := g_iload dX3_product_186 rfl
theorem e_X3_product_188 (hc : I_isC X h q 3 = true) (hs : I_cat st ≤ 8) : ev X (d + 1) 97 188 L (.int a3 :: .int a2 :: .int a1 :: va_rf (some q) :: st) h = (ev X d 92 0 [some (va_rf (some q)), some (.int a1), some (.int a2), some (.int a3)] [] h).bind (fun r => ev X (d + 1) 97 191 L (r.1.toList ++ st) r.2) := g_callV (as := [.int a3, .int a2, .int a1]) dX3_product_188 (by decide) (by decide) I_np_92 rfl (by simp only [List.reverse_cons, List.reverse_nil, List.nil_append, List.cons_append, I_slots_n, I_slots_i, I_slots_d, I_slots_q, List.length_cons, List.length_nil]; decide) (by simp only [I_ent, List.reverse_cons, List.reverse_nil, List.nil_append, List.cons_append, I_slots_n, I_slots_i, I_slots_d, I_slots_q, List.length_cons, List.length_nil]; rfl) rfl hc hs
theorem e_X3_product_191 : ev X d 97 191 L (.int i :: va_rf (some q) :: st) h = (I_aldi X h 0 q i).bind (fun v => ev X d 97 192 L (.int v :: st) h) := g_iald dX3_product_191 (by decide)
theorem e_X3_product_192 : ev X d 97 192 L (.int b :: .int a :: st) h = ev X d 97 193 L (.int (a * b) :: st) h := g_imul dX3_product_192
theorem e_X3_product_193 : ev X d 97 193 L (.int b :: .int a :: st) h = ev X d 97 194 L (.int (a + b) :: st) h := g_iadd dX3_product_193
theorem e_X3_product_194 (hx : I_c2 x5 = false) : ev X d 97 194 (x0 :: x1 :: x2 :: x3 :: x4 :: x5 :: x6 :: L) (.int a :: st) h = ev X d 97 196 (x0 :: x1 :: x2 :: x3 :: x4 :: x5 :: some (.int a) :: L) st h := g_istore dX3_product_194 (I_st1_6 hx)
theorem e_X3_product_196 : ev X d 97 196 L st h = ev X d 97 197 L (.int 0 :: st) h := g_iconst dX3_product_196 (by decide)
theorem e_X3_product_197 : ev X d 97 197 (x0 :: x1 :: x2 :: x3 :: x4 :: x5 :: x6 :: some (.double w) :: L) st h = ev X d 97 199 (x0 :: x1 :: x2 :: x3 :: x4 :: x5 :: x6 :: some (.double w) :: L) (.double w :: st) h := g_dload dX3_product_197 rfl
theorem e_X3_product_199 : ev X d 97 199 L st h = ev X d 97 200 L (.int 2 :: st) h := g_iconst dX3_product_199 (by decide)
theorem e_X3_product_200 : ev X d 97 200 (some (va_rf r) :: L) st h = ev X d 97 201 (some (va_rf r) :: L) (va_rf r :: st) h := g_aload_n dX3_product_200 rfl
theorem e_X3_product_201 : ev X d 97 201 L (va_rf (some q) :: st) h = (I_getf X h q 3 7).bind (fun v => ev X d 97 204 L (v :: st) h) := g_get dX3_product_201 (by decide)
theorem e_X3_product_204 : ev X d 97 204 (some (va_rf r) :: L) st h = ev X d 97 205 (some (va_rf r) :: L) (va_rf r :: st) h := g_aload_n dX3_product_204 rfl
theorem e_X3_product_205 : ev X d 97 205 (x0 :: some (.int a) :: L) st h = ev X d 97 206 (x0 :: some (.int a) :: L) (.int a :: st) h := g_iload_n dX3_product_205 rfl
theorem e_X3_product_206 : ev X d 97 206 (x0 :: x1 :: x2 :: x3 :: some (.int a) :: L) st h = ev X d 97 208 (x0 :: x1 :: x2 :: x3 :: some (.int a) :: L) (.int a :: st) h := g_iload dX3_product_206 rfl
theorem e_X3_product_208 : ev X d 97 208 (x0 :: x1 :: x2 :: x3 :: x4 :: x5 :: x6 :: x7 :: x8 :: some (.int a) :: L) st h = ev X d 97 210 (x0 :: x1 :: x2 :: x3 :: x4 :: x5 :: x6 :: x7 :: x8 :: some (.int a) :: L) (.int a :: st) h := g_iload dX3_product_208 rfl
theorem e_X3_product_210 (hc : I_isC X h q 3 = true) (hs : I_cat st ≤ 8) : ev X (d + 1) 97 210 L (.int a3 :: .int a2 :: .int a1 :: va_rf (some q) :: st) h = (ev X d 92 0 [some (va_rf (some q)), some (.int a1), some (.int a2), some (.int a3)] [] h).bind (fun r => ev X (d + 1) 97 213 L (r.1.toList ++ st) r.2) := g_callV (as := [.int a3, .int a2, .int a1]) dX3_product_210 (by decide) (by decide) I_np_92 rfl (by simp only [List.reverse_cons, List.reverse_nil, List.nil_append, List.cons_append, I_slots_n, I_slots_i, I_slots_d, I_slots_q, List.length_cons, List.length_nil]; decide) (by simp only [I_ent, List.reverse_cons, List.reverse_nil, List.nil_append, List.cons_append, I_slots_n, I_slots_i, I_slots_d, I_slots_q, List.length_cons, List.length_nil]; rfl) rfl hc hs
theorem e_X3_product_213 : ev X d 97 213 L (.int i :: va_rf (some q) :: st) h = (I_aldd X h q i).bind (fun v => ev X d 97 214 L (.double v :: st) h) := g_dald dX3_product_213
theorem e_X3_product_214 : ev X d 97 214 (some (va_rf r) :: L) st h = ev X d 97 215 (some (va_rf r) :: L) (va_rf r :: st) h := g_aload_n dX3_product_214 rfl
theorem e_X3_product_215 : ev X d 97 215 L (va_rf (some q) :: st) h = (I_getf X h q 3 7).bind (fun v => ev X d 97 218 L (v :: st) h) := g_get dX3_product_215 (by decide)
theorem e_X3_product_218 : ev X d 97 218 (some (va_rf r) :: L) st h = ev X d 97 219 (some (va_rf r) :: L) (va_rf r :: st) h := g_aload_n dX3_product_218 rfl
theorem e_X3_product_219 : ev X d 97 219 (x0 :: x1 :: some (.int a) :: L) st h = ev X d 97 220 (x0 :: x1 :: some (.int a) :: L) (.int a :: st) h := g_iload_n dX3_product_219 rfl
theorem e_X3_product_220 : ev X d 97 220 (x0 :: x1 :: x2 :: x3 :: x4 :: x5 :: x6 :: x7 :: x8 :: some (.int a) :: L) st h = ev X d 97 222 (x0 :: x1 :: x2 :: x3 :: x4 :: x5 :: x6 :: x7 :: x8 :: some (.int a) :: L) (.int a :: st) h := g_iload dX3_product_220 rfl
theorem e_X3_product_222 : ev X d 97 222 (x0 :: x1 :: x2 :: x3 :: x4 :: some (.int a) :: L) st h = ev X d 97 224 (x0 :: x1 :: x2 :: x3 :: x4 :: some (.int a) :: L) (.int a :: st) h := g_iload dX3_product_222 rfl
theorem e_X3_product_224 (hc : I_isC X h q 3 = true) (hs : I_cat st ≤ 8) : ev X (d + 1) 97 224 L (.int a3 :: .int a2 :: .int a1 :: va_rf (some q) :: st) h = (ev X d 92 0 [some (va_rf (some q)), some (.int a1), some (.int a2), some (.int a3)] [] h).bind (fun r => ev X (d + 1) 97 227 L (r.1.toList ++ st) r.2) := g_callV (as := [.int a3, .int a2, .int a1]) dX3_product_224 (by decide) (by decide) I_np_92 rfl (by simp only [List.reverse_cons, List.reverse_nil, List.nil_append, List.cons_append, I_slots_n, I_slots_i, I_slots_d, I_slots_q, List.length_cons, List.length_nil]; decide) (by simp only [I_ent, List.reverse_cons, List.reverse_nil, List.nil_append, List.cons_append, I_slots_n, I_slots_i, I_slots_d, I_slots_q, List.length_cons, List.length_nil]; rfl) rfl hc hs
theorem e_X3_product_227 : ev X d 97 227 L (.int i :: va_rf (some q) :: st) h = (I_aldd X h q i).bind (fun v => ev X d 97 228 L (.double v :: st) h) := g_dald dX3_product_227
theorem e_X3_product_228 (hs : I_cat st ≤ 8) : ev X (d + 1) 97 228 L (.double w2 :: .double w1 :: .int a1 :: st) h = (ev X d 96 0 [some (.int a1), some (.double w1), none, some (.double w2), none] [] h).bind (fun r => ev X (d + 1) 97 231 L (r.1.toList ++ st) r.2) := g_callS (as := [.double w2, .double w1, .int a1]) dX3_product_228 (by decide) (by decide) I_np_96 rfl (by simp only [List.reverse_cons, List.reverse_nil, List.nil_append, List.cons_append, I_slots_n, I_slots_i, I_slots_d, I_slots_q, List.length_cons, List.length_nil]; decide) (by simp only [I_ent, List.reverse_cons, List.reverse_nil, List.nil_append, List.cons_append, I_slots_n, I_slots_i, I_slots_d, I_slots_q, List.length_cons, List.length_nil]; rfl) rfl hs
theorem e_X3_product_231 (hs : I_cat st ≤ 8) : ev X (d + 1) 97 231 L (.double w2 :: .double w1 :: .int a1 :: st) h = (ev X d 96 0 [some (.int a1), some (.double w1), none, some (.double w2), none] [] h).bind (fun r => ev X (d + 1) 97 234 L (r.1.toList ++ st) r.2) := g_callS (as := [.double w2, .double w1, .int a1]) dX3_product_231 (by decide) (by decide) I_np_96 rfl (by simp only [List.reverse_cons, List.reverse_nil, List.nil_append, List.cons_append, I_slots_n, I_slots_i, I_slots_d, I_slots_q, List.length_cons, List.length_nil]; decide) (by simp only [I_ent, List.reverse_cons, List.reverse_nil, List.nil_append, List.cons_append, I_slots_n, I_slots_i, I_slots_d, I_slots_q, List.length_cons, List.length_nil]; rfl) rfl hs
theorem e_X3_product_234 (hx : I_c2 x6 = false) : ev X d 97 234 (x0 :: x1 :: x2 :: x3 :: x4 :: x5 :: x6 :: x7 :: x8 :: L) (.double w :: st) h = ev X d 97 236 (x0 :: x1 :: x2 :: x3 :: x4 :: x5 :: x6 :: some (.double w) :: none :: L) st h := g_dstore dX3_product_234 (I_st2_7 hx)
theorem e_X3_product_236 (hx : I_c2 x8 = false) : ev X d 97 236 (x0 :: x1 :: x2 :: x3 :: x4 :: x5 :: x6 :: x7 :: x8 :: some (.int a) :: L) st h = ev X d 97 239 (x0 :: x1 :: x2 :: x3 :: x4 :: x5 :: x6 :: x7 :: x8 :: some (.int (a + 1)) :: L) st h := g_iinc dX3_product_236 (by decide) rfl (I_st1_9 hx)
theorem e_X3_product_239 : ev X d 97 239 L st h = ev X d 97 151 L st h := g_goto dX3_product_239 (by decide)
theorem e_X3_product_242 : ev X d 97 242 (some (va_rf r) :: L) st h = ev X d 97 243 (some (va_rf r) :: L) (va_rf r :: st) h := g_aload_n dX3_product_242 rfl
theorem e_X3_product_243 : ev X d 97 243 L (va_rf (some q) :: st) h = (I_getf X h q 3 6).bind (fun v => ev X d 97 246 L (v :: st) h) := g_get dX3_product_243 (by decide)
theorem e_X3_product_246 : ev X d 97 246 (some (va_rf r) :: L) st h = ev X d 97 247 (some (va_rf r) :: L) (va_rf r :: st) h := g_aload_n dX3_product_246 rfl
theorem e_X3_product_247 : ev X d 97 247 (x0 :: x1 :: x2 :: some (.int a) :: L) st h = ev X d 97 248 (x0 :: x1 :: x2 :: some (.int a) :: L) (.int a :: st) h := g_iload_n dX3_product_247 rfl
theorem e_X3_product_248 : ev X d 97 248 (x0 :: x1 :: x2 :: x3 :: some (.int a) :: L) st h = ev X d 97 250 (x0 :: x1 :: x2 :: x3 :: some (.int a) :: L) (.int a :: st) h := g_iload dX3_product_248 rfl
theorem e_X3_product_250 : ev X d 97 250 (x0 :: x1 :: x2 :: x3 :: x4 :: some (.int a) :: L) st h = ev X d 97 252 (x0 :: x1 :: x2 :: x3 :: x4 :: some (.int a) :: L) (.int a :: st) h := g_iload dX3_product_250 rfl
theorem e_X3_product_252 (hc : I_isC X h q 3 = true) (hs : I_cat st ≤ 8) : ev X (d + 1) 97 252 L (.int a3 :: .int a2 :: .int a1 :: va_rf (some q) :: st) h = (ev X d 92 0 [some (va_rf (some q)), some (.int a1), some (.int a2), some (.int a3)] [] h).bind (fun r => ev X (d + 1) 97 255 L (r.1.toList ++ st) r.2) := g_callV (as := [.int a3, .int a2, .int a1]) dX3_product_252 (by decide) (by decide) I_np_92 rfl (by simp only [List.reverse_cons, List.reverse_nil, List.nil_append, List.cons_append, I_slots_n, I_slots_i, I_slots_d, I_slots_q, List.length_cons, List.length_nil]; decide) (by simp only [I_ent, List.reverse_cons, List.reverse_nil, List.nil_append, List.cons_append, I_slots_n, I_slots_i, I_slots_d, I_slots_q, List.length_cons, List.length_nil]; rfl) rfl hc hs
theorem e_X3_product_255 : ev X d 97 255 (some (va_rf r) :: L) st h = ev X d 97 256 (some (va_rf r) :: L) (va_rf r :: st) h := g_aload_n dX3_product_255 rfl
theorem e_X3_product_256 : ev X d 97 256 L (va_rf (some q) :: st) h = (I_getf X h q 3 1).bind (fun v => ev X d 97 259 L (v :: st) h) := g_get dX3_product_256 (by decide)
theorem e_X3_product_259 : ev X d 97 259 (x0 :: some (.int a) :: L) st h = ev X d 97 260 (x0 :: some (.int a) :: L) (.int a :: st) h := g_iload_n dX3_product_259 rfl
theorem e_X3_product_260 : ev X d 97 260 L (.int i :: va_rf (some q) :: st) h = (I_aldi X h 0 q i).bind (fun v => ev X d 97 261 L (.int v :: st) h) := g_iald dX3_product_260 (by decide)
theorem e_X3_product_261 : ev X d 97 261 L (.int a :: st) h = if a = 0 then ev X d 97 264 L st h else ev X d 97 277 L st h := g_if_ne dX3_product_261 (by decide)
theorem e_X3_product_264 : ev X d 97 264 (x0 :: x1 :: x2 :: x3 :: x4 :: x5 :: some (.int a) :: L) st h = ev X d 97 266 (x0 :: x1 :: x2 :: x3 :: x4 :: x5 :: some (.int a) :: L) (.int a :: st) h := g_iload dX3_product_264 rfl
theorem e_X3_product_266 : ev X d 97 266 L (.int a :: st) h = if a ≤ 0 then ev X d 97 273 L st h else ev X d 97 269 L st h := g_if_le dX3_product_266 (by decide)
theorem e_X3_product_269 : ev X d 97 269 L st h = ev X d 97 270 L (.int 1 :: st) h := g_iconst dX3_product_269 (by decide)
theorem e_X3_product_270 : ev X d 97 270 L st h = ev X d 97 279 L st h := g_goto dX3_product_270 (by decide)
theorem e_X3_product_273 : ev X d 97 273 L st h = ev X d 97 274 L (.int 0 :: st) h := g_iconst dX3_product_273 (by decide)
theorem e_X3_product_274 : ev X d 97 274 L st h = ev X d 97 279 L st h := g_goto dX3_product_274 (by decide)
theorem e_X3_product_277 : ev X d 97 277 (x0 :: x1 :: x2 :: x3 :: x4 :: x5 :: some (.int a) :: L) st h = ev X d 97 279 (x0 :: x1 :: x2 :: x3 :: x4 :: x5 :: some (.int a) :: L) (.int a :: st) h := g_iload dX3_product_277 rfl
theorem e_X3_product_279 : ev X d 97 279 L (.int v :: .int i :: va_rf (some q) :: st) h = (I_asti X h 0 q i v).bind (fun h => ev X d 97 280 L st h) := g_iast dX3_product_279
theorem e_X3_product_280 : ev X d 97 280 (some (va_rf r) :: L) st h = ev X d 97 281 (some (va_rf r) :: L) (va_rf r :: st) h := g_aload_n dX3_product_280 rfl
theorem e_X3_product_281 : ev X d 97 281 L (va_rf (some q) :: st) h = (I_getf X h q 3 7).bind (fun v => ev X d 97 284 L (v :: st) h) := g_get dX3_product_281 (by decide)
theorem e_X3_product_284 : ev X d 97 284 (some (va_rf r) :: L) st h = ev X d 97 285 (some (va_rf r) :: L) (va_rf r :: st) h := g_aload_n dX3_product_284 rfl
theorem e_X3_product_285 : ev X d 97 285 (x0 :: x1 :: x2 :: some (.int a) :: L) st h = ev X d 97 286 (x0 :: x1 :: x2 :: some (.int a) :: L) (.int a :: st) h := g_iload_n dX3_product_285 rfl
theorem e_X3_product_286 : ev X d 97 286 (x0 :: x1 :: x2 :: x3 :: some (.int a) :: L) st h = ev X d 97 288 (x0 :: x1 :: x2 :: x3 :: some (.int a) :: L) (.int a :: st) h := g_iload dX3_product_286 rfl
theorem e_X3_product_288 : ev X d 97 288 (x0 :: x1 :: x2 :: x3 :: x4 :: some (.int a) :: L) st h = ev X d 97 290 (x0 :: x1 :: x2 :: x3 :: x4 :: some (.int a) :: L) (.int a :: st) h := g_iload dX3_product_288 rfl
theorem e_X3_product_290 (hc : I_isC X h q 3 = true) (hs : I_cat st ≤ 8) : ev X (d + 1) 97 290 L (.int a3 :: .int a2 :: .int a1 :: va_rf (some q) :: st) h = (ev X d 92 0 [some (va_rf (some q)), some (.int a1), some (.int a2), some (.int a3)] [] h).bind (fun r => ev X (d + 1) 97 293 L (r.1.toList ++ st) r.2) := g_callV (as := [.int a3, .int a2, .int a1]) dX3_product_290 (by decide) (by decide) I_np_92 rfl (by simp only [List.reverse_cons, List.reverse_nil, List.nil_append, List.cons_append, I_slots_n, I_slots_i, I_slots_d, I_slots_q, List.length_cons, List.length_nil]; decide) (by simp only [I_ent, List.reverse_cons, List.reverse_nil, List.nil_append, List.cons_append, I_slots_n, I_slots_i, I_slots_d, I_slots_q, List.length_cons, List.length_nil]; rfl) rfl hc hs
theorem e_X3_product_293 : ev X d 97 293 (x0 :: x1 :: x2 :: x3 :: x4 :: x5 :: x6 :: some (.double w) :: L) st h = ev X d 97 295 (x0 :: x1 :: x2 :: x3 :: x4 :: x5 :: x6 :: some (.double w) :: L) (.double w :: st) h := g_dload dX3_product_293 rfl
theorem e_X3_product_295 : ev X d 97 295 L (.double w :: .int i :: va_rf (some q) :: st) h = (I_astd X h q i w).bind (fun h => ev X d 97 296 L st h) := g_dast dX3_product_295
theorem e_X3_product_296 (hx : I_c2 x4 = false) : ev X d 97 296 (x0 :: x1 :: x2 :: x3 :: x4 :: some (.int a) :: L) st h = ev X d 97 299 (x0 :: x1 :: x2 :: x3 :: x4 :: some (.int (a + 1)) :: L) st h := g_iinc dX3_product_296 (by decide) rfl (I_st1_5 hx)
theorem e_X3_product_299 : ev X d 97 299 L st h = ev X d 97 132 L st h := g_goto dX3_product_299 (by decide)
theorem e_X3_product_302 (hx : I_c2 x3 = false) : ev X d 97 302 (x0 :: x1 :: x2 :: x3 :: some (.int a) :: L) st h = ev X d 97 305 (x0 :: x1 :: x2 :: x3 :: some (.int (a + 1)) :: L) st h := g_iinc dX3_product_302 (by decide) rfl (I_st1_4 hx)
theorem e_X3_product_305 : ev X d 97 305 L st h = ev X d 97 118 L st h := g_goto dX3_product_305 (by decide)
theorem e_X3_product_308 : ev X d 97 308 (x0 :: x1 :: x2 :: some (.int a) :: L) st h = ev X d 97 309 (x0 :: x1 :: x2 :: some (.int a) :: L) (.int a :: st) h := g_iload_n dX3_product_308 rfl
theorem e_X3_product_309 : ev X d 97 309 L [.int a] h = some (some (.int a), h) := g_iret dX3_product_309 rfl
theorem e_X3_distances_0 : ev X d 98 0 (some (va_rf r) :: L) st h = ev X d 98 1 (some (va_rf r) :: L) (va_rf r :: st) h := g_aload_n dX3_distances_0 rfl
theorem e_X3_distances_1 : ev X d 98 1 (x0 :: some (.int a) :: L) st h = ev X d 98 2 (x0 :: some (.int a) :: L) (.int a :: st) h := g_iload_n dX3_distances_1 rfl
theorem e_X3_distances_2 (hc : I_isC X h q 3 = true) (hs : I_cat st ≤ 8) : ev X (d + 1) 98 2 L (.int a1 :: va_rf (some q) :: st) h = (ev X d 71 0 [some (va_rf (some q)), some (.int a1)] [] h).bind (fun r => ev X (d + 1) 98 5 L (r.1.toList ++ st) r.2) := g_callV (as := [.int a1]) dX3_distances_2 (by decide) (by decide) I_np_71 rfl (by simp only [List.reverse_cons, List.reverse_nil, List.nil_append, List.cons_append, I_slots_n, I_slots_i, I_slots_d, I_slots_q, List.length_cons, List.length_nil]; decide) (by simp only [I_ent, List.reverse_cons, List.reverse_nil, List.nil_append, List.cons_append, I_slots_n, I_slots_i, I_slots_d, I_slots_q, List.length_cons, List.length_nil]; rfl) rfl hc hs
theorem e_X3_distances_5 : ev X d 98 5 L (.int a :: st) h = if a = 0 then ev X d 98 8 L st h else ev X d 98 11 L st h := g_if_ne dX3_distances_5 (by decide)
theorem e_X3_distances_8 : ev X d 98 8 L st h = ev X d 98 10 L (.int (-1000001) :: st) h := g_ldc dX3_distances_8 (by decide)
theorem e_X3_distances_10 : ev X d 98 10 L [.int a] h = some (some (.int a), h) := g_iret dX3_distances_10 rfl
theorem e_X3_distances_11 : ev X d 98 11 (some (va_rf r) :: L) st h = ev X d 98 12 (some (va_rf r) :: L) (va_rf r :: st) h := g_aload_n dX3_distances_11 rfl
theorem e_X3_distances_12 : ev X d 98 12 L (va_rf (some q) :: st) h = (I_getf X h q 3 1).bind (fun v => ev X d 98 15 L (v :: st) h) := g_get dX3_distances_12 (by decide)
theorem e_X3_distances_15 : ev X d 98 15 (x0 :: some (.int a) :: L) st h = ev X d 98 16 (x0 :: some (.int a) :: L) (.int a :: st) h := g_iload_n dX3_distances_15 rfl
theorem e_X3_distances_16 : ev X d 98 16 L (.int i :: va_rf (some q) :: st) h = (I_aldi X h 0 q i).bind (fun v => ev X d 98 17 L (.int v :: st) h) := g_iald dX3_distances_16 (by decide)
theorem e_X3_distances_17 : ev X d 98 17 L (.int a :: st) h = if a = 0 then ev X d 98 20 L st h else ev X d 98 30 L st h := g_if_ne dX3_distances_17 (by decide)
theorem e_X3_distances_20 : ev X d 98 20 (some (va_rf r) :: L) st h = ev X d 98 21 (some (va_rf r) :: L) (va_rf r :: st) h := g_aload_n dX3_distances_20 rfl
theorem e_X3_distances_21 : ev X d 98 21 (x0 :: some (.int a) :: L) st h = ev X d 98 22 (x0 :: some (.int a) :: L) (.int a :: st) h := g_iload_n dX3_distances_21 rfl
theorem e_X3_distances_22 (hc : I_isC X h q 3 = true) (hs : I_cat st ≤ 8) : ev X (d + 1) 98 22 L (.int a1 :: va_rf (some q) :: st) h = (ev X d 87 0 [some (va_rf (some q)), some (.int a1), none, none] [] h).bind (fun r => ev X (d + 1) 98 25 L (r.1.toList ++ st) r.2) := g_callV (as := [.int a1]) dX3_distances_22 (by decide) (by decide) I_np_87 rfl (by simp only [List.reverse_cons, List.reverse_nil, List.nil_append, List.cons_append, I_slots_n, I_slots_i, I_slots_d, I_slots_q, List.length_cons, List.length_nil]; decide) (by simp only [I_ent, List.reverse_cons, List.reverse_nil, List.nil_append, List.cons_append, I_slots_n, I_slots_i, I_slots_d, I_slots_q, List.length_cons, List.length_nil]; rfl) rfl hc hs
theorem e_X3_distances_25 : ev X d 98 25 L st h = ev X d 98 27 L (.int (-1000009) :: st) h := g_ldc dX3_distances_25 (by decide)
theorem e_X3_distances_27 : ev X d 98 27 L (.int b :: .int a :: st) h = if a = b then ev X d 98 33 L st h else ev X d 98 30 L st h := g_icmp_eq dX3_distances_27 (by decide)
theorem e_X3_distances_30 : ev X d 98 30 L st h = ev X d 98 32 L (.int (-1000003) :: st) h := g_ldc dX3_distances_30 (by decide)
theorem e_X3_distances_32 : ev X d 98 32 L [.int a] h = some (some (.int a), h) := g_iret dX3_distances_32 rfl
theorem e_X3_distances_33 : ev X d 98 33 (some (va_rf r) :: L) st h = ev X d 98 34 (some (va_rf r) :: L) (va_rf r :: st) h := g_aload_n dX3_distances_33 rfl
theorem e_X3_distances_34 : ev X d 98 34 L (va_rf (some q) :: st) h = (I_getf X h q 3 0).bind (fun v => ev X d 98 37 L (v :: st) h) := g_get dX3_distances_34 (by decide)
theorem e_X3_distances_37 : ev X d 98 37 L st h = ev X d 98 39 L (.int 16 :: st) h := g_bipush dX3_distances_37 (by decide)
theorem e_X3_distances_39 : ev X d 98 39 L (.int b :: .int a :: st) h = if a = b then ev X d 98 42 L st h else ev X d 98 45 L st h := g_icmp_ne dX3_distances_39 (by decide)
theorem e_X3_distances_42 : ev X d 98 42 L st h = ev X d 98 44 L (.int (-1000004) :: st) h := g_ldc dX3_distances_42 (by decide)
theorem e_X3_distances_44 : ev X d 98 44 L [.int a] h = some (some (.int a), h) := g_iret dX3_distances_44 rfl
theorem e_X3_distances_45 : ev X d 98 45 (some (va_rf r) :: L) st h = ev X d 98 46 (some (va_rf r) :: L) (va_rf r :: st) h := g_aload_n dX3_distances_45 rfl
theorem e_X3_distances_46 (hc : I_isC X h q 3 = true) (hs : I_cat st ≤ 8) : ev X (d + 1) 98 46 L (va_rf (some q) :: st) h = (ev X d 78 0 [some (va_rf (some q)), none, none, none] [] h).bind (fun r => ev X (d + 1) 98 49 L (r.1.toList ++ st) r.2) := g_callV (as := []) dX3_distances_46 (by decide) (by decide) I_np_78 rfl (by simp only [List.reverse_cons, List.reverse_nil, List.nil_append, List.cons_append, I_slots_n, I_slots_i, I_slots_d, I_slots_q, List.length_cons, List.length_nil]; decide) (by simp only [I_ent, List.reverse_cons, List.reverse_nil, List.nil_append, List.cons_append, I_slots_n, I_slots_i, I_slots_d, I_slots_q, List.length_cons, List.length_nil]; rfl) rfl hc hs
theorem e_X3_distances_49 : ev X d 98 49 (some (va_rf r) :: L) st h = ev X d 98 50 (some (va_rf r) :: L) (va_rf r :: st) h := g_aload_n dX3_distances_49 rfl
theorem e_X3_distances_50 : ev X d 98 50 L (va_rf (some q) :: st) h = (I_getf X h q 3 2).bind (fun v => ev X d 98 53 L (v :: st) h) := g_get dX3_distances_50 (by decide)
theorem e_X3_distances_53 : ev X d 98 53 (x0 :: some (.int a) :: L) st h = ev X d 98 54 (x0 :: some (.int a) :: L) (.int a :: st) h := g_iload_n dX3_distances_53 rfl
theorem e_X3_distances_54 : ev X d 98 54 L (.int i :: va_rf (some q) :: st) h = (I_aldi X h 0 q i).bind (fun v => ev X d 98 55 L (.int v :: st) h) := g_iald dX3_distances_54 (by decide)
theorem e_X3_distances_55 (hx : I_c2 x1 = false) : ev X d 98 55 (x0 :: x1 :: x2 :: L) (.int a :: st) h = ev X d 98 56 (x0 :: x1 :: some (.int a) :: L) st h := g_istore_n dX3_distances_55 (I_st1_2 hx)
theorem e_X3_distances_56 : ev X d 98 56 (some (va_rf r) :: L) st h = ev X d 98 57 (some (va_rf r) :: L) (va_rf r :: st) h := g_aload_n dX3_distances_56 rfl
theorem e_X3_distances_57 : ev X d 98 57 L st h = ev X d 98 58 L (.int 1 :: st) h := g_iconst dX3_distances_57 (by decide)
theorem e_X3_distances_58 : ev X d 98 58 (x0 :: x1 :: some (.int a) :: L) st h = ev X d 98 59 (x0 :: x1 :: some (.int a) :: L) (.int a :: st) h := g_iload_n dX3_distances_58 rfl
theorem e_X3_distances_59 : ev X d 98 59 (x0 :: x1 :: some (.int a) :: L) st h = ev X d 98 60 (x0 :: x1 :: some (.int a) :: L) (.int a :: st) h := g_iload_n dX3_distances_59 rfl
theorem e_X3_distances_60 (hc : I_isC X h q 3 = true) (hs : I_cat st ≤ 8) : ev X (d + 1) 98 60 L (.int a3 :: .int a2 :: .int a1 :: va_rf (some q) :: st) h = (ev X d 74 0 [some (va_rf (some q)), some (.int a1), some (.int a2), some (.int a3), none, none] [] h).bind (fun r => ev X (d + 1) 98 63 L (r.1.toList ++ st) r.2) := g_callV (as := [.int a3, .int a2, .int a1]) dX3_distances_60 (by decide) (by decide) I_np_74 rfl (by simp only [List.reverse_cons, List.reverse_nil, List.nil_append, List.cons_append, I_slots_n, I_slots_i, I_slots_d, I_slots_q, List.length_cons, List.length_nil]; decide) (by simp only [I_ent, List.reverse_cons, List.reverse_nil, List.nil_append, List.cons_append, I_slots_n, I_slots_i, I_slots_d, I_slots_q, List.length_cons, List.length_nil]; rfl) rfl hc hs
theorem e_X3_distances_63 (hx : I_c2 x2 = false) : ev X d 98 63 (x0 :: x1 :: x2 :: x3 :: L) (.int a :: st) h = ev X d 98 64 (x0 :: x1 :: x2 :: some (.int a) :: L) st h := g_istore_n dX3_distances_63 (I_st1_3 hx)
theorem e_X3_distances_64 : ev X d 98 64 L st h = ev X d 98 65 L (.int 0 :: st) h := g_iconst dX3_distances_64 (by decide)
theorem e_X3_distances_65 (hx : I_c2 x3 = false) : ev X d 98 65 (x0 :: x1 :: x2 :: x3 :: x4 :: L) (.int a :: st) h = ev X d 98 67 (x0 :: x1 :: x2 :: x3 :: some (.int a) :: L) st h := g_istore dX3_distances_65 (I_st1_4 hx)
theorem e_X3_distances_67 : ev X d 98 67 (x0 :: x1 :: x2 :: x3 :: some (.int a) :: L) st h = ev X d 98 69 (x0 :: x1 :: x2 :: x3 :: some (.int a) :: L) (.int a :: st) h := g_iload dX3_distances_67 rfl
theorem e_X3_distances_69 : ev X d 98 69 (x0 :: x1 :: some (.int a) :: L) st h = ev X d 98 70 (x0 :: x1 :: some (.int a) :: L) (.int a :: st) h := g_iload_n dX3_distances_69 rfl
theorem e_X3_distances_70 : ev X d 98 70 L (.int b :: .int a :: st) h = if b ≤ a then ev X d 98 267 L st h else ev X d 98 73 L st h := g_icmp_ge dX3_distances_70 (by decide)
theorem e_X3_distances_73 : ev X d 98 73 L st h = ev X d 98 74 L (.int 0 :: st) h := g_iconst dX3_distances_73 (by decide)
theorem e_X3_distances_74 (hx : I_c2 x4 = false) : ev X d 98 74 (x0 :: x1 :: x2 :: x3 :: x4 :: x5 :: L) (.int a :: st) h = ev X d 98 76 (x0 :: x1 :: x2 :: x3 :: x4 :: some (.int a) :: L) st h := g_istore dX3_distances_74 (I_st1_5 hx)
theorem e_X3_distances_76 : ev X d 98 76 (x0 :: x1 :: x2 :: x3 :: x4 :: some (.int a) :: L) st h = ev X d 98 78 (x0 :: x1 :: x2 :: x3 :: x4 :: some (.int a) :: L) (.int a :: st) h := g_iload dX3_distances_76 rfl
theorem e_X3_distances_78 : ev X d 98 78 (x0 :: x1 :: some (.int a) :: L) st h = ev X d 98 79 (x0 :: x1 :: some (.int a) :: L) (.int a :: st) h := g_iload_n dX3_distances_78 rfl
theorem e_X3_distances_79 : ev X d 98 79 L (.int b :: .int a :: st) h = if b ≤ a then ev X d 98 114 L st h else ev X d 98 82 L st h := g_icmp_ge dX3_distances_79 (by decide)
theorem e_X3_distances_82 : ev X d 98 82 (some (va_rf r) :: L) st h = ev X d 98 83 (some (va_rf r) :: L) (va_rf r :: st) h := g_aload_n dX3_distances_82 rfl
theorem e_X3_distances_83 : ev X d 98 83 L (va_rf (some q) :: st) h = (I_getf X h q 3 6).bind (fun v => ev X d 98 86 L (v :: st) h) := g_get dX3_distances_83 (by decide)
theorem e_X3_distances_86 : ev X d 98 86 (some (va_rf r) :: L) st h = ev X d 98 87 (some (va_rf r) :: L) (va_rf r :: st) h := g_aload_n dX3_distances_86 rfl
theorem e_X3_distances_87 : ev X d 98 87 (x0 :: x1 :: x2 :: some (.int a) :: L) st h = ev X d 98 88 (x0 :: x1 :: x2 :: some (.int a) :: L) (.int a :: st) h := g_iload_n dX3_distances_87 rfl
theorem e_X3_distances_88 : ev X d 98 88 (x0 :: x1 :: x2 :: x3 :: some (.int a) :: L) st h = ev X d 98 90 (x0 :: x1 :: x2 :: x3 :: some (.int a) :: L) (.int a :: st) h := g_iload dX3_distances_88 rfl
theorem e_X3_distances_90 : ev X d 98 90 (x0 :: x1 :: x2 :: x3 :: x4 :: some (.int a) :: L) st h = ev X d 98 92 (x0 :: x1 :: x2 :: x3 :: x4 :: some (.int a) :: L) (.int a :: st) h := g_iload dX3_distances_90 rfl
theorem e_X3_distances_92 (hc : I_isC X h q 3 = true) (hs : I_cat st ≤ 8) : ev X (d + 1) 98 92 L (.int a3 :: .int a2 :: .int a1 :: va_rf (some q) :: st) h = (ev X d 92 0 [some (va_rf (some q)), some (.int a1), some (.int a2), some (.int a3)] [] h).bind (fun r => ev X (d + 1) 98 95 L (r.1.toList ++ st) r.2) := g_callV (as := [.int a3, .int a2, .int a1]) dX3_distances_92 (by decide) (by decide) I_np_92 rfl (by simp only [List.reverse_cons, List.reverse_nil, List.nil_append, List.cons_append, I_slots_n, I_slots_i, I_slots_d, I_slots_q, List.length_cons, List.length_nil]; decide) (by simp only [I_ent, List.reverse_cons, List.reverse_nil, List.nil_append, List.cons_append, I_slots_n, I_slots_i, I_slots_d, I_slots_q, List.length_cons, List.length_nil]; rfl) rfl hc hs
theorem e_X3_distances_95 : ev X d 98 95 (x0 :: x1 :: x2 :: x3 :: some (.int a) :: L) st h = ev X d 98 97 (x0 :: x1 :: x2 :: x3 :: some (.int a) :: L) (.int a :: st) h := g_iload dX3_distances_95 rfl
theorem e_X3_distances_97 : ev X d 98 97 (x0 :: x1 :: x2 :: x3 :: x4 :: some (.int a) :: L) st h = ev X d 98 99 (x0 :: x1 :: x2 :: x3 :: x4 :: some (.int a) :: L) (.int a :: st) h := g_iload dX3_distances_97 rfl
theorem e_X3_distances_99 : ev X d 98 99 L (.int b :: .int a :: st) h = if a = b then ev X d 98 102 L st h else ev X d 98 106 L st h := g_icmp_ne dX3_distances_99 (by decide)
theorem e_X3_distances_102 : ev X d 98 102 L st h = ev X d 98 103 L (.int 0 :: st) h := g_iconst dX3_distances_102 (by decide)
theorem e_X3_distances_103 : ev X d 98 103 L st h = ev X d 98 107 L st h := g_goto dX3_distances_103 (by decide)
theorem e_X3_distances_106 : ev X d 98 106 L st h = ev X d 98 107 L (.int (-1) :: st) h := g_iconst dX3_distances_106 (by decide)
theorem e_X3_distances_107 : ev X d 98 107 L (.int v :: .int i :: va_rf (some q) :: st) h = (I_asti X h 0 q i v).bind (fun h => ev X d 98 108 L st h) := g_iast dX3_distances_107
theorem e_X3_distances_108 (hx : I_c2 x4 = false) : ev X d 98 108 (x0 :: x1 :: x2 :: x3 :: x4 :: some (.int a) :: L) st h = ev X d 98 111 (x0 :: x1 :: x2 :: x3 :: x4 :: some (.int (a + 1)) :: L) st h := g_iinc dX3_distances_108 (by decide) rfl (I_st1_5 hx)
theorem e_X3_distances_111 : ev X d 98 111 L st h = ev X d 98 76 L st h := g_goto dX3_distances_111 (by decide)
theorem e_X3_distances_114 : ev X d 98 114 L st h = ev X d 98 115 L (.int 0 :: st) h := g_iconst dX3_distances_114 (by decide)
theorem e_X3_distances_115 (hx : I_c2 x4 = false) : ev X d 98 115 (x0 :: x1 :: x2 :: x3 :: x4 :: x5 :: L) (.int a :: st) h = ev X d 98 117 (x0 :: x1 :: x2 :: x3 :: x4 :: some (.int a) :: L) st h := g_istore dX3_distances_115 (I_st1_5 hx)
theorem e_X3_distances_117 : ev X d 98 117 (x0 :: x1 :: x2 :: x3 :: x4 :: some (.int a) :: L) st h = ev X d 98 119 (x0 :: x1 :: x2 :: x3 :: x4 :: some (.int a) :: L) (.int a :: st) h := g_iload dX3_distances_117 rfl
theorem e_X3_distances_119 : ev X d 98 119 (x0 :: x1 :: some (.int a) :: L) st h = ev X d 98 120 (x0 :: x1 :: some (.int a) :: L) (.int a :: st) h := g_iload_n dX3_distances_119 rfl
theorem e_X3_distances_120 : ev X d 98 120 L (.int b :: .int a :: st) h = if b ≤ a then ev X d 98 261 L st h else ev X d 98 123 L st h := g_icmp_ge dX3_distances_120 (by decide)
theorem e_X3_distances_123 : ev X d 98 123 L st h = ev X d 98 124 L (.int 0 :: st) h := g_iconst dX3_distances_123 (by decide)
theorem e_X3_distances_124 (hx : I_c2 x5 = false) : ev X d 98 124 (x0 :: x1 :: x2 :: x3 :: x4 :: x5 :: x6 :: L) (.int a :: st) h = ev X d 98 126 (x0 :: x1 :: x2 :: x3 :: x4 :: x5 :: some (.int a) :: L) st h := g_istore dX3_distances_124 (I_st1_6 hx)
theorem e_X3_distances_126 : ev X d 98 126 (x0 :: x1 :: x2 :: x3 :: x4 :: x5 :: some (.int a) :: L) st h = ev X d 98 128 (x0 :: x1 :: x2 :: x3 :: x4 :: x5 :: some (.int a) :: L) (.int a :: st) h := g_iload dX3_distances_126 rfl
theorem e_X3_distances_128 : ev X d 98 128 (x0 :: x1 :: some (.int a) :: L) st h = ev X d 98 129 (x0 :: x1 :: some (.int a) :: L) (.int a :: st) h := g_iload_n dX3_distances_128 rfl
theorem e_X3_distances_129 : ev X d 98 129 L (.int b :: .int a :: st) h = if b ≤ a then ev X d 98 255 L st h else ev X d 98 132 L st h := g_icmp_ge dX3_distances_129 (by decide)
theorem e_X3_distances_132 : ev X d 98 132 L st h = ev X d 98 133 L (.int 0 :: st) h := g_iconst dX3_distances_132 (by decide)
theorem e_X3_distances_133 (hx : I_c2 x6 = false) : ev X d 98 133 (x0 :: x1 :: x2 :: x3 :: x4 :: x5 :: x6 :: x7 :: L) (.int a :: st) h = ev X d 98 135 (x0 :: x1 :: x2 :: x3 :: x4 :: x5 :: x6 :: some (.int a) :: L) st h := g_istore dX3_distances_133 (I_st1_7 hx)
theorem e_X3_distances_135 : ev X d 98 135 (x0 :: x1 :: x2 :: x3 :: x4 :: x5 :: x6 :: some (.int a) :: L) st h = ev X d 98 137 (x0 :: x1 :: x2 :: x3 :: x4 :: x5 :: x6 :: some (.int a) :: L) (.int a :: st) h := g_iload dX3_distances_135 rfl
theorem e_X3_distances_137 : ev X d 98 137 (x0 :: x1 :: some (.int a) :: L) st h = ev X d 98 138 (x0 :: x1 :: some (.int a) :: L) (.int a :: st) h := g_iload_n dX3_distances_137 rfl
theorem e_X3_distances_138 : ev X d 98 138 L (.int b :: .int a :: st) h = if b ≤ a then ev X d 98 249 L st h else ev X d 98 141 L st h := g_icmp_ge dX3_distances_138 (by decide)
theorem e_X3_distances_141 : ev X d 98 141 (some (va_rf r) :: L) st h = ev X d 98 142 (some (va_rf r) :: L) (va_rf r :: st) h := g_aload_n dX3_distances_141 rfl
theorem e_X3_distances_142 : ev X d 98 142 L (va_rf (some q) :: st) h = (I_getf X h q 3 6).bind (fun v => ev X d 98 145 L (v :: st) h) := g_get dX3_distances_142 (by decide)
theorem e_X3_distances_145 : ev X d 98 145 (some (va_rf r) :: L) st h = ev X d 98 146 (some (va_rf r) :: L) (va_rf r :: st) h := g_aload_n dX3_distances_145 rfl
theorem e_X3_distances_146 : ev X d 98 146 (x0 :: x1 :: x2 :: some (.int a) :: L) st h = ev X d 98 147 (x0 :: x1 :: x2 :: some (.int a) :: L) (.int a :: st) h := g_iload_n dX3_distances_146 rfl
theorem e_X3_distances_147 : ev X d 98 147 (x0 :: x1 :: x2 :: x3 :: some (.int a) :: L) st h = ev X d 98 149 (x0 :: x1 :: x2 :: x3 :: some (.int a) :: L) (.int a :: st) h := g_iload dX3_distances_147 rfl
theorem e_X3_distances_149 : ev X d 98 149 (x0 :: x1 :: x2 :: x3 :: x4 :: x5 :: some (.int a) :: L) st h = ev X d 98 151 (x0 :: x1 :: x2 :: x3 :: x4 :: x5 :: some (.int a) :: L) (.int a :: st) h := g_iload dX3_distances_149 rfl
theorem e_X3_distances_151 (hc : I_isC X h q 3 = true) (hs : I_cat st ≤ 8) : ev X (d + 1) 98 151 L (.int a3 :: .int a2 :: .int a1 :: va_rf (some q) :: st) h = (ev X d 92 0 [some (va_rf (some q)), some (.int a1), some (.int a2), some (.int a3)] [] h).bind (fun r => ev X (d + 1) 98 154 L (r.1.toList ++ st) r.2) := g_callV (as := [.int a3, .int a2, .int a1]) dX3_distances_151 (by decide) (by decide) I_np_92 rfl (by simp only [List.reverse_cons, List.reverse_nil, List.nil_append, List.cons_append, I_slots_n, I_slots_i, I_slots_d, I_slots_q, List.length_cons, List.length_nil]; decide) (by simp only [I_ent, List.reverse_cons, List.reverse_nil, List.nil_append, List.cons_append, I_slots_n, I_slots_i, I_slots_d, I_slots_q, List.length_cons, List.length_nil]; rfl) rfl hc hs
theorem e_X3_distances_154 : ev X d 98 154 L (.int i :: va_rf (some q) :: st) h = (I_aldi X h 0 q i).bind (fun v => ev X d 98 155 L (.int v :: st) h) := g_iald dX3_distances_154 (by decide)
theorem e_X3_distances_155 : ev X d 98 155 (x0 :: x1 :: x2 :: x3 :: x4 :: some (.int a) :: L) st h = ev X d 98 157 (x0 :: x1 :: x2 :: x3 :: x4 :: some (.int a) :: L) (.int a :: st) h := g_iload dX3_distances_155 rfl
theorem e_X3_distances_157 : ev X d 98 157 L (.int b :: .int a :: st) h = if a = b then ev X d 98 160 L st h else ev X d 98 249 L st h := g_icmp_ne dX3_distances_157 (by decide)
theorem e_X3_distances_160 : ev X d 98 160 (some (va_rf r) :: L) st h = ev X d 98 161 (some (va_rf r) :: L) (va_rf r :: st) h := g_aload_n dX3_distances_160 rfl
theorem e_X3_distances_161 : ev X d 98 161 L (va_rf (some q) :: st) h = (I_getf X h q 3 6).bind (fun v => ev X d 98 164 L (v :: st) h) := g_get dX3_distances_161 (by decide)
theorem e_X3_distances_164 : ev X d 98 164 (some (va_rf r) :: L) st h = ev X d 98 165 (some (va_rf r) :: L) (va_rf r :: st) h := g_aload_n dX3_distances_164 rfl
theorem e_X3_distances_165 : ev X d 98 165 (x0 :: some (.int a) :: L) st h = ev X d 98 166 (x0 :: some (.int a) :: L) (.int a :: st) h := g_iload_n dX3_distances_165 rfl
theorem e_X3_distances_166 : ev X d 98 166 (x0 :: x1 :: x2 :: x3 :: x4 :: x5 :: some (.int a) :: L) st h = ev X d 98 168 (x0 :: x1 :: x2 :: x3 :: x4 :: x5 :: some (.int a) :: L) (.int a :: st) h := g_iload dX3_distances_166 rfl
theorem e_X3_distances_168 : ev X d 98 168 (x0 :: x1 :: x2 :: x3 :: x4 :: x5 :: x6 :: some (.int a) :: L) st h = ev X d 98 170 (x0 :: x1 :: x2 :: x3 :: x4 :: x5 :: x6 :: some (.int a) :: L) (.int a :: st) h := g_iload dX3_distances_168 rfl
theorem e_X3_distances_170 (hc : I_isC X h q 3 = true) (hs : I_cat st ≤ 8) : ev X (d + 1) 98 170 L (.int a3 :: .int a2 :: .int a1 :: va_rf (some q) :: st) h = (ev X d 92 0 [some (va_rf (some q)), some (.int a1), some (.int a2), some (.int a3)] [] h).bind (fun r => ev X (d + 1) 98 173 L (r.1.toList ++ st) r.2) := g_callV (as := [.int a3, .int a2, .int a1]) dX3_distances_170 (by decide) (by decide) I_np_92 rfl (by simp only [List.reverse_cons, List.reverse_nil, List.nil_append, List.cons_append, I_slots_n, I_slots_i, I_slots_d, I_slots_q, List.length_cons, List.length_nil]; decide) (by simp only [I_ent, List.reverse_cons, List.reverse_nil, List.nil_append, List.cons_append, I_slots_n, I_slots_i, I_slots_d, I_slots_q, List.length_cons, List.length_nil]; rfl) rfl hc hs
theorem e_X3_distances_173 : ev X d 98 173 L (.int i :: va_rf (some q) :: st) h = (I_aldi X h 0 q i).bind (fun v => ev X d 98 174 L (.int v :: st) h) := g_iald dX3_distances_173 (by decide)
theorem e_X3_distances_174 : ev X d 98 174 L st h = ev X d 98 175 L (.int 1 :: st) h := g_iconst dX3_distances_174 (by decide)
theorem e_X3_distances_175 : ev X d 98 175 L (.int b :: .int a :: st) h = if a = b then ev X d 98 178 L st h else ev X d 98 200 L st h := g_icmp_ne dX3_distances_175 (by decide)
theorem e_X3_distances_178 : ev X d 98 178 (some (va_rf r) :: L) st h = ev X d 98 179 (some (va_rf r) :: L) (va_rf r :: st) h := g_aload_n dX3_distances_178 rfl
theorem e_X3_distances_179 : ev X d 98 179 L (va_rf (some q) :: st) h = (I_getf X h q 3 6).bind (fun v => ev X d 98 182 L (v :: st) h) := g_get dX3_distances_179 (by decide)
theorem e_X3_distances_182 : ev X d 98 182 (some (va_rf r) :: L) st h = ev X d 98 183 (some (va_rf r) :: L) (va_rf r :: st) h := g_aload_n dX3_distances_182 rfl
theorem e_X3_distances_183 : ev X d 98 183 (x0 :: x1 :: x2 :: some (.int a) :: L) st h = ev X d 98 184 (x0 :: x1 :: x2 :: some (.int a) :: L) (.int a :: st) h := g_iload_n dX3_distances_183 rfl
theorem e_X3_distances_184 : ev X d 98 184 (x0 :: x1 :: x2 :: x3 :: some (.int a) :: L) st h = ev X d 98 186 (x0 :: x1 :: x2 :: x3 :: some (.int a) :: L) (.int a :: st) h := g_iload dX3_distances_184 rfl
theorem e_X3_distances_186 : ev X d 98 186 (x0 :: x1 :: x2 :: x3 :: x4 :: x5 :: x6 :: some (.int a) :: L) st h = ev X d 98 188 (x0 :: x1 :: x2 :: x3 :: x4 :: x5 :: x6 :: some (.int a) :: L) (.int a :: st) h := g_iload dX3_distances_186 rfl
theorem e_X3_distances_188 (hc : I_isC X h q 3 = true) (hs : I_cat st ≤ 8) : ev X (d + 1) 98 188 L (.int a3 :: .int a2 :: .int a1 :: va_rf (some q) :: st) h = (ev X d 92 0 [some (va_rf (some q)), some (.int a1), some (.int a2), some (.int a3)] [] h).bind (fun r => ev X (d + 1) 98 191 L (r.1.toList ++ st) r.2) := g_callV (as := [.int a3, .int a2, .int a1]) dX3_distances_188 (by decide) (by decide) I_np_92 rfl (by simp only [List.reverse_cons, List.reverse_nil, List.nil_append, List.cons_append, I_slots_n, I_slots_i, I_slots_d, I_slots_q, List.length_cons, List.length_nil]; decide) (by simp only [I_ent, List.reverse_cons, List.reverse_nil, List.nil_append, List.cons_append, I_slots_n, I_slots_i, I_slots_d, I_slots_q, List.length_cons, List.length_nil]; rfl) rfl hc hs
theorem e_X3_distances_191 : ev X d 98 191 L (.int i :: va_rf (some q) :: st) h = (I_aldi X h 0 q i).bind (fun v => ev X d 98 192 L (.int v :: st) h) := g_iald dX3_distances_191 (by decide)
theorem e_X3_distances_192 : ev X d 98 192 L st h = ev X d 98 193 L (.int (-1) :: st) h := g_iconst dX3_distances_192 (by decide)
theorem e_X3_distances_193 : ev X d 98 193 L (.int b :: .int a :: st) h = if a = b then ev X d 98 196 L st h else ev X d 98 200 L st h := g_icmp_ne dX3_distances_193 (by decide)
theorem e_X3_distances_196 : ev X d 98 196 L st h = ev X d 98 197 L (.int 1 :: st) h := g_iconst dX3_distances_196 (by decide)
theorem e_X3_distances_197 : ev X d 98 197 L st h = ev X d 98 201 L st h := g_goto dX3_distances_197 (by decide)
theorem e_X3_distances_200 : ev X d 98 200 L st h = ev X d 98 201 L (.int 0 :: st) h := g_iconst dX3_distances_200 (by decide)
theorem e_X3_distances_201 (hx : I_c2 x7 = false) : ev X d 98 201 (x0 :: x1 :: x2 :: x3 :: x4 :: x5 :: x6 :: x7 :: x8 :: L) (.int a :: st) h = ev X d 98 203 (x0 :: x1 :: x2 :: x3 :: x4 :: x5 :: x6 :: x7 :: some (.int a) :: L) st h := g_istore dX3_distances_201 (I_st1_8 hx)
theorem e_X3_distances_203 : ev X d 98 203 (some (va_rf r) :: L) st h = ev X d 98 204 (some (va_rf r) :: L) (va_rf r :: st) h := g_aload_n dX3_distances_203 rfl
theorem e_X3_distances_204 : ev X d 98 204 L (va_rf (some q) :: st) h = (I_getf X h q 3 6).bind (fun v => ev X d 98 207 L (v :: st) h) := g_get dX3_distances_204 (by decide)
theorem e_X3_distances_207 : ev X d 98 207 (some (va_rf r) :: L) st h = ev X d 98 208 (some (va_rf r) :: L) (va_rf r :: st) h := g_aload_n dX3_distances_207 rfl
theorem e_X3_distances_208 : ev X d 98 208 (x0 :: x1 :: x2 :: some (.int a) :: L) st h = ev X d 98 209 (x0 :: x1 :: x2 :: some (.int a) :: L) (.int a :: st) h := g_iload_n dX3_distances_208 rfl
theorem e_X3_distances_209 : ev X d 98 209 (x0 :: x1 :: x2 :: x3 :: some (.int a) :: L) st h = ev X d 98 211 (x0 :: x1 :: x2 :: x3 :: some (.int a) :: L) (.int a :: st) h := g_iload dX3_distances_209 rfl
theorem e_X3_distances_211 : ev X d 98 211 (x0 :: x1 :: x2 :: x3 :: x4 :: x5 :: x6 :: some (.int a) :: L) st h = ev X d 98 213 (x0 :: x1 :: x2 :: x3 :: x4 :: x5 :: x6 :: some (.int a) :: L) (.int a :: st) h := g_iload dX3_distances_211 rfl
theorem e_X3_distances_213 (hc : I_isC X h q 3 = true) (hs : I_cat st ≤ 8) : ev X (d + 1) 98 213 L (.int a3 :: .int a2 :: .int a1 :: va_rf (some q) :: st) h = (ev X d 92 0 [some (va_rf (some q)), some (.int a1), some (.int a2), some (.int a3)] [] h).bind (fun r => ev X (d + 1) 98 216 L (r.1.toList ++ st) r.2) := g_callV (as := [.int a3, .int a2, .int a1]) dX3_distances_213 (by decide) (by decide) I_np_92 rfl (by simp only [List.reverse_cons, List.reverse_nil, List.nil_append, List.cons_append, I_slots_n, I_slots_i, I_slots_d, I_slots_q, List.length_cons, List.length_nil]; decide) (by simp only [I_ent, List.reverse_cons, List.reverse_nil, List.nil_append, List.cons_append, I_slots_n, I_slots_i, I_slots_d, I_slots_q, List.length_cons, List.length_nil]; rfl) rfl hc hs
theorem e_X3_distances_216 : ev X d 98 216 (x0 :: x1 :: x2 :: x3 :: x4 :: x5 :: x6 :: x7 :: some (.int a) :: L) st h = ev X d 98 218 (x0 :: x1 :: x2 :: x3 :: x4 :: x5 :: x6 :: x7 :: some (.int a) :: L) (.int a :: st) h := g_iload dX3_distances_216 rfl
theorem e_X3_distances_218 : ev X d 98 218 L (.int a :: st) h = if a = 0 then ev X d 98 228 L st h else ev X d 98 221 L st h := g_if_eq dX3_distances_218 (by decide)
theorem e_X3_distances_221 : ev X d 98 221 (x0 :: x1 :: x2 :: x3 :: x4 :: some (.int a) :: L) st h = ev X d 98 223 (x0 :: x1 :: x2 :: x3 :: x4 :: some (.int a) :: L) (.int a :: st) h := g_iload dX3_distances_221 rfl
theorem e_X3_distances_223 : ev X d 98 223 L st h = ev X d 98 224 L (.int 1 :: st) h := g_iconst dX3_distances_223 (by decide)
theorem e_X3_distances_224 : ev X d 98 224 L (.int b :: .int a :: st) h = ev X d 98 225 L (.int (a + b) :: st) h := g_iadd dX3_distances_224
theorem e_X3_distances_225 : ev X d 98 225 L st h = ev X d 98 242 L st h := g_goto dX3_distances_225 (by decide)
theorem e_X3_distances_228 : ev X d 98 228 (some (va_rf r) :: L) st h = ev X d 98 229 (some (va_rf r) :: L) (va_rf r :: st) h := g_aload_n dX3_distances_228 rfl
theorem e_X3_distances_229 : ev X d 98 229 L (va_rf (some q) :: st) h = (I_getf X h q 3 6).bind (fun v => ev X d 98 232 L (v :: st) h) := g_get dX3_distances_229 (by decide)
theorem e_X3_distances_232 : ev X d 98 232 (some (va_rf r) :: L) st h = ev X d 98 233 (some (va_rf r) :: L) (va_rf r :: st) h := g_aload_n dX3_distances_232 rfl
theorem e_X3_distances_233 : ev X d 98 233 (x0 :: x1 :: x2 :: some (.int a) :: L) st h = ev X d 98 234 (x0 :: x1 :: x2 :: some (.int a) :: L) (.int a :: st) h := g_iload_n dX3_distances_233 rfl
theorem e_X3_distances_234 : ev X d 98 234 (x0 :: x1 :: x2 :: x3 :: some (.int a) :: L) st h = ev X d 98 236 (x0 :: x1 :: x2 :: x3 :: some (.int a) :: L) (.int a :: st) h := g_iload dX3_distances_234 rfl
theorem e_X3_distances_236 : ev X d 98 236 (x0 :: x1 :: x2 :: x3 :: x4 :: x5 :: x6 :: some (.int a) :: L) st h = ev X d 98 238 (x0 :: x1 :: x2 :: x3 :: x4 :: x5 :: x6 :: some (.int a) :: L) (.int a :: st) h := g_iload dX3_distances_236 rfl
theorem e_X3_distances_238 (hc : I_isC X h q 3 = true) (hs : I_cat st ≤ 8) : ev X (d + 1) 98 238 L (.int a3 :: .int a2 :: .int a1 :: va_rf (some q) :: st) h = (ev X d 92 0 [some (va_rf (some q)), some (.int a1), some (.int a2), some (.int a3)] [] h).bind (fun r => ev X (d + 1) 98 241 L (r.1.toList ++ st) r.2) := g_callV (as := [.int a3, .int a2, .int a1]) dX3_distances_238 (by decide) (by decide) I_np_92 rfl (by simp only [List.reverse_cons, List.reverse_nil, List.nil_append, List.cons_append, I_slots_n, I_slots_i, I_slots_d, I_slots_q, List.length_cons, List.length_nil]; decide) (by simp only [I_ent, List.reverse_cons, List.reverse_nil, List.nil_append, List.cons_append, I_slots_n, I_slots_i, I_slots_d, I_slots_q, List.length_cons, List.length_nil]; rfl) rfl hc hs
theorem e_X3_distances_241 : ev X d 98 241 L (.int i :: va_rf (some q) :: st) h = (I_aldi X h 0 q i).bind (fun v => ev X d 98 242 L (.int v :: st) h) := g_iald dX3_distances_241 (by decide)
theorem e_X3_distances_242 : ev X d 98 242 L (.int v :: .int i :: va_rf (some q) :: st) h = (I_asti X h 0 q i v).bind (fun h => ev X d 98 243 L st h) := g_iast dX3_distances_242
theorem e_X3_distances_243 (hx : I_c2 x6 = false) : ev X d 98 243 (x0 :: x1 :: x2 :: x3 :: x4 :: x5 :: x6 :: some (.int a) :: L) st h = ev X d 98 246 (x0 :: x1 :: x2 :: x3 :: x4 :: x5 :: x6 :: some (.int (a + 1)) :: L) st h := g_iinc dX3_distances_243 (by decide) rfl (I_st1_7 hx)
theorem e_X3_distances_246 : ev X d 98 246 L st h = ev X d 98 135 L st h := g_goto dX3_distances_246 (by decide)
theorem e_X3_distances_249 (hx : I_c2 x5 = false) : ev X d 98 249 (x0 :: x1 :: x2 :: x3 :: x4 :: x5 :: some (.int a) :: L) st h = ev X d 98 252 (x0 :: x1 :: x2 :: x3 :: x4 :: x5 :: some (.int (a + 1)) :: L) st h := g_iinc dX3_distances_249 (by decide) rfl (I_st1_6 hx)
theorem e_X3_distances_252 : ev X d 98 252 L st h = ev X d 98 126 L st h := g_goto dX3_distances_252 (by decide)
theorem e_X3_distances_255 (hx : I_c2 x4 = false) : ev X d 98 255 (x0 :: x1 :: x2 :: x3 :: x4 :: some (.int a) :: L) st h = ev X d 98 258 (x0 :: x1 :: x2 :: x3 :: x4 :: some (.int (a + 1)) :: L) st h := g_iinc dX3_distances_255 (by decide) rfl (I_st1_5 hx)
theorem e_X3_distances_258 : ev X d 98 258 L st h = ev X d 98 117 L st h := g_goto dX3_distances_258 (by decide)
theorem e_X3_distances_261 (hx : I_c2 x3 = false) : ev X d 98 261 (x0 :: x1 :: x2 :: x3 :: some (.int a) :: L) st h = ev X d 98 264 (x0 :: x1 :: x2 :: x3 :: some (.int (a + 1)) :: L) st h := g_iinc dX3_distances_261 (by decide) rfl (I_st1_4 hx)
theorem e_X3_distances_264 : ev X d 98 264 L st h = ev X d 98 67 L st h := g_goto dX3_distances_264 (by decide)
theorem e_X3_distances_267 : ev X d 98 267 (x0 :: x1 :: x2 :: some (.int a) :: L) st h = ev X d 98 268 (x0 :: x1 :: x2 :: some (.int a) :: L) (.int a :: st) h := g_iload_n dX3_distances_267 rfl
theorem e_X3_distances_268 : ev X d 98 268 L [.int a] h = some (some (.int a), h) := g_iret dX3_distances_268 rfl
theorem e_X3_pack_0 : ev X d 99 0 (some (va_rf r) :: L) st h = ev X d 99 1 (some (va_rf r) :: L) (va_rf r :: st) h := g_aload_n dX3_pack_0 rfl
theorem e_X3_pack_1 : ev X d 99 1 (x0 :: some (.int a) :: L) st h = ev X d 99 2 (x0 :: some (.int a) :: L) (.int a :: st) h := g_iload_n dX3_pack_1 rfl
theorem e_X3_pack_2 (hc : I_isC X h q 3 = true) (hs : I_cat st ≤ 8) : ev X (d + 1) 99 2 L (.int a1 :: va_rf (some q) :: st) h = (ev X d 71 0 [some (va_rf (some q)), some (.int a1)] [] h).bind (fun r => ev X (d + 1) 99 5 L (r.1.toList ++ st) r.2) := g_callV (as := [.int a1]) dX3_pack_2 (by decide) (by decide) I_np_71 rfl (by simp only [List.reverse_cons, List.reverse_nil, List.nil_append, List.cons_append, I_slots_n, I_slots_i, I_slots_d, I_slots_q, List.length_cons, List.length_nil]; decide) (by simp only [I_ent, List.reverse_cons, List.reverse_nil, List.nil_append, List.cons_append, I_slots_n, I_slots_i, I_slots_d, I_slots_q, List.length_cons, List.length_nil]; rfl) rfl hc hs
theorem e_X3_pack_5 : ev X d 99 5 L (.int a :: st) h = if a = 0 then ev X d 99 8 L st h else ev X d 99 11 L st h := g_if_ne dX3_pack_5 (by decide)
theorem e_X3_pack_8 : ev X d 99 8 L st h = ev X d 99 10 L (.int (-1000001) :: st) h := g_ldc dX3_pack_8 (by decide)
theorem e_X3_pack_10 : ev X d 99 10 L [.int a] h = some (some (.int a), h) := g_iret dX3_pack_10 rfl
theorem e_X3_pack_11 : ev X d 99 11 (some (va_rf r) :: L) st h = ev X d 99 12 (some (va_rf r) :: L) (va_rf r :: st) h := g_aload_n dX3_pack_11 rfl
theorem e_X3_pack_12 : ev X d 99 12 L (va_rf (some q) :: st) h = (I_getf X h q 3 1).bind (fun v => ev X d 99 15 L (v :: st) h) := g_get dX3_pack_12 (by decide)
theorem e_X3_pack_15 : ev X d 99 15 (x0 :: some (.int a) :: L) st h = ev X d 99 16 (x0 :: some (.int a) :: L) (.int a :: st) h := g_iload_n dX3_pack_15 rfl
theorem e_X3_pack_16 : ev X d 99 16 L (.int i :: va_rf (some q) :: st) h = (I_aldi X h 0 q i).bind (fun v => ev X d 99 17 L (.int v :: st) h) := g_iald dX3_pack_16 (by decide)
theorem e_X3_pack_17 : ev X d 99 17 L (.int a :: st) h = if a = 0 then ev X d 99 23 L st h else ev X d 99 20 L st h := g_if_eq dX3_pack_17 (by decide)
theorem e_X3_pack_20 : ev X d 99 20 L st h = ev X d 99 22 L (.int (-1000003) :: st) h := g_ldc dX3_pack_20 (by decide)
theorem e_X3_pack_22 : ev X d 99 22 L [.int a] h = some (some (.int a), h) := g_iret dX3_pack_22 rfl
theorem e_X3_pack_23 : ev X d 99 23 L st h = ev X d 99 24 L (.int 0 :: st) h := g_iconst dX3_pack_23 (by decide)
theorem e_X3_pack_24 (hx : I_c2 x1 = false) : ev X d 99 24 (x0 :: x1 :: x2 :: L) (.int a :: st) h = ev X d 99 25 (x0 :: x1 :: some (.int a) :: L) st h := g_istore_n dX3_pack_24 (I_st1_2 hx)
theorem e_X3_pack_25 : ev X d 99 25 (x0 :: x1 :: some (.int a) :: L) st h = ev X d 99 26 (x0 :: x1 :: some (.int a) :: L) (.int a :: st) h := g_iload_n dX3_pack_25 rfl
theorem e_X3_pack_26 : ev X d 99 26 (some (va_rf r) :: L) st h = ev X d 99 27 (some (va_rf r) :: L) (va_rf r :: st) h := g_aload_n dX3_pack_26 rfl
theorem e_X3_pack_27 : ev X d 99 27 L (va_rf (some q) :: st) h = (I_getf X h q 3 2).bind (fun v => ev X d 99 30 L (v :: st) h) := g_get dX3_pack_27 (by decide)
theorem e_X3_pack_30 : ev X d 99 30 (x0 :: some (.int a) :: L) st h = ev X d 99 31 (x0 :: some (.int a) :: L) (.int a :: st) h := g_iload_n dX3_pack_30 rfl
theorem e_X3_pack_31 : ev X d 99 31 L (.int i :: va_rf (some q) :: st) h = (I_aldi X h 0 q i).bind (fun v => ev X d 99 32 L (.int v :: st) h) := g_iald dX3_pack_31 (by decide)
theorem e_X3_pack_32 : ev X d 99 32 L (.int b :: .int a :: st) h = if b ≤ a then ev X d 99 61 L st h else ev X d 99 35 L st h := g_icmp_ge dX3_pack_32 (by decide)
theorem e_X3_pack_35 : ev X d 99 35 (some (va_rf r) :: L) st h = ev X d 99 36 (some (va_rf r) :: L) (va_rf r :: st) h := g_aload_n dX3_pack_35 rfl
theorem e_X3_pack_36 : ev X d 99 36 L (va_rf (some q) :: st) h = (I_getf X h q 3 3).bind (fun v => ev X d 99 39 L (v :: st) h) := g_get dX3_pack_36 (by decide)
theorem e_X3_pack_39 : ev X d 99 39 L st h = ev X d 99 41 L (.int 12 :: st) h := g_bipush dX3_pack_39 (by decide)
theorem e_X3_pack_41 : ev X d 99 41 (x0 :: some (.int a) :: L) st h = ev X d 99 42 (x0 :: some (.int a) :: L) (.int a :: st) h := g_iload_n dX3_pack_41 rfl
theorem e_X3_pack_42 : ev X d 99 42 L (.int b :: .int a :: st) h = ev X d 99 43 L (.int (a * b) :: st) h := g_imul dX3_pack_42
theorem e_X3_pack_43 : ev X d 99 43 (x0 :: x1 :: some (.int a) :: L) st h = ev X d 99 44 (x0 :: x1 :: some (.int a) :: L) (.int a :: st) h := g_iload_n dX3_pack_43 rfl
theorem e_X3_pack_44 : ev X d 99 44 L (.int b :: .int a :: st) h = ev X d 99 45 L (.int (a + b) :: st) h := g_iadd dX3_pack_44
theorem e_X3_pack_45 : ev X d 99 45 L (.int i :: va_rf (some q) :: st) h = (I_aldi X h 0 q i).bind (fun v => ev X d 99 46 L (.int v :: st) h) := g_iald dX3_pack_45 (by decide)
theorem e_X3_pack_46 : ev X d 99 46 L (.int a :: st) h = if 0 ≤ a then ev X d 99 55 L st h else ev X d 99 49 L st h := g_if_ge dX3_pack_46 (by decide)
theorem e_X3_pack_49 : ev X d 99 49 (some (va_rf r) :: L) st h = ev X d 99 50 (some (va_rf r) :: L) (va_rf r :: st) h := g_aload_n dX3_pack_49 rfl
theorem e_X3_pack_50 : ev X d 99 50 L st h = ev X d 99 51 L (.int 1 :: st) h := g_iconst dX3_pack_50 (by decide)
theorem e_X3_pack_51 (hc : I_isC X h q 3 = true) (hs : I_cat st ≤ 8) : ev X (d + 1) 99 51 L (.int a1 :: va_rf (some q) :: st) h = (ev X d 70 0 [some (va_rf (some q)), some (.int a1)] [] h).bind (fun r => ev X (d + 1) 99 54 L (r.1.toList ++ st) r.2) := g_callV (as := [.int a1]) dX3_pack_51 (by decide) (by decide) I_np_70 rfl (by simp only [List.reverse_cons, List.reverse_nil, List.nil_append, List.cons_append, I_slots_n, I_slots_i, I_slots_d, I_slots_q, List.length_cons, List.length_nil]; decide) (by simp only [I_ent, List.reverse_cons, List.reverse_nil, List.nil_append, List.cons_append, I_slots_n, I_slots_i, I_slots_d, I_slots_q, List.length_cons, List.length_nil]; rfl) rfl hc hs
theorem e_X3_pack_54 : ev X d 99 54 L [.int a] h = some (some (.int a), h) := g_iret dX3_pack_54 rfl
theorem e_X3_pack_55 (hx : I_c2 x1 = false) : ev X d 99 55 (x0 :: x1 :: some (.int a) :: L) st h = ev X d 99 58 (x0 :: x1 :: some (.int (a + 1)) :: L) st h := g_iinc dX3_pack_55 (by decide) rfl (I_st1_2 hx)
theorem e_X3_pack_58 : ev X d 99 58 L st h = ev X d 99 25 L st h := g_goto dX3_pack_58 (by decide)
theorem e_X3_pack_61 : ev X d 99 61 L st h = ev X d 99 62 L (.int 0 :: st) h := g_iconst dX3_pack_61 (by decide)
theorem e_X3_pack_62 (hx : I_c2 x1 = false) : ev X d 99 62 (x0 :: x1 :: x2 :: L) (.int a :: st) h = ev X d 99 63 (x0 :: x1 :: some (.int a) :: L) st h := g_istore_n dX3_pack_62 (I_st1_2 hx)
theorem e_X3_pack_63 : ev X d 99 63 (x0 :: x1 :: some (.int a) :: L) st h = ev X d 99 64 (x0 :: x1 :: some (.int a) :: L) (.int a :: st) h := g_iload_n dX3_pack_63 rfl
theorem e_X3_pack_64 : ev X d 99 64 L st h = ev X d 99 66 L (.int 8 :: st) h := g_bipush dX3_pack_64 (by decide)
theorem e_X3_pack_66 : ev X d 99 66 L (.int b :: .int a :: st) h = if b ≤ a then ev X d 99 82 L st h else ev X d 99 69 L st h := g_icmp_ge dX3_pack_66 (by decide)
theorem e_X3_pack_69 : ev X d 99 69 (some (va_rf r) :: L) st h = ev X d 99 70 (some (va_rf r) :: L) (va_rf r :: st) h := g_aload_n dX3_pack_69 rfl
theorem e_X3_pack_70 : ev X d 99 70 L (va_rf (some q) :: st) h = (I_getf X h q 3 11).bind (fun v => ev X d 99 73 L (v :: st) h) := g_get dX3_pack_70 (by decide)
theorem e_X3_pack_73 : ev X d 99 73 (x0 :: x1 :: some (.int a) :: L) st h = ev X d 99 74 (x0 :: x1 :: some (.int a) :: L) (.int a :: st) h := g_iload_n dX3_pack_73 rfl
theorem e_X3_pack_74 : ev X d 99 74 L st h = ev X d 99 75 L (.int 0 :: st) h := g_iconst dX3_pack_74 (by decide)
theorem e_X3_pack_75 : ev X d 99 75 L (.int v :: .int i :: va_rf (some q) :: st) h = (I_asti X h 0 q i v).bind (fun h => ev X d 99 76 L st h) := g_iast dX3_pack_75
theorem e_X3_pack_76 (hx : I_c2 x1 = false) : ev X d 99 76 (x0 :: x1 :: some (.int a) :: L) st h = ev X d 99 79 (x0 :: x1 :: some (.int (a + 1)) :: L) st h := g_iinc dX3_pack_76 (by decide) rfl (I_st1_2 hx)
theorem e_X3_pack_79 : ev X d 99 79 L st h = ev X d 99 63 L st h := g_goto dX3_pack_79 (by decide)
theorem e_X3_pack_82 : ev X d 99 82 L st h = ev X d 99 83 L (.int 0 :: st) h := g_iconst dX3_pack_82 (by decide)
theorem e_X3_pack_83 (hx : I_c2 x1 = false) : ev X d 99 83 (x0 :: x1 :: x2 :: L) (.int a :: st) h = ev X d 99 84 (x0 :: x1 :: some (.int a) :: L) st h := g_istore_n dX3_pack_83 (I_st1_2 hx)
theorem e_X3_pack_84 : ev X d 99 84 L st h = ev X d 99 85 L (.int 0 :: st) h := g_iconst dX3_pack_84 (by decide)
theorem e_X3_pack_85 (hx : I_c2 x2 = false) : ev X d 99 85 (x0 :: x1 :: x2 :: x3 :: L) (.int a :: st) h = ev X d 99 86 (x0 :: x1 :: x2 :: some (.int a) :: L) st h := g_istore_n dX3_pack_85 (I_st1_3 hx)
theorem e_X3_pack_86 : ev X d 99 86 (x0 :: x1 :: x2 :: some (.int a) :: L) st h = ev X d 99 87 (x0 :: x1 :: x2 :: some (.int a) :: L) (.int a :: st) h := g_iload_n dX3_pack_86 rfl
theorem e_X3_pack_87 : ev X d 99 87 (some (va_rf r) :: L) st h = ev X d 99 88 (some (va_rf r) :: L) (va_rf r :: st) h := g_aload_n dX3_pack_87 rfl
theorem e_X3_pack_88 : ev X d 99 88 L (va_rf (some q) :: st) h = (I_getf X h q 3 2).bind (fun v => ev X d 99 91 L (v :: st) h) := g_get dX3_pack_88 (by decide)
theorem e_X3_pack_91 : ev X d 99 91 (x0 :: some (.int a) :: L) st h = ev X d 99 92 (x0 :: some (.int a) :: L) (.int a :: st) h := g_iload_n dX3_pack_91 rfl
theorem e_X3_pack_92 : ev X d 99 92 L (.int i :: va_rf (some q) :: st) h = (I_aldi X h 0 q i).bind (fun v => ev X d 99 93 L (.int v :: st) h) := g_iald dX3_pack_92 (by decide)
theorem e_X3_pack_93 : ev X d 99 93 L (.int b :: .int a :: st) h = if b ≤ a then ev X d 99 165 L st h else ev X d 99 96 L st h := g_icmp_ge dX3_pack_93 (by decide)
theorem e_X3_pack_96 : ev X d 99 96 L st h = ev X d 99 97 L (.int 0 :: st) h := g_iconst dX3_pack_96 (by decide)
theorem e_X3_pack_97 (hx : I_c2 x3 = false) : ev X d 99 97 (x0 :: x1 :: x2 :: x3 :: x4 :: L) (.int a :: st) h = ev X d 99 99 (x0 :: x1 :: x2 :: x3 :: some (.int a) :: L) st h := g_istore dX3_pack_97 (I_st1_4 hx)
theorem e_X3_pack_99 : ev X d 99 99 (x0 :: x1 :: x2 :: x3 :: some (.int a) :: L) st h = ev X d 99 101 (x0 :: x1 :: x2 :: x3 :: some (.int a) :: L) (.int a :: st) h := g_iload dX3_pack_99 rfl
theorem e_X3_pack_101 : ev X d 99 101 (some (va_rf r) :: L) st h = ev X d 99 102 (some (va_rf r) :: L) (va_rf r :: st) h := g_aload_n dX3_pack_101 rfl
theorem e_X3_pack_102 : ev X d 99 102 L (va_rf (some q) :: st) h = (I_getf X h q 3 5).bind (fun v => ev X d 99 105 L (v :: st) h) := g_get dX3_pack_102 (by decide)
theorem e_X3_pack_105 : ev X d 99 105 (some (va_rf r) :: L) st h = ev X d 99 106 (some (va_rf r) :: L) (va_rf r :: st) h := g_aload_n dX3_pack_105 rfl
theorem e_X3_pack_106 : ev X d 99 106 L (va_rf (some q) :: st) h = (I_getf X h q 3 3).bind (fun v => ev X d 99 109 L (v :: st) h) := g_get dX3_pack_106 (by decide)
theorem e_X3_pack_109 : ev X d 99 109 L st h = ev X d 99 111 L (.int 12 :: st) h := g_bipush dX3_pack_109 (by decide)
theorem e_X3_pack_111 : ev X d 99 111 (x0 :: some (.int a) :: L) st h = ev X d 99 112 (x0 :: some (.int a) :: L) (.int a :: st) h := g_iload_n dX3_pack_111 rfl
theorem e_X3_pack_112 : ev X d 99 112 L (.int b :: .int a :: st) h = ev X d 99 113 L (.int (a * b) :: st) h := g_imul dX3_pack_112
theorem e_X3_pack_113 : ev X d 99 113 (x0 :: x1 :: x2 :: some (.int a) :: L) st h = ev X d 99 114 (x0 :: x1 :: x2 :: some (.int a) :: L) (.int a :: st) h := g_iload_n dX3_pack_113 rfl
theorem e_X3_pack_114 : ev X d 99 114 L (.int b :: .int a :: st) h = ev X d 99 115 L (.int (a + b) :: st) h := g_iadd dX3_pack_114
theorem e_X3_pack_115 : ev X d 99 115 L (.int i :: va_rf (some q) :: st) h = (I_aldi X h 0 q i).bind (fun v => ev X d 99 116 L (.int v :: st) h) := g_iald dX3_pack_115 (by decide)
theorem e_X3_pack_116 : ev X d 99 116 L (.int i :: va_rf (some q) :: st) h = (I_aldi X h 0 q i).bind (fun v => ev X d 99 117 L (.int v :: st) h) := g_iald dX3_pack_116 (by decide)
theorem e_X3_pack_117 : ev X d 99 117 L (.int b :: .int a :: st) h = if b ≤ a then ev X d 99 159 L st h else ev X d 99 120 L st h := g_icmp_ge dX3_pack_117 (by decide)
theorem e_X3_pack_120 : ev X d 99 120 (some (va_rf r) :: L) st h = ev X d 99 121 (some (va_rf r) :: L) (va_rf r :: st) h := g_aload_n dX3_pack_120 rfl
theorem e_X3_pack_121 : ev X d 99 121 L (va_rf (some q) :: st) h = (I_getf X h q 3 11).bind (fun v => ev X d 99 124 L (v :: st) h) := g_get dX3_pack_121 (by decide)
theorem e_X3_pack_124 : ev X d 99 124 (x0 :: x1 :: some (.int a) :: L) st h = ev X d 99 125 (x0 :: x1 :: some (.int a) :: L) (.int a :: st) h := g_iload_n dX3_pack_124 rfl
theorem e_X3_pack_125 : ev X d 99 125 L st h = ev X d 99 127 L (.int 32 :: st) h := g_bipush dX3_pack_125 (by decide)
theorem e_X3_pack_127 (hb : ¬ b = 0) : ev X d 99 127 L (.int b :: .int a :: st) h = ev X d 99 128 L (.int (a / b) :: st) h := g_idiv dX3_pack_127 hb
theorem e_X3_pack_128 : ev X d 99 128 L (.int a :: va_rf r :: st) h = ev X d 99 129 L (.int a :: va_rf r :: .int a :: va_rf r :: st) h := g_dup2 dX3_pack_128
theorem e_X3_pack_129 : ev X d 99 129 L (.int i :: va_rf (some q) :: st) h = (I_aldi X h 0 q i).bind (fun v => ev X d 99 130 L (.int v :: st) h) := g_iald dX3_pack_129 (by decide)
theorem e_X3_pack_130 : ev X d 99 130 (some (va_rf r) :: L) st h = ev X d 99 131 (some (va_rf r) :: L) (va_rf r :: st) h := g_aload_n dX3_pack_130 rfl
theorem e_X3_pack_131 : ev X d 99 131 L (va_rf (some q) :: st) h = (I_getf X h q 3 6).bind (fun v => ev X d 99 134 L (v :: st) h) := g_get dX3_pack_131 (by decide)
theorem e_X3_pack_134 : ev X d 99 134 (some (va_rf r) :: L) st h = ev X d 99 135 (some (va_rf r) :: L) (va_rf r :: st) h := g_aload_n dX3_pack_134 rfl
theorem e_X3_pack_135 : ev X d 99 135 (x0 :: some (.int a) :: L) st h = ev X d 99 136 (x0 :: some (.int a) :: L) (.int a :: st) h := g_iload_n dX3_pack_135 rfl
theorem e_X3_pack_136 : ev X d 99 136 (x0 :: x1 :: x2 :: some (.int a) :: L) st h = ev X d 99 137 (x0 :: x1 :: x2 :: some (.int a) :: L) (.int a :: st) h := g_iload_n dX3_pack_136 rfl
theorem e_X3_pack_137 : ev X d 99 137 (x0 :: x1 :: x2 :: x3 :: some (.int a) :: L) st h = ev X d 99 139 (x0 :: x1 :: x2 :: x3 :: some (.int a) :: L) (.int a :: st) h := g_iload dX3_pack_137 rfl
theorem e_X3_pack_139 (hc : I_isC X h q 3 = true) (hs : I_cat st ≤ 8) : ev X (d + 1) 99 139 L (.int a3 :: .int a2 :: .int a1 :: va_rf (some q) :: st) h = (ev X d 92 0 [some (va_rf (some q)), some (.int a1), some (.int a2), some (.int a3)] [] h).bind (fun r => ev X (d + 1) 99 142 L (r.1.toList ++ st) r.2) := g_callV (as := [.int a3, .int a2, .int a1]) dX3_pack_139 (by decide) (by decide) I_np_92 rfl (by simp only [List.reverse_cons, List.reverse_nil, List.nil_append, List.cons_append, I_slots_n, I_slots_i, I_slots_d, I_slots_q, List.length_cons, List.length_nil]; decide) (by simp only [I_ent, List.reverse_cons, List.reverse_nil, List.nil_append, List.cons_append, I_slots_n, I_slots_i, I_slots_d, I_slots_q, List.length_cons, List.length_nil]; rfl) rfl hc hs
theorem e_X3_pack_142 : ev X d 99 142 L (.int i :: va_rf (some q) :: st) h = (I_aldi X h 0 q i).bind (fun v => ev X d 99 143 L (.int v :: st) h) := g_iald dX3_pack_142 (by decide)
theorem e_X3_pack_143 : ev X d 99 143 (x0 :: x1 :: some (.int a) :: L) st h = ev X d 99 144 (x0 :: x1 :: some (.int a) :: L) (.int a :: st) h := g_iload_n dX3_pack_143 rfl
theorem e_X3_pack_144 : ev X d 99 144 L st h = ev X d 99 146 L (.int 32 :: st) h := g_bipush dX3_pack_144 (by decide)
theorem e_X3_pack_146 (hb : ¬ b = 0) : ev X d 99 146 L (.int b :: .int a :: st) h = ev X d 99 147 L (.int (a - a / b * b) :: st) h := g_irem dX3_pack_146 hb
theorem e_X3_pack_147 : ev X d 99 147 L (.int b :: .int a :: st) h = ev X d 99 148 L (.int (a <<< (b &&& 31)) :: st) h := g_ishl dX3_pack_147
theorem e_X3_pack_148 : ev X d 99 148 L (.int b :: .int a :: st) h = ev X d 99 149 L (.int (a ||| b) :: st) h := g_ior dX3_pack_148
theorem e_X3_pack_149 : ev X d 99 149 L (.int v :: .int i :: va_rf (some q) :: st) h = (I_asti X h 0 q i v).bind (fun h => ev X d 99 150 L st h) := g_iast dX3_pack_149
theorem e_X3_pack_150 (hx : I_c2 x1 = false) : ev X d 99 150 (x0 :: x1 :: some (.int a) :: L) st h = ev X d 99 153 (x0 :: x1 :: some (.int (a + 1)) :: L) st h := g_iinc dX3_pack_150 (by decide) rfl (I_st1_2 hx)
theorem e_X3_pack_153 (hx : I_c2 x3 = false) : ev X d 99 153 (x0 :: x1 :: x2 :: x3 :: some (.int a) :: L) st h = ev X d 99 156 (x0 :: x1 :: x2 :: x3 :: some (.int (a + 1)) :: L) st h := g_iinc dX3_pack_153 (by decide) rfl (I_st1_4 hx)
theorem e_X3_pack_156 : ev X d 99 156 L st h = ev X d 99 99 L st h := g_goto dX3_pack_156 (by decide)
theorem e_X3_pack_159 (hx : I_c2 x2 = false) : ev X d 99 159 (x0 :: x1 :: x2 :: some (.int a) :: L) st h = ev X d 99 162 (x0 :: x1 :: x2 :: some (.int (a + 1)) :: L) st h := g_iinc dX3_pack_159 (by decide) rfl (I_st1_3 hx)
theorem e_X3_pack_162 : ev X d 99 162 L st h = ev X d 99 86 L st h := g_goto dX3_pack_162 (by decide)
theorem e_X3_pack_165 : ev X d 99 165 (some (va_rf r) :: L) st h = ev X d 99 166 (some (va_rf r) :: L) (va_rf r :: st) h := g_aload_n dX3_pack_165 rfl
theorem e_X3_pack_166 : ev X d 99 166 (x0 :: x1 :: some (.int a) :: L) st h = ev X d 99 167 (x0 :: x1 :: some (.int a) :: L) (.int a :: st) h := g_iload_n dX3_pack_166 rfl
theorem e_X3_pack_167 : ev X d 99 167 L st h = ev X d 99 169 L (.int 31 :: st) h := g_bipush dX3_pack_167 (by decide)
theorem e_X3_pack_169 : ev X d 99 169 L (.int b :: .int a :: st) h = ev X d 99 170 L (.int (a + b) :: st) h := g_iadd dX3_pack_169
theorem e_X3_pack_170 : ev X d 99 170 L st h = ev X d 99 172 L (.int 32 :: st) h := g_bipush dX3_pack_170 (by decide)
theorem e_X3_pack_172 (hb : ¬ b = 0) : ev X d 99 172 L (.int b :: .int a :: st) h = ev X d 99 173 L (.int (a / b) :: st) h := g_idiv dX3_pack_172 hb
theorem e_X3_pack_173 : ev X d 99 173 L (.int a :: va_rf (some q) :: st) h = (I_putf X h q 3 10 (.int a)).bind (fun h => ev X d 99 176 L st h) := g_put dX3_pack_173 (by decide) (by first | rfl | decide)
theorem e_X3_pack_176 : ev X d 99 176 (some (va_rf r) :: L) st h = ev X d 99 177 (some (va_rf r) :: L) (va_rf r :: st) h := g_aload_n dX3_pack_176 rfl
theorem e_X3_pack_177 : ev X d 99 177 L (va_rf (some q) :: st) h = (I_getf X h q 3 10).bind (fun v => ev X d 99 180 L (v :: st) h) := g_get dX3_pack_177 (by decide)
theorem e_X3_pack_180 : ev X d 99 180 L [.int a] h = some (some (.int a), h) := g_iret dX3_pack_180 rfl
theorem e_X3_word_0 : ev X d 100 0 (x0 :: some (.int a) :: L) st h = ev X d 100 1 (x0 :: some (.int a) :: L) (.int a :: st) h := g_iload_n dX3_word_0 rfl
theorem e_X3_word_1 : ev X d 100 1 L st h = ev X d 100 2 L (.int 0 :: st) h := g_iconst dX3_word_1 (by decide)
theorem e_X3_word_2 : ev X d 100 2 (some (va_rf r) :: L) st h = ev X d 100 3 (some (va_rf r) :: L) (va_rf r :: st) h := g_aload_n dX3_word_2 rfl
theorem e_X3_word_3 : ev X d 100 3 L (va_rf (some q) :: st) h = (I_getf X h q 3 10).bind (fun v => ev X d 100 6 L (v :: st) h) := g_get dX3_word_3 (by decide)
theorem e_X3_word_6 : ev X d 100 6 L st h = ev X d 100 7 L (.int 1 :: st) h := g_iconst dX3_word_6 (by decide)
theorem e_X3_word_7 : ev X d 100 7 L (.int b :: .int a :: st) h = ev X d 100 8 L (.int (a - b) :: st) h := g_isub dX3_word_7
theorem e_X3_word_8 (hs : I_cat st ≤ 8) : ev X (d + 1) 100 8 L (.int a3 :: .int a2 :: .int a1 :: st) h = (ev X d 69 0 [some (.int a1), some (.int a2), some (.int a3)] [] h).bind (fun r => ev X (d + 1) 100 11 L (r.1.toList ++ st) r.2) := g_callS (as := [.int a3, .int a2, .int a1]) dX3_word_8 (by decide) (by decide) I_np_69 rfl (by simp only [List.reverse_cons, List.reverse_nil, List.nil_append, List.cons_append, I_slots_n, I_slots_i, I_slots_d, I_slots_q, List.length_cons, List.length_nil]; decide) (by simp only [I_ent, List.reverse_cons, List.reverse_nil, List.nil_append, List.cons_append, I_slots_n, I_slots_i, I_slots_d, I_slots_q, List.length_cons, List.length_nil]; rfl) rfl hs
theorem e_X3_word_11 : ev X d 100 11 L (.int a :: st) h = if a = 0 then ev X d 100 23 L st h else ev X d 100 14 L st h := g_if_eq dX3_word_11 (by decide)
theorem e_X3_word_14 : ev X d 100 14 (some (va_rf r) :: L) st h = ev X d 100 15 (some (va_rf r) :: L) (va_rf r :: st) h := g_aload_n dX3_word_14 rfl
theorem e_X3_word_15 : ev X d 100 15 L (va_rf (some q) :: st) h = (I_getf X h q 3 11).bind (fun v => ev X d 100 18 L (v :: st) h) := g_get dX3_word_15 (by decide)
theorem e_X3_word_18 : ev X d 100 18 (x0 :: some (.int a) :: L) st h = ev X d 100 19 (x0 :: some (.int a) :: L) (.int a :: st) h := g_iload_n dX3_word_18 rfl
theorem e_X3_word_19 : ev X d 100 19 L (.int i :: va_rf (some q) :: st) h = (I_aldi X h 0 q i).bind (fun v => ev X d 100 20 L (.int v :: st) h) := g_iald dX3_word_19 (by decide)
theorem e_X3_word_20 : ev X d 100 20 L st h = ev X d 100 25 L st h := g_goto dX3_word_20 (by decide)
theorem e_X3_word_23 : ev X d 100 23 L st h = ev X d 100 25 L (.int (-1000009) :: st) h := g_ldc dX3_word_23 (by decide)
theorem e_X3_word_25 : ev X d 100 25 L [.int a] h = some (some (.int a), h) := g_iret dX3_word_25 rfl
theorem e_X3_areAlike_0 : ev X d 101 0 (x0 :: x1 :: some (.int a) :: L) st h = ev X d 101 1 (x0 :: x1 :: some (.int a) :: L) (.int a :: st) h := g_iload_n dX3_areAlike_0 rfl
theorem e_X3_areAlike_1 : ev X d 101 1 L (.int a :: st) h = if a < 0 then ev X d 101 8 L st h else ev X d 101 4 L st h := g_if_lt dX3_areAlike_1 (by decide)
theorem e_X3_areAlike_4 : ev X d 101 4 (x0 :: x1 :: x2 :: some (.int a) :: L) st h = ev X d 101 5 (x0 :: x1 :: x2 :: some (.int a) :: L) (.int a :: st) h := g_iload_n dX3_areAlike_4 rfl
theorem e_X3_areAlike_5 : ev X d 101 5 L (.int a :: st) h = if 0 ≤ a then ev X d 101 22 L st h else ev X d 101 8 L st h := g_if_ge dX3_areAlike_5 (by decide)
theorem e_X3_areAlike_8 : ev X d 101 8 (x0 :: x1 :: some (.int a) :: L) st h = ev X d 101 9 (x0 :: x1 :: some (.int a) :: L) (.int a :: st) h := g_iload_n dX3_areAlike_8 rfl
theorem e_X3_areAlike_9 : ev X d 101 9 L (.int a :: st) h = if 0 ≤ a then ev X d 101 20 L st h else ev X d 101 12 L st h := g_if_ge dX3_areAlike_9 (by decide)
theorem e_X3_areAlike_12 : ev X d 101 12 (x0 :: x1 :: x2 :: some (.int a) :: L) st h = ev X d 101 13 (x0 :: x1 :: x2 :: some (.int a) :: L) (.int a :: st) h := g_iload_n dX3_areAlike_12 rfl
theorem e_X3_areAlike_13 : ev X d 101 13 L (.int a :: st) h = if 0 ≤ a then ev X d 101 20 L st h else ev X d 101 16 L st h := g_if_ge dX3_areAlike_13 (by decide)
theorem e_X3_areAlike_16 : ev X d 101 16 L st h = ev X d 101 17 L (.int 1 :: st) h := g_iconst dX3_areAlike_16 (by decide)
theorem e_X3_areAlike_17 : ev X d 101 17 L st h = ev X d 101 21 L st h := g_goto dX3_areAlike_17 (by decide)
theorem e_X3_areAlike_20 : ev X d 101 20 L st h = ev X d 101 21 L (.int 0 :: st) h := g_iconst dX3_areAlike_20 (by decide)
theorem e_X3_areAlike_21 (ha : a = 0 ∨ a = 1) : ev X d 101 21 L [.int a] h = some (some (.int a), h) := g_zret dX3_areAlike_21 rfl ha
theorem e_X3_areAlike_22 : ev X d 101 22 (some (va_rf r) :: L) st h = ev X d 101 23 (some (va_rf r) :: L) (va_rf r :: st) h := g_aload_n dX3_areAlike_22 rfl
theorem e_X3_areAlike_23 : ev X d 101 23 L (va_rf (some q) :: st) h = (I_getf X h q 3 5).bind (fun v => ev X d 101 26 L (v :: st) h) := g_get dX3_areAlike_23 (by decide)
theorem e_X3_areAlike_26 : ev X d 101 26 (x0 :: x1 :: some (.int a) :: L) st h = ev X d 101 27 (x0 :: x1 :: some (.int a) :: L) (.int a :: st) h := g_iload_n dX3_areAlike_26 rfl
theorem e_X3_areAlike_27 : ev X d 101 27 L (.int i :: va_rf (some q) :: st) h = (I_aldi X h 0 q i).bind (fun v => ev X d 101 28 L (.int v :: st) h) := g_iald dX3_areAlike_27 (by decide)
theorem e_X3_areAlike_28 : ev X d 101 28 (some (va_rf r) :: L) st h = ev X d 101 29 (some (va_rf r) :: L) (va_rf r :: st) h := g_aload_n dX3_areAlike_28 rfl
theorem e_X3_areAlike_29 : ev X d 101 29 L (va_rf (some q) :: st) h = (I_getf X h q 3 5).bind (fun v => ev X d 101 32 L (v :: st) h) := g_get dX3_areAlike_29 (by decide)
theorem e_X3_areAlike_32 : ev X d 101 32 (x0 :: x1 :: x2 :: some (.int a) :: L) st h = ev X d 101 33 (x0 :: x1 :: x2 :: some (.int a) :: L) (.int a :: st) h := g_iload_n dX3_areAlike_32 rfl
theorem e_X3_areAlike_33 : ev X d 101 33 L (.int i :: va_rf (some q) :: st) h = (I_aldi X h 0 q i).bind (fun v => ev X d 101 34 L (.int v :: st) h) := g_iald dX3_areAlike_33 (by decide)
theorem e_X3_areAlike_34 : ev X d 101 34 L (.int b :: .int a :: st) h = if a = b then ev X d 101 37 L st h else ev X d 101 41 L st h := g_icmp_ne dX3_areAlike_34 (by decide)
theorem e_X3_areAlike_37 : ev X d 101 37 L st h = ev X d 101 38 L (.int 1 :: st) h := g_iconst dX3_areAlike_37 (by decide)
theorem e_X3_areAlike_38 : ev X d 101 38 L st h = ev X d 101 42 L st h := g_goto dX3_areAlike_38 (by decide)
theorem e_X3_areAlike_41 : ev X d 101 41 L st h = ev X d 101 42 L (.int 0 :: st) h := g_iconst dX3_areAlike_41 (by decide)
theorem e_X3_areAlike_42 (hx : I_c2 x3 = false) : ev X d 101 42 (x0 :: x1 :: x2 :: x3 :: x4 :: L) (.int a :: st) h = ev X d 101 44 (x0 :: x1 :: x2 :: x3 :: some (.int a) :: L) st h := g_istore dX3_areAlike_42 (I_st1_4 hx)
theorem e_X3_areAlike_44 : ev X d 101 44 L st h = ev X d 101 45 L (.int 0 :: st) h := g_iconst dX3_areAlike_44 (by decide)
theorem e_X3_areAlike_45 (hx : I_c2 x4 = false) : ev X d 101 45 (x0 :: x1 :: x2 :: x3 :: x4 :: x5 :: L) (.int a :: st) h = ev X d 101 47 (x0 :: x1 :: x2 :: x3 :: x4 :: some (.int a) :: L) st h := g_istore dX3_areAlike_45 (I_st1_5 hx)
theorem e_X3_areAlike_47 : ev X d 101 47 (x0 :: x1 :: x2 :: x3 :: x4 :: some (.int a) :: L) st h = ev X d 101 49 (x0 :: x1 :: x2 :: x3 :: x4 :: some (.int a) :: L) (.int a :: st) h := g_iload dX3_areAlike_47 rfl
theorem e_X3_areAlike_49 : ev X d 101 49 (some (va_rf r) :: L) st h = ev X d 101 50 (some (va_rf r) :: L) (va_rf r :: st) h := g_aload_n dX3_areAlike_49 rfl
theorem e_X3_areAlike_50 : ev X d 101 50 L (va_rf (some q) :: st) h = (I_getf X h q 3 5).bind (fun v => ev X d 101 53 L (v :: st) h) := g_get dX3_areAlike_50 (by decide)
theorem e_X3_areAlike_53 : ev X d 101 53 (x0 :: x1 :: some (.int a) :: L) st h = ev X d 101 54 (x0 :: x1 :: some (.int a) :: L) (.int a :: st) h := g_iload_n dX3_areAlike_53 rfl
theorem e_X3_areAlike_54 : ev X d 101 54 L (.int i :: va_rf (some q) :: st) h = (I_aldi X h 0 q i).bind (fun v => ev X d 101 55 L (.int v :: st) h) := g_iald dX3_areAlike_54 (by decide)
theorem e_X3_areAlike_55 : ev X d 101 55 L (.int b :: .int a :: st) h = if b ≤ a then ev X d 101 144 L st h else ev X d 101 58 L st h := g_icmp_ge dX3_areAlike_55 (by decide)
theorem e_X3_areAlike_58 : ev X d 101 58 (x0 :: x1 :: x2 :: x3 :: some (.int a) :: L) st h = ev X d 101 60 (x0 :: x1 :: x2 :: x3 :: some (.int a) :: L) (.int a :: st) h := g_iload dX3_areAlike_58 rfl
theorem e_X3_areAlike_60 : ev X d 101 60 L (.int a :: st) h = if a = 0 then ev X d 101 144 L st h else ev X d 101 63 L st h := g_if_eq dX3_areAlike_60 (by decide)
theorem e_X3_areAlike_63 : ev X d 101 63 (x0 :: some (.int a) :: L) st h = ev X d 101 64 (x0 :: some (.int a) :: L) (.int a :: st) h := g_iload_n dX3_areAlike_63 rfl
theorem e_X3_areAlike_64 : ev X d 101 64 L st h = ev X d 101 65 L (.int 2 :: st) h := g_iconst dX3_areAlike_64 (by decide)
theorem e_X3_areAlike_65 : ev X d 101 65 L (.int b :: .int a :: st) h = if a = b then ev X d 101 68 L st h else ev X d 101 104 L st h := g_icmp_ne dX3_areAlike_65 (by decide)
theorem e_X3_areAlike_68 : ev X d 101 68 (some (va_rf r) :: L) st h = ev X d 101 69 (some (va_rf r) :: L) (va_rf r :: st) h := g_aload_n dX3_areAlike_68 rfl
theorem e_X3_areAlike_69 : ev X d 101 69 L (va_rf (some q) :: st) h = (I_getf X h q 3 7).bind (fun v => ev X d 101 72 L (v :: st) h) := g_get dX3_areAlike_69 (by decide)
theorem e_X3_areAlike_72 : ev X d 101 72 L st h = ev X d 101 74 L (.int 16 :: st) h := g_bipush dX3_areAlike_72 (by decide)
theorem e_X3_areAlike_74 : ev X d 101 74 (x0 :: x1 :: some (.int a) :: L) st h = ev X d 101 75 (x0 :: x1 :: some (.int a) :: L) (.int a :: st) h := g_iload_n dX3_areAlike_74 rfl
theorem e_X3_areAlike_75 : ev X d 101 75 L (.int b :: .int a :: st) h = ev X d 101 76 L (.int (a * b) :: st) h := g_imul dX3_areAlike_75
theorem e_X3_areAlike_76 : ev X d 101 76 (x0 :: x1 :: x2 :: x3 :: x4 :: some (.int a) :: L) st h = ev X d 101 78 (x0 :: x1 :: x2 :: x3 :: x4 :: some (.int a) :: L) (.int a :: st) h := g_iload dX3_areAlike_76 rfl
theorem e_X3_areAlike_78 : ev X d 101 78 L (.int b :: .int a :: st) h = ev X d 101 79 L (.int (a + b) :: st) h := g_iadd dX3_areAlike_78
theorem e_X3_areAlike_79 : ev X d 101 79 L (.int i :: va_rf (some q) :: st) h = (I_aldd X h q i).bind (fun v => ev X d 101 80 L (.double v :: st) h) := g_dald dX3_areAlike_79
theorem e_X3_areAlike_80 : ev X d 101 80 (some (va_rf r) :: L) st h = ev X d 101 81 (some (va_rf r) :: L) (va_rf r :: st) h := g_aload_n dX3_areAlike_80 rfl
theorem e_X3_areAlike_81 : ev X d 101 81 L (va_rf (some q) :: st) h = (I_getf X h q 3 7).bind (fun v => ev X d 101 84 L (v :: st) h) := g_get dX3_areAlike_81 (by decide)
theorem e_X3_areAlike_84 : ev X d 101 84 L st h = ev X d 101 86 L (.int 16 :: st) h := g_bipush dX3_areAlike_84 (by decide)
theorem e_X3_areAlike_86 : ev X d 101 86 (x0 :: x1 :: x2 :: some (.int a) :: L) st h = ev X d 101 87 (x0 :: x1 :: x2 :: some (.int a) :: L) (.int a :: st) h := g_iload_n dX3_areAlike_86 rfl
theorem e_X3_areAlike_87 : ev X d 101 87 L (.int b :: .int a :: st) h = ev X d 101 88 L (.int (a * b) :: st) h := g_imul dX3_areAlike_87
theorem e_X3_areAlike_88 : ev X d 101 88 (x0 :: x1 :: x2 :: x3 :: x4 :: some (.int a) :: L) st h = ev X d 101 90 (x0 :: x1 :: x2 :: x3 :: x4 :: some (.int a) :: L) (.int a :: st) h := g_iload dX3_areAlike_88 rfl
theorem e_X3_areAlike_90 : ev X d 101 90 L (.int b :: .int a :: st) h = ev X d 101 91 L (.int (a + b) :: st) h := g_iadd dX3_areAlike_90
theorem e_X3_areAlike_91 : ev X d 101 91 L (.int i :: va_rf (some q) :: st) h = (I_aldd X h q i).bind (fun v => ev X d 101 92 L (.double v :: st) h) := g_dald dX3_areAlike_91
theorem e_X3_areAlike_92 : ev X d 101 92 L (.double w2 :: .double w1 :: st) h = ev X d 101 93 L (.int (Op.cmpValue (FP.dcmp w1 w2) .l) :: st) h := g_dcmp dX3_areAlike_92
theorem e_X3_areAlike_93 : ev X d 101 93 L (.int a :: st) h = if a = 0 then ev X d 101 96 L st h else ev X d 101 100 L st h := g_if_ne dX3_areAlike_93 (by decide)
theorem e_X3_areAlike_96 : ev X d 101 96 L st h = ev X d 101 97 L (.int 1 :: st) h := g_iconst dX3_areAlike_96 (by decide)
theorem e_X3_areAlike_97 : ev X d 101 97 L st h = ev X d 101 136 L st h := g_goto dX3_areAlike_97 (by decide)
theorem e_X3_areAlike_100 : ev X d 101 100 L st h = ev X d 101 101 L (.int 0 :: st) h := g_iconst dX3_areAlike_100 (by decide)
theorem e_X3_areAlike_101 : ev X d 101 101 L st h = ev X d 101 136 L st h := g_goto dX3_areAlike_101 (by decide)
theorem e_X3_areAlike_104 : ev X d 101 104 (some (va_rf r) :: L) st h = ev X d 101 105 (some (va_rf r) :: L) (va_rf r :: st) h := g_aload_n dX3_areAlike_104 rfl
theorem e_X3_areAlike_105 : ev X d 101 105 L (va_rf (some q) :: st) h = (I_getf X h q 3 6).bind (fun v => ev X d 101 108 L (v :: st) h) := g_get dX3_areAlike_105 (by decide)
theorem e_X3_areAlike_108 : ev X d 101 108 L st h = ev X d 101 110 L (.int 16 :: st) h := g_bipush dX3_areAlike_108 (by decide)
theorem e_X3_areAlike_110 : ev X d 101 110 (x0 :: x1 :: some (.int a) :: L) st h = ev X d 101 111 (x0 :: x1 :: some (.int a) :: L) (.int a :: st) h := g_iload_n dX3_areAlike_110 rfl
theorem e_X3_areAlike_111 : ev X d 101 111 L (.int b :: .int a :: st) h = ev X d 101 112 L (.int (a * b) :: st) h := g_imul dX3_areAlike_111
theorem e_X3_areAlike_112 : ev X d 101 112 (x0 :: x1 :: x2 :: x3 :: x4 :: some (.int a) :: L) st h = ev X d 101 114 (x0 :: x1 :: x2 :: x3 :: x4 :: some (.int a) :: L) (.int a :: st) h := g_iload dX3_areAlike_112 rfl
theorem e_X3_areAlike_114 : ev X d 101 114 L (.int b :: .int a :: st) h = ev X d 101 115 L (.int (a + b) :: st) h := g_iadd dX3_areAlike_114
theorem e_X3_areAlike_115 : ev X d 101 115 L (.int i :: va_rf (some q) :: st) h = (I_aldi X h 0 q i).bind (fun v => ev X d 101 116 L (.int v :: st) h) := g_iald dX3_areAlike_115 (by decide)
theorem e_X3_areAlike_116 : ev X d 101 116 (some (va_rf r) :: L) st h = ev X d 101 117 (some (va_rf r) :: L) (va_rf r :: st) h := g_aload_n dX3_areAlike_116 rfl
theorem e_X3_areAlike_117 : ev X d 101 117 L (va_rf (some q) :: st) h = (I_getf X h q 3 6).bind (fun v => ev X d 101 120 L (v :: st) h) := g_get dX3_areAlike_117 (by decide)
theorem e_X3_areAlike_120 : ev X d 101 120 L st h = ev X d 101 122 L (.int 16 :: st) h := g_bipush dX3_areAlike_120 (by decide)
theorem e_X3_areAlike_122 : ev X d 101 122 (x0 :: x1 :: x2 :: some (.int a) :: L) st h = ev X d 101 123 (x0 :: x1 :: x2 :: some (.int a) :: L) (.int a :: st) h := g_iload_n dX3_areAlike_122 rfl
theorem e_X3_areAlike_123 : ev X d 101 123 L (.int b :: .int a :: st) h = ev X d 101 124 L (.int (a * b) :: st) h := g_imul dX3_areAlike_123
theorem e_X3_areAlike_124 : ev X d 101 124 (x0 :: x1 :: x2 :: x3 :: x4 :: some (.int a) :: L) st h = ev X d 101 126 (x0 :: x1 :: x2 :: x3 :: x4 :: some (.int a) :: L) (.int a :: st) h := g_iload dX3_areAlike_124 rfl
theorem e_X3_areAlike_126 : ev X d 101 126 L (.int b :: .int a :: st) h = ev X d 101 127 L (.int (a + b) :: st) h := g_iadd dX3_areAlike_126
theorem e_X3_areAlike_127 : ev X d 101 127 L (.int i :: va_rf (some q) :: st) h = (I_aldi X h 0 q i).bind (fun v => ev X d 101 128 L (.int v :: st) h) := g_iald dX3_areAlike_127 (by decide)
theorem e_X3_areAlike_128 : ev X d 101 128 L (.int b :: .int a :: st) h = if a = b then ev X d 101 131 L st h else ev X d 101 135 L st h := g_icmp_ne dX3_areAlike_128 (by decide)
theorem e_X3_areAlike_131 : ev X d 101 131 L st h = ev X d 101 132 L (.int 1 :: st) h := g_iconst dX3_areAlike_131 (by decide)
theorem e_X3_areAlike_132 : ev X d 101 132 L st h = ev X d 101 136 L st h := g_goto dX3_areAlike_132 (by decide)
theorem e_X3_areAlike_135 : ev X d 101 135 L st h = ev X d 101 136 L (.int 0 :: st) h := g_iconst dX3_areAlike_135 (by decide)
theorem e_X3_areAlike_136 (hx : I_c2 x3 = false) : ev X d 101 136 (x0 :: x1 :: x2 :: x3 :: x4 :: L) (.int a :: st) h = ev X d 101 138 (x0 :: x1 :: x2 :: x3 :: some (.int a) :: L) st h := g_istore dX3_areAlike_136 (I_st1_4 hx)
theorem e_X3_areAlike_138 (hx : I_c2 x4 = false) : ev X d 101 138 (x0 :: x1 :: x2 :: x3 :: x4 :: some (.int a) :: L) st h = ev X d 101 141 (x0 :: x1 :: x2 :: x3 :: x4 :: some (.int (a + 1)) :: L) st h := g_iinc dX3_areAlike_138 (by decide) rfl (I_st1_5 hx)
theorem e_X3_areAlike_141 : ev X d 101 141 L st h = ev X d 101 47 L st h := g_goto dX3_areAlike_141 (by decide)
theorem e_X3_areAlike_144 : ev X d 101 144 (x0 :: x1 :: x2 :: x3 :: some (.int a) :: L) st h = ev X d 101 146 (x0 :: x1 :: x2 :: x3 :: some (.int a) :: L) (.int a :: st) h := g_iload dX3_areAlike_144 rfl
theorem e_X3_areAlike_146 (ha : a = 0 ∨ a = 1) : ev X d 101 146 L [.int a] h = some (some (.int a), h) := g_zret dX3_areAlike_146 rfl ha
theorem e_X3_alike_0 : ev X d 102 0 (some (va_rf r) :: L) st h = ev X d 102 1 (some (va_rf r) :: L) (va_rf r :: st) h := g_aload_n dX3_alike_0 rfl
theorem e_X3_alike_1 : ev X d 102 1 (x0 :: some (.int a) :: L) st h = ev X d 102 2 (x0 :: some (.int a) :: L) (.int a :: st) h := g_iload_n dX3_alike_1 rfl
theorem e_X3_alike_2 (hc : I_isC X h q 3 = true) (hs : I_cat st ≤ 8) : ev X (d + 1) 102 2 L (.int a1 :: va_rf (some q) :: st) h = (ev X d 71 0 [some (va_rf (some q)), some (.int a1)] [] h).bind (fun r => ev X (d + 1) 102 5 L (r.1.toList ++ st) r.2) := g_callV (as := [.int a1]) dX3_alike_2 (by decide) (by decide) I_np_71 rfl (by simp only [List.reverse_cons, List.reverse_nil, List.nil_append, List.cons_append, I_slots_n, I_slots_i, I_slots_d, I_slots_q, List.length_cons, List.length_nil]; decide) (by simp only [I_ent, List.reverse_cons, List.reverse_nil, List.nil_append, List.cons_append, I_slots_n, I_slots_i, I_slots_d, I_slots_q, List.length_cons, List.length_nil]; rfl) rfl hc hs
theorem e_X3_alike_5 : ev X d 102 5 L (.int a :: st) h = if a = 0 then ev X d 102 16 L st h else ev X d 102 8 L st h := g_if_eq dX3_alike_5 (by decide)
theorem e_X3_alike_8 : ev X d 102 8 (some (va_rf r) :: L) st h = ev X d 102 9 (some (va_rf r) :: L) (va_rf r :: st) h := g_aload_n dX3_alike_8 rfl
theorem e_X3_alike_9 : ev X d 102 9 (x0 :: x1 :: some (.int a) :: L) st h = ev X d 102 10 (x0 :: x1 :: some (.int a) :: L) (.int a :: st) h := g_iload_n dX3_alike_9 rfl
theorem e_X3_alike_10 (hc : I_isC X h q 3 = true) (hs : I_cat st ≤ 8) : ev X (d + 1) 102 10 L (.int a1 :: va_rf (some q) :: st) h = (ev X d 71 0 [some (va_rf (some q)), some (.int a1)] [] h).bind (fun r => ev X (d + 1) 102 13 L (r.1.toList ++ st) r.2) := g_callV (as := [.int a1]) dX3_alike_10 (by decide) (by decide) I_np_71 rfl (by simp only [List.reverse_cons, List.reverse_nil, List.nil_append, List.cons_append, I_slots_n, I_slots_i, I_slots_d, I_slots_q, List.length_cons, List.length_nil]; decide) (by simp only [I_ent, List.reverse_cons, List.reverse_nil, List.nil_append, List.cons_append, I_slots_n, I_slots_i, I_slots_d, I_slots_q, List.length_cons, List.length_nil]; rfl) rfl hc hs
theorem e_X3_alike_13 : ev X d 102 13 L (.int a :: st) h = if a = 0 then ev X d 102 16 L st h else ev X d 102 19 L st h := g_if_ne dX3_alike_13 (by decide)
theorem e_X3_alike_16 : ev X d 102 16 L st h = ev X d 102 18 L (.int (-1000001) :: st) h := g_ldc dX3_alike_16 (by decide)
theorem e_X3_alike_18 : ev X d 102 18 L [.int a] h = some (some (.int a), h) := g_iret dX3_alike_18 rfl
theorem e_X3_alike_19 : ev X d 102 19 (some (va_rf r) :: L) st h = ev X d 102 20 (some (va_rf r) :: L) (va_rf r :: st) h := g_aload_n dX3_alike_19 rfl
theorem e_X3_alike_20 : ev X d 102 20 L (va_rf (some q) :: st) h = (I_getf X h q 3 1).bind (fun v => ev X d 102 23 L (v :: st) h) := g_get dX3_alike_20 (by decide)
theorem e_X3_alike_23 : ev X d 102 23 (x0 :: some (.int a) :: L) st h = ev X d 102 24 (x0 :: some (.int a) :: L) (.int a :: st) h := g_iload_n dX3_alike_23 rfl
theorem e_X3_alike_24 : ev X d 102 24 L (.int i :: va_rf (some q) :: st) h = (I_aldi X h 0 q i).bind (fun v => ev X d 102 25 L (.int v :: st) h) := g_iald dX3_alike_24 (by decide)
theorem e_X3_alike_25 : ev X d 102 25 (some (va_rf r) :: L) st h = ev X d 102 26 (some (va_rf r) :: L) (va_rf r :: st) h := g_aload_n dX3_alike_25 rfl
theorem e_X3_alike_26 : ev X d 102 26 L (va_rf (some q) :: st) h = (I_getf X h q 3 1).bind (fun v => ev X d 102 29 L (v :: st) h) := g_get dX3_alike_26 (by decide)
theorem e_X3_alike_29 : ev X d 102 29 (x0 :: x1 :: some (.int a) :: L) st h = ev X d 102 30 (x0 :: x1 :: some (.int a) :: L) (.int a :: st) h := g_iload_n dX3_alike_29 rfl
theorem e_X3_alike_30 : ev X d 102 30 L (.int i :: va_rf (some q) :: st) h = (I_aldi X h 0 q i).bind (fun v => ev X d 102 31 L (.int v :: st) h) := g_iald dX3_alike_30 (by decide)
theorem e_X3_alike_31 : ev X d 102 31 L (.int b :: .int a :: st) h = if a = b then ev X d 102 34 L st h else ev X d 102 53 L st h := g_icmp_ne dX3_alike_31 (by decide)
theorem e_X3_alike_34 : ev X d 102 34 (some (va_rf r) :: L) st h = ev X d 102 35 (some (va_rf r) :: L) (va_rf r :: st) h := g_aload_n dX3_alike_34 rfl
theorem e_X3_alike_35 : ev X d 102 35 L (va_rf (some q) :: st) h = (I_getf X h q 3 2).bind (fun v => ev X d 102 38 L (v :: st) h) := g_get dX3_alike_35 (by decide)
theorem e_X3_alike_38 : ev X d 102 38 (x0 :: some (.int a) :: L) st h = ev X d 102 39 (x0 :: some (.int a) :: L) (.int a :: st) h := g_iload_n dX3_alike_38 rfl
theorem e_X3_alike_39 : ev X d 102 39 L (.int i :: va_rf (some q) :: st) h = (I_aldi X h 0 q i).bind (fun v => ev X d 102 40 L (.int v :: st) h) := g_iald dX3_alike_39 (by decide)
theorem e_X3_alike_40 : ev X d 102 40 (some (va_rf r) :: L) st h = ev X d 102 41 (some (va_rf r) :: L) (va_rf r :: st) h := g_aload_n dX3_alike_40 rfl
theorem e_X3_alike_41 : ev X d 102 41 L (va_rf (some q) :: st) h = (I_getf X h q 3 2).bind (fun v => ev X d 102 44 L (v :: st) h) := g_get dX3_alike_41 (by decide)
theorem e_X3_alike_44 : ev X d 102 44 (x0 :: x1 :: some (.int a) :: L) st h = ev X d 102 45 (x0 :: x1 :: some (.int a) :: L) (.int a :: st) h := g_iload_n dX3_alike_44 rfl
theorem e_X3_alike_45 : ev X d 102 45 L (.int i :: va_rf (some q) :: st) h = (I_aldi X h 0 q i).bind (fun v => ev X d 102 46 L (.int v :: st) h) := g_iald dX3_alike_45 (by decide)
theorem e_X3_alike_46 : ev X d 102 46 L (.int b :: .int a :: st) h = if a = b then ev X d 102 49 L st h else ev X d 102 53 L st h := g_icmp_ne dX3_alike_46 (by decide)
theorem e_X3_alike_49 : ev X d 102 49 L st h = ev X d 102 50 L (.int 1 :: st) h := g_iconst dX3_alike_49 (by decide)
theorem e_X3_alike_50 : ev X d 102 50 L st h = ev X d 102 54 L st h := g_goto dX3_alike_50 (by decide)
theorem e_X3_alike_53 : ev X d 102 53 L st h = ev X d 102 54 L (.int 0 :: st) h := g_iconst dX3_alike_53 (by decide)
theorem e_X3_alike_54 (hx : I_c2 x2 = false) : ev X d 102 54 (x0 :: x1 :: x2 :: x3 :: L) (.int a :: st) h = ev X d 102 55 (x0 :: x1 :: x2 :: some (.int a) :: L) st h := g_istore_n dX3_alike_54 (I_st1_3 hx)
theorem e_X3_alike_55 : ev X d 102 55 L st h = ev X d 102 56 L (.int 0 :: st) h := g_iconst dX3_alike_55 (by decide)
theorem e_X3_alike_56 (hx : I_c2 x3 = false) : ev X d 102 56 (x0 :: x1 :: x2 :: x3 :: x4 :: L) (.int a :: st) h = ev X d 102 58 (x0 :: x1 :: x2 :: x3 :: some (.int a) :: L) st h := g_istore dX3_alike_56 (I_st1_4 hx)
theorem e_X3_alike_58 : ev X d 102 58 (x0 :: x1 :: x2 :: x3 :: some (.int a) :: L) st h = ev X d 102 60 (x0 :: x1 :: x2 :: x3 :: some (.int a) :: L) (.int a :: st) h := g_iload dX3_alike_58 rfl
theorem e_X3_alike_60 : ev X d 102 60 (some (va_rf r) :: L) st h = ev X d 102 61 (some (va_rf r) :: L) (va_rf r :: st) h := g_aload_n dX3_alike_60 rfl
theorem e_X3_alike_61 : ev X d 102 61 L (va_rf (some q) :: st) h = (I_getf X h q 3 2).bind (fun v => ev X d 102 64 L (v :: st) h) := g_get dX3_alike_61 (by decide)
theorem e_X3_alike_64 : ev X d 102 64 (x0 :: some (.int a) :: L) st h = ev X d 102 65 (x0 :: some (.int a) :: L) (.int a :: st) h := g_iload_n dX3_alike_64 rfl
theorem e_X3_alike_65 : ev X d 102 65 L (.int i :: va_rf (some q) :: st) h = (I_aldi X h 0 q i).bind (fun v => ev X d 102 66 L (.int v :: st) h) := g_iald dX3_alike_65 (by decide)
theorem e_X3_alike_66 : ev X d 102 66 L (.int b :: .int a :: st) h = if b ≤ a then ev X d 102 114 L st h else ev X d 102 69 L st h := g_icmp_ge dX3_alike_66 (by decide)
theorem e_X3_alike_69 : ev X d 102 69 (x0 :: x1 :: x2 :: some (.int a) :: L) st h = ev X d 102 70 (x0 :: x1 :: x2 :: some (.int a) :: L) (.int a :: st) h := g_iload_n dX3_alike_69 rfl
theorem e_X3_alike_70 : ev X d 102 70 L (.int a :: st) h = if a = 0 then ev X d 102 114 L st h else ev X d 102 73 L st h := g_if_eq dX3_alike_70 (by decide)
theorem e_X3_alike_73 : ev X d 102 73 (some (va_rf r) :: L) st h = ev X d 102 74 (some (va_rf r) :: L) (va_rf r :: st) h := g_aload_n dX3_alike_73 rfl
theorem e_X3_alike_74 : ev X d 102 74 (some (va_rf r) :: L) st h = ev X d 102 75 (some (va_rf r) :: L) (va_rf r :: st) h := g_aload_n dX3_alike_74 rfl
theorem e_X3_alike_75 : ev X d 102 75 L (va_rf (some q) :: st) h = (I_getf X h q 3 1).bind (fun v => ev X d 102 78 L (v :: st) h) := g_get dX3_alike_75 (by decide)
theorem e_X3_alike_78 : ev X d 102 78 (x0 :: some (.int a) :: L) st h = ev X d 102 79 (x0 :: some (.int a) :: L) (.int a :: st) h := g_iload_n dX3_alike_78 rfl
theorem e_X3_alike_79 : ev X d 102 79 L (.int i :: va_rf (some q) :: st) h = (I_aldi X h 0 q i).bind (fun v => ev X d 102 80 L (.int v :: st) h) := g_iald dX3_alike_79 (by decide)
theorem e_X3_alike_80 : ev X d 102 80 (some (va_rf r) :: L) st h = ev X d 102 81 (some (va_rf r) :: L) (va_rf r :: st) h := g_aload_n dX3_alike_80 rfl
theorem e_X3_alike_81 : ev X d 102 81 L (va_rf (some q) :: st) h = (I_getf X h q 3 3).bind (fun v => ev X d 102 84 L (v :: st) h) := g_get dX3_alike_81 (by decide)
theorem e_X3_alike_84 : ev X d 102 84 L st h = ev X d 102 86 L (.int 12 :: st) h := g_bipush dX3_alike_84 (by decide)
theorem e_X3_alike_86 : ev X d 102 86 (x0 :: some (.int a) :: L) st h = ev X d 102 87 (x0 :: some (.int a) :: L) (.int a :: st) h := g_iload_n dX3_alike_86 rfl
theorem e_X3_alike_87 : ev X d 102 87 L (.int b :: .int a :: st) h = ev X d 102 88 L (.int (a * b) :: st) h := g_imul dX3_alike_87
theorem e_X3_alike_88 : ev X d 102 88 (x0 :: x1 :: x2 :: x3 :: some (.int a) :: L) st h = ev X d 102 90 (x0 :: x1 :: x2 :: x3 :: some (.int a) :: L) (.int a :: st) h := g_iload dX3_alike_88 rfl
theorem e_X3_alike_90 : ev X d 102 90 L (.int b :: .int a :: st) h = ev X d 102 91 L (.int (a + b) :: st) h := g_iadd dX3_alike_90
theorem e_X3_alike_91 : ev X d 102 91 L (.int i :: va_rf (some q) :: st) h = (I_aldi X h 0 q i).bind (fun v => ev X d 102 92 L (.int v :: st) h) := g_iald dX3_alike_91 (by decide)
theorem e_X3_alike_92 : ev X d 102 92 (some (va_rf r) :: L) st h = ev X d 102 93 (some (va_rf r) :: L) (va_rf r :: st) h := g_aload_n dX3_alike_92 rfl
theorem e_X3_alike_93 : ev X d 102 93 L (va_rf (some q) :: st) h = (I_getf X h q 3 3).bind (fun v => ev X d 102 96 L (v :: st) h) := g_get dX3_alike_93 (by decide)
theorem e_X3_alike_96 : ev X d 102 96 L st h = ev X d 102 98 L (.int 12 :: st) h := g_bipush dX3_alike_96 (by decide)
theorem e_X3_alike_98 : ev X d 102 98 (x0 :: x1 :: some (.int a) :: L) st h = ev X d 102 99 (x0 :: x1 :: some (.int a) :: L) (.int a :: st) h := g_iload_n dX3_alike_98 rfl
theorem e_X3_alike_99 : ev X d 102 99 L (.int b :: .int a :: st) h = ev X d 102 100 L (.int (a * b) :: st) h := g_imul dX3_alike_99
theorem e_X3_alike_100 : ev X d 102 100 (x0 :: x1 :: x2 :: x3 :: some (.int a) :: L) st h = ev X d 102 102 (x0 :: x1 :: x2 :: x3 :: some (.int a) :: L) (.int a :: st) h := g_iload dX3_alike_100 rfl
theorem e_X3_alike_102 : ev X d 102 102 L (.int b :: .int a :: st) h = ev X d 102 103 L (.int (a + b) :: st) h := g_iadd dX3_alike_102
theorem e_X3_alike_103 : ev X d 102 103 L (.int i :: va_rf (some q) :: st) h = (I_aldi X h 0 q i).bind (fun v => ev X d 102 104 L (.int v :: st) h) := g_iald dX3_alike_103 (by decide)
theorem e_X3_alike_104 (hc : I_isC X h q 3 = true) (hs : I_cat st ≤ 8) : ev X (d + 1) 102 104 L (.int a3 :: .int a2 :: .int a1 :: va_rf (some q) :: st) h = (ev X d 101 0 [some (va_rf (some q)), some (.int a1), some (.int a2), some (.int a3), none, none] [] h).bind (fun r => ev X (d + 1) 102 107 L (r.1.toList ++ st) r.2) := g_callV (as := [.int a3, .int a2, .int a1]) dX3_alike_104 (by decide) (by decide) I_np_101 rfl (by simp only [List.reverse_cons, List.reverse_nil, List.nil_append, List.cons_append, I_slots_n, I_slots_i, I_slots_d, I_slots_q, List.length_cons, List.length_nil]; decide) (by simp only [I_ent, List.reverse_cons, List.reverse_nil, List.nil_append, List.cons_append, I_slots_n, I_slots_i, I_slots_d, I_slots_q, List.length_cons, List.length_nil]; rfl) rfl hc hs
theorem e_X3_alike_107 (hx : I_c2 x2 = false) : ev X d 102 107 (x0 :: x1 :: x2 :: x3 :: L) (.int a :: st) h = ev X d 102 108 (x0 :: x1 :: x2 :: some (.int a) :: L) st h := g_istore_n dX3_alike_107 (I_st1_3 hx)
theorem e_X3_alike_108 (hx : I_c2 x3 = false) : ev X d 102 108 (x0 :: x1 :: x2 :: x3 :: some (.int a) :: L) st h = ev X d 102 111 (x0 :: x1 :: x2 :: x3 :: some (.int (a + 1)) :: L) st h := g_iinc dX3_alike_108 (by decide) rfl (I_st1_4 hx)
theorem e_X3_alike_111 : ev X d 102 111 L st h = ev X d 102 58 L st h := g_goto dX3_alike_111 (by decide)
theorem e_X3_alike_114 : ev X d 102 114 (x0 :: x1 :: x2 :: some (.int a) :: L) st h = ev X d 102 115 (x0 :: x1 :: x2 :: some (.int a) :: L) (.int a :: st) h := g_iload_n dX3_alike_114 rfl
theorem e_X3_alike_115 : ev X d 102 115 L (.int a :: st) h = if a = 0 then ev X d 102 122 L st h else ev X d 102 118 L st h := g_if_eq dX3_alike_115 (by decide)
theorem e_X3_alike_118 : ev X d 102 118 L st h = ev X d 102 119 L (.int 1 :: st) h := g_iconst dX3_alike_118 (by decide)
theorem e_X3_alike_119 : ev X d 102 119 L st h = ev X d 102 123 L st h := g_goto dX3_alike_119 (by decide)
theorem e_X3_alike_122 : ev X d 102 122 L st h = ev X d 102 123 L (.int 0 :: st) h := g_iconst dX3_alike_122 (by decide)
theorem e_X3_alike_123 : ev X d 102 123 L [.int a] h = some (some (.int a), h) := g_iret dX3_alike_123 rfl
theorem e_X3_same_0 : ev X d 103 0 (some (va_rf r) :: L) st h = ev X d 103 1 (some (va_rf r) :: L) (va_rf r :: st) h := g_aload_n dX3_same_0 rfl
theorem e_X3_same_1 : ev X d 103 1 (x0 :: some (.int a) :: L) st h = ev X d 103 2 (x0 :: some (.int a) :: L) (.int a :: st) h := g_iload_n dX3_same_1 rfl
theorem e_X3_same_2 (hc : I_isC X h q 3 = true) (hs : I_cat st ≤ 8) : ev X (d + 1) 103 2 L (.int a1 :: va_rf (some q) :: st) h = (ev X d 71 0 [some (va_rf (some q)), some (.int a1)] [] h).bind (fun r => ev X (d + 1) 103 5 L (r.1.toList ++ st) r.2) := g_callV (as := [.int a1]) dX3_same_2 (by decide) (by decide) I_np_71 rfl (by simp only [List.reverse_cons, List.reverse_nil, List.nil_append, List.cons_append, I_slots_n, I_slots_i, I_slots_d, I_slots_q, List.length_cons, List.length_nil]; decide) (by simp only [I_ent, List.reverse_cons, List.reverse_nil, List.nil_append, List.cons_append, I_slots_n, I_slots_i, I_slots_d, I_slots_q, List.length_cons, List.length_nil]; rfl) rfl hc hs
theorem e_X3_same_5 : ev X d 103 5 L (.int a :: st) h = if a = 0 then ev X d 103 16 L st h else ev X d 103 8 L st h := g_if_eq dX3_same_5 (by decide)
theorem e_X3_same_8 : ev X d 103 8 (some (va_rf r) :: L) st h = ev X d 103 9 (some (va_rf r) :: L) (va_rf r :: st) h := g_aload_n dX3_same_8 rfl
theorem e_X3_same_9 : ev X d 103 9 (x0 :: x1 :: x2 :: some (.int a) :: L) st h = ev X d 103 10 (x0 :: x1 :: x2 :: some (.int a) :: L) (.int a :: st) h := g_iload_n dX3_same_9 rfl
theorem e_X3_same_10 (hc : I_isC X h q 3 = true) (hs : I_cat st ≤ 8) : ev X (d + 1) 103 10 L (.int a1 :: va_rf (some q) :: st) h = (ev X d 71 0 [some (va_rf (some q)), some (.int a1)] [] h).bind (fun r => ev X (d + 1) 103 13 L (r.1.toList ++ st) r.2) := g_callV (as := [.int a1]) dX3_same_10 (by decide) (by decide) I_np_71 rfl (by simp only [List.reverse_cons, List.reverse_nil, List.nil_append, List.cons_append, I_slots_n, I_slots_i, I_slots_d, I_slots_q, List.length_cons, List.length_nil]; decide) (by simp only [I_ent, List.reverse_cons, List.reverse_nil, List.nil_append, List.cons_append, I_slots_n, I_slots_i, I_slots_d, I_slots_q, List.length_cons, List.length_nil]; rfl) rfl hc hs
theorem e_X3_same_13 : ev X d 103 13 L (.int a :: st) h = if a = 0 then ev X d 103 16 L st h else ev X d 103 19 L st h := g_if_ne dX3_same_13 (by decide)
theorem e_X3_same_16 : ev X d 103 16 L st h = ev X d 103 18 L (.int (-1000001) :: st) h := g_ldc dX3_same_16 (by decide)
theorem e_X3_same_18 : ev X d 103 18 L [.int a] h = some (some (.int a), h) := g_iret dX3_same_18 rfl
theorem e_X3_same_19 : ev X d 103 19 (some (va_rf r) :: L) st h = ev X d 103 20 (some (va_rf r) :: L) (va_rf r :: st) h := g_aload_n dX3_same_19 rfl
theorem e_X3_same_20 : ev X d 103 20 (x0 :: some (.int a) :: L) st h = ev X d 103 21 (x0 :: some (.int a) :: L) (.int a :: st) h := g_iload_n dX3_same_20 rfl
theorem e_X3_same_21 : ev X d 103 21 (x0 :: x1 :: some (.int a) :: L) st h = ev X d 103 22 (x0 :: x1 :: some (.int a) :: L) (.int a :: st) h := g_iload_n dX3_same_21 rfl
theorem e_X3_same_22 (hc : I_isC X h q 3 = true) (hs : I_cat st ≤ 8) : ev X (d + 1) 103 22 L (.int a2 :: .int a1 :: va_rf (some q) :: st) h = (ev X d 76 0 [some (va_rf (some q)), some (.int a1), some (.int a2)] [] h).bind (fun r => ev X (d + 1) 103 25 L (r.1.toList ++ st) r.2) := g_callV (as := [.int a2, .int a1]) dX3_same_22 (by decide) (by decide) I_np_76 rfl (by simp only [List.reverse_cons, List.reverse_nil, List.nil_append, List.cons_append, I_slots_n, I_slots_i, I_slots_d, I_slots_q, List.length_cons, List.length_nil]; decide) (by simp only [I_ent, List.reverse_cons, List.reverse_nil, List.nil_append, List.cons_append, I_slots_n, I_slots_i, I_slots_d, I_slots_q, List.length_cons, List.length_nil]; rfl) rfl hc hs
theorem e_X3_same_25 : ev X d 103 25 L (.int a :: st) h = if a = 0 then ev X d 103 38 L st h else ev X d 103 28 L st h := g_if_eq dX3_same_25 (by decide)
theorem e_X3_same_28 : ev X d 103 28 (some (va_rf r) :: L) st h = ev X d 103 29 (some (va_rf r) :: L) (va_rf r :: st) h := g_aload_n dX3_same_28 rfl
theorem e_X3_same_29 : ev X d 103 29 (x0 :: x1 :: x2 :: some (.int a) :: L) st h = ev X d 103 30 (x0 :: x1 :: x2 :: some (.int a) :: L) (.int a :: st) h := g_iload_n dX3_same_29 rfl
theorem e_X3_same_30 : ev X d 103 30 (x0 :: x1 :: x2 :: x3 :: some (.int a) :: L) st h = ev X d 103 32 (x0 :: x1 :: x2 :: x3 :: some (.int a) :: L) (.int a :: st) h := g_iload dX3_same_30 rfl
theorem e_X3_same_32 (hc : I_isC X h q 3 = true) (hs : I_cat st ≤ 8) : ev X (d + 1) 103 32 L (.int a2 :: .int a1 :: va_rf (some q) :: st) h = (ev X d 76 0 [some (va_rf (some q)), some (.int a1), some (.int a2)] [] h).bind (fun r => ev X (d + 1) 103 35 L (r.1.toList ++ st) r.2) := g_callV (as := [.int a2, .int a1]) dX3_same_32 (by decide) (by decide) I_np_76 rfl (by simp only [List.reverse_cons, List.reverse_nil, List.nil_append, List.cons_append, I_slots_n, I_slots_i, I_slots_d, I_slots_q, List.length_cons, List.length_nil]; decide) (by simp only [I_ent, List.reverse_cons, List.reverse_nil, List.nil_append, List.cons_append, I_slots_n, I_slots_i, I_slots_d, I_slots_q, List.length_cons, List.length_nil]; rfl) rfl hc hs
theorem e_X3_same_35 : ev X d 103 35 L (.int a :: st) h = if a = 0 then ev X d 103 38 L st h else ev X d 103 44 L st h := g_if_ne dX3_same_35 (by decide)
theorem e_X3_same_38 : ev X d 103 38 (some (va_rf r) :: L) st h = ev X d 103 39 (some (va_rf r) :: L) (va_rf r :: st) h := g_aload_n dX3_same_38 rfl
theorem e_X3_same_39 : ev X d 103 39 L st h = ev X d 103 40 L (.int 2 :: st) h := g_iconst dX3_same_39 (by decide)
theorem e_X3_same_40 (hc : I_isC X h q 3 = true) (hs : I_cat st ≤ 8) : ev X (d + 1) 103 40 L (.int a1 :: va_rf (some q) :: st) h = (ev X d 70 0 [some (va_rf (some q)), some (.int a1)] [] h).bind (fun r => ev X (d + 1) 103 43 L (r.1.toList ++ st) r.2) := g_callV (as := [.int a1]) dX3_same_40 (by decide) (by decide) I_np_70 rfl (by simp only [List.reverse_cons, List.reverse_nil, List.nil_append, List.cons_append, I_slots_n, I_slots_i, I_slots_d, I_slots_q, List.length_cons, List.length_nil]; decide) (by simp only [I_ent, List.reverse_cons, List.reverse_nil, List.nil_append, List.cons_append, I_slots_n, I_slots_i, I_slots_d, I_slots_q, List.length_cons, List.length_nil]; rfl) rfl hc hs
theorem e_X3_same_43 : ev X d 103 43 L [.int a] h = some (some (.int a), h) := g_iret dX3_same_43 rfl
theorem e_X3_same_44 : ev X d 103 44 (some (va_rf r) :: L) st h = ev X d 103 45 (some (va_rf r) :: L) (va_rf r :: st) h := g_aload_n dX3_same_44 rfl
theorem e_X3_same_45 : ev X d 103 45 L (va_rf (some q) :: st) h = (I_getf X h q 3 3).bind (fun v => ev X d 103 48 L (v :: st) h) := g_get dX3_same_45 (by decide)
theorem e_X3_same_48 : ev X d 103 48 L st h = ev X d 103 50 L (.int 12 :: st) h := g_bipush dX3_same_48 (by decide)
theorem e_X3_same_50 : ev X d 103 50 (x0 :: some (.int a) :: L) st h = ev X d 103 51 (x0 :: some (.int a) :: L) (.int a :: st) h := g_iload_n dX3_same_50 rfl
theorem e_X3_same_51 : ev X d 103 51 L (.int b :: .int a :: st) h = ev X d 103 52 L (.int (a * b) :: st) h := g_imul dX3_same_51
theorem e_X3_same_52 : ev X d 103 52 (x0 :: x1 :: some (.int a) :: L) st h = ev X d 103 53 (x0 :: x1 :: some (.int a) :: L) (.int a :: st) h := g_iload_n dX3_same_52 rfl
theorem e_X3_same_53 : ev X d 103 53 L (.int b :: .int a :: st) h = ev X d 103 54 L (.int (a + b) :: st) h := g_iadd dX3_same_53
theorem e_X3_same_54 : ev X d 103 54 L (.int i :: va_rf (some q) :: st) h = (I_aldi X h 0 q i).bind (fun v => ev X d 103 55 L (.int v :: st) h) := g_iald dX3_same_54 (by decide)
theorem e_X3_same_55 (hx : I_c2 x4 = false) : ev X d 103 55 (x0 :: x1 :: x2 :: x3 :: x4 :: x5 :: L) (.int a :: st) h = ev X d 103 57 (x0 :: x1 :: x2 :: x3 :: x4 :: some (.int a) :: L) st h := g_istore dX3_same_55 (I_st1_5 hx)
theorem e_X3_same_57 : ev X d 103 57 (x0 :: x1 :: x2 :: x3 :: x4 :: some (.int a) :: L) st h = ev X d 103 59 (x0 :: x1 :: x2 :: x3 :: x4 :: some (.int a) :: L) (.int a :: st) h := g_iload dX3_same_57 rfl
theorem e_X3_same_59 : ev X d 103 59 L (.int a :: st) h = if a < 0 then ev X d 103 83 L st h else ev X d 103 62 L st h := g_if_lt dX3_same_59 (by decide)
theorem e_X3_same_62 : ev X d 103 62 (x0 :: x1 :: x2 :: x3 :: x4 :: some (.int a) :: L) st h = ev X d 103 64 (x0 :: x1 :: x2 :: x3 :: x4 :: some (.int a) :: L) (.int a :: st) h := g_iload dX3_same_62 rfl
theorem e_X3_same_64 : ev X d 103 64 (some (va_rf r) :: L) st h = ev X d 103 65 (some (va_rf r) :: L) (va_rf r :: st) h := g_aload_n dX3_same_64 rfl
theorem e_X3_same_65 : ev X d 103 65 L (va_rf (some q) :: st) h = (I_getf X h q 3 3).bind (fun v => ev X d 103 68 L (v :: st) h) := g_get dX3_same_65 (by decide)
theorem e_X3_same_68 : ev X d 103 68 L st h = ev X d 103 70 L (.int 12 :: st) h := g_bipush dX3_same_68 (by decide)
theorem e_X3_same_70 : ev X d 103 70 (x0 :: x1 :: x2 :: some (.int a) :: L) st h = ev X d 103 71 (x0 :: x1 :: x2 :: some (.int a) :: L) (.int a :: st) h := g_iload_n dX3_same_70 rfl
theorem e_X3_same_71 : ev X d 103 71 L (.int b :: .int a :: st) h = ev X d 103 72 L (.int (a * b) :: st) h := g_imul dX3_same_71
theorem e_X3_same_72 : ev X d 103 72 (x0 :: x1 :: x2 :: x3 :: some (.int a) :: L) st h = ev X d 103 74 (x0 :: x1 :: x2 :: x3 :: some (.int a) :: L) (.int a :: st) h := g_iload dX3_same_72 rfl
theorem e_X3_same_74 : ev X d 103 74 L (.int b :: .int a :: st) h = ev X d 103 75 L (.int (a + b) :: st) h := g_iadd dX3_same_74
theorem e_X3_same_75 : ev X d 103 75 L (.int i :: va_rf (some q) :: st) h = (I_aldi X h 0 q i).bind (fun v => ev X d 103 76 L (.int v :: st) h) := g_iald dX3_same_75 (by decide)
theorem e_X3_same_76 : ev X d 103 76 L (.int b :: .int a :: st) h = if a = b then ev X d 103 79 L st h else ev X d 103 83 L st h := g_icmp_ne dX3_same_76 (by decide)
theorem e_X3_same_79 : ev X d 103 79 L st h = ev X d 103 80 L (.int 1 :: st) h := g_iconst dX3_same_79 (by decide)
theorem e_X3_same_80 : ev X d 103 80 L st h = ev X d 103 84 L st h := g_goto dX3_same_80 (by decide)
theorem e_X3_same_83 : ev X d 103 83 L st h = ev X d 103 84 L (.int 0 :: st) h := g_iconst dX3_same_83 (by decide)
theorem e_X3_same_84 : ev X d 103 84 L [.int a] h = some (some (.int a), h) := g_iret dX3_same_84 rfl
theorem e_X3_goOn_0 : ev X d 104 0 (some (va_rf r) :: L) st h = ev X d 104 1 (some (va_rf r) :: L) (va_rf r :: st) h := g_aload_n dX3_goOn_0 rfl
theorem e_X3_goOn_1 : ev X d 104 1 L (va_rf (some q) :: st) h = (I_getf X h q 3 13).bind (fun v => ev X d 104 4 L (v :: st) h) := g_get dX3_goOn_1 (by decide)
theorem e_X3_goOn_4 : ev X d 104 4 (x0 :: some (.int a) :: L) st h = ev X d 104 5 (x0 :: some (.int a) :: L) (.int a :: st) h := g_iload_n dX3_goOn_4 rfl
theorem e_X3_goOn_5 : ev X d 104 5 L (.int i :: va_rf (some q) :: st) h = (I_aldi X h 0 q i).bind (fun v => ev X d 104 6 L (.int v :: st) h) := g_iald dX3_goOn_5 (by decide)
theorem e_X3_goOn_6 (hx : I_c2 x2 = false) : ev X d 104 6 (x0 :: x1 :: x2 :: x3 :: L) (.int a :: st) h = ev X d 104 7 (x0 :: x1 :: x2 :: some (.int a) :: L) st h := g_istore_n dX3_goOn_6 (I_st1_3 hx)
theorem e_X3_goOn_7 : ev X d 104 7 (some (va_rf r) :: L) st h = ev X d 104 8 (some (va_rf r) :: L) (va_rf r :: st) h := g_aload_n dX3_goOn_7 rfl
theorem e_X3_goOn_8 : ev X d 104 8 L (va_rf (some q) :: st) h = (I_getf X h q 3 14).bind (fun v => ev X d 104 11 L (v :: st) h) := g_get dX3_goOn_8 (by decide)
theorem e_X3_goOn_11 : ev X d 104 11 (x0 :: some (.int a) :: L) st h = ev X d 104 12 (x0 :: some (.int a) :: L) (.int a :: st) h := g_iload_n dX3_goOn_11 rfl
theorem e_X3_goOn_12 : ev X d 104 12 L (.int i :: va_rf (some q) :: st) h = (I_aldi X h 0 q i).bind (fun v => ev X d 104 13 L (.int v :: st) h) := g_iald dX3_goOn_12 (by decide)
theorem e_X3_goOn_13 : ev X d 104 13 L st h = ev X d 104 15 L (.int 16 :: st) h := g_bipush dX3_goOn_13 (by decide)
theorem e_X3_goOn_15 : ev X d 104 15 (some (va_rf r) :: L) st h = ev X d 104 16 (some (va_rf r) :: L) (va_rf r :: st) h := g_aload_n dX3_goOn_15 rfl
theorem e_X3_goOn_16 : ev X d 104 16 L (va_rf (some q) :: st) h = (I_getf X h q 3 2).bind (fun v => ev X d 104 19 L (v :: st) h) := g_get dX3_goOn_16 (by decide)
theorem e_X3_goOn_19 : ev X d 104 19 (x0 :: x1 :: x2 :: some (.int a) :: L) st h = ev X d 104 20 (x0 :: x1 :: x2 :: some (.int a) :: L) (.int a :: st) h := g_iload_n dX3_goOn_19 rfl
theorem e_X3_goOn_20 : ev X d 104 20 L (.int i :: va_rf (some q) :: st) h = (I_aldi X h 0 q i).bind (fun v => ev X d 104 21 L (.int v :: st) h) := g_iald dX3_goOn_20 (by decide)
theorem e_X3_goOn_21 : ev X d 104 21 L (.int b :: .int a :: st) h = ev X d 104 22 L (.int (a * b) :: st) h := g_imul dX3_goOn_21
theorem e_X3_goOn_22 : ev X d 104 22 L (.int b :: .int a :: st) h = if b ≤ a then ev X d 104 402 L st h else ev X d 104 25 L st h := g_icmp_ge dX3_goOn_22 (by decide)
theorem e_X3_goOn_25 : ev X d 104 25 (some (va_rf r) :: L) st h = ev X d 104 26 (some (va_rf r) :: L) (va_rf r :: st) h := g_aload_n dX3_goOn_25 rfl
theorem e_X3_goOn_26 : ev X d 104 26 L (va_rf (some q) :: st) h = (I_getf X h q 3 14).bind (fun v => ev X d 104 29 L (v :: st) h) := g_get dX3_goOn_26 (by decide)
theorem e_X3_goOn_29 : ev X d 104 29 (x0 :: some (.int a) :: L) st h = ev X d 104 30 (x0 :: some (.int a) :: L) (.int a :: st) h := g_iload_n dX3_goOn_29 rfl
theorem e_X3_goOn_30 : ev X d 104 30 L (.int i :: va_rf (some q) :: st) h = (I_aldi X h 0 q i).bind (fun v => ev X d 104 31 L (.int v :: st) h) := g_iald dX3_goOn_30 (by decide)
theorem e_X3_goOn_31 : ev X d 104 31 L st h = ev X d 104 33 L (.int 16 :: st) h := g_bipush dX3_goOn_31 (by decide)
theorem e_X3_goOn_33 (hb : ¬ b = 0) : ev X d 104 33 L (.int b :: .int a :: st) h = ev X d 104 34 L (.int (a / b) :: st) h := g_idiv dX3_goOn_33 hb
theorem e_X3_goOn_34 (hx : I_c2 x3 = false) : ev X d 104 34 (x0 :: x1 :: x2 :: x3 :: x4 :: L) (.int a :: st) h = ev X d 104 36 (x0 :: x1 :: x2 :: x3 :: some (.int a) :: L) st h := g_istore dX3_goOn_34 (I_st1_4 hx)
theorem e_X3_goOn_36 : ev X d 104 36 (some (va_rf r) :: L) st h = ev X d 104 37 (some (va_rf r) :: L) (va_rf r :: st) h := g_aload_n dX3_goOn_36 rfl
theorem e_X3_goOn_37 : ev X d 104 37 L (va_rf (some q) :: st) h = (I_getf X h q 3 14).bind (fun v => ev X d 104 40 L (v :: st) h) := g_get dX3_goOn_37 (by decide)
theorem e_X3_goOn_40 : ev X d 104 40 (x0 :: some (.int a) :: L) st h = ev X d 104 41 (x0 :: some (.int a) :: L) (.int a :: st) h := g_iload_n dX3_goOn_40 rfl
theorem e_X3_goOn_41 : ev X d 104 41 L (.int i :: va_rf (some q) :: st) h = (I_aldi X h 0 q i).bind (fun v => ev X d 104 42 L (.int v :: st) h) := g_iald dX3_goOn_41 (by decide)
theorem e_X3_goOn_42 : ev X d 104 42 L st h = ev X d 104 44 L (.int 16 :: st) h := g_bipush dX3_goOn_42 (by decide)
theorem e_X3_goOn_44 (hb : ¬ b = 0) : ev X d 104 44 L (.int b :: .int a :: st) h = ev X d 104 45 L (.int (a - a / b * b) :: st) h := g_irem dX3_goOn_44 hb
theorem e_X3_goOn_45 (hx : I_c2 x4 = false) : ev X d 104 45 (x0 :: x1 :: x2 :: x3 :: x4 :: x5 :: L) (.int a :: st) h = ev X d 104 47 (x0 :: x1 :: x2 :: x3 :: x4 :: some (.int a) :: L) st h := g_istore dX3_goOn_45 (I_st1_5 hx)
theorem e_X3_goOn_47 : ev X d 104 47 (some (va_rf r) :: L) st h = ev X d 104 48 (some (va_rf r) :: L) (va_rf r :: st) h := g_aload_n dX3_goOn_47 rfl
theorem e_X3_goOn_48 : ev X d 104 48 L (va_rf (some q) :: st) h = (I_getf X h q 3 3).bind (fun v => ev X d 104 51 L (v :: st) h) := g_get dX3_goOn_48 (by decide)
theorem e_X3_goOn_51 : ev X d 104 51 L st h = ev X d 104 53 L (.int 12 :: st) h := g_bipush dX3_goOn_51 (by decide)
theorem e_X3_goOn_53 : ev X d 104 53 (x0 :: x1 :: x2 :: some (.int a) :: L) st h = ev X d 104 54 (x0 :: x1 :: x2 :: some (.int a) :: L) (.int a :: st) h := g_iload_n dX3_goOn_53 rfl
theorem e_X3_goOn_54 : ev X d 104 54 L (.int b :: .int a :: st) h = ev X d 104 55 L (.int (a * b) :: st) h := g_imul dX3_goOn_54
theorem e_X3_goOn_55 : ev X d 104 55 (x0 :: x1 :: x2 :: x3 :: some (.int a) :: L) st h = ev X d 104 57 (x0 :: x1 :: x2 :: x3 :: some (.int a) :: L) (.int a :: st) h := g_iload dX3_goOn_55 rfl
theorem e_X3_goOn_57 : ev X d 104 57 L (.int b :: .int a :: st) h = ev X d 104 58 L (.int (a + b) :: st) h := g_iadd dX3_goOn_57
theorem e_X3_goOn_58 : ev X d 104 58 L (.int i :: va_rf (some q) :: st) h = (I_aldi X h 0 q i).bind (fun v => ev X d 104 59 L (.int v :: st) h) := g_iald dX3_goOn_58 (by decide)
theorem e_X3_goOn_59 (hx : I_c2 x5 = false) : ev X d 104 59 (x0 :: x1 :: x2 :: x3 :: x4 :: x5 :: x6 :: L) (.int a :: st) h = ev X d 104 61 (x0 :: x1 :: x2 :: x3 :: x4 :: x5 :: some (.int a) :: L) st h := g_istore dX3_goOn_59 (I_st1_6 hx)
theorem e_X3_goOn_61 : ev X d 104 61 (x0 :: x1 :: x2 :: x3 :: x4 :: x5 :: some (.int a) :: L) st h = ev X d 104 63 (x0 :: x1 :: x2 :: x3 :: x4 :: x5 :: some (.int a) :: L) (.int a :: st) h := g_iload dX3_goOn_61 rfl
theorem e_X3_goOn_63 : ev X d 104 63 L (.int a :: st) h = if 0 ≤ a then ev X d 104 77 L st h else ev X d 104 66 L st h := g_if_ge dX3_goOn_63 (by decide)
theorem e_X3_goOn_66 : ev X d 104 66 (x0 :: x1 :: some (.int a) :: L) st h = ev X d 104 67 (x0 :: x1 :: some (.int a) :: L) (.int a :: st) h := g_iload_n dX3_goOn_66 rfl
theorem e_X3_goOn_67 : ev X d 104 67 L (.int a :: st) h = if a = 0 then ev X d 104 70 L st h else ev X d 104 77 L st h := g_if_ne dX3_goOn_67 (by decide)
theorem e_X3_goOn_70 : ev X d 104 70 (some (va_rf r) :: L) st h = ev X d 104 71 (some (va_rf r) :: L) (va_rf r :: st) h := g_aload_n dX3_goOn_70 rfl
theorem e_X3_goOn_71 : ev X d 104 71 L st h = ev X d 104 72 L (.int 1 :: st) h := g_iconst dX3_goOn_71 (by decide)
theorem e_X3_goOn_72 : ev X d 104 72 L (.int a :: va_rf (some q) :: st) h = (I_putf X h q 3 18 (.int a)).bind (fun h => ev X d 104 75 L st h) := g_put dX3_goOn_72 (by decide) (by first | rfl | decide)
theorem e_X3_goOn_75 : ev X d 104 75 L st h = ev X d 104 76 L (.int (-1) :: st) h := g_iconst dX3_goOn_75 (by decide)
theorem e_X3_goOn_76 : ev X d 104 76 L [.int a] h = some (some (.int a), h) := g_iret dX3_goOn_76 rfl
theorem e_X3_goOn_77 : ev X d 104 77 (x0 :: x1 :: x2 :: x3 :: x4 :: x5 :: some (.int a) :: L) st h = ev X d 104 79 (x0 :: x1 :: x2 :: x3 :: x4 :: x5 :: some (.int a) :: L) (.int a :: st) h := g_iload dX3_goOn_77 rfl
theorem e_X3_goOn_79 : ev X d 104 79 L (.int a :: st) h = if a < 0 then ev X d 104 104 L st h else ev X d 104 82 L st h := g_if_lt dX3_goOn_79 (by decide)
theorem e_X3_goOn_82 : ev X d 104 82 (x0 :: x1 :: x2 :: x3 :: x4 :: some (.int a) :: L) st h = ev X d 104 84 (x0 :: x1 :: x2 :: x3 :: x4 :: some (.int a) :: L) (.int a :: st) h := g_iload dX3_goOn_82 rfl
theorem e_X3_goOn_84 : ev X d 104 84 (some (va_rf r) :: L) st h = ev X d 104 85 (some (va_rf r) :: L) (va_rf r :: st) h := g_aload_n dX3_goOn_84 rfl
theorem e_X3_goOn_85 : ev X d 104 85 L (va_rf (some q) :: st) h = (I_getf X h q 3 5).bind (fun v => ev X d 104 88 L (v :: st) h) := g_get dX3_goOn_85 (by decide)
theorem e_X3_goOn_88 : ev X d 104 88 (x0 :: x1 :: x2 :: x3 :: x4 :: x5 :: some (.int a) :: L) st h = ev X d 104 90 (x0 :: x1 :: x2 :: x3 :: x4 :: x5 :: some (.int a) :: L) (.int a :: st) h := g_iload dX3_goOn_88 rfl
theorem e_X3_goOn_90 : ev X d 104 90 L (.int i :: va_rf (some q) :: st) h = (I_aldi X h 0 q i).bind (fun v => ev X d 104 91 L (.int v :: st) h) := g_iald dX3_goOn_90 (by decide)
theorem e_X3_goOn_91 : ev X d 104 91 L (.int b :: .int a :: st) h = if b ≤ a then ev X d 104 104 L st h else ev X d 104 94 L st h := g_icmp_ge dX3_goOn_91 (by decide)
theorem e_X3_goOn_94 : ev X d 104 94 (some (va_rf r) :: L) st h = ev X d 104 95 (some (va_rf r) :: L) (va_rf r :: st) h := g_aload_n dX3_goOn_94 rfl
theorem e_X3_goOn_95 : ev X d 104 95 L (va_rf (some q) :: st) h = (I_getf X h q 3 1).bind (fun v => ev X d 104 98 L (v :: st) h) := g_get dX3_goOn_95 (by decide)
theorem e_X3_goOn_98 : ev X d 104 98 (x0 :: x1 :: x2 :: some (.int a) :: L) st h = ev X d 104 99 (x0 :: x1 :: x2 :: some (.int a) :: L) (.int a :: st) h := g_iload_n dX3_goOn_98 rfl
theorem e_X3_goOn_99 : ev X d 104 99 L (.int i :: va_rf (some q) :: st) h = (I_aldi X h 0 q i).bind (fun v => ev X d 104 100 L (.int v :: st) h) := g_iald dX3_goOn_99 (by decide)
theorem e_X3_goOn_100 : ev X d 104 100 L st h = ev X d 104 101 L (.int 3 :: st) h := g_iconst dX3_goOn_100 (by decide)
theorem e_X3_goOn_101 : ev X d 104 101 L (.int b :: .int a :: st) h = if a = b then ev X d 104 109 L st h else ev X d 104 104 L st h := g_icmp_eq dX3_goOn_101 (by decide)
theorem e_X3_goOn_104 : ev X d 104 104 L st h = ev X d 104 106 L (.int (-1000009) :: st) h := g_ldc dX3_goOn_104 (by decide)
theorem e_X3_goOn_106 : ev X d 104 106 L st h = ev X d 104 122 L st h := g_goto dX3_goOn_106 (by decide)
theorem e_X3_goOn_109 : ev X d 104 109 (some (va_rf r) :: L) st h = ev X d 104 110 (some (va_rf r) :: L) (va_rf r :: st) h := g_aload_n dX3_goOn_109 rfl
theorem e_X3_goOn_110 : ev X d 104 110 L (va_rf (some q) :: st) h = (I_getf X h q 3 6).bind (fun v => ev X d 104 113 L (v :: st) h) := g_get dX3_goOn_110 (by decide)
theorem e_X3_goOn_113 : ev X d 104 113 L st h = ev X d 104 115 L (.int 16 :: st) h := g_bipush dX3_goOn_113 (by decide)
theorem e_X3_goOn_115 : ev X d 104 115 (x0 :: x1 :: x2 :: x3 :: x4 :: x5 :: some (.int a) :: L) st h = ev X d 104 117 (x0 :: x1 :: x2 :: x3 :: x4 :: x5 :: some (.int a) :: L) (.int a :: st) h := g_iload dX3_goOn_115 rfl
theorem e_X3_goOn_117 : ev X d 104 117 L (.int b :: .int a :: st) h = ev X d 104 118 L (.int (a * b) :: st) h := g_imul dX3_goOn_117
theorem e_X3_goOn_118 : ev X d 104 118 (x0 :: x1 :: x2 :: x3 :: x4 :: some (.int a) :: L) st h = ev X d 104 120 (x0 :: x1 :: x2 :: x3 :: x4 :: some (.int a) :: L) (.int a :: st) h := g_iload dX3_goOn_118 rfl
theorem e_X3_goOn_120 : ev X d 104 120 L (.int b :: .int a :: st) h = ev X d 104 121 L (.int (a + b) :: st) h := g_iadd dX3_goOn_120
theorem e_X3_goOn_121 : ev X d 104 121 L (.int i :: va_rf (some q) :: st) h = (I_aldi X h 0 q i).bind (fun v => ev X d 104 122 L (.int v :: st) h) := g_iald dX3_goOn_121 (by decide)
theorem e_X3_goOn_122 (hx : I_c2 x6 = false) : ev X d 104 122 (x0 :: x1 :: x2 :: x3 :: x4 :: x5 :: x6 :: x7 :: L) (.int a :: st) h = ev X d 104 124 (x0 :: x1 :: x2 :: x3 :: x4 :: x5 :: x6 :: some (.int a) :: L) st h := g_istore dX3_goOn_122 (I_st1_7 hx)
theorem e_X3_goOn_124 : ev X d 104 124 (x0 :: x1 :: x2 :: x3 :: x4 :: x5 :: x6 :: some (.int a) :: L) st h = ev X d 104 126 (x0 :: x1 :: x2 :: x3 :: x4 :: x5 :: x6 :: some (.int a) :: L) (.int a :: st) h := g_iload dX3_goOn_124 rfl
theorem e_X3_goOn_126 : ev X d 104 126 L st h = ev X d 104 128 L (.int (-1000009) :: st) h := g_ldc dX3_goOn_126 (by decide)
theorem e_X3_goOn_128 : ev X d 104 128 L (.int b :: .int a :: st) h = if a = b then ev X d 104 331 L st h else ev X d 104 131 L st h := g_icmp_eq dX3_goOn_128 (by decide)
theorem e_X3_goOn_131 : ev X d 104 131 (some (va_rf r) :: L) st h = ev X d 104 132 (some (va_rf r) :: L) (va_rf r :: st) h := g_aload_n dX3_goOn_131 rfl
theorem e_X3_goOn_132 : ev X d 104 132 L (va_rf (some q) :: st) h = (I_getf X h q 3 15).bind (fun v => ev X d 104 135 L (v :: st) h) := g_get dX3_goOn_132 (by decide)
theorem e_X3_goOn_135 : ev X d 104 135 (x0 :: x1 :: x2 :: x3 :: x4 :: x5 :: x6 :: some (.int a) :: L) st h = ev X d 104 137 (x0 :: x1 :: x2 :: x3 :: x4 :: x5 :: x6 :: some (.int a) :: L) (.int a :: st) h := g_iload dX3_goOn_135 rfl
theorem e_X3_goOn_137 : ev X d 104 137 L (.int i :: va_rf (some q) :: st) h = (I_aldi X h 0 q i).bind (fun v => ev X d 104 138 L (.int v :: st) h) := g_iald dX3_goOn_137 (by decide)
theorem e_X3_goOn_138 : ev X d 104 138 L st h = ev X d 104 139 L (.int 1 :: st) h := g_iconst dX3_goOn_138 (by decide)
theorem e_X3_goOn_139 : ev X d 104 139 L (.int b :: .int a :: st) h = if a = b then ev X d 104 142 L st h else ev X d 104 149 L st h := g_icmp_ne dX3_goOn_139 (by decide)
theorem e_X3_goOn_142 : ev X d 104 142 (some (va_rf r) :: L) st h = ev X d 104 143 (some (va_rf r) :: L) (va_rf r :: st) h := g_aload_n dX3_goOn_142 rfl
theorem e_X3_goOn_143 : ev X d 104 143 L st h = ev X d 104 144 L (.int 5 :: st) h := g_iconst dX3_goOn_143 (by decide)
theorem e_X3_goOn_144 : ev X d 104 144 L (.int a :: va_rf (some q) :: st) h = (I_putf X h q 3 18 (.int a)).bind (fun h => ev X d 104 147 L st h) := g_put dX3_goOn_144 (by decide) (by first | rfl | decide)
theorem e_X3_goOn_147 : ev X d 104 147 L st h = ev X d 104 148 L (.int (-1) :: st) h := g_iconst dX3_goOn_147 (by decide)
theorem e_X3_goOn_148 : ev X d 104 148 L [.int a] h = some (some (.int a), h) := g_iret dX3_goOn_148 rfl
theorem e_X3_goOn_149 : ev X d 104 149 (some (va_rf r) :: L) st h = ev X d 104 150 (some (va_rf r) :: L) (va_rf r :: st) h := g_aload_n dX3_goOn_149 rfl
theorem e_X3_goOn_150 : ev X d 104 150 L (va_rf (some q) :: st) h = (I_getf X h q 3 15).bind (fun v => ev X d 104 153 L (v :: st) h) := g_get dX3_goOn_150 (by decide)
theorem e_X3_goOn_153 : ev X d 104 153 (x0 :: x1 :: x2 :: x3 :: x4 :: x5 :: x6 :: some (.int a) :: L) st h = ev X d 104 155 (x0 :: x1 :: x2 :: x3 :: x4 :: x5 :: x6 :: some (.int a) :: L) (.int a :: st) h := g_iload dX3_goOn_153 rfl
theorem e_X3_goOn_155 : ev X d 104 155 L (.int i :: va_rf (some q) :: st) h = (I_aldi X h 0 q i).bind (fun v => ev X d 104 156 L (.int v :: st) h) := g_iald dX3_goOn_155 (by decide)
theorem e_X3_goOn_156 : ev X d 104 156 L (.int a :: st) h = if a = 0 then ev X d 104 159 L st h else ev X d 104 197 L st h := g_if_ne dX3_goOn_156 (by decide)
theorem e_X3_goOn_159 : ev X d 104 159 (some (va_rf r) :: L) st h = ev X d 104 160 (some (va_rf r) :: L) (va_rf r :: st) h := g_aload_n dX3_goOn_159 rfl
theorem e_X3_goOn_160 : ev X d 104 160 (x0 :: x1 :: some (.int a) :: L) st h = ev X d 104 161 (x0 :: x1 :: some (.int a) :: L) (.int a :: st) h := g_iload_n dX3_goOn_160 rfl
theorem e_X3_goOn_161 : ev X d 104 161 L (.int a :: st) h = if a = 0 then ev X d 104 164 L st h else ev X d 104 179 L st h := g_if_ne dX3_goOn_161 (by decide)
theorem e_X3_goOn_164 : ev X d 104 164 (some (va_rf r) :: L) st h = ev X d 104 165 (some (va_rf r) :: L) (va_rf r :: st) h := g_aload_n dX3_goOn_164 rfl
theorem e_X3_goOn_165 : ev X d 104 165 L (va_rf (some q) :: st) h = (I_getf X h q 3 19).bind (fun v => ev X d 104 168 L (v :: st) h) := g_get dX3_goOn_165 (by decide)
theorem e_X3_goOn_168 : ev X d 104 168 L st h = ev X d 104 171 L (.int 1000 :: st) h := g_sipush dX3_goOn_168 (by decide)
theorem e_X3_goOn_171 : ev X d 104 171 L (.int b :: .int a :: st) h = if a = b then ev X d 104 174 L st h else ev X d 104 179 L st h := g_icmp_ne dX3_goOn_171 (by decide)
theorem e_X3_goOn_174 : ev X d 104 174 L st h = ev X d 104 176 L (.int 6 :: st) h := g_bipush dX3_goOn_174 (by decide)
theorem e_X3_goOn_176 : ev X d 104 176 L st h = ev X d 104 180 L st h := g_goto dX3_goOn_176 (by decide)
theorem e_X3_goOn_179 : ev X d 104 179 L st h = ev X d 104 180 L (.int 0 :: st) h := g_iconst dX3_goOn_179 (by decide)
theorem e_X3_goOn_180 : ev X d 104 180 L (.int a :: va_rf (some q) :: st) h = (I_putf X h q 3 18 (.int a)).bind (fun h => ev X d 104 183 L st h) := g_put dX3_goOn_180 (by decide) (by first | rfl | decide)
theorem e_X3_goOn_183 : ev X d 104 183 (some (va_rf r) :: L) st h = ev X d 104 184 (some (va_rf r) :: L) (va_rf r :: st) h := g_aload_n dX3_goOn_183 rfl
theorem e_X3_goOn_184 : ev X d 104 184 L (va_rf (some q) :: st) h = (I_getf X h q 3 18).bind (fun v => ev X d 104 187 L (v :: st) h) := g_get dX3_goOn_184 (by decide)
theorem e_X3_goOn_187 : ev X d 104 187 L (.int a :: st) h = if a = 0 then ev X d 104 190 L st h else ev X d 104 195 L st h := g_if_ne dX3_goOn_187 (by decide)
theorem e_X3_goOn_190 : ev X d 104 190 (x0 :: x1 :: x2 :: x3 :: x4 :: x5 :: x6 :: some (.int a) :: L) st h = ev X d 104 192 (x0 :: x1 :: x2 :: x3 :: x4 :: x5 :: x6 :: some (.int a) :: L) (.int a :: st) h := g_iload dX3_goOn_190 rfl
theorem e_X3_goOn_192 : ev X d 104 192 L st h = ev X d 104 196 L st h := g_goto dX3_goOn_192 (by decide)
theorem e_X3_goOn_195 : ev X d 104 195 L st h = ev X d 104 196 L (.int (-1) :: st) h := g_iconst dX3_goOn_195 (by decide)
theorem e_X3_goOn_196 : ev X d 104 196 L [.int a] h = some (some (.int a), h) := g_iret dX3_goOn_196 rfl
theorem e_X3_goOn_197 : ev X d 104 197 (x0 :: x1 :: some (.int a) :: L) st h = ev X d 104 198 (x0 :: x1 :: some (.int a) :: L) (.int a :: st) h := g_iload_n dX3_goOn_197 rfl
theorem e_X3_goOn_198 : ev X d 104 198 L (.int a :: st) h = if a = 0 then ev X d 104 246 L st h else ev X d 104 201 L st h := g_if_eq dX3_goOn_198 (by decide)
theorem e_X3_goOn_201 : ev X d 104 201 (some (va_rf r) :: L) st h = ev X d 104 202 (some (va_rf r) :: L) (va_rf r :: st) h := g_aload_n dX3_goOn_201 rfl
theorem e_X3_goOn_202 : ev X d 104 202 L (va_rf (some q) :: st) h = (I_getf X h q 3 16).bind (fun v => ev X d 104 205 L (v :: st) h) := g_get dX3_goOn_202 (by decide)
theorem e_X3_goOn_205 : ev X d 104 205 (x0 :: x1 :: x2 :: some (.int a) :: L) st h = ev X d 104 206 (x0 :: x1 :: x2 :: some (.int a) :: L) (.int a :: st) h := g_iload_n dX3_goOn_205 rfl
theorem e_X3_goOn_206 : ev X d 104 206 L st h = ev X d 104 207 L (.int 1 :: st) h := g_iconst dX3_goOn_206 (by decide)
theorem e_X3_goOn_207 : ev X d 104 207 (some (va_rf r) :: L) st h = ev X d 104 208 (some (va_rf r) :: L) (va_rf r :: st) h := g_aload_n dX3_goOn_207 rfl
theorem e_X3_goOn_208 : ev X d 104 208 L (va_rf (some q) :: st) h = (I_getf X h q 3 16).bind (fun v => ev X d 104 211 L (v :: st) h) := g_get dX3_goOn_208 (by decide)
theorem e_X3_goOn_211 : ev X d 104 211 (x0 :: x1 :: x2 :: x3 :: x4 :: x5 :: x6 :: some (.int a) :: L) st h = ev X d 104 213 (x0 :: x1 :: x2 :: x3 :: x4 :: x5 :: x6 :: some (.int a) :: L) (.int a :: st) h := g_iload dX3_goOn_211 rfl
theorem e_X3_goOn_213 : ev X d 104 213 L (.int i :: va_rf (some q) :: st) h = (I_aldi X h 0 q i).bind (fun v => ev X d 104 214 L (.int v :: st) h) := g_iald dX3_goOn_213 (by decide)
theorem e_X3_goOn_214 : ev X d 104 214 L (.int b :: .int a :: st) h = ev X d 104 215 L (.int (a + b) :: st) h := g_iadd dX3_goOn_214
theorem e_X3_goOn_215 : ev X d 104 215 (some (va_rf r) :: L) st h = ev X d 104 216 (some (va_rf r) :: L) (va_rf r :: st) h := g_aload_n dX3_goOn_215 rfl
theorem e_X3_goOn_216 : ev X d 104 216 L (va_rf (some q) :: st) h = (I_getf X h q 3 16).bind (fun v => ev X d 104 219 L (v :: st) h) := g_get dX3_goOn_216 (by decide)
theorem e_X3_goOn_219 : ev X d 104 219 (x0 :: x1 :: x2 :: some (.int a) :: L) st h = ev X d 104 220 (x0 :: x1 :: x2 :: some (.int a) :: L) (.int a :: st) h := g_iload_n dX3_goOn_219 rfl
theorem e_X3_goOn_220 : ev X d 104 220 L (.int i :: va_rf (some q) :: st) h = (I_aldi X h 0 q i).bind (fun v => ev X d 104 221 L (.int v :: st) h) := g_iald dX3_goOn_220 (by decide)
theorem e_X3_goOn_221 : ev X d 104 221 L (.int b :: .int a :: st) h = if a ≤ b then ev X d 104 236 L st h else ev X d 104 224 L st h := g_icmp_le dX3_goOn_221 (by decide)
theorem e_X3_goOn_224 : ev X d 104 224 L st h = ev X d 104 225 L (.int 1 :: st) h := g_iconst dX3_goOn_224 (by decide)
theorem e_X3_goOn_225 : ev X d 104 225 (some (va_rf r) :: L) st h = ev X d 104 226 (some (va_rf r) :: L) (va_rf r :: st) h := g_aload_n dX3_goOn_225 rfl
theorem e_X3_goOn_226 : ev X d 104 226 L (va_rf (some q) :: st) h = (I_getf X h q 3 16).bind (fun v => ev X d 104 229 L (v :: st) h) := g_get dX3_goOn_226 (by decide)
theorem e_X3_goOn_229 : ev X d 104 229 (x0 :: x1 :: x2 :: x3 :: x4 :: x5 :: x6 :: some (.int a) :: L) st h = ev X d 104 231 (x0 :: x1 :: x2 :: x3 :: x4 :: x5 :: x6 :: some (.int a) :: L) (.int a :: st) h := g_iload dX3_goOn_229 rfl
theorem e_X3_goOn_231 : ev X d 104 231 L (.int i :: va_rf (some q) :: st) h = (I_aldi X h 0 q i).bind (fun v => ev X d 104 232 L (.int v :: st) h) := g_iald dX3_goOn_231 (by decide)
theorem e_X3_goOn_232 : ev X d 104 232 L (.int b :: .int a :: st) h = ev X d 104 233 L (.int (a + b) :: st) h := g_iadd dX3_goOn_232
theorem e_X3_goOn_233 : ev X d 104 233 L st h = ev X d 104 242 L st h := g_goto dX3_goOn_233 (by decide)
theorem e_X3_goOn_236 : ev X d 104 236 (some (va_rf r) :: L) st h = ev X d 104 237 (some (va_rf r) :: L) (va_rf r :: st) h := g_aload_n dX3_goOn_236 rfl
theorem e_X3_goOn_237 : ev X d 104 237 L (va_rf (some q) :: st) h = (I_getf X h q 3 16).bind (fun v => ev X d 104 240 L (v :: st) h) := g_get dX3_goOn_237 (by decide)
theorem e_X3_goOn_240 : ev X d 104 240 (x0 :: x1 :: x2 :: some (.int a) :: L) st h = ev X d 104 241 (x0 :: x1 :: x2 :: some (.int a) :: L) (.int a :: st) h := g_iload_n dX3_goOn_240 rfl
theorem e_X3_goOn_241 : ev X d 104 241 L (.int i :: va_rf (some q) :: st) h = (I_aldi X h 0 q i).bind (fun v => ev X d 104 242 L (.int v :: st) h) := g_iald dX3_goOn_241 (by decide)
theorem e_X3_goOn_242 : ev X d 104 242 L (.int v :: .int i :: va_rf (some q) :: st) h = (I_asti X h 0 q i v).bind (fun h => ev X d 104 243 L st h) := g_iast dX3_goOn_242
theorem e_X3_goOn_243 : ev X d 104 243 L st h = ev X d 104 389 L st h := g_goto dX3_goOn_243 (by decide)
theorem e_X3_goOn_246 : ev X d 104 246 (x0 :: x1 :: x2 :: x3 :: x4 :: x5 :: x6 :: some (.int a) :: L) st h = ev X d 104 248 (x0 :: x1 :: x2 :: x3 :: x4 :: x5 :: x6 :: some (.int a) :: L) (.int a :: st) h := g_iload dX3_goOn_246 rfl
theorem e_X3_goOn_248 : ev X d 104 248 (some (va_rf r) :: L) st h = ev X d 104 249 (some (va_rf r) :: L) (va_rf r :: st) h := g_aload_n dX3_goOn_248 rfl
theorem e_X3_goOn_249 : ev X d 104 249 L (va_rf (some q) :: st) h = (I_getf X h q 3 20).bind (fun v => ev X d 104 252 L (v :: st) h) := g_get dX3_goOn_249 (by decide)
theorem e_X3_goOn_252 : ev X d 104 252 L (.int b :: .int a :: st) h = if a = b then ev X d 104 255 L st h else ev X d 104 259 L st h := g_icmp_ne dX3_goOn_252 (by decide)
theorem e_X3_goOn_255 : ev X d 104 255 L st h = ev X d 104 256 L (.int 0 :: st) h := g_iconst dX3_goOn_255 (by decide)
theorem e_X3_goOn_256 : ev X d 104 256 L st h = ev X d 104 266 L st h := g_goto dX3_goOn_256 (by decide)
theorem e_X3_goOn_259 : ev X d 104 259 (some (va_rf r) :: L) st h = ev X d 104 260 (some (va_rf r) :: L) (va_rf r :: st) h := g_aload_n dX3_goOn_259 rfl
theorem e_X3_goOn_260 : ev X d 104 260 L (va_rf (some q) :: st) h = (I_getf X h q 3 17).bind (fun v => ev X d 104 263 L (v :: st) h) := g_get dX3_goOn_260 (by decide)
theorem e_X3_goOn_263 : ev X d 104 263 (x0 :: x1 :: x2 :: x3 :: x4 :: x5 :: x6 :: some (.int a) :: L) st h = ev X d 104 265 (x0 :: x1 :: x2 :: x3 :: x4 :: x5 :: x6 :: some (.int a) :: L) (.int a :: st) h := g_iload dX3_goOn_263 rfl
theorem e_X3_goOn_265 : ev X d 104 265 L (.int i :: va_rf (some q) :: st) h = (I_aldi X h 0 q i).bind (fun v => ev X d 104 266 L (.int v :: st) h) := g_iald dX3_goOn_265 (by decide)
theorem e_X3_goOn_266 (hx : I_c2 x7 = false) : ev X d 104 266 (x0 :: x1 :: x2 :: x3 :: x4 :: x5 :: x6 :: x7 :: x8 :: L) (.int a :: st) h = ev X d 104 268 (x0 :: x1 :: x2 :: x3 :: x4 :: x5 :: x6 :: x7 :: some (.int a) :: L) st h := g_istore dX3_goOn_266 (I_st1_8 hx)
theorem e_X3_goOn_268 : ev X d 104 268 (some (va_rf r) :: L) st h = ev X d 104 269 (some (va_rf r) :: L) (va_rf r :: st) h := g_aload_n dX3_goOn_268 rfl
theorem e_X3_goOn_269 : ev X d 104 269 L (va_rf (some q) :: st) h = (I_getf X h q 3 19).bind (fun v => ev X d 104 272 L (v :: st) h) := g_get dX3_goOn_269 (by decide)
theorem e_X3_goOn_272 : ev X d 104 272 (x0 :: x1 :: x2 :: x3 :: x4 :: x5 :: x6 :: x7 :: some (.int a) :: L) st h = ev X d 104 274 (x0 :: x1 :: x2 :: x3 :: x4 :: x5 :: x6 :: x7 :: some (.int a) :: L) (.int a :: st) h := g_iload dX3_goOn_272 rfl
theorem e_X3_goOn_274 : ev X d 104 274 L (.int b :: .int a :: st) h = ev X d 104 275 L (.int (a + b) :: st) h := g_iadd dX3_goOn_274
theorem e_X3_goOn_275 : ev X d 104 275 L st h = ev X d 104 278 L (.int 1000 :: st) h := g_sipush dX3_goOn_275 (by decide)
theorem e_X3_goOn_278 : ev X d 104 278 L (.int b :: .int a :: st) h = if a ≤ b then ev X d 104 296 L st h else ev X d 104 281 L st h := g_icmp_le dX3_goOn_278 (by decide)
theorem e_X3_goOn_281 : ev X d 104 281 (some (va_rf r) :: L) st h = ev X d 104 282 (some (va_rf r) :: L) (va_rf r :: st) h := g_aload_n dX3_goOn_281 rfl
theorem e_X3_goOn_282 : ev X d 104 282 L st h = ev X d 104 284 L (.int 6 :: st) h := g_bipush dX3_goOn_282 (by decide)
theorem e_X3_goOn_284 : ev X d 104 284 L (.int a :: va_rf (some q) :: st) h = (I_putf X h q 3 18 (.int a)).bind (fun h => ev X d 104 287 L st h) := g_put dX3_goOn_284 (by decide) (by first | rfl | decide)
theorem e_X3_goOn_287 : ev X d 104 287 (some (va_rf r) :: L) st h = ev X d 104 288 (some (va_rf r) :: L) (va_rf r :: st) h := g_aload_n dX3_goOn_287 rfl
theorem e_X3_goOn_288 : ev X d 104 288 L st h = ev X d 104 291 L (.int 1000 :: st) h := g_sipush dX3_goOn_288 (by decide)
theorem e_X3_goOn_291 : ev X d 104 291 L (.int a :: va_rf (some q) :: st) h = (I_putf X h q 3 19 (.int a)).bind (fun h => ev X d 104 294 L st h) := g_put dX3_goOn_291 (by decide) (by first | rfl | decide)
theorem e_X3_goOn_294 : ev X d 104 294 L st h = ev X d 104 295 L (.int (-1) :: st) h := g_iconst dX3_goOn_294 (by decide)
theorem e_X3_goOn_295 : ev X d 104 295 L [.int a] h = some (some (.int a), h) := g_iret dX3_goOn_295 rfl
theorem e_X3_goOn_296 : ev X d 104 296 (some (va_rf r) :: L) st h = ev X d 104 297 (some (va_rf r) :: L) (va_rf r :: st) h := g_aload_n dX3_goOn_296 rfl
theorem e_X3_goOn_297 : ev X d 104 297 L (va_rf r :: st) h = ev X d 104 298 L (va_rf r :: va_rf r :: st) h := g_dup dX3_goOn_297
theorem e_X3_goOn_297i : ev X d 104 297 L (.int a :: st) h = ev X d 104 298 L (.int a :: .int a :: st) h := g_dupi dX3_goOn_297
theorem e_X3_goOn_298 : ev X d 104 298 L (va_rf (some q) :: st) h = (I_getf X h q 3 19).bind (fun v => ev X d 104 301 L (v :: st) h) := g_get dX3_goOn_298 (by decide)
theorem e_X3_goOn_301 : ev X d 104 301 (x0 :: x1 :: x2 :: x3 :: x4 :: x5 :: x6 :: x7 :: some (.int a) :: L) st h = ev X d 104 303 (x0 :: x1 :: x2 :: x3 :: x4 :: x5 :: x6 :: x7 :: some (.int a) :: L) (.int a :: st) h := g_iload dX3_goOn_301 rfl
theorem e_X3_goOn_303 : ev X d 104 303 L (.int b :: .int a :: st) h = ev X d 104 304 L (.int (a + b) :: st) h := g_iadd dX3_goOn_303
theorem e_X3_goOn_304 : ev X d 104 304 L (.int a :: va_rf (some q) :: st) h = (I_putf X h q 3 19 (.int a)).bind (fun h => ev X d 104 307 L st h) := g_put dX3_goOn_304 (by decide) (by first | rfl | decide)
theorem e_X3_goOn_307 : ev X d 104 307 (some (va_rf r) :: L) st h = ev X d 104 308 (some (va_rf r) :: L) (va_rf r :: st) h := g_aload_n dX3_goOn_307 rfl
theorem e_X3_goOn_308 : ev X d 104 308 L (va_rf (some q) :: st) h = (I_getf X h q 3 16).bind (fun v => ev X d 104 311 L (v :: st) h) := g_get dX3_goOn_308 (by decide)
theorem e_X3_goOn_311 : ev X d 104 311 (x0 :: x1 :: x2 :: some (.int a) :: L) st h = ev X d 104 312 (x0 :: x1 :: x2 :: some (.int a) :: L) (.int a :: st) h := g_iload_n dX3_goOn_311 rfl
theorem e_X3_goOn_312 : ev X d 104 312 L (.int a :: va_rf r :: st) h = ev X d 104 313 L (.int a :: va_rf r :: .int a :: va_rf r :: st) h := g_dup2 dX3_goOn_312
theorem e_X3_goOn_313 : ev X d 104 313 L (.int i :: va_rf (some q) :: st) h = (I_aldi X h 0 q i).bind (fun v => ev X d 104 314 L (.int v :: st) h) := g_iald dX3_goOn_313 (by decide)
theorem e_X3_goOn_314 : ev X d 104 314 (some (va_rf r) :: L) st h = ev X d 104 315 (some (va_rf r) :: L) (va_rf r :: st) h := g_aload_n dX3_goOn_314 rfl
theorem e_X3_goOn_315 : ev X d 104 315 L (va_rf (some q) :: st) h = (I_getf X h q 3 16).bind (fun v => ev X d 104 318 L (v :: st) h) := g_get dX3_goOn_315 (by decide)
theorem e_X3_goOn_318 : ev X d 104 318 (x0 :: x1 :: x2 :: x3 :: x4 :: x5 :: x6 :: some (.int a) :: L) st h = ev X d 104 320 (x0 :: x1 :: x2 :: x3 :: x4 :: x5 :: x6 :: some (.int a) :: L) (.int a :: st) h := g_iload dX3_goOn_318 rfl
theorem e_X3_goOn_320 : ev X d 104 320 L (.int i :: va_rf (some q) :: st) h = (I_aldi X h 0 q i).bind (fun v => ev X d 104 321 L (.int v :: st) h) := g_iald dX3_goOn_320 (by decide)
theorem e_X3_goOn_321 : ev X d 104 321 L (.int b :: .int a :: st) h = ev X d 104 322 L (.int (a + b) :: st) h := g_iadd dX3_goOn_321
theorem e_X3_goOn_322 : ev X d 104 322 L (.int v :: .int i :: va_rf (some q) :: st) h = (I_asti X h 0 q i v).bind (fun h => ev X d 104 323 L st h) := g_iast dX3_goOn_322
theorem e_X3_goOn_323 : ev X d 104 323 (some (va_rf r) :: L) st h = ev X d 104 324 (some (va_rf r) :: L) (va_rf r :: st) h := g_aload_n dX3_goOn_323 rfl
theorem e_X3_goOn_324 : ev X d 104 324 L st h = ev X d 104 325 L (.int (-1) :: st) h := g_iconst dX3_goOn_324 (by decide)
theorem e_X3_goOn_325 : ev X d 104 325 L (.int a :: va_rf (some q) :: st) h = (I_putf X h q 3 20 (.int a)).bind (fun h => ev X d 104 328 L st h) := g_put dX3_goOn_325 (by decide) (by first | rfl | decide)
theorem e_X3_goOn_328 : ev X d 104 328 L st h = ev X d 104 389 L st h := g_goto dX3_goOn_328 (by decide)
theorem e_X3_goOn_331 : ev X d 104 331 (x0 :: x1 :: some (.int a) :: L) st h = ev X d 104 332 (x0 :: x1 :: some (.int a) :: L) (.int a :: st) h := g_iload_n dX3_goOn_331 rfl
theorem e_X3_goOn_332 : ev X d 104 332 L (.int a :: st) h = if a = 0 then ev X d 104 335 L st h else ev X d 104 389 L st h := g_if_ne dX3_goOn_332 (by decide)
theorem e_X3_goOn_335 : ev X d 104 335 (x0 :: x1 :: x2 :: x3 :: x4 :: x5 :: some (.int a) :: L) st h = ev X d 104 337 (x0 :: x1 :: x2 :: x3 :: x4 :: x5 :: some (.int a) :: L) (.int a :: st) h := g_iload dX3_goOn_335 rfl
theorem e_X3_goOn_337 : ev X d 104 337 L (.int a :: st) h = if a < 0 then ev X d 104 389 L st h else ev X d 104 340 L st h := g_if_lt dX3_goOn_337 (by decide)
theorem e_X3_goOn_340 : ev X d 104 340 (x0 :: x1 :: x2 :: x3 :: x4 :: some (.int a) :: L) st h = ev X d 104 342 (x0 :: x1 :: x2 :: x3 :: x4 :: some (.int a) :: L) (.int a :: st) h := g_iload dX3_goOn_340 rfl
theorem e_X3_goOn_342 : ev X d 104 342 (some (va_rf r) :: L) st h = ev X d 104 343 (some (va_rf r) :: L) (va_rf r :: st) h := g_aload_n dX3_goOn_342 rfl
theorem e_X3_goOn_343 : ev X d 104 343 L (va_rf (some q) :: st) h = (I_getf X h q 3 5).bind (fun v => ev X d 104 346 L (v :: st) h) := g_get dX3_goOn_343 (by decide)
theorem e_X3_goOn_346 : ev X d 104 346 (x0 :: x1 :: x2 :: x3 :: x4 :: x5 :: some (.int a) :: L) st h = ev X d 104 348 (x0 :: x1 :: x2 :: x3 :: x4 :: x5 :: some (.int a) :: L) (.int a :: st) h := g_iload dX3_goOn_346 rfl
theorem e_X3_goOn_348 : ev X d 104 348 L (.int i :: va_rf (some q) :: st) h = (I_aldi X h 0 q i).bind (fun v => ev X d 104 349 L (.int v :: st) h) := g_iald dX3_goOn_348 (by decide)
theorem e_X3_goOn_349 : ev X d 104 349 L (.int b :: .int a :: st) h = if b ≤ a then ev X d 104 389 L st h else ev X d 104 352 L st h := g_icmp_ge dX3_goOn_349 (by decide)
theorem e_X3_goOn_352 : ev X d 104 352 (some (va_rf r) :: L) st h = ev X d 104 353 (some (va_rf r) :: L) (va_rf r :: st) h := g_aload_n dX3_goOn_352 rfl
theorem e_X3_goOn_353 : ev X d 104 353 L (va_rf (some q) :: st) h = (I_getf X h q 3 1).bind (fun v => ev X d 104 356 L (v :: st) h) := g_get dX3_goOn_353 (by decide)
theorem e_X3_goOn_356 : ev X d 104 356 (x0 :: x1 :: x2 :: some (.int a) :: L) st h = ev X d 104 357 (x0 :: x1 :: x2 :: some (.int a) :: L) (.int a :: st) h := g_iload_n dX3_goOn_356 rfl
theorem e_X3_goOn_357 : ev X d 104 357 L (.int i :: va_rf (some q) :: st) h = (I_aldi X h 0 q i).bind (fun v => ev X d 104 358 L (.int v :: st) h) := g_iald dX3_goOn_357 (by decide)
theorem e_X3_goOn_358 : ev X d 104 358 L st h = ev X d 104 359 L (.int 3 :: st) h := g_iconst dX3_goOn_358 (by decide)
theorem e_X3_goOn_359 : ev X d 104 359 L (.int b :: .int a :: st) h = if a = b then ev X d 104 389 L st h else ev X d 104 362 L st h := g_icmp_eq dX3_goOn_359 (by decide)
theorem e_X3_goOn_362 : ev X d 104 362 (some (va_rf r) :: L) st h = ev X d 104 363 (some (va_rf r) :: L) (va_rf r :: st) h := g_aload_n dX3_goOn_362 rfl
theorem e_X3_goOn_363 : ev X d 104 363 L (va_rf (some q) :: st) h = (I_getf X h q 3 16).bind (fun v => ev X d 104 366 L (v :: st) h) := g_get dX3_goOn_363 (by decide)
theorem e_X3_goOn_366 : ev X d 104 366 (x0 :: x1 :: x2 :: some (.int a) :: L) st h = ev X d 104 367 (x0 :: x1 :: x2 :: some (.int a) :: L) (.int a :: st) h := g_iload_n dX3_goOn_366 rfl
theorem e_X3_goOn_367 : ev X d 104 367 L (.int a :: va_rf r :: st) h = ev X d 104 368 L (.int a :: va_rf r :: .int a :: va_rf r :: st) h := g_dup2 dX3_goOn_367
theorem e_X3_goOn_368 : ev X d 104 368 L (.int i :: va_rf (some q) :: st) h = (I_aldi X h 0 q i).bind (fun v => ev X d 104 369 L (.int v :: st) h) := g_iald dX3_goOn_368 (by decide)
theorem e_X3_goOn_369 : ev X d 104 369 (some (va_rf r) :: L) st h = ev X d 104 370 (some (va_rf r) :: L) (va_rf r :: st) h := g_aload_n dX3_goOn_369 rfl
theorem e_X3_goOn_370 : ev X d 104 370 (some (va_rf r) :: L) st h = ev X d 104 371 (some (va_rf r) :: L) (va_rf r :: st) h := g_aload_n dX3_goOn_370 rfl
theorem e_X3_goOn_371 : ev X d 104 371 L (va_rf (some q) :: st) h = (I_getf X h q 3 1).bind (fun v => ev X d 104 374 L (v :: st) h) := g_get dX3_goOn_371 (by decide)
theorem e_X3_goOn_374 : ev X d 104 374 (x0 :: x1 :: x2 :: some (.int a) :: L) st h = ev X d 104 375 (x0 :: x1 :: x2 :: some (.int a) :: L) (.int a :: st) h := g_iload_n dX3_goOn_374 rfl
theorem e_X3_goOn_375 : ev X d 104 375 L (.int i :: va_rf (some q) :: st) h = (I_aldi X h 0 q i).bind (fun v => ev X d 104 376 L (.int v :: st) h) := g_iald dX3_goOn_375 (by decide)
theorem e_X3_goOn_376 : ev X d 104 376 L st h = ev X d 104 378 L (.int 16 :: st) h := g_bipush dX3_goOn_376 (by decide)
theorem e_X3_goOn_378 : ev X d 104 378 (x0 :: x1 :: x2 :: x3 :: x4 :: x5 :: some (.int a) :: L) st h = ev X d 104 380 (x0 :: x1 :: x2 :: x3 :: x4 :: x5 :: some (.int a) :: L) (.int a :: st) h := g_iload dX3_goOn_378 rfl
theorem e_X3_goOn_380 : ev X d 104 380 L (.int b :: .int a :: st) h = ev X d 104 381 L (.int (a * b) :: st) h := g_imul dX3_goOn_380
theorem e_X3_goOn_381 : ev X d 104 381 (x0 :: x1 :: x2 :: x3 :: x4 :: some (.int a) :: L) st h = ev X d 104 383 (x0 :: x1 :: x2 :: x3 :: x4 :: some (.int a) :: L) (.int a :: st) h := g_iload dX3_goOn_381 rfl
theorem e_X3_goOn_383 : ev X d 104 383 L (.int b :: .int a :: st) h = ev X d 104 384 L (.int (a + b) :: st) h := g_iadd dX3_goOn_383
theorem e_X3_goOn_384 (hc : I_isC X h q 3 = true) (hs : I_cat st ≤ 8) : ev X (d + 1) 104 384 L (.int a2 :: .int a1 :: va_rf (some q) :: st) h = (ev X d 84 0 [some (va_rf (some q)), some (.int a1), some (.int a2)] [] h).bind (fun r => ev X (d + 1) 104 387 L (r.1.toList ++ st) r.2) := g_callV (as := [.int a2, .int a1]) dX3_goOn_384 (by decide) (by decide) I_np_84 rfl (by simp only [List.reverse_cons, List.reverse_nil, List.nil_append, List.cons_append, I_slots_n, I_slots_i, I_slots_d, I_slots_q, List.length_cons, List.length_nil]; decide) (by simp only [I_ent, List.reverse_cons, List.reverse_nil, List.nil_append, List.cons_append, I_slots_n, I_slots_i, I_slots_d, I_slots_q, List.length_cons, List.length_nil]; rfl) rfl hc hs
theorem e_X3_goOn_387 : ev X d 104 387 L (.int b :: .int a :: st) h = ev X d 104 388 L (.int (a + b) :: st) h := g_iadd dX3_goOn_387
theorem e_X3_goOn_388 : ev X d 104 388 L (.int v :: .int i :: va_rf (some q) :: st) h = (I_asti X h 0 q i v).bind (fun h => ev X d 104 389 L st h) := g_iast dX3_goOn_388
theorem e_X3_goOn_389 : ev X d 104 389 (some (va_rf r) :: L) st h = ev X d 104 390 (some (va_rf r) :: L) (va_rf r :: st) h := g_aload_n dX3_goOn_389 rfl
theorem e_X3_goOn_390 : ev X d 104 390 L (va_rf (some q) :: st) h = (I_getf X h q 3 14).bind (fun v => ev X d 104 393 L (v :: st) h) := g_get dX3_goOn_390 (by decide)
theorem e_X3_goOn_393 : ev X d 104 393 (x0 :: some (.int a) :: L) st h = ev X d 104 394 (x0 :: some (.int a) :: L) (.int a :: st) h := g_iload_n dX3_goOn_393 rfl
theorem e_X3_goOn_394 : ev X d 104 394 L (.int a :: va_rf r :: st) h = ev X d 104 395 L (.int a :: va_rf r :: .int a :: va_rf r :: st) h := g_dup2 dX3_goOn_394
theorem e_X3_goOn_395 : ev X d 104 395 L (.int i :: va_rf (some q) :: st) h = (I_aldi X h 0 q i).bind (fun v => ev X d 104 396 L (.int v :: st) h) := g_iald dX3_goOn_395 (by decide)
theorem e_X3_goOn_396 : ev X d 104 396 L st h = ev X d 104 397 L (.int 1 :: st) h := g_iconst dX3_goOn_396 (by decide)
theorem e_X3_goOn_397 : ev X d 104 397 L (.int b :: .int a :: st) h = ev X d 104 398 L (.int (a + b) :: st) h := g_iadd dX3_goOn_397
theorem e_X3_goOn_398 : ev X d 104 398 L (.int v :: .int i :: va_rf (some q) :: st) h = (I_asti X h 0 q i v).bind (fun h => ev X d 104 399 L st h) := g_iast dX3_goOn_398
theorem e_X3_goOn_399 : ev X d 104 399 L st h = ev X d 104 7 L st h := g_goto dX3_goOn_399 (by decide)
theorem e_X3_goOn_402 : ev X d 104 402 L st h = ev X d 104 403 L (.int (-1) :: st) h := g_iconst dX3_goOn_402 (by decide)
theorem e_X3_goOn_403 : ev X d 104 403 L [.int a] h = some (some (.int a), h) := g_iret dX3_goOn_403 rfl
theorem e_X3_enter_0 : ev X d 105 0 (some (va_rf r) :: L) st h = ev X d 105 1 (some (va_rf r) :: L) (va_rf r :: st) h := g_aload_n dX3_enter_0 rfl
theorem e_X3_enter_1 : ev X d 105 1 L (va_rf (some q) :: st) h = (I_getf X h q 3 13).bind (fun v => ev X d 105 4 L (v :: st) h) := g_get dX3_enter_1 (by decide)
theorem e_X3_enter_4 : ev X d 105 4 (x0 :: some (.int a) :: L) st h = ev X d 105 5 (x0 :: some (.int a) :: L) (.int a :: st) h := g_iload_n dX3_enter_4 rfl
theorem e_X3_enter_5 : ev X d 105 5 (x0 :: x1 :: some (.int a) :: L) st h = ev X d 105 6 (x0 :: x1 :: some (.int a) :: L) (.int a :: st) h := g_iload_n dX3_enter_5 rfl
theorem e_X3_enter_6 : ev X d 105 6 L (.int v :: .int i :: va_rf (some q) :: st) h = (I_asti X h 0 q i v).bind (fun h => ev X d 105 7 L st h) := g_iast dX3_enter_6
theorem e_X3_enter_7 : ev X d 105 7 (some (va_rf r) :: L) st h = ev X d 105 8 (some (va_rf r) :: L) (va_rf r :: st) h := g_aload_n dX3_enter_7 rfl
theorem e_X3_enter_8 : ev X d 105 8 L (va_rf (some q) :: st) h = (I_getf X h q 3 14).bind (fun v => ev X d 105 11 L (v :: st) h) := g_get dX3_enter_8 (by decide)
theorem e_X3_enter_11 : ev X d 105 11 (x0 :: some (.int a) :: L) st h = ev X d 105 12 (x0 :: some (.int a) :: L) (.int a :: st) h := g_iload_n dX3_enter_11 rfl
theorem e_X3_enter_12 : ev X d 105 12 L st h = ev X d 105 13 L (.int 0 :: st) h := g_iconst dX3_enter_12 (by decide)
theorem e_X3_enter_13 : ev X d 105 13 L (.int v :: .int i :: va_rf (some q) :: st) h = (I_asti X h 0 q i v).bind (fun h => ev X d 105 14 L st h) := g_iast dX3_enter_13
theorem e_X3_enter_14 : ev X d 105 14 (some (va_rf r) :: L) st h = ev X d 105 15 (some (va_rf r) :: L) (va_rf r :: st) h := g_aload_n dX3_enter_14 rfl
theorem e_X3_enter_15 : ev X d 105 15 L (va_rf (some q) :: st) h = (I_getf X h q 3 15).bind (fun v => ev X d 105 18 L (v :: st) h) := g_get dX3_enter_15 (by decide)
theorem e_X3_enter_18 : ev X d 105 18 (x0 :: x1 :: some (.int a) :: L) st h = ev X d 105 19 (x0 :: x1 :: some (.int a) :: L) (.int a :: st) h := g_iload_n dX3_enter_18 rfl
theorem e_X3_enter_19 : ev X d 105 19 L st h = ev X d 105 20 L (.int 1 :: st) h := g_iconst dX3_enter_19 (by decide)
theorem e_X3_enter_20 : ev X d 105 20 L (.int v :: .int i :: va_rf (some q) :: st) h = (I_asti X h 0 q i v).bind (fun h => ev X d 105 21 L st h) := g_iast dX3_enter_20
theorem e_X3_enter_21 : ev X d 105 21 (some (va_rf r) :: L) st h = ev X d 105 22 (some (va_rf r) :: L) (va_rf r :: st) h := g_aload_n dX3_enter_21 rfl
theorem e_X3_enter_22 : ev X d 105 22 L (va_rf (some q) :: st) h = (I_getf X h q 3 16).bind (fun v => ev X d 105 25 L (v :: st) h) := g_get dX3_enter_22 (by decide)
theorem e_X3_enter_25 : ev X d 105 25 (x0 :: x1 :: some (.int a) :: L) st h = ev X d 105 26 (x0 :: x1 :: some (.int a) :: L) (.int a :: st) h := g_iload_n dX3_enter_25 rfl
theorem e_X3_enter_26 : ev X d 105 26 (x0 :: x1 :: x2 :: some (.int a) :: L) st h = ev X d 105 27 (x0 :: x1 :: x2 :: some (.int a) :: L) (.int a :: st) h := g_iload_n dX3_enter_26 rfl
theorem e_X3_enter_27 : ev X d 105 27 L (.int a :: st) h = if a = 0 then ev X d 105 44 L st h else ev X d 105 30 L st h := g_if_eq dX3_enter_27 (by decide)
theorem e_X3_enter_30 : ev X d 105 30 (some (va_rf r) :: L) st h = ev X d 105 31 (some (va_rf r) :: L) (va_rf r :: st) h := g_aload_n dX3_enter_30 rfl
theorem e_X3_enter_31 : ev X d 105 31 L (va_rf (some q) :: st) h = (I_getf X h q 3 1).bind (fun v => ev X d 105 34 L (v :: st) h) := g_get dX3_enter_31 (by decide)
theorem e_X3_enter_34 : ev X d 105 34 (x0 :: x1 :: some (.int a) :: L) st h = ev X d 105 35 (x0 :: x1 :: some (.int a) :: L) (.int a :: st) h := g_iload_n dX3_enter_34 rfl
theorem e_X3_enter_35 : ev X d 105 35 L (.int i :: va_rf (some q) :: st) h = (I_aldi X h 0 q i).bind (fun v => ev X d 105 36 L (.int v :: st) h) := g_iald dX3_enter_35 (by decide)
theorem e_X3_enter_36 : ev X d 105 36 L st h = ev X d 105 37 L (.int 3 :: st) h := g_iconst dX3_enter_36 (by decide)
theorem e_X3_enter_37 : ev X d 105 37 L (.int b :: .int a :: st) h = if a = b then ev X d 105 40 L st h else ev X d 105 44 L st h := g_icmp_ne dX3_enter_37 (by decide)
theorem e_X3_enter_40 : ev X d 105 40 L st h = ev X d 105 41 L (.int 1 :: st) h := g_iconst dX3_enter_40 (by decide)
theorem e_X3_enter_41 : ev X d 105 41 L st h = ev X d 105 45 L st h := g_goto dX3_enter_41 (by decide)
theorem e_X3_enter_44 : ev X d 105 44 L st h = ev X d 105 45 L (.int 0 :: st) h := g_iconst dX3_enter_44 (by decide)
theorem e_X3_enter_45 : ev X d 105 45 L (.int v :: .int i :: va_rf (some q) :: st) h = (I_asti X h 0 q i v).bind (fun h => ev X d 105 46 L st h) := g_iast dX3_enter_45
theorem e_X3_enter_46 : ev X d 105 46 (some (va_rf r) :: L) st h = ev X d 105 47 (some (va_rf r) :: L) (va_rf r :: st) h := g_aload_n dX3_enter_46 rfl
theorem e_X3_enter_47 : ev X d 105 47 L (va_rf r :: st) h = ev X d 105 48 L (va_rf r :: va_rf r :: st) h := g_dup dX3_enter_47
theorem e_X3_enter_47i : ev X d 105 47 L (.int a :: st) h = ev X d 105 48 L (.int a :: .int a :: st) h := g_dupi dX3_enter_47
theorem e_X3_enter_48 : ev X d 105 48 L (va_rf (some q) :: st) h = (I_getf X h q 3 19).bind (fun v => ev X d 105 51 L (v :: st) h) := g_get dX3_enter_48 (by decide)
theorem e_X3_enter_51 : ev X d 105 51 L st h = ev X d 105 52 L (.int 1 :: st) h := g_iconst dX3_enter_51 (by decide)
theorem e_X3_enter_52 : ev X d 105 52 L (.int b :: .int a :: st) h = ev X d 105 53 L (.int (a + b) :: st) h := g_iadd dX3_enter_52
theorem e_X3_enter_53 : ev X d 105 53 L (.int a :: va_rf (some q) :: st) h = (I_putf X h q 3 19 (.int a)).bind (fun h => ev X d 105 56 L st h) := g_put dX3_enter_53 (by decide) (by first | rfl | decide)
theorem e_X3_enter_56 : ev X d 105 56 (some (va_rf r) :: L) st h = ev X d 105 57 (some (va_rf r) :: L) (va_rf r :: st) h := g_aload_n dX3_enter_56 rfl
theorem e_X3_enter_57 : ev X d 105 57 L (va_rf (some q) :: st) h = (I_getf X h q 3 17).bind (fun v => ev X d 105 60 L (v :: st) h) := g_get dX3_enter_57 (by decide)
theorem e_X3_enter_60 : ev X d 105 60 (x0 :: x1 :: some (.int a) :: L) st h = ev X d 105 61 (x0 :: x1 :: some (.int a) :: L) (.int a :: st) h := g_iload_n dX3_enter_60 rfl
theorem e_X3_enter_61 : ev X d 105 61 (some (va_rf r) :: L) st h = ev X d 105 62 (some (va_rf r) :: L) (va_rf r :: st) h := g_aload_n dX3_enter_61 rfl
theorem e_X3_enter_62 : ev X d 105 62 L (va_rf (some q) :: st) h = (I_getf X h q 3 19).bind (fun v => ev X d 105 65 L (v :: st) h) := g_get dX3_enter_62 (by decide)
theorem e_X3_enter_65 : ev X d 105 65 L st h = ev X d 105 66 L (.int 1 :: st) h := g_iconst dX3_enter_65 (by decide)
theorem e_X3_enter_66 : ev X d 105 66 L (.int b :: .int a :: st) h = ev X d 105 67 L (.int (a - b) :: st) h := g_isub dX3_enter_66
theorem e_X3_enter_67 : ev X d 105 67 L (.int v :: .int i :: va_rf (some q) :: st) h = (I_asti X h 0 q i v).bind (fun h => ev X d 105 68 L st h) := g_iast dX3_enter_67
theorem e_X3_enter_68 : ev X d 105 68 L [] h = some (none, h) := g_vret dX3_enter_68 rfl
theorem e_X3_find_0 : ev X d 106 0 L st h = ev X d 106 1 L (.int 0 :: st) h := g_iconst dX3_find_0 (by decide)
theorem e_X3_find_1 (hx : I_c2 x2 = false) : ev X d 106 1 (x0 :: x1 :: x2 :: x3 :: L) (.int a :: st) h = ev X d 106 2 (x0 :: x1 :: x2 :: some (.int a) :: L) st h := g_istore_n dX3_find_1 (I_st1_3 hx)
theorem e_X3_find_2 : ev X d 106 2 (x0 :: x1 :: x2 :: some (.int a) :: L) st h = ev X d 106 3 (x0 :: x1 :: x2 :: some (.int a) :: L) (.int a :: st) h := g_iload_n dX3_find_2 rfl
theorem e_X3_find_3 : ev X d 106 3 L st h = ev X d 106 5 L (.int 16 :: st) h := g_bipush dX3_find_3 (by decide)
theorem e_X3_find_5 : ev X d 106 5 L (.int b :: .int a :: st) h = if b ≤ a then ev X d 106 21 L st h else ev X d 106 8 L st h := g_icmp_ge dX3_find_5 (by decide)
theorem e_X3_find_8 : ev X d 106 8 (some (va_rf r) :: L) st h = ev X d 106 9 (some (va_rf r) :: L) (va_rf r :: st) h := g_aload_n dX3_find_8 rfl
theorem e_X3_find_9 : ev X d 106 9 L (va_rf (some q) :: st) h = (I_getf X h q 3 15).bind (fun v => ev X d 106 12 L (v :: st) h) := g_get dX3_find_9 (by decide)
theorem e_X3_find_12 : ev X d 106 12 (x0 :: x1 :: x2 :: some (.int a) :: L) st h = ev X d 106 13 (x0 :: x1 :: x2 :: some (.int a) :: L) (.int a :: st) h := g_iload_n dX3_find_12 rfl
theorem e_X3_find_13 : ev X d 106 13 L st h = ev X d 106 14 L (.int 0 :: st) h := g_iconst dX3_find_13 (by decide)
theorem e_X3_find_14 : ev X d 106 14 L (.int v :: .int i :: va_rf (some q) :: st) h = (I_asti X h 0 q i v).bind (fun h => ev X d 106 15 L st h) := g_iast dX3_find_14
theorem e_X3_find_15 (hx : I_c2 x2 = false) : ev X d 106 15 (x0 :: x1 :: x2 :: some (.int a) :: L) st h = ev X d 106 18 (x0 :: x1 :: x2 :: some (.int (a + 1)) :: L) st h := g_iinc dX3_find_15 (by decide) rfl (I_st1_3 hx)
theorem e_X3_find_18 : ev X d 106 18 L st h = ev X d 106 2 L st h := g_goto dX3_find_18 (by decide)
theorem e_X3_find_21 : ev X d 106 21 (some (va_rf r) :: L) st h = ev X d 106 22 (some (va_rf r) :: L) (va_rf r :: st) h := g_aload_n dX3_find_21 rfl
theorem e_X3_find_22 : ev X d 106 22 L st h = ev X d 106 23 L (.int 0 :: st) h := g_iconst dX3_find_22 (by decide)
theorem e_X3_find_23 : ev X d 106 23 L (.int a :: va_rf (some q) :: st) h = (I_putf X h q 3 18 (.int a)).bind (fun h => ev X d 106 26 L st h) := g_put dX3_find_23 (by decide) (by first | rfl | decide)
theorem e_X3_find_26 : ev X d 106 26 (some (va_rf r) :: L) st h = ev X d 106 27 (some (va_rf r) :: L) (va_rf r :: st) h := g_aload_n dX3_find_26 rfl
theorem e_X3_find_27 : ev X d 106 27 L st h = ev X d 106 28 L (.int 0 :: st) h := g_iconst dX3_find_27 (by decide)
theorem e_X3_find_28 : ev X d 106 28 L (.int a :: va_rf (some q) :: st) h = (I_putf X h q 3 19 (.int a)).bind (fun h => ev X d 106 31 L st h) := g_put dX3_find_28 (by decide) (by first | rfl | decide)
theorem e_X3_find_31 : ev X d 106 31 (some (va_rf r) :: L) st h = ev X d 106 32 (some (va_rf r) :: L) (va_rf r :: st) h := g_aload_n dX3_find_31 rfl
theorem e_X3_find_32 : ev X d 106 32 L st h = ev X d 106 33 L (.int (-1) :: st) h := g_iconst dX3_find_32 (by decide)
theorem e_X3_find_33 : ev X d 106 33 L (.int a :: va_rf (some q) :: st) h = (I_putf X h q 3 20 (.int a)).bind (fun h => ev X d 106 36 L st h) := g_put dX3_find_33 (by decide) (by first | rfl | decide)
theorem e_X3_find_36 : ev X d 106 36 (some (va_rf r) :: L) st h = ev X d 106 37 (some (va_rf r) :: L) (va_rf r :: st) h := g_aload_n dX3_find_36 rfl
theorem e_X3_find_37 : ev X d 106 37 L st h = ev X d 106 38 L (.int 0 :: st) h := g_iconst dX3_find_37 (by decide)
theorem e_X3_find_38 : ev X d 106 38 (x0 :: some (.int a) :: L) st h = ev X d 106 39 (x0 :: some (.int a) :: L) (.int a :: st) h := g_iload_n dX3_find_38 rfl
theorem e_X3_find_39 : ev X d 106 39 (x0 :: x1 :: some (.int a) :: L) st h = ev X d 106 40 (x0 :: x1 :: some (.int a) :: L) (.int a :: st) h := g_iload_n dX3_find_39 rfl
theorem e_X3_find_40 (hc : I_isC X h q 3 = true) (hs : I_cat st ≤ 8) : ev X (d + 1) 106 40 L (.int a3 :: .int a2 :: .int a1 :: va_rf (some q) :: st) h = (ev X d 105 0 [some (va_rf (some q)), some (.int a1), some (.int a2), some (.int a3)] [] h).bind (fun r => ev X (d + 1) 106 43 L (r.1.toList ++ st) r.2) := g_callV (as := [.int a3, .int a2, .int a1]) dX3_find_40 (by decide) (by decide) I_np_105 rfl (by simp only [List.reverse_cons, List.reverse_nil, List.nil_append, List.cons_append, I_slots_n, I_slots_i, I_slots_d, I_slots_q, List.length_cons, List.length_nil]; decide) (by simp only [I_ent, List.reverse_cons, List.reverse_nil, List.nil_append, List.cons_append, I_slots_n, I_slots_i, I_slots_d, I_slots_q, List.length_cons, List.length_nil]; rfl) rfl hc hs
theorem e_X3_find_43 : ev X d 106 43 L st h = ev X d 106 44 L (.int 0 :: st) h := g_iconst dX3_find_43 (by decide)
theorem e_X3_find_44 (hx : I_c2 x2 = false) : ev X d 106 44 (x0 :: x1 :: x2 :: x3 :: L) (.int a :: st) h = ev X d 106 45 (x0 :: x1 :: x2 :: some (.int a) :: L) st h := g_istore_n dX3_find_44 (I_st1_3 hx)
theorem e_X3_find_45 : ev X d 106 45 (x0 :: x1 :: x2 :: some (.int a) :: L) st h = ev X d 106 46 (x0 :: x1 :: x2 :: some (.int a) :: L) (.int a :: st) h := g_iload_n dX3_find_45 rfl
theorem e_X3_find_46 : ev X d 106 46 L (.int a :: st) h = if a < 0 then ev X d 106 139 L st h else ev X d 106 49 L st h := g_if_lt dX3_find_46 (by decide)
theorem e_X3_find_49 : ev X d 106 49 (some (va_rf r) :: L) st h = ev X d 106 50 (some (va_rf r) :: L) (va_rf r :: st) h := g_aload_n dX3_find_49 rfl
theorem e_X3_find_50 : ev X d 106 50 L (va_rf (some q) :: st) h = (I_getf X h q 3 18).bind (fun v => ev X d 106 53 L (v :: st) h) := g_get dX3_find_50 (by decide)
theorem e_X3_find_53 : ev X d 106 53 L (.int a :: st) h = if a = 0 then ev X d 106 56 L st h else ev X d 106 139 L st h := g_if_ne dX3_find_53 (by decide)
theorem e_X3_find_56 : ev X d 106 56 (some (va_rf r) :: L) st h = ev X d 106 57 (some (va_rf r) :: L) (va_rf r :: st) h := g_aload_n dX3_find_56 rfl
theorem e_X3_find_57 : ev X d 106 57 (x0 :: x1 :: x2 :: some (.int a) :: L) st h = ev X d 106 58 (x0 :: x1 :: x2 :: some (.int a) :: L) (.int a :: st) h := g_iload_n dX3_find_57 rfl
theorem e_X3_find_58 : ev X d 106 58 (x0 :: x1 :: some (.int a) :: L) st h = ev X d 106 59 (x0 :: x1 :: some (.int a) :: L) (.int a :: st) h := g_iload_n dX3_find_58 rfl
theorem e_X3_find_59 (hc : I_isC X h q 3 = true) (hs : I_cat st ≤ 8) : ev X (d + 1) 106 59 L (.int a2 :: .int a1 :: va_rf (some q) :: st) h = (ev X d 104 0 [some (va_rf (some q)), some (.int a1), some (.int a2), none, none, none, none, none, none] [] h).bind (fun r => ev X (d + 1) 106 62 L (r.1.toList ++ st) r.2) := g_callV (as := [.int a2, .int a1]) dX3_find_59 (by decide) (by decide) I_np_104 rfl (by simp only [List.reverse_cons, List.reverse_nil, List.nil_append, List.cons_append, I_slots_n, I_slots_i, I_slots_d, I_slots_q, List.length_cons, List.length_nil]; decide) (by simp only [I_ent, List.reverse_cons, List.reverse_nil, List.nil_append, List.cons_append, I_slots_n, I_slots_i, I_slots_d, I_slots_q, List.length_cons, List.length_nil]; rfl) rfl hc hs
theorem e_X3_find_62 (hx : I_c2 x3 = false) : ev X d 106 62 (x0 :: x1 :: x2 :: x3 :: x4 :: L) (.int a :: st) h = ev X d 106 64 (x0 :: x1 :: x2 :: x3 :: some (.int a) :: L) st h := g_istore dX3_find_62 (I_st1_4 hx)
theorem e_X3_find_64 : ev X d 106 64 (x0 :: x1 :: x2 :: x3 :: some (.int a) :: L) st h = ev X d 106 66 (x0 :: x1 :: x2 :: x3 :: some (.int a) :: L) (.int a :: st) h := g_iload dX3_find_64 rfl
theorem e_X3_find_66 : ev X d 106 66 L (.int a :: st) h = if a < 0 then ev X d 106 83 L st h else ev X d 106 69 L st h := g_if_lt dX3_find_66 (by decide)
theorem e_X3_find_69 (hx : I_c2 x2 = false) : ev X d 106 69 (x0 :: x1 :: x2 :: some (.int a) :: L) st h = ev X d 106 72 (x0 :: x1 :: x2 :: some (.int (a + 1)) :: L) st h := g_iinc dX3_find_69 (by decide) rfl (I_st1_3 hx)
theorem e_X3_find_72 : ev X d 106 72 (some (va_rf r) :: L) st h = ev X d 106 73 (some (va_rf r) :: L) (va_rf r :: st) h := g_aload_n dX3_find_72 rfl
theorem e_X3_find_73 : ev X d 106 73 (x0 :: x1 :: x2 :: some (.int a) :: L) st h = ev X d 106 74 (x0 :: x1 :: x2 :: some (.int a) :: L) (.int a :: st) h := g_iload_n dX3_find_73 rfl
theorem e_X3_find_74 : ev X d 106 74 (x0 :: x1 :: x2 :: x3 :: some (.int a) :: L) st h = ev X d 106 76 (x0 :: x1 :: x2 :: x3 :: some (.int a) :: L) (.int a :: st) h := g_iload dX3_find_74 rfl
theorem e_X3_find_76 : ev X d 106 76 (x0 :: x1 :: some (.int a) :: L) st h = ev X d 106 77 (x0 :: x1 :: some (.int a) :: L) (.int a :: st) h := g_iload_n dX3_find_76 rfl
theorem e_X3_find_77 (hc : I_isC X h q 3 = true) (hs : I_cat st ≤ 8) : ev X (d + 1) 106 77 L (.int a3 :: .int a2 :: .int a1 :: va_rf (some q) :: st) h = (ev X d 105 0 [some (va_rf (some q)), some (.int a1), some (.int a2), some (.int a3)] [] h).bind (fun r => ev X (d + 1) 106 80 L (r.1.toList ++ st) r.2) := g_callV (as := [.int a3, .int a2, .int a1]) dX3_find_77 (by decide) (by decide) I_np_105 rfl (by simp only [List.reverse_cons, List.reverse_nil, List.nil_append, List.cons_append, I_slots_n, I_slots_i, I_slots_d, I_slots_q, List.length_cons, List.length_nil]; decide) (by simp only [I_ent, List.reverse_cons, List.reverse_nil, List.nil_append, List.cons_append, I_slots_n, I_slots_i, I_slots_d, I_slots_q, List.length_cons, List.length_nil]; rfl) rfl hc hs
theorem e_X3_find_80 : ev X d 106 80 L st h = ev X d 106 136 L st h := g_goto dX3_find_80 (by decide)
theorem e_X3_find_83 : ev X d 106 83 (some (va_rf r) :: L) st h = ev X d 106 84 (some (va_rf r) :: L) (va_rf r :: st) h := g_aload_n dX3_find_83 rfl
theorem e_X3_find_84 : ev X d 106 84 L (va_rf (some q) :: st) h = (I_getf X h q 3 18).bind (fun v => ev X d 106 87 L (v :: st) h) := g_get dX3_find_84 (by decide)
theorem e_X3_find_87 : ev X d 106 87 L (.int a :: st) h = if a = 0 then ev X d 106 90 L st h else ev X d 106 136 L st h := g_if_ne dX3_find_87 (by decide)
theorem e_X3_find_90 : ev X d 106 90 (some (va_rf r) :: L) st h = ev X d 106 91 (some (va_rf r) :: L) (va_rf r :: st) h := g_aload_n dX3_find_90 rfl
theorem e_X3_find_91 : ev X d 106 91 (some (va_rf r) :: L) st h = ev X d 106 92 (some (va_rf r) :: L) (va_rf r :: st) h := g_aload_n dX3_find_91 rfl
theorem e_X3_find_92 : ev X d 106 92 L (va_rf (some q) :: st) h = (I_getf X h q 3 13).bind (fun v => ev X d 106 95 L (v :: st) h) := g_get dX3_find_92 (by decide)
theorem e_X3_find_95 : ev X d 106 95 (x0 :: x1 :: x2 :: some (.int a) :: L) st h = ev X d 106 96 (x0 :: x1 :: x2 :: some (.int a) :: L) (.int a :: st) h := g_iload_n dX3_find_95 rfl
theorem e_X3_find_96 : ev X d 106 96 L (.int i :: va_rf (some q) :: st) h = (I_aldi X h 0 q i).bind (fun v => ev X d 106 97 L (.int v :: st) h) := g_iald dX3_find_96 (by decide)
theorem e_X3_find_97 : ev X d 106 97 L (.int a :: va_rf (some q) :: st) h = (I_putf X h q 3 20 (.int a)).bind (fun h => ev X d 106 100 L st h) := g_put dX3_find_97 (by decide) (by first | rfl | decide)
theorem e_X3_find_100 : ev X d 106 100 (some (va_rf r) :: L) st h = ev X d 106 101 (some (va_rf r) :: L) (va_rf r :: st) h := g_aload_n dX3_find_100 rfl
theorem e_X3_find_101 : ev X d 106 101 L (va_rf (some q) :: st) h = (I_getf X h q 3 15).bind (fun v => ev X d 106 104 L (v :: st) h) := g_get dX3_find_101 (by decide)
theorem e_X3_find_104 : ev X d 106 104 (some (va_rf r) :: L) st h = ev X d 106 105 (some (va_rf r) :: L) (va_rf r :: st) h := g_aload_n dX3_find_104 rfl
theorem e_X3_find_105 : ev X d 106 105 L (va_rf (some q) :: st) h = (I_getf X h q 3 20).bind (fun v => ev X d 106 108 L (v :: st) h) := g_get dX3_find_105 (by decide)
theorem e_X3_find_108 : ev X d 106 108 L st h = ev X d 106 109 L (.int 2 :: st) h := g_iconst dX3_find_108 (by decide)
theorem e_X3_find_109 : ev X d 106 109 L (.int v :: .int i :: va_rf (some q) :: st) h = (I_asti X h 0 q i v).bind (fun h => ev X d 106 110 L st h) := g_iast dX3_find_109
theorem e_X3_find_110 : ev X d 106 110 (some (va_rf r) :: L) st h = ev X d 106 111 (some (va_rf r) :: L) (va_rf r :: st) h := g_aload_n dX3_find_110 rfl
theorem e_X3_find_111 : ev X d 106 111 L (va_rf (some q) :: st) h = (I_getf X h q 3 17).bind (fun v => ev X d 106 114 L (v :: st) h) := g_get dX3_find_111 (by decide)
theorem e_X3_find_114 : ev X d 106 114 (some (va_rf r) :: L) st h = ev X d 106 115 (some (va_rf r) :: L) (va_rf r :: st) h := g_aload_n dX3_find_114 rfl
theorem e_X3_find_115 : ev X d 106 115 L (va_rf (some q) :: st) h = (I_getf X h q 3 20).bind (fun v => ev X d 106 118 L (v :: st) h) := g_get dX3_find_115 (by decide)
theorem e_X3_find_118 : ev X d 106 118 (some (va_rf r) :: L) st h = ev X d 106 119 (some (va_rf r) :: L) (va_rf r :: st) h := g_aload_n dX3_find_118 rfl
theorem e_X3_find_119 : ev X d 106 119 L (va_rf (some q) :: st) h = (I_getf X h q 3 19).bind (fun v => ev X d 106 122 L (v :: st) h) := g_get dX3_find_119 (by decide)
theorem e_X3_find_122 : ev X d 106 122 (some (va_rf r) :: L) st h = ev X d 106 123 (some (va_rf r) :: L) (va_rf r :: st) h := g_aload_n dX3_find_122 rfl
theorem e_X3_find_123 : ev X d 106 123 L (va_rf (some q) :: st) h = (I_getf X h q 3 17).bind (fun v => ev X d 106 126 L (v :: st) h) := g_get dX3_find_123 (by decide)
theorem e_X3_find_126 : ev X d 106 126 (some (va_rf r) :: L) st h = ev X d 106 127 (some (va_rf r) :: L) (va_rf r :: st) h := g_aload_n dX3_find_126 rfl
theorem e_X3_find_127 : ev X d 106 127 L (va_rf (some q) :: st) h = (I_getf X h q 3 20).bind (fun v => ev X d 106 130 L (v :: st) h) := g_get dX3_find_127 (by decide)
theorem e_X3_find_130 : ev X d 106 130 L (.int i :: va_rf (some q) :: st) h = (I_aldi X h 0 q i).bind (fun v => ev X d 106 131 L (.int v :: st) h) := g_iald dX3_find_130 (by decide)
theorem e_X3_find_131 : ev X d 106 131 L (.int b :: .int a :: st) h = ev X d 106 132 L (.int (a - b) :: st) h := g_isub dX3_find_131
theorem e_X3_find_132 : ev X d 106 132 L (.int v :: .int i :: va_rf (some q) :: st) h = (I_asti X h 0 q i v).bind (fun h => ev X d 106 133 L st h) := g_iast dX3_find_132
theorem e_X3_find_133 (hx : I_c2 x2 = false) : ev X d 106 133 (x0 :: x1 :: x2 :: some (.int a) :: L) st h = ev X d 106 136 (x0 :: x1 :: x2 :: some (.int (a + (-1))) :: L) st h := g_iinc dX3_find_133 (by decide) rfl (I_st1_3 hx)
theorem e_X3_find_136 : ev X d 106 136 L st h = ev X d 106 45 L st h := g_goto dX3_find_136 (by decide)
theorem e_X3_find_139 : ev X d 106 139 (x0 :: x1 :: some (.int a) :: L) st h = ev X d 106 140 (x0 :: x1 :: some (.int a) :: L) (.int a :: st) h := g_iload_n dX3_find_139 rfl
theorem e_X3_find_140 : ev X d 106 140 L (.int a :: st) h = if a = 0 then ev X d 106 143 L st h else ev X d 106 151 L st h := g_if_ne dX3_find_140 (by decide)
theorem e_X3_find_143 : ev X d 106 143 (some (va_rf r) :: L) st h = ev X d 106 144 (some (va_rf r) :: L) (va_rf r :: st) h := g_aload_n dX3_find_143 rfl
theorem e_X3_find_144 : ev X d 106 144 (some (va_rf r) :: L) st h = ev X d 106 145 (some (va_rf r) :: L) (va_rf r :: st) h := g_aload_n dX3_find_144 rfl
theorem e_X3_find_145 : ev X d 106 145 L (va_rf (some q) :: st) h = (I_getf X h q 3 19).bind (fun v => ev X d 106 148 L (v :: st) h) := g_get dX3_find_145 (by decide)
theorem e_X3_find_148 : ev X d 106 148 L (.int a :: va_rf (some q) :: st) h = (I_putf X h q 3 12 (.int a)).bind (fun h => ev X d 106 151 L st h) := g_put dX3_find_148 (by decide) (by first | rfl | decide)
theorem e_X3_find_151 : ev X d 106 151 (some (va_rf r) :: L) st h = ev X d 106 152 (some (va_rf r) :: L) (va_rf r :: st) h := g_aload_n dX3_find_151 rfl
theorem e_X3_find_152 : ev X d 106 152 L (va_rf (some q) :: st) h = (I_getf X h q 3 18).bind (fun v => ev X d 106 155 L (v :: st) h) := g_get dX3_find_152 (by decide)
theorem e_X3_find_155 : ev X d 106 155 L (.int a :: st) h = if a = 0 then ev X d 106 158 L st h else ev X d 106 167 L st h := g_if_ne dX3_find_155 (by decide)
theorem e_X3_find_158 : ev X d 106 158 (some (va_rf r) :: L) st h = ev X d 106 159 (some (va_rf r) :: L) (va_rf r :: st) h := g_aload_n dX3_find_158 rfl
theorem e_X3_find_159 : ev X d 106 159 L (va_rf (some q) :: st) h = (I_getf X h q 3 16).bind (fun v => ev X d 106 162 L (v :: st) h) := g_get dX3_find_159 (by decide)
theorem e_X3_find_162 : ev X d 106 162 (x0 :: some (.int a) :: L) st h = ev X d 106 163 (x0 :: some (.int a) :: L) (.int a :: st) h := g_iload_n dX3_find_162 rfl
theorem e_X3_find_163 : ev X d 106 163 L (.int i :: va_rf (some q) :: st) h = (I_aldi X h 0 q i).bind (fun v => ev X d 106 164 L (.int v :: st) h) := g_iald dX3_find_163 (by decide)
theorem e_X3_find_164 : ev X d 106 164 L st h = ev X d 106 175 L st h := g_goto dX3_find_164 (by decide)
theorem e_X3_find_167 : ev X d 106 167 (some (va_rf r) :: L) st h = ev X d 106 168 (some (va_rf r) :: L) (va_rf r :: st) h := g_aload_n dX3_find_167 rfl
theorem e_X3_find_168 : ev X d 106 168 (some (va_rf r) :: L) st h = ev X d 106 169 (some (va_rf r) :: L) (va_rf r :: st) h := g_aload_n dX3_find_168 rfl
theorem e_X3_find_169 : ev X d 106 169 L (va_rf (some q) :: st) h = (I_getf X h q 3 18).bind (fun v => ev X d 106 172 L (v :: st) h) := g_get dX3_find_169 (by decide)
theorem e_X3_find_172 (hc : I_isC X h q 3 = true) (hs : I_cat st ≤ 8) : ev X (d + 1) 106 172 L (.int a1 :: va_rf (some q) :: st) h = (ev X d 70 0 [some (va_rf (some q)), some (.int a1)] [] h).bind (fun r => ev X (d + 1) 106 175 L (r.1.toList ++ st) r.2) := g_callV (as := [.int a1]) dX3_find_172 (by decide) (by decide) I_np_70 rfl (by simp only [List.reverse_cons, List.reverse_nil, List.nil_append, List.cons_append, I_slots_n, I_slots_i, I_slots_d, I_slots_q, List.length_cons, List.length_nil]; decide) (by simp only [I_ent, List.reverse_cons, List.reverse_nil, List.nil_append, List.cons_append, I_slots_n, I_slots_i, I_slots_d, I_slots_q, List.length_cons, List.length_nil]; rfl) rfl hc hs
theorem e_X3_find_175 : ev X d 106 175 L [.int a] h = some (some (.int a), h) := g_iret dX3_find_175 rfl
theorem e_X3_total_0 : ev X d 107 0 (some (va_rf r) :: L) st h = ev X d 107 1 (some (va_rf r) :: L) (va_rf r :: st) h := g_aload_n dX3_total_0 rfl
theorem e_X3_total_1 : ev X d 107 1 (x0 :: some (.int a) :: L) st h = ev X d 107 2 (x0 :: some (.int a) :: L) (.int a :: st) h := g_iload_n dX3_total_1 rfl
theorem e_X3_total_2 (hc : I_isC X h q 3 = true) (hs : I_cat st ≤ 8) : ev X (d + 1) 107 2 L (.int a1 :: va_rf (some q) :: st) h = (ev X d 71 0 [some (va_rf (some q)), some (.int a1)] [] h).bind (fun r => ev X (d + 1) 107 5 L (r.1.toList ++ st) r.2) := g_callV (as := [.int a1]) dX3_total_2 (by decide) (by decide) I_np_71 rfl (by simp only [List.reverse_cons, List.reverse_nil, List.nil_append, List.cons_append, I_slots_n, I_slots_i, I_slots_d, I_slots_q, List.length_cons, List.length_nil]; decide) (by simp only [I_ent, List.reverse_cons, List.reverse_nil, List.nil_append, List.cons_append, I_slots_n, I_slots_i, I_slots_d, I_slots_q, List.length_cons, List.length_nil]; rfl) rfl hc hs
theorem e_X3_total_5 : ev X d 107 5 L (.int a :: st) h = if a = 0 then ev X d 107 17 L st h else ev X d 107 8 L st h := g_if_eq dX3_total_5 (by decide)
theorem e_X3_total_8 : ev X d 107 8 (some (va_rf r) :: L) st h = ev X d 107 9 (some (va_rf r) :: L) (va_rf r :: st) h := g_aload_n dX3_total_8 rfl
theorem e_X3_total_9 : ev X d 107 9 (x0 :: some (.int a) :: L) st h = ev X d 107 10 (x0 :: some (.int a) :: L) (.int a :: st) h := g_iload_n dX3_total_9 rfl
theorem e_X3_total_10 : ev X d 107 10 L st h = ev X d 107 11 L (.int 0 :: st) h := g_iconst dX3_total_10 (by decide)
theorem e_X3_total_11 (hc : I_isC X h q 3 = true) (hs : I_cat st ≤ 8) : ev X (d + 1) 107 11 L (.int a2 :: .int a1 :: va_rf (some q) :: st) h = (ev X d 106 0 [some (va_rf (some q)), some (.int a1), some (.int a2), none, none] [] h).bind (fun r => ev X (d + 1) 107 14 L (r.1.toList ++ st) r.2) := g_callV (as := [.int a2, .int a1]) dX3_total_11 (by decide) (by decide) I_np_106 rfl (by simp only [List.reverse_cons, List.reverse_nil, List.nil_append, List.cons_append, I_slots_n, I_slots_i, I_slots_d, I_slots_q, List.length_cons, List.length_nil]; decide) (by simp only [I_ent, List.reverse_cons, List.reverse_nil, List.nil_append, List.cons_append, I_slots_n, I_slots_i, I_slots_d, I_slots_q, List.length_cons, List.length_nil]; rfl) rfl hc hs
theorem e_X3_total_14 : ev X d 107 14 L st h = ev X d 107 19 L st h := g_goto dX3_total_14 (by decide)
theorem e_X3_total_17 : ev X d 107 17 L st h = ev X d 107 19 L (.int (-1000001) :: st) h := g_ldc dX3_total_17 (by decide)
theorem e_X3_total_19 : ev X d 107 19 L [.int a] h = some (some (.int a), h) := g_iret dX3_total_19 rfl
theorem e_X3_entered_0 : ev X d 108 0 (some (va_rf r) :: L) st h = ev X d 108 1 (some (va_rf r) :: L) (va_rf r :: st) h := g_aload_n dX3_entered_0 rfl
theorem e_X3_entered_1 : ev X d 108 1 L (va_rf (some q) :: st) h = (I_getf X h q 3 12).bind (fun v => ev X d 108 4 L (v :: st) h) := g_get dX3_entered_1 (by decide)
theorem e_X3_entered_4 : ev X d 108 4 L [.int a] h = some (some (.int a), h) := g_iret dX3_entered_4 rfl
theorem e_X3_deep_0 : ev X d 109 0 (some (va_rf r) :: L) st h = ev X d 109 1 (some (va_rf r) :: L) (va_rf r :: st) h := g_aload_n dX3_deep_0 rfl
theorem e_X3_deep_1 : ev X d 109 1 (x0 :: some (.int a) :: L) st h = ev X d 109 2 (x0 :: some (.int a) :: L) (.int a :: st) h := g_iload_n dX3_deep_1 rfl
theorem e_X3_deep_2 (hc : I_isC X h q 3 = true) (hs : I_cat st ≤ 8) : ev X (d + 1) 109 2 L (.int a1 :: va_rf (some q) :: st) h = (ev X d 71 0 [some (va_rf (some q)), some (.int a1)] [] h).bind (fun r => ev X (d + 1) 109 5 L (r.1.toList ++ st) r.2) := g_callV (as := [.int a1]) dX3_deep_2 (by decide) (by decide) I_np_71 rfl (by simp only [List.reverse_cons, List.reverse_nil, List.nil_append, List.cons_append, I_slots_n, I_slots_i, I_slots_d, I_slots_q, List.length_cons, List.length_nil]; decide) (by simp only [I_ent, List.reverse_cons, List.reverse_nil, List.nil_append, List.cons_append, I_slots_n, I_slots_i, I_slots_d, I_slots_q, List.length_cons, List.length_nil]; rfl) rfl hc hs
theorem e_X3_deep_5 : ev X d 109 5 L (.int a :: st) h = if a = 0 then ev X d 109 17 L st h else ev X d 109 8 L st h := g_if_eq dX3_deep_5 (by decide)
theorem e_X3_deep_8 : ev X d 109 8 (some (va_rf r) :: L) st h = ev X d 109 9 (some (va_rf r) :: L) (va_rf r :: st) h := g_aload_n dX3_deep_8 rfl
theorem e_X3_deep_9 : ev X d 109 9 (x0 :: some (.int a) :: L) st h = ev X d 109 10 (x0 :: some (.int a) :: L) (.int a :: st) h := g_iload_n dX3_deep_9 rfl
theorem e_X3_deep_10 : ev X d 109 10 L st h = ev X d 109 11 L (.int 1 :: st) h := g_iconst dX3_deep_10 (by decide)
theorem e_X3_deep_11 (hc : I_isC X h q 3 = true) (hs : I_cat st ≤ 8) : ev X (d + 1) 109 11 L (.int a2 :: .int a1 :: va_rf (some q) :: st) h = (ev X d 106 0 [some (va_rf (some q)), some (.int a1), some (.int a2), none, none] [] h).bind (fun r => ev X (d + 1) 109 14 L (r.1.toList ++ st) r.2) := g_callV (as := [.int a2, .int a1]) dX3_deep_11 (by decide) (by decide) I_np_106 rfl (by simp only [List.reverse_cons, List.reverse_nil, List.nil_append, List.cons_append, I_slots_n, I_slots_i, I_slots_d, I_slots_q, List.length_cons, List.length_nil]; decide) (by simp only [I_ent, List.reverse_cons, List.reverse_nil, List.nil_append, List.cons_append, I_slots_n, I_slots_i, I_slots_d, I_slots_q, List.length_cons, List.length_nil]; rfl) rfl hc hs
theorem e_X3_deep_14 : ev X d 109 14 L st h = ev X d 109 19 L st h := g_goto dX3_deep_14 (by decide)
theorem e_X3_deep_17 : ev X d 109 17 L st h = ev X d 109 19 L (.int (-1000001) :: st) h := g_ldc dX3_deep_17 (by decide)
theorem e_X3_deep_19 : ev X d 109 19 L [.int a] h = some (some (.int a), h) := g_iret dX3_deep_19 rfl
theorem e_X3_count_0 : ev X d 110 0 L st h = ev X d 110 1 L (.int 0 :: st) h := g_iconst dX3_count_0 (by decide)
theorem e_X3_count_1 (hx : I_c2 x1 = false) : ev X d 110 1 (x0 :: x1 :: x2 :: L) (.int a :: st) h = ev X d 110 2 (x0 :: x1 :: some (.int a) :: L) st h := g_istore_n dX3_count_1 (I_st1_2 hx)
theorem e_X3_count_2 : ev X d 110 2 L st h = ev X d 110 3 L (.int 0 :: st) h := g_iconst dX3_count_2 (by decide)
theorem e_X3_count_3 (hx : I_c2 x2 = false) : ev X d 110 3 (x0 :: x1 :: x2 :: x3 :: L) (.int a :: st) h = ev X d 110 4 (x0 :: x1 :: x2 :: some (.int a) :: L) st h := g_istore_n dX3_count_3 (I_st1_3 hx)
theorem e_X3_count_4 : ev X d 110 4 L st h = ev X d 110 5 L (.int 0 :: st) h := g_iconst dX3_count_4 (by decide)
theorem e_X3_count_5 (hx : I_c2 x3 = false) : ev X d 110 5 (x0 :: x1 :: x2 :: x3 :: x4 :: L) (.int a :: st) h = ev X d 110 7 (x0 :: x1 :: x2 :: x3 :: some (.int a) :: L) st h := g_istore dX3_count_5 (I_st1_4 hx)
theorem e_X3_count_7 : ev X d 110 7 (x0 :: x1 :: x2 :: x3 :: some (.int a) :: L) st h = ev X d 110 9 (x0 :: x1 :: x2 :: x3 :: some (.int a) :: L) (.int a :: st) h := g_iload dX3_count_7 rfl
theorem e_X3_count_9 : ev X d 110 9 (some (va_rf r) :: L) st h = ev X d 110 10 (some (va_rf r) :: L) (va_rf r :: st) h := g_aload_n dX3_count_9 rfl
theorem e_X3_count_10 : ev X d 110 10 L (va_rf (some q) :: st) h = (I_getf X h q 3 4).bind (fun v => ev X d 110 13 L (v :: st) h) := g_get dX3_count_10 (by decide)
theorem e_X3_count_13 : ev X d 110 13 L (.int b :: .int a :: st) h = if b ≤ a then ev X d 110 30 L st h else ev X d 110 16 L st h := g_icmp_ge dX3_count_13 (by decide)
theorem e_X3_count_16 : ev X d 110 16 (some (va_rf r) :: L) st h = ev X d 110 17 (some (va_rf r) :: L) (va_rf r :: st) h := g_aload_n dX3_count_16 rfl
theorem e_X3_count_17 : ev X d 110 17 L (va_rf (some q) :: st) h = (I_getf X h q 3 9).bind (fun v => ev X d 110 20 L (v :: st) h) := g_get dX3_count_17 (by decide)
theorem e_X3_count_20 : ev X d 110 20 (x0 :: x1 :: x2 :: x3 :: some (.int a) :: L) st h = ev X d 110 22 (x0 :: x1 :: x2 :: x3 :: some (.int a) :: L) (.int a :: st) h := g_iload dX3_count_20 rfl
theorem e_X3_count_22 : ev X d 110 22 L st h = ev X d 110 23 L (.int 0 :: st) h := g_iconst dX3_count_22 (by decide)
theorem e_X3_count_23 : ev X d 110 23 L (.int v :: .int i :: va_rf (some q) :: st) h = (I_asti X h 0 q i v).bind (fun h => ev X d 110 24 L st h) := g_iast dX3_count_23
theorem e_X3_count_24 (hx : I_c2 x3 = false) : ev X d 110 24 (x0 :: x1 :: x2 :: x3 :: some (.int a) :: L) st h = ev X d 110 27 (x0 :: x1 :: x2 :: x3 :: some (.int (a + 1)) :: L) st h := g_iinc dX3_count_24 (by decide) rfl (I_st1_4 hx)
theorem e_X3_count_27 : ev X d 110 27 L st h = ev X d 110 7 L st h := g_goto dX3_count_27 (by decide)
theorem e_X3_count_30 : ev X d 110 30 L st h = ev X d 110 31 L (.int 0 :: st) h := g_iconst dX3_count_30 (by decide)
theorem e_X3_count_31 (hx : I_c2 x3 = false) : ev X d 110 31 (x0 :: x1 :: x2 :: x3 :: x4 :: L) (.int a :: st) h = ev X d 110 33 (x0 :: x1 :: x2 :: x3 :: some (.int a) :: L) st h := g_istore dX3_count_31 (I_st1_4 hx)
theorem e_X3_count_33 : ev X d 110 33 (x0 :: x1 :: x2 :: x3 :: some (.int a) :: L) st h = ev X d 110 35 (x0 :: x1 :: x2 :: x3 :: some (.int a) :: L) (.int a :: st) h := g_iload dX3_count_33 rfl
theorem e_X3_count_35 : ev X d 110 35 (some (va_rf r) :: L) st h = ev X d 110 36 (some (va_rf r) :: L) (va_rf r :: st) h := g_aload_n dX3_count_35 rfl
theorem e_X3_count_36 : ev X d 110 36 L (va_rf (some q) :: st) h = (I_getf X h q 3 0).bind (fun v => ev X d 110 39 L (v :: st) h) := g_get dX3_count_36 (by decide)
theorem e_X3_count_39 : ev X d 110 39 L (.int b :: .int a :: st) h = if b ≤ a then ev X d 110 121 L st h else ev X d 110 42 L st h := g_icmp_ge dX3_count_39 (by decide)
theorem e_X3_count_42 : ev X d 110 42 L st h = ev X d 110 43 L (.int 0 :: st) h := g_iconst dX3_count_42 (by decide)
theorem e_X3_count_43 (hx : I_c2 x4 = false) : ev X d 110 43 (x0 :: x1 :: x2 :: x3 :: x4 :: x5 :: L) (.int a :: st) h = ev X d 110 45 (x0 :: x1 :: x2 :: x3 :: x4 :: some (.int a) :: L) st h := g_istore dX3_count_43 (I_st1_5 hx)
theorem e_X3_count_45 : ev X d 110 45 (x0 :: x1 :: x2 :: x3 :: x4 :: some (.int a) :: L) st h = ev X d 110 47 (x0 :: x1 :: x2 :: x3 :: x4 :: some (.int a) :: L) (.int a :: st) h := g_iload dX3_count_45 rfl
theorem e_X3_count_47 : ev X d 110 47 (some (va_rf r) :: L) st h = ev X d 110 48 (some (va_rf r) :: L) (va_rf r :: st) h := g_aload_n dX3_count_47 rfl
theorem e_X3_count_48 : ev X d 110 48 L (va_rf (some q) :: st) h = (I_getf X h q 3 2).bind (fun v => ev X d 110 51 L (v :: st) h) := g_get dX3_count_48 (by decide)
theorem e_X3_count_51 : ev X d 110 51 (x0 :: x1 :: x2 :: x3 :: some (.int a) :: L) st h = ev X d 110 53 (x0 :: x1 :: x2 :: x3 :: some (.int a) :: L) (.int a :: st) h := g_iload dX3_count_51 rfl
theorem e_X3_count_53 : ev X d 110 53 L (.int i :: va_rf (some q) :: st) h = (I_aldi X h 0 q i).bind (fun v => ev X d 110 54 L (.int v :: st) h) := g_iald dX3_count_53 (by decide)
theorem e_X3_count_54 : ev X d 110 54 L (.int b :: .int a :: st) h = if b ≤ a then ev X d 110 115 L st h else ev X d 110 57 L st h := g_icmp_ge dX3_count_54 (by decide)
theorem e_X3_count_57 : ev X d 110 57 (some (va_rf r) :: L) st h = ev X d 110 58 (some (va_rf r) :: L) (va_rf r :: st) h := g_aload_n dX3_count_57 rfl
theorem e_X3_count_58 : ev X d 110 58 L (va_rf (some q) :: st) h = (I_getf X h q 3 3).bind (fun v => ev X d 110 61 L (v :: st) h) := g_get dX3_count_58 (by decide)
theorem e_X3_count_61 : ev X d 110 61 L st h = ev X d 110 63 L (.int 12 :: st) h := g_bipush dX3_count_61 (by decide)
theorem e_X3_count_63 : ev X d 110 63 (x0 :: x1 :: x2 :: x3 :: some (.int a) :: L) st h = ev X d 110 65 (x0 :: x1 :: x2 :: x3 :: some (.int a) :: L) (.int a :: st) h := g_iload dX3_count_63 rfl
theorem e_X3_count_65 : ev X d 110 65 L (.int b :: .int a :: st) h = ev X d 110 66 L (.int (a * b) :: st) h := g_imul dX3_count_65
theorem e_X3_count_66 : ev X d 110 66 (x0 :: x1 :: x2 :: x3 :: x4 :: some (.int a) :: L) st h = ev X d 110 68 (x0 :: x1 :: x2 :: x3 :: x4 :: some (.int a) :: L) (.int a :: st) h := g_iload dX3_count_66 rfl
theorem e_X3_count_68 : ev X d 110 68 L (.int b :: .int a :: st) h = ev X d 110 69 L (.int (a + b) :: st) h := g_iadd dX3_count_68
theorem e_X3_count_69 : ev X d 110 69 L (.int i :: va_rf (some q) :: st) h = (I_aldi X h 0 q i).bind (fun v => ev X d 110 70 L (.int v :: st) h) := g_iald dX3_count_69 (by decide)
theorem e_X3_count_70 (hx : I_c2 x5 = false) : ev X d 110 70 (x0 :: x1 :: x2 :: x3 :: x4 :: x5 :: x6 :: L) (.int a :: st) h = ev X d 110 72 (x0 :: x1 :: x2 :: x3 :: x4 :: x5 :: some (.int a) :: L) st h := g_istore dX3_count_70 (I_st1_6 hx)
theorem e_X3_count_72 : ev X d 110 72 (x0 :: x1 :: x2 :: x3 :: x4 :: x5 :: some (.int a) :: L) st h = ev X d 110 74 (x0 :: x1 :: x2 :: x3 :: x4 :: x5 :: some (.int a) :: L) (.int a :: st) h := g_iload dX3_count_72 rfl
theorem e_X3_count_74 : ev X d 110 74 L (.int a :: st) h = if 0 ≤ a then ev X d 110 83 L st h else ev X d 110 77 L st h := g_if_ge dX3_count_74 (by decide)
theorem e_X3_count_77 (hx : I_c2 x2 = false) : ev X d 110 77 (x0 :: x1 :: x2 :: some (.int a) :: L) st h = ev X d 110 80 (x0 :: x1 :: x2 :: some (.int (a + 1)) :: L) st h := g_iinc dX3_count_77 (by decide) rfl (I_st1_3 hx)
theorem e_X3_count_80 : ev X d 110 80 L st h = ev X d 110 109 L st h := g_goto dX3_count_80 (by decide)
theorem e_X3_count_83 : ev X d 110 83 (x0 :: x1 :: some (.int a) :: L) st h = ev X d 110 84 (x0 :: x1 :: some (.int a) :: L) (.int a :: st) h := g_iload_n dX3_count_83 rfl
theorem e_X3_count_84 : ev X d 110 84 (some (va_rf r) :: L) st h = ev X d 110 85 (some (va_rf r) :: L) (va_rf r :: st) h := g_aload_n dX3_count_84 rfl
theorem e_X3_count_85 : ev X d 110 85 L (va_rf (some q) :: st) h = (I_getf X h q 3 9).bind (fun v => ev X d 110 88 L (v :: st) h) := g_get dX3_count_85 (by decide)
theorem e_X3_count_88 : ev X d 110 88 (x0 :: x1 :: x2 :: x3 :: x4 :: x5 :: some (.int a) :: L) st h = ev X d 110 90 (x0 :: x1 :: x2 :: x3 :: x4 :: x5 :: some (.int a) :: L) (.int a :: st) h := g_iload dX3_count_88 rfl
theorem e_X3_count_90 : ev X d 110 90 L (.int i :: va_rf (some q) :: st) h = (I_aldi X h 0 q i).bind (fun v => ev X d 110 91 L (.int v :: st) h) := g_iald dX3_count_90 (by decide)
theorem e_X3_count_91 : ev X d 110 91 L (.int a :: st) h = if a = 0 then ev X d 110 94 L st h else ev X d 110 98 L st h := g_if_ne dX3_count_91 (by decide)
theorem e_X3_count_94 : ev X d 110 94 L st h = ev X d 110 95 L (.int 1 :: st) h := g_iconst dX3_count_94 (by decide)
theorem e_X3_count_95 : ev X d 110 95 L st h = ev X d 110 99 L st h := g_goto dX3_count_95 (by decide)
theorem e_X3_count_98 : ev X d 110 98 L st h = ev X d 110 99 L (.int 0 :: st) h := g_iconst dX3_count_98 (by decide)
theorem e_X3_count_99 : ev X d 110 99 L (.int b :: .int a :: st) h = ev X d 110 100 L (.int (a + b) :: st) h := g_iadd dX3_count_99
theorem e_X3_count_100 (hx : I_c2 x1 = false) : ev X d 110 100 (x0 :: x1 :: x2 :: L) (.int a :: st) h = ev X d 110 101 (x0 :: x1 :: some (.int a) :: L) st h := g_istore_n dX3_count_100 (I_st1_2 hx)
theorem e_X3_count_101 : ev X d 110 101 (some (va_rf r) :: L) st h = ev X d 110 102 (some (va_rf r) :: L) (va_rf r :: st) h := g_aload_n dX3_count_101 rfl
theorem e_X3_count_102 : ev X d 110 102 L (va_rf (some q) :: st) h = (I_getf X h q 3 9).bind (fun v => ev X d 110 105 L (v :: st) h) := g_get dX3_count_102 (by decide)
theorem e_X3_count_105 : ev X d 110 105 (x0 :: x1 :: x2 :: x3 :: x4 :: x5 :: some (.int a) :: L) st h = ev X d 110 107 (x0 :: x1 :: x2 :: x3 :: x4 :: x5 :: some (.int a) :: L) (.int a :: st) h := g_iload dX3_count_105 rfl
theorem e_X3_count_107 : ev X d 110 107 L st h = ev X d 110 108 L (.int 1 :: st) h := g_iconst dX3_count_107 (by decide)
theorem e_X3_count_108 : ev X d 110 108 L (.int v :: .int i :: va_rf (some q) :: st) h = (I_asti X h 0 q i v).bind (fun h => ev X d 110 109 L st h) := g_iast dX3_count_108
theorem e_X3_count_109 (hx : I_c2 x4 = false) : ev X d 110 109 (x0 :: x1 :: x2 :: x3 :: x4 :: some (.int a) :: L) st h = ev X d 110 112 (x0 :: x1 :: x2 :: x3 :: x4 :: some (.int (a + 1)) :: L) st h := g_iinc dX3_count_109 (by decide) rfl (I_st1_5 hx)
theorem e_X3_count_112 : ev X d 110 112 L st h = ev X d 110 45 L st h := g_goto dX3_count_112 (by decide)
theorem e_X3_count_115 (hx : I_c2 x3 = false) : ev X d 110 115 (x0 :: x1 :: x2 :: x3 :: some (.int a) :: L) st h = ev X d 110 118 (x0 :: x1 :: x2 :: x3 :: some (.int (a + 1)) :: L) st h := g_iinc dX3_count_115 (by decide) rfl (I_st1_4 hx)
theorem e_X3_count_118 : ev X d 110 118 L st h = ev X d 110 33 L st h := g_goto dX3_count_118 (by decide)
theorem e_X3_count_121 : ev X d 110 121 (x0 :: some (.int a) :: L) st h = ev X d 110 122 (x0 :: some (.int a) :: L) (.int a :: st) h := g_iload_n dX3_count_121 rfl
theorem e_X3_count_122_0 : ev X d 110 122 L (.int 0 :: st) h = ev X d 110 152 L st h := g_tabI (off := 30) dX3_count_122 (by decide) (by decide) (by decide)
theorem e_X3_count_122_1 : ev X d 110 122 L (.int 1 :: st) h = ev X d 110 157 L st h := g_tabI (off := 35) dX3_count_122 (by decide) (by decide) (by decide)
theorem e_X3_count_122_2 : ev X d 110 122 L (.int 2 :: st) h = ev X d 110 159 L st h := g_tabI (off := 37) dX3_count_122 (by decide) (by decide) (by decide)
theorem e_X3_count_122_3 : ev X d 110 122 L (.int 3 :: st) h = ev X d 110 161 L st h := g_tabI (off := 39) dX3_count_122 (by decide) (by decide) (by decide)
theorem e_X3_count_122_d (hx : a.toInt < 0 ∨ 3 < a.toInt) : ev X d 110 122 L (.int a :: st) h = ev X d 110 166 L st h := g_tabO dX3_count_122 hx (by decide)
theorem e_X3_count_152 : ev X d 110 152 (some (va_rf r) :: L) st h = ev X d 110 153 (some (va_rf r) :: L) (va_rf r :: st) h := g_aload_n dX3_count_152 rfl
theorem e_X3_count_153 : ev X d 110 153 L (va_rf (some q) :: st) h = (I_getf X h q 3 0).bind (fun v => ev X d 110 156 L (v :: st) h) := g_get dX3_count_153 (by decide)
theorem e_X3_count_156 : ev X d 110 156 L [.int a] h = some (some (.int a), h) := g_iret dX3_count_156 rfl
theorem e_X3_count_157 : ev X d 110 157 (x0 :: x1 :: some (.int a) :: L) st h = ev X d 110 158 (x0 :: x1 :: some (.int a) :: L) (.int a :: st) h := g_iload_n dX3_count_157 rfl
theorem e_X3_count_158 : ev X d 110 158 L [.int a] h = some (some (.int a), h) := g_iret dX3_count_158 rfl
theorem e_X3_count_159 : ev X d 110 159 (x0 :: x1 :: x2 :: some (.int a) :: L) st h = ev X d 110 160 (x0 :: x1 :: x2 :: some (.int a) :: L) (.int a :: st) h := g_iload_n dX3_count_159 rfl
theorem e_X3_count_160 : ev X d 110 160 L [.int a] h = some (some (.int a), h) := g_iret dX3_count_160 rfl
theorem e_X3_count_161 : ev X d 110 161 (some (va_rf r) :: L) st h = ev X d 110 162 (some (va_rf r) :: L) (va_rf r :: st) h := g_aload_n dX3_count_161 rfl
theorem e_X3_count_162 : ev X d 110 162 L (va_rf (some q) :: st) h = (I_getf X h q 3 8).bind (fun v => ev X d 110 165 L (v :: st) h) := g_get dX3_count_162 (by decide)
theorem e_X3_count_165 : ev X d 110 165 L [.int a] h = some (some (.int a), h) := g_iret dX3_count_165 rfl
theorem e_X3_count_166 : ev X d 110 166 L st h = ev X d 110 168 L (.int (-1000002) :: st) h := g_ldc dX3_count_166 (by decide)
theorem e_X3_count_168 : ev X d 110 168 L [.int a] h = some (some (.int a), h) := g_iret dX3_count_168 rfl
theorem e_X3_clear_0 : ev X d 111 0 (some (va_rf r) :: L) st h = ev X d 111 1 (some (va_rf r) :: L) (va_rf r :: st) h := g_aload_n dX3_clear_0 rfl
theorem e_X3_clear_1 : ev X d 111 1 L (va_rf (some q) :: st) h = (I_getf X h q 3 0).bind (fun v => ev X d 111 4 L (v :: st) h) := g_get dX3_clear_1 (by decide)
theorem e_X3_clear_4 (hx : I_c2 x0 = false) : ev X d 111 4 (x0 :: x1 :: L) (.int a :: st) h = ev X d 111 5 (x0 :: some (.int a) :: L) st h := g_istore_n dX3_clear_4 (I_st1_1 hx)
theorem e_X3_clear_5 : ev X d 111 5 (some (va_rf r) :: L) st h = ev X d 111 6 (some (va_rf r) :: L) (va_rf r :: st) h := g_aload_n dX3_clear_5 rfl
theorem e_X3_clear_6 : ev X d 111 6 L st h = ev X d 111 7 L (.int 0 :: st) h := g_iconst dX3_clear_6 (by decide)
theorem e_X3_clear_7 : ev X d 111 7 L (.int a :: va_rf (some q) :: st) h = (I_putf X h q 3 0 (.int a)).bind (fun h => ev X d 111 10 L st h) := g_put dX3_clear_7 (by decide) (by first | rfl | decide)
theorem e_X3_clear_10 : ev X d 111 10 (some (va_rf r) :: L) st h = ev X d 111 11 (some (va_rf r) :: L) (va_rf r :: st) h := g_aload_n dX3_clear_10 rfl
theorem e_X3_clear_11 : ev X d 111 11 L st h = ev X d 111 12 L (.int 0 :: st) h := g_iconst dX3_clear_11 (by decide)
theorem e_X3_clear_12 : ev X d 111 12 L (.int a :: va_rf (some q) :: st) h = (I_putf X h q 3 4 (.int a)).bind (fun h => ev X d 111 15 L st h) := g_put dX3_clear_12 (by decide) (by first | rfl | decide)
theorem e_X3_clear_15 : ev X d 111 15 (some (va_rf r) :: L) st h = ev X d 111 16 (some (va_rf r) :: L) (va_rf r :: st) h := g_aload_n dX3_clear_15 rfl
theorem e_X3_clear_16 : ev X d 111 16 L st h = ev X d 111 17 L (.int 0 :: st) h := g_iconst dX3_clear_16 (by decide)
theorem e_X3_clear_17 : ev X d 111 17 L (.int a :: va_rf (some q) :: st) h = (I_putf X h q 3 8 (.int a)).bind (fun h => ev X d 111 20 L st h) := g_put dX3_clear_17 (by decide) (by first | rfl | decide)
theorem e_X3_clear_20 : ev X d 111 20 (some (va_rf r) :: L) st h = ev X d 111 21 (some (va_rf r) :: L) (va_rf r :: st) h := g_aload_n dX3_clear_20 rfl
theorem e_X3_clear_21 : ev X d 111 21 L st h = ev X d 111 22 L (.int 0 :: st) h := g_iconst dX3_clear_21 (by decide)
theorem e_X3_clear_22 : ev X d 111 22 L (.int a :: va_rf (some q) :: st) h = (I_putf X h q 3 10 (.int a)).bind (fun h => ev X d 111 25 L st h) := g_put dX3_clear_22 (by decide) (by first | rfl | decide)
theorem e_X3_clear_25 : ev X d 111 25 (some (va_rf r) :: L) st h = ev X d 111 26 (some (va_rf r) :: L) (va_rf r :: st) h := g_aload_n dX3_clear_25 rfl
theorem e_X3_clear_26 : ev X d 111 26 L st h = ev X d 111 27 L (.int 0 :: st) h := g_iconst dX3_clear_26 (by decide)
theorem e_X3_clear_27 : ev X d 111 27 L (.int a :: va_rf (some q) :: st) h = (I_putf X h q 3 12 (.int a)).bind (fun h => ev X d 111 30 L st h) := g_put dX3_clear_27 (by decide) (by first | rfl | decide)
theorem e_X3_clear_30 : ev X d 111 30 (x0 :: some (.int a) :: L) st h = ev X d 111 31 (x0 :: some (.int a) :: L) (.int a :: st) h := g_iload_n dX3_clear_30 rfl
theorem e_X3_clear_31 : ev X d 111 31 L [.int a] h = some (some (.int a), h) := g_iret dX3_clear_31 rfl
end ROWSC
