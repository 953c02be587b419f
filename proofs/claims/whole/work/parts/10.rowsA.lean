section ROWSA
variable {X : I_X} {d : Nat} {L : I_L} {st : List Value} {h : I_H} {a b v i a1 a2 a3 a4 a5 a6 a7 : Int32} {w w1 w2 w3 : UInt64} {l1 l2 : Int64} {r r2 r1 r3 r4 r5 : Option Nat} {q q0 : Nat} {x0 x1 x2 x3 x4 x5 x6 x7 x8 x9 x10 x11 x12 : Option Value}
theorem e_X0_init_0 : ev X d 0 0 (some (va_rf r) :: L) st h = ev X d 0 1 (some (va_rf r) :: L) (va_rf r :: st) h := g_aload_n dX0_init_0 rfl
theorem e_X0_init_1 (hs : I_cat st ≤ 8) : ev X d 0 1 L (va_rf (some q) :: st) h = ev X d 0 4 L st h := g_obj dX0_init_1 (by decide) hs
theorem e_X0_init_4 : ev X d 0 4 (some (va_rf r) :: L) st h = ev X d 0 5 (some (va_rf r) :: L) (va_rf r :: st) h := g_aload_n dX0_init_4 rfl
theorem e_X0_init_5 : ev X d 0 5 (x0 :: some (.int a) :: L) st h = ev X d 0 6 (x0 :: some (.int a) :: L) (.int a :: st) h := g_iload_n dX0_init_5 rfl
theorem e_X0_init_6 : ev X d 0 6 L (.int a :: va_rf (some q) :: st) h = (I_putf X h q 0 0 (.int a)).bind (fun h => ev X d 0 9 L st h) := g_put dX0_init_6 (by decide) (by first | rfl | decide)
theorem e_X0_init_9 : ev X d 0 9 (some (va_rf r) :: L) st h = ev X d 0 10 (some (va_rf r) :: L) (va_rf r :: st) h := g_aload_n dX0_init_9 rfl
theorem e_X0_init_10 : ev X d 0 10 (x0 :: x1 :: some (.int a) :: L) st h = ev X d 0 11 (x0 :: x1 :: some (.int a) :: L) (.int a :: st) h := g_iload_n dX0_init_10 rfl
theorem e_X0_init_11 (hm : I_mk a = true) : ev X d 0 11 L (.int a :: st) h = ev X d 0 13 L (va_rf (some h.1) :: st) (I_new h a.toNatClampNeg (.inl (0, a.toNatClampNeg, .inl (fun _ => 0)))) := g_newa (e := fun n => .inl (0, n, .inl (fun _ => 0))) dX0_init_11 (fun _ => rfl) hm
theorem e_X0_init_13 : ev X d 0 13 L (va_rf (some q0) :: va_rf (some q) :: st) h = (I_putf X h q 0 1 (va_rf (some q0))).bind (fun h => ev X d 0 16 L st h) := g_put dX0_init_13 (by decide) (by first | rfl | decide)
theorem e_X0_init_16 : ev X d 0 16 (some (va_rf r) :: L) st h = ev X d 0 17 (some (va_rf r) :: L) (va_rf r :: st) h := g_aload_n dX0_init_16 rfl
theorem e_X0_init_17 : ev X d 0 17 (x0 :: some (.int a) :: L) st h = ev X d 0 18 (x0 :: some (.int a) :: L) (.int a :: st) h := g_iload_n dX0_init_17 rfl
theorem e_X0_init_18 : ev X d 0 18 L st h = ev X d 0 19 L (.int 2 :: st) h := g_iconst dX0_init_18 (by decide)
theorem e_X0_init_19 : ev X d 0 19 L (.int b :: .int a :: st) h = if a = b then ev X d 0 22 L st h else ev X d 0 26 L st h := g_icmp_ne dX0_init_19 (by decide)
theorem e_X0_init_22 : ev X d 0 22 (x0 :: x1 :: some (.int a) :: L) st h = ev X d 0 23 (x0 :: x1 :: some (.int a) :: L) (.int a :: st) h := g_iload_n dX0_init_22 rfl
theorem e_X0_init_23 : ev X d 0 23 L st h = ev X d 0 27 L st h := g_goto dX0_init_23 (by decide)
theorem e_X0_init_26 : ev X d 0 26 L st h = ev X d 0 27 L (.int 0 :: st) h := g_iconst dX0_init_26 (by decide)
theorem e_X0_init_27 (hm : I_mk a = true) : ev X d 0 27 L (.int a :: st) h = ev X d 0 29 L (va_rf (some h.1) :: st) (I_new h a.toNatClampNeg (.inl (1, a.toNatClampNeg, .inr (.inr (.inr (.inl (fun _ => 0))))))) := g_newa (e := fun n => .inl (1, n, .inr (.inr (.inr (.inl (fun _ => 0)))))) dX0_init_27 (fun _ => rfl) hm
theorem e_X0_init_29 : ev X d 0 29 L (va_rf (some q0) :: va_rf (some q) :: st) h = (I_putf X h q 0 2 (va_rf (some q0))).bind (fun h => ev X d 0 32 L st h) := g_put dX0_init_29 (by decide) (by first | rfl | decide)
theorem e_X0_init_32 : ev X d 0 32 (x0 :: some (.int a) :: L) st h = ev X d 0 33 (x0 :: some (.int a) :: L) (.int a :: st) h := g_iload_n dX0_init_32 rfl
theorem e_X0_init_33 : ev X d 0 33 L st h = ev X d 0 34 L (.int 3 :: st) h := g_iconst dX0_init_33 (by decide)
theorem e_X0_init_34 : ev X d 0 34 L (.int b :: .int a :: st) h = if a = b then ev X d 0 37 L st h else ev X d 0 46 L st h := g_icmp_ne dX0_init_34 (by decide)
theorem e_X0_init_37 : ev X d 0 37 (some (va_rf r) :: L) st h = ev X d 0 38 (some (va_rf r) :: L) (va_rf r :: st) h := g_aload_n dX0_init_37 rfl
theorem e_X0_init_38 : ev X d 0 38 L (va_rf (some q) :: st) h = (I_getf X h q 0 1).bind (fun v => ev X d 0 41 L (v :: st) h) := g_get dX0_init_38 (by decide)
theorem e_X0_init_41 : ev X d 0 41 L st h = ev X d 0 43 L (.int (-1000009) :: st) h := g_ldc dX0_init_41 (by decide)
theorem e_X0_init_43 (hs : I_cat st ≤ 8) : ev X (d + 1) 0 43 L (.int a1 :: va_rf r1 :: st) h = (ev X d 112 0 [some (va_rf r1), some (.int a1), none, none] [] h).bind (fun r => ev X (d + 1) 0 46 L (r.1.toList ++ st) r.2) := g_callS (as := [.int a1, va_rf r1]) dX0_init_43 (by decide) (by decide) I_np_112 rfl (by simp only [List.reverse_cons, List.reverse_nil, List.nil_append, List.cons_append, I_slots_n, I_slots_i, I_slots_d, I_slots_q, List.length_cons, List.length_nil]; decide) (by simp only [I_ent, List.reverse_cons, List.reverse_nil, List.nil_append, List.cons_append, I_slots_n, I_slots_i, I_slots_d, I_slots_q, List.length_cons, List.length_nil]; rfl) rfl hs
theorem e_X0_init_46 : ev X d 0 46 L [] h = some (none, h) := g_vret dX0_init_46 rfl
theorem e_X0_length_0 : ev X d 1 0 (some (va_rf r) :: L) st h = ev X d 1 1 (some (va_rf r) :: L) (va_rf r :: st) h := g_aload_n dX0_length_0 rfl
theorem e_X0_length_1 : ev X d 1 1 L (va_rf (some q) :: st) h = (I_getf X h q 0 1).bind (fun v => ev X d 1 4 L (v :: st) h) := g_get dX0_length_1 (by decide)
theorem e_X0_length_4 : ev X d 1 4 L (va_rf (some q) :: st) h = (I_alen X h q).bind (fun v => ev X d 1 5 L (.int v :: st) h) := g_alen dX0_length_4 (by decide)
theorem e_X0_length_5 : ev X d 1 5 L [.int a] h = some (some (.int a), h) := g_iret dX0_length_5 rfl
theorem e_X0_hasCells_0 : ev X d 2 0 (x0 :: some (.int a) :: L) st h = ev X d 2 1 (x0 :: some (.int a) :: L) (.int a :: st) h := g_iload_n dX0_hasCells_0 rfl
theorem e_X0_hasCells_1 : ev X d 2 1 L (.int a :: st) h = if a < 0 then ev X d 2 23 L st h else ev X d 2 4 L st h := g_if_lt dX0_hasCells_1 (by decide)
theorem e_X0_hasCells_4 : ev X d 2 4 (x0 :: x1 :: some (.int a) :: L) st h = ev X d 2 5 (x0 :: x1 :: some (.int a) :: L) (.int a :: st) h := g_iload_n dX0_hasCells_4 rfl
theorem e_X0_hasCells_5 : ev X d 2 5 L (.int a :: st) h = if a < 0 then ev X d 2 23 L st h else ev X d 2 8 L st h := g_if_lt dX0_hasCells_5 (by decide)
theorem e_X0_hasCells_8 : ev X d 2 8 (x0 :: some (.int a) :: L) st h = ev X d 2 9 (x0 :: some (.int a) :: L) (.int a :: st) h := g_iload_n dX0_hasCells_8 rfl
theorem e_X0_hasCells_9 : ev X d 2 9 (some (va_rf r) :: L) st h = ev X d 2 10 (some (va_rf r) :: L) (va_rf r :: st) h := g_aload_n dX0_hasCells_9 rfl
theorem e_X0_hasCells_10 : ev X d 2 10 L (va_rf (some q) :: st) h = (I_getf X h q 0 1).bind (fun v => ev X d 2 13 L (v :: st) h) := g_get dX0_hasCells_10 (by decide)
theorem e_X0_hasCells_13 : ev X d 2 13 L (va_rf (some q) :: st) h = (I_alen X h q).bind (fun v => ev X d 2 14 L (.int v :: st) h) := g_alen dX0_hasCells_13 (by decide)
theorem e_X0_hasCells_14 : ev X d 2 14 (x0 :: x1 :: some (.int a) :: L) st h = ev X d 2 15 (x0 :: x1 :: some (.int a) :: L) (.int a :: st) h := g_iload_n dX0_hasCells_14 rfl
theorem e_X0_hasCells_15 : ev X d 2 15 L (.int b :: .int a :: st) h = ev X d 2 16 L (.int (a - b) :: st) h := g_isub dX0_hasCells_15
theorem e_X0_hasCells_16 : ev X d 2 16 L (.int b :: .int a :: st) h = if b < a then ev X d 2 23 L st h else ev X d 2 19 L st h := g_icmp_gt dX0_hasCells_16 (by decide)
theorem e_X0_hasCells_19 : ev X d 2 19 L st h = ev X d 2 20 L (.int 1 :: st) h := g_iconst dX0_hasCells_19 (by decide)
theorem e_X0_hasCells_20 : ev X d 2 20 L st h = ev X d 2 24 L st h := g_goto dX0_hasCells_20 (by decide)
theorem e_X0_hasCells_23 : ev X d 2 23 L st h = ev X d 2 24 L (.int 0 :: st) h := g_iconst dX0_hasCells_23 (by decide)
theorem e_X0_hasCells_24 (ha : a = 0 ∨ a = 1) : ev X d 2 24 L [.int a] h = some (some (.int a), h) := g_zret dX0_hasCells_24 rfl ha
theorem e_X0_write_0 : ev X d 3 0 (some (va_rf r) :: L) st h = ev X d 3 1 (some (va_rf r) :: L) (va_rf r :: st) h := g_aload_n dX0_write_0 rfl
theorem e_X0_write_1 : ev X d 3 1 L (va_rf (some q) :: st) h = (I_getf X h q 0 0).bind (fun v => ev X d 3 4 L (v :: st) h) := g_get dX0_write_1 (by decide)
theorem e_X0_write_4_0 : ev X d 3 4 L (.int 0 :: st) h = ev X d 3 32 L st h := g_look (off := 28) dX0_write_4 (by decide) (by decide) (by decide)
theorem e_X0_write_4_2 : ev X d 3 4 L (.int 2 :: st) h = ev X d 3 50 L st h := g_look (off := 46) dX0_write_4 (by decide) (by decide) (by decide)
theorem e_X0_write_4_d (h0 : ¬ a = 0) (h1 : ¬ a = 2) : ev X d 3 4 L (.int a :: st) h = ev X d 3 72 L st h := g_look (off := 68) dX0_write_4 (by decide) (by show Op.lookupswitch.offset [(0, 28), (2, 46)] _ _ = _; rw [I_look_d0 a 0 h0 (by decide)]; rw [I_look_d0 a 2 h1 (by decide)]; rfl) (by decide)
theorem e_X0_write_32 : ev X d 3 32 (some (va_rf r) :: L) st h = ev X d 3 33 (some (va_rf r) :: L) (va_rf r :: st) h := g_aload_n dX0_write_32 rfl
theorem e_X0_write_33 : ev X d 3 33 L (va_rf (some q) :: st) h = (I_getf X h q 0 1).bind (fun v => ev X d 3 36 L (v :: st) h) := g_get dX0_write_33 (by decide)
theorem e_X0_write_36 : ev X d 3 36 (x0 :: some (.int a) :: L) st h = ev X d 3 37 (x0 :: some (.int a) :: L) (.int a :: st) h := g_iload_n dX0_write_36 rfl
theorem e_X0_write_37 : ev X d 3 37 (x0 :: x1 :: some (.int a) :: L) st h = ev X d 3 38 (x0 :: x1 :: some (.int a) :: L) (.int a :: st) h := g_iload_n dX0_write_37 rfl
theorem e_X0_write_38 : ev X d 3 38 L (.int a :: st) h = if a = 0 then ev X d 3 45 L st h else ev X d 3 41 L st h := g_if_eq dX0_write_38 (by decide)
theorem e_X0_write_41 : ev X d 3 41 L st h = ev X d 3 42 L (.int 1 :: st) h := g_iconst dX0_write_41 (by decide)
theorem e_X0_write_42 : ev X d 3 42 L st h = ev X d 3 46 L st h := g_goto dX0_write_42 (by decide)
theorem e_X0_write_45 : ev X d 3 45 L st h = ev X d 3 46 L (.int 0 :: st) h := g_iconst dX0_write_45 (by decide)
theorem e_X0_write_46 : ev X d 3 46 L (.int v :: .int i :: va_rf (some q) :: st) h = (I_asti X h 0 q i v).bind (fun h => ev X d 3 47 L st h) := g_iast dX0_write_46
theorem e_X0_write_47 : ev X d 3 47 L st h = ev X d 3 79 L st h := g_goto dX0_write_47 (by decide)
theorem e_X0_write_50 : ev X d 3 50 (some (va_rf r) :: L) st h = ev X d 3 51 (some (va_rf r) :: L) (va_rf r :: st) h := g_aload_n dX0_write_50 rfl
theorem e_X0_write_51 : ev X d 3 51 L (va_rf (some q) :: st) h = (I_getf X h q 0 1).bind (fun v => ev X d 3 54 L (v :: st) h) := g_get dX0_write_51 (by decide)
theorem e_X0_write_54 : ev X d 3 54 (x0 :: some (.int a) :: L) st h = ev X d 3 55 (x0 :: some (.int a) :: L) (.int a :: st) h := g_iload_n dX0_write_54 rfl
theorem e_X0_write_55 : ev X d 3 55 L st h = ev X d 3 56 L (.int 0 :: st) h := g_iconst dX0_write_55 (by decide)
theorem e_X0_write_56 : ev X d 3 56 L (.int v :: .int i :: va_rf (some q) :: st) h = (I_asti X h 0 q i v).bind (fun h => ev X d 3 57 L st h) := g_iast dX0_write_56
theorem e_X0_write_57 : ev X d 3 57 (some (va_rf r) :: L) st h = ev X d 3 58 (some (va_rf r) :: L) (va_rf r :: st) h := g_aload_n dX0_write_57 rfl
theorem e_X0_write_58 : ev X d 3 58 L (va_rf (some q) :: st) h = (I_getf X h q 0 2).bind (fun v => ev X d 3 61 L (v :: st) h) := g_get dX0_write_58 (by decide)
theorem e_X0_write_61 : ev X d 3 61 (x0 :: some (.int a) :: L) st h = ev X d 3 62 (x0 :: some (.int a) :: L) (.int a :: st) h := g_iload_n dX0_write_61 rfl
theorem e_X0_write_62 : ev X d 3 62 (x0 :: x1 :: some (.int a) :: L) st h = ev X d 3 63 (x0 :: x1 :: some (.int a) :: L) (.int a :: st) h := g_iload_n dX0_write_62 rfl
theorem e_X0_write_63 : ev X d 3 63 L (.int a :: st) h = ev X d 3 64 L (.double (FP.i2d a) :: st) h := g_i2d dX0_write_63
theorem e_X0_write_64 : ev X d 3 64 L st h = ev X d 3 67 L (.double 4652007308841189376 :: st) h := g_ldcd dX0_write_64 (by decide)
theorem e_X0_write_67 (hn : I_nan (FP.ddiv w1 w2) = true) : ev X d 3 67 L (.double w2 :: .double w1 :: st) h = ev X d 3 68 L (.double (FP.ddiv w1 w2) :: st) h := g_ddiv dX0_write_67 hn
theorem e_X0_write_68 : ev X d 3 68 L (.double w :: .int i :: va_rf (some q) :: st) h = (I_astd X h q i w).bind (fun h => ev X d 3 69 L st h) := g_dast dX0_write_68
theorem e_X0_write_69 : ev X d 3 69 L st h = ev X d 3 79 L st h := g_goto dX0_write_69 (by decide)
theorem e_X0_write_72 : ev X d 3 72 (some (va_rf r) :: L) st h = ev X d 3 73 (some (va_rf r) :: L) (va_rf r :: st) h := g_aload_n dX0_write_72 rfl
theorem e_X0_write_73 : ev X d 3 73 L (va_rf (some q) :: st) h = (I_getf X h q 0 1).bind (fun v => ev X d 3 76 L (v :: st) h) := g_get dX0_write_73 (by decide)
theorem e_X0_write_76 : ev X d 3 76 (x0 :: some (.int a) :: L) st h = ev X d 3 77 (x0 :: some (.int a) :: L) (.int a :: st) h := g_iload_n dX0_write_76 rfl
theorem e_X0_write_77 : ev X d 3 77 (x0 :: x1 :: some (.int a) :: L) st h = ev X d 3 78 (x0 :: x1 :: some (.int a) :: L) (.int a :: st) h := g_iload_n dX0_write_77 rfl
theorem e_X0_write_78 : ev X d 3 78 L (.int v :: .int i :: va_rf (some q) :: st) h = (I_asti X h 0 q i v).bind (fun h => ev X d 3 79 L st h) := g_iast dX0_write_78
theorem e_X0_write_79 : ev X d 3 79 L [] h = some (none, h) := g_vret dX0_write_79 rfl
theorem e_X0_cut_0 : ev X d 4 0 (some (va_rf r) :: L) st h = ev X d 4 1 (some (va_rf r) :: L) (va_rf r :: st) h := g_aload_n dX0_cut_0 rfl
theorem e_X0_cut_1 : ev X d 4 1 L (va_rf (some q) :: st) h = (I_getf X h q 0 0).bind (fun v => ev X d 4 4 L (v :: st) h) := g_get dX0_cut_1 (by decide)
theorem e_X0_cut_4 : ev X d 4 4 L st h = ev X d 4 5 L (.int 2 :: st) h := g_iconst dX0_cut_4 (by decide)
theorem e_X0_cut_5 : ev X d 4 5 L (.int b :: .int a :: st) h = if a = b then ev X d 4 8 L st h else ev X d 4 18 L st h := g_icmp_ne dX0_cut_5 (by decide)
theorem e_X0_cut_8 : ev X d 4 8 (some (va_rf r) :: L) st h = ev X d 4 9 (some (va_rf r) :: L) (va_rf r :: st) h := g_aload_n dX0_cut_8 rfl
theorem e_X0_cut_9 : ev X d 4 9 L (va_rf (some q) :: st) h = (I_getf X h q 0 2).bind (fun v => ev X d 4 12 L (v :: st) h) := g_get dX0_cut_9 (by decide)
theorem e_X0_cut_12 : ev X d 4 12 (x0 :: some (.int a) :: L) st h = ev X d 4 13 (x0 :: some (.int a) :: L) (.int a :: st) h := g_iload_n dX0_cut_12 rfl
theorem e_X0_cut_13 : ev X d 4 13 L (.int i :: va_rf (some q) :: st) h = (I_aldd X h q i).bind (fun v => ev X d 4 14 L (.double v :: st) h) := g_dald dX0_cut_13
theorem e_X0_cut_14 : ev X d 4 14 L (.double w :: st) h = ev X d 4 15 L (.int (FP.d2i w) :: st) h := g_d2i dX0_cut_14
theorem e_X0_cut_15 : ev X d 4 15 L st h = ev X d 4 24 L st h := g_goto dX0_cut_15 (by decide)
theorem e_X0_cut_18 : ev X d 4 18 (some (va_rf r) :: L) st h = ev X d 4 19 (some (va_rf r) :: L) (va_rf r :: st) h := g_aload_n dX0_cut_18 rfl
theorem e_X0_cut_19 : ev X d 4 19 L (va_rf (some q) :: st) h = (I_getf X h q 0 1).bind (fun v => ev X d 4 22 L (v :: st) h) := g_get dX0_cut_19 (by decide)
theorem e_X0_cut_22 : ev X d 4 22 (x0 :: some (.int a) :: L) st h = ev X d 4 23 (x0 :: some (.int a) :: L) (.int a :: st) h := g_iload_n dX0_cut_22 rfl
theorem e_X0_cut_23 : ev X d 4 23 L (.int i :: va_rf (some q) :: st) h = (I_aldi X h 0 q i).bind (fun v => ev X d 4 24 L (.int v :: st) h) := g_iald dX0_cut_23 (by decide)
theorem e_X0_cut_24 : ev X d 4 24 L [.int a] h = some (some (.int a), h) := g_iret dX0_cut_24 rfl
theorem e_X0_sumOfCells_0 : ev X d 5 0 L st h = ev X d 5 1 L (.int 0 :: st) h := g_iconst dX0_sumOfCells_0 (by decide)
theorem e_X0_sumOfCells_1 (hx : I_c2 x0 = false) : ev X d 5 1 (x0 :: x1 :: L) (.int a :: st) h = ev X d 5 2 (x0 :: some (.int a) :: L) st h := g_istore_n dX0_sumOfCells_1 (I_st1_1 hx)
theorem e_X0_sumOfCells_2 : ev X d 5 2 L st h = ev X d 5 3 L (.int 0 :: st) h := g_iconst dX0_sumOfCells_2 (by decide)
theorem e_X0_sumOfCells_3 (hx : I_c2 x1 = false) : ev X d 5 3 (x0 :: x1 :: x2 :: L) (.int a :: st) h = ev X d 5 4 (x0 :: x1 :: some (.int a) :: L) st h := g_istore_n dX0_sumOfCells_3 (I_st1_2 hx)
theorem e_X0_sumOfCells_4 : ev X d 5 4 (x0 :: x1 :: some (.int a) :: L) st h = ev X d 5 5 (x0 :: x1 :: some (.int a) :: L) (.int a :: st) h := g_iload_n dX0_sumOfCells_4 rfl
theorem e_X0_sumOfCells_5 : ev X d 5 5 (some (va_rf r) :: L) st h = ev X d 5 6 (some (va_rf r) :: L) (va_rf r :: st) h := g_aload_n dX0_sumOfCells_5 rfl
theorem e_X0_sumOfCells_6 : ev X d 5 6 L (va_rf (some q) :: st) h = (I_getf X h q 0 1).bind (fun v => ev X d 5 9 L (v :: st) h) := g_get dX0_sumOfCells_6 (by decide)
theorem e_X0_sumOfCells_9 : ev X d 5 9 L (va_rf (some q) :: st) h = (I_alen X h q).bind (fun v => ev X d 5 10 L (.int v :: st) h) := g_alen dX0_sumOfCells_9 (by decide)
theorem e_X0_sumOfCells_10 : ev X d 5 10 L (.int b :: .int a :: st) h = if b ≤ a then ev X d 5 27 L st h else ev X d 5 13 L st h := g_icmp_ge dX0_sumOfCells_10 (by decide)
theorem e_X0_sumOfCells_13 : ev X d 5 13 (x0 :: some (.int a) :: L) st h = ev X d 5 14 (x0 :: some (.int a) :: L) (.int a :: st) h := g_iload_n dX0_sumOfCells_13 rfl
theorem e_X0_sumOfCells_14 : ev X d 5 14 (some (va_rf r) :: L) st h = ev X d 5 15 (some (va_rf r) :: L) (va_rf r :: st) h := g_aload_n dX0_sumOfCells_14 rfl
theorem e_X0_sumOfCells_15 : ev X d 5 15 (x0 :: x1 :: some (.int a) :: L) st h = ev X d 5 16 (x0 :: x1 :: some (.int a) :: L) (.int a :: st) h := g_iload_n dX0_sumOfCells_15 rfl
theorem e_X0_sumOfCells_16 (hc : I_isC X h q 0 = true) (hs : I_cat st ≤ 8) : ev X (d + 1) 5 16 L (.int a1 :: va_rf (some q) :: st) h = (ev X d 4 0 [some (va_rf (some q)), some (.int a1)] [] h).bind (fun r => ev X (d + 1) 5 19 L (r.1.toList ++ st) r.2) := g_callV (as := [.int a1]) dX0_sumOfCells_16 (by decide) (by decide) I_np_4 rfl (by simp only [List.reverse_cons, List.reverse_nil, List.nil_append, List.cons_append, I_slots_n, I_slots_i, I_slots_d, I_slots_q, List.length_cons, List.length_nil]; decide) (by simp only [I_ent, List.reverse_cons, List.reverse_nil, List.nil_append, List.cons_append, I_slots_n, I_slots_i, I_slots_d, I_slots_q, List.length_cons, List.length_nil]; rfl) rfl hc hs
theorem e_X0_sumOfCells_19 : ev X d 5 19 L (.int b :: .int a :: st) h = ev X d 5 20 L (.int (a + b) :: st) h := g_iadd dX0_sumOfCells_19
theorem e_X0_sumOfCells_20 (hx : I_c2 x0 = false) : ev X d 5 20 (x0 :: x1 :: L) (.int a :: st) h = ev X d 5 21 (x0 :: some (.int a) :: L) st h := g_istore_n dX0_sumOfCells_20 (I_st1_1 hx)
theorem e_X0_sumOfCells_21 (hx : I_c2 x1 = false) : ev X d 5 21 (x0 :: x1 :: some (.int a) :: L) st h = ev X d 5 24 (x0 :: x1 :: some (.int (a + 1)) :: L) st h := g_iinc dX0_sumOfCells_21 (by decide) rfl (I_st1_2 hx)
theorem e_X0_sumOfCells_24 : ev X d 5 24 L st h = ev X d 5 4 L st h := g_goto dX0_sumOfCells_24 (by decide)
theorem e_X0_sumOfCells_27 : ev X d 5 27 (x0 :: some (.int a) :: L) st h = ev X d 5 28 (x0 :: some (.int a) :: L) (.int a :: st) h := g_iload_n dX0_sumOfCells_27 rfl
theorem e_X0_sumOfCells_28 : ev X d 5 28 L [.int a] h = some (some (.int a), h) := g_iret dX0_sumOfCells_28 rfl
theorem e_X0_isNoNumber_0 : ev X d 6 0 (some (va_rf r) :: L) st h = ev X d 6 1 (some (va_rf r) :: L) (va_rf r :: st) h := g_aload_n dX0_isNoNumber_0 rfl
theorem e_X0_isNoNumber_1 : ev X d 6 1 L (va_rf (some q) :: st) h = (I_getf X h q 0 0).bind (fun v => ev X d 6 4 L (v :: st) h) := g_get dX0_isNoNumber_1 (by decide)
theorem e_X0_isNoNumber_4 : ev X d 6 4 L st h = ev X d 6 5 L (.int 2 :: st) h := g_iconst dX0_isNoNumber_4 (by decide)
theorem e_X0_isNoNumber_5 : ev X d 6 5 L (.int b :: .int a :: st) h = if a = b then ev X d 6 8 L st h else ev X d 6 21 L st h := g_icmp_ne dX0_isNoNumber_5 (by decide)
theorem e_X0_isNoNumber_8 : ev X d 6 8 (some (va_rf r) :: L) st h = ev X d 6 9 (some (va_rf r) :: L) (va_rf r :: st) h := g_aload_n dX0_isNoNumber_8 rfl
theorem e_X0_isNoNumber_9 : ev X d 6 9 L (va_rf (some q) :: st) h = (I_getf X h q 0 1).bind (fun v => ev X d 6 12 L (v :: st) h) := g_get dX0_isNoNumber_9 (by decide)
theorem e_X0_isNoNumber_12 : ev X d 6 12 (x0 :: some (.int a) :: L) st h = ev X d 6 13 (x0 :: some (.int a) :: L) (.int a :: st) h := g_iload_n dX0_isNoNumber_12 rfl
theorem e_X0_isNoNumber_13 : ev X d 6 13 L (.int i :: va_rf (some q) :: st) h = (I_aldi X h 0 q i).bind (fun v => ev X d 6 14 L (.int v :: st) h) := g_iald dX0_isNoNumber_13 (by decide)
theorem e_X0_isNoNumber_14 : ev X d 6 14 L (.int a :: st) h = if a = 0 then ev X d 6 21 L st h else ev X d 6 17 L st h := g_if_eq dX0_isNoNumber_14 (by decide)
theorem e_X0_isNoNumber_17 : ev X d 6 17 L st h = ev X d 6 18 L (.int 1 :: st) h := g_iconst dX0_isNoNumber_17 (by decide)
theorem e_X0_isNoNumber_18 : ev X d 6 18 L st h = ev X d 6 22 L st h := g_goto dX0_isNoNumber_18 (by decide)
theorem e_X0_isNoNumber_21 : ev X d 6 21 L st h = ev X d 6 22 L (.int 0 :: st) h := g_iconst dX0_isNoNumber_21 (by decide)
theorem e_X0_isNoNumber_22 (ha : a = 0 ∨ a = 1) : ev X d 6 22 L [.int a] h = some (some (.int a), h) := g_zret dX0_isNoNumber_22 rfl ha
theorem e_X0_markNoNumber_0 : ev X d 7 0 (some (va_rf r) :: L) st h = ev X d 7 1 (some (va_rf r) :: L) (va_rf r :: st) h := g_aload_n dX0_markNoNumber_0 rfl
theorem e_X0_markNoNumber_1 : ev X d 7 1 L (va_rf (some q) :: st) h = (I_getf X h q 0 1).bind (fun v => ev X d 7 4 L (v :: st) h) := g_get dX0_markNoNumber_1 (by decide)
theorem e_X0_markNoNumber_4 : ev X d 7 4 (x0 :: some (.int a) :: L) st h = ev X d 7 5 (x0 :: some (.int a) :: L) (.int a :: st) h := g_iload_n dX0_markNoNumber_4 rfl
theorem e_X0_markNoNumber_5 : ev X d 7 5 L st h = ev X d 7 6 L (.int 1 :: st) h := g_iconst dX0_markNoNumber_5 (by decide)
theorem e_X0_markNoNumber_6 : ev X d 7 6 L (.int v :: .int i :: va_rf (some q) :: st) h = (I_asti X h 0 q i v).bind (fun h => ev X d 7 7 L st h) := g_iast dX0_markNoNumber_6
theorem e_X0_markNoNumber_7 : ev X d 7 7 (some (va_rf r) :: L) st h = ev X d 7 8 (some (va_rf r) :: L) (va_rf r :: st) h := g_aload_n dX0_markNoNumber_7 rfl
theorem e_X0_markNoNumber_8 : ev X d 7 8 L (va_rf (some q) :: st) h = (I_getf X h q 0 2).bind (fun v => ev X d 7 11 L (v :: st) h) := g_get dX0_markNoNumber_8 (by decide)
theorem e_X0_markNoNumber_11 : ev X d 7 11 (x0 :: some (.int a) :: L) st h = ev X d 7 12 (x0 :: some (.int a) :: L) (.int a :: st) h := g_iload_n dX0_markNoNumber_11 rfl
theorem e_X0_markNoNumber_12 : ev X d 7 12 L st h = ev X d 7 13 L (.double 0 :: st) h := g_dconst dX0_markNoNumber_12
theorem e_X0_markNoNumber_13 : ev X d 7 13 L (.double w :: .int i :: va_rf (some q) :: st) h = (I_astd X h q i w).bind (fun h => ev X d 7 14 L st h) := g_dast dX0_markNoNumber_13
theorem e_X0_markNoNumber_14 : ev X d 7 14 L [] h = some (none, h) := g_vret dX0_markNoNumber_14 rfl
theorem e_X0_takeCells_0 : ev X d 8 0 (x0 :: x1 :: some (va_rf r) :: L) st h = ev X d 8 1 (x0 :: x1 :: some (va_rf r) :: L) (va_rf r :: st) h := g_aload_n dX0_takeCells_0 rfl
theorem e_X0_takeCells_1 : ev X d 8 1 L (va_rf (some q) :: st) h = (I_getf X h q 0 1).bind (fun v => ev X d 8 4 L (v :: st) h) := g_get dX0_takeCells_1 (by decide)
theorem e_X0_takeCells_4 : ev X d 8 4 (x0 :: x1 :: x2 :: some (.int a) :: L) st h = ev X d 8 5 (x0 :: x1 :: x2 :: some (.int a) :: L) (.int a :: st) h := g_iload_n dX0_takeCells_4 rfl
theorem e_X0_takeCells_5 : ev X d 8 5 (some (va_rf r) :: L) st h = ev X d 8 6 (some (va_rf r) :: L) (va_rf r :: st) h := g_aload_n dX0_takeCells_5 rfl
theorem e_X0_takeCells_6 : ev X d 8 6 L (va_rf (some q) :: st) h = (I_getf X h q 0 1).bind (fun v => ev X d 8 9 L (v :: st) h) := g_get dX0_takeCells_6 (by decide)
theorem e_X0_takeCells_9 : ev X d 8 9 (x0 :: some (.int a) :: L) st h = ev X d 8 10 (x0 :: some (.int a) :: L) (.int a :: st) h := g_iload_n dX0_takeCells_9 rfl
theorem e_X0_takeCells_10 : ev X d 8 10 (x0 :: x1 :: x2 :: x3 :: some (.int a) :: L) st h = ev X d 8 12 (x0 :: x1 :: x2 :: x3 :: some (.int a) :: L) (.int a :: st) h := g_iload dX0_takeCells_10 rfl
theorem e_X0_takeCells_12 (hs : I_cat st ≤ 8) : ev X d 8 12 L (.int a3 :: .int a2 :: va_rf (some q) :: .int a1 :: va_rf (some q0) :: st) h = (I_copy X h q0 a1 q a2 a3).bind (fun h => ev X d 8 15 L st h) := g_copy dX0_takeCells_12 (by decide) hs
theorem e_X0_takeCells_15 : ev X d 8 15 (some (va_rf r) :: L) st h = ev X d 8 16 (some (va_rf r) :: L) (va_rf r :: st) h := g_aload_n dX0_takeCells_15 rfl
theorem e_X0_takeCells_16 : ev X d 8 16 L (va_rf (some q) :: st) h = (I_getf X h q 0 0).bind (fun v => ev X d 8 19 L (v :: st) h) := g_get dX0_takeCells_16 (by decide)
theorem e_X0_takeCells_19 : ev X d 8 19 L st h = ev X d 8 20 L (.int 2 :: st) h := g_iconst dX0_takeCells_19 (by decide)
theorem e_X0_takeCells_20 : ev X d 8 20 L (.int b :: .int a :: st) h = if a = b then ev X d 8 23 L st h else ev X d 8 38 L st h := g_icmp_ne dX0_takeCells_20 (by decide)
theorem e_X0_takeCells_23 : ev X d 8 23 (x0 :: x1 :: some (va_rf r) :: L) st h = ev X d 8 24 (x0 :: x1 :: some (va_rf r) :: L) (va_rf r :: st) h := g_aload_n dX0_takeCells_23 rfl
theorem e_X0_takeCells_24 : ev X d 8 24 L (va_rf (some q) :: st) h = (I_getf X h q 0 2).bind (fun v => ev X d 8 27 L (v :: st) h) := g_get dX0_takeCells_24 (by decide)
theorem e_X0_takeCells_27 : ev X d 8 27 (x0 :: x1 :: x2 :: some (.int a) :: L) st h = ev X d 8 28 (x0 :: x1 :: x2 :: some (.int a) :: L) (.int a :: st) h := g_iload_n dX0_takeCells_27 rfl
theorem e_X0_takeCells_28 : ev X d 8 28 (some (va_rf r) :: L) st h = ev X d 8 29 (some (va_rf r) :: L) (va_rf r :: st) h := g_aload_n dX0_takeCells_28 rfl
theorem e_X0_takeCells_29 : ev X d 8 29 L (va_rf (some q) :: st) h = (I_getf X h q 0 2).bind (fun v => ev X d 8 32 L (v :: st) h) := g_get dX0_takeCells_29 (by decide)
theorem e_X0_takeCells_32 : ev X d 8 32 (x0 :: some (.int a) :: L) st h = ev X d 8 33 (x0 :: some (.int a) :: L) (.int a :: st) h := g_iload_n dX0_takeCells_32 rfl
theorem e_X0_takeCells_33 : ev X d 8 33 (x0 :: x1 :: x2 :: x3 :: some (.int a) :: L) st h = ev X d 8 35 (x0 :: x1 :: x2 :: x3 :: some (.int a) :: L) (.int a :: st) h := g_iload dX0_takeCells_33 rfl
theorem e_X0_takeCells_35 (hs : I_cat st ≤ 8) : ev X d 8 35 L (.int a3 :: .int a2 :: va_rf (some q) :: .int a1 :: va_rf (some q0) :: st) h = (I_copy X h q0 a1 q a2 a3).bind (fun h => ev X d 8 38 L st h) := g_copy dX0_takeCells_35 (by decide) hs
theorem e_X0_takeCells_38 : ev X d 8 38 L [] h = some (none, h) := g_vret dX0_takeCells_38 rfl
theorem e_X0_hasTheCellsOf_0 : ev X d 9 0 (some (va_rf r) :: L) st h = ev X d 9 1 (some (va_rf r) :: L) (va_rf r :: st) h := g_aload_n dX0_hasTheCellsOf_0 rfl
theorem e_X0_hasTheCellsOf_1 (hc : I_isC X h q 0 = true) (hs : I_cat st ≤ 8) : ev X (d + 1) 9 1 L (va_rf (some q) :: st) h = (ev X d 1 0 [some (va_rf (some q))] [] h).bind (fun r => ev X (d + 1) 9 4 L (r.1.toList ++ st) r.2) := g_callV (as := []) dX0_hasTheCellsOf_1 (by decide) (by decide) I_np_1 rfl (by simp only [List.reverse_cons, List.reverse_nil, List.nil_append, List.cons_append, I_slots_n, I_slots_i, I_slots_d, I_slots_q, List.length_cons, List.length_nil]; decide) (by simp only [I_ent, List.reverse_cons, List.reverse_nil, List.nil_append, List.cons_append, I_slots_n, I_slots_i, I_slots_d, I_slots_q, List.length_cons, List.length_nil]; rfl) rfl hc hs
theorem e_X0_hasTheCellsOf_4 : ev X d 9 4 (x0 :: some (va_rf r) :: L) st h = ev X d 9 5 (x0 :: some (va_rf r) :: L) (va_rf r :: st) h := g_aload_n dX0_hasTheCellsOf_4 rfl
theorem e_X0_hasTheCellsOf_5 (hc : I_isC X h q 0 = true) (hs : I_cat st ≤ 8) : ev X (d + 1) 9 5 L (va_rf (some q) :: st) h = (ev X d 1 0 [some (va_rf (some q))] [] h).bind (fun r => ev X (d + 1) 9 8 L (r.1.toList ++ st) r.2) := g_callV (as := []) dX0_hasTheCellsOf_5 (by decide) (by decide) I_np_1 rfl (by simp only [List.reverse_cons, List.reverse_nil, List.nil_append, List.cons_append, I_slots_n, I_slots_i, I_slots_d, I_slots_q, List.length_cons, List.length_nil]; decide) (by simp only [I_ent, List.reverse_cons, List.reverse_nil, List.nil_append, List.cons_append, I_slots_n, I_slots_i, I_slots_d, I_slots_q, List.length_cons, List.length_nil]; rfl) rfl hc hs
theorem e_X0_hasTheCellsOf_8 : ev X d 9 8 L (.int b :: .int a :: st) h = if a = b then ev X d 9 13 L st h else ev X d 9 11 L st h := g_icmp_eq dX0_hasTheCellsOf_8 (by decide)
theorem e_X0_hasTheCellsOf_11 : ev X d 9 11 L st h = ev X d 9 12 L (.int 0 :: st) h := g_iconst dX0_hasTheCellsOf_11 (by decide)
theorem e_X0_hasTheCellsOf_12 (ha : a = 0 ∨ a = 1) : ev X d 9 12 L [.int a] h = some (some (.int a), h) := g_zret dX0_hasTheCellsOf_12 rfl ha
theorem e_X0_hasTheCellsOf_13 : ev X d 9 13 L st h = ev X d 9 14 L (.int 0 :: st) h := g_iconst dX0_hasTheCellsOf_13 (by decide)
theorem e_X0_hasTheCellsOf_14 (hx : I_c2 x1 = false) : ev X d 9 14 (x0 :: x1 :: x2 :: L) (.int a :: st) h = ev X d 9 15 (x0 :: x1 :: some (.int a) :: L) st h := g_istore_n dX0_hasTheCellsOf_14 (I_st1_2 hx)
theorem e_X0_hasTheCellsOf_15 : ev X d 9 15 (x0 :: x1 :: some (.int a) :: L) st h = ev X d 9 16 (x0 :: x1 :: some (.int a) :: L) (.int a :: st) h := g_iload_n dX0_hasTheCellsOf_15 rfl
theorem e_X0_hasTheCellsOf_16 : ev X d 9 16 (some (va_rf r) :: L) st h = ev X d 9 17 (some (va_rf r) :: L) (va_rf r :: st) h := g_aload_n dX0_hasTheCellsOf_16 rfl
theorem e_X0_hasTheCellsOf_17 (hc : I_isC X h q 0 = true) (hs : I_cat st ≤ 8) : ev X (d + 1) 9 17 L (va_rf (some q) :: st) h = (ev X d 1 0 [some (va_rf (some q))] [] h).bind (fun r => ev X (d + 1) 9 20 L (r.1.toList ++ st) r.2) := g_callV (as := []) dX0_hasTheCellsOf_17 (by decide) (by decide) I_np_1 rfl (by simp only [List.reverse_cons, List.reverse_nil, List.nil_append, List.cons_append, I_slots_n, I_slots_i, I_slots_d, I_slots_q, List.length_cons, List.length_nil]; decide) (by simp only [I_ent, List.reverse_cons, List.reverse_nil, List.nil_append, List.cons_append, I_slots_n, I_slots_i, I_slots_d, I_slots_q, List.length_cons, List.length_nil]; rfl) rfl hc hs
theorem e_X0_hasTheCellsOf_20 : ev X d 9 20 L (.int b :: .int a :: st) h = if b ≤ a then ev X d 9 40 L st h else ev X d 9 23 L st h := g_icmp_ge dX0_hasTheCellsOf_20 (by decide)
theorem e_X0_hasTheCellsOf_23 : ev X d 9 23 (some (va_rf r) :: L) st h = ev X d 9 24 (some (va_rf r) :: L) (va_rf r :: st) h := g_aload_n dX0_hasTheCellsOf_23 rfl
theorem e_X0_hasTheCellsOf_24 : ev X d 9 24 (x0 :: some (va_rf r) :: L) st h = ev X d 9 25 (x0 :: some (va_rf r) :: L) (va_rf r :: st) h := g_aload_n dX0_hasTheCellsOf_24 rfl
theorem e_X0_hasTheCellsOf_25 : ev X d 9 25 (x0 :: x1 :: some (.int a) :: L) st h = ev X d 9 26 (x0 :: x1 :: some (.int a) :: L) (.int a :: st) h := g_iload_n dX0_hasTheCellsOf_25 rfl
theorem e_X0_hasTheCellsOf_26 (hc : I_isC X h q 0 = true) (hs : I_cat st ≤ 8) : ev X (d + 1) 9 26 L (.int a1 :: va_rf r1 :: va_rf (some q) :: st) h = (ev X d 10 0 [some (va_rf (some q)), some (va_rf r1), some (.int a1)] [] h).bind (fun r => ev X (d + 1) 9 29 L (r.1.toList ++ st) r.2) := g_callV (as := [.int a1, va_rf r1]) dX0_hasTheCellsOf_26 (by decide) (by decide) I_np_10 rfl (by simp only [List.reverse_cons, List.reverse_nil, List.nil_append, List.cons_append, I_slots_n, I_slots_i, I_slots_d, I_slots_q, List.length_cons, List.length_nil]; decide) (by simp only [I_ent, List.reverse_cons, List.reverse_nil, List.nil_append, List.cons_append, I_slots_n, I_slots_i, I_slots_d, I_slots_q, List.length_cons, List.length_nil]; rfl) rfl hc hs
theorem e_X0_hasTheCellsOf_29 : ev X d 9 29 L (.int a :: st) h = if a = 0 then ev X d 9 32 L st h else ev X d 9 34 L st h := g_if_ne dX0_hasTheCellsOf_29 (by decide)
theorem e_X0_hasTheCellsOf_32 : ev X d 9 32 L st h = ev X d 9 33 L (.int 0 :: st) h := g_iconst dX0_hasTheCellsOf_32 (by decide)
theorem e_X0_hasTheCellsOf_33 (ha : a = 0 ∨ a = 1) : ev X d 9 33 L [.int a] h = some (some (.int a), h) := g_zret dX0_hasTheCellsOf_33 rfl ha
theorem e_X0_hasTheCellsOf_34 (hx : I_c2 x1 = false) : ev X d 9 34 (x0 :: x1 :: some (.int a) :: L) st h = ev X d 9 37 (x0 :: x1 :: some (.int (a + 1)) :: L) st h := g_iinc dX0_hasTheCellsOf_34 (by decide) rfl (I_st1_2 hx)
theorem e_X0_hasTheCellsOf_37 : ev X d 9 37 L st h = ev X d 9 15 L st h := g_goto dX0_hasTheCellsOf_37 (by decide)
theorem e_X0_hasTheCellsOf_40 : ev X d 9 40 L st h = ev X d 9 41 L (.int 1 :: st) h := g_iconst dX0_hasTheCellsOf_40 (by decide)
theorem e_X0_hasTheCellsOf_41 (ha : a = 0 ∨ a = 1) : ev X d 9 41 L [.int a] h = some (some (.int a), h) := g_zret dX0_hasTheCellsOf_41 rfl ha
theorem e_X0_hasTheCellOf_0 : ev X d 10 0 (some (va_rf r) :: L) st h = ev X d 10 1 (some (va_rf r) :: L) (va_rf r :: st) h := g_aload_n dX0_hasTheCellOf_0 rfl
theorem e_X0_hasTheCellOf_1 : ev X d 10 1 L (va_rf (some q) :: st) h = (I_getf X h q 0 0).bind (fun v => ev X d 10 4 L (v :: st) h) := g_get dX0_hasTheCellOf_1 (by decide)
theorem e_X0_hasTheCellOf_4 : ev X d 10 4 L st h = ev X d 10 5 L (.int 2 :: st) h := g_iconst dX0_hasTheCellOf_4 (by decide)
theorem e_X0_hasTheCellOf_5 : ev X d 10 5 L (.int b :: .int a :: st) h = if a = b then ev X d 10 29 L st h else ev X d 10 8 L st h := g_icmp_eq dX0_hasTheCellOf_5 (by decide)
theorem e_X0_hasTheCellOf_8 : ev X d 10 8 (some (va_rf r) :: L) st h = ev X d 10 9 (some (va_rf r) :: L) (va_rf r :: st) h := g_aload_n dX0_hasTheCellOf_8 rfl
theorem e_X0_hasTheCellOf_9 : ev X d 10 9 L (va_rf (some q) :: st) h = (I_getf X h q 0 1).bind (fun v => ev X d 10 12 L (v :: st) h) := g_get dX0_hasTheCellOf_9 (by decide)
theorem e_X0_hasTheCellOf_12 : ev X d 10 12 (x0 :: x1 :: some (.int a) :: L) st h = ev X d 10 13 (x0 :: x1 :: some (.int a) :: L) (.int a :: st) h := g_iload_n dX0_hasTheCellOf_12 rfl
theorem e_X0_hasTheCellOf_13 : ev X d 10 13 L (.int i :: va_rf (some q) :: st) h = (I_aldi X h 0 q i).bind (fun v => ev X d 10 14 L (.int v :: st) h) := g_iald dX0_hasTheCellOf_13 (by decide)
theorem e_X0_hasTheCellOf_14 : ev X d 10 14 (x0 :: some (va_rf r) :: L) st h = ev X d 10 15 (x0 :: some (va_rf r) :: L) (va_rf r :: st) h := g_aload_n dX0_hasTheCellOf_14 rfl
theorem e_X0_hasTheCellOf_15 : ev X d 10 15 L (va_rf (some q) :: st) h = (I_getf X h q 0 1).bind (fun v => ev X d 10 18 L (v :: st) h) := g_get dX0_hasTheCellOf_15 (by decide)
theorem e_X0_hasTheCellOf_18 : ev X d 10 18 (x0 :: x1 :: some (.int a) :: L) st h = ev X d 10 19 (x0 :: x1 :: some (.int a) :: L) (.int a :: st) h := g_iload_n dX0_hasTheCellOf_18 rfl
theorem e_X0_hasTheCellOf_19 : ev X d 10 19 L (.int i :: va_rf (some q) :: st) h = (I_aldi X h 0 q i).bind (fun v => ev X d 10 20 L (.int v :: st) h) := g_iald dX0_hasTheCellOf_19 (by decide)
theorem e_X0_hasTheCellOf_20 : ev X d 10 20 L (.int b :: .int a :: st) h = if a = b then ev X d 10 23 L st h else ev X d 10 27 L st h := g_icmp_ne dX0_hasTheCellOf_20 (by decide)
theorem e_X0_hasTheCellOf_23 : ev X d 10 23 L st h = ev X d 10 24 L (.int 1 :: st) h := g_iconst dX0_hasTheCellOf_23 (by decide)
theorem e_X0_hasTheCellOf_24 : ev X d 10 24 L st h = ev X d 10 28 L st h := g_goto dX0_hasTheCellOf_24 (by decide)
theorem e_X0_hasTheCellOf_27 : ev X d 10 27 L st h = ev X d 10 28 L (.int 0 :: st) h := g_iconst dX0_hasTheCellOf_27 (by decide)
theorem e_X0_hasTheCellOf_28 (ha : a = 0 ∨ a = 1) : ev X d 10 28 L [.int a] h = some (some (.int a), h) := g_zret dX0_hasTheCellOf_28 rfl ha
theorem e_X0_hasTheCellOf_29 : ev X d 10 29 (some (va_rf r) :: L) st h = ev X d 10 30 (some (va_rf r) :: L) (va_rf r :: st) h := g_aload_n dX0_hasTheCellOf_29 rfl
theorem e_X0_hasTheCellOf_30 : ev X d 10 30 (x0 :: x1 :: some (.int a) :: L) st h = ev X d 10 31 (x0 :: x1 :: some (.int a) :: L) (.int a :: st) h := g_iload_n dX0_hasTheCellOf_30 rfl
theorem e_X0_hasTheCellOf_31 (hc : I_isC X h q 0 = true) (hs : I_cat st ≤ 8) : ev X (d + 1) 10 31 L (.int a1 :: va_rf (some q) :: st) h = (ev X d 6 0 [some (va_rf (some q)), some (.int a1)] [] h).bind (fun r => ev X (d + 1) 10 34 L (r.1.toList ++ st) r.2) := g_callV (as := [.int a1]) dX0_hasTheCellOf_31 (by decide) (by decide) I_np_6 rfl (by simp only [List.reverse_cons, List.reverse_nil, List.nil_append, List.cons_append, I_slots_n, I_slots_i, I_slots_d, I_slots_q, List.length_cons, List.length_nil]; decide) (by simp only [I_ent, List.reverse_cons, List.reverse_nil, List.nil_append, List.cons_append, I_slots_n, I_slots_i, I_slots_d, I_slots_q, List.length_cons, List.length_nil]; rfl) rfl hc hs
theorem e_X0_hasTheCellOf_34 : ev X d 10 34 L (.int a :: st) h = if a = 0 then ev X d 10 37 L st h else ev X d 10 65 L st h := g_if_ne dX0_hasTheCellOf_34 (by decide)
theorem e_X0_hasTheCellOf_37 : ev X d 10 37 (x0 :: some (va_rf r) :: L) st h = ev X d 10 38 (x0 :: some (va_rf r) :: L) (va_rf r :: st) h := g_aload_n dX0_hasTheCellOf_37 rfl
theorem e_X0_hasTheCellOf_38 : ev X d 10 38 (x0 :: x1 :: some (.int a) :: L) st h = ev X d 10 39 (x0 :: x1 :: some (.int a) :: L) (.int a :: st) h := g_iload_n dX0_hasTheCellOf_38 rfl
theorem e_X0_hasTheCellOf_39 (hc : I_isC X h q 0 = true) (hs : I_cat st ≤ 8) : ev X (d + 1) 10 39 L (.int a1 :: va_rf (some q) :: st) h = (ev X d 6 0 [some (va_rf (some q)), some (.int a1)] [] h).bind (fun r => ev X (d + 1) 10 42 L (r.1.toList ++ st) r.2) := g_callV (as := [.int a1]) dX0_hasTheCellOf_39 (by decide) (by decide) I_np_6 rfl (by simp only [List.reverse_cons, List.reverse_nil, List.nil_append, List.cons_append, I_slots_n, I_slots_i, I_slots_d, I_slots_q, List.length_cons, List.length_nil]; decide) (by simp only [I_ent, List.reverse_cons, List.reverse_nil, List.nil_append, List.cons_append, I_slots_n, I_slots_i, I_slots_d, I_slots_q, List.length_cons, List.length_nil]; rfl) rfl hc hs
theorem e_X0_hasTheCellOf_42 : ev X d 10 42 L (.int a :: st) h = if a = 0 then ev X d 10 45 L st h else ev X d 10 65 L st h := g_if_ne dX0_hasTheCellOf_42 (by decide)
theorem e_X0_hasTheCellOf_45 : ev X d 10 45 (some (va_rf r) :: L) st h = ev X d 10 46 (some (va_rf r) :: L) (va_rf r :: st) h := g_aload_n dX0_hasTheCellOf_45 rfl
theorem e_X0_hasTheCellOf_46 : ev X d 10 46 L (va_rf (some q) :: st) h = (I_getf X h q 0 2).bind (fun v => ev X d 10 49 L (v :: st) h) := g_get dX0_hasTheCellOf_46 (by decide)
theorem e_X0_hasTheCellOf_49 : ev X d 10 49 (x0 :: x1 :: some (.int a) :: L) st h = ev X d 10 50 (x0 :: x1 :: some (.int a) :: L) (.int a :: st) h := g_iload_n dX0_hasTheCellOf_49 rfl
theorem e_X0_hasTheCellOf_50 : ev X d 10 50 L (.int i :: va_rf (some q) :: st) h = (I_aldd X h q i).bind (fun v => ev X d 10 51 L (.double v :: st) h) := g_dald dX0_hasTheCellOf_50
theorem e_X0_hasTheCellOf_51 : ev X d 10 51 (x0 :: some (va_rf r) :: L) st h = ev X d 10 52 (x0 :: some (va_rf r) :: L) (va_rf r :: st) h := g_aload_n dX0_hasTheCellOf_51 rfl
theorem e_X0_hasTheCellOf_52 : ev X d 10 52 L (va_rf (some q) :: st) h = (I_getf X h q 0 2).bind (fun v => ev X d 10 55 L (v :: st) h) := g_get dX0_hasTheCellOf_52 (by decide)
theorem e_X0_hasTheCellOf_55 : ev X d 10 55 (x0 :: x1 :: some (.int a) :: L) st h = ev X d 10 56 (x0 :: x1 :: some (.int a) :: L) (.int a :: st) h := g_iload_n dX0_hasTheCellOf_55 rfl
theorem e_X0_hasTheCellOf_56 : ev X d 10 56 L (.int i :: va_rf (some q) :: st) h = (I_aldd X h q i).bind (fun v => ev X d 10 57 L (.double v :: st) h) := g_dald dX0_hasTheCellOf_56
theorem e_X0_hasTheCellOf_57 : ev X d 10 57 L (.double w2 :: .double w1 :: st) h = ev X d 10 58 L (.int (Op.cmpValue (FP.dcmp w1 w2) .l) :: st) h := g_dcmp dX0_hasTheCellOf_57
theorem e_X0_hasTheCellOf_58 : ev X d 10 58 L (.int a :: st) h = if a = 0 then ev X d 10 61 L st h else ev X d 10 65 L st h := g_if_ne dX0_hasTheCellOf_58 (by decide)
theorem e_X0_hasTheCellOf_61 : ev X d 10 61 L st h = ev X d 10 62 L (.int 1 :: st) h := g_iconst dX0_hasTheCellOf_61 (by decide)
theorem e_X0_hasTheCellOf_62 : ev X d 10 62 L st h = ev X d 10 66 L st h := g_goto dX0_hasTheCellOf_62 (by decide)
theorem e_X0_hasTheCellOf_65 : ev X d 10 65 L st h = ev X d 10 66 L (.int 0 :: st) h := g_iconst dX0_hasTheCellOf_65 (by decide)
theorem e_X0_hasTheCellOf_66 (ha : a = 0 ∨ a = 1) : ev X d 10 66 L [.int a] h = some (some (.int a), h) := g_zret dX0_hasTheCellOf_66 rfl ha
theorem e_X1_init_0 : ev X d 11 0 (some (va_rf r) :: L) st h = ev X d 11 1 (some (va_rf r) :: L) (va_rf r :: st) h := g_aload_n dX1_init_0 rfl
theorem e_X1_init_1 (hs : I_cat st ≤ 8) : ev X d 11 1 L (va_rf (some q) :: st) h = ev X d 11 4 L st h := g_obj dX1_init_1 (by decide) hs
theorem e_X1_init_4 : ev X d 11 4 (some (va_rf r) :: L) st h = ev X d 11 5 (some (va_rf r) :: L) (va_rf r :: st) h := g_aload_n dX1_init_4 rfl
theorem e_X1_init_5 : ev X d 11 5 L st h = ev X d 11 7 L (.int 12 :: st) h := g_bipush dX1_init_5 (by decide)
theorem e_X1_init_7 (hm : I_mk a = true) : ev X d 11 7 L (.int a :: st) h = ev X d 11 10 L (va_rf (some h.1) :: st) (I_new h a.toNatClampNeg (.inl (4, a.toNatClampNeg, .inr (.inr (.inr (.inr (fun _ => none))))))) := g_newq0 dX1_init_7 (by decide) hm
theorem e_X1_init_10 : ev X d 11 10 L (va_rf (some q0) :: va_rf (some q) :: st) h = (I_putf X h q 1 0 (va_rf (some q0))).bind (fun h => ev X d 11 13 L st h) := g_put dX1_init_10 (by decide) (by first | rfl | decide)
theorem e_X1_init_13 : ev X d 11 13 L [] h = some (none, h) := g_vret dX1_init_13 rfl
theorem e_X1_begin_0 : ev X d 12 0 (some (va_rf r) :: L) st h = ev X d 12 1 (some (va_rf r) :: L) (va_rf r :: st) h := g_aload_n dX1_begin_0 rfl
theorem e_X1_begin_1 : ev X d 12 1 (x0 :: some (.int a) :: L) st h = ev X d 12 2 (x0 :: some (.int a) :: L) (.int a :: st) h := g_iload_n dX1_begin_1 rfl
theorem e_X1_begin_2 : ev X d 12 2 L (.int a :: va_rf (some q) :: st) h = (I_putf X h q 1 1 (.int a)).bind (fun h => ev X d 12 5 L st h) := g_put dX1_begin_2 (by decide) (by first | rfl | decide)
theorem e_X1_begin_5 : ev X d 12 5 (some (va_rf r) :: L) st h = ev X d 12 6 (some (va_rf r) :: L) (va_rf r :: st) h := g_aload_n dX1_begin_5 rfl
theorem e_X1_begin_6 : ev X d 12 6 (x0 :: x1 :: some (.int a) :: L) st h = ev X d 12 7 (x0 :: x1 :: some (.int a) :: L) (.int a :: st) h := g_iload_n dX1_begin_6 rfl
theorem e_X1_begin_7 : ev X d 12 7 L (.int a :: va_rf (some q) :: st) h = (I_putf X h q 1 2 (.int a)).bind (fun h => ev X d 12 10 L st h) := g_put dX1_begin_7 (by decide) (by first | rfl | decide)
theorem e_X1_begin_10 : ev X d 12 10 L st h = ev X d 12 11 L (.int 0 :: st) h := g_iconst dX1_begin_10 (by decide)
theorem e_X1_begin_11 (hx : I_c2 x2 = false) : ev X d 12 11 (x0 :: x1 :: x2 :: x3 :: L) (.int a :: st) h = ev X d 12 12 (x0 :: x1 :: x2 :: some (.int a) :: L) st h := g_istore_n dX1_begin_11 (I_st1_3 hx)
theorem e_X1_begin_12 : ev X d 12 12 (x0 :: x1 :: x2 :: some (.int a) :: L) st h = ev X d 12 13 (x0 :: x1 :: x2 :: some (.int a) :: L) (.int a :: st) h := g_iload_n dX1_begin_12 rfl
theorem e_X1_begin_13 : ev X d 12 13 (some (va_rf r) :: L) st h = ev X d 12 14 (some (va_rf r) :: L) (va_rf r :: st) h := g_aload_n dX1_begin_13 rfl
theorem e_X1_begin_14 : ev X d 12 14 L (va_rf (some q) :: st) h = (I_getf X h q 1 0).bind (fun v => ev X d 12 17 L (v :: st) h) := g_get dX1_begin_14 (by decide)
theorem e_X1_begin_17 : ev X d 12 17 L (va_rf (some q) :: st) h = (I_alen X h q).bind (fun v => ev X d 12 18 L (.int v :: st) h) := g_alen dX1_begin_17 (by decide)
theorem e_X1_begin_18 : ev X d 12 18 L (.int b :: .int a :: st) h = if b ≤ a then ev X d 12 34 L st h else ev X d 12 21 L st h := g_icmp_ge dX1_begin_18 (by decide)
theorem e_X1_begin_21 : ev X d 12 21 (some (va_rf r) :: L) st h = ev X d 12 22 (some (va_rf r) :: L) (va_rf r :: st) h := g_aload_n dX1_begin_21 rfl
theorem e_X1_begin_22 : ev X d 12 22 L (va_rf (some q) :: st) h = (I_getf X h q 1 0).bind (fun v => ev X d 12 25 L (v :: st) h) := g_get dX1_begin_22 (by decide)
theorem e_X1_begin_25 : ev X d 12 25 (x0 :: x1 :: x2 :: some (.int a) :: L) st h = ev X d 12 26 (x0 :: x1 :: x2 :: some (.int a) :: L) (.int a :: st) h := g_iload_n dX1_begin_25 rfl
theorem e_X1_begin_26 : ev X d 12 26 L st h = ev X d 12 27 L (va_rf none :: st) h := g_null dX1_begin_26
theorem e_X1_begin_27 : ev X d 12 27 L (va_rf r :: .int i :: va_rf (some q) :: st) h = (I_astq X h q i r).bind (fun h => ev X d 12 28 L st h) := g_aast dX1_begin_27
theorem e_X1_begin_28 (hx : I_c2 x2 = false) : ev X d 12 28 (x0 :: x1 :: x2 :: some (.int a) :: L) st h = ev X d 12 31 (x0 :: x1 :: x2 :: some (.int (a + 1)) :: L) st h := g_iinc dX1_begin_28 (by decide) rfl (I_st1_3 hx)
theorem e_X1_begin_31 : ev X d 12 31 L st h = ev X d 12 12 L st h := g_goto dX1_begin_31 (by decide)
theorem e_X1_begin_34 : ev X d 12 34 L [] h = some (none, h) := g_vret dX1_begin_34 rfl
theorem e_X1_hasPlace_0 : ev X d 13 0 (x0 :: some (.int a) :: L) st h = ev X d 13 1 (x0 :: some (.int a) :: L) (.int a :: st) h := g_iload_n dX1_hasPlace_0 rfl
theorem e_X1_hasPlace_1 : ev X d 13 1 L (.int a :: st) h = if a < 0 then ev X d 13 16 L st h else ev X d 13 4 L st h := g_if_lt dX1_hasPlace_1 (by decide)
theorem e_X1_hasPlace_4 : ev X d 13 4 (x0 :: some (.int a) :: L) st h = ev X d 13 5 (x0 :: some (.int a) :: L) (.int a :: st) h := g_iload_n dX1_hasPlace_4 rfl
theorem e_X1_hasPlace_5 : ev X d 13 5 (some (va_rf r) :: L) st h = ev X d 13 6 (some (va_rf r) :: L) (va_rf r :: st) h := g_aload_n dX1_hasPlace_5 rfl
theorem e_X1_hasPlace_6 : ev X d 13 6 L (va_rf (some q) :: st) h = (I_getf X h q 1 2).bind (fun v => ev X d 13 9 L (v :: st) h) := g_get dX1_hasPlace_6 (by decide)
theorem e_X1_hasPlace_9 : ev X d 13 9 L (.int b :: .int a :: st) h = if b ≤ a then ev X d 13 16 L st h else ev X d 13 12 L st h := g_icmp_ge dX1_hasPlace_9 (by decide)
theorem e_X1_hasPlace_12 : ev X d 13 12 L st h = ev X d 13 13 L (.int 1 :: st) h := g_iconst dX1_hasPlace_12 (by decide)
theorem e_X1_hasPlace_13 : ev X d 13 13 L st h = ev X d 13 17 L st h := g_goto dX1_hasPlace_13 (by decide)
theorem e_X1_hasPlace_16 : ev X d 13 16 L st h = ev X d 13 17 L (.int 0 :: st) h := g_iconst dX1_hasPlace_16 (by decide)
theorem e_X1_hasPlace_17 (ha : a = 0 ∨ a = 1) : ev X d 13 17 L [.int a] h = some (some (.int a), h) := g_zret dX1_hasPlace_17 rfl ha
theorem e_X1_placeCause_0 : ev X d 14 0 (some (va_rf r) :: L) st h = ev X d 14 1 (some (va_rf r) :: L) (va_rf r :: st) h := g_aload_n dX1_placeCause_0 rfl
theorem e_X1_placeCause_1 : ev X d 14 1 (x0 :: some (.int a) :: L) st h = ev X d 14 2 (x0 :: some (.int a) :: L) (.int a :: st) h := g_iload_n dX1_placeCause_1 rfl
theorem e_X1_placeCause_2 (hc : I_isC X h q 1 = true) (hs : I_cat st ≤ 8) : ev X (d + 1) 14 2 L (.int a1 :: va_rf (some q) :: st) h = (ev X d 13 0 [some (va_rf (some q)), some (.int a1)] [] h).bind (fun r => ev X (d + 1) 14 5 L (r.1.toList ++ st) r.2) := g_callV (as := [.int a1]) dX1_placeCause_2 (by decide) (by decide) I_np_13 rfl (by simp only [List.reverse_cons, List.reverse_nil, List.nil_append, List.cons_append, I_slots_n, I_slots_i, I_slots_d, I_slots_q, List.length_cons, List.length_nil]; decide) (by simp only [I_ent, List.reverse_cons, List.reverse_nil, List.nil_append, List.cons_append, I_slots_n, I_slots_i, I_slots_d, I_slots_q, List.length_cons, List.length_nil]; rfl) rfl hc hs
theorem e_X1_placeCause_5 : ev X d 14 5 L (.int a :: st) h = if a = 0 then ev X d 14 8 L st h else ev X d 14 10 L st h := g_if_ne dX1_placeCause_5 (by decide)
theorem e_X1_placeCause_8 : ev X d 14 8 L st h = ev X d 14 9 L (.int 2 :: st) h := g_iconst dX1_placeCause_8 (by decide)
theorem e_X1_placeCause_9 : ev X d 14 9 L [.int a] h = some (some (.int a), h) := g_iret dX1_placeCause_9 rfl
theorem e_X1_placeCause_10 : ev X d 14 10 (some (va_rf r) :: L) st h = ev X d 14 11 (some (va_rf r) :: L) (va_rf r :: st) h := g_aload_n dX1_placeCause_10 rfl
theorem e_X1_placeCause_11 : ev X d 14 11 L (va_rf (some q) :: st) h = (I_getf X h q 1 0).bind (fun v => ev X d 14 14 L (v :: st) h) := g_get dX1_placeCause_11 (by decide)
theorem e_X1_placeCause_14 : ev X d 14 14 (x0 :: some (.int a) :: L) st h = ev X d 14 15 (x0 :: some (.int a) :: L) (.int a :: st) h := g_iload_n dX1_placeCause_14 rfl
theorem e_X1_placeCause_15 : ev X d 14 15 L (.int i :: va_rf (some q) :: st) h = (I_aldq X h q i).bind (fun v => ev X d 14 16 L (va_rf v :: st) h) := g_aald dX1_placeCause_15
theorem e_X1_placeCause_16 : ev X d 14 16 L (va_rf r :: st) h = if r = none then ev X d 14 19 L st h else ev X d 14 23 L st h := g_ifnonnull dX1_placeCause_16 (by decide)
theorem e_X1_placeCause_19 : ev X d 14 19 L st h = ev X d 14 20 L (.int 1 :: st) h := g_iconst dX1_placeCause_19 (by decide)
theorem e_X1_placeCause_20 : ev X d 14 20 L st h = ev X d 14 24 L st h := g_goto dX1_placeCause_20 (by decide)
theorem e_X1_placeCause_23 : ev X d 14 23 L st h = ev X d 14 24 L (.int 0 :: st) h := g_iconst dX1_placeCause_23 (by decide)
theorem e_X1_placeCause_24 : ev X d 14 24 L [.int a] h = some (some (.int a), h) := g_iret dX1_placeCause_24 rfl
theorem e_X1_cellCause_0 : ev X d 15 0 (some (va_rf r) :: L) st h = ev X d 15 1 (some (va_rf r) :: L) (va_rf r :: st) h := g_aload_n dX1_cellCause_0 rfl
theorem e_X1_cellCause_1 : ev X d 15 1 (x0 :: some (.int a) :: L) st h = ev X d 15 2 (x0 :: some (.int a) :: L) (.int a :: st) h := g_iload_n dX1_cellCause_1 rfl
theorem e_X1_cellCause_2 (hc : I_isC X h q 1 = true) (hs : I_cat st ≤ 8) : ev X (d + 1) 15 2 L (.int a1 :: va_rf (some q) :: st) h = (ev X d 14 0 [some (va_rf (some q)), some (.int a1)] [] h).bind (fun r => ev X (d + 1) 15 5 L (r.1.toList ++ st) r.2) := g_callV (as := [.int a1]) dX1_cellCause_2 (by decide) (by decide) I_np_14 rfl (by simp only [List.reverse_cons, List.reverse_nil, List.nil_append, List.cons_append, I_slots_n, I_slots_i, I_slots_d, I_slots_q, List.length_cons, List.length_nil]; decide) (by simp only [I_ent, List.reverse_cons, List.reverse_nil, List.nil_append, List.cons_append, I_slots_n, I_slots_i, I_slots_d, I_slots_q, List.length_cons, List.length_nil]; rfl) rfl hc hs
theorem e_X1_cellCause_5 (hx : I_c2 x2 = false) : ev X d 15 5 (x0 :: x1 :: x2 :: x3 :: L) (.int a :: st) h = ev X d 15 6 (x0 :: x1 :: x2 :: some (.int a) :: L) st h := g_istore_n dX1_cellCause_5 (I_st1_3 hx)
theorem e_X1_cellCause_6 : ev X d 15 6 (x0 :: x1 :: x2 :: some (.int a) :: L) st h = ev X d 15 7 (x0 :: x1 :: x2 :: some (.int a) :: L) (.int a :: st) h := g_iload_n dX1_cellCause_6 rfl
theorem e_X1_cellCause_7 : ev X d 15 7 L (.int a :: st) h = if a = 0 then ev X d 15 12 L st h else ev X d 15 10 L st h := g_if_eq dX1_cellCause_7 (by decide)
theorem e_X1_cellCause_10 : ev X d 15 10 (x0 :: x1 :: x2 :: some (.int a) :: L) st h = ev X d 15 11 (x0 :: x1 :: x2 :: some (.int a) :: L) (.int a :: st) h := g_iload_n dX1_cellCause_10 rfl
theorem e_X1_cellCause_11 : ev X d 15 11 L [.int a] h = some (some (.int a), h) := g_iret dX1_cellCause_11 rfl
theorem e_X1_cellCause_12 : ev X d 15 12 (some (va_rf r) :: L) st h = ev X d 15 13 (some (va_rf r) :: L) (va_rf r :: st) h := g_aload_n dX1_cellCause_12 rfl
theorem e_X1_cellCause_13 : ev X d 15 13 L (va_rf (some q) :: st) h = (I_getf X h q 1 0).bind (fun v => ev X d 15 16 L (v :: st) h) := g_get dX1_cellCause_13 (by decide)
theorem e_X1_cellCause_16 : ev X d 15 16 (x0 :: some (.int a) :: L) st h = ev X d 15 17 (x0 :: some (.int a) :: L) (.int a :: st) h := g_iload_n dX1_cellCause_16 rfl
theorem e_X1_cellCause_17 : ev X d 15 17 L (.int i :: va_rf (some q) :: st) h = (I_aldq X h q i).bind (fun v => ev X d 15 18 L (va_rf v :: st) h) := g_aald dX1_cellCause_17
theorem e_X1_cellCause_18 : ev X d 15 18 (x0 :: x1 :: some (.int a) :: L) st h = ev X d 15 19 (x0 :: x1 :: some (.int a) :: L) (.int a :: st) h := g_iload_n dX1_cellCause_18 rfl
theorem e_X1_cellCause_19 : ev X d 15 19 L st h = ev X d 15 20 L (.int 1 :: st) h := g_iconst dX1_cellCause_19 (by decide)
theorem e_X1_cellCause_20 (hc : I_isC X h q 0 = true) (hs : I_cat st ≤ 8) : ev X (d + 1) 15 20 L (.int a2 :: .int a1 :: va_rf (some q) :: st) h = (ev X d 2 0 [some (va_rf (some q)), some (.int a1), some (.int a2)] [] h).bind (fun r => ev X (d + 1) 15 23 L (r.1.toList ++ st) r.2) := g_callV (as := [.int a2, .int a1]) dX1_cellCause_20 (by decide) (by decide) I_np_2 rfl (by simp only [List.reverse_cons, List.reverse_nil, List.nil_append, List.cons_append, I_slots_n, I_slots_i, I_slots_d, I_slots_q, List.length_cons, List.length_nil]; decide) (by simp only [I_ent, List.reverse_cons, List.reverse_nil, List.nil_append, List.cons_append, I_slots_n, I_slots_i, I_slots_d, I_slots_q, List.length_cons, List.length_nil]; rfl) rfl hc hs
theorem e_X1_cellCause_23 : ev X d 15 23 L (.int a :: st) h = if a = 0 then ev X d 15 30 L st h else ev X d 15 26 L st h := g_if_eq dX1_cellCause_23 (by decide)
theorem e_X1_cellCause_26 : ev X d 15 26 L st h = ev X d 15 27 L (.int 0 :: st) h := g_iconst dX1_cellCause_26 (by decide)
theorem e_X1_cellCause_27 : ev X d 15 27 L st h = ev X d 15 31 L st h := g_goto dX1_cellCause_27 (by decide)
theorem e_X1_cellCause_30 : ev X d 15 30 L st h = ev X d 15 31 L (.int 2 :: st) h := g_iconst dX1_cellCause_30 (by decide)
theorem e_X1_cellCause_31 : ev X d 15 31 L [.int a] h = some (some (.int a), h) := g_iret dX1_cellCause_31 rfl
theorem e_X1_isEven_0 : ev X d 16 0 L st h = ev X d 16 1 L (.int 0 :: st) h := g_iconst dX1_isEven_0 (by decide)
theorem e_X1_isEven_1 (hx : I_c2 x0 = false) : ev X d 16 1 (x0 :: x1 :: L) (.int a :: st) h = ev X d 16 2 (x0 :: some (.int a) :: L) st h := g_istore_n dX1_isEven_1 (I_st1_1 hx)
theorem e_X1_isEven_2 : ev X d 16 2 (x0 :: some (.int a) :: L) st h = ev X d 16 3 (x0 :: some (.int a) :: L) (.int a :: st) h := g_iload_n dX1_isEven_2 rfl
theorem e_X1_isEven_3 : ev X d 16 3 (some (va_rf r) :: L) st h = ev X d 16 4 (some (va_rf r) :: L) (va_rf r :: st) h := g_aload_n dX1_isEven_3 rfl
theorem e_X1_isEven_4 : ev X d 16 4 L (va_rf (some q) :: st) h = (I_getf X h q 1 2).bind (fun v => ev X d 16 7 L (v :: st) h) := g_get dX1_isEven_4 (by decide)
theorem e_X1_isEven_7 : ev X d 16 7 L (.int b :: .int a :: st) h = if b ≤ a then ev X d 16 43 L st h else ev X d 16 10 L st h := g_icmp_ge dX1_isEven_7 (by decide)
theorem e_X1_isEven_10 : ev X d 16 10 (some (va_rf r) :: L) st h = ev X d 16 11 (some (va_rf r) :: L) (va_rf r :: st) h := g_aload_n dX1_isEven_10 rfl
theorem e_X1_isEven_11 : ev X d 16 11 L (va_rf (some q) :: st) h = (I_getf X h q 1 0).bind (fun v => ev X d 16 14 L (v :: st) h) := g_get dX1_isEven_11 (by decide)
theorem e_X1_isEven_14 : ev X d 16 14 (x0 :: some (.int a) :: L) st h = ev X d 16 15 (x0 :: some (.int a) :: L) (.int a :: st) h := g_iload_n dX1_isEven_14 rfl
theorem e_X1_isEven_15 : ev X d 16 15 L (.int i :: va_rf (some q) :: st) h = (I_aldq X h q i).bind (fun v => ev X d 16 16 L (va_rf v :: st) h) := g_aald dX1_isEven_15
theorem e_X1_isEven_16 : ev X d 16 16 L (va_rf r :: st) h = if r = none then ev X d 16 35 L st h else ev X d 16 19 L st h := g_ifnull dX1_isEven_16 (by decide)
theorem e_X1_isEven_19 : ev X d 16 19 (some (va_rf r) :: L) st h = ev X d 16 20 (some (va_rf r) :: L) (va_rf r :: st) h := g_aload_n dX1_isEven_19 rfl
theorem e_X1_isEven_20 : ev X d 16 20 L (va_rf (some q) :: st) h = (I_getf X h q 1 0).bind (fun v => ev X d 16 23 L (v :: st) h) := g_get dX1_isEven_20 (by decide)
theorem e_X1_isEven_23 : ev X d 16 23 (x0 :: some (.int a) :: L) st h = ev X d 16 24 (x0 :: some (.int a) :: L) (.int a :: st) h := g_iload_n dX1_isEven_23 rfl
theorem e_X1_isEven_24 : ev X d 16 24 L (.int i :: va_rf (some q) :: st) h = (I_aldq X h q i).bind (fun v => ev X d 16 25 L (va_rf v :: st) h) := g_aald dX1_isEven_24
theorem e_X1_isEven_25 (hc : I_isC X h q 0 = true) (hs : I_cat st ≤ 8) : ev X (d + 1) 16 25 L (va_rf (some q) :: st) h = (ev X d 1 0 [some (va_rf (some q))] [] h).bind (fun r => ev X (d + 1) 16 28 L (r.1.toList ++ st) r.2) := g_callV (as := []) dX1_isEven_25 (by decide) (by decide) I_np_1 rfl (by simp only [List.reverse_cons, List.reverse_nil, List.nil_append, List.cons_append, I_slots_n, I_slots_i, I_slots_d, I_slots_q, List.length_cons, List.length_nil]; decide) (by simp only [I_ent, List.reverse_cons, List.reverse_nil, List.nil_append, List.cons_append, I_slots_n, I_slots_i, I_slots_d, I_slots_q, List.length_cons, List.length_nil]; rfl) rfl hc hs
theorem e_X1_isEven_28 : ev X d 16 28 (some (va_rf r) :: L) st h = ev X d 16 29 (some (va_rf r) :: L) (va_rf r :: st) h := g_aload_n dX1_isEven_28 rfl
theorem e_X1_isEven_29 (hc : I_isC X h q 1 = true) (hs : I_cat st ≤ 8) : ev X (d + 1) 16 29 L (va_rf (some q) :: st) h = (ev X d 17 0 [some (va_rf (some q))] [] h).bind (fun r => ev X (d + 1) 16 32 L (r.1.toList ++ st) r.2) := g_callV (as := []) dX1_isEven_29 (by decide) (by decide) I_np_17 rfl (by simp only [List.reverse_cons, List.reverse_nil, List.nil_append, List.cons_append, I_slots_n, I_slots_i, I_slots_d, I_slots_q, List.length_cons, List.length_nil]; decide) (by simp only [I_ent, List.reverse_cons, List.reverse_nil, List.nil_append, List.cons_append, I_slots_n, I_slots_i, I_slots_d, I_slots_q, List.length_cons, List.length_nil]; rfl) rfl hc hs
theorem e_X1_isEven_32 : ev X d 16 32 L (.int b :: .int a :: st) h = if a = b then ev X d 16 37 L st h else ev X d 16 35 L st h := g_icmp_eq dX1_isEven_32 (by decide)
theorem e_X1_isEven_35 : ev X d 16 35 L st h = ev X d 16 36 L (.int 0 :: st) h := g_iconst dX1_isEven_35 (by decide)
theorem e_X1_isEven_36 (ha : a = 0 ∨ a = 1) : ev X d 16 36 L [.int a] h = some (some (.int a), h) := g_zret dX1_isEven_36 rfl ha
theorem e_X1_isEven_37 (hx : I_c2 x0 = false) : ev X d 16 37 (x0 :: some (.int a) :: L) st h = ev X d 16 40 (x0 :: some (.int (a + 1)) :: L) st h := g_iinc dX1_isEven_37 (by decide) rfl (I_st1_1 hx)
theorem e_X1_isEven_40 : ev X d 16 40 L st h = ev X d 16 2 L st h := g_goto dX1_isEven_40 (by decide)
theorem e_X1_isEven_43 : ev X d 16 43 L st h = ev X d 16 44 L (.int 1 :: st) h := g_iconst dX1_isEven_43 (by decide)
theorem e_X1_isEven_44 (ha : a = 0 ∨ a = 1) : ev X d 16 44 L [.int a] h = some (some (.int a), h) := g_zret dX1_isEven_44 rfl ha
theorem e_X1_wide_0 : ev X d 17 0 (some (va_rf r) :: L) st h = ev X d 17 1 (some (va_rf r) :: L) (va_rf r :: st) h := g_aload_n dX1_wide_0 rfl
theorem e_X1_wide_1 : ev X d 17 1 L (va_rf (some q) :: st) h = (I_getf X h q 1 2).bind (fun v => ev X d 17 4 L (v :: st) h) := g_get dX1_wide_1 (by decide)
theorem e_X1_wide_4 : ev X d 17 4 L (.int a :: st) h = if a = 0 then ev X d 17 16 L st h else ev X d 17 7 L st h := g_if_eq dX1_wide_4 (by decide)
theorem e_X1_wide_7 : ev X d 17 7 (some (va_rf r) :: L) st h = ev X d 17 8 (some (va_rf r) :: L) (va_rf r :: st) h := g_aload_n dX1_wide_7 rfl
theorem e_X1_wide_8 : ev X d 17 8 L (va_rf (some q) :: st) h = (I_getf X h q 1 0).bind (fun v => ev X d 17 11 L (v :: st) h) := g_get dX1_wide_8 (by decide)
theorem e_X1_wide_11 : ev X d 17 11 L st h = ev X d 17 12 L (.int 0 :: st) h := g_iconst dX1_wide_11 (by decide)
theorem e_X1_wide_12 : ev X d 17 12 L (.int i :: va_rf (some q) :: st) h = (I_aldq X h q i).bind (fun v => ev X d 17 13 L (va_rf v :: st) h) := g_aald dX1_wide_12
theorem e_X1_wide_13 : ev X d 17 13 L (va_rf r :: st) h = if r = none then ev X d 17 16 L st h else ev X d 17 20 L st h := g_ifnonnull dX1_wide_13 (by decide)
theorem e_X1_wide_16 : ev X d 17 16 L st h = ev X d 17 17 L (.int 0 :: st) h := g_iconst dX1_wide_16 (by decide)
theorem e_X1_wide_17 : ev X d 17 17 L st h = ev X d 17 29 L st h := g_goto dX1_wide_17 (by decide)
theorem e_X1_wide_20 : ev X d 17 20 (some (va_rf r) :: L) st h = ev X d 17 21 (some (va_rf r) :: L) (va_rf r :: st) h := g_aload_n dX1_wide_20 rfl
theorem e_X1_wide_21 : ev X d 17 21 L (va_rf (some q) :: st) h = (I_getf X h q 1 0).bind (fun v => ev X d 17 24 L (v :: st) h) := g_get dX1_wide_21 (by decide)
theorem e_X1_wide_24 : ev X d 17 24 L st h = ev X d 17 25 L (.int 0 :: st) h := g_iconst dX1_wide_24 (by decide)
theorem e_X1_wide_25 : ev X d 17 25 L (.int i :: va_rf (some q) :: st) h = (I_aldq X h q i).bind (fun v => ev X d 17 26 L (va_rf v :: st) h) := g_aald dX1_wide_25
theorem e_X1_wide_26 (hc : I_isC X h q 0 = true) (hs : I_cat st ≤ 8) : ev X (d + 1) 17 26 L (va_rf (some q) :: st) h = (ev X d 1 0 [some (va_rf (some q))] [] h).bind (fun r => ev X (d + 1) 17 29 L (r.1.toList ++ st) r.2) := g_callV (as := []) dX1_wide_26 (by decide) (by decide) I_np_1 rfl (by simp only [List.reverse_cons, List.reverse_nil, List.nil_append, List.cons_append, I_slots_n, I_slots_i, I_slots_d, I_slots_q, List.length_cons, List.length_nil]; decide) (by simp only [I_ent, List.reverse_cons, List.reverse_nil, List.nil_append, List.cons_append, I_slots_n, I_slots_i, I_slots_d, I_slots_q, List.length_cons, List.length_nil]; rfl) rfl hc hs
theorem e_X1_wide_29 : ev X d 17 29 L [.int a] h = some (some (.int a), h) := g_iret dX1_wide_29 rfl
theorem e_X1_firstNotSquare_0 : ev X d 18 0 L st h = ev X d 18 1 L (.int 0 :: st) h := g_iconst dX1_firstNotSquare_0 (by decide)
theorem e_X1_firstNotSquare_1 (hx : I_c2 x0 = false) : ev X d 18 1 (x0 :: x1 :: L) (.int a :: st) h = ev X d 18 2 (x0 :: some (.int a) :: L) st h := g_istore_n dX1_firstNotSquare_1 (I_st1_1 hx)
theorem e_X1_firstNotSquare_2 : ev X d 18 2 (x0 :: some (.int a) :: L) st h = ev X d 18 3 (x0 :: some (.int a) :: L) (.int a :: st) h := g_iload_n dX1_firstNotSquare_2 rfl
theorem e_X1_firstNotSquare_3 : ev X d 18 3 (some (va_rf r) :: L) st h = ev X d 18 4 (some (va_rf r) :: L) (va_rf r :: st) h := g_aload_n dX1_firstNotSquare_3 rfl
theorem e_X1_firstNotSquare_4 : ev X d 18 4 L (va_rf (some q) :: st) h = (I_getf X h q 1 2).bind (fun v => ev X d 18 7 L (v :: st) h) := g_get dX1_firstNotSquare_4 (by decide)
theorem e_X1_firstNotSquare_7 : ev X d 18 7 L (.int b :: .int a :: st) h = if b ≤ a then ev X d 18 43 L st h else ev X d 18 10 L st h := g_icmp_ge dX1_firstNotSquare_7 (by decide)
theorem e_X1_firstNotSquare_10 : ev X d 18 10 (some (va_rf r) :: L) st h = ev X d 18 11 (some (va_rf r) :: L) (va_rf r :: st) h := g_aload_n dX1_firstNotSquare_10 rfl
theorem e_X1_firstNotSquare_11 : ev X d 18 11 L (va_rf (some q) :: st) h = (I_getf X h q 1 0).bind (fun v => ev X d 18 14 L (v :: st) h) := g_get dX1_firstNotSquare_11 (by decide)
theorem e_X1_firstNotSquare_14 : ev X d 18 14 (x0 :: some (.int a) :: L) st h = ev X d 18 15 (x0 :: some (.int a) :: L) (.int a :: st) h := g_iload_n dX1_firstNotSquare_14 rfl
theorem e_X1_firstNotSquare_15 : ev X d 18 15 L (.int i :: va_rf (some q) :: st) h = (I_aldq X h q i).bind (fun v => ev X d 18 16 L (va_rf v :: st) h) := g_aald dX1_firstNotSquare_15
theorem e_X1_firstNotSquare_16 : ev X d 18 16 L (va_rf r :: st) h = if r = none then ev X d 18 35 L st h else ev X d 18 19 L st h := g_ifnull dX1_firstNotSquare_16 (by decide)
theorem e_X1_firstNotSquare_19 : ev X d 18 19 (some (va_rf r) :: L) st h = ev X d 18 20 (some (va_rf r) :: L) (va_rf r :: st) h := g_aload_n dX1_firstNotSquare_19 rfl
theorem e_X1_firstNotSquare_20 : ev X d 18 20 L (va_rf (some q) :: st) h = (I_getf X h q 1 0).bind (fun v => ev X d 18 23 L (v :: st) h) := g_get dX1_firstNotSquare_20 (by decide)
theorem e_X1_firstNotSquare_23 : ev X d 18 23 (x0 :: some (.int a) :: L) st h = ev X d 18 24 (x0 :: some (.int a) :: L) (.int a :: st) h := g_iload_n dX1_firstNotSquare_23 rfl
theorem e_X1_firstNotSquare_24 : ev X d 18 24 L (.int i :: va_rf (some q) :: st) h = (I_aldq X h q i).bind (fun v => ev X d 18 25 L (va_rf v :: st) h) := g_aald dX1_firstNotSquare_24
theorem e_X1_firstNotSquare_25 (hc : I_isC X h q 0 = true) (hs : I_cat st ≤ 8) : ev X (d + 1) 18 25 L (va_rf (some q) :: st) h = (ev X d 1 0 [some (va_rf (some q))] [] h).bind (fun r => ev X (d + 1) 18 28 L (r.1.toList ++ st) r.2) := g_callV (as := []) dX1_firstNotSquare_25 (by decide) (by decide) I_np_1 rfl (by simp only [List.reverse_cons, List.reverse_nil, List.nil_append, List.cons_append, I_slots_n, I_slots_i, I_slots_d, I_slots_q, List.length_cons, List.length_nil]; decide) (by simp only [I_ent, List.reverse_cons, List.reverse_nil, List.nil_append, List.cons_append, I_slots_n, I_slots_i, I_slots_d, I_slots_q, List.length_cons, List.length_nil]; rfl) rfl hc hs
theorem e_X1_firstNotSquare_28 : ev X d 18 28 (some (va_rf r) :: L) st h = ev X d 18 29 (some (va_rf r) :: L) (va_rf r :: st) h := g_aload_n dX1_firstNotSquare_28 rfl
theorem e_X1_firstNotSquare_29 : ev X d 18 29 L (va_rf (some q) :: st) h = (I_getf X h q 1 2).bind (fun v => ev X d 18 32 L (v :: st) h) := g_get dX1_firstNotSquare_29 (by decide)
theorem e_X1_firstNotSquare_32 : ev X d 18 32 L (.int b :: .int a :: st) h = if a = b then ev X d 18 37 L st h else ev X d 18 35 L st h := g_icmp_eq dX1_firstNotSquare_32 (by decide)
theorem e_X1_firstNotSquare_35 : ev X d 18 35 (x0 :: some (.int a) :: L) st h = ev X d 18 36 (x0 :: some (.int a) :: L) (.int a :: st) h := g_iload_n dX1_firstNotSquare_35 rfl
theorem e_X1_firstNotSquare_36 : ev X d 18 36 L [.int a] h = some (some (.int a), h) := g_iret dX1_firstNotSquare_36 rfl
theorem e_X1_firstNotSquare_37 (hx : I_c2 x0 = false) : ev X d 18 37 (x0 :: some (.int a) :: L) st h = ev X d 18 40 (x0 :: some (.int (a + 1)) :: L) st h := g_iinc dX1_firstNotSquare_37 (by decide) rfl (I_st1_1 hx)
theorem e_X1_firstNotSquare_40 : ev X d 18 40 L st h = ev X d 18 2 L st h := g_goto dX1_firstNotSquare_40 (by decide)
theorem e_X1_firstNotSquare_43 : ev X d 18 43 L st h = ev X d 18 45 L (.int (-1000009) :: st) h := g_ldc dX1_firstNotSquare_43 (by decide)
theorem e_X1_firstNotSquare_45 : ev X d 18 45 L [.int a] h = some (some (.int a), h) := g_iret dX1_firstNotSquare_45 rfl
theorem e_X1_fallenPlaces_0 : ev X d 19 0 L st h = ev X d 19 1 L (.int 0 :: st) h := g_iconst dX1_fallenPlaces_0 (by decide)
theorem e_X1_fallenPlaces_1 (hx : I_c2 x0 = false) : ev X d 19 1 (x0 :: x1 :: L) (.int a :: st) h = ev X d 19 2 (x0 :: some (.int a) :: L) st h := g_istore_n dX1_fallenPlaces_1 (I_st1_1 hx)
theorem e_X1_fallenPlaces_2 : ev X d 19 2 L st h = ev X d 19 3 L (.int 0 :: st) h := g_iconst dX1_fallenPlaces_2 (by decide)
theorem e_X1_fallenPlaces_3 (hx : I_c2 x1 = false) : ev X d 19 3 (x0 :: x1 :: x2 :: L) (.int a :: st) h = ev X d 19 4 (x0 :: x1 :: some (.int a) :: L) st h := g_istore_n dX1_fallenPlaces_3 (I_st1_2 hx)
theorem e_X1_fallenPlaces_4 : ev X d 19 4 (x0 :: x1 :: some (.int a) :: L) st h = ev X d 19 5 (x0 :: x1 :: some (.int a) :: L) (.int a :: st) h := g_iload_n dX1_fallenPlaces_4 rfl
theorem e_X1_fallenPlaces_5 : ev X d 19 5 (some (va_rf r) :: L) st h = ev X d 19 6 (some (va_rf r) :: L) (va_rf r :: st) h := g_aload_n dX1_fallenPlaces_5 rfl
theorem e_X1_fallenPlaces_6 : ev X d 19 6 L (va_rf (some q) :: st) h = (I_getf X h q 1 2).bind (fun v => ev X d 19 9 L (v :: st) h) := g_get dX1_fallenPlaces_6 (by decide)
theorem e_X1_fallenPlaces_9 : ev X d 19 9 L (.int b :: .int a :: st) h = if b ≤ a then ev X d 19 30 L st h else ev X d 19 12 L st h := g_icmp_ge dX1_fallenPlaces_9 (by decide)
theorem e_X1_fallenPlaces_12 : ev X d 19 12 (some (va_rf r) :: L) st h = ev X d 19 13 (some (va_rf r) :: L) (va_rf r :: st) h := g_aload_n dX1_fallenPlaces_12 rfl
theorem e_X1_fallenPlaces_13 : ev X d 19 13 L (va_rf (some q) :: st) h = (I_getf X h q 1 0).bind (fun v => ev X d 19 16 L (v :: st) h) := g_get dX1_fallenPlaces_13 (by decide)
theorem e_X1_fallenPlaces_16 : ev X d 19 16 (x0 :: x1 :: some (.int a) :: L) st h = ev X d 19 17 (x0 :: x1 :: some (.int a) :: L) (.int a :: st) h := g_iload_n dX1_fallenPlaces_16 rfl
theorem e_X1_fallenPlaces_17 : ev X d 19 17 L (.int i :: va_rf (some q) :: st) h = (I_aldq X h q i).bind (fun v => ev X d 19 18 L (va_rf v :: st) h) := g_aald dX1_fallenPlaces_17
theorem e_X1_fallenPlaces_18 : ev X d 19 18 L (va_rf r :: st) h = if r = none then ev X d 19 21 L st h else ev X d 19 24 L st h := g_ifnonnull dX1_fallenPlaces_18 (by decide)
theorem e_X1_fallenPlaces_21 (hx : I_c2 x0 = false) : ev X d 19 21 (x0 :: some (.int a) :: L) st h = ev X d 19 24 (x0 :: some (.int (a + 1)) :: L) st h := g_iinc dX1_fallenPlaces_21 (by decide) rfl (I_st1_1 hx)
theorem e_X1_fallenPlaces_24 (hx : I_c2 x1 = false) : ev X d 19 24 (x0 :: x1 :: some (.int a) :: L) st h = ev X d 19 27 (x0 :: x1 :: some (.int (a + 1)) :: L) st h := g_iinc dX1_fallenPlaces_24 (by decide) rfl (I_st1_2 hx)
theorem e_X1_fallenPlaces_27 : ev X d 19 27 L st h = ev X d 19 4 L st h := g_goto dX1_fallenPlaces_27 (by decide)
theorem e_X1_fallenPlaces_30 : ev X d 19 30 (x0 :: some (.int a) :: L) st h = ev X d 19 31 (x0 :: some (.int a) :: L) (.int a :: st) h := g_iload_n dX1_fallenPlaces_30 rfl
theorem e_X1_fallenPlaces_31 : ev X d 19 31 L [.int a] h = some (some (.int a), h) := g_iret dX1_fallenPlaces_31 rfl
theorem e_X1_rowsNotYetCounted_0 : ev X d 20 0 L st h = ev X d 20 1 L (.int 0 :: st) h := g_iconst dX1_rowsNotYetCounted_0 (by decide)
theorem e_X1_rowsNotYetCounted_1 (hx : I_c2 x1 = false) : ev X d 20 1 (x0 :: x1 :: x2 :: L) (.int a :: st) h = ev X d 20 2 (x0 :: x1 :: some (.int a) :: L) st h := g_istore_n dX1_rowsNotYetCounted_1 (I_st1_2 hx)
theorem e_X1_rowsNotYetCounted_2 : ev X d 20 2 L st h = ev X d 20 3 L (.int 0 :: st) h := g_iconst dX1_rowsNotYetCounted_2 (by decide)
theorem e_X1_rowsNotYetCounted_3 (hx : I_c2 x2 = false) : ev X d 20 3 (x0 :: x1 :: x2 :: x3 :: L) (.int a :: st) h = ev X d 20 4 (x0 :: x1 :: x2 :: some (.int a) :: L) st h := g_istore_n dX1_rowsNotYetCounted_3 (I_st1_3 hx)
theorem e_X1_rowsNotYetCounted_4 : ev X d 20 4 (x0 :: x1 :: x2 :: some (.int a) :: L) st h = ev X d 20 5 (x0 :: x1 :: x2 :: some (.int a) :: L) (.int a :: st) h := g_iload_n dX1_rowsNotYetCounted_4 rfl
theorem e_X1_rowsNotYetCounted_5 : ev X d 20 5 (some (va_rf r) :: L) st h = ev X d 20 6 (some (va_rf r) :: L) (va_rf r :: st) h := g_aload_n dX1_rowsNotYetCounted_5 rfl
theorem e_X1_rowsNotYetCounted_6 : ev X d 20 6 L (va_rf (some q) :: st) h = (I_getf X h q 1 2).bind (fun v => ev X d 20 9 L (v :: st) h) := g_get dX1_rowsNotYetCounted_6 (by decide)
theorem e_X1_rowsNotYetCounted_9 : ev X d 20 9 L (.int b :: .int a :: st) h = if b ≤ a then ev X d 20 53 L st h else ev X d 20 12 L st h := g_icmp_ge dX1_rowsNotYetCounted_9 (by decide)
theorem e_X1_rowsNotYetCounted_12 : ev X d 20 12 (some (va_rf r) :: L) st h = ev X d 20 13 (some (va_rf r) :: L) (va_rf r :: st) h := g_aload_n dX1_rowsNotYetCounted_12 rfl
theorem e_X1_rowsNotYetCounted_13 : ev X d 20 13 L (va_rf (some q) :: st) h = (I_getf X h q 1 0).bind (fun v => ev X d 20 16 L (v :: st) h) := g_get dX1_rowsNotYetCounted_13 (by decide)
theorem e_X1_rowsNotYetCounted_16 : ev X d 20 16 (x0 :: x1 :: x2 :: some (.int a) :: L) st h = ev X d 20 17 (x0 :: x1 :: x2 :: some (.int a) :: L) (.int a :: st) h := g_iload_n dX1_rowsNotYetCounted_16 rfl
theorem e_X1_rowsNotYetCounted_17 : ev X d 20 17 L (.int i :: va_rf (some q) :: st) h = (I_aldq X h q i).bind (fun v => ev X d 20 18 L (va_rf v :: st) h) := g_aald dX1_rowsNotYetCounted_17
theorem e_X1_rowsNotYetCounted_18 : ev X d 20 18 L (va_rf r :: st) h = if r = none then ev X d 20 47 L st h else ev X d 20 21 L st h := g_ifnull dX1_rowsNotYetCounted_18 (by decide)
theorem e_X1_rowsNotYetCounted_21 : ev X d 20 21 (some (va_rf r) :: L) st h = ev X d 20 22 (some (va_rf r) :: L) (va_rf r :: st) h := g_aload_n dX1_rowsNotYetCounted_21 rfl
theorem e_X1_rowsNotYetCounted_22 : ev X d 20 22 L (va_rf (some q) :: st) h = (I_getf X h q 1 0).bind (fun v => ev X d 20 25 L (v :: st) h) := g_get dX1_rowsNotYetCounted_22 (by decide)
theorem e_X1_rowsNotYetCounted_25 : ev X d 20 25 (x0 :: x1 :: x2 :: some (.int a) :: L) st h = ev X d 20 26 (x0 :: x1 :: x2 :: some (.int a) :: L) (.int a :: st) h := g_iload_n dX1_rowsNotYetCounted_25 rfl
theorem e_X1_rowsNotYetCounted_26 : ev X d 20 26 L (.int i :: va_rf (some q) :: st) h = (I_aldq X h q i).bind (fun v => ev X d 20 27 L (va_rf v :: st) h) := g_aald dX1_rowsNotYetCounted_26
theorem e_X1_rowsNotYetCounted_27 : ev X d 20 27 L (va_rf (some q) :: st) h = (I_getf X h q 0 3).bind (fun v => ev X d 20 30 L (v :: st) h) := g_get dX1_rowsNotYetCounted_27 (by decide)
theorem e_X1_rowsNotYetCounted_30 : ev X d 20 30 (x0 :: some (.int a) :: L) st h = ev X d 20 31 (x0 :: some (.int a) :: L) (.int a :: st) h := g_iload_n dX1_rowsNotYetCounted_30 rfl
theorem e_X1_rowsNotYetCounted_31 : ev X d 20 31 L (.int b :: .int a :: st) h = if a = b then ev X d 20 47 L st h else ev X d 20 34 L st h := g_icmp_eq dX1_rowsNotYetCounted_31 (by decide)
theorem e_X1_rowsNotYetCounted_34 : ev X d 20 34 (some (va_rf r) :: L) st h = ev X d 20 35 (some (va_rf r) :: L) (va_rf r :: st) h := g_aload_n dX1_rowsNotYetCounted_34 rfl
theorem e_X1_rowsNotYetCounted_35 : ev X d 20 35 L (va_rf (some q) :: st) h = (I_getf X h q 1 0).bind (fun v => ev X d 20 38 L (v :: st) h) := g_get dX1_rowsNotYetCounted_35 (by decide)
theorem e_X1_rowsNotYetCounted_38 : ev X d 20 38 (x0 :: x1 :: x2 :: some (.int a) :: L) st h = ev X d 20 39 (x0 :: x1 :: x2 :: some (.int a) :: L) (.int a :: st) h := g_iload_n dX1_rowsNotYetCounted_38 rfl
theorem e_X1_rowsNotYetCounted_39 : ev X d 20 39 L (.int i :: va_rf (some q) :: st) h = (I_aldq X h q i).bind (fun v => ev X d 20 40 L (va_rf v :: st) h) := g_aald dX1_rowsNotYetCounted_39
theorem e_X1_rowsNotYetCounted_40 : ev X d 20 40 (x0 :: some (.int a) :: L) st h = ev X d 20 41 (x0 :: some (.int a) :: L) (.int a :: st) h := g_iload_n dX1_rowsNotYetCounted_40 rfl
theorem e_X1_rowsNotYetCounted_41 : ev X d 20 41 L (.int a :: va_rf (some q) :: st) h = (I_putf X h q 0 3 (.int a)).bind (fun h => ev X d 20 44 L st h) := g_put dX1_rowsNotYetCounted_41 (by decide) (by first | rfl | decide)
theorem e_X1_rowsNotYetCounted_44 (hx : I_c2 x1 = false) : ev X d 20 44 (x0 :: x1 :: some (.int a) :: L) st h = ev X d 20 47 (x0 :: x1 :: some (.int (a + 1)) :: L) st h := g_iinc dX1_rowsNotYetCounted_44 (by decide) rfl (I_st1_2 hx)
theorem e_X1_rowsNotYetCounted_47 (hx : I_c2 x2 = false) : ev X d 20 47 (x0 :: x1 :: x2 :: some (.int a) :: L) st h = ev X d 20 50 (x0 :: x1 :: x2 :: some (.int (a + 1)) :: L) st h := g_iinc dX1_rowsNotYetCounted_47 (by decide) rfl (I_st1_3 hx)
theorem e_X1_rowsNotYetCounted_50 : ev X d 20 50 L st h = ev X d 20 4 L st h := g_goto dX1_rowsNotYetCounted_50 (by decide)
theorem e_X1_rowsNotYetCounted_53 : ev X d 20 53 (x0 :: x1 :: some (.int a) :: L) st h = ev X d 20 54 (x0 :: x1 :: some (.int a) :: L) (.int a :: st) h := g_iload_n dX1_rowsNotYetCounted_53 rfl
theorem e_X1_rowsNotYetCounted_54 : ev X d 20 54 L [.int a] h = some (some (.int a), h) := g_iret dX1_rowsNotYetCounted_54 rfl
theorem e_X1_agreesWith_0 : ev X d 21 0 (some (va_rf r) :: L) st h = ev X d 21 1 (some (va_rf r) :: L) (va_rf r :: st) h := g_aload_n dX1_agreesWith_0 rfl
theorem e_X1_agreesWith_1 : ev X d 21 1 L (va_rf (some q) :: st) h = (I_getf X h q 1 1).bind (fun v => ev X d 21 4 L (v :: st) h) := g_get dX1_agreesWith_1 (by decide)
theorem e_X1_agreesWith_4 : ev X d 21 4 (x0 :: some (va_rf r) :: L) st h = ev X d 21 5 (x0 :: some (va_rf r) :: L) (va_rf r :: st) h := g_aload_n dX1_agreesWith_4 rfl
theorem e_X1_agreesWith_5 : ev X d 21 5 L (va_rf (some q) :: st) h = (I_getf X h q 1 1).bind (fun v => ev X d 21 8 L (v :: st) h) := g_get dX1_agreesWith_5 (by decide)
theorem e_X1_agreesWith_8 : ev X d 21 8 L (.int b :: .int a :: st) h = if a = b then ev X d 21 11 L st h else ev X d 21 22 L st h := g_icmp_ne dX1_agreesWith_8 (by decide)
theorem e_X1_agreesWith_11 : ev X d 21 11 (some (va_rf r) :: L) st h = ev X d 21 12 (some (va_rf r) :: L) (va_rf r :: st) h := g_aload_n dX1_agreesWith_11 rfl
theorem e_X1_agreesWith_12 : ev X d 21 12 L (va_rf (some q) :: st) h = (I_getf X h q 1 2).bind (fun v => ev X d 21 15 L (v :: st) h) := g_get dX1_agreesWith_12 (by decide)
theorem e_X1_agreesWith_15 : ev X d 21 15 (x0 :: some (va_rf r) :: L) st h = ev X d 21 16 (x0 :: some (va_rf r) :: L) (va_rf r :: st) h := g_aload_n dX1_agreesWith_15 rfl
theorem e_X1_agreesWith_16 : ev X d 21 16 L (va_rf (some q) :: st) h = (I_getf X h q 1 2).bind (fun v => ev X d 21 19 L (v :: st) h) := g_get dX1_agreesWith_16 (by decide)
theorem e_X1_agreesWith_19 : ev X d 21 19 L (.int b :: .int a :: st) h = if a = b then ev X d 21 24 L st h else ev X d 21 22 L st h := g_icmp_eq dX1_agreesWith_19 (by decide)
theorem e_X1_agreesWith_22 : ev X d 21 22 L st h = ev X d 21 23 L (.int 0 :: st) h := g_iconst dX1_agreesWith_22 (by decide)
theorem e_X1_agreesWith_23 (ha : a = 0 ∨ a = 1) : ev X d 21 23 L [.int a] h = some (some (.int a), h) := g_zret dX1_agreesWith_23 rfl ha
theorem e_X1_agreesWith_24 : ev X d 21 24 L st h = ev X d 21 25 L (.int 0 :: st) h := g_iconst dX1_agreesWith_24 (by decide)
theorem e_X1_agreesWith_25 (hx : I_c2 x1 = false) : ev X d 21 25 (x0 :: x1 :: x2 :: L) (.int a :: st) h = ev X d 21 26 (x0 :: x1 :: some (.int a) :: L) st h := g_istore_n dX1_agreesWith_25 (I_st1_2 hx)
theorem e_X1_agreesWith_26 : ev X d 21 26 (x0 :: x1 :: some (.int a) :: L) st h = ev X d 21 27 (x0 :: x1 :: some (.int a) :: L) (.int a :: st) h := g_iload_n dX1_agreesWith_26 rfl
theorem e_X1_agreesWith_27 : ev X d 21 27 (some (va_rf r) :: L) st h = ev X d 21 28 (some (va_rf r) :: L) (va_rf r :: st) h := g_aload_n dX1_agreesWith_27 rfl
theorem e_X1_agreesWith_28 : ev X d 21 28 L (va_rf (some q) :: st) h = (I_getf X h q 1 2).bind (fun v => ev X d 21 31 L (v :: st) h) := g_get dX1_agreesWith_28 (by decide)
theorem e_X1_agreesWith_31 : ev X d 21 31 L (.int b :: .int a :: st) h = if b ≤ a then ev X d 21 93 L st h else ev X d 21 34 L st h := g_icmp_ge dX1_agreesWith_31 (by decide)
theorem e_X1_agreesWith_34 : ev X d 21 34 (some (va_rf r) :: L) st h = ev X d 21 35 (some (va_rf r) :: L) (va_rf r :: st) h := g_aload_n dX1_agreesWith_34 rfl
theorem e_X1_agreesWith_35 : ev X d 21 35 L (va_rf (some q) :: st) h = (I_getf X h q 1 0).bind (fun v => ev X d 21 38 L (v :: st) h) := g_get dX1_agreesWith_35 (by decide)
theorem e_X1_agreesWith_38 : ev X d 21 38 (x0 :: x1 :: some (.int a) :: L) st h = ev X d 21 39 (x0 :: x1 :: some (.int a) :: L) (.int a :: st) h := g_iload_n dX1_agreesWith_38 rfl
theorem e_X1_agreesWith_39 : ev X d 21 39 L (.int i :: va_rf (some q) :: st) h = (I_aldq X h q i).bind (fun v => ev X d 21 40 L (va_rf v :: st) h) := g_aald dX1_agreesWith_39
theorem e_X1_agreesWith_40 (hx : I_c2 x2 = false) : ev X d 21 40 (x0 :: x1 :: x2 :: x3 :: L) (va_rf r :: st) h = ev X d 21 41 (x0 :: x1 :: x2 :: some (va_rf r) :: L) st h := g_astore_n dX1_agreesWith_40 (I_st1_3 hx)
theorem e_X1_agreesWith_41 : ev X d 21 41 (x0 :: some (va_rf r) :: L) st h = ev X d 21 42 (x0 :: some (va_rf r) :: L) (va_rf r :: st) h := g_aload_n dX1_agreesWith_41 rfl
theorem e_X1_agreesWith_42 : ev X d 21 42 L (va_rf (some q) :: st) h = (I_getf X h q 1 0).bind (fun v => ev X d 21 45 L (v :: st) h) := g_get dX1_agreesWith_42 (by decide)
theorem e_X1_agreesWith_45 : ev X d 21 45 (x0 :: x1 :: some (.int a) :: L) st h = ev X d 21 46 (x0 :: x1 :: some (.int a) :: L) (.int a :: st) h := g_iload_n dX1_agreesWith_45 rfl
theorem e_X1_agreesWith_46 : ev X d 21 46 L (.int i :: va_rf (some q) :: st) h = (I_aldq X h q i).bind (fun v => ev X d 21 47 L (va_rf v :: st) h) := g_aald dX1_agreesWith_46
theorem e_X1_agreesWith_47 (hx : I_c2 x3 = false) : ev X d 21 47 (x0 :: x1 :: x2 :: x3 :: x4 :: L) (va_rf r :: st) h = ev X d 21 49 (x0 :: x1 :: x2 :: x3 :: some (va_rf r) :: L) st h := g_astore dX1_agreesWith_47 (I_st1_4 hx)
theorem e_X1_agreesWith_49 : ev X d 21 49 (x0 :: x1 :: x2 :: some (va_rf r) :: L) st h = ev X d 21 50 (x0 :: x1 :: x2 :: some (va_rf r) :: L) (va_rf r :: st) h := g_aload_n dX1_agreesWith_49 rfl
theorem e_X1_agreesWith_50 : ev X d 21 50 L (va_rf r :: st) h = if r = none then ev X d 21 58 L st h else ev X d 21 53 L st h := g_ifnull dX1_agreesWith_50 (by decide)
theorem e_X1_agreesWith_53 : ev X d 21 53 (x0 :: x1 :: x2 :: x3 :: some (va_rf r) :: L) st h = ev X d 21 55 (x0 :: x1 :: x2 :: x3 :: some (va_rf r) :: L) (va_rf r :: st) h := g_aload dX1_agreesWith_53 rfl
theorem e_X1_agreesWith_55 : ev X d 21 55 L (va_rf r :: st) h = if r = none then ev X d 21 58 L st h else ev X d 21 72 L st h := g_ifnonnull dX1_agreesWith_55 (by decide)
theorem e_X1_agreesWith_58 : ev X d 21 58 (x0 :: x1 :: x2 :: some (va_rf r) :: L) st h = ev X d 21 59 (x0 :: x1 :: x2 :: some (va_rf r) :: L) (va_rf r :: st) h := g_aload_n dX1_agreesWith_58 rfl
theorem e_X1_agreesWith_59 : ev X d 21 59 (x0 :: x1 :: x2 :: x3 :: some (va_rf r) :: L) st h = ev X d 21 61 (x0 :: x1 :: x2 :: x3 :: some (va_rf r) :: L) (va_rf r :: st) h := g_aload dX1_agreesWith_59 rfl
theorem e_X1_agreesWith_61 : ev X d 21 61 L (va_rf r2 :: va_rf r :: st) h = if r = r2 then ev X d 21 64 L st h else ev X d 21 68 L st h := g_acmp_ne dX1_agreesWith_61 (by decide)
theorem e_X1_agreesWith_64 : ev X d 21 64 L st h = ev X d 21 65 L (.int 1 :: st) h := g_iconst dX1_agreesWith_64 (by decide)
theorem e_X1_agreesWith_65 : ev X d 21 65 L st h = ev X d 21 78 L st h := g_goto dX1_agreesWith_65 (by decide)
theorem e_X1_agreesWith_68 : ev X d 21 68 L st h = ev X d 21 69 L (.int 0 :: st) h := g_iconst dX1_agreesWith_68 (by decide)
theorem e_X1_agreesWith_69 : ev X d 21 69 L st h = ev X d 21 78 L st h := g_goto dX1_agreesWith_69 (by decide)
theorem e_X1_agreesWith_72 : ev X d 21 72 (x0 :: x1 :: x2 :: some (va_rf r) :: L) st h = ev X d 21 73 (x0 :: x1 :: x2 :: some (va_rf r) :: L) (va_rf r :: st) h := g_aload_n dX1_agreesWith_72 rfl
theorem e_X1_agreesWith_73 : ev X d 21 73 (x0 :: x1 :: x2 :: x3 :: some (va_rf r) :: L) st h = ev X d 21 75 (x0 :: x1 :: x2 :: x3 :: some (va_rf r) :: L) (va_rf r :: st) h := g_aload dX1_agreesWith_73 rfl
theorem e_X1_agreesWith_75 (hc : I_isC X h q 0 = true) (hs : I_cat st ≤ 8) : ev X (d + 1) 21 75 L (va_rf r1 :: va_rf (some q) :: st) h = (ev X d 9 0 [some (va_rf (some q)), some (va_rf r1), none] [] h).bind (fun r => ev X (d + 1) 21 78 L (r.1.toList ++ st) r.2) := g_callV (as := [va_rf r1]) dX1_agreesWith_75 (by decide) (by decide) I_np_9 rfl (by simp only [List.reverse_cons, List.reverse_nil, List.nil_append, List.cons_append, I_slots_n, I_slots_i, I_slots_d, I_slots_q, List.length_cons, List.length_nil]; decide) (by simp only [I_ent, List.reverse_cons, List.reverse_nil, List.nil_append, List.cons_append, I_slots_n, I_slots_i, I_slots_d, I_slots_q, List.length_cons, List.length_nil]; rfl) rfl hc hs
theorem e_X1_agreesWith_78 (hx : I_c2 x4 = false) : ev X d 21 78 (x0 :: x1 :: x2 :: x3 :: x4 :: x5 :: L) (.int a :: st) h = ev X d 21 80 (x0 :: x1 :: x2 :: x3 :: x4 :: some (.int a) :: L) st h := g_istore dX1_agreesWith_78 (I_st1_5 hx)
theorem e_X1_agreesWith_80 : ev X d 21 80 (x0 :: x1 :: x2 :: x3 :: x4 :: some (.int a) :: L) st h = ev X d 21 82 (x0 :: x1 :: x2 :: x3 :: x4 :: some (.int a) :: L) (.int a :: st) h := g_iload dX1_agreesWith_80 rfl
theorem e_X1_agreesWith_82 : ev X d 21 82 L (.int a :: st) h = if a = 0 then ev X d 21 85 L st h else ev X d 21 87 L st h := g_if_ne dX1_agreesWith_82 (by decide)
theorem e_X1_agreesWith_85 : ev X d 21 85 L st h = ev X d 21 86 L (.int 0 :: st) h := g_iconst dX1_agreesWith_85 (by decide)
theorem e_X1_agreesWith_86 (ha : a = 0 ∨ a = 1) : ev X d 21 86 L [.int a] h = some (some (.int a), h) := g_zret dX1_agreesWith_86 rfl ha
theorem e_X1_agreesWith_87 (hx : I_c2 x1 = false) : ev X d 21 87 (x0 :: x1 :: some (.int a) :: L) st h = ev X d 21 90 (x0 :: x1 :: some (.int (a + 1)) :: L) st h := g_iinc dX1_agreesWith_87 (by decide) rfl (I_st1_2 hx)
theorem e_X1_agreesWith_90 : ev X d 21 90 L st h = ev X d 21 26 L st h := g_goto dX1_agreesWith_90 (by decide)
theorem e_X1_agreesWith_93 : ev X d 21 93 L st h = ev X d 21 94 L (.int 1 :: st) h := g_iconst dX1_agreesWith_93 (by decide)
theorem e_X1_agreesWith_94 (ha : a = 0 ∨ a = 1) : ev X d 21 94 L [.int a] h = some (some (.int a), h) := g_zret dX1_agreesWith_94 rfl ha
theorem e_J7_fill_53178_0 : ev X d 112 0 L st h = ev X d 112 1 L (.int 0 :: st) h := g_iconst dJ7_fill_53178_0 (by decide)
theorem e_J7_fill_53178_1 (hx : I_c2 x1 = false) : ev X d 112 1 (x0 :: x1 :: x2 :: L) (.int a :: st) h = ev X d 112 2 (x0 :: x1 :: some (.int a) :: L) st h := g_istore_n dJ7_fill_53178_1 (I_st1_2 hx)
theorem e_J7_fill_53178_2 : ev X d 112 2 (some (va_rf r) :: L) st h = ev X d 112 3 (some (va_rf r) :: L) (va_rf r :: st) h := g_aload_n dJ7_fill_53178_2 rfl
theorem e_J7_fill_53178_3 : ev X d 112 3 L (va_rf (some q) :: st) h = (I_alen X h q).bind (fun v => ev X d 112 4 L (.int v :: st) h) := g_alen dJ7_fill_53178_3 (by decide)
theorem e_J7_fill_53178_4 (hx : I_c2 x2 = false) : ev X d 112 4 (x0 :: x1 :: x2 :: x3 :: L) (.int a :: st) h = ev X d 112 5 (x0 :: x1 :: x2 :: some (.int a) :: L) st h := g_istore_n dJ7_fill_53178_4 (I_st1_3 hx)
theorem e_J7_fill_53178_5 : ev X d 112 5 (x0 :: x1 :: some (.int a) :: L) st h = ev X d 112 6 (x0 :: x1 :: some (.int a) :: L) (.int a :: st) h := g_iload_n dJ7_fill_53178_5 rfl
theorem e_J7_fill_53178_6 : ev X d 112 6 (x0 :: x1 :: x2 :: some (.int a) :: L) st h = ev X d 112 7 (x0 :: x1 :: x2 :: some (.int a) :: L) (.int a :: st) h := g_iload_n dJ7_fill_53178_6 rfl
theorem e_J7_fill_53178_7 : ev X d 112 7 L (.int b :: .int a :: st) h = if b ≤ a then ev X d 112 20 L st h else ev X d 112 10 L st h := g_icmp_ge dJ7_fill_53178_7 (by decide)
theorem e_J7_fill_53178_10 : ev X d 112 10 (some (va_rf r) :: L) st h = ev X d 112 11 (some (va_rf r) :: L) (va_rf r :: st) h := g_aload_n dJ7_fill_53178_10 rfl
theorem e_J7_fill_53178_11 : ev X d 112 11 (x0 :: x1 :: some (.int a) :: L) st h = ev X d 112 12 (x0 :: x1 :: some (.int a) :: L) (.int a :: st) h := g_iload_n dJ7_fill_53178_11 rfl
theorem e_J7_fill_53178_12 : ev X d 112 12 (x0 :: some (.int a) :: L) st h = ev X d 112 13 (x0 :: some (.int a) :: L) (.int a :: st) h := g_iload_n dJ7_fill_53178_12 rfl
theorem e_J7_fill_53178_13 : ev X d 112 13 L (.int v :: .int i :: va_rf (some q) :: st) h = (I_asti X h 0 q i v).bind (fun h => ev X d 112 14 L st h) := g_iast dJ7_fill_53178_13
theorem e_J7_fill_53178_14 (hx : I_c2 x1 = false) : ev X d 112 14 (x0 :: x1 :: some (.int a) :: L) st h = ev X d 112 17 (x0 :: x1 :: some (.int (a + 1)) :: L) st h := g_iinc dJ7_fill_53178_14 (by decide) rfl (I_st1_2 hx)
theorem e_J7_fill_53178_17 : ev X d 112 17 L st h = ev X d 112 5 L st h := g_goto dJ7_fill_53178_17 (by decide)
theorem e_J7_fill_53178_20 : ev X d 112 20 L [] h = some (none, h) := g_vret dJ7_fill_53178_20 rfl
end ROWSA
