section ROWSD
variable {X : I_X} {d : Nat} {L : I_L} {st : List Value} {h : I_H} {a b v i a1 a2 a3 a4 a5 a6 a7 : Int32} {w w1 w2 w3 : UInt64} {l1 l2 : Int64} {r r2 r1 r3 r4 r5 : Option Nat} {q q0 : Nat} {x0 x1 x2 x3 x4 x5 x6 x7 x8 x9 x10 x11 x12 : Option Value}
theorem e_L_law_0 : ev X d 113 0 L st h = ev X d 113 3 L (va_rf (some h.1) :: st) (I_new h (I_N 2) (.inr (2, I_def 2))) := g_new dL_law_0 (by decide) (by decide)
theorem e_L_law_3 : ev X d 113 3 L (va_rf r :: st) h = ev X d 113 4 L (va_rf r :: va_rf r :: st) h := g_dup dL_law_3
theorem e_L_law_3i : ev X d 113 3 L (.int a :: st) h = ev X d 113 4 L (.int a :: .int a :: st) h := g_dupi dL_law_3
theorem e_L_law_4 (hs : I_cat st ≤ 8) : ev X (d + 1) 113 4 L (va_rf (some q) :: st) h = (ev X d 22 0 [some (va_rf (some q)), none] [] h).bind (fun r => ev X (d + 1) 113 7 L (r.1.toList ++ st) r.2) := g_callI (as := []) dL_law_4 (by decide) (by decide) I_np_22 rfl (by simp only [List.reverse_cons, List.reverse_nil, List.nil_append, List.cons_append, I_slots_n, I_slots_i, I_slots_d, I_slots_q, List.length_cons, List.length_nil]; decide) (by simp only [I_ent, List.reverse_cons, List.reverse_nil, List.nil_append, List.cons_append, I_slots_n, I_slots_i, I_slots_d, I_slots_q, List.length_cons, List.length_nil]; rfl) rfl hs
theorem e_L_law_7 (hx : I_c2 x0 = false) : ev X d 113 7 (x0 :: x1 :: L) (va_rf r :: st) h = ev X d 113 8 (x0 :: some (va_rf r) :: L) st h := g_astore_n dL_law_7 (I_st1_1 hx)
theorem e_L_law_8 : ev X d 113 8 L st h = ev X d 113 11 L (va_rf (some h.1) :: st) (I_new h (I_N 3) (.inr (3, I_def 3))) := g_new dL_law_8 (by decide) (by decide)
theorem e_L_law_11 : ev X d 113 11 L (va_rf r :: st) h = ev X d 113 12 L (va_rf r :: va_rf r :: st) h := g_dup dL_law_11
theorem e_L_law_11i : ev X d 113 11 L (.int a :: st) h = ev X d 113 12 L (.int a :: .int a :: st) h := g_dupi dL_law_11
theorem e_L_law_12 (hs : I_cat st ≤ 8) : ev X (d + 1) 113 12 L (va_rf (some q) :: st) h = (ev X d 68 0 [some (va_rf (some q))] [] h).bind (fun r => ev X (d + 1) 113 15 L (r.1.toList ++ st) r.2) := g_callI (as := []) dL_law_12 (by decide) (by decide) I_np_68 rfl (by simp only [List.reverse_cons, List.reverse_nil, List.nil_append, List.cons_append, I_slots_n, I_slots_i, I_slots_d, I_slots_q, List.length_cons, List.length_nil]; decide) (by simp only [I_ent, List.reverse_cons, List.reverse_nil, List.nil_append, List.cons_append, I_slots_n, I_slots_i, I_slots_d, I_slots_q, List.length_cons, List.length_nil]; rfl) rfl hs
theorem e_L_law_15 (hx : I_c2 x1 = false) : ev X d 113 15 (x0 :: x1 :: x2 :: L) (va_rf r :: st) h = ev X d 113 16 (x0 :: x1 :: some (va_rf r) :: L) st h := g_astore_n dL_law_15 (I_st1_2 hx)
theorem e_L_law_16 : ev X d 113 16 L st h = ev X d 113 17 L (.int 0 :: st) h := g_iconst dL_law_16 (by decide)
theorem e_L_law_17 (hx : I_c2 x2 = false) : ev X d 113 17 (x0 :: x1 :: x2 :: x3 :: L) (.int a :: st) h = ev X d 113 18 (x0 :: x1 :: x2 :: some (.int a) :: L) st h := g_istore_n dL_law_17 (I_st1_3 hx)
theorem e_L_law_18 : ev X d 113 18 (x0 :: x1 :: x2 :: some (.int a) :: L) st h = ev X d 113 19 (x0 :: x1 :: x2 :: some (.int a) :: L) (.int a :: st) h := g_iload_n dL_law_18 rfl
theorem e_L_law_19 : ev X d 113 19 (some (va_rf r) :: L) st h = ev X d 113 20 (some (va_rf r) :: L) (va_rf r :: st) h := g_aload_n dL_law_19 rfl
theorem e_L_law_20 : ev X d 113 20 L (va_rf (some q) :: st) h = (I_slen X q).bind (fun v => ev X d 113 21 L (.int v :: st) h) := g_slen dL_law_20 rfl
theorem e_L_law_21 : ev X d 113 21 L st h = ev X d 113 23 L (.int 8 :: st) h := g_bipush dL_law_21 (by decide)
theorem e_L_law_23 : ev X d 113 23 L (.int b :: .int a :: st) h = ev X d 113 24 L (.int (a - b) :: st) h := g_isub dL_law_23
theorem e_L_law_24 : ev X d 113 24 L (.int b :: .int a :: st) h = if b < a then ev X d 113 930 L st h else ev X d 113 27 L st h := g_icmp_gt dL_law_24 (by decide)
theorem e_L_law_27 : ev X d 113 27 (some (va_rf r) :: L) st h = ev X d 113 28 (some (va_rf r) :: L) (va_rf r :: st) h := g_aload_n dL_law_27 rfl
theorem e_L_law_28 : ev X d 113 28 (x0 :: x1 :: x2 :: some (.int a) :: L) st h = ev X d 113 29 (x0 :: x1 :: x2 :: some (.int a) :: L) (.int a :: st) h := g_iload_n dL_law_28 rfl
theorem e_L_law_29 : ev X d 113 29 L (.int i :: va_rf (some q) :: st) h = (I_sld X q i).bind (fun v => ev X d 113 30 L (.int v :: st) h) := g_sld dL_law_29 rfl
theorem e_L_law_30 : ev X d 113 30 L st h = ev X d 113 32 L (.int 31 :: st) h := g_bipush dL_law_30 (by decide)
theorem e_L_law_32 : ev X d 113 32 L (.int b :: .int a :: st) h = ev X d 113 33 L (.int (a &&& b) :: st) h := g_iand dL_law_32
theorem e_L_law_33_0 : ev X d 113 33 L (.int 0 :: st) h = ev X d 113 136 L st h := g_tabI (off := 103) dL_law_33 (by decide) (by decide) (by decide)
theorem e_L_law_33_1 : ev X d 113 33 L (.int 1 :: st) h = ev X d 113 169 L st h := g_tabI (off := 136) dL_law_33 (by decide) (by decide) (by decide)
theorem e_L_law_33_2 : ev X d 113 33 L (.int 2 :: st) h = ev X d 113 212 L st h := g_tabI (off := 179) dL_law_33 (by decide) (by decide) (by decide)
theorem e_L_law_33_3 : ev X d 113 33 L (.int 3 :: st) h = ev X d 113 265 L st h := g_tabI (off := 232) dL_law_33 (by decide) (by decide) (by decide)
theorem e_L_law_33_4 : ev X d 113 33 L (.int 4 :: st) h = ev X d 113 298 L st h := g_tabI (off := 265) dL_law_33 (by decide) (by decide) (by decide)
theorem e_L_law_33_5 : ev X d 113 33 L (.int 5 :: st) h = ev X d 113 351 L st h := g_tabI (off := 318) dL_law_33 (by decide) (by decide) (by decide)
theorem e_L_law_33_6 : ev X d 113 33 L (.int 6 :: st) h = ev X d 113 394 L st h := g_tabI (off := 361) dL_law_33 (by decide) (by decide) (by decide)
theorem e_L_law_33_7 : ev X d 113 33 L (.int 7 :: st) h = ev X d 113 465 L st h := g_tabI (off := 432) dL_law_33 (by decide) (by decide) (by decide)
theorem e_L_law_33_8 : ev X d 113 33 L (.int 8 :: st) h = ev X d 113 508 L st h := g_tabI (off := 475) dL_law_33 (by decide) (by decide) (by decide)
theorem e_L_law_33_9 : ev X d 113 33 L (.int 9 :: st) h = ev X d 113 531 L st h := g_tabI (off := 498) dL_law_33 (by decide) (by decide) (by decide)
theorem e_L_law_33_10 : ev X d 113 33 L (.int 10 :: st) h = ev X d 113 618 L st h := g_tabI (off := 585) dL_law_33 (by decide) (by decide) (by decide)
theorem e_L_law_33_11 : ev X d 113 33 L (.int 11 :: st) h = ev X d 113 641 L st h := g_tabI (off := 608) dL_law_33 (by decide) (by decide) (by decide)
theorem e_L_law_33_12 : ev X d 113 33 L (.int 12 :: st) h = ev X d 113 674 L st h := g_tabI (off := 641) dL_law_33 (by decide) (by decide) (by decide)
theorem e_L_law_33_13 : ev X d 113 33 L (.int 13 :: st) h = ev X d 113 697 L st h := g_tabI (off := 664) dL_law_33 (by decide) (by decide) (by decide)
theorem e_L_law_33_14 : ev X d 113 33 L (.int 14 :: st) h = ev X d 113 720 L st h := g_tabI (off := 687) dL_law_33 (by decide) (by decide) (by decide)
theorem e_L_law_33_15 : ev X d 113 33 L (.int 15 :: st) h = ev X d 113 743 L st h := g_tabI (off := 710) dL_law_33 (by decide) (by decide) (by decide)
theorem e_L_law_33_16 : ev X d 113 33 L (.int 16 :: st) h = ev X d 113 776 L st h := g_tabI (off := 743) dL_law_33 (by decide) (by decide) (by decide)
theorem e_L_law_33_17 : ev X d 113 33 L (.int 17 :: st) h = ev X d 113 829 L st h := g_tabI (off := 796) dL_law_33 (by decide) (by decide) (by decide)
theorem e_L_law_33_18 : ev X d 113 33 L (.int 18 :: st) h = ev X d 113 852 L st h := g_tabI (off := 819) dL_law_33 (by decide) (by decide) (by decide)
theorem e_L_law_33_19 : ev X d 113 33 L (.int 19 :: st) h = ev X d 113 865 L st h := g_tabI (off := 832) dL_law_33 (by decide) (by decide) (by decide)
theorem e_L_law_33_20 : ev X d 113 33 L (.int 20 :: st) h = ev X d 113 888 L st h := g_tabI (off := 855) dL_law_33 (by decide) (by decide) (by decide)
theorem e_L_law_33_21 : ev X d 113 33 L (.int 21 :: st) h = ev X d 113 911 L st h := g_tabI (off := 878) dL_law_33 (by decide) (by decide) (by decide)
theorem e_L_law_33_d (hx : a.toInt < 0 ∨ 21 < a.toInt) : ev X d 113 33 L (.int a :: st) h = ev X d 113 924 L st h := g_tabO dL_law_33 hx (by decide)
theorem e_L_law_136 : ev X d 113 136 (x0 :: some (va_rf r) :: L) st h = ev X d 113 137 (x0 :: some (va_rf r) :: L) (va_rf r :: st) h := g_aload_n dL_law_136 rfl
theorem e_L_law_137 : ev X d 113 137 (some (va_rf r) :: L) st h = ev X d 113 138 (some (va_rf r) :: L) (va_rf r :: st) h := g_aload_n dL_law_137 rfl
theorem e_L_law_138 : ev X d 113 138 (x0 :: x1 :: x2 :: some (.int a) :: L) st h = ev X d 113 139 (x0 :: x1 :: x2 :: some (.int a) :: L) (.int a :: st) h := g_iload_n dL_law_138 rfl
theorem e_L_law_139 : ev X d 113 139 L st h = ev X d 113 140 L (.int 1 :: st) h := g_iconst dL_law_139 (by decide)
theorem e_L_law_140 : ev X d 113 140 L (.int b :: .int a :: st) h = ev X d 113 141 L (.int (a + b) :: st) h := g_iadd dL_law_140
theorem e_L_law_141 : ev X d 113 141 L (.int i :: va_rf (some q) :: st) h = (I_sld X q i).bind (fun v => ev X d 113 142 L (.int v :: st) h) := g_sld dL_law_141 rfl
theorem e_L_law_142 : ev X d 113 142 (some (va_rf r) :: L) st h = ev X d 113 143 (some (va_rf r) :: L) (va_rf r :: st) h := g_aload_n dL_law_142 rfl
theorem e_L_law_143 : ev X d 113 143 (x0 :: x1 :: x2 :: some (.int a) :: L) st h = ev X d 113 144 (x0 :: x1 :: x2 :: some (.int a) :: L) (.int a :: st) h := g_iload_n dL_law_143 rfl
theorem e_L_law_144 : ev X d 113 144 L st h = ev X d 113 145 L (.int 2 :: st) h := g_iconst dL_law_144 (by decide)
theorem e_L_law_145 : ev X d 113 145 L (.int b :: .int a :: st) h = ev X d 113 146 L (.int (a + b) :: st) h := g_iadd dL_law_145
theorem e_L_law_146 : ev X d 113 146 L (.int i :: va_rf (some q) :: st) h = (I_sld X q i).bind (fun v => ev X d 113 147 L (.int v :: st) h) := g_sld dL_law_146 rfl
theorem e_L_law_147 (hc : I_isC X h q 2 = true) (hs : I_cat st ≤ 8) : ev X (d + 1) 113 147 L (.int a2 :: .int a1 :: va_rf (some q) :: st) h = (ev X d 23 0 [some (va_rf (some q)), some (.int a1), some (.int a2)] [] h).bind (fun r => ev X (d + 1) 113 150 L (r.1.toList ++ st) r.2) := g_callV (as := [.int a2, .int a1]) dL_law_147 (by decide) (by decide) I_np_23 rfl (by simp only [List.reverse_cons, List.reverse_nil, List.nil_append, List.cons_append, I_slots_n, I_slots_i, I_slots_d, I_slots_q, List.length_cons, List.length_nil]; decide) (by simp only [I_ent, List.reverse_cons, List.reverse_nil, List.nil_append, List.cons_append, I_slots_n, I_slots_i, I_slots_d, I_slots_q, List.length_cons, List.length_nil]; rfl) rfl hc hs
theorem e_L_law_150 : ev X d 113 150 (x0 :: x1 :: some (va_rf r) :: L) st h = ev X d 113 151 (x0 :: x1 :: some (va_rf r) :: L) (va_rf r :: st) h := g_aload_n dL_law_150 rfl
theorem e_L_law_151 : ev X d 113 151 (some (va_rf r) :: L) st h = ev X d 113 152 (some (va_rf r) :: L) (va_rf r :: st) h := g_aload_n dL_law_151 rfl
theorem e_L_law_152 : ev X d 113 152 (x0 :: x1 :: x2 :: some (.int a) :: L) st h = ev X d 113 153 (x0 :: x1 :: x2 :: some (.int a) :: L) (.int a :: st) h := g_iload_n dL_law_152 rfl
theorem e_L_law_153 : ev X d 113 153 L st h = ev X d 113 154 L (.int 1 :: st) h := g_iconst dL_law_153 (by decide)
theorem e_L_law_154 : ev X d 113 154 L (.int b :: .int a :: st) h = ev X d 113 155 L (.int (a + b) :: st) h := g_iadd dL_law_154
theorem e_L_law_155 : ev X d 113 155 L (.int i :: va_rf (some q) :: st) h = (I_sld X q i).bind (fun v => ev X d 113 156 L (.int v :: st) h) := g_sld dL_law_155 rfl
theorem e_L_law_156 : ev X d 113 156 (some (va_rf r) :: L) st h = ev X d 113 157 (some (va_rf r) :: L) (va_rf r :: st) h := g_aload_n dL_law_156 rfl
theorem e_L_law_157 : ev X d 113 157 (x0 :: x1 :: x2 :: some (.int a) :: L) st h = ev X d 113 158 (x0 :: x1 :: x2 :: some (.int a) :: L) (.int a :: st) h := g_iload_n dL_law_157 rfl
theorem e_L_law_158 : ev X d 113 158 L st h = ev X d 113 159 L (.int 2 :: st) h := g_iconst dL_law_158 (by decide)
theorem e_L_law_159 : ev X d 113 159 L (.int b :: .int a :: st) h = ev X d 113 160 L (.int (a + b) :: st) h := g_iadd dL_law_159
theorem e_L_law_160 : ev X d 113 160 L (.int i :: va_rf (some q) :: st) h = (I_sld X q i).bind (fun v => ev X d 113 161 L (.int v :: st) h) := g_sld dL_law_160 rfl
theorem e_L_law_161 (hc : I_isC X h q 3 = true) (hs : I_cat st ≤ 8) : ev X (d + 1) 113 161 L (.int a2 :: .int a1 :: va_rf (some q) :: st) h = (ev X d 75 0 [some (va_rf (some q)), some (.int a1), some (.int a2)] [] h).bind (fun r => ev X (d + 1) 113 164 L (r.1.toList ++ st) r.2) := g_callV (as := [.int a2, .int a1]) dL_law_161 (by decide) (by decide) I_np_75 rfl (by simp only [List.reverse_cons, List.reverse_nil, List.nil_append, List.cons_append, I_slots_n, I_slots_i, I_slots_d, I_slots_q, List.length_cons, List.length_nil]; decide) (by simp only [I_ent, List.reverse_cons, List.reverse_nil, List.nil_append, List.cons_append, I_slots_n, I_slots_i, I_slots_d, I_slots_q, List.length_cons, List.length_nil]; rfl) rfl hc hs
theorem e_L_law_164 : ev X d 113 164 L (.int b :: .int a :: st) h = if a = b then ev X d 113 924 L st h else ev X d 113 167 L st h := g_icmp_eq dL_law_164 (by decide)
theorem e_L_law_167 : ev X d 113 167 L st h = ev X d 113 168 L (.int 0 :: st) h := g_iconst dL_law_167 (by decide)
theorem e_L_law_168 (ha : a = 0 ∨ a = 1) : ev X d 113 168 L [.int a] h = some (some (.int a), h) := g_zret dL_law_168 rfl ha
theorem e_L_law_169 : ev X d 113 169 (x0 :: some (va_rf r) :: L) st h = ev X d 113 170 (x0 :: some (va_rf r) :: L) (va_rf r :: st) h := g_aload_n dL_law_169 rfl
theorem e_L_law_170 : ev X d 113 170 (some (va_rf r) :: L) st h = ev X d 113 171 (some (va_rf r) :: L) (va_rf r :: st) h := g_aload_n dL_law_170 rfl
theorem e_L_law_171 : ev X d 113 171 (x0 :: x1 :: x2 :: some (.int a) :: L) st h = ev X d 113 172 (x0 :: x1 :: x2 :: some (.int a) :: L) (.int a :: st) h := g_iload_n dL_law_171 rfl
theorem e_L_law_172 : ev X d 113 172 L st h = ev X d 113 173 L (.int 1 :: st) h := g_iconst dL_law_172 (by decide)
theorem e_L_law_173 : ev X d 113 173 L (.int b :: .int a :: st) h = ev X d 113 174 L (.int (a + b) :: st) h := g_iadd dL_law_173
theorem e_L_law_174 : ev X d 113 174 L (.int i :: va_rf (some q) :: st) h = (I_sld X q i).bind (fun v => ev X d 113 175 L (.int v :: st) h) := g_sld dL_law_174 rfl
theorem e_L_law_175 : ev X d 113 175 (some (va_rf r) :: L) st h = ev X d 113 176 (some (va_rf r) :: L) (va_rf r :: st) h := g_aload_n dL_law_175 rfl
theorem e_L_law_176 : ev X d 113 176 (x0 :: x1 :: x2 :: some (.int a) :: L) st h = ev X d 113 177 (x0 :: x1 :: x2 :: some (.int a) :: L) (.int a :: st) h := g_iload_n dL_law_176 rfl
theorem e_L_law_177 : ev X d 113 177 L st h = ev X d 113 178 L (.int 2 :: st) h := g_iconst dL_law_177 (by decide)
theorem e_L_law_178 : ev X d 113 178 L (.int b :: .int a :: st) h = ev X d 113 179 L (.int (a + b) :: st) h := g_iadd dL_law_178
theorem e_L_law_179 : ev X d 113 179 L (.int i :: va_rf (some q) :: st) h = (I_sld X q i).bind (fun v => ev X d 113 180 L (.int v :: st) h) := g_sld dL_law_179 rfl
theorem e_L_law_180 : ev X d 113 180 (some (va_rf r) :: L) st h = ev X d 113 181 (some (va_rf r) :: L) (va_rf r :: st) h := g_aload_n dL_law_180 rfl
theorem e_L_law_181 : ev X d 113 181 (x0 :: x1 :: x2 :: some (.int a) :: L) st h = ev X d 113 182 (x0 :: x1 :: x2 :: some (.int a) :: L) (.int a :: st) h := g_iload_n dL_law_181 rfl
theorem e_L_law_182 : ev X d 113 182 L st h = ev X d 113 183 L (.int 3 :: st) h := g_iconst dL_law_182 (by decide)
theorem e_L_law_183 : ev X d 113 183 L (.int b :: .int a :: st) h = ev X d 113 184 L (.int (a + b) :: st) h := g_iadd dL_law_183
theorem e_L_law_184 : ev X d 113 184 L (.int i :: va_rf (some q) :: st) h = (I_sld X q i).bind (fun v => ev X d 113 185 L (.int v :: st) h) := g_sld dL_law_184 rfl
theorem e_L_law_185 (hc : I_isC X h q 2 = true) (hs : I_cat st ≤ 8) : ev X (d + 1) 113 185 L (.int a3 :: .int a2 :: .int a1 :: va_rf (some q) :: st) h = (ev X d 24 0 [some (va_rf (some q)), some (.int a1), some (.int a2), some (.int a3), none] [] h).bind (fun r => ev X (d + 1) 113 188 L (r.1.toList ++ st) r.2) := g_callV (as := [.int a3, .int a2, .int a1]) dL_law_185 (by decide) (by decide) I_np_24 rfl (by simp only [List.reverse_cons, List.reverse_nil, List.nil_append, List.cons_append, I_slots_n, I_slots_i, I_slots_d, I_slots_q, List.length_cons, List.length_nil]; decide) (by simp only [I_ent, List.reverse_cons, List.reverse_nil, List.nil_append, List.cons_append, I_slots_n, I_slots_i, I_slots_d, I_slots_q, List.length_cons, List.length_nil]; rfl) rfl hc hs
theorem e_L_law_188 : ev X d 113 188 (x0 :: x1 :: some (va_rf r) :: L) st h = ev X d 113 189 (x0 :: x1 :: some (va_rf r) :: L) (va_rf r :: st) h := g_aload_n dL_law_188 rfl
theorem e_L_law_189 : ev X d 113 189 (some (va_rf r) :: L) st h = ev X d 113 190 (some (va_rf r) :: L) (va_rf r :: st) h := g_aload_n dL_law_189 rfl
theorem e_L_law_190 : ev X d 113 190 (x0 :: x1 :: x2 :: some (.int a) :: L) st h = ev X d 113 191 (x0 :: x1 :: x2 :: some (.int a) :: L) (.int a :: st) h := g_iload_n dL_law_190 rfl
theorem e_L_law_191 : ev X d 113 191 L st h = ev X d 113 192 L (.int 1 :: st) h := g_iconst dL_law_191 (by decide)
theorem e_L_law_192 : ev X d 113 192 L (.int b :: .int a :: st) h = ev X d 113 193 L (.int (a + b) :: st) h := g_iadd dL_law_192
theorem e_L_law_193 : ev X d 113 193 L (.int i :: va_rf (some q) :: st) h = (I_sld X q i).bind (fun v => ev X d 113 194 L (.int v :: st) h) := g_sld dL_law_193 rfl
theorem e_L_law_194 : ev X d 113 194 (some (va_rf r) :: L) st h = ev X d 113 195 (some (va_rf r) :: L) (va_rf r :: st) h := g_aload_n dL_law_194 rfl
theorem e_L_law_195 : ev X d 113 195 (x0 :: x1 :: x2 :: some (.int a) :: L) st h = ev X d 113 196 (x0 :: x1 :: x2 :: some (.int a) :: L) (.int a :: st) h := g_iload_n dL_law_195 rfl
theorem e_L_law_196 : ev X d 113 196 L st h = ev X d 113 197 L (.int 2 :: st) h := g_iconst dL_law_196 (by decide)
theorem e_L_law_197 : ev X d 113 197 L (.int b :: .int a :: st) h = ev X d 113 198 L (.int (a + b) :: st) h := g_iadd dL_law_197
theorem e_L_law_198 : ev X d 113 198 L (.int i :: va_rf (some q) :: st) h = (I_sld X q i).bind (fun v => ev X d 113 199 L (.int v :: st) h) := g_sld dL_law_198 rfl
theorem e_L_law_199 : ev X d 113 199 (some (va_rf r) :: L) st h = ev X d 113 200 (some (va_rf r) :: L) (va_rf r :: st) h := g_aload_n dL_law_199 rfl
theorem e_L_law_200 : ev X d 113 200 (x0 :: x1 :: x2 :: some (.int a) :: L) st h = ev X d 113 201 (x0 :: x1 :: x2 :: some (.int a) :: L) (.int a :: st) h := g_iload_n dL_law_200 rfl
theorem e_L_law_201 : ev X d 113 201 L st h = ev X d 113 202 L (.int 3 :: st) h := g_iconst dL_law_201 (by decide)
theorem e_L_law_202 : ev X d 113 202 L (.int b :: .int a :: st) h = ev X d 113 203 L (.int (a + b) :: st) h := g_iadd dL_law_202
theorem e_L_law_203 : ev X d 113 203 L (.int i :: va_rf (some q) :: st) h = (I_sld X q i).bind (fun v => ev X d 113 204 L (.int v :: st) h) := g_sld dL_law_203 rfl
theorem e_L_law_204 (hc : I_isC X h q 3 = true) (hs : I_cat st ≤ 8) : ev X (d + 1) 113 204 L (.int a3 :: .int a2 :: .int a1 :: va_rf (some q) :: st) h = (ev X d 77 0 [some (va_rf (some q)), some (.int a1), some (.int a2), some (.int a3)] [] h).bind (fun r => ev X (d + 1) 113 207 L (r.1.toList ++ st) r.2) := g_callV (as := [.int a3, .int a2, .int a1]) dL_law_204 (by decide) (by decide) I_np_77 rfl (by simp only [List.reverse_cons, List.reverse_nil, List.nil_append, List.cons_append, I_slots_n, I_slots_i, I_slots_d, I_slots_q, List.length_cons, List.length_nil]; decide) (by simp only [I_ent, List.reverse_cons, List.reverse_nil, List.nil_append, List.cons_append, I_slots_n, I_slots_i, I_slots_d, I_slots_q, List.length_cons, List.length_nil]; rfl) rfl hc hs
theorem e_L_law_207 : ev X d 113 207 L (.int b :: .int a :: st) h = if a = b then ev X d 113 924 L st h else ev X d 113 210 L st h := g_icmp_eq dL_law_207 (by decide)
theorem e_L_law_210 : ev X d 113 210 L st h = ev X d 113 211 L (.int 0 :: st) h := g_iconst dL_law_210 (by decide)
theorem e_L_law_211 (ha : a = 0 ∨ a = 1) : ev X d 113 211 L [.int a] h = some (some (.int a), h) := g_zret dL_law_211 rfl ha
theorem e_L_law_212 : ev X d 113 212 (x0 :: some (va_rf r) :: L) st h = ev X d 113 213 (x0 :: some (va_rf r) :: L) (va_rf r :: st) h := g_aload_n dL_law_212 rfl
theorem e_L_law_213 : ev X d 113 213 (some (va_rf r) :: L) st h = ev X d 113 214 (some (va_rf r) :: L) (va_rf r :: st) h := g_aload_n dL_law_213 rfl
theorem e_L_law_214 : ev X d 113 214 (x0 :: x1 :: x2 :: some (.int a) :: L) st h = ev X d 113 215 (x0 :: x1 :: x2 :: some (.int a) :: L) (.int a :: st) h := g_iload_n dL_law_214 rfl
theorem e_L_law_215 : ev X d 113 215 L st h = ev X d 113 216 L (.int 1 :: st) h := g_iconst dL_law_215 (by decide)
theorem e_L_law_216 : ev X d 113 216 L (.int b :: .int a :: st) h = ev X d 113 217 L (.int (a + b) :: st) h := g_iadd dL_law_216
theorem e_L_law_217 : ev X d 113 217 L (.int i :: va_rf (some q) :: st) h = (I_sld X q i).bind (fun v => ev X d 113 218 L (.int v :: st) h) := g_sld dL_law_217 rfl
theorem e_L_law_218 : ev X d 113 218 (some (va_rf r) :: L) st h = ev X d 113 219 (some (va_rf r) :: L) (va_rf r :: st) h := g_aload_n dL_law_218 rfl
theorem e_L_law_219 : ev X d 113 219 (x0 :: x1 :: x2 :: some (.int a) :: L) st h = ev X d 113 220 (x0 :: x1 :: x2 :: some (.int a) :: L) (.int a :: st) h := g_iload_n dL_law_219 rfl
theorem e_L_law_220 : ev X d 113 220 L st h = ev X d 113 221 L (.int 2 :: st) h := g_iconst dL_law_220 (by decide)
theorem e_L_law_221 : ev X d 113 221 L (.int b :: .int a :: st) h = ev X d 113 222 L (.int (a + b) :: st) h := g_iadd dL_law_221
theorem e_L_law_222 : ev X d 113 222 L (.int i :: va_rf (some q) :: st) h = (I_sld X q i).bind (fun v => ev X d 113 223 L (.int v :: st) h) := g_sld dL_law_222 rfl
theorem e_L_law_223 : ev X d 113 223 (some (va_rf r) :: L) st h = ev X d 113 224 (some (va_rf r) :: L) (va_rf r :: st) h := g_aload_n dL_law_223 rfl
theorem e_L_law_224 : ev X d 113 224 (x0 :: x1 :: x2 :: some (.int a) :: L) st h = ev X d 113 225 (x0 :: x1 :: x2 :: some (.int a) :: L) (.int a :: st) h := g_iload_n dL_law_224 rfl
theorem e_L_law_225 : ev X d 113 225 L st h = ev X d 113 226 L (.int 3 :: st) h := g_iconst dL_law_225 (by decide)
theorem e_L_law_226 : ev X d 113 226 L (.int b :: .int a :: st) h = ev X d 113 227 L (.int (a + b) :: st) h := g_iadd dL_law_226
theorem e_L_law_227 : ev X d 113 227 L (.int i :: va_rf (some q) :: st) h = (I_sld X q i).bind (fun v => ev X d 113 228 L (.int v :: st) h) := g_sld dL_law_227 rfl
theorem e_L_law_228 : ev X d 113 228 (some (va_rf r) :: L) st h = ev X d 113 229 (some (va_rf r) :: L) (va_rf r :: st) h := g_aload_n dL_law_228 rfl
theorem e_L_law_229 : ev X d 113 229 (x0 :: x1 :: x2 :: some (.int a) :: L) st h = ev X d 113 230 (x0 :: x1 :: x2 :: some (.int a) :: L) (.int a :: st) h := g_iload_n dL_law_229 rfl
theorem e_L_law_230 : ev X d 113 230 L st h = ev X d 113 231 L (.int 4 :: st) h := g_iconst dL_law_230 (by decide)
theorem e_L_law_231 : ev X d 113 231 L (.int b :: .int a :: st) h = ev X d 113 232 L (.int (a + b) :: st) h := g_iadd dL_law_231
theorem e_L_law_232 : ev X d 113 232 L (.int i :: va_rf (some q) :: st) h = (I_sld X q i).bind (fun v => ev X d 113 233 L (.int v :: st) h) := g_sld dL_law_232 rfl
theorem e_L_law_233 (hc : I_isC X h q 2 = true) (hs : I_cat st ≤ 8) : ev X (d + 1) 113 233 L (.int a4 :: .int a3 :: .int a2 :: .int a1 :: va_rf (some q) :: st) h = (ev X d 25 0 [some (va_rf (some q)), some (.int a1), some (.int a2), some (.int a3), some (.int a4), none, none] [] h).bind (fun r => ev X (d + 1) 113 236 L (r.1.toList ++ st) r.2) := g_callV (as := [.int a4, .int a3, .int a2, .int a1]) dL_law_233 (by decide) (by decide) I_np_25 rfl (by simp only [List.reverse_cons, List.reverse_nil, List.nil_append, List.cons_append, I_slots_n, I_slots_i, I_slots_d, I_slots_q, List.length_cons, List.length_nil]; decide) (by simp only [I_ent, List.reverse_cons, List.reverse_nil, List.nil_append, List.cons_append, I_slots_n, I_slots_i, I_slots_d, I_slots_q, List.length_cons, List.length_nil]; rfl) rfl hc hs
theorem e_L_law_236 : ev X d 113 236 (x0 :: x1 :: some (va_rf r) :: L) st h = ev X d 113 237 (x0 :: x1 :: some (va_rf r) :: L) (va_rf r :: st) h := g_aload_n dL_law_236 rfl
theorem e_L_law_237 : ev X d 113 237 (some (va_rf r) :: L) st h = ev X d 113 238 (some (va_rf r) :: L) (va_rf r :: st) h := g_aload_n dL_law_237 rfl
theorem e_L_law_238 : ev X d 113 238 (x0 :: x1 :: x2 :: some (.int a) :: L) st h = ev X d 113 239 (x0 :: x1 :: x2 :: some (.int a) :: L) (.int a :: st) h := g_iload_n dL_law_238 rfl
theorem e_L_law_239 : ev X d 113 239 L st h = ev X d 113 240 L (.int 1 :: st) h := g_iconst dL_law_239 (by decide)
theorem e_L_law_240 : ev X d 113 240 L (.int b :: .int a :: st) h = ev X d 113 241 L (.int (a + b) :: st) h := g_iadd dL_law_240
theorem e_L_law_241 : ev X d 113 241 L (.int i :: va_rf (some q) :: st) h = (I_sld X q i).bind (fun v => ev X d 113 242 L (.int v :: st) h) := g_sld dL_law_241 rfl
theorem e_L_law_242 : ev X d 113 242 (some (va_rf r) :: L) st h = ev X d 113 243 (some (va_rf r) :: L) (va_rf r :: st) h := g_aload_n dL_law_242 rfl
theorem e_L_law_243 : ev X d 113 243 (x0 :: x1 :: x2 :: some (.int a) :: L) st h = ev X d 113 244 (x0 :: x1 :: x2 :: some (.int a) :: L) (.int a :: st) h := g_iload_n dL_law_243 rfl
theorem e_L_law_244 : ev X d 113 244 L st h = ev X d 113 245 L (.int 2 :: st) h := g_iconst dL_law_244 (by decide)
theorem e_L_law_245 : ev X d 113 245 L (.int b :: .int a :: st) h = ev X d 113 246 L (.int (a + b) :: st) h := g_iadd dL_law_245
theorem e_L_law_246 : ev X d 113 246 L (.int i :: va_rf (some q) :: st) h = (I_sld X q i).bind (fun v => ev X d 113 247 L (.int v :: st) h) := g_sld dL_law_246 rfl
theorem e_L_law_247 : ev X d 113 247 (some (va_rf r) :: L) st h = ev X d 113 248 (some (va_rf r) :: L) (va_rf r :: st) h := g_aload_n dL_law_247 rfl
theorem e_L_law_248 : ev X d 113 248 (x0 :: x1 :: x2 :: some (.int a) :: L) st h = ev X d 113 249 (x0 :: x1 :: x2 :: some (.int a) :: L) (.int a :: st) h := g_iload_n dL_law_248 rfl
theorem e_L_law_249 : ev X d 113 249 L st h = ev X d 113 250 L (.int 3 :: st) h := g_iconst dL_law_249 (by decide)
theorem e_L_law_250 : ev X d 113 250 L (.int b :: .int a :: st) h = ev X d 113 251 L (.int (a + b) :: st) h := g_iadd dL_law_250
theorem e_L_law_251 : ev X d 113 251 L (.int i :: va_rf (some q) :: st) h = (I_sld X q i).bind (fun v => ev X d 113 252 L (.int v :: st) h) := g_sld dL_law_251 rfl
theorem e_L_law_252 : ev X d 113 252 (some (va_rf r) :: L) st h = ev X d 113 253 (some (va_rf r) :: L) (va_rf r :: st) h := g_aload_n dL_law_252 rfl
theorem e_L_law_253 : ev X d 113 253 (x0 :: x1 :: x2 :: some (.int a) :: L) st h = ev X d 113 254 (x0 :: x1 :: x2 :: some (.int a) :: L) (.int a :: st) h := g_iload_n dL_law_253 rfl
theorem e_L_law_254 : ev X d 113 254 L st h = ev X d 113 255 L (.int 4 :: st) h := g_iconst dL_law_254 (by decide)
theorem e_L_law_255 : ev X d 113 255 L (.int b :: .int a :: st) h = ev X d 113 256 L (.int (a + b) :: st) h := g_iadd dL_law_255
theorem e_L_law_256 : ev X d 113 256 L (.int i :: va_rf (some q) :: st) h = (I_sld X q i).bind (fun v => ev X d 113 257 L (.int v :: st) h) := g_sld dL_law_256 rfl
theorem e_L_law_257 (hc : I_isC X h q 3 = true) (hs : I_cat st ≤ 8) : ev X (d + 1) 113 257 L (.int a4 :: .int a3 :: .int a2 :: .int a1 :: va_rf (some q) :: st) h = (ev X d 79 0 [some (va_rf (some q)), some (.int a1), some (.int a2), some (.int a3), some (.int a4), none] [] h).bind (fun r => ev X (d + 1) 113 260 L (r.1.toList ++ st) r.2) := g_callV (as := [.int a4, .int a3, .int a2, .int a1]) dL_law_257 (by decide) (by decide) I_np_79 rfl (by simp only [List.reverse_cons, List.reverse_nil, List.nil_append, List.cons_append, I_slots_n, I_slots_i, I_slots_d, I_slots_q, List.length_cons, List.length_nil]; decide) (by simp only [I_ent, List.reverse_cons, List.reverse_nil, List.nil_append, List.cons_append, I_slots_n, I_slots_i, I_slots_d, I_slots_q, List.length_cons, List.length_nil]; rfl) rfl hc hs
theorem e_L_law_260 : ev X d 113 260 L (.int b :: .int a :: st) h = if a = b then ev X d 113 924 L st h else ev X d 113 263 L st h := g_icmp_eq dL_law_260 (by decide)
theorem e_L_law_263 : ev X d 113 263 L st h = ev X d 113 264 L (.int 0 :: st) h := g_iconst dL_law_263 (by decide)
theorem e_L_law_264 (ha : a = 0 ∨ a = 1) : ev X d 113 264 L [.int a] h = some (some (.int a), h) := g_zret dL_law_264 rfl ha
theorem e_L_law_265 : ev X d 113 265 (x0 :: some (va_rf r) :: L) st h = ev X d 113 266 (x0 :: some (va_rf r) :: L) (va_rf r :: st) h := g_aload_n dL_law_265 rfl
theorem e_L_law_266 : ev X d 113 266 (some (va_rf r) :: L) st h = ev X d 113 267 (some (va_rf r) :: L) (va_rf r :: st) h := g_aload_n dL_law_266 rfl
theorem e_L_law_267 : ev X d 113 267 (x0 :: x1 :: x2 :: some (.int a) :: L) st h = ev X d 113 268 (x0 :: x1 :: x2 :: some (.int a) :: L) (.int a :: st) h := g_iload_n dL_law_267 rfl
theorem e_L_law_268 : ev X d 113 268 L st h = ev X d 113 269 L (.int 1 :: st) h := g_iconst dL_law_268 (by decide)
theorem e_L_law_269 : ev X d 113 269 L (.int b :: .int a :: st) h = ev X d 113 270 L (.int (a + b) :: st) h := g_iadd dL_law_269
theorem e_L_law_270 : ev X d 113 270 L (.int i :: va_rf (some q) :: st) h = (I_sld X q i).bind (fun v => ev X d 113 271 L (.int v :: st) h) := g_sld dL_law_270 rfl
theorem e_L_law_271 : ev X d 113 271 (some (va_rf r) :: L) st h = ev X d 113 272 (some (va_rf r) :: L) (va_rf r :: st) h := g_aload_n dL_law_271 rfl
theorem e_L_law_272 : ev X d 113 272 (x0 :: x1 :: x2 :: some (.int a) :: L) st h = ev X d 113 273 (x0 :: x1 :: x2 :: some (.int a) :: L) (.int a :: st) h := g_iload_n dL_law_272 rfl
theorem e_L_law_273 : ev X d 113 273 L st h = ev X d 113 274 L (.int 2 :: st) h := g_iconst dL_law_273 (by decide)
theorem e_L_law_274 : ev X d 113 274 L (.int b :: .int a :: st) h = ev X d 113 275 L (.int (a + b) :: st) h := g_iadd dL_law_274
theorem e_L_law_275 : ev X d 113 275 L (.int i :: va_rf (some q) :: st) h = (I_sld X q i).bind (fun v => ev X d 113 276 L (.int v :: st) h) := g_sld dL_law_275 rfl
theorem e_L_law_276 (hc : I_isC X h q 2 = true) (hs : I_cat st ≤ 8) : ev X (d + 1) 113 276 L (.int a2 :: .int a1 :: va_rf (some q) :: st) h = (ev X d 26 0 [some (va_rf (some q)), some (.int a1), some (.int a2), none, none] [] h).bind (fun r => ev X (d + 1) 113 279 L (r.1.toList ++ st) r.2) := g_callV (as := [.int a2, .int a1]) dL_law_276 (by decide) (by decide) I_np_26 rfl (by simp only [List.reverse_cons, List.reverse_nil, List.nil_append, List.cons_append, I_slots_n, I_slots_i, I_slots_d, I_slots_q, List.length_cons, List.length_nil]; decide) (by simp only [I_ent, List.reverse_cons, List.reverse_nil, List.nil_append, List.cons_append, I_slots_n, I_slots_i, I_slots_d, I_slots_q, List.length_cons, List.length_nil]; rfl) rfl hc hs
theorem e_L_law_279 : ev X d 113 279 (x0 :: x1 :: some (va_rf r) :: L) st h = ev X d 113 280 (x0 :: x1 :: some (va_rf r) :: L) (va_rf r :: st) h := g_aload_n dL_law_279 rfl
theorem e_L_law_280 : ev X d 113 280 (some (va_rf r) :: L) st h = ev X d 113 281 (some (va_rf r) :: L) (va_rf r :: st) h := g_aload_n dL_law_280 rfl
theorem e_L_law_281 : ev X d 113 281 (x0 :: x1 :: x2 :: some (.int a) :: L) st h = ev X d 113 282 (x0 :: x1 :: x2 :: some (.int a) :: L) (.int a :: st) h := g_iload_n dL_law_281 rfl
theorem e_L_law_282 : ev X d 113 282 L st h = ev X d 113 283 L (.int 1 :: st) h := g_iconst dL_law_282 (by decide)
theorem e_L_law_283 : ev X d 113 283 L (.int b :: .int a :: st) h = ev X d 113 284 L (.int (a + b) :: st) h := g_iadd dL_law_283
theorem e_L_law_284 : ev X d 113 284 L (.int i :: va_rf (some q) :: st) h = (I_sld X q i).bind (fun v => ev X d 113 285 L (.int v :: st) h) := g_sld dL_law_284 rfl
theorem e_L_law_285 : ev X d 113 285 (some (va_rf r) :: L) st h = ev X d 113 286 (some (va_rf r) :: L) (va_rf r :: st) h := g_aload_n dL_law_285 rfl
theorem e_L_law_286 : ev X d 113 286 (x0 :: x1 :: x2 :: some (.int a) :: L) st h = ev X d 113 287 (x0 :: x1 :: x2 :: some (.int a) :: L) (.int a :: st) h := g_iload_n dL_law_286 rfl
theorem e_L_law_287 : ev X d 113 287 L st h = ev X d 113 288 L (.int 2 :: st) h := g_iconst dL_law_287 (by decide)
theorem e_L_law_288 : ev X d 113 288 L (.int b :: .int a :: st) h = ev X d 113 289 L (.int (a + b) :: st) h := g_iadd dL_law_288
theorem e_L_law_289 : ev X d 113 289 L (.int i :: va_rf (some q) :: st) h = (I_sld X q i).bind (fun v => ev X d 113 290 L (.int v :: st) h) := g_sld dL_law_289 rfl
theorem e_L_law_290 (hc : I_isC X h q 3 = true) (hs : I_cat st ≤ 8) : ev X (d + 1) 113 290 L (.int a2 :: .int a1 :: va_rf (some q) :: st) h = (ev X d 80 0 [some (va_rf (some q)), some (.int a1), some (.int a2), none] [] h).bind (fun r => ev X (d + 1) 113 293 L (r.1.toList ++ st) r.2) := g_callV (as := [.int a2, .int a1]) dL_law_290 (by decide) (by decide) I_np_80 rfl (by simp only [List.reverse_cons, List.reverse_nil, List.nil_append, List.cons_append, I_slots_n, I_slots_i, I_slots_d, I_slots_q, List.length_cons, List.length_nil]; decide) (by simp only [I_ent, List.reverse_cons, List.reverse_nil, List.nil_append, List.cons_append, I_slots_n, I_slots_i, I_slots_d, I_slots_q, List.length_cons, List.length_nil]; rfl) rfl hc hs
theorem e_L_law_293 : ev X d 113 293 L (.int b :: .int a :: st) h = if a = b then ev X d 113 924 L st h else ev X d 113 296 L st h := g_icmp_eq dL_law_293 (by decide)
theorem e_L_law_296 : ev X d 113 296 L st h = ev X d 113 297 L (.int 0 :: st) h := g_iconst dL_law_296 (by decide)
theorem e_L_law_297 (ha : a = 0 ∨ a = 1) : ev X d 113 297 L [.int a] h = some (some (.int a), h) := g_zret dL_law_297 rfl ha
theorem e_L_law_298 : ev X d 113 298 (x0 :: some (va_rf r) :: L) st h = ev X d 113 299 (x0 :: some (va_rf r) :: L) (va_rf r :: st) h := g_aload_n dL_law_298 rfl
theorem e_L_law_299 : ev X d 113 299 (some (va_rf r) :: L) st h = ev X d 113 300 (some (va_rf r) :: L) (va_rf r :: st) h := g_aload_n dL_law_299 rfl
theorem e_L_law_300 : ev X d 113 300 (x0 :: x1 :: x2 :: some (.int a) :: L) st h = ev X d 113 301 (x0 :: x1 :: x2 :: some (.int a) :: L) (.int a :: st) h := g_iload_n dL_law_300 rfl
theorem e_L_law_301 : ev X d 113 301 L st h = ev X d 113 302 L (.int 1 :: st) h := g_iconst dL_law_301 (by decide)
theorem e_L_law_302 : ev X d 113 302 L (.int b :: .int a :: st) h = ev X d 113 303 L (.int (a + b) :: st) h := g_iadd dL_law_302
theorem e_L_law_303 : ev X d 113 303 L (.int i :: va_rf (some q) :: st) h = (I_sld X q i).bind (fun v => ev X d 113 304 L (.int v :: st) h) := g_sld dL_law_303 rfl
theorem e_L_law_304 : ev X d 113 304 (some (va_rf r) :: L) st h = ev X d 113 305 (some (va_rf r) :: L) (va_rf r :: st) h := g_aload_n dL_law_304 rfl
theorem e_L_law_305 : ev X d 113 305 (x0 :: x1 :: x2 :: some (.int a) :: L) st h = ev X d 113 306 (x0 :: x1 :: x2 :: some (.int a) :: L) (.int a :: st) h := g_iload_n dL_law_305 rfl
theorem e_L_law_306 : ev X d 113 306 L st h = ev X d 113 307 L (.int 2 :: st) h := g_iconst dL_law_306 (by decide)
theorem e_L_law_307 : ev X d 113 307 L (.int b :: .int a :: st) h = ev X d 113 308 L (.int (a + b) :: st) h := g_iadd dL_law_307
theorem e_L_law_308 : ev X d 113 308 L (.int i :: va_rf (some q) :: st) h = (I_sld X q i).bind (fun v => ev X d 113 309 L (.int v :: st) h) := g_sld dL_law_308 rfl
theorem e_L_law_309 : ev X d 113 309 (some (va_rf r) :: L) st h = ev X d 113 310 (some (va_rf r) :: L) (va_rf r :: st) h := g_aload_n dL_law_309 rfl
theorem e_L_law_310 : ev X d 113 310 (x0 :: x1 :: x2 :: some (.int a) :: L) st h = ev X d 113 311 (x0 :: x1 :: x2 :: some (.int a) :: L) (.int a :: st) h := g_iload_n dL_law_310 rfl
theorem e_L_law_311 : ev X d 113 311 L st h = ev X d 113 312 L (.int 3 :: st) h := g_iconst dL_law_311 (by decide)
theorem e_L_law_312 : ev X d 113 312 L (.int b :: .int a :: st) h = ev X d 113 313 L (.int (a + b) :: st) h := g_iadd dL_law_312
theorem e_L_law_313 : ev X d 113 313 L (.int i :: va_rf (some q) :: st) h = (I_sld X q i).bind (fun v => ev X d 113 314 L (.int v :: st) h) := g_sld dL_law_313 rfl
theorem e_L_law_314 : ev X d 113 314 (some (va_rf r) :: L) st h = ev X d 113 315 (some (va_rf r) :: L) (va_rf r :: st) h := g_aload_n dL_law_314 rfl
theorem e_L_law_315 : ev X d 113 315 (x0 :: x1 :: x2 :: some (.int a) :: L) st h = ev X d 113 316 (x0 :: x1 :: x2 :: some (.int a) :: L) (.int a :: st) h := g_iload_n dL_law_315 rfl
theorem e_L_law_316 : ev X d 113 316 L st h = ev X d 113 317 L (.int 4 :: st) h := g_iconst dL_law_316 (by decide)
theorem e_L_law_317 : ev X d 113 317 L (.int b :: .int a :: st) h = ev X d 113 318 L (.int (a + b) :: st) h := g_iadd dL_law_317
theorem e_L_law_318 : ev X d 113 318 L (.int i :: va_rf (some q) :: st) h = (I_sld X q i).bind (fun v => ev X d 113 319 L (.int v :: st) h) := g_sld dL_law_318 rfl
theorem e_L_law_319 (hc : I_isC X h q 2 = true) (hs : I_cat st ≤ 8) : ev X (d + 1) 113 319 L (.int a4 :: .int a3 :: .int a2 :: .int a1 :: va_rf (some q) :: st) h = (ev X d 27 0 [some (va_rf (some q)), some (.int a1), some (.int a2), some (.int a3), some (.int a4), none, none] [] h).bind (fun r => ev X (d + 1) 113 322 L (r.1.toList ++ st) r.2) := g_callV (as := [.int a4, .int a3, .int a2, .int a1]) dL_law_319 (by decide) (by decide) I_np_27 rfl (by simp only [List.reverse_cons, List.reverse_nil, List.nil_append, List.cons_append, I_slots_n, I_slots_i, I_slots_d, I_slots_q, List.length_cons, List.length_nil]; decide) (by simp only [I_ent, List.reverse_cons, List.reverse_nil, List.nil_append, List.cons_append, I_slots_n, I_slots_i, I_slots_d, I_slots_q, List.length_cons, List.length_nil]; rfl) rfl hc hs
theorem e_L_law_322 : ev X d 113 322 (x0 :: x1 :: some (va_rf r) :: L) st h = ev X d 113 323 (x0 :: x1 :: some (va_rf r) :: L) (va_rf r :: st) h := g_aload_n dL_law_322 rfl
theorem e_L_law_323 : ev X d 113 323 (some (va_rf r) :: L) st h = ev X d 113 324 (some (va_rf r) :: L) (va_rf r :: st) h := g_aload_n dL_law_323 rfl
theorem e_L_law_324 : ev X d 113 324 (x0 :: x1 :: x2 :: some (.int a) :: L) st h = ev X d 113 325 (x0 :: x1 :: x2 :: some (.int a) :: L) (.int a :: st) h := g_iload_n dL_law_324 rfl
theorem e_L_law_325 : ev X d 113 325 L st h = ev X d 113 326 L (.int 1 :: st) h := g_iconst dL_law_325 (by decide)
theorem e_L_law_326 : ev X d 113 326 L (.int b :: .int a :: st) h = ev X d 113 327 L (.int (a + b) :: st) h := g_iadd dL_law_326
theorem e_L_law_327 : ev X d 113 327 L (.int i :: va_rf (some q) :: st) h = (I_sld X q i).bind (fun v => ev X d 113 328 L (.int v :: st) h) := g_sld dL_law_327 rfl
theorem e_L_law_328 : ev X d 113 328 (some (va_rf r) :: L) st h = ev X d 113 329 (some (va_rf r) :: L) (va_rf r :: st) h := g_aload_n dL_law_328 rfl
theorem e_L_law_329 : ev X d 113 329 (x0 :: x1 :: x2 :: some (.int a) :: L) st h = ev X d 113 330 (x0 :: x1 :: x2 :: some (.int a) :: L) (.int a :: st) h := g_iload_n dL_law_329 rfl
theorem e_L_law_330 : ev X d 113 330 L st h = ev X d 113 331 L (.int 2 :: st) h := g_iconst dL_law_330 (by decide)
theorem e_L_law_331 : ev X d 113 331 L (.int b :: .int a :: st) h = ev X d 113 332 L (.int (a + b) :: st) h := g_iadd dL_law_331
theorem e_L_law_332 : ev X d 113 332 L (.int i :: va_rf (some q) :: st) h = (I_sld X q i).bind (fun v => ev X d 113 333 L (.int v :: st) h) := g_sld dL_law_332 rfl
theorem e_L_law_333 : ev X d 113 333 (some (va_rf r) :: L) st h = ev X d 113 334 (some (va_rf r) :: L) (va_rf r :: st) h := g_aload_n dL_law_333 rfl
theorem e_L_law_334 : ev X d 113 334 (x0 :: x1 :: x2 :: some (.int a) :: L) st h = ev X d 113 335 (x0 :: x1 :: x2 :: some (.int a) :: L) (.int a :: st) h := g_iload_n dL_law_334 rfl
theorem e_L_law_335 : ev X d 113 335 L st h = ev X d 113 336 L (.int 3 :: st) h := g_iconst dL_law_335 (by decide)
theorem e_L_law_336 : ev X d 113 336 L (.int b :: .int a :: st) h = ev X d 113 337 L (.int (a + b) :: st) h := g_iadd dL_law_336
theorem e_L_law_337 : ev X d 113 337 L (.int i :: va_rf (some q) :: st) h = (I_sld X q i).bind (fun v => ev X d 113 338 L (.int v :: st) h) := g_sld dL_law_337 rfl
theorem e_L_law_338 : ev X d 113 338 (some (va_rf r) :: L) st h = ev X d 113 339 (some (va_rf r) :: L) (va_rf r :: st) h := g_aload_n dL_law_338 rfl
theorem e_L_law_339 : ev X d 113 339 (x0 :: x1 :: x2 :: some (.int a) :: L) st h = ev X d 113 340 (x0 :: x1 :: x2 :: some (.int a) :: L) (.int a :: st) h := g_iload_n dL_law_339 rfl
theorem e_L_law_340 : ev X d 113 340 L st h = ev X d 113 341 L (.int 4 :: st) h := g_iconst dL_law_340 (by decide)
theorem e_L_law_341 : ev X d 113 341 L (.int b :: .int a :: st) h = ev X d 113 342 L (.int (a + b) :: st) h := g_iadd dL_law_341
theorem e_L_law_342 : ev X d 113 342 L (.int i :: va_rf (some q) :: st) h = (I_sld X q i).bind (fun v => ev X d 113 343 L (.int v :: st) h) := g_sld dL_law_342 rfl
theorem e_L_law_343 (hc : I_isC X h q 3 = true) (hs : I_cat st ≤ 8) : ev X (d + 1) 113 343 L (.int a4 :: .int a3 :: .int a2 :: .int a1 :: va_rf (some q) :: st) h = (ev X d 82 0 [some (va_rf (some q)), some (.int a1), some (.int a2), some (.int a3), some (.int a4), none, none] [] h).bind (fun r => ev X (d + 1) 113 346 L (r.1.toList ++ st) r.2) := g_callV (as := [.int a4, .int a3, .int a2, .int a1]) dL_law_343 (by decide) (by decide) I_np_82 rfl (by simp only [List.reverse_cons, List.reverse_nil, List.nil_append, List.cons_append, I_slots_n, I_slots_i, I_slots_d, I_slots_q, List.length_cons, List.length_nil]; decide) (by simp only [I_ent, List.reverse_cons, List.reverse_nil, List.nil_append, List.cons_append, I_slots_n, I_slots_i, I_slots_d, I_slots_q, List.length_cons, List.length_nil]; rfl) rfl hc hs
theorem e_L_law_346 : ev X d 113 346 L (.int b :: .int a :: st) h = if a = b then ev X d 113 924 L st h else ev X d 113 349 L st h := g_icmp_eq dL_law_346 (by decide)
theorem e_L_law_349 : ev X d 113 349 L st h = ev X d 113 350 L (.int 0 :: st) h := g_iconst dL_law_349 (by decide)
theorem e_L_law_350 (ha : a = 0 ∨ a = 1) : ev X d 113 350 L [.int a] h = some (some (.int a), h) := g_zret dL_law_350 rfl ha
theorem e_L_law_351 : ev X d 113 351 (x0 :: some (va_rf r) :: L) st h = ev X d 113 352 (x0 :: some (va_rf r) :: L) (va_rf r :: st) h := g_aload_n dL_law_351 rfl
theorem e_L_law_352 : ev X d 113 352 (some (va_rf r) :: L) st h = ev X d 113 353 (some (va_rf r) :: L) (va_rf r :: st) h := g_aload_n dL_law_352 rfl
theorem e_L_law_353 : ev X d 113 353 (x0 :: x1 :: x2 :: some (.int a) :: L) st h = ev X d 113 354 (x0 :: x1 :: x2 :: some (.int a) :: L) (.int a :: st) h := g_iload_n dL_law_353 rfl
theorem e_L_law_354 : ev X d 113 354 L st h = ev X d 113 355 L (.int 1 :: st) h := g_iconst dL_law_354 (by decide)
theorem e_L_law_355 : ev X d 113 355 L (.int b :: .int a :: st) h = ev X d 113 356 L (.int (a + b) :: st) h := g_iadd dL_law_355
theorem e_L_law_356 : ev X d 113 356 L (.int i :: va_rf (some q) :: st) h = (I_sld X q i).bind (fun v => ev X d 113 357 L (.int v :: st) h) := g_sld dL_law_356 rfl
theorem e_L_law_357 : ev X d 113 357 (some (va_rf r) :: L) st h = ev X d 113 358 (some (va_rf r) :: L) (va_rf r :: st) h := g_aload_n dL_law_357 rfl
theorem e_L_law_358 : ev X d 113 358 (x0 :: x1 :: x2 :: some (.int a) :: L) st h = ev X d 113 359 (x0 :: x1 :: x2 :: some (.int a) :: L) (.int a :: st) h := g_iload_n dL_law_358 rfl
theorem e_L_law_359 : ev X d 113 359 L st h = ev X d 113 360 L (.int 2 :: st) h := g_iconst dL_law_359 (by decide)
theorem e_L_law_360 : ev X d 113 360 L (.int b :: .int a :: st) h = ev X d 113 361 L (.int (a + b) :: st) h := g_iadd dL_law_360
theorem e_L_law_361 : ev X d 113 361 L (.int i :: va_rf (some q) :: st) h = (I_sld X q i).bind (fun v => ev X d 113 362 L (.int v :: st) h) := g_sld dL_law_361 rfl
theorem e_L_law_362 : ev X d 113 362 (some (va_rf r) :: L) st h = ev X d 113 363 (some (va_rf r) :: L) (va_rf r :: st) h := g_aload_n dL_law_362 rfl
theorem e_L_law_363 : ev X d 113 363 (x0 :: x1 :: x2 :: some (.int a) :: L) st h = ev X d 113 364 (x0 :: x1 :: x2 :: some (.int a) :: L) (.int a :: st) h := g_iload_n dL_law_363 rfl
theorem e_L_law_364 : ev X d 113 364 L st h = ev X d 113 365 L (.int 3 :: st) h := g_iconst dL_law_364 (by decide)
theorem e_L_law_365 : ev X d 113 365 L (.int b :: .int a :: st) h = ev X d 113 366 L (.int (a + b) :: st) h := g_iadd dL_law_365
theorem e_L_law_366 : ev X d 113 366 L (.int i :: va_rf (some q) :: st) h = (I_sld X q i).bind (fun v => ev X d 113 367 L (.int v :: st) h) := g_sld dL_law_366 rfl
theorem e_L_law_367 (hc : I_isC X h q 2 = true) (hs : I_cat st ≤ 8) : ev X (d + 1) 113 367 L (.int a3 :: .int a2 :: .int a1 :: va_rf (some q) :: st) h = (ev X d 28 0 [some (va_rf (some q)), some (.int a1), some (.int a2), some (.int a3), none, none] [] h).bind (fun r => ev X (d + 1) 113 370 L (r.1.toList ++ st) r.2) := g_callV (as := [.int a3, .int a2, .int a1]) dL_law_367 (by decide) (by decide) I_np_28 rfl (by simp only [List.reverse_cons, List.reverse_nil, List.nil_append, List.cons_append, I_slots_n, I_slots_i, I_slots_d, I_slots_q, List.length_cons, List.length_nil]; decide) (by simp only [I_ent, List.reverse_cons, List.reverse_nil, List.nil_append, List.cons_append, I_slots_n, I_slots_i, I_slots_d, I_slots_q, List.length_cons, List.length_nil]; rfl) rfl hc hs
theorem e_L_law_370 : ev X d 113 370 (x0 :: x1 :: some (va_rf r) :: L) st h = ev X d 113 371 (x0 :: x1 :: some (va_rf r) :: L) (va_rf r :: st) h := g_aload_n dL_law_370 rfl
theorem e_L_law_371 : ev X d 113 371 (some (va_rf r) :: L) st h = ev X d 113 372 (some (va_rf r) :: L) (va_rf r :: st) h := g_aload_n dL_law_371 rfl
theorem e_L_law_372 : ev X d 113 372 (x0 :: x1 :: x2 :: some (.int a) :: L) st h = ev X d 113 373 (x0 :: x1 :: x2 :: some (.int a) :: L) (.int a :: st) h := g_iload_n dL_law_372 rfl
theorem e_L_law_373 : ev X d 113 373 L st h = ev X d 113 374 L (.int 1 :: st) h := g_iconst dL_law_373 (by decide)
theorem e_L_law_374 : ev X d 113 374 L (.int b :: .int a :: st) h = ev X d 113 375 L (.int (a + b) :: st) h := g_iadd dL_law_374
theorem e_L_law_375 : ev X d 113 375 L (.int i :: va_rf (some q) :: st) h = (I_sld X q i).bind (fun v => ev X d 113 376 L (.int v :: st) h) := g_sld dL_law_375 rfl
theorem e_L_law_376 : ev X d 113 376 (some (va_rf r) :: L) st h = ev X d 113 377 (some (va_rf r) :: L) (va_rf r :: st) h := g_aload_n dL_law_376 rfl
theorem e_L_law_377 : ev X d 113 377 (x0 :: x1 :: x2 :: some (.int a) :: L) st h = ev X d 113 378 (x0 :: x1 :: x2 :: some (.int a) :: L) (.int a :: st) h := g_iload_n dL_law_377 rfl
theorem e_L_law_378 : ev X d 113 378 L st h = ev X d 113 379 L (.int 2 :: st) h := g_iconst dL_law_378 (by decide)
theorem e_L_law_379 : ev X d 113 379 L (.int b :: .int a :: st) h = ev X d 113 380 L (.int (a + b) :: st) h := g_iadd dL_law_379
theorem e_L_law_380 : ev X d 113 380 L (.int i :: va_rf (some q) :: st) h = (I_sld X q i).bind (fun v => ev X d 113 381 L (.int v :: st) h) := g_sld dL_law_380 rfl
theorem e_L_law_381 : ev X d 113 381 (some (va_rf r) :: L) st h = ev X d 113 382 (some (va_rf r) :: L) (va_rf r :: st) h := g_aload_n dL_law_381 rfl
theorem e_L_law_382 : ev X d 113 382 (x0 :: x1 :: x2 :: some (.int a) :: L) st h = ev X d 113 383 (x0 :: x1 :: x2 :: some (.int a) :: L) (.int a :: st) h := g_iload_n dL_law_382 rfl
theorem e_L_law_383 : ev X d 113 383 L st h = ev X d 113 384 L (.int 3 :: st) h := g_iconst dL_law_383 (by decide)
theorem e_L_law_384 : ev X d 113 384 L (.int b :: .int a :: st) h = ev X d 113 385 L (.int (a + b) :: st) h := g_iadd dL_law_384
theorem e_L_law_385 : ev X d 113 385 L (.int i :: va_rf (some q) :: st) h = (I_sld X q i).bind (fun v => ev X d 113 386 L (.int v :: st) h) := g_sld dL_law_385 rfl
theorem e_L_law_386 (hc : I_isC X h q 3 = true) (hs : I_cat st ≤ 8) : ev X (d + 1) 113 386 L (.int a3 :: .int a2 :: .int a1 :: va_rf (some q) :: st) h = (ev X d 83 0 [some (va_rf (some q)), some (.int a1), some (.int a2), some (.int a3), none] [] h).bind (fun r => ev X (d + 1) 113 389 L (r.1.toList ++ st) r.2) := g_callV (as := [.int a3, .int a2, .int a1]) dL_law_386 (by decide) (by decide) I_np_83 rfl (by simp only [List.reverse_cons, List.reverse_nil, List.nil_append, List.cons_append, I_slots_n, I_slots_i, I_slots_d, I_slots_q, List.length_cons, List.length_nil]; decide) (by simp only [I_ent, List.reverse_cons, List.reverse_nil, List.nil_append, List.cons_append, I_slots_n, I_slots_i, I_slots_d, I_slots_q, List.length_cons, List.length_nil]; rfl) rfl hc hs
theorem e_L_law_389 : ev X d 113 389 L (.int b :: .int a :: st) h = if a = b then ev X d 113 924 L st h else ev X d 113 392 L st h := g_icmp_eq dL_law_389 (by decide)
theorem e_L_law_392 : ev X d 113 392 L st h = ev X d 113 393 L (.int 0 :: st) h := g_iconst dL_law_392 (by decide)
theorem e_L_law_393 (ha : a = 0 ∨ a = 1) : ev X d 113 393 L [.int a] h = some (some (.int a), h) := g_zret dL_law_393 rfl ha
theorem e_L_law_394 : ev X d 113 394 (x0 :: some (va_rf r) :: L) st h = ev X d 113 395 (x0 :: some (va_rf r) :: L) (va_rf r :: st) h := g_aload_n dL_law_394 rfl
theorem e_L_law_395 : ev X d 113 395 (some (va_rf r) :: L) st h = ev X d 113 396 (some (va_rf r) :: L) (va_rf r :: st) h := g_aload_n dL_law_395 rfl
theorem e_L_law_396 : ev X d 113 396 (x0 :: x1 :: x2 :: some (.int a) :: L) st h = ev X d 113 397 (x0 :: x1 :: x2 :: some (.int a) :: L) (.int a :: st) h := g_iload_n dL_law_396 rfl
theorem e_L_law_397 : ev X d 113 397 L st h = ev X d 113 398 L (.int 1 :: st) h := g_iconst dL_law_397 (by decide)
theorem e_L_law_398 : ev X d 113 398 L (.int b :: .int a :: st) h = ev X d 113 399 L (.int (a + b) :: st) h := g_iadd dL_law_398
theorem e_L_law_399 : ev X d 113 399 L (.int i :: va_rf (some q) :: st) h = (I_sld X q i).bind (fun v => ev X d 113 400 L (.int v :: st) h) := g_sld dL_law_399 rfl
theorem e_L_law_400 : ev X d 113 400 (some (va_rf r) :: L) st h = ev X d 113 401 (some (va_rf r) :: L) (va_rf r :: st) h := g_aload_n dL_law_400 rfl
theorem e_L_law_401 : ev X d 113 401 (x0 :: x1 :: x2 :: some (.int a) :: L) st h = ev X d 113 402 (x0 :: x1 :: x2 :: some (.int a) :: L) (.int a :: st) h := g_iload_n dL_law_401 rfl
theorem e_L_law_402 : ev X d 113 402 L st h = ev X d 113 403 L (.int 2 :: st) h := g_iconst dL_law_402 (by decide)
theorem e_L_law_403 : ev X d 113 403 L (.int b :: .int a :: st) h = ev X d 113 404 L (.int (a + b) :: st) h := g_iadd dL_law_403
theorem e_L_law_404 : ev X d 113 404 L (.int i :: va_rf (some q) :: st) h = (I_sld X q i).bind (fun v => ev X d 113 405 L (.int v :: st) h) := g_sld dL_law_404 rfl
theorem e_L_law_405 : ev X d 113 405 (some (va_rf r) :: L) st h = ev X d 113 406 (some (va_rf r) :: L) (va_rf r :: st) h := g_aload_n dL_law_405 rfl
theorem e_L_law_406 : ev X d 113 406 (x0 :: x1 :: x2 :: some (.int a) :: L) st h = ev X d 113 407 (x0 :: x1 :: x2 :: some (.int a) :: L) (.int a :: st) h := g_iload_n dL_law_406 rfl
theorem e_L_law_407 : ev X d 113 407 L st h = ev X d 113 408 L (.int 3 :: st) h := g_iconst dL_law_407 (by decide)
theorem e_L_law_408 : ev X d 113 408 L (.int b :: .int a :: st) h = ev X d 113 409 L (.int (a + b) :: st) h := g_iadd dL_law_408
theorem e_L_law_409 : ev X d 113 409 L (.int i :: va_rf (some q) :: st) h = (I_sld X q i).bind (fun v => ev X d 113 410 L (.int v :: st) h) := g_sld dL_law_409 rfl
theorem e_L_law_410 (hc : I_isC X h q 2 = true) (hs : I_cat st ≤ 8) : ev X (d + 1) 113 410 L (.int a3 :: .int a2 :: .int a1 :: va_rf (some q) :: st) h = (ev X d 29 0 [some (va_rf (some q)), some (.int a1), some (.int a2), some (.int a3), none] [] h).bind (fun r => ev X (d + 1) 113 413 L (r.1.toList ++ st) r.2) := g_callV (as := [.int a3, .int a2, .int a1]) dL_law_410 (by decide) (by decide) I_np_29 rfl (by simp only [List.reverse_cons, List.reverse_nil, List.nil_append, List.cons_append, I_slots_n, I_slots_i, I_slots_d, I_slots_q, List.length_cons, List.length_nil]; decide) (by simp only [I_ent, List.reverse_cons, List.reverse_nil, List.nil_append, List.cons_append, I_slots_n, I_slots_i, I_slots_d, I_slots_q, List.length_cons, List.length_nil]; rfl) rfl hc hs
theorem e_L_law_413 (hx : I_c2 x3 = false) : ev X d 113 413 (x0 :: x1 :: x2 :: x3 :: x4 :: x5 :: L) (.double w :: st) h = ev X d 113 415 (x0 :: x1 :: x2 :: x3 :: some (.double w) :: none :: L) st h := g_dstore dL_law_413 (I_st2_4 hx)
theorem e_L_law_415 : ev X d 113 415 (x0 :: x1 :: some (va_rf r) :: L) st h = ev X d 113 416 (x0 :: x1 :: some (va_rf r) :: L) (va_rf r :: st) h := g_aload_n dL_law_415 rfl
theorem e_L_law_416 : ev X d 113 416 (some (va_rf r) :: L) st h = ev X d 113 417 (some (va_rf r) :: L) (va_rf r :: st) h := g_aload_n dL_law_416 rfl
theorem e_L_law_417 : ev X d 113 417 (x0 :: x1 :: x2 :: some (.int a) :: L) st h = ev X d 113 418 (x0 :: x1 :: x2 :: some (.int a) :: L) (.int a :: st) h := g_iload_n dL_law_417 rfl
theorem e_L_law_418 : ev X d 113 418 L st h = ev X d 113 419 L (.int 1 :: st) h := g_iconst dL_law_418 (by decide)
theorem e_L_law_419 : ev X d 113 419 L (.int b :: .int a :: st) h = ev X d 113 420 L (.int (a + b) :: st) h := g_iadd dL_law_419
theorem e_L_law_420 : ev X d 113 420 L (.int i :: va_rf (some q) :: st) h = (I_sld X q i).bind (fun v => ev X d 113 421 L (.int v :: st) h) := g_sld dL_law_420 rfl
theorem e_L_law_421 : ev X d 113 421 (some (va_rf r) :: L) st h = ev X d 113 422 (some (va_rf r) :: L) (va_rf r :: st) h := g_aload_n dL_law_421 rfl
theorem e_L_law_422 : ev X d 113 422 (x0 :: x1 :: x2 :: some (.int a) :: L) st h = ev X d 113 423 (x0 :: x1 :: x2 :: some (.int a) :: L) (.int a :: st) h := g_iload_n dL_law_422 rfl
theorem e_L_law_423 : ev X d 113 423 L st h = ev X d 113 424 L (.int 2 :: st) h := g_iconst dL_law_423 (by decide)
theorem e_L_law_424 : ev X d 113 424 L (.int b :: .int a :: st) h = ev X d 113 425 L (.int (a + b) :: st) h := g_iadd dL_law_424
theorem e_L_law_425 : ev X d 113 425 L (.int i :: va_rf (some q) :: st) h = (I_sld X q i).bind (fun v => ev X d 113 426 L (.int v :: st) h) := g_sld dL_law_425 rfl
theorem e_L_law_426 : ev X d 113 426 (some (va_rf r) :: L) st h = ev X d 113 427 (some (va_rf r) :: L) (va_rf r :: st) h := g_aload_n dL_law_426 rfl
theorem e_L_law_427 : ev X d 113 427 (x0 :: x1 :: x2 :: some (.int a) :: L) st h = ev X d 113 428 (x0 :: x1 :: x2 :: some (.int a) :: L) (.int a :: st) h := g_iload_n dL_law_427 rfl
theorem e_L_law_428 : ev X d 113 428 L st h = ev X d 113 429 L (.int 3 :: st) h := g_iconst dL_law_428 (by decide)
theorem e_L_law_429 : ev X d 113 429 L (.int b :: .int a :: st) h = ev X d 113 430 L (.int (a + b) :: st) h := g_iadd dL_law_429
theorem e_L_law_430 : ev X d 113 430 L (.int i :: va_rf (some q) :: st) h = (I_sld X q i).bind (fun v => ev X d 113 431 L (.int v :: st) h) := g_sld dL_law_430 rfl
theorem e_L_law_431 (hc : I_isC X h q 3 = true) (hs : I_cat st ≤ 8) : ev X (d + 1) 113 431 L (.int a3 :: .int a2 :: .int a1 :: va_rf (some q) :: st) h = (ev X d 85 0 [some (va_rf (some q)), some (.int a1), some (.int a2), some (.int a3), none, none, none] [] h).bind (fun r => ev X (d + 1) 113 434 L (r.1.toList ++ st) r.2) := g_callV (as := [.int a3, .int a2, .int a1]) dL_law_431 (by decide) (by decide) I_np_85 rfl (by simp only [List.reverse_cons, List.reverse_nil, List.nil_append, List.cons_append, I_slots_n, I_slots_i, I_slots_d, I_slots_q, List.length_cons, List.length_nil]; decide) (by simp only [I_ent, List.reverse_cons, List.reverse_nil, List.nil_append, List.cons_append, I_slots_n, I_slots_i, I_slots_d, I_slots_q, List.length_cons, List.length_nil]; rfl) rfl hc hs
theorem e_L_law_434 (hx : I_c2 x5 = false) : ev X d 113 434 (x0 :: x1 :: x2 :: x3 :: x4 :: x5 :: x6 :: x7 :: L) (.double w :: st) h = ev X d 113 436 (x0 :: x1 :: x2 :: x3 :: x4 :: x5 :: some (.double w) :: none :: L) st h := g_dstore dL_law_434 (I_st2_6 hx)
theorem e_L_law_436 : ev X d 113 436 (x0 :: x1 :: x2 :: x3 :: some (.double w) :: L) st h = ev X d 113 438 (x0 :: x1 :: x2 :: x3 :: some (.double w) :: L) (.double w :: st) h := g_dload dL_law_436 rfl
theorem e_L_law_438 : ev X d 113 438 (x0 :: x1 :: x2 :: x3 :: x4 :: x5 :: some (.double w) :: L) st h = ev X d 113 440 (x0 :: x1 :: x2 :: x3 :: x4 :: x5 :: some (.double w) :: L) (.double w :: st) h := g_dload dL_law_438 rfl
theorem e_L_law_440 : ev X d 113 440 L (.double w2 :: .double w1 :: st) h = ev X d 113 441 L (.int (Op.cmpValue (FP.dcmp w1 w2) .l) :: st) h := g_dcmp dL_law_440
theorem e_L_law_441 : ev X d 113 441 L (.int a :: st) h = if a = 0 then ev X d 113 462 L st h else ev X d 113 444 L st h := g_if_eq dL_law_441 (by decide)
theorem e_L_law_444 : ev X d 113 444 (x0 :: x1 :: x2 :: x3 :: some (.double w) :: L) st h = ev X d 113 446 (x0 :: x1 :: x2 :: x3 :: some (.double w) :: L) (.double w :: st) h := g_dload dL_law_444 rfl
theorem e_L_law_446 : ev X d 113 446 (x0 :: x1 :: x2 :: x3 :: some (.double w) :: L) st h = ev X d 113 448 (x0 :: x1 :: x2 :: x3 :: some (.double w) :: L) (.double w :: st) h := g_dload dL_law_446 rfl
theorem e_L_law_448 : ev X d 113 448 L (.double w2 :: .double w1 :: st) h = ev X d 113 449 L (.int (Op.cmpValue (FP.dcmp w1 w2) .l) :: st) h := g_dcmp dL_law_448
theorem e_L_law_449 : ev X d 113 449 L (.int a :: st) h = if a = 0 then ev X d 113 460 L st h else ev X d 113 452 L st h := g_if_eq dL_law_449 (by decide)
theorem e_L_law_452 : ev X d 113 452 (x0 :: x1 :: x2 :: x3 :: x4 :: x5 :: some (.double w) :: L) st h = ev X d 113 454 (x0 :: x1 :: x2 :: x3 :: x4 :: x5 :: some (.double w) :: L) (.double w :: st) h := g_dload dL_law_452 rfl
theorem e_L_law_454 : ev X d 113 454 (x0 :: x1 :: x2 :: x3 :: x4 :: x5 :: some (.double w) :: L) st h = ev X d 113 456 (x0 :: x1 :: x2 :: x3 :: x4 :: x5 :: some (.double w) :: L) (.double w :: st) h := g_dload dL_law_454 rfl
theorem e_L_law_456 : ev X d 113 456 L (.double w2 :: .double w1 :: st) h = ev X d 113 457 L (.int (Op.cmpValue (FP.dcmp w1 w2) .l) :: st) h := g_dcmp dL_law_456
theorem e_L_law_457 : ev X d 113 457 L (.int a :: st) h = if a = 0 then ev X d 113 460 L st h else ev X d 113 462 L st h := g_if_ne dL_law_457 (by decide)
theorem e_L_law_460 : ev X d 113 460 L st h = ev X d 113 461 L (.int 0 :: st) h := g_iconst dL_law_460 (by decide)
theorem e_L_law_461 (ha : a = 0 ∨ a = 1) : ev X d 113 461 L [.int a] h = some (some (.int a), h) := g_zret dL_law_461 rfl ha
theorem e_L_law_462 : ev X d 113 462 L st h = ev X d 113 924 L st h := g_goto dL_law_462 (by decide)
theorem e_L_law_465 : ev X d 113 465 (x0 :: some (va_rf r) :: L) st h = ev X d 113 466 (x0 :: some (va_rf r) :: L) (va_rf r :: st) h := g_aload_n dL_law_465 rfl
theorem e_L_law_466 : ev X d 113 466 (some (va_rf r) :: L) st h = ev X d 113 467 (some (va_rf r) :: L) (va_rf r :: st) h := g_aload_n dL_law_466 rfl
theorem e_L_law_467 : ev X d 113 467 (x0 :: x1 :: x2 :: some (.int a) :: L) st h = ev X d 113 468 (x0 :: x1 :: x2 :: some (.int a) :: L) (.int a :: st) h := g_iload_n dL_law_467 rfl
theorem e_L_law_468 : ev X d 113 468 L st h = ev X d 113 469 L (.int 1 :: st) h := g_iconst dL_law_468 (by decide)
theorem e_L_law_469 : ev X d 113 469 L (.int b :: .int a :: st) h = ev X d 113 470 L (.int (a + b) :: st) h := g_iadd dL_law_469
theorem e_L_law_470 : ev X d 113 470 L (.int i :: va_rf (some q) :: st) h = (I_sld X q i).bind (fun v => ev X d 113 471 L (.int v :: st) h) := g_sld dL_law_470 rfl
theorem e_L_law_471 : ev X d 113 471 (some (va_rf r) :: L) st h = ev X d 113 472 (some (va_rf r) :: L) (va_rf r :: st) h := g_aload_n dL_law_471 rfl
theorem e_L_law_472 : ev X d 113 472 (x0 :: x1 :: x2 :: some (.int a) :: L) st h = ev X d 113 473 (x0 :: x1 :: x2 :: some (.int a) :: L) (.int a :: st) h := g_iload_n dL_law_472 rfl
theorem e_L_law_473 : ev X d 113 473 L st h = ev X d 113 474 L (.int 2 :: st) h := g_iconst dL_law_473 (by decide)
theorem e_L_law_474 : ev X d 113 474 L (.int b :: .int a :: st) h = ev X d 113 475 L (.int (a + b) :: st) h := g_iadd dL_law_474
theorem e_L_law_475 : ev X d 113 475 L (.int i :: va_rf (some q) :: st) h = (I_sld X q i).bind (fun v => ev X d 113 476 L (.int v :: st) h) := g_sld dL_law_475 rfl
theorem e_L_law_476 : ev X d 113 476 (some (va_rf r) :: L) st h = ev X d 113 477 (some (va_rf r) :: L) (va_rf r :: st) h := g_aload_n dL_law_476 rfl
theorem e_L_law_477 : ev X d 113 477 (x0 :: x1 :: x2 :: some (.int a) :: L) st h = ev X d 113 478 (x0 :: x1 :: x2 :: some (.int a) :: L) (.int a :: st) h := g_iload_n dL_law_477 rfl
theorem e_L_law_478 : ev X d 113 478 L st h = ev X d 113 479 L (.int 3 :: st) h := g_iconst dL_law_478 (by decide)
theorem e_L_law_479 : ev X d 113 479 L (.int b :: .int a :: st) h = ev X d 113 480 L (.int (a + b) :: st) h := g_iadd dL_law_479
theorem e_L_law_480 : ev X d 113 480 L (.int i :: va_rf (some q) :: st) h = (I_sld X q i).bind (fun v => ev X d 113 481 L (.int v :: st) h) := g_sld dL_law_480 rfl
theorem e_L_law_481 (hc : I_isC X h q 2 = true) (hs : I_cat st ≤ 8) : ev X (d + 1) 113 481 L (.int a3 :: .int a2 :: .int a1 :: va_rf (some q) :: st) h = (ev X d 30 0 [some (va_rf (some q)), some (.int a1), some (.int a2), some (.int a3), none, none] [] h).bind (fun r => ev X (d + 1) 113 484 L (r.1.toList ++ st) r.2) := g_callV (as := [.int a3, .int a2, .int a1]) dL_law_481 (by decide) (by decide) I_np_30 rfl (by simp only [List.reverse_cons, List.reverse_nil, List.nil_append, List.cons_append, I_slots_n, I_slots_i, I_slots_d, I_slots_q, List.length_cons, List.length_nil]; decide) (by simp only [I_ent, List.reverse_cons, List.reverse_nil, List.nil_append, List.cons_append, I_slots_n, I_slots_i, I_slots_d, I_slots_q, List.length_cons, List.length_nil]; rfl) rfl hc hs
theorem e_L_law_484 : ev X d 113 484 (x0 :: x1 :: some (va_rf r) :: L) st h = ev X d 113 485 (x0 :: x1 :: some (va_rf r) :: L) (va_rf r :: st) h := g_aload_n dL_law_484 rfl
theorem e_L_law_485 : ev X d 113 485 (some (va_rf r) :: L) st h = ev X d 113 486 (some (va_rf r) :: L) (va_rf r :: st) h := g_aload_n dL_law_485 rfl
theorem e_L_law_486 : ev X d 113 486 (x0 :: x1 :: x2 :: some (.int a) :: L) st h = ev X d 113 487 (x0 :: x1 :: x2 :: some (.int a) :: L) (.int a :: st) h := g_iload_n dL_law_486 rfl
theorem e_L_law_487 : ev X d 113 487 L st h = ev X d 113 488 L (.int 1 :: st) h := g_iconst dL_law_487 (by decide)
theorem e_L_law_488 : ev X d 113 488 L (.int b :: .int a :: st) h = ev X d 113 489 L (.int (a + b) :: st) h := g_iadd dL_law_488
theorem e_L_law_489 : ev X d 113 489 L (.int i :: va_rf (some q) :: st) h = (I_sld X q i).bind (fun v => ev X d 113 490 L (.int v :: st) h) := g_sld dL_law_489 rfl
theorem e_L_law_490 : ev X d 113 490 (some (va_rf r) :: L) st h = ev X d 113 491 (some (va_rf r) :: L) (va_rf r :: st) h := g_aload_n dL_law_490 rfl
theorem e_L_law_491 : ev X d 113 491 (x0 :: x1 :: x2 :: some (.int a) :: L) st h = ev X d 113 492 (x0 :: x1 :: x2 :: some (.int a) :: L) (.int a :: st) h := g_iload_n dL_law_491 rfl
theorem e_L_law_492 : ev X d 113 492 L st h = ev X d 113 493 L (.int 2 :: st) h := g_iconst dL_law_492 (by decide)
theorem e_L_law_493 : ev X d 113 493 L (.int b :: .int a :: st) h = ev X d 113 494 L (.int (a + b) :: st) h := g_iadd dL_law_493
theorem e_L_law_494 : ev X d 113 494 L (.int i :: va_rf (some q) :: st) h = (I_sld X q i).bind (fun v => ev X d 113 495 L (.int v :: st) h) := g_sld dL_law_494 rfl
theorem e_L_law_495 : ev X d 113 495 (some (va_rf r) :: L) st h = ev X d 113 496 (some (va_rf r) :: L) (va_rf r :: st) h := g_aload_n dL_law_495 rfl
theorem e_L_law_496 : ev X d 113 496 (x0 :: x1 :: x2 :: some (.int a) :: L) st h = ev X d 113 497 (x0 :: x1 :: x2 :: some (.int a) :: L) (.int a :: st) h := g_iload_n dL_law_496 rfl
theorem e_L_law_497 : ev X d 113 497 L st h = ev X d 113 498 L (.int 3 :: st) h := g_iconst dL_law_497 (by decide)
theorem e_L_law_498 : ev X d 113 498 L (.int b :: .int a :: st) h = ev X d 113 499 L (.int (a + b) :: st) h := g_iadd dL_law_498
theorem e_L_law_499 : ev X d 113 499 L (.int i :: va_rf (some q) :: st) h = (I_sld X q i).bind (fun v => ev X d 113 500 L (.int v :: st) h) := g_sld dL_law_499 rfl
theorem e_L_law_500 (hc : I_isC X h q 3 = true) (hs : I_cat st ≤ 8) : ev X (d + 1) 113 500 L (.int a3 :: .int a2 :: .int a1 :: va_rf (some q) :: st) h = (ev X d 86 0 [some (va_rf (some q)), some (.int a1), some (.int a2), some (.int a3), none] [] h).bind (fun r => ev X (d + 1) 113 503 L (r.1.toList ++ st) r.2) := g_callV (as := [.int a3, .int a2, .int a1]) dL_law_500 (by decide) (by decide) I_np_86 rfl (by simp only [List.reverse_cons, List.reverse_nil, List.nil_append, List.cons_append, I_slots_n, I_slots_i, I_slots_d, I_slots_q, List.length_cons, List.length_nil]; decide) (by simp only [I_ent, List.reverse_cons, List.reverse_nil, List.nil_append, List.cons_append, I_slots_n, I_slots_i, I_slots_d, I_slots_q, List.length_cons, List.length_nil]; rfl) rfl hc hs
theorem e_L_law_503 : ev X d 113 503 L (.int b :: .int a :: st) h = if a = b then ev X d 113 924 L st h else ev X d 113 506 L st h := g_icmp_eq dL_law_503 (by decide)
theorem e_L_law_506 : ev X d 113 506 L st h = ev X d 113 507 L (.int 0 :: st) h := g_iconst dL_law_506 (by decide)
theorem e_L_law_507 (ha : a = 0 ∨ a = 1) : ev X d 113 507 L [.int a] h = some (some (.int a), h) := g_zret dL_law_507 rfl ha
theorem e_L_law_508 : ev X d 113 508 (x0 :: some (va_rf r) :: L) st h = ev X d 113 509 (x0 :: some (va_rf r) :: L) (va_rf r :: st) h := g_aload_n dL_law_508 rfl
theorem e_L_law_509 : ev X d 113 509 (some (va_rf r) :: L) st h = ev X d 113 510 (some (va_rf r) :: L) (va_rf r :: st) h := g_aload_n dL_law_509 rfl
theorem e_L_law_510 : ev X d 113 510 (x0 :: x1 :: x2 :: some (.int a) :: L) st h = ev X d 113 511 (x0 :: x1 :: x2 :: some (.int a) :: L) (.int a :: st) h := g_iload_n dL_law_510 rfl
theorem e_L_law_511 : ev X d 113 511 L st h = ev X d 113 512 L (.int 1 :: st) h := g_iconst dL_law_511 (by decide)
theorem e_L_law_512 : ev X d 113 512 L (.int b :: .int a :: st) h = ev X d 113 513 L (.int (a + b) :: st) h := g_iadd dL_law_512
theorem e_L_law_513 : ev X d 113 513 L (.int i :: va_rf (some q) :: st) h = (I_sld X q i).bind (fun v => ev X d 113 514 L (.int v :: st) h) := g_sld dL_law_513 rfl
theorem e_L_law_514 (hc : I_isC X h q 2 = true) (hs : I_cat st ≤ 8) : ev X (d + 1) 113 514 L (.int a1 :: va_rf (some q) :: st) h = (ev X d 31 0 [some (va_rf (some q)), some (.int a1)] [] h).bind (fun r => ev X (d + 1) 113 517 L (r.1.toList ++ st) r.2) := g_callV (as := [.int a1]) dL_law_514 (by decide) (by decide) I_np_31 rfl (by simp only [List.reverse_cons, List.reverse_nil, List.nil_append, List.cons_append, I_slots_n, I_slots_i, I_slots_d, I_slots_q, List.length_cons, List.length_nil]; decide) (by simp only [I_ent, List.reverse_cons, List.reverse_nil, List.nil_append, List.cons_append, I_slots_n, I_slots_i, I_slots_d, I_slots_q, List.length_cons, List.length_nil]; rfl) rfl hc hs
theorem e_L_law_517 : ev X d 113 517 (x0 :: x1 :: some (va_rf r) :: L) st h = ev X d 113 518 (x0 :: x1 :: some (va_rf r) :: L) (va_rf r :: st) h := g_aload_n dL_law_517 rfl
theorem e_L_law_518 : ev X d 113 518 (some (va_rf r) :: L) st h = ev X d 113 519 (some (va_rf r) :: L) (va_rf r :: st) h := g_aload_n dL_law_518 rfl
theorem e_L_law_519 : ev X d 113 519 (x0 :: x1 :: x2 :: some (.int a) :: L) st h = ev X d 113 520 (x0 :: x1 :: x2 :: some (.int a) :: L) (.int a :: st) h := g_iload_n dL_law_519 rfl
theorem e_L_law_520 : ev X d 113 520 L st h = ev X d 113 521 L (.int 1 :: st) h := g_iconst dL_law_520 (by decide)
theorem e_L_law_521 : ev X d 113 521 L (.int b :: .int a :: st) h = ev X d 113 522 L (.int (a + b) :: st) h := g_iadd dL_law_521
theorem e_L_law_522 : ev X d 113 522 L (.int i :: va_rf (some q) :: st) h = (I_sld X q i).bind (fun v => ev X d 113 523 L (.int v :: st) h) := g_sld dL_law_522 rfl
theorem e_L_law_523 (hc : I_isC X h q 3 = true) (hs : I_cat st ≤ 8) : ev X (d + 1) 113 523 L (.int a1 :: va_rf (some q) :: st) h = (ev X d 88 0 [some (va_rf (some q)), some (.int a1)] [] h).bind (fun r => ev X (d + 1) 113 526 L (r.1.toList ++ st) r.2) := g_callV (as := [.int a1]) dL_law_523 (by decide) (by decide) I_np_88 rfl (by simp only [List.reverse_cons, List.reverse_nil, List.nil_append, List.cons_append, I_slots_n, I_slots_i, I_slots_d, I_slots_q, List.length_cons, List.length_nil]; decide) (by simp only [I_ent, List.reverse_cons, List.reverse_nil, List.nil_append, List.cons_append, I_slots_n, I_slots_i, I_slots_d, I_slots_q, List.length_cons, List.length_nil]; rfl) rfl hc hs
theorem e_L_law_526 : ev X d 113 526 L (.int b :: .int a :: st) h = if a = b then ev X d 113 924 L st h else ev X d 113 529 L st h := g_icmp_eq dL_law_526 (by decide)
theorem e_L_law_529 : ev X d 113 529 L st h = ev X d 113 530 L (.int 0 :: st) h := g_iconst dL_law_529 (by decide)
theorem e_L_law_530 (ha : a = 0 ∨ a = 1) : ev X d 113 530 L [.int a] h = some (some (.int a), h) := g_zret dL_law_530 rfl ha
theorem e_L_law_531 : ev X d 113 531 (x0 :: some (va_rf r) :: L) st h = ev X d 113 532 (x0 :: some (va_rf r) :: L) (va_rf r :: st) h := g_aload_n dL_law_531 rfl
theorem e_L_law_532 : ev X d 113 532 (some (va_rf r) :: L) st h = ev X d 113 533 (some (va_rf r) :: L) (va_rf r :: st) h := g_aload_n dL_law_532 rfl
theorem e_L_law_533 : ev X d 113 533 (x0 :: x1 :: x2 :: some (.int a) :: L) st h = ev X d 113 534 (x0 :: x1 :: x2 :: some (.int a) :: L) (.int a :: st) h := g_iload_n dL_law_533 rfl
theorem e_L_law_534 : ev X d 113 534 L st h = ev X d 113 535 L (.int 1 :: st) h := g_iconst dL_law_534 (by decide)
theorem e_L_law_535 : ev X d 113 535 L (.int b :: .int a :: st) h = ev X d 113 536 L (.int (a + b) :: st) h := g_iadd dL_law_535
theorem e_L_law_536 : ev X d 113 536 L (.int i :: va_rf (some q) :: st) h = (I_sld X q i).bind (fun v => ev X d 113 537 L (.int v :: st) h) := g_sld dL_law_536 rfl
theorem e_L_law_537 : ev X d 113 537 (some (va_rf r) :: L) st h = ev X d 113 538 (some (va_rf r) :: L) (va_rf r :: st) h := g_aload_n dL_law_537 rfl
theorem e_L_law_538 : ev X d 113 538 (x0 :: x1 :: x2 :: some (.int a) :: L) st h = ev X d 113 539 (x0 :: x1 :: x2 :: some (.int a) :: L) (.int a :: st) h := g_iload_n dL_law_538 rfl
theorem e_L_law_539 : ev X d 113 539 L st h = ev X d 113 540 L (.int 2 :: st) h := g_iconst dL_law_539 (by decide)
theorem e_L_law_540 : ev X d 113 540 L (.int b :: .int a :: st) h = ev X d 113 541 L (.int (a + b) :: st) h := g_iadd dL_law_540
theorem e_L_law_541 : ev X d 113 541 L (.int i :: va_rf (some q) :: st) h = (I_sld X q i).bind (fun v => ev X d 113 542 L (.int v :: st) h) := g_sld dL_law_541 rfl
theorem e_L_law_542 : ev X d 113 542 (some (va_rf r) :: L) st h = ev X d 113 543 (some (va_rf r) :: L) (va_rf r :: st) h := g_aload_n dL_law_542 rfl
theorem e_L_law_543 : ev X d 113 543 (x0 :: x1 :: x2 :: some (.int a) :: L) st h = ev X d 113 544 (x0 :: x1 :: x2 :: some (.int a) :: L) (.int a :: st) h := g_iload_n dL_law_543 rfl
theorem e_L_law_544 : ev X d 113 544 L st h = ev X d 113 545 L (.int 3 :: st) h := g_iconst dL_law_544 (by decide)
theorem e_L_law_545 : ev X d 113 545 L (.int b :: .int a :: st) h = ev X d 113 546 L (.int (a + b) :: st) h := g_iadd dL_law_545
theorem e_L_law_546 : ev X d 113 546 L (.int i :: va_rf (some q) :: st) h = (I_sld X q i).bind (fun v => ev X d 113 547 L (.int v :: st) h) := g_sld dL_law_546 rfl
theorem e_L_law_547 : ev X d 113 547 (some (va_rf r) :: L) st h = ev X d 113 548 (some (va_rf r) :: L) (va_rf r :: st) h := g_aload_n dL_law_547 rfl
theorem e_L_law_548 : ev X d 113 548 (x0 :: x1 :: x2 :: some (.int a) :: L) st h = ev X d 113 549 (x0 :: x1 :: x2 :: some (.int a) :: L) (.int a :: st) h := g_iload_n dL_law_548 rfl
theorem e_L_law_549 : ev X d 113 549 L st h = ev X d 113 550 L (.int 4 :: st) h := g_iconst dL_law_549 (by decide)
theorem e_L_law_550 : ev X d 113 550 L (.int b :: .int a :: st) h = ev X d 113 551 L (.int (a + b) :: st) h := g_iadd dL_law_550
theorem e_L_law_551 : ev X d 113 551 L (.int i :: va_rf (some q) :: st) h = (I_sld X q i).bind (fun v => ev X d 113 552 L (.int v :: st) h) := g_sld dL_law_551 rfl
theorem e_L_law_552 : ev X d 113 552 (some (va_rf r) :: L) st h = ev X d 113 553 (some (va_rf r) :: L) (va_rf r :: st) h := g_aload_n dL_law_552 rfl
theorem e_L_law_553 : ev X d 113 553 (x0 :: x1 :: x2 :: some (.int a) :: L) st h = ev X d 113 554 (x0 :: x1 :: x2 :: some (.int a) :: L) (.int a :: st) h := g_iload_n dL_law_553 rfl
theorem e_L_law_554 : ev X d 113 554 L st h = ev X d 113 555 L (.int 5 :: st) h := g_iconst dL_law_554 (by decide)
theorem e_L_law_555 : ev X d 113 555 L (.int b :: .int a :: st) h = ev X d 113 556 L (.int (a + b) :: st) h := g_iadd dL_law_555
theorem e_L_law_556 : ev X d 113 556 L (.int i :: va_rf (some q) :: st) h = (I_sld X q i).bind (fun v => ev X d 113 557 L (.int v :: st) h) := g_sld dL_law_556 rfl
theorem e_L_law_557 : ev X d 113 557 (some (va_rf r) :: L) st h = ev X d 113 558 (some (va_rf r) :: L) (va_rf r :: st) h := g_aload_n dL_law_557 rfl
theorem e_L_law_558 : ev X d 113 558 (x0 :: x1 :: x2 :: some (.int a) :: L) st h = ev X d 113 559 (x0 :: x1 :: x2 :: some (.int a) :: L) (.int a :: st) h := g_iload_n dL_law_558 rfl
theorem e_L_law_559 : ev X d 113 559 L st h = ev X d 113 561 L (.int 6 :: st) h := g_bipush dL_law_559 (by decide)
theorem e_L_law_561 : ev X d 113 561 L (.int b :: .int a :: st) h = ev X d 113 562 L (.int (a + b) :: st) h := g_iadd dL_law_561
theorem e_L_law_562 : ev X d 113 562 L (.int i :: va_rf (some q) :: st) h = (I_sld X q i).bind (fun v => ev X d 113 563 L (.int v :: st) h) := g_sld dL_law_562 rfl
theorem e_L_law_563 : ev X d 113 563 (some (va_rf r) :: L) st h = ev X d 113 564 (some (va_rf r) :: L) (va_rf r :: st) h := g_aload_n dL_law_563 rfl
theorem e_L_law_564 : ev X d 113 564 (x0 :: x1 :: x2 :: some (.int a) :: L) st h = ev X d 113 565 (x0 :: x1 :: x2 :: some (.int a) :: L) (.int a :: st) h := g_iload_n dL_law_564 rfl
theorem e_L_law_565 : ev X d 113 565 L st h = ev X d 113 567 L (.int 7 :: st) h := g_bipush dL_law_565 (by decide)
theorem e_L_law_567 : ev X d 113 567 L (.int b :: .int a :: st) h = ev X d 113 568 L (.int (a + b) :: st) h := g_iadd dL_law_567
theorem e_L_law_568 : ev X d 113 568 L (.int i :: va_rf (some q) :: st) h = (I_sld X q i).bind (fun v => ev X d 113 569 L (.int v :: st) h) := g_sld dL_law_568 rfl
theorem e_L_law_569 (hc : I_isC X h q 2 = true) (hs : I_cat st ≤ 8) : ev X (d + 1) 113 569 L (.int a7 :: .int a6 :: .int a5 :: .int a4 :: .int a3 :: .int a2 :: .int a1 :: va_rf (some q) :: st) h = (ev X d 32 0 [some (va_rf (some q)), some (.int a1), some (.int a2), some (.int a3), some (.int a4), some (.int a5), some (.int a6), some (.int a7), none, none, none, none] [] h).bind (fun r => ev X (d + 1) 113 572 L (r.1.toList ++ st) r.2) := g_callV (as := [.int a7, .int a6, .int a5, .int a4, .int a3, .int a2, .int a1]) dL_law_569 (by decide) (by decide) I_np_32 rfl (by simp only [List.reverse_cons, List.reverse_nil, List.nil_append, List.cons_append, I_slots_n, I_slots_i, I_slots_d, I_slots_q, List.length_cons, List.length_nil]; decide) (by simp only [I_ent, List.reverse_cons, List.reverse_nil, List.nil_append, List.cons_append, I_slots_n, I_slots_i, I_slots_d, I_slots_q, List.length_cons, List.length_nil]; rfl) rfl hc hs
theorem e_L_law_572 : ev X d 113 572 (x0 :: x1 :: some (va_rf r) :: L) st h = ev X d 113 573 (x0 :: x1 :: some (va_rf r) :: L) (va_rf r :: st) h := g_aload_n dL_law_572 rfl
theorem e_L_law_573 : ev X d 113 573 (some (va_rf r) :: L) st h = ev X d 113 574 (some (va_rf r) :: L) (va_rf r :: st) h := g_aload_n dL_law_573 rfl
theorem e_L_law_574 : ev X d 113 574 (x0 :: x1 :: x2 :: some (.int a) :: L) st h = ev X d 113 575 (x0 :: x1 :: x2 :: some (.int a) :: L) (.int a :: st) h := g_iload_n dL_law_574 rfl
theorem e_L_law_575 : ev X d 113 575 L st h = ev X d 113 576 L (.int 1 :: st) h := g_iconst dL_law_575 (by decide)
theorem e_L_law_576 : ev X d 113 576 L (.int b :: .int a :: st) h = ev X d 113 577 L (.int (a + b) :: st) h := g_iadd dL_law_576
theorem e_L_law_577 : ev X d 113 577 L (.int i :: va_rf (some q) :: st) h = (I_sld X q i).bind (fun v => ev X d 113 578 L (.int v :: st) h) := g_sld dL_law_577 rfl
theorem e_L_law_578 : ev X d 113 578 (some (va_rf r) :: L) st h = ev X d 113 579 (some (va_rf r) :: L) (va_rf r :: st) h := g_aload_n dL_law_578 rfl
theorem e_L_law_579 : ev X d 113 579 (x0 :: x1 :: x2 :: some (.int a) :: L) st h = ev X d 113 580 (x0 :: x1 :: x2 :: some (.int a) :: L) (.int a :: st) h := g_iload_n dL_law_579 rfl
theorem e_L_law_580 : ev X d 113 580 L st h = ev X d 113 581 L (.int 2 :: st) h := g_iconst dL_law_580 (by decide)
theorem e_L_law_581 : ev X d 113 581 L (.int b :: .int a :: st) h = ev X d 113 582 L (.int (a + b) :: st) h := g_iadd dL_law_581
theorem e_L_law_582 : ev X d 113 582 L (.int i :: va_rf (some q) :: st) h = (I_sld X q i).bind (fun v => ev X d 113 583 L (.int v :: st) h) := g_sld dL_law_582 rfl
theorem e_L_law_583 : ev X d 113 583 (some (va_rf r) :: L) st h = ev X d 113 584 (some (va_rf r) :: L) (va_rf r :: st) h := g_aload_n dL_law_583 rfl
theorem e_L_law_584 : ev X d 113 584 (x0 :: x1 :: x2 :: some (.int a) :: L) st h = ev X d 113 585 (x0 :: x1 :: x2 :: some (.int a) :: L) (.int a :: st) h := g_iload_n dL_law_584 rfl
theorem e_L_law_585 : ev X d 113 585 L st h = ev X d 113 586 L (.int 3 :: st) h := g_iconst dL_law_585 (by decide)
theorem e_L_law_586 : ev X d 113 586 L (.int b :: .int a :: st) h = ev X d 113 587 L (.int (a + b) :: st) h := g_iadd dL_law_586
theorem e_L_law_587 : ev X d 113 587 L (.int i :: va_rf (some q) :: st) h = (I_sld X q i).bind (fun v => ev X d 113 588 L (.int v :: st) h) := g_sld dL_law_587 rfl
theorem e_L_law_588 : ev X d 113 588 (some (va_rf r) :: L) st h = ev X d 113 589 (some (va_rf r) :: L) (va_rf r :: st) h := g_aload_n dL_law_588 rfl
theorem e_L_law_589 : ev X d 113 589 (x0 :: x1 :: x2 :: some (.int a) :: L) st h = ev X d 113 590 (x0 :: x1 :: x2 :: some (.int a) :: L) (.int a :: st) h := g_iload_n dL_law_589 rfl
theorem e_L_law_590 : ev X d 113 590 L st h = ev X d 113 591 L (.int 4 :: st) h := g_iconst dL_law_590 (by decide)
theorem e_L_law_591 : ev X d 113 591 L (.int b :: .int a :: st) h = ev X d 113 592 L (.int (a + b) :: st) h := g_iadd dL_law_591
theorem e_L_law_592 : ev X d 113 592 L (.int i :: va_rf (some q) :: st) h = (I_sld X q i).bind (fun v => ev X d 113 593 L (.int v :: st) h) := g_sld dL_law_592 rfl
theorem e_L_law_593 : ev X d 113 593 (some (va_rf r) :: L) st h = ev X d 113 594 (some (va_rf r) :: L) (va_rf r :: st) h := g_aload_n dL_law_593 rfl
theorem e_L_law_594 : ev X d 113 594 (x0 :: x1 :: x2 :: some (.int a) :: L) st h = ev X d 113 595 (x0 :: x1 :: x2 :: some (.int a) :: L) (.int a :: st) h := g_iload_n dL_law_594 rfl
theorem e_L_law_595 : ev X d 113 595 L st h = ev X d 113 596 L (.int 5 :: st) h := g_iconst dL_law_595 (by decide)
theorem e_L_law_596 : ev X d 113 596 L (.int b :: .int a :: st) h = ev X d 113 597 L (.int (a + b) :: st) h := g_iadd dL_law_596
theorem e_L_law_597 : ev X d 113 597 L (.int i :: va_rf (some q) :: st) h = (I_sld X q i).bind (fun v => ev X d 113 598 L (.int v :: st) h) := g_sld dL_law_597 rfl
theorem e_L_law_598 : ev X d 113 598 (some (va_rf r) :: L) st h = ev X d 113 599 (some (va_rf r) :: L) (va_rf r :: st) h := g_aload_n dL_law_598 rfl
theorem e_L_law_599 : ev X d 113 599 (x0 :: x1 :: x2 :: some (.int a) :: L) st h = ev X d 113 600 (x0 :: x1 :: x2 :: some (.int a) :: L) (.int a :: st) h := g_iload_n dL_law_599 rfl
theorem e_L_law_600 : ev X d 113 600 L st h = ev X d 113 602 L (.int 6 :: st) h := g_bipush dL_law_600 (by decide)
theorem e_L_law_602 : ev X d 113 602 L (.int b :: .int a :: st) h = ev X d 113 603 L (.int (a + b) :: st) h := g_iadd dL_law_602
theorem e_L_law_603 : ev X d 113 603 L (.int i :: va_rf (some q) :: st) h = (I_sld X q i).bind (fun v => ev X d 113 604 L (.int v :: st) h) := g_sld dL_law_603 rfl
theorem e_L_law_604 : ev X d 113 604 (some (va_rf r) :: L) st h = ev X d 113 605 (some (va_rf r) :: L) (va_rf r :: st) h := g_aload_n dL_law_604 rfl
theorem e_L_law_605 : ev X d 113 605 (x0 :: x1 :: x2 :: some (.int a) :: L) st h = ev X d 113 606 (x0 :: x1 :: x2 :: some (.int a) :: L) (.int a :: st) h := g_iload_n dL_law_605 rfl
theorem e_L_law_606 : ev X d 113 606 L st h = ev X d 113 608 L (.int 7 :: st) h := g_bipush dL_law_606 (by decide)
theorem e_L_law_608 : ev X d 113 608 L (.int b :: .int a :: st) h = ev X d 113 609 L (.int (a + b) :: st) h := g_iadd dL_law_608
theorem e_L_law_609 : ev X d 113 609 L (.int i :: va_rf (some q) :: st) h = (I_sld X q i).bind (fun v => ev X d 113 610 L (.int v :: st) h) := g_sld dL_law_609 rfl
theorem e_L_law_610 (hc : I_isC X h q 3 = true) (hs : I_cat st ≤ 8) : ev X (d + 1) 113 610 L (.int a7 :: .int a6 :: .int a5 :: .int a4 :: .int a3 :: .int a2 :: .int a1 :: va_rf (some q) :: st) h = (ev X d 89 0 [some (va_rf (some q)), some (.int a1), some (.int a2), some (.int a3), some (.int a4), some (.int a5), some (.int a6), some (.int a7), none, none, none, none] [] h).bind (fun r => ev X (d + 1) 113 613 L (r.1.toList ++ st) r.2) := g_callV (as := [.int a7, .int a6, .int a5, .int a4, .int a3, .int a2, .int a1]) dL_law_610 (by decide) (by decide) I_np_89 rfl (by simp only [List.reverse_cons, List.reverse_nil, List.nil_append, List.cons_append, I_slots_n, I_slots_i, I_slots_d, I_slots_q, List.length_cons, List.length_nil]; decide) (by simp only [I_ent, List.reverse_cons, List.reverse_nil, List.nil_append, List.cons_append, I_slots_n, I_slots_i, I_slots_d, I_slots_q, List.length_cons, List.length_nil]; rfl) rfl hc hs
theorem e_L_law_613 : ev X d 113 613 L (.int b :: .int a :: st) h = if a = b then ev X d 113 924 L st h else ev X d 113 616 L st h := g_icmp_eq dL_law_613 (by decide)
theorem e_L_law_616 : ev X d 113 616 L st h = ev X d 113 617 L (.int 0 :: st) h := g_iconst dL_law_616 (by decide)
theorem e_L_law_617 (ha : a = 0 ∨ a = 1) : ev X d 113 617 L [.int a] h = some (some (.int a), h) := g_zret dL_law_617 rfl ha
theorem e_L_law_618 : ev X d 113 618 (x0 :: some (va_rf r) :: L) st h = ev X d 113 619 (x0 :: some (va_rf r) :: L) (va_rf r :: st) h := g_aload_n dL_law_618 rfl
theorem e_L_law_619 : ev X d 113 619 (some (va_rf r) :: L) st h = ev X d 113 620 (some (va_rf r) :: L) (va_rf r :: st) h := g_aload_n dL_law_619 rfl
theorem e_L_law_620 : ev X d 113 620 (x0 :: x1 :: x2 :: some (.int a) :: L) st h = ev X d 113 621 (x0 :: x1 :: x2 :: some (.int a) :: L) (.int a :: st) h := g_iload_n dL_law_620 rfl
theorem e_L_law_621 : ev X d 113 621 L st h = ev X d 113 622 L (.int 1 :: st) h := g_iconst dL_law_621 (by decide)
theorem e_L_law_622 : ev X d 113 622 L (.int b :: .int a :: st) h = ev X d 113 623 L (.int (a + b) :: st) h := g_iadd dL_law_622
theorem e_L_law_623 : ev X d 113 623 L (.int i :: va_rf (some q) :: st) h = (I_sld X q i).bind (fun v => ev X d 113 624 L (.int v :: st) h) := g_sld dL_law_623 rfl
theorem e_L_law_624 (hc : I_isC X h q 2 = true) (hs : I_cat st ≤ 8) : ev X (d + 1) 113 624 L (.int a1 :: va_rf (some q) :: st) h = (ev X d 33 0 [some (va_rf (some q)), some (.int a1), none, none, none, none, none] [] h).bind (fun r => ev X (d + 1) 113 627 L (r.1.toList ++ st) r.2) := g_callV (as := [.int a1]) dL_law_624 (by decide) (by decide) I_np_33 rfl (by simp only [List.reverse_cons, List.reverse_nil, List.nil_append, List.cons_append, I_slots_n, I_slots_i, I_slots_d, I_slots_q, List.length_cons, List.length_nil]; decide) (by simp only [I_ent, List.reverse_cons, List.reverse_nil, List.nil_append, List.cons_append, I_slots_n, I_slots_i, I_slots_d, I_slots_q, List.length_cons, List.length_nil]; rfl) rfl hc hs
theorem e_L_law_627 : ev X d 113 627 (x0 :: x1 :: some (va_rf r) :: L) st h = ev X d 113 628 (x0 :: x1 :: some (va_rf r) :: L) (va_rf r :: st) h := g_aload_n dL_law_627 rfl
theorem e_L_law_628 : ev X d 113 628 (some (va_rf r) :: L) st h = ev X d 113 629 (some (va_rf r) :: L) (va_rf r :: st) h := g_aload_n dL_law_628 rfl
theorem e_L_law_629 : ev X d 113 629 (x0 :: x1 :: x2 :: some (.int a) :: L) st h = ev X d 113 630 (x0 :: x1 :: x2 :: some (.int a) :: L) (.int a :: st) h := g_iload_n dL_law_629 rfl
theorem e_L_law_630 : ev X d 113 630 L st h = ev X d 113 631 L (.int 1 :: st) h := g_iconst dL_law_630 (by decide)
theorem e_L_law_631 : ev X d 113 631 L (.int b :: .int a :: st) h = ev X d 113 632 L (.int (a + b) :: st) h := g_iadd dL_law_631
theorem e_L_law_632 : ev X d 113 632 L (.int i :: va_rf (some q) :: st) h = (I_sld X q i).bind (fun v => ev X d 113 633 L (.int v :: st) h) := g_sld dL_law_632 rfl
theorem e_L_law_633 (hc : I_isC X h q 3 = true) (hs : I_cat st ≤ 8) : ev X (d + 1) 113 633 L (.int a1 :: va_rf (some q) :: st) h = (ev X d 93 0 [some (va_rf (some q)), some (.int a1), none, none, none] [] h).bind (fun r => ev X (d + 1) 113 636 L (r.1.toList ++ st) r.2) := g_callV (as := [.int a1]) dL_law_633 (by decide) (by decide) I_np_93 rfl (by simp only [List.reverse_cons, List.reverse_nil, List.nil_append, List.cons_append, I_slots_n, I_slots_i, I_slots_d, I_slots_q, List.length_cons, List.length_nil]; decide) (by simp only [I_ent, List.reverse_cons, List.reverse_nil, List.nil_append, List.cons_append, I_slots_n, I_slots_i, I_slots_d, I_slots_q, List.length_cons, List.length_nil]; rfl) rfl hc hs
theorem e_L_law_636 : ev X d 113 636 L (.int b :: .int a :: st) h = if a = b then ev X d 113 924 L st h else ev X d 113 639 L st h := g_icmp_eq dL_law_636 (by decide)
theorem e_L_law_639 : ev X d 113 639 L st h = ev X d 113 640 L (.int 0 :: st) h := g_iconst dL_law_639 (by decide)
theorem e_L_law_640 (ha : a = 0 ∨ a = 1) : ev X d 113 640 L [.int a] h = some (some (.int a), h) := g_zret dL_law_640 rfl ha
theorem e_L_law_641 : ev X d 113 641 (x0 :: some (va_rf r) :: L) st h = ev X d 113 642 (x0 :: some (va_rf r) :: L) (va_rf r :: st) h := g_aload_n dL_law_641 rfl
theorem e_L_law_642 : ev X d 113 642 (some (va_rf r) :: L) st h = ev X d 113 643 (some (va_rf r) :: L) (va_rf r :: st) h := g_aload_n dL_law_642 rfl
theorem e_L_law_643 : ev X d 113 643 (x0 :: x1 :: x2 :: some (.int a) :: L) st h = ev X d 113 644 (x0 :: x1 :: x2 :: some (.int a) :: L) (.int a :: st) h := g_iload_n dL_law_643 rfl
theorem e_L_law_644 : ev X d 113 644 L st h = ev X d 113 645 L (.int 1 :: st) h := g_iconst dL_law_644 (by decide)
theorem e_L_law_645 : ev X d 113 645 L (.int b :: .int a :: st) h = ev X d 113 646 L (.int (a + b) :: st) h := g_iadd dL_law_645
theorem e_L_law_646 : ev X d 113 646 L (.int i :: va_rf (some q) :: st) h = (I_sld X q i).bind (fun v => ev X d 113 647 L (.int v :: st) h) := g_sld dL_law_646 rfl
theorem e_L_law_647 : ev X d 113 647 (some (va_rf r) :: L) st h = ev X d 113 648 (some (va_rf r) :: L) (va_rf r :: st) h := g_aload_n dL_law_647 rfl
theorem e_L_law_648 : ev X d 113 648 (x0 :: x1 :: x2 :: some (.int a) :: L) st h = ev X d 113 649 (x0 :: x1 :: x2 :: some (.int a) :: L) (.int a :: st) h := g_iload_n dL_law_648 rfl
theorem e_L_law_649 : ev X d 113 649 L st h = ev X d 113 650 L (.int 2 :: st) h := g_iconst dL_law_649 (by decide)
theorem e_L_law_650 : ev X d 113 650 L (.int b :: .int a :: st) h = ev X d 113 651 L (.int (a + b) :: st) h := g_iadd dL_law_650
theorem e_L_law_651 : ev X d 113 651 L (.int i :: va_rf (some q) :: st) h = (I_sld X q i).bind (fun v => ev X d 113 652 L (.int v :: st) h) := g_sld dL_law_651 rfl
theorem e_L_law_652 (hc : I_isC X h q 2 = true) (hs : I_cat st ≤ 8) : ev X (d + 1) 113 652 L (.int a2 :: .int a1 :: va_rf (some q) :: st) h = (ev X d 34 0 [some (va_rf (some q)), some (.int a1), some (.int a2), none, none, none, none, none, none] [] h).bind (fun r => ev X (d + 1) 113 655 L (r.1.toList ++ st) r.2) := g_callV (as := [.int a2, .int a1]) dL_law_652 (by decide) (by decide) I_np_34 rfl (by simp only [List.reverse_cons, List.reverse_nil, List.nil_append, List.cons_append, I_slots_n, I_slots_i, I_slots_d, I_slots_q, List.length_cons, List.length_nil]; decide) (by simp only [I_ent, List.reverse_cons, List.reverse_nil, List.nil_append, List.cons_append, I_slots_n, I_slots_i, I_slots_d, I_slots_q, List.length_cons, List.length_nil]; rfl) rfl hc hs
theorem e_L_law_655 : ev X d 113 655 (x0 :: x1 :: some (va_rf r) :: L) st h = ev X d 113 656 (x0 :: x1 :: some (va_rf r) :: L) (va_rf r :: st) h := g_aload_n dL_law_655 rfl
theorem e_L_law_656 : ev X d 113 656 (some (va_rf r) :: L) st h = ev X d 113 657 (some (va_rf r) :: L) (va_rf r :: st) h := g_aload_n dL_law_656 rfl
theorem e_L_law_657 : ev X d 113 657 (x0 :: x1 :: x2 :: some (.int a) :: L) st h = ev X d 113 658 (x0 :: x1 :: x2 :: some (.int a) :: L) (.int a :: st) h := g_iload_n dL_law_657 rfl
theorem e_L_law_658 : ev X d 113 658 L st h = ev X d 113 659 L (.int 1 :: st) h := g_iconst dL_law_658 (by decide)
theorem e_L_law_659 : ev X d 113 659 L (.int b :: .int a :: st) h = ev X d 113 660 L (.int (a + b) :: st) h := g_iadd dL_law_659
theorem e_L_law_660 : ev X d 113 660 L (.int i :: va_rf (some q) :: st) h = (I_sld X q i).bind (fun v => ev X d 113 661 L (.int v :: st) h) := g_sld dL_law_660 rfl
theorem e_L_law_661 : ev X d 113 661 (some (va_rf r) :: L) st h = ev X d 113 662 (some (va_rf r) :: L) (va_rf r :: st) h := g_aload_n dL_law_661 rfl
theorem e_L_law_662 : ev X d 113 662 (x0 :: x1 :: x2 :: some (.int a) :: L) st h = ev X d 113 663 (x0 :: x1 :: x2 :: some (.int a) :: L) (.int a :: st) h := g_iload_n dL_law_662 rfl
theorem e_L_law_663 : ev X d 113 663 L st h = ev X d 113 664 L (.int 2 :: st) h := g_iconst dL_law_663 (by decide)
theorem e_L_law_664 : ev X d 113 664 L (.int b :: .int a :: st) h = ev X d 113 665 L (.int (a + b) :: st) h := g_iadd dL_law_664
theorem e_L_law_665 : ev X d 113 665 L (.int i :: va_rf (some q) :: st) h = (I_sld X q i).bind (fun v => ev X d 113 666 L (.int v :: st) h) := g_sld dL_law_665 rfl
theorem e_L_law_666 (hc : I_isC X h q 3 = true) (hs : I_cat st ≤ 8) : ev X (d + 1) 113 666 L (.int a2 :: .int a1 :: va_rf (some q) :: st) h = (ev X d 97 0 [some (va_rf (some q)), some (.int a1), some (.int a2), none, none, none, none, none, none, none] [] h).bind (fun r => ev X (d + 1) 113 669 L (r.1.toList ++ st) r.2) := g_callV (as := [.int a2, .int a1]) dL_law_666 (by decide) (by decide) I_np_97 rfl (by simp only [List.reverse_cons, List.reverse_nil, List.nil_append, List.cons_append, I_slots_n, I_slots_i, I_slots_d, I_slots_q, List.length_cons, List.length_nil]; decide) (by simp only [I_ent, List.reverse_cons, List.reverse_nil, List.nil_append, List.cons_append, I_slots_n, I_slots_i, I_slots_d, I_slots_q, List.length_cons, List.length_nil]; rfl) rfl hc hs
theorem e_L_law_669 : ev X d 113 669 L (.int b :: .int a :: st) h = if a = b then ev X d 113 924 L st h else ev X d 113 672 L st h := g_icmp_eq dL_law_669 (by decide)
theorem e_L_law_672 : ev X d 113 672 L st h = ev X d 113 673 L (.int 0 :: st) h := g_iconst dL_law_672 (by decide)
theorem e_L_law_673 (ha : a = 0 ∨ a = 1) : ev X d 113 673 L [.int a] h = some (some (.int a), h) := g_zret dL_law_673 rfl ha
theorem e_L_law_674 : ev X d 113 674 (x0 :: some (va_rf r) :: L) st h = ev X d 113 675 (x0 :: some (va_rf r) :: L) (va_rf r :: st) h := g_aload_n dL_law_674 rfl
theorem e_L_law_675 : ev X d 113 675 (some (va_rf r) :: L) st h = ev X d 113 676 (some (va_rf r) :: L) (va_rf r :: st) h := g_aload_n dL_law_675 rfl
theorem e_L_law_676 : ev X d 113 676 (x0 :: x1 :: x2 :: some (.int a) :: L) st h = ev X d 113 677 (x0 :: x1 :: x2 :: some (.int a) :: L) (.int a :: st) h := g_iload_n dL_law_676 rfl
theorem e_L_law_677 : ev X d 113 677 L st h = ev X d 113 678 L (.int 1 :: st) h := g_iconst dL_law_677 (by decide)
theorem e_L_law_678 : ev X d 113 678 L (.int b :: .int a :: st) h = ev X d 113 679 L (.int (a + b) :: st) h := g_iadd dL_law_678
theorem e_L_law_679 : ev X d 113 679 L (.int i :: va_rf (some q) :: st) h = (I_sld X q i).bind (fun v => ev X d 113 680 L (.int v :: st) h) := g_sld dL_law_679 rfl
theorem e_L_law_680 (hc : I_isC X h q 2 = true) (hs : I_cat st ≤ 8) : ev X (d + 1) 113 680 L (.int a1 :: va_rf (some q) :: st) h = (ev X d 35 0 [some (va_rf (some q)), some (.int a1), none, none, none, none, none] [] h).bind (fun r => ev X (d + 1) 113 683 L (r.1.toList ++ st) r.2) := g_callV (as := [.int a1]) dL_law_680 (by decide) (by decide) I_np_35 rfl (by simp only [List.reverse_cons, List.reverse_nil, List.nil_append, List.cons_append, I_slots_n, I_slots_i, I_slots_d, I_slots_q, List.length_cons, List.length_nil]; decide) (by simp only [I_ent, List.reverse_cons, List.reverse_nil, List.nil_append, List.cons_append, I_slots_n, I_slots_i, I_slots_d, I_slots_q, List.length_cons, List.length_nil]; rfl) rfl hc hs
theorem e_L_law_683 : ev X d 113 683 (x0 :: x1 :: some (va_rf r) :: L) st h = ev X d 113 684 (x0 :: x1 :: some (va_rf r) :: L) (va_rf r :: st) h := g_aload_n dL_law_683 rfl
theorem e_L_law_684 : ev X d 113 684 (some (va_rf r) :: L) st h = ev X d 113 685 (some (va_rf r) :: L) (va_rf r :: st) h := g_aload_n dL_law_684 rfl
theorem e_L_law_685 : ev X d 113 685 (x0 :: x1 :: x2 :: some (.int a) :: L) st h = ev X d 113 686 (x0 :: x1 :: x2 :: some (.int a) :: L) (.int a :: st) h := g_iload_n dL_law_685 rfl
theorem e_L_law_686 : ev X d 113 686 L st h = ev X d 113 687 L (.int 1 :: st) h := g_iconst dL_law_686 (by decide)
theorem e_L_law_687 : ev X d 113 687 L (.int b :: .int a :: st) h = ev X d 113 688 L (.int (a + b) :: st) h := g_iadd dL_law_687
theorem e_L_law_688 : ev X d 113 688 L (.int i :: va_rf (some q) :: st) h = (I_sld X q i).bind (fun v => ev X d 113 689 L (.int v :: st) h) := g_sld dL_law_688 rfl
theorem e_L_law_689 (hc : I_isC X h q 3 = true) (hs : I_cat st ≤ 8) : ev X (d + 1) 113 689 L (.int a1 :: va_rf (some q) :: st) h = (ev X d 98 0 [some (va_rf (some q)), some (.int a1), none, none, none, none, none, none, none] [] h).bind (fun r => ev X (d + 1) 113 692 L (r.1.toList ++ st) r.2) := g_callV (as := [.int a1]) dL_law_689 (by decide) (by decide) I_np_98 rfl (by simp only [List.reverse_cons, List.reverse_nil, List.nil_append, List.cons_append, I_slots_n, I_slots_i, I_slots_d, I_slots_q, List.length_cons, List.length_nil]; decide) (by simp only [I_ent, List.reverse_cons, List.reverse_nil, List.nil_append, List.cons_append, I_slots_n, I_slots_i, I_slots_d, I_slots_q, List.length_cons, List.length_nil]; rfl) rfl hc hs
theorem e_L_law_692 : ev X d 113 692 L (.int b :: .int a :: st) h = if a = b then ev X d 113 924 L st h else ev X d 113 695 L st h := g_icmp_eq dL_law_692 (by decide)
theorem e_L_law_695 : ev X d 113 695 L st h = ev X d 113 696 L (.int 0 :: st) h := g_iconst dL_law_695 (by decide)
theorem e_L_law_696 (ha : a = 0 ∨ a = 1) : ev X d 113 696 L [.int a] h = some (some (.int a), h) := g_zret dL_law_696 rfl ha
theorem e_L_law_697 : ev X d 113 697 (x0 :: some (va_rf r) :: L) st h = ev X d 113 698 (x0 :: some (va_rf r) :: L) (va_rf r :: st) h := g_aload_n dL_law_697 rfl
theorem e_L_law_698 : ev X d 113 698 (some (va_rf r) :: L) st h = ev X d 113 699 (some (va_rf r) :: L) (va_rf r :: st) h := g_aload_n dL_law_698 rfl
theorem e_L_law_699 : ev X d 113 699 (x0 :: x1 :: x2 :: some (.int a) :: L) st h = ev X d 113 700 (x0 :: x1 :: x2 :: some (.int a) :: L) (.int a :: st) h := g_iload_n dL_law_699 rfl
theorem e_L_law_700 : ev X d 113 700 L st h = ev X d 113 701 L (.int 1 :: st) h := g_iconst dL_law_700 (by decide)
theorem e_L_law_701 : ev X d 113 701 L (.int b :: .int a :: st) h = ev X d 113 702 L (.int (a + b) :: st) h := g_iadd dL_law_701
theorem e_L_law_702 : ev X d 113 702 L (.int i :: va_rf (some q) :: st) h = (I_sld X q i).bind (fun v => ev X d 113 703 L (.int v :: st) h) := g_sld dL_law_702 rfl
theorem e_L_law_703 (hc : I_isC X h q 2 = true) (hs : I_cat st ≤ 8) : ev X (d + 1) 113 703 L (.int a1 :: va_rf (some q) :: st) h = (ev X d 36 0 [some (va_rf (some q)), some (.int a1), none, none, none] [] h).bind (fun r => ev X (d + 1) 113 706 L (r.1.toList ++ st) r.2) := g_callV (as := [.int a1]) dL_law_703 (by decide) (by decide) I_np_36 rfl (by simp only [List.reverse_cons, List.reverse_nil, List.nil_append, List.cons_append, I_slots_n, I_slots_i, I_slots_d, I_slots_q, List.length_cons, List.length_nil]; decide) (by simp only [I_ent, List.reverse_cons, List.reverse_nil, List.nil_append, List.cons_append, I_slots_n, I_slots_i, I_slots_d, I_slots_q, List.length_cons, List.length_nil]; rfl) rfl hc hs
theorem e_L_law_706 : ev X d 113 706 (x0 :: x1 :: some (va_rf r) :: L) st h = ev X d 113 707 (x0 :: x1 :: some (va_rf r) :: L) (va_rf r :: st) h := g_aload_n dL_law_706 rfl
theorem e_L_law_707 : ev X d 113 707 (some (va_rf r) :: L) st h = ev X d 113 708 (some (va_rf r) :: L) (va_rf r :: st) h := g_aload_n dL_law_707 rfl
theorem e_L_law_708 : ev X d 113 708 (x0 :: x1 :: x2 :: some (.int a) :: L) st h = ev X d 113 709 (x0 :: x1 :: x2 :: some (.int a) :: L) (.int a :: st) h := g_iload_n dL_law_708 rfl
theorem e_L_law_709 : ev X d 113 709 L st h = ev X d 113 710 L (.int 1 :: st) h := g_iconst dL_law_709 (by decide)
theorem e_L_law_710 : ev X d 113 710 L (.int b :: .int a :: st) h = ev X d 113 711 L (.int (a + b) :: st) h := g_iadd dL_law_710
theorem e_L_law_711 : ev X d 113 711 L (.int i :: va_rf (some q) :: st) h = (I_sld X q i).bind (fun v => ev X d 113 712 L (.int v :: st) h) := g_sld dL_law_711 rfl
theorem e_L_law_712 (hc : I_isC X h q 3 = true) (hs : I_cat st ≤ 8) : ev X (d + 1) 113 712 L (.int a1 :: va_rf (some q) :: st) h = (ev X d 99 0 [some (va_rf (some q)), some (.int a1), none, none, none] [] h).bind (fun r => ev X (d + 1) 113 715 L (r.1.toList ++ st) r.2) := g_callV (as := [.int a1]) dL_law_712 (by decide) (by decide) I_np_99 rfl (by simp only [List.reverse_cons, List.reverse_nil, List.nil_append, List.cons_append, I_slots_n, I_slots_i, I_slots_d, I_slots_q, List.length_cons, List.length_nil]; decide) (by simp only [I_ent, List.reverse_cons, List.reverse_nil, List.nil_append, List.cons_append, I_slots_n, I_slots_i, I_slots_d, I_slots_q, List.length_cons, List.length_nil]; rfl) rfl hc hs
theorem e_L_law_715 : ev X d 113 715 L (.int b :: .int a :: st) h = if a = b then ev X d 113 924 L st h else ev X d 113 718 L st h := g_icmp_eq dL_law_715 (by decide)
theorem e_L_law_718 : ev X d 113 718 L st h = ev X d 113 719 L (.int 0 :: st) h := g_iconst dL_law_718 (by decide)
theorem e_L_law_719 (ha : a = 0 ∨ a = 1) : ev X d 113 719 L [.int a] h = some (some (.int a), h) := g_zret dL_law_719 rfl ha
theorem e_L_law_720 : ev X d 113 720 (x0 :: some (va_rf r) :: L) st h = ev X d 113 721 (x0 :: some (va_rf r) :: L) (va_rf r :: st) h := g_aload_n dL_law_720 rfl
theorem e_L_law_721 : ev X d 113 721 (some (va_rf r) :: L) st h = ev X d 113 722 (some (va_rf r) :: L) (va_rf r :: st) h := g_aload_n dL_law_721 rfl
theorem e_L_law_722 : ev X d 113 722 (x0 :: x1 :: x2 :: some (.int a) :: L) st h = ev X d 113 723 (x0 :: x1 :: x2 :: some (.int a) :: L) (.int a :: st) h := g_iload_n dL_law_722 rfl
theorem e_L_law_723 : ev X d 113 723 L st h = ev X d 113 724 L (.int 1 :: st) h := g_iconst dL_law_723 (by decide)
theorem e_L_law_724 : ev X d 113 724 L (.int b :: .int a :: st) h = ev X d 113 725 L (.int (a + b) :: st) h := g_iadd dL_law_724
theorem e_L_law_725 : ev X d 113 725 L (.int i :: va_rf (some q) :: st) h = (I_sld X q i).bind (fun v => ev X d 113 726 L (.int v :: st) h) := g_sld dL_law_725 rfl
theorem e_L_law_726 (hc : I_isC X h q 2 = true) (hs : I_cat st ≤ 8) : ev X (d + 1) 113 726 L (.int a1 :: va_rf (some q) :: st) h = (ev X d 37 0 [some (va_rf (some q)), some (.int a1)] [] h).bind (fun r => ev X (d + 1) 113 729 L (r.1.toList ++ st) r.2) := g_callV (as := [.int a1]) dL_law_726 (by decide) (by decide) I_np_37 rfl (by simp only [List.reverse_cons, List.reverse_nil, List.nil_append, List.cons_append, I_slots_n, I_slots_i, I_slots_d, I_slots_q, List.length_cons, List.length_nil]; decide) (by simp only [I_ent, List.reverse_cons, List.reverse_nil, List.nil_append, List.cons_append, I_slots_n, I_slots_i, I_slots_d, I_slots_q, List.length_cons, List.length_nil]; rfl) rfl hc hs
theorem e_L_law_729 : ev X d 113 729 (x0 :: x1 :: some (va_rf r) :: L) st h = ev X d 113 730 (x0 :: x1 :: some (va_rf r) :: L) (va_rf r :: st) h := g_aload_n dL_law_729 rfl
theorem e_L_law_730 : ev X d 113 730 (some (va_rf r) :: L) st h = ev X d 113 731 (some (va_rf r) :: L) (va_rf r :: st) h := g_aload_n dL_law_730 rfl
theorem e_L_law_731 : ev X d 113 731 (x0 :: x1 :: x2 :: some (.int a) :: L) st h = ev X d 113 732 (x0 :: x1 :: x2 :: some (.int a) :: L) (.int a :: st) h := g_iload_n dL_law_731 rfl
theorem e_L_law_732 : ev X d 113 732 L st h = ev X d 113 733 L (.int 1 :: st) h := g_iconst dL_law_732 (by decide)
theorem e_L_law_733 : ev X d 113 733 L (.int b :: .int a :: st) h = ev X d 113 734 L (.int (a + b) :: st) h := g_iadd dL_law_733
theorem e_L_law_734 : ev X d 113 734 L (.int i :: va_rf (some q) :: st) h = (I_sld X q i).bind (fun v => ev X d 113 735 L (.int v :: st) h) := g_sld dL_law_734 rfl
theorem e_L_law_735 (hc : I_isC X h q 3 = true) (hs : I_cat st ≤ 8) : ev X (d + 1) 113 735 L (.int a1 :: va_rf (some q) :: st) h = (ev X d 100 0 [some (va_rf (some q)), some (.int a1)] [] h).bind (fun r => ev X (d + 1) 113 738 L (r.1.toList ++ st) r.2) := g_callV (as := [.int a1]) dL_law_735 (by decide) (by decide) I_np_100 rfl (by simp only [List.reverse_cons, List.reverse_nil, List.nil_append, List.cons_append, I_slots_n, I_slots_i, I_slots_d, I_slots_q, List.length_cons, List.length_nil]; decide) (by simp only [I_ent, List.reverse_cons, List.reverse_nil, List.nil_append, List.cons_append, I_slots_n, I_slots_i, I_slots_d, I_slots_q, List.length_cons, List.length_nil]; rfl) rfl hc hs
theorem e_L_law_738 : ev X d 113 738 L (.int b :: .int a :: st) h = if a = b then ev X d 113 924 L st h else ev X d 113 741 L st h := g_icmp_eq dL_law_738 (by decide)
theorem e_L_law_741 : ev X d 113 741 L st h = ev X d 113 742 L (.int 0 :: st) h := g_iconst dL_law_741 (by decide)
theorem e_L_law_742 (ha : a = 0 ∨ a = 1) : ev X d 113 742 L [.int a] h = some (some (.int a), h) := g_zret dL_law_742 rfl ha
theorem e_L_law_743 : ev X d 113 743 (x0 :: some (va_rf r) :: L) st h = ev X d 113 744 (x0 :: some (va_rf r) :: L) (va_rf r :: st) h := g_aload_n dL_law_743 rfl
theorem e_L_law_744 : ev X d 113 744 (some (va_rf r) :: L) st h = ev X d 113 745 (some (va_rf r) :: L) (va_rf r :: st) h := g_aload_n dL_law_744 rfl
theorem e_L_law_745 : ev X d 113 745 (x0 :: x1 :: x2 :: some (.int a) :: L) st h = ev X d 113 746 (x0 :: x1 :: x2 :: some (.int a) :: L) (.int a :: st) h := g_iload_n dL_law_745 rfl
theorem e_L_law_746 : ev X d 113 746 L st h = ev X d 113 747 L (.int 1 :: st) h := g_iconst dL_law_746 (by decide)
theorem e_L_law_747 : ev X d 113 747 L (.int b :: .int a :: st) h = ev X d 113 748 L (.int (a + b) :: st) h := g_iadd dL_law_747
theorem e_L_law_748 : ev X d 113 748 L (.int i :: va_rf (some q) :: st) h = (I_sld X q i).bind (fun v => ev X d 113 749 L (.int v :: st) h) := g_sld dL_law_748 rfl
theorem e_L_law_749 : ev X d 113 749 (some (va_rf r) :: L) st h = ev X d 113 750 (some (va_rf r) :: L) (va_rf r :: st) h := g_aload_n dL_law_749 rfl
theorem e_L_law_750 : ev X d 113 750 (x0 :: x1 :: x2 :: some (.int a) :: L) st h = ev X d 113 751 (x0 :: x1 :: x2 :: some (.int a) :: L) (.int a :: st) h := g_iload_n dL_law_750 rfl
theorem e_L_law_751 : ev X d 113 751 L st h = ev X d 113 752 L (.int 2 :: st) h := g_iconst dL_law_751 (by decide)
theorem e_L_law_752 : ev X d 113 752 L (.int b :: .int a :: st) h = ev X d 113 753 L (.int (a + b) :: st) h := g_iadd dL_law_752
theorem e_L_law_753 : ev X d 113 753 L (.int i :: va_rf (some q) :: st) h = (I_sld X q i).bind (fun v => ev X d 113 754 L (.int v :: st) h) := g_sld dL_law_753 rfl
theorem e_L_law_754 (hc : I_isC X h q 2 = true) (hs : I_cat st ≤ 8) : ev X (d + 1) 113 754 L (.int a2 :: .int a1 :: va_rf (some q) :: st) h = (ev X d 38 0 [some (va_rf (some q)), some (.int a1), some (.int a2)] [] h).bind (fun r => ev X (d + 1) 113 757 L (r.1.toList ++ st) r.2) := g_callV (as := [.int a2, .int a1]) dL_law_754 (by decide) (by decide) I_np_38 rfl (by simp only [List.reverse_cons, List.reverse_nil, List.nil_append, List.cons_append, I_slots_n, I_slots_i, I_slots_d, I_slots_q, List.length_cons, List.length_nil]; decide) (by simp only [I_ent, List.reverse_cons, List.reverse_nil, List.nil_append, List.cons_append, I_slots_n, I_slots_i, I_slots_d, I_slots_q, List.length_cons, List.length_nil]; rfl) rfl hc hs
theorem e_L_law_757 : ev X d 113 757 (x0 :: x1 :: some (va_rf r) :: L) st h = ev X d 113 758 (x0 :: x1 :: some (va_rf r) :: L) (va_rf r :: st) h := g_aload_n dL_law_757 rfl
theorem e_L_law_758 : ev X d 113 758 (some (va_rf r) :: L) st h = ev X d 113 759 (some (va_rf r) :: L) (va_rf r :: st) h := g_aload_n dL_law_758 rfl
theorem e_L_law_759 : ev X d 113 759 (x0 :: x1 :: x2 :: some (.int a) :: L) st h = ev X d 113 760 (x0 :: x1 :: x2 :: some (.int a) :: L) (.int a :: st) h := g_iload_n dL_law_759 rfl
theorem e_L_law_760 : ev X d 113 760 L st h = ev X d 113 761 L (.int 1 :: st) h := g_iconst dL_law_760 (by decide)
theorem e_L_law_761 : ev X d 113 761 L (.int b :: .int a :: st) h = ev X d 113 762 L (.int (a + b) :: st) h := g_iadd dL_law_761
theorem e_L_law_762 : ev X d 113 762 L (.int i :: va_rf (some q) :: st) h = (I_sld X q i).bind (fun v => ev X d 113 763 L (.int v :: st) h) := g_sld dL_law_762 rfl
theorem e_L_law_763 : ev X d 113 763 (some (va_rf r) :: L) st h = ev X d 113 764 (some (va_rf r) :: L) (va_rf r :: st) h := g_aload_n dL_law_763 rfl
theorem e_L_law_764 : ev X d 113 764 (x0 :: x1 :: x2 :: some (.int a) :: L) st h = ev X d 113 765 (x0 :: x1 :: x2 :: some (.int a) :: L) (.int a :: st) h := g_iload_n dL_law_764 rfl
theorem e_L_law_765 : ev X d 113 765 L st h = ev X d 113 766 L (.int 2 :: st) h := g_iconst dL_law_765 (by decide)
theorem e_L_law_766 : ev X d 113 766 L (.int b :: .int a :: st) h = ev X d 113 767 L (.int (a + b) :: st) h := g_iadd dL_law_766
theorem e_L_law_767 : ev X d 113 767 L (.int i :: va_rf (some q) :: st) h = (I_sld X q i).bind (fun v => ev X d 113 768 L (.int v :: st) h) := g_sld dL_law_767 rfl
theorem e_L_law_768 (hc : I_isC X h q 3 = true) (hs : I_cat st ≤ 8) : ev X (d + 1) 113 768 L (.int a2 :: .int a1 :: va_rf (some q) :: st) h = (ev X d 102 0 [some (va_rf (some q)), some (.int a1), some (.int a2), none, none] [] h).bind (fun r => ev X (d + 1) 113 771 L (r.1.toList ++ st) r.2) := g_callV (as := [.int a2, .int a1]) dL_law_768 (by decide) (by decide) I_np_102 rfl (by simp only [List.reverse_cons, List.reverse_nil, List.nil_append, List.cons_append, I_slots_n, I_slots_i, I_slots_d, I_slots_q, List.length_cons, List.length_nil]; decide) (by simp only [I_ent, List.reverse_cons, List.reverse_nil, List.nil_append, List.cons_append, I_slots_n, I_slots_i, I_slots_d, I_slots_q, List.length_cons, List.length_nil]; rfl) rfl hc hs
theorem e_L_law_771 : ev X d 113 771 L (.int b :: .int a :: st) h = if a = b then ev X d 113 924 L st h else ev X d 113 774 L st h := g_icmp_eq dL_law_771 (by decide)
theorem e_L_law_774 : ev X d 113 774 L st h = ev X d 113 775 L (.int 0 :: st) h := g_iconst dL_law_774 (by decide)
theorem e_L_law_775 (ha : a = 0 ∨ a = 1) : ev X d 113 775 L [.int a] h = some (some (.int a), h) := g_zret dL_law_775 rfl ha
theorem e_L_law_776 : ev X d 113 776 (x0 :: some (va_rf r) :: L) st h = ev X d 113 777 (x0 :: some (va_rf r) :: L) (va_rf r :: st) h := g_aload_n dL_law_776 rfl
theorem e_L_law_777 : ev X d 113 777 (some (va_rf r) :: L) st h = ev X d 113 778 (some (va_rf r) :: L) (va_rf r :: st) h := g_aload_n dL_law_777 rfl
theorem e_L_law_778 : ev X d 113 778 (x0 :: x1 :: x2 :: some (.int a) :: L) st h = ev X d 113 779 (x0 :: x1 :: x2 :: some (.int a) :: L) (.int a :: st) h := g_iload_n dL_law_778 rfl
theorem e_L_law_779 : ev X d 113 779 L st h = ev X d 113 780 L (.int 1 :: st) h := g_iconst dL_law_779 (by decide)
theorem e_L_law_780 : ev X d 113 780 L (.int b :: .int a :: st) h = ev X d 113 781 L (.int (a + b) :: st) h := g_iadd dL_law_780
theorem e_L_law_781 : ev X d 113 781 L (.int i :: va_rf (some q) :: st) h = (I_sld X q i).bind (fun v => ev X d 113 782 L (.int v :: st) h) := g_sld dL_law_781 rfl
theorem e_L_law_782 : ev X d 113 782 (some (va_rf r) :: L) st h = ev X d 113 783 (some (va_rf r) :: L) (va_rf r :: st) h := g_aload_n dL_law_782 rfl
theorem e_L_law_783 : ev X d 113 783 (x0 :: x1 :: x2 :: some (.int a) :: L) st h = ev X d 113 784 (x0 :: x1 :: x2 :: some (.int a) :: L) (.int a :: st) h := g_iload_n dL_law_783 rfl
theorem e_L_law_784 : ev X d 113 784 L st h = ev X d 113 785 L (.int 2 :: st) h := g_iconst dL_law_784 (by decide)
theorem e_L_law_785 : ev X d 113 785 L (.int b :: .int a :: st) h = ev X d 113 786 L (.int (a + b) :: st) h := g_iadd dL_law_785
theorem e_L_law_786 : ev X d 113 786 L (.int i :: va_rf (some q) :: st) h = (I_sld X q i).bind (fun v => ev X d 113 787 L (.int v :: st) h) := g_sld dL_law_786 rfl
theorem e_L_law_787 : ev X d 113 787 (some (va_rf r) :: L) st h = ev X d 113 788 (some (va_rf r) :: L) (va_rf r :: st) h := g_aload_n dL_law_787 rfl
theorem e_L_law_788 : ev X d 113 788 (x0 :: x1 :: x2 :: some (.int a) :: L) st h = ev X d 113 789 (x0 :: x1 :: x2 :: some (.int a) :: L) (.int a :: st) h := g_iload_n dL_law_788 rfl
theorem e_L_law_789 : ev X d 113 789 L st h = ev X d 113 790 L (.int 3 :: st) h := g_iconst dL_law_789 (by decide)
theorem e_L_law_790 : ev X d 113 790 L (.int b :: .int a :: st) h = ev X d 113 791 L (.int (a + b) :: st) h := g_iadd dL_law_790
theorem e_L_law_791 : ev X d 113 791 L (.int i :: va_rf (some q) :: st) h = (I_sld X q i).bind (fun v => ev X d 113 792 L (.int v :: st) h) := g_sld dL_law_791 rfl
theorem e_L_law_792 : ev X d 113 792 (some (va_rf r) :: L) st h = ev X d 113 793 (some (va_rf r) :: L) (va_rf r :: st) h := g_aload_n dL_law_792 rfl
theorem e_L_law_793 : ev X d 113 793 (x0 :: x1 :: x2 :: some (.int a) :: L) st h = ev X d 113 794 (x0 :: x1 :: x2 :: some (.int a) :: L) (.int a :: st) h := g_iload_n dL_law_793 rfl
theorem e_L_law_794 : ev X d 113 794 L st h = ev X d 113 795 L (.int 4 :: st) h := g_iconst dL_law_794 (by decide)
theorem e_L_law_795 : ev X d 113 795 L (.int b :: .int a :: st) h = ev X d 113 796 L (.int (a + b) :: st) h := g_iadd dL_law_795
theorem e_L_law_796 : ev X d 113 796 L (.int i :: va_rf (some q) :: st) h = (I_sld X q i).bind (fun v => ev X d 113 797 L (.int v :: st) h) := g_sld dL_law_796 rfl
theorem e_L_law_797 (hc : I_isC X h q 2 = true) (hs : I_cat st ≤ 8) : ev X (d + 1) 113 797 L (.int a4 :: .int a3 :: .int a2 :: .int a1 :: va_rf (some q) :: st) h = (ev X d 39 0 [some (va_rf (some q)), some (.int a1), some (.int a2), some (.int a3), some (.int a4), none, none] [] h).bind (fun r => ev X (d + 1) 113 800 L (r.1.toList ++ st) r.2) := g_callV (as := [.int a4, .int a3, .int a2, .int a1]) dL_law_797 (by decide) (by decide) I_np_39 rfl (by simp only [List.reverse_cons, List.reverse_nil, List.nil_append, List.cons_append, I_slots_n, I_slots_i, I_slots_d, I_slots_q, List.length_cons, List.length_nil]; decide) (by simp only [I_ent, List.reverse_cons, List.reverse_nil, List.nil_append, List.cons_append, I_slots_n, I_slots_i, I_slots_d, I_slots_q, List.length_cons, List.length_nil]; rfl) rfl hc hs
theorem e_L_law_800 : ev X d 113 800 (x0 :: x1 :: some (va_rf r) :: L) st h = ev X d 113 801 (x0 :: x1 :: some (va_rf r) :: L) (va_rf r :: st) h := g_aload_n dL_law_800 rfl
theorem e_L_law_801 : ev X d 113 801 (some (va_rf r) :: L) st h = ev X d 113 802 (some (va_rf r) :: L) (va_rf r :: st) h := g_aload_n dL_law_801 rfl
theorem e_L_law_802 : ev X d 113 802 (x0 :: x1 :: x2 :: some (.int a) :: L) st h = ev X d 113 803 (x0 :: x1 :: x2 :: some (.int a) :: L) (.int a :: st) h := g_iload_n dL_law_802 rfl
theorem e_L_law_803 : ev X d 113 803 L st h = ev X d 113 804 L (.int 1 :: st) h := g_iconst dL_law_803 (by decide)
theorem e_L_law_804 : ev X d 113 804 L (.int b :: .int a :: st) h = ev X d 113 805 L (.int (a + b) :: st) h := g_iadd dL_law_804
theorem e_L_law_805 : ev X d 113 805 L (.int i :: va_rf (some q) :: st) h = (I_sld X q i).bind (fun v => ev X d 113 806 L (.int v :: st) h) := g_sld dL_law_805 rfl
theorem e_L_law_806 : ev X d 113 806 (some (va_rf r) :: L) st h = ev X d 113 807 (some (va_rf r) :: L) (va_rf r :: st) h := g_aload_n dL_law_806 rfl
theorem e_L_law_807 : ev X d 113 807 (x0 :: x1 :: x2 :: some (.int a) :: L) st h = ev X d 113 808 (x0 :: x1 :: x2 :: some (.int a) :: L) (.int a :: st) h := g_iload_n dL_law_807 rfl
theorem e_L_law_808 : ev X d 113 808 L st h = ev X d 113 809 L (.int 2 :: st) h := g_iconst dL_law_808 (by decide)
theorem e_L_law_809 : ev X d 113 809 L (.int b :: .int a :: st) h = ev X d 113 810 L (.int (a + b) :: st) h := g_iadd dL_law_809
theorem e_L_law_810 : ev X d 113 810 L (.int i :: va_rf (some q) :: st) h = (I_sld X q i).bind (fun v => ev X d 113 811 L (.int v :: st) h) := g_sld dL_law_810 rfl
theorem e_L_law_811 : ev X d 113 811 (some (va_rf r) :: L) st h = ev X d 113 812 (some (va_rf r) :: L) (va_rf r :: st) h := g_aload_n dL_law_811 rfl
theorem e_L_law_812 : ev X d 113 812 (x0 :: x1 :: x2 :: some (.int a) :: L) st h = ev X d 113 813 (x0 :: x1 :: x2 :: some (.int a) :: L) (.int a :: st) h := g_iload_n dL_law_812 rfl
theorem e_L_law_813 : ev X d 113 813 L st h = ev X d 113 814 L (.int 3 :: st) h := g_iconst dL_law_813 (by decide)
theorem e_L_law_814 : ev X d 113 814 L (.int b :: .int a :: st) h = ev X d 113 815 L (.int (a + b) :: st) h := g_iadd dL_law_814
theorem e_L_law_815 : ev X d 113 815 L (.int i :: va_rf (some q) :: st) h = (I_sld X q i).bind (fun v => ev X d 113 816 L (.int v :: st) h) := g_sld dL_law_815 rfl
theorem e_L_law_816 : ev X d 113 816 (some (va_rf r) :: L) st h = ev X d 113 817 (some (va_rf r) :: L) (va_rf r :: st) h := g_aload_n dL_law_816 rfl
theorem e_L_law_817 : ev X d 113 817 (x0 :: x1 :: x2 :: some (.int a) :: L) st h = ev X d 113 818 (x0 :: x1 :: x2 :: some (.int a) :: L) (.int a :: st) h := g_iload_n dL_law_817 rfl
theorem e_L_law_818 : ev X d 113 818 L st h = ev X d 113 819 L (.int 4 :: st) h := g_iconst dL_law_818 (by decide)
theorem e_L_law_819 : ev X d 113 819 L (.int b :: .int a :: st) h = ev X d 113 820 L (.int (a + b) :: st) h := g_iadd dL_law_819
theorem e_L_law_820 : ev X d 113 820 L (.int i :: va_rf (some q) :: st) h = (I_sld X q i).bind (fun v => ev X d 113 821 L (.int v :: st) h) := g_sld dL_law_820 rfl
theorem e_L_law_821 (hc : I_isC X h q 3 = true) (hs : I_cat st ≤ 8) : ev X (d + 1) 113 821 L (.int a4 :: .int a3 :: .int a2 :: .int a1 :: va_rf (some q) :: st) h = (ev X d 103 0 [some (va_rf (some q)), some (.int a1), some (.int a2), some (.int a3), some (.int a4), none] [] h).bind (fun r => ev X (d + 1) 113 824 L (r.1.toList ++ st) r.2) := g_callV (as := [.int a4, .int a3, .int a2, .int a1]) dL_law_821 (by decide) (by decide) I_np_103 rfl (by simp only [List.reverse_cons, List.reverse_nil, List.nil_append, List.cons_append, I_slots_n, I_slots_i, I_slots_d, I_slots_q, List.length_cons, List.length_nil]; decide) (by simp only [I_ent, List.reverse_cons, List.reverse_nil, List.nil_append, List.cons_append, I_slots_n, I_slots_i, I_slots_d, I_slots_q, List.length_cons, List.length_nil]; rfl) rfl hc hs
theorem e_L_law_824 : ev X d 113 824 L (.int b :: .int a :: st) h = if a = b then ev X d 113 924 L st h else ev X d 113 827 L st h := g_icmp_eq dL_law_824 (by decide)
theorem e_L_law_827 : ev X d 113 827 L st h = ev X d 113 828 L (.int 0 :: st) h := g_iconst dL_law_827 (by decide)
theorem e_L_law_828 (ha : a = 0 ∨ a = 1) : ev X d 113 828 L [.int a] h = some (some (.int a), h) := g_zret dL_law_828 rfl ha
theorem e_L_law_829 : ev X d 113 829 (x0 :: some (va_rf r) :: L) st h = ev X d 113 830 (x0 :: some (va_rf r) :: L) (va_rf r :: st) h := g_aload_n dL_law_829 rfl
theorem e_L_law_830 : ev X d 113 830 (some (va_rf r) :: L) st h = ev X d 113 831 (some (va_rf r) :: L) (va_rf r :: st) h := g_aload_n dL_law_830 rfl
theorem e_L_law_831 : ev X d 113 831 (x0 :: x1 :: x2 :: some (.int a) :: L) st h = ev X d 113 832 (x0 :: x1 :: x2 :: some (.int a) :: L) (.int a :: st) h := g_iload_n dL_law_831 rfl
theorem e_L_law_832 : ev X d 113 832 L st h = ev X d 113 833 L (.int 1 :: st) h := g_iconst dL_law_832 (by decide)
theorem e_L_law_833 : ev X d 113 833 L (.int b :: .int a :: st) h = ev X d 113 834 L (.int (a + b) :: st) h := g_iadd dL_law_833
theorem e_L_law_834 : ev X d 113 834 L (.int i :: va_rf (some q) :: st) h = (I_sld X q i).bind (fun v => ev X d 113 835 L (.int v :: st) h) := g_sld dL_law_834 rfl
theorem e_L_law_835 (hc : I_isC X h q 2 = true) (hs : I_cat st ≤ 8) : ev X (d + 1) 113 835 L (.int a1 :: va_rf (some q) :: st) h = (ev X d 40 0 [some (va_rf (some q)), some (.int a1), none] [] h).bind (fun r => ev X (d + 1) 113 838 L (r.1.toList ++ st) r.2) := g_callV (as := [.int a1]) dL_law_835 (by decide) (by decide) I_np_40 rfl (by simp only [List.reverse_cons, List.reverse_nil, List.nil_append, List.cons_append, I_slots_n, I_slots_i, I_slots_d, I_slots_q, List.length_cons, List.length_nil]; decide) (by simp only [I_ent, List.reverse_cons, List.reverse_nil, List.nil_append, List.cons_append, I_slots_n, I_slots_i, I_slots_d, I_slots_q, List.length_cons, List.length_nil]; rfl) rfl hc hs
theorem e_L_law_838 : ev X d 113 838 (x0 :: x1 :: some (va_rf r) :: L) st h = ev X d 113 839 (x0 :: x1 :: some (va_rf r) :: L) (va_rf r :: st) h := g_aload_n dL_law_838 rfl
theorem e_L_law_839 : ev X d 113 839 (some (va_rf r) :: L) st h = ev X d 113 840 (some (va_rf r) :: L) (va_rf r :: st) h := g_aload_n dL_law_839 rfl
theorem e_L_law_840 : ev X d 113 840 (x0 :: x1 :: x2 :: some (.int a) :: L) st h = ev X d 113 841 (x0 :: x1 :: x2 :: some (.int a) :: L) (.int a :: st) h := g_iload_n dL_law_840 rfl
theorem e_L_law_841 : ev X d 113 841 L st h = ev X d 113 842 L (.int 1 :: st) h := g_iconst dL_law_841 (by decide)
theorem e_L_law_842 : ev X d 113 842 L (.int b :: .int a :: st) h = ev X d 113 843 L (.int (a + b) :: st) h := g_iadd dL_law_842
theorem e_L_law_843 : ev X d 113 843 L (.int i :: va_rf (some q) :: st) h = (I_sld X q i).bind (fun v => ev X d 113 844 L (.int v :: st) h) := g_sld dL_law_843 rfl
theorem e_L_law_844 (hc : I_isC X h q 3 = true) (hs : I_cat st ≤ 8) : ev X (d + 1) 113 844 L (.int a1 :: va_rf (some q) :: st) h = (ev X d 107 0 [some (va_rf (some q)), some (.int a1)] [] h).bind (fun r => ev X (d + 1) 113 847 L (r.1.toList ++ st) r.2) := g_callV (as := [.int a1]) dL_law_844 (by decide) (by decide) I_np_107 rfl (by simp only [List.reverse_cons, List.reverse_nil, List.nil_append, List.cons_append, I_slots_n, I_slots_i, I_slots_d, I_slots_q, List.length_cons, List.length_nil]; decide) (by simp only [I_ent, List.reverse_cons, List.reverse_nil, List.nil_append, List.cons_append, I_slots_n, I_slots_i, I_slots_d, I_slots_q, List.length_cons, List.length_nil]; rfl) rfl hc hs
theorem e_L_law_847 : ev X d 113 847 L (.int b :: .int a :: st) h = if a = b then ev X d 113 924 L st h else ev X d 113 850 L st h := g_icmp_eq dL_law_847 (by decide)
theorem e_L_law_850 : ev X d 113 850 L st h = ev X d 113 851 L (.int 0 :: st) h := g_iconst dL_law_850 (by decide)
theorem e_L_law_851 (ha : a = 0 ∨ a = 1) : ev X d 113 851 L [.int a] h = some (some (.int a), h) := g_zret dL_law_851 rfl ha
theorem e_L_law_852 : ev X d 113 852 (x0 :: some (va_rf r) :: L) st h = ev X d 113 853 (x0 :: some (va_rf r) :: L) (va_rf r :: st) h := g_aload_n dL_law_852 rfl
theorem e_L_law_853 (hc : I_isC X h q 2 = true) (hs : I_cat st ≤ 8) : ev X (d + 1) 113 853 L (va_rf (some q) :: st) h = (ev X d 41 0 [some (va_rf (some q))] [] h).bind (fun r => ev X (d + 1) 113 856 L (r.1.toList ++ st) r.2) := g_callV (as := []) dL_law_853 (by decide) (by decide) I_np_41 rfl (by simp only [List.reverse_cons, List.reverse_nil, List.nil_append, List.cons_append, I_slots_n, I_slots_i, I_slots_d, I_slots_q, List.length_cons, List.length_nil]; decide) (by simp only [I_ent, List.reverse_cons, List.reverse_nil, List.nil_append, List.cons_append, I_slots_n, I_slots_i, I_slots_d, I_slots_q, List.length_cons, List.length_nil]; rfl) rfl hc hs
theorem e_L_law_856 : ev X d 113 856 (x0 :: x1 :: some (va_rf r) :: L) st h = ev X d 113 857 (x0 :: x1 :: some (va_rf r) :: L) (va_rf r :: st) h := g_aload_n dL_law_856 rfl
theorem e_L_law_857 (hc : I_isC X h q 3 = true) (hs : I_cat st ≤ 8) : ev X (d + 1) 113 857 L (va_rf (some q) :: st) h = (ev X d 108 0 [some (va_rf (some q))] [] h).bind (fun r => ev X (d + 1) 113 860 L (r.1.toList ++ st) r.2) := g_callV (as := []) dL_law_857 (by decide) (by decide) I_np_108 rfl (by simp only [List.reverse_cons, List.reverse_nil, List.nil_append, List.cons_append, I_slots_n, I_slots_i, I_slots_d, I_slots_q, List.length_cons, List.length_nil]; decide) (by simp only [I_ent, List.reverse_cons, List.reverse_nil, List.nil_append, List.cons_append, I_slots_n, I_slots_i, I_slots_d, I_slots_q, List.length_cons, List.length_nil]; rfl) rfl hc hs
theorem e_L_law_860 : ev X d 113 860 L (.int b :: .int a :: st) h = if a = b then ev X d 113 924 L st h else ev X d 113 863 L st h := g_icmp_eq dL_law_860 (by decide)
theorem e_L_law_863 : ev X d 113 863 L st h = ev X d 113 864 L (.int 0 :: st) h := g_iconst dL_law_863 (by decide)
theorem e_L_law_864 (ha : a = 0 ∨ a = 1) : ev X d 113 864 L [.int a] h = some (some (.int a), h) := g_zret dL_law_864 rfl ha
theorem e_L_law_865 : ev X d 113 865 (x0 :: some (va_rf r) :: L) st h = ev X d 113 866 (x0 :: some (va_rf r) :: L) (va_rf r :: st) h := g_aload_n dL_law_865 rfl
theorem e_L_law_866 : ev X d 113 866 (some (va_rf r) :: L) st h = ev X d 113 867 (some (va_rf r) :: L) (va_rf r :: st) h := g_aload_n dL_law_866 rfl
theorem e_L_law_867 : ev X d 113 867 (x0 :: x1 :: x2 :: some (.int a) :: L) st h = ev X d 113 868 (x0 :: x1 :: x2 :: some (.int a) :: L) (.int a :: st) h := g_iload_n dL_law_867 rfl
theorem e_L_law_868 : ev X d 113 868 L st h = ev X d 113 869 L (.int 1 :: st) h := g_iconst dL_law_868 (by decide)
theorem e_L_law_869 : ev X d 113 869 L (.int b :: .int a :: st) h = ev X d 113 870 L (.int (a + b) :: st) h := g_iadd dL_law_869
theorem e_L_law_870 : ev X d 113 870 L (.int i :: va_rf (some q) :: st) h = (I_sld X q i).bind (fun v => ev X d 113 871 L (.int v :: st) h) := g_sld dL_law_870 rfl
theorem e_L_law_871 (hc : I_isC X h q 2 = true) (hs : I_cat st ≤ 8) : ev X (d + 1) 113 871 L (.int a1 :: va_rf (some q) :: st) h = (ev X d 42 0 [some (va_rf (some q)), some (.int a1), none] [] h).bind (fun r => ev X (d + 1) 113 874 L (r.1.toList ++ st) r.2) := g_callV (as := [.int a1]) dL_law_871 (by decide) (by decide) I_np_42 rfl (by simp only [List.reverse_cons, List.reverse_nil, List.nil_append, List.cons_append, I_slots_n, I_slots_i, I_slots_d, I_slots_q, List.length_cons, List.length_nil]; decide) (by simp only [I_ent, List.reverse_cons, List.reverse_nil, List.nil_append, List.cons_append, I_slots_n, I_slots_i, I_slots_d, I_slots_q, List.length_cons, List.length_nil]; rfl) rfl hc hs
theorem e_L_law_874 : ev X d 113 874 (x0 :: x1 :: some (va_rf r) :: L) st h = ev X d 113 875 (x0 :: x1 :: some (va_rf r) :: L) (va_rf r :: st) h := g_aload_n dL_law_874 rfl
theorem e_L_law_875 : ev X d 113 875 (some (va_rf r) :: L) st h = ev X d 113 876 (some (va_rf r) :: L) (va_rf r :: st) h := g_aload_n dL_law_875 rfl
theorem e_L_law_876 : ev X d 113 876 (x0 :: x1 :: x2 :: some (.int a) :: L) st h = ev X d 113 877 (x0 :: x1 :: x2 :: some (.int a) :: L) (.int a :: st) h := g_iload_n dL_law_876 rfl
theorem e_L_law_877 : ev X d 113 877 L st h = ev X d 113 878 L (.int 1 :: st) h := g_iconst dL_law_877 (by decide)
theorem e_L_law_878 : ev X d 113 878 L (.int b :: .int a :: st) h = ev X d 113 879 L (.int (a + b) :: st) h := g_iadd dL_law_878
theorem e_L_law_879 : ev X d 113 879 L (.int i :: va_rf (some q) :: st) h = (I_sld X q i).bind (fun v => ev X d 113 880 L (.int v :: st) h) := g_sld dL_law_879 rfl
theorem e_L_law_880 (hc : I_isC X h q 3 = true) (hs : I_cat st ≤ 8) : ev X (d + 1) 113 880 L (.int a1 :: va_rf (some q) :: st) h = (ev X d 109 0 [some (va_rf (some q)), some (.int a1)] [] h).bind (fun r => ev X (d + 1) 113 883 L (r.1.toList ++ st) r.2) := g_callV (as := [.int a1]) dL_law_880 (by decide) (by decide) I_np_109 rfl (by simp only [List.reverse_cons, List.reverse_nil, List.nil_append, List.cons_append, I_slots_n, I_slots_i, I_slots_d, I_slots_q, List.length_cons, List.length_nil]; decide) (by simp only [I_ent, List.reverse_cons, List.reverse_nil, List.nil_append, List.cons_append, I_slots_n, I_slots_i, I_slots_d, I_slots_q, List.length_cons, List.length_nil]; rfl) rfl hc hs
theorem e_L_law_883 : ev X d 113 883 L (.int b :: .int a :: st) h = if a = b then ev X d 113 924 L st h else ev X d 113 886 L st h := g_icmp_eq dL_law_883 (by decide)
theorem e_L_law_886 : ev X d 113 886 L st h = ev X d 113 887 L (.int 0 :: st) h := g_iconst dL_law_886 (by decide)
theorem e_L_law_887 (ha : a = 0 ∨ a = 1) : ev X d 113 887 L [.int a] h = some (some (.int a), h) := g_zret dL_law_887 rfl ha
theorem e_L_law_888 : ev X d 113 888 (x0 :: some (va_rf r) :: L) st h = ev X d 113 889 (x0 :: some (va_rf r) :: L) (va_rf r :: st) h := g_aload_n dL_law_888 rfl
theorem e_L_law_889 : ev X d 113 889 (some (va_rf r) :: L) st h = ev X d 113 890 (some (va_rf r) :: L) (va_rf r :: st) h := g_aload_n dL_law_889 rfl
theorem e_L_law_890 : ev X d 113 890 (x0 :: x1 :: x2 :: some (.int a) :: L) st h = ev X d 113 891 (x0 :: x1 :: x2 :: some (.int a) :: L) (.int a :: st) h := g_iload_n dL_law_890 rfl
theorem e_L_law_891 : ev X d 113 891 L st h = ev X d 113 892 L (.int 1 :: st) h := g_iconst dL_law_891 (by decide)
theorem e_L_law_892 : ev X d 113 892 L (.int b :: .int a :: st) h = ev X d 113 893 L (.int (a + b) :: st) h := g_iadd dL_law_892
theorem e_L_law_893 : ev X d 113 893 L (.int i :: va_rf (some q) :: st) h = (I_sld X q i).bind (fun v => ev X d 113 894 L (.int v :: st) h) := g_sld dL_law_893 rfl
theorem e_L_law_894 (hc : I_isC X h q 2 = true) (hs : I_cat st ≤ 8) : ev X (d + 1) 113 894 L (.int a1 :: va_rf (some q) :: st) h = (ev X d 43 0 [some (va_rf (some q)), some (.int a1)] [] h).bind (fun r => ev X (d + 1) 113 897 L (r.1.toList ++ st) r.2) := g_callV (as := [.int a1]) dL_law_894 (by decide) (by decide) I_np_43 rfl (by simp only [List.reverse_cons, List.reverse_nil, List.nil_append, List.cons_append, I_slots_n, I_slots_i, I_slots_d, I_slots_q, List.length_cons, List.length_nil]; decide) (by simp only [I_ent, List.reverse_cons, List.reverse_nil, List.nil_append, List.cons_append, I_slots_n, I_slots_i, I_slots_d, I_slots_q, List.length_cons, List.length_nil]; rfl) rfl hc hs
theorem e_L_law_897 : ev X d 113 897 (x0 :: x1 :: some (va_rf r) :: L) st h = ev X d 113 898 (x0 :: x1 :: some (va_rf r) :: L) (va_rf r :: st) h := g_aload_n dL_law_897 rfl
theorem e_L_law_898 : ev X d 113 898 (some (va_rf r) :: L) st h = ev X d 113 899 (some (va_rf r) :: L) (va_rf r :: st) h := g_aload_n dL_law_898 rfl
theorem e_L_law_899 : ev X d 113 899 (x0 :: x1 :: x2 :: some (.int a) :: L) st h = ev X d 113 900 (x0 :: x1 :: x2 :: some (.int a) :: L) (.int a :: st) h := g_iload_n dL_law_899 rfl
theorem e_L_law_900 : ev X d 113 900 L st h = ev X d 113 901 L (.int 1 :: st) h := g_iconst dL_law_900 (by decide)
theorem e_L_law_901 : ev X d 113 901 L (.int b :: .int a :: st) h = ev X d 113 902 L (.int (a + b) :: st) h := g_iadd dL_law_901
theorem e_L_law_902 : ev X d 113 902 L (.int i :: va_rf (some q) :: st) h = (I_sld X q i).bind (fun v => ev X d 113 903 L (.int v :: st) h) := g_sld dL_law_902 rfl
theorem e_L_law_903 (hc : I_isC X h q 3 = true) (hs : I_cat st ≤ 8) : ev X (d + 1) 113 903 L (.int a1 :: va_rf (some q) :: st) h = (ev X d 110 0 [some (va_rf (some q)), some (.int a1), none, none, none, none, none] [] h).bind (fun r => ev X (d + 1) 113 906 L (r.1.toList ++ st) r.2) := g_callV (as := [.int a1]) dL_law_903 (by decide) (by decide) I_np_110 rfl (by simp only [List.reverse_cons, List.reverse_nil, List.nil_append, List.cons_append, I_slots_n, I_slots_i, I_slots_d, I_slots_q, List.length_cons, List.length_nil]; decide) (by simp only [I_ent, List.reverse_cons, List.reverse_nil, List.nil_append, List.cons_append, I_slots_n, I_slots_i, I_slots_d, I_slots_q, List.length_cons, List.length_nil]; rfl) rfl hc hs
theorem e_L_law_906 : ev X d 113 906 L (.int b :: .int a :: st) h = if a = b then ev X d 113 924 L st h else ev X d 113 909 L st h := g_icmp_eq dL_law_906 (by decide)
theorem e_L_law_909 : ev X d 113 909 L st h = ev X d 113 910 L (.int 0 :: st) h := g_iconst dL_law_909 (by decide)
theorem e_L_law_910 (ha : a = 0 ∨ a = 1) : ev X d 113 910 L [.int a] h = some (some (.int a), h) := g_zret dL_law_910 rfl ha
theorem e_L_law_911 : ev X d 113 911 (x0 :: some (va_rf r) :: L) st h = ev X d 113 912 (x0 :: some (va_rf r) :: L) (va_rf r :: st) h := g_aload_n dL_law_911 rfl
theorem e_L_law_912 (hc : I_isC X h q 2 = true) (hs : I_cat st ≤ 8) : ev X (d + 1) 113 912 L (va_rf (some q) :: st) h = (ev X d 44 0 [some (va_rf (some q)), none] [] h).bind (fun r => ev X (d + 1) 113 915 L (r.1.toList ++ st) r.2) := g_callV (as := []) dL_law_912 (by decide) (by decide) I_np_44 rfl (by simp only [List.reverse_cons, List.reverse_nil, List.nil_append, List.cons_append, I_slots_n, I_slots_i, I_slots_d, I_slots_q, List.length_cons, List.length_nil]; decide) (by simp only [I_ent, List.reverse_cons, List.reverse_nil, List.nil_append, List.cons_append, I_slots_n, I_slots_i, I_slots_d, I_slots_q, List.length_cons, List.length_nil]; rfl) rfl hc hs
theorem e_L_law_915 : ev X d 113 915 (x0 :: x1 :: some (va_rf r) :: L) st h = ev X d 113 916 (x0 :: x1 :: some (va_rf r) :: L) (va_rf r :: st) h := g_aload_n dL_law_915 rfl
theorem e_L_law_916 (hc : I_isC X h q 3 = true) (hs : I_cat st ≤ 8) : ev X (d + 1) 113 916 L (va_rf (some q) :: st) h = (ev X d 111 0 [some (va_rf (some q)), none] [] h).bind (fun r => ev X (d + 1) 113 919 L (r.1.toList ++ st) r.2) := g_callV (as := []) dL_law_916 (by decide) (by decide) I_np_111 rfl (by simp only [List.reverse_cons, List.reverse_nil, List.nil_append, List.cons_append, I_slots_n, I_slots_i, I_slots_d, I_slots_q, List.length_cons, List.length_nil]; decide) (by simp only [I_ent, List.reverse_cons, List.reverse_nil, List.nil_append, List.cons_append, I_slots_n, I_slots_i, I_slots_d, I_slots_q, List.length_cons, List.length_nil]; rfl) rfl hc hs
theorem e_L_law_919 : ev X d 113 919 L (.int b :: .int a :: st) h = if a = b then ev X d 113 924 L st h else ev X d 113 922 L st h := g_icmp_eq dL_law_919 (by decide)
theorem e_L_law_922 : ev X d 113 922 L st h = ev X d 113 923 L (.int 0 :: st) h := g_iconst dL_law_922 (by decide)
theorem e_L_law_923 (ha : a = 0 ∨ a = 1) : ev X d 113 923 L [.int a] h = some (some (.int a), h) := g_zret dL_law_923 rfl ha
theorem e_L_law_924 (hx : I_c2 x2 = false) : ev X d 113 924 (x0 :: x1 :: x2 :: some (.int a) :: L) st h = ev X d 113 927 (x0 :: x1 :: x2 :: some (.int (a + 8)) :: L) st h := g_iinc dL_law_924 (by decide) rfl (I_st1_3 hx)
theorem e_L_law_927 : ev X d 113 927 L st h = ev X d 113 18 L st h := g_goto dL_law_927 (by decide)
theorem e_L_law_930 : ev X d 113 930 L st h = ev X d 113 931 L (.int 1 :: st) h := g_iconst dL_law_930 (by decide)
theorem e_L_law_931 (ha : a = 0 ∨ a = 1) : ev X d 113 931 L [.int a] h = some (some (.int a), h) := g_zret dL_law_931 rfl ha
end ROWSD
