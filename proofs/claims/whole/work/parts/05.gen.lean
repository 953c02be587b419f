section GEN
variable {X : I_X} {d y pc : Nat} {L L' : I_L} {st : List Value} {h : I_H} {n : Int} {a b v x z i : Int32} {off : Int} {t ci k idx : Nat} {r r2 : Option Nat}
theorem I_b_some {o : Option I_C} {c : I_C} (e : o = some c) (f : I_C → Option I_R) : o.bind f = f c := by rw [e]; rfl
theorem g_s {i : Instr} {len : Nat} {c : I_C} (hd : decode (I_code y) pc = .ok (i, len)) (hk : I_lk i len = true) (hc : I_call X y i st h = none) (hb : I_back y i st = none) (hs : I_step X y i pc len L st h = some c) : ev X d y pc L st h = ev X d y c.1 c.2.1 c.2.2.1 c.2.2.2 := (ev_step hd hk hc hb).trans (I_b_some hs _)
theorem g_iconst (hd : decode (I_code y) pc = .ok (.iconst n, 1)) (hv : Int32.ofInt n = v) : ev X d y pc L st h = ev X d y (pc + 1) L (.int v :: st) h := by subst hv; exact g_s hd rfl rfl rfl rfl
theorem g_bipush (hd : decode (I_code y) pc = .ok (.bipush n, 2)) (hv : (Int8.ofInt n).toInt32 = v) : ev X d y pc L st h = ev X d y (pc + 2) L (.int v :: st) h := by subst hv; exact g_s hd rfl rfl rfl rfl
theorem g_sipush (hd : decode (I_code y) pc = .ok (.sipush n, 3)) (hv : (Int16.ofInt n).toInt32 = v) : ev X d y pc L st h = ev X d y (pc + 3) L (.int v :: st) h := by subst hv; exact g_s hd rfl rfl rfl rfl
theorem g_dconst (hd : decode (I_code y) pc = .ok (.dconst 0, 1)) : ev X d y pc L st h = ev X d y (pc + 1) L (.double 0 :: st) h := g_s (c := (pc + 1, L, .double FP.dconst0 :: st, h)) hd rfl rfl rfl rfl
theorem g_null (hd : decode (I_code y) pc = .ok (.aconst_null, 1)) : ev X d y pc L st h = ev X d y (pc + 1) L (va_rf none :: st) h := g_s (c := (pc + 1, L, .null :: st, h)) hd rfl rfl rfl rfl
theorem g_ldc (hd : decode (I_code y) pc = .ok (.ldc idx, 2)) (hv : I_look I_ci (I_own y) idx = some v) : ev X d y pc L st h = ev X d y (pc + 2) L (.int v :: st) h := g_s (c := (pc + 2, L, .int v :: st, h)) hd rfl rfl rfl (by simp only [I_step, hv, Option.map_some])
theorem g_ldcd {w : UInt64} (hd : decode (I_code y) pc = .ok (.ldc2_w idx, 3)) (hv : I_look I_cd (I_own y) idx = some w) : ev X d y pc L st h = ev X d y (pc + 3) L (.double w :: st) h := g_s (c := (pc + 3, L, .double w :: st, h)) hd rfl rfl rfl (by simp only [I_step, hv])
theorem g_ldcl {w : Int64} (hd : decode (I_code y) pc = .ok (.ldc2_w idx, 3)) (hn : I_look I_cd (I_own y) idx = none) (hv : I_look I_cl (I_own y) idx = some w) : ev X d y pc L st h = ev X d y (pc + 3) L (.long w :: st) h := g_s (c := (pc + 3, L, .long w :: st, h)) hd rfl rfl rfl (by simp only [I_step, hn, hv, Option.map_some])
theorem g_iload (hd : decode (I_code y) pc = .ok (.iload k, 2)) (hl : I_lv L k = some (.int a)) : ev X d y pc L st h = ev X d y (pc + 2) L (.int a :: st) h := g_s (c := (pc + 2, L, .int a :: st, h)) hd rfl rfl rfl (by simp only [I_step, I_ldi, hl, if_pos])
theorem g_iload_n {k : Fin 4} (hd : decode (I_code y) pc = .ok (.iload_n k, 1)) (hl : I_lv L k.val = some (.int a)) : ev X d y pc L st h = ev X d y (pc + 1) L (.int a :: st) h := g_s (c := (pc + 1, L, .int a :: st, h)) hd rfl rfl rfl (by simp only [I_step, I_ldi, hl])
theorem g_dload {a : UInt64} (hd : decode (I_code y) pc = .ok (.dload k, 2)) (hl : I_lv L k = some (.double a)) : ev X d y pc L st h = ev X d y (pc + 2) L (.double a :: st) h := g_s (c := (pc + 2, L, .double a :: st, h)) hd rfl rfl rfl (by simp only [I_step, I_ldd, hl, if_pos])
theorem g_dload_n {a : UInt64} {k : Fin 4} (hd : decode (I_code y) pc = .ok (.dload_n k, 1)) (hl : I_lv L k.val = some (.double a)) : ev X d y pc L st h = ev X d y (pc + 1) L (.double a :: st) h := g_s (c := (pc + 1, L, .double a :: st, h)) hd rfl rfl rfl (by simp only [I_step, I_ldd, hl])
theorem g_aload (hd : decode (I_code y) pc = .ok (.aload k, 2)) (hl : I_lv L k = some (va_rf r)) : ev X d y pc L st h = ev X d y (pc + 2) L (va_rf r :: st) h := g_s (c := (pc + 2, L, va_rf r :: st, h)) hd rfl rfl rfl (by cases r <;> simp only [I_step, I_lda, hl, va_rf, if_pos])
theorem g_aload_n {k : Fin 4} (hd : decode (I_code y) pc = .ok (.aload_n k, 1)) (hl : I_lv L k.val = some (va_rf r)) : ev X d y pc L st h = ev X d y (pc + 1) L (va_rf r :: st) h := g_s (c := (pc + 1, L, va_rf r :: st, h)) hd rfl rfl rfl (by cases r <;> simp only [I_step, I_lda, hl, va_rf])
theorem g_istore (hd : decode (I_code y) pc = .ok (.istore k, 2)) (hl : I_st1 L k (.int a) = some L') : ev X d y pc L (.int a :: st) h = ev X d y (pc + 2) L' st h := g_s (c := (pc + 2, L', st, h)) hd rfl rfl rfl (by simp only [I_step, I_sti, hl, Option.map_some, if_pos])
theorem g_istore_n {k : Fin 4} (hd : decode (I_code y) pc = .ok (.istore_n k, 1)) (hl : I_st1 L k.val (.int a) = some L') : ev X d y pc L (.int a :: st) h = ev X d y (pc + 1) L' st h := g_s (c := (pc + 1, L', st, h)) hd rfl rfl rfl (by simp only [I_step, I_sti, hl, Option.map_some])
theorem g_dstore {a : UInt64} (hd : decode (I_code y) pc = .ok (.dstore k, 2)) (hl : I_st2 L k (.double a) = some L') : ev X d y pc L (.double a :: st) h = ev X d y (pc + 2) L' st h := g_s (c := (pc + 2, L', st, h)) hd rfl rfl rfl (by simp only [I_step, I_std, hl, Option.map_some, if_pos])
theorem g_dstore_n {a : UInt64} {k : Fin 4} (hd : decode (I_code y) pc = .ok (.dstore_n k, 1)) (hl : I_st2 L k.val (.double a) = some L') : ev X d y pc L (.double a :: st) h = ev X d y (pc + 1) L' st h := g_s (c := (pc + 1, L', st, h)) hd rfl rfl rfl (by simp only [I_step, I_std, hl, Option.map_some])
theorem g_astore (hd : decode (I_code y) pc = .ok (.astore k, 2)) (hl : I_st1 L k (va_rf r) = some L') : ev X d y pc L (va_rf r :: st) h = ev X d y (pc + 2) L' st h := g_s (c := (pc + 2, L', st, h)) hd rfl (by cases r <;> rfl) (by cases r <;> rfl) (by cases r <;> (simp only [va_rf] at hl; simp only [I_step, I_sta, hl, va_rf, Option.map_some, if_pos]))
theorem g_astore_n {k : Fin 4} (hd : decode (I_code y) pc = .ok (.astore_n k, 1)) (hl : I_st1 L k.val (va_rf r) = some L') : ev X d y pc L (va_rf r :: st) h = ev X d y (pc + 1) L' st h := g_s (c := (pc + 1, L', st, h)) hd rfl (by cases r <;> rfl) (by cases r <;> rfl) (by cases r <;> (simp only [va_rf] at hl; simp only [I_step, I_sta, hl, va_rf, Option.map_some]))
theorem g_iinc (hd : decode (I_code y) pc = .ok (.iinc k n, 3)) (hv : Int32.ofInt n = v) (hl : I_lv L k = some (.int a)) (hs : I_st1 L k (.int (a + v)) = some L') : ev X d y pc L st h = ev X d y (pc + 3) L' st h := by
  subst hv
  exact g_s (c := (pc + 3, L', st, h)) hd rfl rfl rfl (by simp only [I_step, hl, hs, Option.map_some, if_pos])
theorem g_iadd (hd : decode (I_code y) pc = .ok (.iadd, 1)) : ev X d y pc L (.int b :: .int a :: st) h = ev X d y (pc + 1) L (.int (a + b) :: st) h := g_s (c := (pc + 1, L, .int (a + b) :: st, h)) hd rfl rfl rfl rfl
theorem g_isub (hd : decode (I_code y) pc = .ok (.isub, 1)) : ev X d y pc L (.int b :: .int a :: st) h = ev X d y (pc + 1) L (.int (a - b) :: st) h := g_s (c := (pc + 1, L, .int (a - b) :: st, h)) hd rfl rfl rfl rfl
theorem g_imul (hd : decode (I_code y) pc = .ok (.imul, 1)) : ev X d y pc L (.int b :: .int a :: st) h = ev X d y (pc + 1) L (.int (a * b) :: st) h := g_s (c := (pc + 1, L, .int (a * b) :: st, h)) hd rfl rfl rfl rfl
theorem g_iand (hd : decode (I_code y) pc = .ok (.iand, 1)) : ev X d y pc L (.int b :: .int a :: st) h = ev X d y (pc + 1) L (.int (a &&& b) :: st) h := g_s (c := (pc + 1, L, .int (a &&& b) :: st, h)) hd rfl rfl rfl rfl
theorem g_ior (hd : decode (I_code y) pc = .ok (.ior, 1)) : ev X d y pc L (.int b :: .int a :: st) h = ev X d y (pc + 1) L (.int (a ||| b) :: st) h := g_s (c := (pc + 1, L, .int (a ||| b) :: st, h)) hd rfl rfl rfl rfl
theorem g_ishl (hd : decode (I_code y) pc = .ok (.ishl, 1)) : ev X d y pc L (.int b :: .int a :: st) h = ev X d y (pc + 1) L (.int (a <<< (b &&& 31)) :: st) h := g_s (c := (pc + 1, L, .int (a <<< (b &&& 31)) :: st, h)) hd rfl rfl rfl rfl
theorem g_idiv (hd : decode (I_code y) pc = .ok (.idiv, 1)) (hb : ¬ b = 0) : ev X d y pc L (.int b :: .int a :: st) h = ev X d y (pc + 1) L (.int (a / b) :: st) h := g_s (c := (pc + 1, L, .int (a / b) :: st, h)) hd rfl rfl rfl (by simp only [I_step, if_neg hb])
theorem g_irem (hd : decode (I_code y) pc = .ok (.irem, 1)) (hb : ¬ b = 0) : ev X d y pc L (.int b :: .int a :: st) h = ev X d y (pc + 1) L (.int (a - a / b * b) :: st) h := g_s (c := (pc + 1, L, .int (a - a / b * b) :: st, h)) hd rfl rfl rfl (by simp only [I_step, if_neg hb])
theorem g_i2l (hd : decode (I_code y) pc = .ok (.i2l, 1)) : ev X d y pc L (.int a :: st) h = ev X d y (pc + 1) L (.long a.toInt64 :: st) h := g_s (c := (pc + 1, L, .long a.toInt64 :: st, h)) hd rfl rfl rfl rfl
theorem g_ladd {a b : Int64} (hd : decode (I_code y) pc = .ok (.ladd, 1)) : ev X d y pc L (.long b :: .long a :: st) h = ev X d y (pc + 1) L (.long (a + b) :: st) h := g_s (c := (pc + 1, L, .long (a + b) :: st, h)) hd rfl rfl rfl rfl
theorem g_lcmp {a b : Int64} (hd : decode (I_code y) pc = .ok (.lcmp, 1)) : ev X d y pc L (.long b :: .long a :: st) h = ev X d y (pc + 1) L (.int (lg_cmp a b) :: st) h := g_s (c := (pc + 1, L, .int (lg_cmp a b) :: st, h)) hd rfl rfl rfl rfl
theorem g_i2d (hd : decode (I_code y) pc = .ok (.i2d, 1)) : ev X d y pc L (.int a :: st) h = ev X d y (pc + 1) L (.double (FP.i2d a) :: st) h := g_s (c := (pc + 1, L, .double (FP.i2d a) :: st, h)) hd rfl rfl rfl rfl
theorem g_d2i {a : UInt64} (hd : decode (I_code y) pc = .ok (.d2i, 1)) : ev X d y pc L (.double a :: st) h = ev X d y (pc + 1) L (.int (FP.d2i a) :: st) h := g_s (c := (pc + 1, L, .int (FP.d2i a) :: st, h)) hd rfl rfl rfl rfl
theorem g_dadd {a b : UInt64} (hd : decode (I_code y) pc = .ok (.dadd, 1)) (hn : I_nan (FP.dadd a b) = true) : ev X d y pc L (.double b :: .double a :: st) h = ev X d y (pc + 1) L (.double (FP.dadd a b) :: st) h := g_s (c := (pc + 1, L, .double (FP.dadd a b) :: st, h)) hd rfl rfl rfl (by simp only [I_step, I_d2, if_pos hn])
theorem g_dmul {a b : UInt64} (hd : decode (I_code y) pc = .ok (.dmul, 1)) (hn : I_nan (FP.dmul a b) = true) : ev X d y pc L (.double b :: .double a :: st) h = ev X d y (pc + 1) L (.double (FP.dmul a b) :: st) h := g_s (c := (pc + 1, L, .double (FP.dmul a b) :: st, h)) hd rfl rfl rfl (by simp only [I_step, I_d2, if_pos hn])
theorem g_ddiv {a b : UInt64} (hd : decode (I_code y) pc = .ok (.ddiv, 1)) (hn : I_nan (FP.ddiv a b) = true) : ev X d y pc L (.double b :: .double a :: st) h = ev X d y (pc + 1) L (.double (FP.ddiv a b) :: st) h := g_s (c := (pc + 1, L, .double (FP.ddiv a b) :: st, h)) hd rfl rfl rfl (by simp only [I_step, I_d2, if_pos hn])
theorem g_dcmp {a b : UInt64} {op : CmpOp} (hd : decode (I_code y) pc = .ok (.dcmp op, 1)) : ev X d y pc L (.double b :: .double a :: st) h = ev X d y (pc + 1) L (.int (Op.cmpValue (FP.dcmp a b) op) :: st) h := g_s (c := (pc + 1, L, .int (Op.cmpValue (FP.dcmp a b) op) :: st, h)) hd rfl rfl rfl rfl
theorem I_jmp_t (ht : (pc : Int) + off = (t : Int)) : I_jmp pc off L st h = some (t, L, st, h) := by
  simp [I_jmp, ht]
theorem I_br_tt {c : Bool} (ht : (pc : Int) + off = (t : Int)) (f : I_C → Option I_R) : (I_br c pc off L st h).bind f = if c = true then f (t, L, st, h) else f (pc + 3, L, st, h) := by
  unfold I_br
  have e : ((pc : Int) + off).toNat = t := by omega
  rw [if_pos (by omega), e]
  by_cases hc : c = true
  · rw [if_pos hc, if_pos hc]; rfl
  · rw [if_neg hc, if_neg hc]; rfl
theorem I_br_t {c : Prop} [Decidable c] (ht : (pc : Int) + off = (t : Int)) (f : I_C → Option I_R) : (I_br (decide c) pc off L st h).bind f = if c then f (t, L, st, h) else f (pc + 3, L, st, h) := by
  rw [I_br_tt ht]
  by_cases hc : c <;> simp [hc]
theorem g_if_eq (hd : decode (I_code y) pc = .ok (.ifCond .eq off, 3)) (ht : (pc : Int) + off = (t : Int)) : ev X d y pc L (.int a :: st) h = if a = 0 then ev X d y t L st h else ev X d y (pc + 3) L st h := (ev_step hd rfl rfl rfl).trans (I_br_t ht _)
theorem g_if_ne (hd : decode (I_code y) pc = .ok (.ifCond .ne off, 3)) (ht : (pc : Int) + off = (t : Int)) : ev X d y pc L (.int a :: st) h = if a = 0 then ev X d y (pc + 3) L st h else ev X d y t L st h := by
  refine (ev_step hd rfl rfl rfl).trans ((I_br_t ht _).trans ?_)
  by_cases hc : a = 0 <;> simp [hc]
theorem g_if_lt (hd : decode (I_code y) pc = .ok (.ifCond .lt off, 3)) (ht : (pc : Int) + off = (t : Int)) : ev X d y pc L (.int a :: st) h = if a < 0 then ev X d y t L st h else ev X d y (pc + 3) L st h := (ev_step hd rfl rfl rfl).trans (I_br_t ht _)
theorem g_if_ge (hd : decode (I_code y) pc = .ok (.ifCond .ge off, 3)) (ht : (pc : Int) + off = (t : Int)) : ev X d y pc L (.int a :: st) h = if 0 ≤ a then ev X d y t L st h else ev X d y (pc + 3) L st h := (ev_step hd rfl rfl rfl).trans (I_br_t ht _)
theorem g_if_gt (hd : decode (I_code y) pc = .ok (.ifCond .gt off, 3)) (ht : (pc : Int) + off = (t : Int)) : ev X d y pc L (.int a :: st) h = if 0 < a then ev X d y t L st h else ev X d y (pc + 3) L st h := (ev_step hd rfl rfl rfl).trans (I_br_t ht _)
theorem g_if_le (hd : decode (I_code y) pc = .ok (.ifCond .le off, 3)) (ht : (pc : Int) + off = (t : Int)) : ev X d y pc L (.int a :: st) h = if a ≤ 0 then ev X d y t L st h else ev X d y (pc + 3) L st h := (ev_step hd rfl rfl rfl).trans (I_br_t ht _)
theorem g_icmp_eq (hd : decode (I_code y) pc = .ok (.if_icmp .eq off, 3)) (ht : (pc : Int) + off = (t : Int)) : ev X d y pc L (.int b :: .int a :: st) h = if a = b then ev X d y t L st h else ev X d y (pc + 3) L st h := (ev_step hd rfl rfl rfl).trans (I_br_t ht _)
theorem g_icmp_ne (hd : decode (I_code y) pc = .ok (.if_icmp .ne off, 3)) (ht : (pc : Int) + off = (t : Int)) : ev X d y pc L (.int b :: .int a :: st) h = if a = b then ev X d y (pc + 3) L st h else ev X d y t L st h := by
  refine (ev_step hd rfl rfl rfl).trans ((I_br_t ht _).trans ?_)
  by_cases hc : a = b <;> simp [hc]
theorem g_icmp_lt (hd : decode (I_code y) pc = .ok (.if_icmp .lt off, 3)) (ht : (pc : Int) + off = (t : Int)) : ev X d y pc L (.int b :: .int a :: st) h = if a < b then ev X d y t L st h else ev X d y (pc + 3) L st h := (ev_step hd rfl rfl rfl).trans (I_br_t ht _)
theorem g_icmp_ge (hd : decode (I_code y) pc = .ok (.if_icmp .ge off, 3)) (ht : (pc : Int) + off = (t : Int)) : ev X d y pc L (.int b :: .int a :: st) h = if b ≤ a then ev X d y t L st h else ev X d y (pc + 3) L st h := (ev_step hd rfl rfl rfl).trans (I_br_t ht _)
theorem g_icmp_gt (hd : decode (I_code y) pc = .ok (.if_icmp .gt off, 3)) (ht : (pc : Int) + off = (t : Int)) : ev X d y pc L (.int b :: .int a :: st) h = if b < a then ev X d y t L st h else ev X d y (pc + 3) L st h := (ev_step hd rfl rfl rfl).trans (I_br_t ht _)
theorem g_icmp_le (hd : decode (I_code y) pc = .ok (.if_icmp .le off, 3)) (ht : (pc : Int) + off = (t : Int)) : ev X d y pc L (.int b :: .int a :: st) h = if a ≤ b then ev X d y t L st h else ev X d y (pc + 3) L st h := (ev_step hd rfl rfl rfl).trans (I_br_t ht _)
theorem I_rv_rf : I_rv (va_rf r) = some r := by cases r <;> rfl
theorem g_acmp_eq (hd : decode (I_code y) pc = .ok (.if_acmp .eq off, 3)) (ht : (pc : Int) + off = (t : Int)) : ev X d y pc L (va_rf r2 :: va_rf r :: st) h = if r = r2 then ev X d y t L st h else ev X d y (pc + 3) L st h := by
  refine (ev_step hd rfl rfl rfl).trans ?_
  simp only [I_step, I_acmp, I_rv_rf]
  rw [I_br_tt ht]
  by_cases hc : r = r2 <;> simp [hc]
theorem g_acmp_ne (hd : decode (I_code y) pc = .ok (.if_acmp .ne off, 3)) (ht : (pc : Int) + off = (t : Int)) : ev X d y pc L (va_rf r2 :: va_rf r :: st) h = if r = r2 then ev X d y (pc + 3) L st h else ev X d y t L st h := by
  refine (ev_step hd rfl rfl rfl).trans ?_
  simp only [I_step, I_acmp, I_rv_rf]
  rw [I_br_tt ht]
  by_cases hc : r = r2 <;> simp [hc]
theorem g_ifnull (hd : decode (I_code y) pc = .ok (.ifnull off, 3)) (ht : (pc : Int) + off = (t : Int)) : ev X d y pc L (va_rf r :: st) h = if r = none then ev X d y t L st h else ev X d y (pc + 3) L st h := by
  refine (ev_step hd rfl rfl rfl).trans ?_
  cases r <;> simp only [I_step, I_isnull, va_rf] <;> rw [I_br_tt ht] <;> simp
theorem g_ifnonnull (hd : decode (I_code y) pc = .ok (.ifnonnull off, 3)) (ht : (pc : Int) + off = (t : Int)) : ev X d y pc L (va_rf r :: st) h = if r = none then ev X d y (pc + 3) L st h else ev X d y t L st h := by
  refine (ev_step hd rfl rfl rfl).trans ?_
  cases r <;> simp only [I_step, I_isnull, va_rf] <;> rw [I_br_tt ht] <;> simp
theorem g_goto (hd : decode (I_code y) pc = .ok (.goto off, 3)) (ht : (pc : Int) + off = (t : Int)) : ev X d y pc L st h = ev X d y t L st h := g_s (c := (t, L, st, h)) hd rfl rfl rfl (I_jmp_t ht)
theorem g_dup (hd : decode (I_code y) pc = .ok (.dup, 1)) : ev X d y pc L (va_rf r :: st) h = ev X d y (pc + 1) L (va_rf r :: va_rf r :: st) h := g_s (c := (pc + 1, L, va_rf r :: va_rf r :: st, h)) hd rfl (by cases r <;> rfl) (by cases r <;> rfl) (by cases r <;> rfl)
theorem g_dupi (hd : decode (I_code y) pc = .ok (.dup, 1)) : ev X d y pc L (.int a :: st) h = ev X d y (pc + 1) L (.int a :: .int a :: st) h := g_s (c := (pc + 1, L, .int a :: .int a :: st, h)) hd rfl rfl rfl rfl
theorem g_dup2 (hd : decode (I_code y) pc = .ok (.dup2, 1)) : ev X d y pc L (.int a :: va_rf r :: st) h = ev X d y (pc + 1) L (.int a :: va_rf r :: .int a :: va_rf r :: st) h := g_s (c := (pc + 1, L, .int a :: va_rf r :: .int a :: va_rf r :: st, h)) hd rfl (by cases r <;> rfl) (by cases r <;> rfl) (by cases r <;> rfl)
theorem g_get {q : Nat} (hd : decode (I_code y) pc = .ok (.getfield idx, 3)) (hf : I_look I_fl (I_own y) idx = some (ci, k)) : ev X d y pc L (va_rf (some q) :: st) h = (I_getf X h q ci k).bind (fun v => ev X d y (pc + 3) L (v :: st) h) := by
  refine (ev_step hd rfl rfl rfl).trans ?_
  simp only [I_step, va_rf, hf]
  cases I_getf X h q ci k <;> rfl
theorem g_put {q : Nat} {v : Value} (hd : decode (I_code y) pc = .ok (.putfield idx, 3)) (hf : I_look I_fl (I_own y) idx = some (ci, k)) (ht : I_fit (I_own y) ci k (I_init y) v = true) : ev X d y pc L (v :: va_rf (some q) :: st) h = (I_putf X h q ci k v).bind (fun h => ev X d y (pc + 3) L st h) := by
  refine (ev_step hd rfl rfl (by cases v <;> rfl)).trans ?_
  simp only [I_step, va_rf, hf, ht, if_true, I_hp]
  cases I_putf X h q ci k v <;> rfl
theorem g_iald {q : Nat} (hd : decode (I_code y) pc = .ok (.iaload, 1)) (ho : ¬ I_own y = 5) : ev X d y pc L (.int i :: va_rf (some q) :: st) h = (I_aldi X h 0 q i).bind (fun v => ev X d y (pc + 1) L (.int v :: st) h) := by
  refine (ev_step hd rfl rfl rfl).trans ?_
  simp only [I_step, va_rf, if_neg ho]
  cases I_aldi X h 0 q i <;> rfl
theorem g_sld {q : Nat} (hd : decode (I_code y) pc = .ok (.iaload, 1)) (ho : I_own y = 5) : ev X d y pc L (.int i :: va_rf (some q) :: st) h = (I_sld X q i).bind (fun v => ev X d y (pc + 1) L (.int v :: st) h) := by
  refine (ev_step hd rfl rfl rfl).trans ?_
  simp only [I_step, va_rf, if_pos ho]
  cases I_sld X q i <;> rfl
theorem g_bald {q : Nat} (hd : decode (I_code y) pc = .ok (.baload, 1)) : ev X d y pc L (.int i :: va_rf (some q) :: st) h = (I_aldi X h 2 q i).bind (fun v => ev X d y (pc + 1) L (.int v :: st) h) := by
  refine (ev_step hd rfl rfl rfl).trans ?_
  simp only [I_step, va_rf]
  cases I_aldi X h 2 q i <;> rfl
theorem g_dald {q : Nat} (hd : decode (I_code y) pc = .ok (.daload, 1)) : ev X d y pc L (.int i :: va_rf (some q) :: st) h = (I_aldd X h q i).bind (fun v => ev X d y (pc + 1) L (.double v :: st) h) := by
  refine (ev_step hd rfl rfl rfl).trans ?_
  simp only [I_step, va_rf]
  cases I_aldd X h q i <;> rfl
theorem g_aald {q : Nat} (hd : decode (I_code y) pc = .ok (.aaload, 1)) : ev X d y pc L (.int i :: va_rf (some q) :: st) h = (I_aldq X h q i).bind (fun v => ev X d y (pc + 1) L (va_rf v :: st) h) := by
  refine (ev_step hd rfl rfl rfl).trans ?_
  simp only [I_step, va_rf]
  cases I_aldq X h q i <;> rfl
theorem g_iast {q : Nat} (hd : decode (I_code y) pc = .ok (.iastore, 1)) : ev X d y pc L (.int v :: .int i :: va_rf (some q) :: st) h = (I_asti X h 0 q i v).bind (fun h => ev X d y (pc + 1) L st h) := by
  refine (ev_step hd rfl rfl rfl).trans ?_
  simp only [I_step, va_rf, I_hp]
  cases I_asti X h 0 q i v <;> rfl
theorem g_bast {q : Nat} (hd : decode (I_code y) pc = .ok (.bastore, 1)) (hv : v = 0 ∨ v = 1) : ev X d y pc L (.int v :: .int i :: va_rf (some q) :: st) h = (I_asti X h 2 q i v).bind (fun h => ev X d y (pc + 1) L st h) := by
  refine (ev_step hd rfl rfl rfl).trans ?_
  simp only [I_step, va_rf, I_hp, if_pos hv]
  cases I_asti X h 2 q i v <;> rfl
theorem g_dast {q : Nat} {v : UInt64} (hd : decode (I_code y) pc = .ok (.dastore, 1)) : ev X d y pc L (.double v :: .int i :: va_rf (some q) :: st) h = (I_astd X h q i v).bind (fun h => ev X d y (pc + 1) L st h) := by
  refine (ev_step hd rfl rfl rfl).trans ?_
  simp only [I_step, va_rf, I_hp]
  cases I_astd X h q i v <;> rfl
theorem g_aast {q : Nat} (hd : decode (I_code y) pc = .ok (.aastore, 1)) : ev X d y pc L (va_rf r :: .int i :: va_rf (some q) :: st) h = (I_astq X h q i r).bind (fun h => ev X d y (pc + 1) L st h) := by
  refine (ev_step hd rfl (by cases r <;> rfl) (by cases r <;> rfl)).trans ?_
  have e : va_rf (some q) = .ref q := rfl
  simp only [I_step, e, I_rv_rf, I_hp]
  cases I_astq X h q i r <;> rfl
theorem g_alen {q : Nat} (hd : decode (I_code y) pc = .ok (.arraylength, 1)) (ho : ¬ I_own y = 5) : ev X d y pc L (va_rf (some q) :: st) h = (I_alen X h q).bind (fun v => ev X d y (pc + 1) L (.int v :: st) h) := by
  refine (ev_step hd rfl rfl rfl).trans ?_
  simp only [I_step, va_rf, if_neg ho]
  cases I_alen X h q <;> rfl
theorem g_slen {q : Nat} (hd : decode (I_code y) pc = .ok (.arraylength, 1)) (ho : I_own y = 5) : ev X d y pc L (va_rf (some q) :: st) h = (I_slen X q).bind (fun v => ev X d y (pc + 1) L (.int v :: st) h) := by
  refine (ev_step hd rfl rfl rfl).trans ?_
  simp only [I_step, va_rf, if_pos ho]
  cases I_slen X q <;> rfl
theorem g_newa {tt : ArrayType} {e : Nat → I_Ce} (hd : decode (I_code y) pc = .ok (.newarray tt, 2)) (he : ∀ n, I_newa tt n = some (e n)) (hm : I_mk a = true) : ev X d y pc L (.int a :: st) h = ev X d y (pc + 2) L (va_rf (some h.1) :: st) (I_new h a.toNatClampNeg (e a.toNatClampNeg)) := by
  refine (ev_step hd rfl rfl rfl).trans ?_
  simp only [I_step, hm, if_true, he, Option.map_some, Option.bind_some]
theorem g_newq0 (hd : decode (I_code y) pc = .ok (.anewarray idx, 3)) (hk : I_look I_ck (I_own y) idx = some 0) (hm : I_mk a = true) : ev X d y pc L (.int a :: st) h = ev X d y (pc + 3) L (va_rf (some h.1) :: st) (I_new h a.toNatClampNeg (.inl (4, a.toNatClampNeg, .inr (.inr (.inr (.inr (fun _ => none))))))) := by
  refine (ev_step hd rfl rfl rfl).trans ?_
  simp only [I_step, hm, if_true, hk, Option.bind_some]
theorem g_newq1 (hd : decode (I_code y) pc = .ok (.anewarray idx, 3)) (hk : I_look I_ck (I_own y) idx = some 1) (hm : I_mk a = true) : ev X d y pc L (.int a :: st) h = ev X d y (pc + 3) L (va_rf (some h.1) :: st) (I_new h a.toNatClampNeg (.inl (3, a.toNatClampNeg, .inr (.inr (.inr (.inr (fun _ => none))))))) := by
  refine (ev_step hd rfl rfl rfl).trans ?_
  simp only [I_step, hm, if_true, hk, Option.bind_some]
theorem g_new (hd : decode (I_code y) pc = .ok (.new idx, 3)) (hk : I_look I_ck (I_own y) idx = some ci) (hc : ci < 4) : ev X d y pc L st h = ev X d y (pc + 3) L (va_rf (some h.1) :: st) (I_new h (I_N ci) (.inr (ci, I_def ci))) := by
  refine (ev_step hd rfl rfl rfl).trans ?_
  simp only [I_step, hk, if_pos hc, Option.bind_some]
theorem I_call_sp (hk : I_look I_ml (I_own y) idx = some t) (ht : ¬ t < 1000) : I_call X y (.invokespecial idx) st h = none := by simp only [I_call, hk, if_neg ht]
theorem I_call_sc (hk : I_look I_ml (I_own y) idx = some t) (ht : ¬ t < 1000) : I_call X y (.invokestatic idx) st h = none := by simp only [I_call, hk, if_neg ht]
theorem g_obj {q : Nat} (hd : decode (I_code y) pc = .ok (.invokespecial idx, 3)) (hk : I_look I_ml (I_own y) idx = some 1001) (hs : I_cat st ≤ 8) : ev X d y pc L (va_rf (some q) :: st) h = ev X d y (pc + 3) L st h := by
  refine (ev_step hd rfl (I_call_sp hk (by decide)) rfl).trans ?_
  have e : I_cat (Value.ref q :: st) ≤ 9 := by simp only [I_cat, Value.category]; omega
  simp only [I_step, va_rf, hk, true_and, if_pos e, Option.bind_some]
theorem g_copy {q q0 : Nat} {sp dp n : Int32} (hd : decode (I_code y) pc = .ok (.invokestatic idx, 3)) (hk : I_look I_ml (I_own y) idx = some 1002) (hs : I_cat st ≤ 8) : ev X d y pc L (.int n :: .int dp :: va_rf (some q) :: .int sp :: va_rf (some q0) :: st) h = (I_copy X h q0 sp q dp n).bind (fun h => ev X d y (pc + 3) L st h) := by
  refine (ev_step hd rfl (I_call_sc hk (by decide)) rfl).trans ?_
  have e : I_cat (.int n :: .int dp :: .ref q :: .int sp :: .ref q0 :: st) ≤ 13 := by simp only [I_cat, Value.category]; omega
  simp only [I_step, va_rf, hk, if_pos e, I_hp]
  cases I_copy X h q0 sp q dp n <;> rfl
theorem g_l2d {w : Int64} (hd : decode (I_code y) pc = .ok (.invokestatic idx, 3)) (hk : I_look I_ml (I_own y) idx = some 1003) (hs : I_cat st ≤ 8) (hv : vn_snl2d w = false) : ev X d y pc L (.long w :: st) h = ev X d y (pc + 3) L (.double w.toUInt64 :: st) h := by
  refine (ev_step hd rfl (I_call_sc hk (by decide)) rfl).trans ?_
  have e : I_cat (.long w :: st) ≤ 13 := by simp only [I_cat, Value.category]; omega
  simp only [I_step, hk, if_pos e, hv, if_true, Option.bind_some]
theorem g_max (hd : decode (I_code y) pc = .ok (.invokestatic idx, 3)) (hk : I_look I_ml (I_own y) idx = some 1004) (hs : I_cat st ≤ 8) : ev X d y pc L (.int b :: .int a :: st) h = ev X d y (pc + 3) L (.int (if a < b then b else a) :: st) h := by
  refine (ev_step hd rfl (I_call_sc hk (by decide)) rfl).trans ?_
  have e : I_cat (.int b :: .int a :: st) ≤ 13 := by simp only [I_cat, Value.category]; omega
  simp only [I_step, hk, if_pos e, Option.bind_some]
theorem g_iret (hd : decode (I_code y) pc = .ok (.ireturn, 1)) (hr : I_ret y = some .int) : ev X d y pc L [.int a] h = some (some (.int a), h) := ev_ret hd rfl rfl (by simp only [I_back, hr, true_or, if_true])
theorem g_zret (hd : decode (I_code y) pc = .ok (.ireturn, 1)) (hr : I_ret y = some .boolean) (ha : a = 0 ∨ a = 1) : ev X d y pc L [.int a] h = some (some (.int a), h) := ev_ret hd rfl rfl (by simp only [I_back]; rw [if_pos (Or.inr ⟨hr, ha⟩)])
theorem g_dret {a : UInt64} (hd : decode (I_code y) pc = .ok (.dreturn, 1)) (hr : I_ret y = some .double) : ev X d y pc L [.double a] h = some (some (.double a), h) := ev_ret hd rfl rfl (by simp only [I_back, hr, if_true])
theorem g_vret (hd : decode (I_code y) pc = .ok (.return_, 1)) (hr : I_ret y = none) : ev X d y pc L [] h = some (none, h) := ev_ret hd rfl rfl (by simp only [I_back, hr, if_true])
theorem g_callV {as rest : List Value} {q np : Nat} {L0 : I_L} (hd : decode (I_code y) pc = .ok (.invokevirtual idx, 3)) (hk : I_look I_ml (I_own y) idx = some t) (ht : t < 1000) (hn : I_np t = np) (ha : as.length = np) (hl : (I_slots (va_rf (some q) :: as.reverse)).length ≤ I_maxL t) (he : I_ent (va_rf (some q) :: as.reverse) (I_maxL t) = L0) (hkd : I_kd t = 0) (hc : I_isC X h q (I_own t) = true) (hs : I_cat rest ≤ 8) : ev X (d + 1) y pc L (as ++ va_rf (some q) :: rest) h = (ev X d t 0 L0 [] h).bind (fun r => ev X (d + 1) y (pc + 3) L (r.1.toList ++ rest) r.2) := by
  subst he
  refine ev_call hd rfl ?_ hl
  simp only [I_call, hk, if_pos ht, hn]
  have e1 : (as ++ va_rf (some q) :: rest).drop np = .ref q :: rest := by rw [← ha, List.drop_left]; rfl
  have e2 : (as ++ va_rf (some q) :: rest).take np = as := by rw [← ha, List.take_left]
  have e3 : np ≤ (as ++ va_rf (some q) :: rest).length := by rw [List.length_append, ha]; omega
  simp only [e1, e2, e3, hkd, hc, hs, and_self, if_true]
  rfl
theorem g_callI {as rest : List Value} {q np : Nat} {L0 : I_L} (hd : decode (I_code y) pc = .ok (.invokespecial idx, 3)) (hk : I_look I_ml (I_own y) idx = some t) (ht : t < 1000) (hn : I_np t = np) (ha : as.length = np) (hl : (I_slots (va_rf (some q) :: as.reverse)).length ≤ I_maxL t) (he : I_ent (va_rf (some q) :: as.reverse) (I_maxL t) = L0) (hc : I_kd t = 2) (hs : I_cat rest ≤ 8) : ev X (d + 1) y pc L (as ++ va_rf (some q) :: rest) h = (ev X d t 0 L0 [] h).bind (fun r => ev X (d + 1) y (pc + 3) L (r.1.toList ++ rest) r.2) := by
  subst he
  refine ev_call hd rfl ?_ hl
  simp only [I_call, hk, if_pos ht, hn]
  have e1 : (as ++ va_rf (some q) :: rest).drop np = .ref q :: rest := by rw [← ha, List.drop_left]; rfl
  have e2 : (as ++ va_rf (some q) :: rest).take np = as := by rw [← ha, List.take_left]
  have e3 : np ≤ (as ++ va_rf (some q) :: rest).length := by rw [List.length_append, ha]; omega
  simp only [e1, e2, e3, hc, hs, and_self, if_true]
  rfl
theorem g_callS {as rest : List Value} {np : Nat} {L0 : I_L} (hd : decode (I_code y) pc = .ok (.invokestatic idx, 3)) (hk : I_look I_ml (I_own y) idx = some t) (ht : t < 1000) (hn : I_np t = np) (ha : as.length = np) (hl : (I_slots as.reverse).length ≤ I_maxL t) (he : I_ent as.reverse (I_maxL t) = L0) (hkd : I_kd t = 1) (hs : I_cat rest ≤ 8) : ev X (d + 1) y pc L (as ++ rest) h = (ev X d t 0 L0 [] h).bind (fun r => ev X (d + 1) y (pc + 3) L (r.1.toList ++ rest) r.2) := by
  subst he
  refine ev_call hd rfl ?_ hl
  simp only [I_call, hk, if_pos ht, hn]
  have e1 : (as ++ rest).drop np = rest := by rw [← ha, List.drop_left]
  have e2 : (as ++ rest).take np = as := by rw [← ha, List.take_left]
  have e3 : np ≤ (as ++ rest).length := by rw [List.length_append, ha]; omega
  simp only [e1, e2, e3, hkd, hs, and_self, if_true]
theorem I_cat_n : I_cat [] = 0 := rfl
theorem I_cat_i : I_cat (.int a :: st) = I_cat st + 1 := by simp only [I_cat, Value.category]; omega
theorem I_cat_d {w : UInt64} : I_cat (.double w :: st) = I_cat st + 2 := by simp only [I_cat, Value.category]; omega
theorem I_cat_q : I_cat (va_rf r :: st) = I_cat st + 1 := by cases r <;> (simp only [I_cat, va_rf, Value.category]; omega)
theorem I_c2_n : I_c2 none = false := rfl
theorem I_c2_i : I_c2 (some (.int a)) = false := rfl
theorem I_c2_q : I_c2 (some (va_rf r)) = false := by cases r <;> rfl
theorem g_tabO {dflt lo hi : Int} {offs : Array Int} {len : Nat} (hd : decode (I_code y) pc = .ok (.tableswitch dflt lo hi offs, len)) (hx : a.toInt < lo ∨ hi < a.toInt) (ht : (pc : Int) + dflt = (t : Int)) : ev X d y pc L (.int a :: st) h = ev X d y t L st h := by
  refine (ev_step hd rfl rfl rfl).trans ?_
  simp only [I_step, if_pos hx, I_jmp_t ht, Option.bind_some]
theorem g_tabI {dflt lo hi : Int} {offs : Array Int} {len : Nat} (hd : decode (I_code y) pc = .ok (.tableswitch dflt lo hi offs, len)) (hx : ¬ (a.toInt < lo ∨ hi < a.toInt)) (ho : offs[(a.toInt - lo).toNat]? = some off) (ht : (pc : Int) + off = (t : Int)) : ev X d y pc L (.int a :: st) h = ev X d y t L st h := by
  refine (ev_step hd rfl rfl rfl).trans ?_
  simp only [I_step, if_neg hx, ho, I_jmp_t ht, Option.bind_some]
theorem g_look {dflt : Int} {ps : Array (Int × Int)} {len : Nat} (hd : decode (I_code y) pc = .ok (.lookupswitch dflt ps, len)) (hs : I_sorted ps.toList = true) (ho : Op.lookupswitch.offset ps.toList dflt a.toInt = off) (ht : (pc : Int) + off = (t : Int)) : ev X d y pc L (.int a :: st) h = ev X d y t L st h := by
  refine (ev_step hd rfl rfl rfl).trans ?_
  simp only [I_step, hs, if_true, ho, I_jmp_t ht, Option.bind_some]
end GEN
