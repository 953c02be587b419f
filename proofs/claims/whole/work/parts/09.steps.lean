section STQ
variable {p : Program} {l : Launch} {e : Env} {R : Room} {s : State} {m : MethodId} {args : Array Value} {below : List Frame} {meth : Method} {c : Code} {H : Heap} {locs : List Loc} {cells slots : Nat} {Q : State → Prop}
variable {D : va_G} {T : Nat → ClassId} {X : I_X} {y pc len : Nat} {L : I_L} {st : List Value} {h : I_H} {ls : Array Slot} {sl0 : Nat}
theorem I_mk_spec {n : Int32} (h : I_mk n = true) : ¬ n < 0 ∧ n.toNatClampNeg ≤ 20000 := by
  unfold I_mk at h
  simp only [Bool.and_eq_true, Bool.not_eq_true', decide_eq_false_iff_not, decide_eq_true_eq] at h
  exact h
theorem I_ent_push {q N : Nat} {H1 : Heap} {e1 : I_Ce} {g : JFrame → JFrame} {pc' : Nat} (hok : I_ok D T X s h H locs) (hsz : s.heap.size + cells = h.1) (hsl : sl0 + slots = h.2.1) (hL : I_lok ls (I_maxL y) L) (hP : va_P D vwCl (I_ws T X.1 h ++ [(q, I_va T e1)]) H1) (hD : va_D (fun z => X.1 ≤ z) (I_ws T X.1 h ++ [(q, I_va T e1)])) (hS : va_S (fun z => X.1 ≤ z) s.heap H1 locs)
    (kk : I_kk p l e R s m args below meth c Q D T X y sl0 (pc', L, va_rf (some h.1) :: st, I_new h N e1)) : W p l e R s m args below meth c H1 locs (cells + 1) (slots + N) Q (F0 m pc' ls (.ref q :: st)) := by
  refine I_Wsize fun hz => ?_
  obtain ⟨rfl, hP1⟩ := I_ws_app (n := N) hok.2.2 hP hD (by omega)
  refine kk ls H1 locs (cells + 1) (slots + N) hL ⟨hP1, hS, ?_⟩ ?_ ?_
  · show X.1 ≤ h.1 + 1
    exact Nat.le_succ_of_le hok.2.2
  · show s.heap.size + (cells + 1) = h.1 + 1
    omega
  · show sl0 + (slots + N) = h.2.1 + N
    omega
theorem I_newa_sound {tt : ArrayType} {n : Int32} {e1 : I_Ce} (C : I_cx D T X y p s m args meth c) (hlo : X.1 ≤ s.heap.size) (hdec : decode (I_code y) pc = .ok (.newarray tt, 2)) (hm : I_mk n = true) (he : I_newa tt n.toNatClampNeg = some e1) (hL : I_lok ls (I_maxL y) L) (hok : I_ok D T X s h H locs) (hsz : s.heap.size + cells = h.1) (hsl : sl0 + slots = h.2.1) (hr : h.1 + 1 ≤ s.heap.size + R.cells ∧ h.2.1 + n.toNatClampNeg ≤ sl0 + R.slots)
    (kk : I_kk p l e R s m args below meth c Q D T X y sl0 (pc + 2, L, va_rf (some h.1) :: st, I_new h n.toNatClampNeg e1)) : W p l e R s m args below meth c H locs cells slots Q (F0 m pc ls (.int n :: st)) := by
  obtain ⟨hx, hb, hml, hown, hts, hK, hAO, hin, hscr⟩ := C
  obtain ⟨hn, hN⟩ := I_mk_spec hm
  have hA : ∀ q : Nat, s.heap.size ≤ q → X.1 ≤ q := fun q hq => Nat.le_trans hlo hq
  unfold I_newa at he
  split at he
  · cases he
    refine va_newa (atype := .int) (ty := .int) (a0 := (n.toNatClampNeg, .inl (fun _ => 0))) hx hb (hts _ (f_in f_a.1 rfl)) rfl hK hok.1 I_ws_D hok.2.1 hA (fun _ => rfl) hn rfl ?_ (by omega) (by omega) hdec (fun q cA H1 hK1 hP hD hS => ?_)
    · have e2 : componentBytes .int ≤ 16 := by decide
      exact Nat.le_trans (Nat.mul_le_mul hN e2) (by decide)
    · have h1 := (hK1.2 5 (cA, .int) rfl).2
      have h2 := (hK.2 0 (T 0, .int) rfl).2
      have e3 : cA = T 0 := Option.some.inj (Eq.trans (Eq.symm (show s.vm.findClass ("[" ++ (FieldType.int).toString) = some cA from h1)) (show s.vm.findClass ("[" ++ (FieldType.int).toString) = some (T 0) from h2))
      subst e3
      exact I_ent_push (g := id) (e1 := .inl (0, n.toNatClampNeg, .inl (fun _ => 0))) hok hsz hsl hL hP hD hS kk
  · cases he
    refine va_newa (atype := .double) (ty := .double) (a0 := (n.toNatClampNeg, .inr (.inr (.inr (.inl (fun _ => 0)))))) hx hb (hts _ (f_in f_a.2.1 rfl)) rfl hK hok.1 I_ws_D hok.2.1 hA (fun _ => rfl) hn rfl ?_ (by omega) (by omega) hdec (fun q cA H1 hK1 hP hD hS => ?_)
    · have e2 : componentBytes .double ≤ 16 := by decide
      exact Nat.le_trans (Nat.mul_le_mul hN e2) (by decide)
    · have h1 := (hK1.2 5 (cA, .double) rfl).2
      have h2 := (hK.2 1 (T 1, .double) rfl).2
      have e3 : cA = T 1 := Option.some.inj (Eq.trans (Eq.symm (show s.vm.findClass ("[" ++ (FieldType.double).toString) = some cA from h1)) (show s.vm.findClass ("[" ++ (FieldType.double).toString) = some (T 1) from h2))
      subst e3
      exact I_ent_push (g := id) (e1 := .inl (1, n.toNatClampNeg, .inr (.inr (.inr (.inl (fun _ => 0)))))) hok hsz hsl hL hP hD hS kk
  · cases he
    refine va_newa (atype := .boolean) (ty := .boolean) (a0 := (n.toNatClampNeg, .inl (fun _ => 0))) hx hb (hts _ (f_in f_a.2.2.1 rfl)) rfl hK hok.1 I_ws_D hok.2.1 hA (fun _ => rfl) hn rfl ?_ (by omega) (by omega) hdec (fun q cA H1 hK1 hP hD hS => ?_)
    · have e2 : componentBytes .boolean ≤ 16 := by decide
      exact Nat.le_trans (Nat.mul_le_mul hN e2) (by decide)
    · have h1 := (hK1.2 5 (cA, .boolean) rfl).2
      have h2 := (hK.2 2 (T 2, .boolean) rfl).2
      have e3 : cA = T 2 := Option.some.inj (Eq.trans (Eq.symm (show s.vm.findClass ("[" ++ (FieldType.boolean).toString) = some cA from h1)) (show s.vm.findClass ("[" ++ (FieldType.boolean).toString) = some (T 2) from h2))
      subst e3
      exact I_ent_push (g := id) (e1 := .inl (2, n.toNatClampNeg, .inl (fun _ => 0))) hok hsz hsl hL hP hD hS kk
  · cases he
theorem I_newq_sound {idx t ci : Nat} {n : Int32} (C : I_cx D T X y p s m args meth c) (hlo : X.1 ≤ s.heap.size) (hdec : decode (I_code y) pc = .ok (.anewarray idx, 3)) (hm : I_mk n = true) (hk : I_look I_ck (I_own y) idx = some ci) (hti : (t = 3 ∧ ci = 1) ∨ (t = 4 ∧ ci = 0)) (hL : I_lok ls (I_maxL y) L) (hok : I_ok D T X s h H locs) (hsz : s.heap.size + cells = h.1) (hsl : sl0 + slots = h.2.1) (hr : h.1 + 1 ≤ s.heap.size + R.cells ∧ h.2.1 + n.toNatClampNeg ≤ sl0 + R.slots)
    (kk : I_kk p l e R s m args below meth c Q D T X y sl0 (pc + 3, L, va_rf (some h.1) :: st, I_new h n.toNatClampNeg (.inl (t, n.toNatClampNeg, .inr (.inr (.inr (.inr (fun _ => none)))))))) : W p l e R s m args below meth c H locs cells slots Q (F0 m pc ls (.int n :: st)) := by
  obtain ⟨hx, hb, hml, hown, hts, hK, hAO, hin, hscr⟩ := C
  obtain ⟨hn, hN⟩ := I_mk_spec hm
  have hA : ∀ q : Nat, s.heap.size ≤ q → X.1 ≤ q := fun q hq => Nat.le_trans hlo hq
  have hcl := hts _ (f_in (f_ck _ (I_look_mem hk)) rfl)
  rcases hti with ⟨rfl, rfl⟩ | ⟨rfl, rfl⟩
  · refine va_newq (C := RX1) hx hb hown hcl hAO.1 hK hok.1 I_ws_D hok.2.1 hA hn rfl (by omega) (by omega) (by omega) hdec (fun q cA H1 hK1 hP hD hS => ?_)
    obtain ⟨-, -, -, -, -, h1⟩ := (hK1.2 5 (cA, .object RX1) rfl).2
    obtain ⟨-, -, -, -, -, h2⟩ := (hK.2 3 (T 3, .object RX1) rfl).2
    have e3 : cA = T 3 := Option.some.inj (h1.symm.trans h2)
    subst e3
    exact I_ent_push (g := id) (e1 := .inl (3, n.toNatClampNeg, .inr (.inr (.inr (.inr (fun _ => none)))))) hok hsz hsl hL hP hD hS kk
  · refine va_newq (C := RX0) hx hb hown hcl hAO.2 hK hok.1 I_ws_D hok.2.1 hA hn rfl (by omega) (by omega) (by omega) hdec (fun q cA H1 hK1 hP hD hS => ?_)
    obtain ⟨-, -, -, -, -, h1⟩ := (hK1.2 5 (cA, .object RX0) rfl).2
    obtain ⟨-, -, -, -, -, h2⟩ := (hK.2 4 (T 4, .object RX0) rfl).2
    have e3 : cA = T 4 := Option.some.inj (h1.symm.trans h2)
    subst e3
    exact I_ent_push (g := id) (e1 := .inl (4, n.toNatClampNeg, .inr (.inr (.inr (.inr (fun _ => none)))))) hok hsz hsl hL hP hD hS kk
theorem I_new_sound {idx ci : Nat} (C : I_cx D T X y p s m args meth c) (hlo : X.1 ≤ s.heap.size) (hdec : decode (I_code y) pc = .ok (.new idx, 3)) (hk : I_look I_ck (I_own y) idx = some ci) (hci : ci < 4) (hL : I_lok ls (I_maxL y) L) (hok : I_ok D T X s h H locs) (hsz : s.heap.size + cells = h.1) (hsl : sl0 + slots = h.2.1) (hr : h.1 + 1 ≤ s.heap.size + R.cells ∧ h.2.1 + I_N ci ≤ sl0 + R.slots)
    (kk : I_kk p l e R s m args below meth c Q D T X y sl0 (pc + 3, L, va_rf (some h.1) :: st, I_new h (I_N ci) (.inr (ci, I_def ci)))) : W p l e R s m args below meth c H locs cells slots Q (F0 m pc ls st) := by
  obtain ⟨hx, hb, hml, hown, hts, hK, hAO, hin, hscr⟩ := C
  have hA : ∀ q : Nat, s.heap.size ≤ q → X.1 ≤ q := fun q hq => Nat.le_trans hlo hq
  refine va_new (C := I_cn ci) (T := I_T ci) (N := I_N ci) (fs := I_def ci) hx hb hts (f_ws ci hci) (I_ty ci) (f_ty ci hci) hown (hts _ (f_in (f_ck _ (I_look_mem hk)) rfl)) (hts _ (f_in (f_inst ci hci).1 rfl)) (hts _ (f_in (f_inst ci hci).2 rfl)) hK hok.1 I_ws_D hok.2.1 hA (f_cl4 ci hci) (f_def ci hci) (by omega) (by omega) hdec (fun q H1 hP hD hS => ?_)
  exact I_ent_push (g := id) (e1 := .inr (ci, I_def ci)) hok hsz hsl hL hP hD hS kk
theorem I_cat_sum : ∀ l : List Value, (l.map fun v => v.category).sum = I_cat l := by
  intro l
  induction l with
  | nil => rfl
  | cons v l ih => simp only [List.map_cons, List.sum_cons, I_cat, ih]
theorem I_cat1_cat {v : Value} (h : I_cat1 v = true) : v.category = 1 := by
  cases v <;> simp [I_cat1] at h <;> rfl
theorem I_rv_some {v : Value} {r : Option Nat} (h : I_rv v = some r) : v = va_rf r := by
  cases v <;> simp [I_rv] at h <;> subst h <;> rfl
theorem I_nan_n64 {r : UInt64} (h : I_nan r = true) : vf_n64 r := of_decide_eq_true (p := r &&& 0x7fffffffffffffff ≤ 0x7ff0000000000000) h
set_option maxHeartbeats 4000000 in
theorem I_step_sound {i : Instr} {k : I_C} (C : I_cx D T X y p s m args meth c) (hlo : X.1 ≤ s.heap.size) (hfr : 1 ≤ R.frames ∧ 40 ≤ R.locals) (hdec : decode (I_code y) pc = .ok (i, len)) (hlk : I_lk i len = true) (hs : I_step X y i pc len L st h = some k) (hL : I_lok ls (I_maxL y) L) (hok : I_ok D T X s h H locs) (hsz : s.heap.size + cells = h.1) (hsl : sl0 + slots = h.2.1) (hr : k.2.2.2.1 ≤ s.heap.size + R.cells ∧ k.2.2.2.2.1 ≤ sl0 + R.slots ∧ cells ≤ R.cells ∧ slots ≤ R.slots)
    (kk : I_kk p l e R s m args below meth c Q D T X y sl0 k) : W p l e R s m args below meth c H locs cells slots Q (F0 m pc ls st) := by
  have C1 := C
  obtain ⟨hx, hb, hml, hown, hts, hK, hAO, hin, hscr⟩ := C
  cases i
  all_goals first
    | (simp only [I_step] at hs; done)
    | skip
  all_goals try (simp only [I_lk, beq_iff_eq] at hlk; subst hlk)
  case iconst n => cases hs; exact lv_iconst hx hb hdec rfl (kk ls H locs cells slots hL hok hsz hsl)
  case bipush n => cases hs; exact lv_bipush hx hb hdec rfl (kk ls H locs cells slots hL hok hsz hsl)
  case sipush n => cases hs; exact lv_sipush hx hb hdec rfl (kk ls H locs cells slots hL hok hsz hsl)
  case dconst n =>
    simp only [I_step] at hs
    split at hs
    · rename_i h0
      subst h0
      cases hs
      exact lv_dconst0 hx hb hdec (kk ls H locs cells slots hL hok hsz hsl)
    · cases hs
  case aconst_null => cases hs; exact lv_null hx hb hdec (kk ls H locs cells slots hL hok hsz hsl)
  case ldc idx =>
    simp only [I_step] at hs
    cases hv : I_look I_ci (I_own y) idx with
    | none => rw [hv] at hs; cases hs
    | some v =>
      rw [hv] at hs
      cases hs
      exact lv_ldc hx hb hown (hts _ (f_in (f_ci _ (I_look_mem hv)) rfl)) hdec (kk ls H locs cells slots hL hok hsz hsl)
  case ldc2_w idx =>
    simp only [I_step] at hs
    split at hs
    · rename_i v hv
      cases hs
      exact lv_ldc2d hx hb hown (hts _ (f_in (f_cd _ (I_look_mem hv)) rfl)) hdec (kk ls H locs cells slots hL hok hsz hsl)
    · cases hv : I_look I_cl (I_own y) idx with
      | none => rw [hv] at hs; cases hs
      | some v =>
        rw [hv] at hs
        cases hs
        exact lv_ldc2 hx hb hown (hts _ (f_in (f_cl _ (I_look_mem hv)) rfl)) hdec (kk ls H locs cells slots hL hok hsz hsl)
  case iload k =>
    simp only [I_step, I_ldi] at hs
    split at hs
    · rename_i x hv
      cases hs
      exact lv_iload hx hb hdec (hL.at hv) (kk ls H locs cells slots hL hok hsz hsl)
    · cases hs
  case iload_n k =>
    simp only [I_step, I_ldi] at hs
    split at hs
    · rename_i x hv
      cases hs
      exact lv_iload_n hx hb hdec rfl (hL.at hv) (kk ls H locs cells slots hL hok hsz hsl)
    · cases hs
  case dload k =>
    simp only [I_step, I_ldd] at hs
    split at hs
    · rename_i x hv
      cases hs
      exact lv_dload hx hb hdec (hL.at hv) (kk ls H locs cells slots hL hok hsz hsl)
    · cases hs
  case dload_n k =>
    simp only [I_step, I_ldd] at hs
    split at hs
    · rename_i x hv
      cases hs
      exact lv_dload_n hx hb hdec rfl (hL.at hv) (kk ls H locs cells slots hL hok hsz hsl)
    · cases hs
  case aload k =>
    simp only [I_step, I_lda] at hs
    split at hs
    · rename_i x hv
      cases hs
      exact lv_aload hx hb hdec (hL.at hv) (kk ls H locs cells slots hL hok hsz hsl)
    · rename_i hv
      cases hs
      exact lv_aloadN hx hb hdec (hL.at hv) (kk ls H locs cells slots hL hok hsz hsl)
    · cases hs
  case aload_n k =>
    simp only [I_step, I_lda] at hs
    split at hs
    · rename_i x hv
      cases hs
      exact lv_aload_n hx hb hdec rfl (hL.at hv) (kk ls H locs cells slots hL hok hsz hsl)
    · rename_i hv
      cases hs
      exact lv_aload_nN hx hb hdec rfl (hL.at hv) (kk ls H locs cells slots hL hok hsz hsl)
    · cases hs
  case istore k =>
    simp only [I_step, I_sti] at hs
    split at hs
    · rename_i x st1
      cases hv : I_st1 L k (.int x) with
      | none => rw [hv] at hs; cases hs
      | some L1 =>
        rw [hv] at hs
        cases hs
        exact lv_istore hx hb hdec hL.2 (by rw [← hL.1]; exact I_st1_lt hv) rfl (fun ls1 hl1 => kk ls1 H locs cells slots (I_lok_st1 hL.1 hv hl1) hok hsz hsl)
    · cases hs
  case dstore k =>
    simp only [I_step, I_std] at hs
    split at hs
    · rename_i x st1
      cases hv : I_st2 L k (.double x) with
      | none => rw [hv] at hs; cases hs
      | some L1 =>
        rw [hv] at hs
        cases hs
        exact lv_dstore hx hb hdec hL.2 (by rw [← hL.1]; exact I_st2_lt hv) rfl (fun ls1 hl1 => kk ls1 H locs cells slots (I_lok_st2 hL.1 hv hl1) hok hsz hsl)
    · cases hs
  case astore k =>
    simp only [I_step, I_sta] at hs
    split at hs
    · rename_i x st1
      cases hv : I_st1 L k (.ref x) with
      | none => rw [hv] at hs; cases hs
      | some L1 =>
        rw [hv] at hs
        cases hs
        exact lv_astore hx hb hdec hL.2 (by rw [← hL.1]; exact I_st1_lt hv) rfl (fun ls1 hl1 => kk ls1 H locs cells slots (I_lok_st1 hL.1 hv hl1) hok hsz hsl)
    · rename_i st1
      cases hv : I_st1 L k (.null) with
      | none => rw [hv] at hs; cases hs
      | some L1 =>
        rw [hv] at hs
        cases hs
        exact lv_astoreN hx hb hdec hL.2 (by rw [← hL.1]; exact I_st1_lt hv) rfl (fun ls1 hl1 => kk ls1 H locs cells slots (I_lok_st1 hL.1 hv hl1) hok hsz hsl)
    · cases hs
  case istore_n k =>
    simp only [I_step, I_sti] at hs
    split at hs
    · rename_i x st1
      cases hv : I_st1 L k.val (.int x) with
      | none => rw [hv] at hs; cases hs
      | some L1 =>
        rw [hv] at hs
        cases hs
        exact lv_istore_n hx hb hdec rfl hL.2 (by rw [← hL.1]; exact I_st1_lt hv) rfl (fun ls1 hl1 => kk ls1 H locs cells slots (I_lok_st1 hL.1 hv hl1) hok hsz hsl)
    · cases hs
  case dstore_n k =>
    simp only [I_step, I_std] at hs
    split at hs
    · rename_i x st1
      cases hv : I_st2 L k.val (.double x) with
      | none => rw [hv] at hs; cases hs
      | some L1 =>
        rw [hv] at hs
        cases hs
        exact lv_dstore_n hx hb hdec rfl hL.2 (by rw [← hL.1]; exact I_st2_lt hv) rfl (fun ls1 hl1 => kk ls1 H locs cells slots (I_lok_st2 hL.1 hv hl1) hok hsz hsl)
    · cases hs
  case astore_n k =>
    simp only [I_step, I_sta] at hs
    split at hs
    · rename_i x st1
      cases hv : I_st1 L k.val (.ref x) with
      | none => rw [hv] at hs; cases hs
      | some L1 =>
        rw [hv] at hs
        cases hs
        exact lv_astore_n hx hb hdec rfl hL.2 (by rw [← hL.1]; exact I_st1_lt hv) rfl (fun ls1 hl1 => kk ls1 H locs cells slots (I_lok_st1 hL.1 hv hl1) hok hsz hsl)
    · rename_i st1
      cases hv : I_st1 L k.val (.null) with
      | none => rw [hv] at hs; cases hs
      | some L1 =>
        rw [hv] at hs
        cases hs
        exact lv_astore_nN hx hb hdec rfl hL.2 (by rw [← hL.1]; exact I_st1_lt hv) rfl (fun ls1 hl1 => kk ls1 H locs cells slots (I_lok_st1 hL.1 hv hl1) hok hsz hsl)
    · cases hs
  case iinc k n =>
    simp only [I_step] at hs
    split at hs
    · rename_i x hv
      cases hv1 : I_st1 L k (.int (x + Int32.ofInt n)) with
      | none => rw [hv1] at hs; cases hs
      | some L1 =>
        rw [hv1] at hs
        cases hs
        obtain ⟨j, hj⟩ := List.getElem?_of_mem (I_al_mem.mpr hv)
        exact lv_iinc hx hb hdec hL.2 hj rfl (by rw [← hL.1]; exact I_st1_lt hv1) rfl (fun ls1 hl1 => kk ls1 H locs cells slots (I_lok_st1 hL.1 hv1 hl1) hok hsz hsl)
    · cases hs
  case iadd =>
    simp only [I_step, I_b2] at hs
    split at hs
    · cases hs
      exact lv_iadd hx hb hdec (kk ls H locs cells slots hL hok hsz hsl)
    · cases hs
  case isub =>
    simp only [I_step, I_b2] at hs
    split at hs
    · cases hs
      exact lv_isub hx hb hdec (kk ls H locs cells slots hL hok hsz hsl)
    · cases hs
  case imul =>
    simp only [I_step, I_b2] at hs
    split at hs
    · cases hs
      exact lv_imul hx hb hdec (kk ls H locs cells slots hL hok hsz hsl)
    · cases hs
  case iand =>
    simp only [I_step, I_b2] at hs
    split at hs
    · cases hs
      exact lv_iand hx hb hdec (kk ls H locs cells slots hL hok hsz hsl)
    · cases hs
  case ior =>
    simp only [I_step, I_b2] at hs
    split at hs
    · cases hs
      exact lv_ior hx hb hdec (kk ls H locs cells slots hL hok hsz hsl)
    · cases hs
  case ishl =>
    simp only [I_step, I_b2] at hs
    split at hs
    · cases hs
      exact lv_ishl hx hb hdec (kk ls H locs cells slots hL hok hsz hsl)
    · cases hs
  case idiv =>
    simp only [I_step] at hs
    split at hs
    · split at hs
      · cases hs
      · rename_i hne
        cases hs
        exact lv_idiv hx hb hdec hne (kk ls H locs cells slots hL hok hsz hsl)
    · cases hs
  case irem =>
    simp only [I_step] at hs
    split at hs
    · split at hs
      · cases hs
      · rename_i hne
        cases hs
        exact lv_irem hx hb hdec hne (kk ls H locs cells slots hL hok hsz hsl)
    · cases hs
  case i2l =>
    simp only [I_step] at hs
    split at hs
    · cases hs
      exact lv_i2l hx hb hdec rfl (kk ls H locs cells slots hL hok hsz hsl)
    · cases hs
  case ladd =>
    simp only [I_step] at hs
    split at hs
    · cases hs
      exact lv_ladd hx hb hdec (kk ls H locs cells slots hL hok hsz hsl)
    · cases hs
  case lcmp =>
    simp only [I_step] at hs
    split at hs
    · cases hs
      exact W.lcmp hx hb hdec (kk ls H locs cells slots hL hok hsz hsl)
    · cases hs
  case i2d =>
    simp only [I_step] at hs
    split at hs
    · cases hs
      exact lv_i2d hx hb hdec (kk ls H locs cells slots hL hok hsz hsl)
    · cases hs
  case d2i =>
    simp only [I_step] at hs
    split at hs
    · cases hs
      exact lv_d2i hx hb hdec (kk ls H locs cells slots hL hok hsz hsl)
    · cases hs
  case dcmp op =>
    simp only [I_step] at hs
    split at hs
    · cases hs
      exact lv_dcmp hx hb hdec (kk ls H locs cells slots hL hok hsz hsl)
    · cases hs
  case dadd =>
    simp only [I_step, I_d2] at hs
    split at hs
    · split at hs
      · rename_i hn
        cases hs
        exact lv_dadd hx hb hdec (I_nan_n64 hn) (kk ls H locs cells slots hL hok hsz hsl)
      · cases hs
    · cases hs
  case dmul =>
    simp only [I_step, I_d2] at hs
    split at hs
    · split at hs
      · rename_i hn
        cases hs
        exact lv_dmul hx hb hdec (I_nan_n64 hn) (kk ls H locs cells slots hL hok hsz hsl)
      · cases hs
    · cases hs
  case ddiv =>
    simp only [I_step, I_d2] at hs
    split at hs
    · split at hs
      · rename_i hn
        cases hs
        exact lv_ddiv hx hb hdec (I_nan_n64 hn) (kk ls H locs cells slots hL hok hsz hsl)
      · cases hs
    · cases hs
  case ifCond cc off =>
    cases cc <;> simp only [I_step, I_if] at hs <;> split at hs
    all_goals first
      | (cases hs; done)
      | exact I_br_sound hs hL hok hsz hsl kk (fun t ht => lv_if_eq hx hb hdec ht)
      | exact I_br_sound hs hL hok hsz hsl kk (fun t ht => lv_if_ne hx hb hdec ht)
      | exact I_br_sound hs hL hok hsz hsl kk (fun t ht => lv_if_lt hx hb hdec ht)
      | exact I_br_sound hs hL hok hsz hsl kk (fun t ht => lv_if_ge hx hb hdec ht)
      | exact I_br_sound hs hL hok hsz hsl kk (fun t ht => lv_if_gt hx hb hdec ht)
      | exact I_br_sound hs hL hok hsz hsl kk (fun t ht => lv_if_le hx hb hdec ht)
      | exact I_br_sound hs hL hok hsz hsl kk (fun t ht kt kf => lv_if_ne hx hb hdec ht kt (fun q => kf (fun z => z q)))
  case if_icmp cc off =>
    cases cc <;> simp only [I_step, I_icmp] at hs <;> split at hs
    all_goals first
      | (cases hs; done)
      | exact I_br_sound hs hL hok hsz hsl kk (fun t ht => lv_icmp_eq hx hb hdec ht)
      | exact I_br_sound hs hL hok hsz hsl kk (fun t ht => lv_icmp_lt hx hb hdec ht)
      | exact I_br_sound hs hL hok hsz hsl kk (fun t ht => lv_icmp_ge hx hb hdec ht)
      | exact I_br_sound hs hL hok hsz hsl kk (fun t ht => lv_icmp_gt hx hb hdec ht)
      | exact I_br_sound hs hL hok hsz hsl kk (fun t ht => lv_icmp_le hx hb hdec ht)
      | exact I_br_sound hs hL hok hsz hsl kk (fun t ht kt kf => lv_icmp_ne hx hb hdec ht kt (fun q => kf (fun z => z q)))
  case if_acmp cc off =>
    cases cc <;> simp only [I_step, I_acmp] at hs <;> split at hs
    all_goals first
      | (cases hs; done)
      | skip
    all_goals split at hs
    all_goals first
      | (cases hs; done)
      | skip
    · rename_i v u st1 ry rx hy hu
      obtain rfl := I_rv_some hy
      obtain rfl := I_rv_some hu
      have e1 : (if rx = ry then true else !true) = decide (rx = ry) := by by_cases q : rx = ry <;> simp [q]
      rw [e1] at hs
      exact I_br_sound hs hL hok hsz hsl kk (fun t ht => lv_acmp_eq hx hb hdec ht)
    · rename_i v u st1 ry rx hy hu
      obtain rfl := I_rv_some hy
      obtain rfl := I_rv_some hu
      have e1 : (if rx = ry then false else !false) = decide (¬ rx = ry) := by by_cases q : rx = ry <;> simp [q]
      rw [e1] at hs
      exact I_br_sound hs hL hok hsz hsl kk (fun t ht kt kf => lv_acmp_ne hx hb hdec ht kt (fun q => kf (fun z => z q)))
  case ifnull off =>
    simp only [I_step, I_isnull] at hs
    split at hs
    · have hs2 : I_br (decide False) pc off L _ h = some k := hs
      exact I_br_sound hs2 hL hok hsz hsl kk (fun t ht kt kf => lv_ifnull hx hb hdec (kf (fun z => z)))
    · have hs2 : I_br (decide True) pc off L _ h = some k := hs
      exact I_br_sound hs2 hL hok hsz hsl kk (fun t ht kt kf => lv_ifnullN hx hb hdec ht (kt trivial))
    · cases hs
  case ifnonnull off =>
    simp only [I_step, I_isnull] at hs
    split at hs
    · have hs2 : I_br (decide True) pc off L _ h = some k := hs
      exact I_br_sound hs2 hL hok hsz hsl kk (fun t ht kt kf => lv_ifnonnull hx hb hdec ht (kt trivial))
    · have hs2 : I_br (decide False) pc off L _ h = some k := hs
      exact I_br_sound hs2 hL hok hsz hsl kk (fun t ht kt kf => lv_ifnonnullN hx hb hdec (kf (fun z => z)))
    · cases hs
  case goto off =>
    simp only [I_step] at hs
    obtain ⟨t, ht, rfl⟩ := I_jmp_some hs
    exact lv_goto hx hb hdec ht (kk ls H locs cells slots hL hok hsz hsl)
  case tableswitch dflt lo hi offs =>
    simp only [I_step] at hs
    split at hs
    · split at hs
      · rename_i hc
        obtain ⟨t, ht, rfl⟩ := I_jmp_some hs
        exact lv_tableOut hx hb hdec hc ht (kk ls H locs cells slots hL hok hsz hsl)
      · rename_i hc
        split at hs
        · rename_i off ho
          obtain ⟨t, ht, rfl⟩ := I_jmp_some hs
          exact lv_tableIn hx hb hdec (fun z => hc (Or.inl z)) (fun z => hc (Or.inr z)) ho ht (kk ls H locs cells slots hL hok hsz hsl)
        · cases hs
    · cases hs
  case lookupswitch dflt ps =>
    simp only [I_step] at hs
    split at hs
    · split at hs
      · rename_i hc
        obtain ⟨t, ht, rfl⟩ := I_jmp_some hs
        exact lv_lookup hx hb hdec hc rfl ht (kk ls H locs cells slots hL hok hsz hsl)
      · cases hs
    · cases hs
  case dup =>
    simp only [I_step] at hs
    split at hs
    · split at hs
      · rename_i hc
        cases hs
        exact lv_dup hx hb hdec (I_cat1_cat hc) (kk ls H locs cells slots hL hok hsz hsl)
      · cases hs
    · cases hs
  case dup2 =>
    simp only [I_step] at hs
    split at hs
    · split at hs
      · rename_i hc
        cases hs
        exact lv_dup2_11 hx hb hdec (I_cat1_cat hc.1) (I_cat1_cat hc.2) (kk ls H locs cells slots hL hok hsz hsl)
      · cases hs
    · cases hs
  case getfield idx =>
    have hs0 := hs
    simp only [I_step] at hs
    split at hs
    · exact I_get_sound C1 hdec hs0 hL hok hsz hsl kk
    · cases hs
  case putfield idx =>
    have hs0 := hs
    simp only [I_step] at hs
    split at hs
    · exact I_put_sound C1 hdec hs0 hL hok hsz hsl kk
    · cases hs
  case iaload =>
    simp only [I_step] at hs
    split at hs
    · rename_i i a st1
      split at hs
      · rename_i ho
        cases hv : I_sld X a i with
        | none => rw [hv] at hs; cases hs
        | some v =>
          rw [hv] at hs
          cases hs
          unfold I_sld at hv
          split at hv
          · rename_i hc
            obtain ⟨rfl, h2⟩ := hc
            cases hv
            obtain ⟨q1, q2, q3⟩ := hscr ho
            exact va_sld hx hb q1 q2 q3 hok.2.1 (I_in_vp h2) hdec (kk ls H locs cells slots hL hok hsz hsl)
          · cases hv
      · cases hv : I_aldi X h 0 a i with
        | none => rw [hv] at hs; cases hs
        | some v =>
          rw [hv] at hs
          cases hs
          exact I_aldi_sound0 C1 hdec hv hok (kk ls H locs cells slots hL hok hsz hsl)
    · cases hs
  case baload =>
    simp only [I_step] at hs
    split at hs
    · rename_i i a st1
      cases hv : I_aldi X h 2 a i with
      | none => rw [hv] at hs; cases hs
      | some v =>
        rw [hv] at hs
        cases hs
        exact I_aldi_sound2 C1 hdec hv hok (kk ls H locs cells slots hL hok hsz hsl)
    · cases hs
  case daload =>
    simp only [I_step] at hs
    split at hs
    · rename_i i a st1
      cases hv : I_aldd X h a i with
      | none => rw [hv] at hs; cases hs
      | some v =>
        rw [hv] at hs
        cases hs
        exact I_aldd_sound C1 hdec hv hok (kk ls H locs cells slots hL hok hsz hsl)
    · cases hs
  case aaload =>
    simp only [I_step] at hs
    split at hs
    · rename_i i a st1
      cases hv : I_aldq X h a i with
      | none => rw [hv] at hs; cases hs
      | some v =>
        rw [hv] at hs
        cases hs
        exact I_aldq_sound C1 hdec hv hok (kk ls H locs cells slots hL hok hsz hsl)
    · cases hs
  case iastore =>
    simp only [I_step] at hs
    split at hs
    · obtain ⟨h1, hg, rfl⟩ := I_hp_some hs
      exact I_asti_sound0 C1 hdec hg hok (fun e1 e2 H1 locs1 hok1 => kk ls H1 locs1 cells slots hL hok1 (by rw [hsz]; exact e1.symm) (by rw [hsl]; exact e2.symm))
    · cases hs
  case bastore =>
    simp only [I_step] at hs
    split at hs
    · split at hs
      · rename_i hv
        obtain ⟨h1, hg, rfl⟩ := I_hp_some hs
        exact I_asti_sound2 C1 hdec hv hg hok (fun e1 e2 H1 locs1 hok1 => kk ls H1 locs1 cells slots hL hok1 (by rw [hsz]; exact e1.symm) (by rw [hsl]; exact e2.symm))
      · cases hs
    · cases hs
  case dastore =>
    simp only [I_step] at hs
    split at hs
    · obtain ⟨h1, hg, rfl⟩ := I_hp_some hs
      exact I_astd_sound C1 hdec hg hok (fun e1 e2 H1 locs1 hok1 => kk ls H1 locs1 cells slots hL hok1 (by rw [hsz]; exact e1.symm) (by rw [hsl]; exact e2.symm))
    · cases hs
  case aastore =>
    simp only [I_step] at hs
    split at hs
    · split at hs
      · rename_i r hv
        obtain ⟨h1, hg, rfl⟩ := I_hp_some hs
        obtain rfl := I_rv_some hv
        exact I_astq_sound C1 hdec hg hok (fun e1 e2 H1 locs1 hok1 => kk ls H1 locs1 cells slots hL hok1 (by rw [hsz]; exact e1.symm) (by rw [hsl]; exact e2.symm))
      · cases hs
    · cases hs
  case arraylength =>
    simp only [I_step] at hs
    split at hs
    · rename_i a st1
      split at hs
      · rename_i ho
        cases hv : I_slen X a with
        | none => rw [hv] at hs; cases hs
        | some v =>
          rw [hv] at hs
          cases hs
          unfold I_slen at hv
          split at hv
          · rename_i hc
            subst hc
            cases hv
            obtain ⟨q1, q2, q3⟩ := hscr ho
            exact va_slen hx hb q1 q2 q3 hok.2.1 hdec (kk ls H locs cells slots hL hok hsz hsl)
          · cases hv
      · cases hv : I_alen X h a with
        | none => rw [hv] at hs; cases hs
        | some v =>
          rw [hv] at hs
          cases hs
          exact I_alen_sound C1 hdec hv hok (kk ls H locs cells slots hL hok hsz hsl)
    · cases hs
  case newarray t =>
    simp only [I_step] at hs
    split at hs
    · rename_i n st1
      split at hs
      · rename_i hm
        cases hv : I_newa t n.toNatClampNeg with
        | none => rw [hv] at hs; cases hs
        | some e1 =>
          rw [hv] at hs
          cases hs
          exact I_newa_sound C1 hlo hdec hm hv hL hok hsz hsl ⟨hr.1, hr.2.1⟩ kk
      · cases hs
    · cases hs
  case anewarray idx =>
    simp only [I_step] at hs
    split at hs
    · split at hs
      · rename_i hm
        split at hs
        · rename_i hk
          cases hs
          exact I_newq_sound C1 hlo hdec hm hk (Or.inr ⟨rfl, rfl⟩) hL hok hsz hsl ⟨hr.1, hr.2.1⟩ kk
        · rename_i hk
          cases hs
          exact I_newq_sound C1 hlo hdec hm hk (Or.inl ⟨rfl, rfl⟩) hL hok hsz hsl ⟨hr.1, hr.2.1⟩ kk
        · cases hs
      · cases hs
    · cases hs
  case new idx =>
    simp only [I_step] at hs
    split at hs
    · rename_i ci hk
      split at hs
      · rename_i hci
        cases hs
        exact I_new_sound C1 hlo hdec hk hci hL hok hsz hsl ⟨hr.1, hr.2.1⟩ kk
      · cases hs
    · cases hs
  case invokespecial idx =>
    simp only [I_step] at hs
    split at hs
    · rename_i hc
      split at hs
      · rename_i a st1
        cases hs
        have hcat := hc.2
        simp only [I_cat, Value.category] at hcat
        refine W.objInit hx hb hown (hts _ (f_in (f_ml _ (I_look_mem hc.1)).2 rfl)) (hts _ (f_in f_o.1 rfl)) (hts _ (f_in f_o.2.1 rfl)) rfl (by rw [hml]; exact hL.2.1) rfl hdec hfr.1 ?_ (kk ls H locs cells slots hL hok hsz hsl)
        rw [I_cat_sum]
        show 2 * 0 + I_cat st1 + 12 ≤ R.locals
        omega
      · cases hs
    · cases hs
  case invokestatic idx =>
    simp only [I_step] at hs
    split at hs
    · rename_i hcat
      split at hs
      · rename_i n dp a sp a0 st1 hk
        obtain ⟨h1, hg, rfl⟩ := I_hp_some hs
        simp only [I_cat, Value.category] at hcat
        exact I_copy_sound C1 hL.2.1 hdec hk (by omega) hfr hg hok (fun e1 e2 H1 locs1 hok1 => kk ls H1 locs1 cells slots hL hok1 (by rw [hsz]; exact e1.symm) (by rw [hsl]; exact e2.symm))
      · rename_i b st1 hk
        split at hs
        · rename_i hv
          cases hs
          simp only [I_cat, Value.category] at hcat
          exact vn_l2d hx hb (hml.trans hL.2.1.symm) hown (hts _ (f_in (f_ml _ (I_look_mem hk)).2 rfl)) (hts _ (f_in f_o.2.2.2.2.2.1 rfl)) (hts _ (f_in f_o.2.2.2.2.2.2.1 rfl)) (hts _ (f_in f_o.2.2.2.2.2.2.2.1 rfl)) hv hfr.1 (by rw [I_cat_sum]; omega) hdec (kk ls H locs cells slots hL hok hsz hsl)
        · cases hs
      · rename_i yy xx st1 hk
        cases hs
        simp only [I_cat, Value.category] at hcat
        exact va_mmax hx hb (hml.trans hL.2.1.symm) hown (hts _ (f_in (f_ml _ (I_look_mem hk)).2 rfl)) (hts _ (f_in f_o.2.2.2.2.2.2.2.2.1 rfl)) (hts _ (f_in f_o.2.2.2.2.2.2.2.2.2.1 rfl)) (hts _ (f_in f_o.2.2.2.2.2.2.2.2.2.2 rfl)) hfr.1 (by rw [I_cat_sum]; omega) hr.2.2.1 hr.2.2.2 hdec (kk ls H locs cells slots hL hok hsz hsl)
      · cases hs
    · cases hs
  all_goals (cases hs)
end STQ
