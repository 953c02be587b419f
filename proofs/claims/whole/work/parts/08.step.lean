section STP
variable {p : Program} {l : Launch} {e : Env} {R : Room} {s : State} {m : MethodId} {args : Array Value} {below : List Frame} {meth : Method} {c : Code} {H : Heap} {locs : List Loc} {cells slots : Nat} {Q : State → Prop}
variable {D : va_G} {T : Nat → ClassId} {X : I_X} {y pc len : Nat} {L : I_L} {st : List Value} {h : I_H} {ls : Array Slot} {sl0 : Nat}
/-- where the walk goes on -/
def I_kk (p : Program) (l : Launch) (e : Env) (R : Room) (s : State) (m : MethodId) (args : Array Value) (below : List Frame) (meth : Method) (c : Code) (Q : State → Prop) (D : va_G) (T : Nat → ClassId) (X : I_X) (y sl0 : Nat) (k : I_C) : Prop :=
  ∀ (ls : Array Slot) (H : Heap) (locs : List Loc) (cells slots : Nat), I_lok ls (I_maxL y) k.2.1 → I_ok D T X s k.2.2.2 H locs → s.heap.size + cells = k.2.2.2.1 → sl0 + slots = k.2.2.2.2.1 → W p l e R s m args below meth c H locs cells slots Q (F0 m k.1 ls k.2.2.1)
theorem I_Wsize {g : JFrame} (k : H.size ≤ s.heap.size + cells → W p l e R s m args below meth c H locs cells slots Q g) : W p l e R s m args below meth c H locs cells slots Q g := by
  intro t hT hX
  have hz := hX.heapSize
  rw [hT] at hz
  exact k hz t hT hX
theorem I_jmp_some {pc : Nat} {off : Int} {k : I_C} (hs : I_jmp pc off L st h = some k) : ∃ t : Nat, (pc : Int) + off = (t : Int) ∧ k = (t, L, st, h) := by
  unfold I_jmp at hs
  split at hs
  · rename_i h0
    exact ⟨((pc : Int) + off).toNat, by omega, (Option.some.inj hs).symm⟩
  · cases hs
theorem I_hp_some {r : Option I_H} {pc : Nat} {k : I_C} (hs : I_hp r pc L st = some k) : ∃ h1, r = some h1 ∧ k = (pc, L, st, h1) := by
  unfold I_hp at hs
  cases r with
  | none => cases hs
  | some h1 => exact ⟨h1, rfl, (Option.some.inj hs).symm⟩
/-- branches -/
theorem I_br_sound {b : Prop} [Decidable b] {off : Int} {k : I_C} {st0 : List Value} (hs : I_br (decide b) pc off L st h = some k) (hL : I_lok ls (I_maxL y) L) (hok : I_ok D T X s h H locs) (hsz : s.heap.size + cells = h.1) (hsl : sl0 + slots = h.2.1)
    (kk : I_kk p l e R s m args below meth c Q D T X y sl0 k)
    (row : ∀ t : Nat, (pc : Int) + off = (t : Int) → (b → W p l e R s m args below meth c H locs cells slots Q (F0 m t ls st)) → (¬ b → W p l e R s m args below meth c H locs cells slots Q (F0 m (pc + 3) ls st)) → W p l e R s m args below meth c H locs cells slots Q (F0 m pc ls st0)) : W p l e R s m args below meth c H locs cells slots Q (F0 m pc ls st0) := by
  unfold I_br at hs
  split at hs
  · rename_i h0
    have ht : (pc : Int) + off = ((((pc : Int) + off).toNat : Nat) : Int) := by omega
    by_cases hb : b
    · rw [if_pos (by simpa using hb)] at hs
      cases hs
      exact row _ ht (fun _ => kk ls H locs cells slots hL hok hsz hsl) (fun hn => absurd hb hn)
    · rw [if_neg (by simpa using hb)] at hs
      cases hs
      exact row _ ht (fun hn => absurd hn hb) (fun _ => kk ls H locs cells slots hL hok hsz hsl)
  · cases hs
theorem I_fl_spec {o idx : Nat} {q : Nat × Nat} (hf : I_look I_fl o idx = some q) : q.1 < 4 ∧ q.2 < I_N q.1 ∧ Cond.fieldLink (I_cn o) idx (I_T q.1 q.2).1 (I_T q.1 q.2).2.1 (I_T q.1 q.2).2.2.1 ∈ I_wl := by
  obtain ⟨h1, h2, h3⟩ := f_fl _ (I_look_mem hf)
  exact ⟨h1, h2, f_in h3 rfl⟩
theorem I_get_sound {idx a : Nat} {k : I_C} (C : I_cx D T X y p s m args meth c) (hdec : decode (I_code y) pc = .ok (.getfield idx, 3)) (hs : I_step X y (.getfield idx) pc 3 L (.ref a :: st) h = some k) (hL : I_lok ls (I_maxL y) L) (hok : I_ok D T X s h H locs) (hsz : s.heap.size + cells = h.1) (hsl : sl0 + slots = h.2.1)
    (kk : I_kk p l e R s m args below meth c Q D T X y sl0 k) : W p l e R s m args below meth c H locs cells slots Q (F0 m pc ls (.ref a :: st)) := by
  obtain ⟨hx, hb, hml, hown, hts, hK, hAO, hin, hscr⟩ := C
  simp only [I_step] at hs
  split at hs
  · rename_i q hf
    obtain ⟨h1, h2, h3⟩ := I_fl_spec hf
    cases hg : I_getf X h a q.1 q.2 with
    | none => rw [hg] at hs; cases hs
    | some v =>
      rw [hg] at hs
      cases hs
      unfold I_getf at hg
      split at hg
      · rename_i o ho
        split at hg
        · rename_i hci
          obtain ⟨ci, fs⟩ := o
          simp only at hci hg
          subst hci
          have hat := I_at hok ho
          exact va_get (D := D) (C := I_cn q.1) (T := I_T q.1) (N := I_N q.1) hx hb hts (f_ws q.1 h1) hown hK hok.1 (a - X.1) hat (f_cl4 q.1 h1) q.2 h2 (hts _ h3) (fun _ z => z) hg hdec (kk ls H locs cells slots hL hok hsz hsl)
        · cases hg
      · cases hg
  · cases hs
theorem I_fit_int {o ci k : Nat} {ini : Bool} {x : Int32} (h1 : ci < 4) (h2 : k < I_N ci) (hf : I_fit o ci k ini (.int x) = true) : I_ty ci k = .int ∧ ((I_T ci k).2.2.2 = false ∨ ((I_T ci k).2.2.2 = true ∧ ini = true ∧ o = ci ∧ (I_T ci k).1 = I_cn ci)) := by
  by_cases h0 : I_fit 0 ci k false (.int x) = true
  · obtain ⟨a, b⟩ := f_fit ci h1 k h2 0 (by decide) x h0
    exact ⟨a, Or.inl b⟩
  · match ci, k with
    | 0, 0 =>
      simp [I_fit] at hf
      exact ⟨rfl, Or.inr ⟨rfl, hf.1, hf.2, rfl⟩⟩
    | 0, 1 => simp [I_fit] at hf
    | 0, 2 => simp [I_fit] at hf
    | 0, 3 => exact absurd rfl h0
    | 0, k + 4 => exact absurd (show k + 4 < 4 from h2) (by omega)
    | 1, 0 => simp [I_fit] at hf
    | 1, 1 => exact absurd rfl h0
    | 1, 2 => exact absurd rfl h0
    | 1, k + 3 => exact absurd (show k + 3 < 3 from h2) (by omega)
    | 2, 0 => simp [I_fit] at hf
    | 2, 1 => exact absurd rfl h0
    | 2, 2 => exact absurd rfl h0
    | 2, 3 => simp [I_fit] at hf
    | 2, 4 => exact absurd rfl h0
    | 2, 5 => simp [I_fit] at hf
    | 2, 6 => exact absurd rfl h0
    | 2, 7 => exact absurd rfl h0
    | 2, 8 => simp [I_fit] at hf
    | 2, 9 => exact absurd rfl h0
    | 2, k + 10 => exact absurd (show k + 10 < 10 from h2) (by omega)
    | 3, 0 => exact absurd rfl h0
    | 3, 1 => simp [I_fit] at hf
    | 3, 2 => simp [I_fit] at hf
    | 3, 3 => simp [I_fit] at hf
    | 3, 4 => exact absurd rfl h0
    | 3, 5 => simp [I_fit] at hf
    | 3, 6 => simp [I_fit] at hf
    | 3, 7 => simp [I_fit] at hf
    | 3, 8 => exact absurd rfl h0
    | 3, 9 => simp [I_fit] at hf
    | 3, 10 => exact absurd rfl h0
    | 3, 11 => simp [I_fit] at hf
    | 3, 12 => exact absurd rfl h0
    | 3, 13 => simp [I_fit] at hf
    | 3, 14 => simp [I_fit] at hf
    | 3, 15 => simp [I_fit] at hf
    | 3, 16 => simp [I_fit] at hf
    | 3, 17 => simp [I_fit] at hf
    | 3, 18 => exact absurd rfl h0
    | 3, 19 => exact absurd rfl h0
    | 3, 20 => exact absurd rfl h0
    | 3, k + 21 => exact absurd (show k + 21 < 21 from h2) (by omega)
    | ci + 4, k => omega
theorem f_ref : ∀ ci, ci < 4 → ∀ k, k < I_N ci → I_fit ci ci k true (.ref 0) = true → (I_T ci k).2.2.2 = true ∧ (I_T ci k).1 = I_cn ci ∧ fits (I_ty ci k) (.ref 0) = true := by decide +kernel
theorem f_ref2 : ∀ ci, ci < 4 → ∀ k, k < I_N ci → I_fit ci ci k true (.ref 0) = true → (match I_ty ci k with | .array _ => true | _ => false) = true := by decide +kernel
theorem I_fit_ref {o ci k a : Nat} {ini : Bool} (h1 : ci < 4) (h2 : k < I_N ci) (hf : I_fit o ci k ini (.ref a) = true) : ini = true ∧ o = ci ∧ (I_T ci k).2.2.2 = true ∧ (I_T ci k).1 = I_cn ci ∧ narrow (I_ty ci k) (.ref a) = .ref a ∧ fits (I_ty ci k) (.ref a) = true := by
  have hf2 : ini = true ∧ o = ci := by
    unfold I_fit at hf
    simp only [Bool.and_eq_true, beq_iff_eq] at hf
    exact hf.1
  obtain ⟨rfl, rfl⟩ := hf2
  have hf3 : I_fit o o k true (.ref 0) = true := hf
  obtain ⟨a1, a2, -⟩ := f_ref o h1 k h2 hf3
  have a4 := f_ref2 o h1 k h2 hf3
  refine ⟨rfl, rfl, a1, a2, ?_, ?_⟩
  · cases hty : I_ty o k <;> simp [hty] at a4 <;> rfl
  · cases hty : I_ty o k <;> simp [hty] at a4 <;> rfl
theorem I_put_sound {idx a : Nat} {v : Value} {k : I_C} (C : I_cx D T X y p s m args meth c) (hdec : decode (I_code y) pc = .ok (.putfield idx, 3)) (hs : I_step X y (.putfield idx) pc 3 L (v :: .ref a :: st) h = some k) (hL : I_lok ls (I_maxL y) L) (hok : I_ok D T X s h H locs) (hsz : s.heap.size + cells = h.1) (hsl : sl0 + slots = h.2.1)
    (kk : I_kk p l e R s m args below meth c Q D T X y sl0 k) : W p l e R s m args below meth c H locs cells slots Q (F0 m pc ls (v :: .ref a :: st)) := by
  obtain ⟨hx, hb, hml, hown, hts, hK, hAO, hin, hscr⟩ := C
  simp only [I_step] at hs
  split at hs
  · rename_i q hf
    obtain ⟨h1, h2, h3⟩ := I_fl_spec hf
    split at hs
    · rename_i hfit
      obtain ⟨hh, hg, rfl⟩ := I_hp_some hs
      unfold I_putf at hg
      split at hg
      · rename_i o ho
        split at hg
        · rename_i hci
          obtain ⟨ci, fs⟩ := o
          simp only at hci hg
          obtain ⟨hci, hlen⟩ := hci
          subst hci
          cases hg
          have hat := I_at hok ho
          have fin : ∀ (H1 : Heap) (locs1 : List Loc), va_P D vwCl ((I_ws T X.1 h).set (a - X.1) (a, .inr (q.1, fs.set q.2 v))) H1 → va_D (fun z => X.1 ≤ z) ((I_ws T X.1 h).set (a - X.1) (a, .inr (q.1, fs.set q.2 v))) → va_S (fun z => X.1 ≤ z) s.heap H1 locs1 → W p l e R s m args below meth c H1 locs1 cells slots Q (F0 m (pc + 3) ls st) := fun H1 locs1 hP _ hS => kk ls H1 locs1 cells slots hL (hok.put ho (e1 := .inr (q.1, fs.set q.2 v)) hP hS) hsz hsl
          cases v with
          | int x =>
            obtain ⟨t1, t2⟩ := I_fit_int h1 h2 hfit
            have hty := f_ty q.1 h1 q.2 h2
            rw [t1] at hty
            rcases t2 with t2 | ⟨t2, t3, t4, t5⟩
            · exact va_put (D := D) (C := I_cn q.1) (T := I_T q.1) (N := I_N q.1) hx hb hts (f_ws q.1 h1) (I_ty q.1) (f_ty q.1 h1) (f_nm q.1 h1) hown hK hok.1 I_ws_D hok.2.1 (a - X.1) hat (f_cl4 q.1 h1) q.2 h2 (hts _ h3) (fun _ z => z) t2 hty rfl rfl hlen hdec fin
            · exact va_putF (D := D) (C := I_cn q.1) (T := I_T q.1) (N := I_N q.1) hx hb hts (f_ws q.1 h1) (I_ty q.1) (f_ty q.1 h1) (f_nm q.1 h1) hown hK hok.1 I_ws_D hok.2.1 (a - X.1) hat (f_cl4 q.1 h1) q.2 h2 (hts _ h3) (fun _ z => z) t2 (hin t3) (by rw [t4]; exact t5) hty rfl rfl hlen hdec fin
          | ref b =>
            obtain ⟨t3, t4, t2, t5, t6, t7⟩ := I_fit_ref h1 h2 hfit
            exact va_putF (D := D) (C := I_cn q.1) (T := I_T q.1) (N := I_N q.1) hx hb hts (f_ws q.1 h1) (I_ty q.1) (f_ty q.1 h1) (f_nm q.1 h1) hown hK hok.1 I_ws_D hok.2.1 (a - X.1) hat (f_cl4 q.1 h1) q.2 h2 (hts _ h3) (fun _ z => z) t2 (hin t3) (by rw [t4]; exact t5) (f_ty q.1 h1 q.2 h2) t6 t7 hlen hdec fin
          | long x => simp [I_fit] at hfit
          | float x => simp [I_fit] at hfit
          | double x => simp [I_fit] at hfit
          | null => simp [I_fit] at hfit
          | retAddr x => simp [I_fit] at hfit
        · cases hg
      · cases hg
    · cases hs
  · cases hs
theorem I_arr_at {a : Nat} {q : Nat × vp_A} (hok : I_ok D T X s h H locs) (hc : I_arr X h a = some q) : (I_ws T X.1 h)[a - X.1]? = some (a, .inl (T q.1, q.2)) := I_at hok (I_arr_cel hc)
theorem I_aldi_sound0 {a : Nat} {i v : Int32} (C : I_cx D T X y p s m args meth c) (hdec : decode (I_code y) pc = .ok (.iaload, 1)) (hg : I_aldi X h 0 a i = some v) (hok : I_ok D T X s h H locs)
    (kk : W p l e R s m args below meth c H locs cells slots Q (F0 m (pc + 1) ls (.int v :: st))) : W p l e R s m args below meth c H locs cells slots Q (F0 m pc ls (.int i :: .ref a :: st)) := by
  obtain ⟨hx, hb, hml, hown, hts, hK, hAO, hin, hscr⟩ := C
  unfold I_aldi at hg
  split at hg
  · rename_i t' n f ha
    split at hg
    · rename_i hc
      obtain ⟨rfl, h2⟩ := hc
      cases hg
      exact va_iald hx hb hK hok.1 (a - X.1) 0 (I_arr_at hok ha) rfl (I_in_vp h2) hdec kk
    · cases hg
  · cases hg
theorem I_aldi_sound2 {a : Nat} {i v : Int32} (C : I_cx D T X y p s m args meth c) (hdec : decode (I_code y) pc = .ok (.baload, 1)) (hg : I_aldi X h 2 a i = some v) (hok : I_ok D T X s h H locs)
    (kk : W p l e R s m args below meth c H locs cells slots Q (F0 m (pc + 1) ls (.int v :: st))) : W p l e R s m args below meth c H locs cells slots Q (F0 m pc ls (.int i :: .ref a :: st)) := by
  obtain ⟨hx, hb, hml, hown, hts, hK, hAO, hin, hscr⟩ := C
  unfold I_aldi at hg
  split at hg
  · rename_i t' n f ha
    split at hg
    · rename_i hc
      obtain ⟨rfl, h2⟩ := hc
      cases hg
      exact va_zald hx hb hK hok.1 (a - X.1) 2 (I_arr_at hok ha) rfl (I_in_vp h2) hdec kk
    · cases hg
  · cases hg
theorem I_aldd_sound {a : Nat} {i : Int32} {v : UInt64} (C : I_cx D T X y p s m args meth c) (hdec : decode (I_code y) pc = .ok (.daload, 1)) (hg : I_aldd X h a i = some v) (hok : I_ok D T X s h H locs)
    (kk : W p l e R s m args below meth c H locs cells slots Q (F0 m (pc + 1) ls (.double v :: st))) : W p l e R s m args below meth c H locs cells slots Q (F0 m pc ls (.int i :: .ref a :: st)) := by
  obtain ⟨hx, hb, hml, hown, hts, hK, hAO, hin, hscr⟩ := C
  unfold I_aldd at hg
  split at hg
  · rename_i t' n f ha
    split at hg
    · rename_i hc
      obtain ⟨rfl, h2⟩ := hc
      cases hg
      exact va_dald hx hb hK hok.1 (a - X.1) 1 (I_arr_at hok ha) rfl (I_in_vp h2) hdec kk
    · cases hg
  · cases hg
theorem I_aldq_sound {a : Nat} {i : Int32} {v : Option Nat} (C : I_cx D T X y p s m args meth c) (hdec : decode (I_code y) pc = .ok (.aaload, 1)) (hg : I_aldq X h a i = some v) (hok : I_ok D T X s h H locs)
    (kk : W p l e R s m args below meth c H locs cells slots Q (F0 m (pc + 1) ls (va_rf v :: st))) : W p l e R s m args below meth c H locs cells slots Q (F0 m pc ls (.int i :: .ref a :: st)) := by
  obtain ⟨hx, hb, hml, hown, hts, hK, hAO, hin, hscr⟩ := C
  unfold I_aldq at hg
  split at hg
  · rename_i t' n f ha
    split at hg
    · rename_i hc
      obtain ⟨ht, h2⟩ := hc
      cases hg
      rcases ht with rfl | rfl
      · exact va_aldq (C := RX1) hx hb hK hok.1 (a - X.1) 3 (I_arr_at hok ha) rfl (I_in_vp h2) hdec kk
      · exact va_aldq (C := RX0) hx hb hK hok.1 (a - X.1) 4 (I_arr_at hok ha) rfl (I_in_vp h2) hdec kk
    · cases hg
  · cases hg
theorem I_asti_sound0 {a : Nat} {i v : Int32} {h1 : I_H} (C : I_cx D T X y p s m args meth c) (hdec : decode (I_code y) pc = .ok (.iastore, 1)) (hg : I_asti X h 0 a i v = some h1) (hok : I_ok D T X s h H locs)
    (kk : h1.1 = h.1 → h1.2.1 = h.2.1 → ∀ (H1 : Heap) (locs1 : List Loc), I_ok D T X s h1 H1 locs1 → W p l e R s m args below meth c H1 locs1 cells slots Q (F0 m (pc + 1) ls st)) : W p l e R s m args below meth c H locs cells slots Q (F0 m pc ls (.int v :: .int i :: .ref a :: st)) := by
  obtain ⟨hx, hb, hml, hown, hts, hK, hAO, hin, hscr⟩ := C
  unfold I_asti at hg
  split at hg
  · rename_i t' n f ha
    split at hg
    · rename_i hc
      obtain ⟨rfl, h2⟩ := hc
      cases hg
      exact va_iast hx hb hK hok.1 I_ws_D hok.2.1 (a - X.1) 0 (I_arr_at hok ha) rfl (I_in_vp h2) hdec (fun H1 locs1 hP _ hS => kk rfl rfl H1 locs1 (hok.put (I_arr_cel ha) (e1 := .inl (0, n, .inl (upd f i.toNatClampNeg v))) hP hS))
    · cases hg
  · cases hg
theorem I_asti_sound2 {a : Nat} {i v : Int32} {h1 : I_H} (C : I_cx D T X y p s m args meth c) (hdec : decode (I_code y) pc = .ok (.bastore, 1)) (hv : v = 0 ∨ v = 1) (hg : I_asti X h 2 a i v = some h1) (hok : I_ok D T X s h H locs)
    (kk : h1.1 = h.1 → h1.2.1 = h.2.1 → ∀ (H1 : Heap) (locs1 : List Loc), I_ok D T X s h1 H1 locs1 → W p l e R s m args below meth c H1 locs1 cells slots Q (F0 m (pc + 1) ls st)) : W p l e R s m args below meth c H locs cells slots Q (F0 m pc ls (.int v :: .int i :: .ref a :: st)) := by
  obtain ⟨hx, hb, hml, hown, hts, hK, hAO, hin, hscr⟩ := C
  have hn : vp_nar .boolean v = v := by rcases hv with rfl | rfl <;> decide
  unfold I_asti at hg
  split at hg
  · rename_i t' n f ha
    split at hg
    · rename_i hc
      obtain ⟨rfl, h2⟩ := hc
      cases hg
      refine va_zast hx hb hK hok.1 I_ws_D hok.2.1 (a - X.1) 2 (I_arr_at hok ha) rfl (I_in_vp h2) hdec (fun H1 locs1 hP _ hS => ?_)
      rw [hn] at hP
      exact kk rfl rfl H1 locs1 (hok.put (I_arr_cel ha) (e1 := .inl (2, n, .inl (upd f i.toNatClampNeg v))) hP hS)
    · cases hg
  · cases hg
theorem I_astd_sound {a : Nat} {i : Int32} {v : UInt64} {h1 : I_H} (C : I_cx D T X y p s m args meth c) (hdec : decode (I_code y) pc = .ok (.dastore, 1)) (hg : I_astd X h a i v = some h1) (hok : I_ok D T X s h H locs)
    (kk : h1.1 = h.1 → h1.2.1 = h.2.1 → ∀ (H1 : Heap) (locs1 : List Loc), I_ok D T X s h1 H1 locs1 → W p l e R s m args below meth c H1 locs1 cells slots Q (F0 m (pc + 1) ls st)) : W p l e R s m args below meth c H locs cells slots Q (F0 m pc ls (.double v :: .int i :: .ref a :: st)) := by
  obtain ⟨hx, hb, hml, hown, hts, hK, hAO, hin, hscr⟩ := C
  unfold I_astd at hg
  split at hg
  · rename_i t' n f ha
    split at hg
    · rename_i hc
      obtain ⟨rfl, h2⟩ := hc
      cases hg
      exact va_dast hx hb hK hok.1 I_ws_D hok.2.1 (a - X.1) 1 (I_arr_at hok ha) rfl (I_in_vp h2) hdec (fun H1 locs1 hP _ hS => kk rfl rfl H1 locs1 (hok.put (I_arr_cel ha) (e1 := .inl (1, n, .inr (.inr (.inr (.inl (vf_upd f i.toNatClampNeg v)))))) hP hS))
    · cases hg
  · cases hg
theorem I_isC_at {b ci : Nat} (hok : I_ok D T X s h H locs) (hc : I_isC X h b ci = true) : ∃ fs, (I_ws T X.1 h)[b - X.1]? = some (b, .inr (ci, fs)) := by
  unfold I_isC at hc
  split at hc
  · rename_i o ho
    obtain ⟨c1, fs⟩ := o
    simp only [beq_iff_eq] at hc
    subst hc
    exact ⟨fs, I_at hok ho⟩
  · cases hc
theorem I_astq_sound {a : Nat} {i : Int32} {v : Option Nat} {h1 : I_H} (C : I_cx D T X y p s m args meth c) (hdec : decode (I_code y) pc = .ok (.aastore, 1)) (hg : I_astq X h a i v = some h1) (hok : I_ok D T X s h H locs)
    (kk : h1.1 = h.1 → h1.2.1 = h.2.1 → ∀ (H1 : Heap) (locs1 : List Loc), I_ok D T X s h1 H1 locs1 → W p l e R s m args below meth c H1 locs1 cells slots Q (F0 m (pc + 1) ls st)) : W p l e R s m args below meth c H locs cells slots Q (F0 m pc ls (va_rf v :: .int i :: .ref a :: st)) := by
  obtain ⟨hx, hb, hml, hown, hts, hK, hAO, hin, hscr⟩ := C
  unfold I_astq at hg
  cases v with
  | none =>
    dsimp only at hg
    split at hg
    · rename_i t' n f ha
      split at hg
      · rename_i hc
        obtain ⟨ht, h2⟩ := hc
        cases hg
        have hat := I_arr_at hok ha
        rcases ht with ⟨rfl, -⟩ | ⟨rfl, -⟩
        · exact va_astqN (C := RX1) hx hb hK hok.1 I_ws_D hok.2.1 (a - X.1) 3 hat rfl (I_in_vp h2) hdec (fun H1 locs1 hP _ hS => kk rfl rfl H1 locs1 (hok.put (I_arr_cel ha) (e1 := .inl (3, n, .inr (.inr (.inr (.inr (va_up f i.toNatClampNeg none)))))) hP hS))
        · exact va_astqN (C := RX0) hx hb hK hok.1 I_ws_D hok.2.1 (a - X.1) 4 hat rfl (I_in_vp h2) hdec (fun H1 locs1 hP _ hS => kk rfl rfl H1 locs1 (hok.put (I_arr_cel ha) (e1 := .inl (4, n, .inr (.inr (.inr (.inr (va_up f i.toNatClampNeg none)))))) hP hS))
      · cases hg
    · cases hg
  | some b =>
    dsimp only at hg
    split at hg
    · rename_i t' n f ha
      split at hg
      · rename_i hc
        obtain ⟨ht, h2⟩ := hc
        cases hg
        have hat := I_arr_at hok ha
        rcases ht with ⟨rfl, hq⟩ | ⟨rfl, hq⟩
        · obtain ⟨fs, hbt⟩ := I_isC_at hok hq
          exact va_astq (r := (RX1, TX1, 3)) hx hb hK hok.1 I_ws_D hok.2.1 (a - X.1) 3 (b - X.1) 1 hat rfl hbt rfl (I_in_vp h2) hdec (fun H1 locs1 hP _ hS => kk rfl rfl H1 locs1 (hok.put (I_arr_cel ha) (e1 := .inl (3, n, .inr (.inr (.inr (.inr (va_up f i.toNatClampNeg (some b))))))) hP hS))
        · obtain ⟨fs, hbt⟩ := I_isC_at hok hq
          exact va_astq (r := (RX0, TX0, 4)) hx hb hK hok.1 I_ws_D hok.2.1 (a - X.1) 4 (b - X.1) 0 hat rfl hbt rfl (I_in_vp h2) hdec (fun H1 locs1 hP _ hS => kk rfl rfl H1 locs1 (hok.put (I_arr_cel ha) (e1 := .inl (4, n, .inr (.inr (.inr (.inr (va_up f i.toNatClampNeg (some b))))))) hP hS))
      · cases hg
    · cases hg
theorem I_alen_sound {a : Nat} {v : Int32} (C : I_cx D T X y p s m args meth c) (hdec : decode (I_code y) pc = .ok (.arraylength, 1)) (hg : I_alen X h a = some v) (hok : I_ok D T X s h H locs)
    (kk : W p l e R s m args below meth c H locs cells slots Q (F0 m (pc + 1) ls (.int v :: st))) : W p l e R s m args below meth c H locs cells slots Q (F0 m pc ls (.ref a :: st)) := by
  obtain ⟨hx, hb, hml, hown, hts, hK, hAO, hin, hscr⟩ := C
  unfold I_alen at hg
  split at hg
  · rename_i q ha
    split at hg
    · rename_i hc
      obtain ⟨t, n, x⟩ := q
      cases hg
      have hat := I_arr_at hok ha
      simp only at hc hat ⊢
      match t, hc with
      | 0, _ => exact va_alen hx hb hK hok.1 (a - X.1) 0 hat rfl rfl hdec kk
      | 1, _ => exact va_alen hx hb hK hok.1 (a - X.1) 1 hat rfl rfl hdec kk
      | 2, _ => exact va_alen hx hb hK hok.1 (a - X.1) 2 hat rfl rfl hdec kk
      | 3, _ => exact va_alen hx hb hK hok.1 (a - X.1) 3 hat rfl rfl hdec kk
      | 4, _ => exact va_alen hx hb hK hok.1 (a - X.1) 4 hat rfl rfl hdec kk
      | t + 5, hc => exact absurd hc (by omega)
    · cases hg
  · cases hg
theorem I_copy_sound {a a0 idx : Nat} {sp dp n : Int32} {h1 : I_H} (C : I_cx D T X y p s m args meth c) (hls : ls.size = I_maxL y) (hdec : decode (I_code y) pc = .ok (.invokestatic idx, 3)) (hk : I_look I_ml (I_own y) idx = some 1002) (hcat : I_cat st ≤ 8) (hfr : 1 ≤ R.frames ∧ 40 ≤ R.locals) (hg : I_copy X h a0 sp a dp n = some h1) (hok : I_ok D T X s h H locs)
    (kk : h1.1 = h.1 → h1.2.1 = h.2.1 → ∀ (H1 : Heap) (locs1 : List Loc), I_ok D T X s h1 H1 locs1 → W p l e R s m args below meth c H1 locs1 cells slots Q (F0 m (pc + 3) ls st)) : W p l e R s m args below meth c H locs cells slots Q (F0 m pc ls (.int n :: .int dp :: .ref a :: .int sp :: .ref a0 :: st)) := by
  obtain ⟨hx, hb, hml, hown, hts, hK, hAO, hin, hscr⟩ := C
  have hlink := hts _ (f_in (f_ml _ (I_look_mem hk)).2 rfl)
  have hloc : (st.map fun v => v.category).sum + (nativeFrameWords "java/lang/System" "arraycopy" 5 + 11) ≤ R.locals := by
    have e1 : ∀ l : List Value, (l.map fun v => v.category).sum = I_cat l := by
      intro l
      induction l with
      | nil => rfl
      | cons v l ih => simp only [List.map_cons, List.sum_cons, I_cat, ih]
    have e2 : nativeFrameWords "java/lang/System" "arraycopy" 5 = 7 := by decide
    rw [e1, e2]
    omega
  unfold I_copy at hg
  split at hg
  · rename_i t0 n0 f t1 n1 g ha0 ha
    split at hg
    · rename_i hc
      obtain ⟨rfl, rfl, c1, c2, c3, c4, c5⟩ := hc
      cases hg
      exact va_copyi hx hb (hml.trans hls.symm) hown hlink (hts _ (f_in f_o.2.2.1 rfl)) (hts _ (f_in f_o.2.2.2.1 rfl)) (hts _ (f_in f_o.2.2.2.2.1 rfl)) hK hok.1 I_ws_D hok.2.1 (a0 - X.1) (a - X.1) 0 0 (I_arr_at hok ha0) (I_arr_at hok ha) rfl rfl rfl c1 c2 c3 c4 c5 (fun _ _ => rfl) hfr.1 hloc hdec (fun H1 locs1 hP _ hS => kk rfl rfl H1 locs1 (hok.put (I_arr_cel ha) (e1 := .inl (0, n1, .inl (va_cpy f g sp.toNatClampNeg dp.toNatClampNeg n.toNatClampNeg))) hP hS))
    · cases hg
  · rename_i t0 n0 f t1 n1 g ha0 ha
    split at hg
    · rename_i hc
      obtain ⟨rfl, rfl, c1, c2, c3, c4, c5⟩ := hc
      cases hg
      exact va_copyd hx hb (hml.trans hls.symm) hown hlink (hts _ (f_in f_o.2.2.1 rfl)) (hts _ (f_in f_o.2.2.2.1 rfl)) (hts _ (f_in f_o.2.2.2.2.1 rfl)) hK hok.1 I_ws_D hok.2.1 (a0 - X.1) (a - X.1) 1 1 (I_arr_at hok ha0) (I_arr_at hok ha) rfl rfl rfl c1 c2 c3 c4 c5 (fun _ _ => rfl) hfr.1 hloc hdec (fun H1 locs1 hP _ hS => kk rfl rfl H1 locs1 (hok.put (I_arr_cel ha) (e1 := .inl (1, n1, .inr (.inr (.inr (.inl (va_cpy f g sp.toNatClampNeg dp.toNatClampNeg n.toNatClampNeg)))))) hP hS))
    · cases hg
  · cases hg
end STP
