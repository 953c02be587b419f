/-! The interpreter is true of the machine, an instruction a row. -/
def I_va (T : Nat → ClassId) (e : I_Ce) : va_E := match e with
  | .inl q => .inl (T q.1, q.2)
  | .inr o => .inr o
def I_ws (T : Nat → ClassId) (lo : Nat) (h : I_H) : va_W := (List.range (h.1 - lo)).map (fun k => (lo + k, I_va T (h.2.2 (lo + k))))
def I_tys (T : Nat → ClassId) : List (ClassId × FieldType) := [(T 0, .int), (T 1, .double), (T 2, .boolean), (T 3, .object RX1), (T 4, .object RX0)]
theorem I_ws_get {T : Nat → ClassId} {lo a : Nat} {h : I_H} (h1 : lo ≤ a) (h2 : a < h.1) : (I_ws T lo h)[a - lo]? = some (a, I_va T (h.2.2 a)) := by
  unfold I_ws
  rw [List.getElem?_map, List.getElem?_range (by omega)]
  simp only [Option.map_some]
  rw [show lo + (a - lo) = a by omega]
theorem I_ws_inv {T : Nat → ClassId} {lo k : Nat} {h : I_H} {q : Nat × va_E} (hq : (I_ws T lo h)[k]? = some q) : k < h.1 - lo ∧ q = (lo + k, I_va T (h.2.2 (lo + k))) := by
  unfold I_ws at hq
  rw [List.getElem?_map] at hq
  cases hr : (List.range (h.1 - lo))[k]? with
  | none => rw [hr] at hq; cases hq
  | some j =>
    rw [hr] at hq
    obtain ⟨hk, hj⟩ := List.getElem?_eq_some_iff.mp hr
    rw [List.getElem_range] at hj
    subst hj
    rw [List.length_range] at hk
    exact ⟨hk, (Option.some.inj hq).symm⟩
theorem I_ws_D {T : Nat → ClassId} {lo : Nat} {h : I_H} : va_D (fun q => lo ≤ q) (I_ws T lo h) := by
  refine ⟨fun i j x z hi hj hxz => ?_, fun k q hk => ?_⟩
  · obtain ⟨-, rfl⟩ := I_ws_inv hi
    obtain ⟨-, rfl⟩ := I_ws_inv hj
    simp only at hxz
    omega
  · obtain ⟨-, rfl⟩ := I_ws_inv hk
    exact Nat.le_add_right _ _
theorem I_ws_len {T : Nat → ClassId} {lo : Nat} {h : I_H} : (I_ws T lo h).length = h.1 - lo := by simp [I_ws]
theorem I_ws_set {T : Nat → ClassId} {lo a : Nat} {h : I_H} {e : I_Ce} (h1 : lo ≤ a) (h2 : a < h.1) : (I_ws T lo h).set (a - lo) (a, I_va T e) = I_ws T lo (I_set h a e) := by
  apply List.ext_getElem?
  intro k
  by_cases hk : k = a - lo
  · subst hk
    rw [List.getElem?_set_self (by rw [I_ws_len]; omega), I_ws_get h1 (by exact h2)]
    simp [I_set]
  · rw [List.getElem?_set_ne (Ne.symm hk)]
    by_cases hl : k < h.1 - lo
    · have e1 := I_ws_get (T := T) (lo := lo) (a := lo + k) (h := h) (by omega) (by omega)
      have e2 := I_ws_get (T := T) (lo := lo) (a := lo + k) (h := I_set h a e) (by omega) (by show lo + k < h.1; omega)
      rw [show lo + k - lo = k by omega] at e1 e2
      rw [e1, e2]
      simp only [I_set]
      rw [if_neg (by omega)]
    · rw [List.getElem?_eq_none (by rw [I_ws_len]; omega), List.getElem?_eq_none (by rw [I_ws_len]; show h.1 - lo ≤ k; omega)]
theorem I_ws_new {T : Nat → ClassId} {lo n : Nat} {h : I_H} {e : I_Ce} (h1 : lo ≤ h.1) : I_ws T lo h ++ [(h.1, I_va T e)] = I_ws T lo (I_new h n e) := by
  apply List.ext_getElem?
  intro k
  by_cases hl : k < h.1 - lo
  · have e1 := I_ws_get (T := T) (lo := lo) (a := lo + k) (h := h) (by omega) (by omega)
    have e2 := I_ws_get (T := T) (lo := lo) (a := lo + k) (h := I_new h n e) (by omega) (by show lo + k < h.1 + 1; omega)
    rw [show lo + k - lo = k by omega] at e1 e2
    rw [List.getElem?_append_left (by rw [I_ws_len]; exact hl), e1, e2]
    simp only [I_new]
    rw [if_neg (by omega)]
  · rw [List.getElem?_append_right (by rw [I_ws_len]; omega), I_ws_len]
    by_cases hk : k = h.1 - lo
    · subst hk
      have e2 := I_ws_get (T := T) (lo := lo) (a := h.1) (h := I_new h n e) h1 (by show h.1 < h.1 + 1; omega)
      rw [e2, Nat.sub_self]
      simp [I_new]
    · rw [List.getElem?_eq_none (by simp; omega), List.getElem?_eq_none (by rw [I_ws_len]; show h.1 + 1 - lo ≤ k; omega)]
theorem I_ws_app {T : Nat → ClassId} {lo q n : Nat} {h : I_H} {e : I_Ce} {D : va_G} {H1 : Heap} (h1 : lo ≤ h.1) (hP : va_P D vwCl (I_ws T lo h ++ [(q, I_va T e)]) H1) (hD : va_D (fun q => lo ≤ q) (I_ws T lo h ++ [(q, I_va T e)])) (hs : H1.size ≤ h.1 + 1) : q = h.1 ∧ va_P D vwCl (I_ws T lo (I_new h n e)) H1 := by
  have hlast : (I_ws T lo h ++ [(q, I_va T e)])[h.1 - lo]? = some (q, I_va T e) := by
    rw [List.getElem?_append_right (by rw [I_ws_len]; omega), I_ws_len, Nat.sub_self]; rfl
  have hq1 : lo ≤ q := hD.2 _ _ hlast
  have hq2 : q < H1.size := (hP _ _ hlast).lt
  have hq : q = h.1 := by
    rcases Nat.lt_or_ge q h.1 with hlt | hge
    · have e1 := I_ws_get (T := T) (lo := lo) (a := q) (h := h) hq1 hlt
      have e2 : (I_ws T lo h ++ [(q, I_va T e)])[q - lo]? = some (q, I_va T (h.2.2 q)) := by
        rw [List.getElem?_append_left (by rw [I_ws_len]; omega)]; exact e1
      have := hD.1 _ _ _ _ hlast e2 rfl
      omega
    · omega
  subst hq
  refine ⟨rfl, ?_⟩
  rw [← I_ws_new h1]
  exact hP
/-- the locals, as a list of what is known -/
def I_al (L : I_L) : List (Nat × Value) := (List.range L.length).filterMap (fun k => (I_lv L k).map (fun v => (k, v)))
def I_lok (ls : Array Slot) (nL : Nat) (L : I_L) : Prop := L.length = nL ∧ lv_has ls nL (I_al L)
theorem I_lv_iff {L : I_L} {k : Nat} {v : Value} : I_lv L k = some v ↔ L[k]? = some (some v) := by
  unfold I_lv
  constructor
  · intro h
    split at h
    · rename_i w hw; rw [hw, Option.some.inj h]
    · cases h
  · intro h; rw [h]
theorem I_al_mem {L : I_L} {k : Nat} {v : Value} : (k, v) ∈ I_al L ↔ I_lv L k = some v := by
  unfold I_al
  rw [List.mem_filterMap]
  constructor
  · rintro ⟨j, -, hj⟩
    cases hv : I_lv L j with
    | none => rw [hv] at hj; cases hj
    | some w =>
      rw [hv] at hj
      simp only [Option.map_some, Option.some.injEq, Prod.mk.injEq] at hj
      obtain ⟨rfl, rfl⟩ := hj
      exact hv
  · intro h
    have h2 := I_lv_iff.mp h
    exact ⟨k, List.mem_range.mpr (List.getElem?_eq_some_iff.mp h2).1, by rw [h]; rfl⟩
theorem I_lok.at {ls : Array Slot} {nL k : Nat} {L : I_L} {v : Value} (h : I_lok ls nL L) (hv : I_lv L k = some v) : ls[k]? = some (.val v) := h.2.2.2 (k, v) (I_al_mem.mpr hv)
theorem I_c2_cat {x : Value} (h : I_c2 (some x) = false) : ¬ x.category = 2 := by
  cases x <;> simp [I_c2] at h <;> simp [Value.category]
theorem I_lok_st1 {ls : Array Slot} {nL k : Nat} {L L' : I_L} {v : Value} (h : L.length = nL) (hs : I_st1 L k v = some L') (hl : lv_has ls nL ((k, v) :: (I_al L).filter (fun q => !(q.1 == k) && !(q.1 + 1 == k && q.2.category == 2)))) : I_lok ls nL L' := by
  unfold I_st1 at hs
  split at hs
  · rename_i hc
    cases hs
    refine ⟨by rw [List.length_set]; exact h, hl.1, hl.2.1, fun q hq => ?_⟩
    obtain ⟨j, w⟩ := q
    rw [I_al_mem, I_lv_iff] at hq
    apply hl.2.2
    by_cases hj : j = k
    · subst hj
      rw [List.getElem?_set_self hc.1] at hq
      cases hq
      exact List.mem_cons_self
    · rw [List.getElem?_set_ne (Ne.symm hj)] at hq
      refine List.mem_cons_of_mem _ (List.mem_filter.mpr ⟨I_al_mem.mpr (I_lv_iff.mpr hq), ?_⟩)
      simp only [Bool.and_eq_true, Bool.not_eq_true', beq_eq_false_iff_ne, ne_eq, Bool.and_eq_false_iff]
      refine ⟨hj, ?_⟩
      by_cases hjk : j + 1 = k
      · right
        subst hjk
        have h2 := hc.2
        simp only [I_prev, hq] at h2
        exact I_c2_cat h2
      · left; exact hjk
  · cases hs
theorem I_lok_st2 {ls : Array Slot} {nL k : Nat} {L L' : I_L} {v : Value} (h : L.length = nL) (hs : I_st2 L k v = some L') (hl : lv_has ls nL ((k, v) :: (I_al L).filter (fun q => !(q.1 == k) && (!(q.1 == k + 1) && !(q.1 + 1 == k && q.2.category == 2))))) : I_lok ls nL L' := by
  unfold I_st2 at hs
  split at hs
  · rename_i hc
    cases hs
    refine ⟨by rw [List.length_set, List.length_set]; exact h, hl.1, hl.2.1, fun q hq => ?_⟩
    obtain ⟨j, w⟩ := q
    rw [I_al_mem, I_lv_iff] at hq
    apply hl.2.2
    by_cases hj1 : j = k + 1
    · subst hj1
      rw [List.getElem?_set_self (by rw [List.length_set]; exact hc.1)] at hq
      cases hq
    · rw [List.getElem?_set_ne (Ne.symm hj1)] at hq
      by_cases hj : j = k
      · subst hj
        rw [List.getElem?_set_self (by omega)] at hq
        cases hq
        exact List.mem_cons_self
      · rw [List.getElem?_set_ne (Ne.symm hj)] at hq
        refine List.mem_cons_of_mem _ (List.mem_filter.mpr ⟨I_al_mem.mpr (I_lv_iff.mpr hq), ?_⟩)
        simp only [Bool.and_eq_true, Bool.not_eq_true', beq_eq_false_iff_ne, ne_eq, Bool.and_eq_false_iff]
        refine ⟨hj, hj1, ?_⟩
        by_cases hjk : j + 1 = k
        · right
          subst hjk
          have h2 := hc.2
          simp only [I_prev, hq] at h2
          exact I_c2_cat h2
        · left; exact hjk
  · cases hs
theorem I_st1_lt {L L' : I_L} {k : Nat} {v : Value} (hs : I_st1 L k v = some L') : k < L.length := by
  unfold I_st1 at hs
  split at hs
  · rename_i hc; exact hc.1
  · cases hs
theorem I_st2_lt {L L' : I_L} {k : Nat} {v : Value} (hs : I_st2 L k v = some L') : k + 1 < L.length := by
  unfold I_st2 at hs
  split at hs
  · rename_i hc; exact hc.1
  · cases hs
/-- what holds in a method's body -/
def I_cx (D : va_G) (T : Nat → ClassId) (X : I_X) (y : Nat) (p : Program) (s : State) (m : MethodId) (args : Array Value) (meth : Method) (c : Code) : Prop :=
  p.tables.exec = Jvm.exec ∧ c.code = I_code y ∧ c.maxLocals = I_maxL y ∧ s.vm.findClass (I_cn (I_own y)) = some m.cls ∧ (∀ w ∈ I_wl, w.before args s = true) ∧ va_K D vwCl (I_tys T) s ∧ (va_AO RX1 s ∧ va_AO RX0 s) ∧ (I_init y = true → meth.name = "<init>") ∧ (I_own y = 5 → va_X X.2.1 X.2.2.1 X.2.2.2 s s.heap ∧ X.2.1 < s.heap.size ∧ ¬ X.1 ≤ X.2.1)
def I_ok (D : va_G) (T : Nat → ClassId) (X : I_X) (s : State) (h : I_H) (H : Heap) (locs : List Loc) : Prop := va_P D vwCl (I_ws T X.1 h) H ∧ va_S (fun q => X.1 ≤ q) s.heap H locs ∧ X.1 ≤ h.1
theorem I_cel_some {X : I_X} {h : I_H} {a : Nat} {e : I_Ce} (hc : I_cel X h a = some e) : X.1 ≤ a ∧ a < h.1 ∧ h.2.2 a = e := by
  unfold I_cel at hc
  split at hc
  · rename_i h1; exact ⟨h1.1, h1.2, Option.some.inj hc⟩
  · cases hc
theorem I_at {D : va_G} {T : Nat → ClassId} {X : I_X} {s : State} {h : I_H} {H : Heap} {locs : List Loc} {a : Nat} {e : I_Ce} (_ : I_ok D T X s h H locs) (hc : I_cel X h a = some e) : (I_ws T X.1 h)[a - X.1]? = some (a, I_va T e) := by
  obtain ⟨h1, h2, h3⟩ := I_cel_some hc
  rw [← h3]
  exact I_ws_get h1 h2
theorem I_ok.put {D : va_G} {T : Nat → ClassId} {X : I_X} {s : State} {h : I_H} {H H1 : Heap} {locs locs1 : List Loc} {a : Nat} {e e1 : I_Ce} (ho : I_ok D T X s h H locs) (hc : I_cel X h a = some e) (hP : va_P D vwCl ((I_ws T X.1 h).set (a - X.1) (a, I_va T e1)) H1) (hS : va_S (fun q => X.1 ≤ q) s.heap H1 locs1) : I_ok D T X s (I_set h a e1) H1 locs1 := by
  obtain ⟨h1, h2, -⟩ := I_cel_some hc
  rw [I_ws_set h1 h2] at hP
  exact ⟨hP, hS, ho.2.2⟩
theorem I_arr_cel {X : I_X} {h : I_H} {a : Nat} {q : Nat × vp_A} (hc : I_arr X h a = some q) : I_cel X h a = some (.inl q) := by
  unfold I_arr at hc
  split at hc
  · rename_i q1 h1; rw [h1, Option.some.inj hc]
  · cases hc
theorem I_in_vp {i : Int32} {n : Nat} (h : I_in i n = true) : vp_in i n := by
  unfold I_in at h
  unfold vp_in
  simp only [Bool.not_eq_true', Bool.or_eq_false_iff, decide_eq_false_iff_not] at h
  rintro (q | q)
  · exact h.1 q
  · exact h.2 q
