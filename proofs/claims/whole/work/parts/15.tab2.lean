/-! Tables of the landed code. -/
section TB2
variable {X : I_X} {S : St} {d t t2 r r2 i j n : Nat} {a b v : Int32}
theorem k_even_loop (hS : WB S) (ht : t < 16) : ∀ m i, i + m = S.2.1 1 t → ev X (d + 2) m_X1_isEven 2 [some (va_rf (some (aT X t))), some (.int (nI i))] [] (rp X S) = some (some (.int (b01 (∀ k, i ≤ k → k < S.2.1 1 t → ¬ badL S t (wid S t) k))), rp X S) := by
  have hh := hS.2.1 t ht
  have hw0 : ∀ r, S.2.2.1 t 0 = some r → r < S.2.1 0 1 := fun r h => hS.2.2.1 t 0 r ht h
  have hw16 : wid S t ≤ 16 := by
    unfold wid
    split
    · omega
    · split
      · omega
      · rename_i r h; exact (hS.2.2.2 r (hw0 r h)).1
  intro m
  induction m with
  | zero =>
    intro i hi
    have h1 : nI (S.2.1 1 t) ≤ nI i := nI_le (by omega) (by omega)
    rw [b01_t (show ∀ k, i ≤ k → k < S.2.1 1 t → ¬ badL S t (wid S t) k from fun k a b => by omega)]
    simp only [e_X1_isEven_0, e_X1_isEven_1, e_X1_isEven_2, e_X1_isEven_3, e_X1_isEven_4, e_X1_isEven_7, e_X1_isEven_10, e_X1_isEven_11, e_X1_isEven_14, e_X1_isEven_15, e_X1_isEven_16, e_X1_isEven_19, e_X1_isEven_20, e_X1_isEven_23, e_X1_isEven_24, e_X1_isEven_25, e_X1_isEven_28, e_X1_isEven_29, e_X1_isEven_32, e_X1_isEven_35, e_X1_isEven_36, e_X1_isEven_37, e_X1_isEven_40, e_X1_isEven_43, e_X1_isEven_44, Option.bind_some, Option.bind_none, Option.toList_some, Option.toList_none, List.cons_append, List.nil_append, I_z, I_i8, I_q8, I_i7, I_q7, I_i6, I_q6, I_i5, I_q5, I_i4, I_q4, I_i3, I_q3, I_i2, I_q2, I_i1, I_q1, I_w8, I_w7, I_w6, I_w5, I_w4, I_w3, I_w2, I_c2n, I_c2i, I_c2q, eq_self, or_true, true_or, and_true, true_and, if_true, if_false, not_false_eq_true, not_true_eq_false, Option.map_none, Option.map_some, reduceCtorEq, gT_2, ht, h1]
  | succ m ih =>
    intro i hi
    have h1 : ¬ nI (S.2.1 1 t) ≤ nI i := nI_ge (by omega) (by omega)
    have h12 : i < 12 := by omega
    have hi1 : i < S.2.1 1 t := by omega
    have ih1 := ih (i + 1) (by omega)
    cases hp : S.2.2.1 t i with
    | none =>
      rw [b01_n hi1 (fun q => q (badL_n hp))]
      rw [e_X1_isEven_2]
      simp only [e_X1_isEven_3, e_X1_isEven_4, e_X1_isEven_7, e_X1_isEven_10, e_X1_isEven_11, e_X1_isEven_14, e_X1_isEven_15, e_X1_isEven_16, e_X1_isEven_19, e_X1_isEven_20, e_X1_isEven_23, e_X1_isEven_24, e_X1_isEven_25, e_X1_isEven_28, e_X1_isEven_29, e_X1_isEven_32, e_X1_isEven_35, e_X1_isEven_36, e_X1_isEven_37, e_X1_isEven_40, e_X1_isEven_43, e_X1_isEven_44, Option.bind_some, Option.bind_none, Option.toList_some, Option.toList_none, List.cons_append, List.nil_append, I_z, I_i8, I_q8, I_i7, I_q7, I_i6, I_q6, I_i5, I_q5, I_i4, I_q4, I_i3, I_q3, I_i2, I_q2, I_i1, I_q1, I_w8, I_w7, I_w6, I_w5, I_w4, I_w3, I_w2, I_c2n, I_c2i, I_c2q, eq_self, or_true, true_or, and_true, true_and, if_true, if_false, not_false_eq_true, not_true_eq_false, Option.map_none, Option.map_some, reduceCtorEq, gT_2, gT_0, ht, h1, lTr, h12, hp]
    | some r =>
      have hr := hS.2.2.1 t i r ht hp
      have h16 := (hS.2.2.2 r hr).1
      by_cases hl : S.2.1 2 r = wid S t
      · have hl2 : nI (S.2.1 2 r) = nI (wid S t) := by rw [hl]
        rw [b01_s hi1 (fun q => (badL_s hp).mp q hl)]
        rw [e_X1_isEven_2]
        simp only [e_X1_isEven_3, e_X1_isEven_4, e_X1_isEven_7, e_X1_isEven_10, e_X1_isEven_11, e_X1_isEven_14, e_X1_isEven_15, e_X1_isEven_16, e_X1_isEven_19, e_X1_isEven_20, e_X1_isEven_23, e_X1_isEven_24, e_X1_isEven_25, e_X1_isEven_28, e_X1_isEven_29, e_X1_isEven_32, e_X1_isEven_35, e_X1_isEven_36, e_X1_isEven_37, e_X1_isEven_40, e_X1_isEven_43, e_X1_isEven_44, Option.bind_some, Option.bind_none, Option.toList_some, Option.toList_none, List.cons_append, List.nil_append, I_z, I_i8, I_q8, I_i7, I_q7, I_i6, I_q6, I_i5, I_q5, I_i4, I_q4, I_i3, I_q3, I_i2, I_q2, I_i1, I_q1, I_w8, I_w7, I_w6, I_w5, I_w4, I_w3, I_w2, I_c2n, I_c2i, I_c2q, eq_self, or_true, true_or, and_true, true_and, if_true, if_false, not_false_eq_true, not_true_eq_false, Option.map_none, Option.map_some, reduceCtorEq, gT_2, gT_0, ht, h1, lTr, h12, hp, isR, isT, hr, k_length hr, k_wide ht hh hw0, hl2, nI_1, ih1]
      · have hl2 : ¬ nI (S.2.1 2 r) = nI (wid S t) := fun q => hl ((nI_eq (by omega) (by omega)).mp q)
        rw [b01_n hi1 (fun q => q ((badL_s hp).mpr hl))]
        rw [e_X1_isEven_2]
        simp only [e_X1_isEven_3, e_X1_isEven_4, e_X1_isEven_7, e_X1_isEven_10, e_X1_isEven_11, e_X1_isEven_14, e_X1_isEven_15, e_X1_isEven_16, e_X1_isEven_19, e_X1_isEven_20, e_X1_isEven_23, e_X1_isEven_24, e_X1_isEven_25, e_X1_isEven_28, e_X1_isEven_29, e_X1_isEven_32, e_X1_isEven_35, e_X1_isEven_36, e_X1_isEven_37, e_X1_isEven_40, e_X1_isEven_43, e_X1_isEven_44, Option.bind_some, Option.bind_none, Option.toList_some, Option.toList_none, List.cons_append, List.nil_append, I_z, I_i8, I_q8, I_i7, I_q7, I_i6, I_q6, I_i5, I_q5, I_i4, I_q4, I_i3, I_q3, I_i2, I_q2, I_i1, I_q1, I_w8, I_w7, I_w6, I_w5, I_w4, I_w3, I_w2, I_c2n, I_c2i, I_c2q, eq_self, or_true, true_or, and_true, true_and, if_true, if_false, not_false_eq_true, not_true_eq_false, Option.map_none, Option.map_some, reduceCtorEq, gT_2, gT_0, ht, h1, lTr, h12, hp, isR, isT, hr, k_length hr, k_wide ht hh hw0, hl2]
/-- the table is even -/
def evn (S : St) (t : Nat) : Prop := ∀ k, 0 ≤ k → k < S.2.1 1 t → ¬ badL S t (wid S t) k
theorem k_even (hS : WB S) (ht : t < 16) : ev X (d + 2) m_X1_isEven 0 [some (va_rf (some (aT X t))), none] [] (rp X S) = some (some (.int (b01 (evn S t))), rp X S) := by
  have h := k_even_loop (X := X) (d := d) hS ht (S.2.1 1 t) 0 (by omega)
  rw [nI_0] at h
  simp only [e_X1_isEven_0, e_X1_isEven_1, Option.bind_some, Option.bind_none, Option.toList_some, Option.toList_none, List.cons_append, List.nil_append, I_z, I_i8, I_q8, I_i7, I_q7, I_i6, I_q6, I_i5, I_q5, I_i4, I_q4, I_i3, I_q3, I_i2, I_q2, I_i1, I_q1, I_w8, I_w7, I_w6, I_w5, I_w4, I_w3, I_w2, I_c2n, I_c2i, I_c2q, eq_self, or_true, true_or, and_true, true_and, if_true, if_false, not_false_eq_true, not_true_eq_false, Option.map_none, Option.map_some, reduceCtorEq, h]
  rfl
/-- fallen places among the m from i on, added to s -/
def fallA (S : St) (t : Nat) : Nat → Nat → Int32 → Int32
  | 0, _, s => s
  | m + 1, i, s => fallA S t m (i + 1) (match S.2.2.1 t i with
    | none => s + 1
    | some _ => s)
theorem k_fallen_loop (hS : WB S) (ht : t < 16) : ∀ m i s, i + m = S.2.1 1 t → ev X d m_X1_fallenPlaces 4 [some (va_rf (some (aT X t))), some (.int s), some (.int (nI i))] [] (rp X S) = some (some (.int (fallA S t m i s)), rp X S) := by
  have hh := hS.2.1 t ht
  intro m
  induction m with
  | zero =>
    intro i s hi
    have h1 : nI (S.2.1 1 t) ≤ nI i := nI_le (by omega) (by omega)
    simp only [e_X1_fallenPlaces_0, e_X1_fallenPlaces_1, e_X1_fallenPlaces_2, e_X1_fallenPlaces_3, e_X1_fallenPlaces_4, e_X1_fallenPlaces_5, e_X1_fallenPlaces_6, e_X1_fallenPlaces_9, e_X1_fallenPlaces_12, e_X1_fallenPlaces_13, e_X1_fallenPlaces_16, e_X1_fallenPlaces_17, e_X1_fallenPlaces_18, e_X1_fallenPlaces_21, e_X1_fallenPlaces_24, e_X1_fallenPlaces_27, e_X1_fallenPlaces_30, e_X1_fallenPlaces_31, Option.bind_some, Option.bind_none, Option.toList_some, Option.toList_none, List.cons_append, List.nil_append, I_z, I_i8, I_q8, I_i7, I_q7, I_i6, I_q6, I_i5, I_q5, I_i4, I_q4, I_i3, I_q3, I_i2, I_q2, I_i1, I_q1, I_w8, I_w7, I_w6, I_w5, I_w4, I_w3, I_w2, I_c2n, I_c2i, I_c2q, eq_self, or_true, true_or, and_true, true_and, if_true, if_false, not_false_eq_true, not_true_eq_false, Option.map_none, Option.map_some, reduceCtorEq, gT_2, ht, h1, fallA]
  | succ m ih =>
    intro i s hi
    have h1 : ¬ nI (S.2.1 1 t) ≤ nI i := nI_ge (by omega) (by omega)
    have h12 : i < 12 := by omega
    cases hp : S.2.2.1 t i with
    | none =>
      have ih1 := ih (i + 1) (s + 1) (by omega)
      rw [e_X1_fallenPlaces_4]
      simp only [e_X1_fallenPlaces_5, e_X1_fallenPlaces_6, e_X1_fallenPlaces_9, e_X1_fallenPlaces_12, e_X1_fallenPlaces_13, e_X1_fallenPlaces_16, e_X1_fallenPlaces_17, e_X1_fallenPlaces_18, e_X1_fallenPlaces_21, e_X1_fallenPlaces_24, e_X1_fallenPlaces_27, e_X1_fallenPlaces_30, e_X1_fallenPlaces_31, Option.bind_some, Option.bind_none, Option.toList_some, Option.toList_none, List.cons_append, List.nil_append, I_z, I_i8, I_q8, I_i7, I_q7, I_i6, I_q6, I_i5, I_q5, I_i4, I_q4, I_i3, I_q3, I_i2, I_q2, I_i1, I_q1, I_w8, I_w7, I_w6, I_w5, I_w4, I_w3, I_w2, I_c2n, I_c2i, I_c2q, eq_self, or_true, true_or, and_true, true_and, if_true, if_false, not_false_eq_true, not_true_eq_false, Option.map_none, Option.map_some, reduceCtorEq, gT_2, gT_0, ht, h1, lTr, h12, hp, fallA, nI_1, ih1]
    | some r =>
      have ih1 := ih (i + 1) s (by omega)
      rw [e_X1_fallenPlaces_4]
      simp only [e_X1_fallenPlaces_5, e_X1_fallenPlaces_6, e_X1_fallenPlaces_9, e_X1_fallenPlaces_12, e_X1_fallenPlaces_13, e_X1_fallenPlaces_16, e_X1_fallenPlaces_17, e_X1_fallenPlaces_18, e_X1_fallenPlaces_21, e_X1_fallenPlaces_24, e_X1_fallenPlaces_27, e_X1_fallenPlaces_30, e_X1_fallenPlaces_31, Option.bind_some, Option.bind_none, Option.toList_some, Option.toList_none, List.cons_append, List.nil_append, I_z, I_i8, I_q8, I_i7, I_q7, I_i6, I_q6, I_i5, I_q5, I_i4, I_q4, I_i3, I_q3, I_i2, I_q2, I_i1, I_q1, I_w8, I_w7, I_w6, I_w5, I_w4, I_w3, I_w2, I_c2n, I_c2i, I_c2q, eq_self, or_true, true_or, and_true, true_and, if_true, if_false, not_false_eq_true, not_true_eq_false, Option.map_none, Option.map_some, reduceCtorEq, gT_2, gT_0, ht, h1, lTr, h12, hp, fallA, nI_1, ih1]
theorem k_fallen (hS : WB S) (ht : t < 16) : ev X d m_X1_fallenPlaces 0 [some (va_rf (some (aT X t))), none, none] [] (rp X S) = some (some (.int (fallA S t (S.2.1 1 t) 0 0)), rp X S) := by
  have h := k_fallen_loop (X := X) (d := d) hS ht (S.2.1 1 t) 0 0 (by omega)
  rw [nI_0] at h
  simp only [e_X1_fallenPlaces_0, e_X1_fallenPlaces_1, e_X1_fallenPlaces_2, e_X1_fallenPlaces_3, Option.bind_some, Option.bind_none, Option.toList_some, Option.toList_none, List.cons_append, List.nil_append, I_z, I_i8, I_q8, I_i7, I_q7, I_i6, I_q6, I_i5, I_q5, I_i4, I_q4, I_i3, I_q3, I_i2, I_q2, I_i1, I_q1, I_w8, I_w7, I_w6, I_w5, I_w4, I_w3, I_w2, I_c2n, I_c2i, I_c2q, eq_self, or_true, true_or, and_true, true_and, if_true, if_false, not_false_eq_true, not_true_eq_false, Option.map_none, Option.map_some, reduceCtorEq, h]
/-- the marking of rows: the numbers of rows' marks behind it, and how many were new -/
def markA (S : St) (t : Nat) (c : Int32) : Nat → Nat → (Nat → Int32) → Int32 → (Nat → Int32) × Int32
  | 0, _, f, s => (f, s)
  | m + 1, i, f, s => match S.2.2.1 t i with
    | none => markA S t c m (i + 1) f s
    | some r => if f r = c then markA S t c m (i + 1) f s else markA S t c m (i + 1) (upd f r c) (s + 1)
theorem sI_6 {f : Nat → Int32} : (sI S 6 f).1 6 = f := by rw [sI_1, up_eq]
theorem k_marks_loop (hS : WB S) (ht : t < 16) : ∀ m i (f : Nat → Int32) s, i + m = S.2.1 1 t → ev X d m_X1_rowsNotYetCounted 4 [some (va_rf (some (aT X t))), some (.int a), some (.int s), some (.int (nI i))] [] (rp X (sI S 6 f)) = some (some (.int (markA S t a m i f s).2), rp X (sI S 6 (markA S t a m i f s).1)) := by
  have hh := hS.2.1 t ht
  intro m
  induction m with
  | zero =>
    intro i f s hi
    have h1 : nI (S.2.1 1 t) ≤ nI i := nI_le (by omega) (by omega)
    simp only [e_X1_rowsNotYetCounted_0, e_X1_rowsNotYetCounted_1, e_X1_rowsNotYetCounted_2, e_X1_rowsNotYetCounted_3, e_X1_rowsNotYetCounted_4, e_X1_rowsNotYetCounted_5, e_X1_rowsNotYetCounted_6, e_X1_rowsNotYetCounted_9, e_X1_rowsNotYetCounted_12, e_X1_rowsNotYetCounted_13, e_X1_rowsNotYetCounted_16, e_X1_rowsNotYetCounted_17, e_X1_rowsNotYetCounted_18, e_X1_rowsNotYetCounted_21, e_X1_rowsNotYetCounted_22, e_X1_rowsNotYetCounted_25, e_X1_rowsNotYetCounted_26, e_X1_rowsNotYetCounted_27, e_X1_rowsNotYetCounted_30, e_X1_rowsNotYetCounted_31, e_X1_rowsNotYetCounted_34, e_X1_rowsNotYetCounted_35, e_X1_rowsNotYetCounted_38, e_X1_rowsNotYetCounted_39, e_X1_rowsNotYetCounted_40, e_X1_rowsNotYetCounted_41, e_X1_rowsNotYetCounted_44, e_X1_rowsNotYetCounted_47, e_X1_rowsNotYetCounted_50, e_X1_rowsNotYetCounted_53, e_X1_rowsNotYetCounted_54, Option.bind_some, Option.bind_none, Option.toList_some, Option.toList_none, List.cons_append, List.nil_append, I_z, I_i8, I_q8, I_i7, I_q7, I_i6, I_q6, I_i5, I_q5, I_i4, I_q4, I_i3, I_q3, I_i2, I_q2, I_i1, I_q1, I_w8, I_w7, I_w6, I_w5, I_w4, I_w3, I_w2, I_c2n, I_c2i, I_c2q, eq_self, or_true, true_or, and_true, true_and, if_true, if_false, not_false_eq_true, not_true_eq_false, Option.map_none, Option.map_some, reduceCtorEq, gT_2, ht, sI_2, h1, markA]
  | succ m ih =>
    intro i f s hi
    have h1 : ¬ nI (S.2.1 1 t) ≤ nI i := nI_ge (by omega) (by omega)
    have h12 : i < 12 := by omega
    cases hp : S.2.2.1 t i with
    | none =>
      have ih1 := ih (i + 1) f s (by omega)
      rw [e_X1_rowsNotYetCounted_4]
      simp only [e_X1_rowsNotYetCounted_5, e_X1_rowsNotYetCounted_6, e_X1_rowsNotYetCounted_9, e_X1_rowsNotYetCounted_12, e_X1_rowsNotYetCounted_13, e_X1_rowsNotYetCounted_16, e_X1_rowsNotYetCounted_17, e_X1_rowsNotYetCounted_18, e_X1_rowsNotYetCounted_21, e_X1_rowsNotYetCounted_22, e_X1_rowsNotYetCounted_25, e_X1_rowsNotYetCounted_26, e_X1_rowsNotYetCounted_27, e_X1_rowsNotYetCounted_30, e_X1_rowsNotYetCounted_31, e_X1_rowsNotYetCounted_34, e_X1_rowsNotYetCounted_35, e_X1_rowsNotYetCounted_38, e_X1_rowsNotYetCounted_39, e_X1_rowsNotYetCounted_40, e_X1_rowsNotYetCounted_41, e_X1_rowsNotYetCounted_44, e_X1_rowsNotYetCounted_47, e_X1_rowsNotYetCounted_50, e_X1_rowsNotYetCounted_53, e_X1_rowsNotYetCounted_54, Option.bind_some, Option.bind_none, Option.toList_some, Option.toList_none, List.cons_append, List.nil_append, I_z, I_i8, I_q8, I_i7, I_q7, I_i6, I_q6, I_i5, I_q5, I_i4, I_q4, I_i3, I_q3, I_i2, I_q2, I_i1, I_q1, I_w8, I_w7, I_w6, I_w5, I_w4, I_w3, I_w2, I_c2n, I_c2i, I_c2q, eq_self, or_true, true_or, and_true, true_and, if_true, if_false, not_false_eq_true, not_true_eq_false, Option.map_none, Option.map_some, reduceCtorEq, gT_2, gT_0, ht, sI_2, h1, lTr, h12, hp, markA, nI_1, ih1]
    | some r =>
      have hr := hS.2.2.1 t i r ht hp
      by_cases hc : f r = a
      · have ih1 := ih (i + 1) f s (by omega)
        rw [e_X1_rowsNotYetCounted_4]
        simp only [e_X1_rowsNotYetCounted_5, e_X1_rowsNotYetCounted_6, e_X1_rowsNotYetCounted_9, e_X1_rowsNotYetCounted_12, e_X1_rowsNotYetCounted_13, e_X1_rowsNotYetCounted_16, e_X1_rowsNotYetCounted_17, e_X1_rowsNotYetCounted_18, e_X1_rowsNotYetCounted_21, e_X1_rowsNotYetCounted_22, e_X1_rowsNotYetCounted_25, e_X1_rowsNotYetCounted_26, e_X1_rowsNotYetCounted_27, e_X1_rowsNotYetCounted_30, e_X1_rowsNotYetCounted_31, e_X1_rowsNotYetCounted_34, e_X1_rowsNotYetCounted_35, e_X1_rowsNotYetCounted_38, e_X1_rowsNotYetCounted_39, e_X1_rowsNotYetCounted_40, e_X1_rowsNotYetCounted_41, e_X1_rowsNotYetCounted_44, e_X1_rowsNotYetCounted_47, e_X1_rowsNotYetCounted_50, e_X1_rowsNotYetCounted_53, e_X1_rowsNotYetCounted_54, Option.bind_some, Option.bind_none, Option.toList_some, Option.toList_none, List.cons_append, List.nil_append, I_z, I_i8, I_q8, I_i7, I_q7, I_i6, I_q6, I_i5, I_q5, I_i4, I_q4, I_i3, I_q3, I_i2, I_q2, I_i1, I_q1, I_w8, I_w7, I_w6, I_w5, I_w4, I_w3, I_w2, I_c2n, I_c2i, I_c2q, eq_self, or_true, true_or, and_true, true_and, if_true, if_false, not_false_eq_true, not_true_eq_false, Option.map_none, Option.map_some, reduceCtorEq, gT_2, gT_0, gR_3, hr, ht, sI_2, sI_6, h1, lTr, h12, hp, hc, markA, nI_1, ih1]
      · have ih1 := ih (i + 1) (upd f r a) (s + 1) (by omega)
        rw [e_X1_rowsNotYetCounted_4]
        simp only [e_X1_rowsNotYetCounted_5, e_X1_rowsNotYetCounted_6, e_X1_rowsNotYetCounted_9, e_X1_rowsNotYetCounted_12, e_X1_rowsNotYetCounted_13, e_X1_rowsNotYetCounted_16, e_X1_rowsNotYetCounted_17, e_X1_rowsNotYetCounted_18, e_X1_rowsNotYetCounted_21, e_X1_rowsNotYetCounted_22, e_X1_rowsNotYetCounted_25, e_X1_rowsNotYetCounted_26, e_X1_rowsNotYetCounted_27, e_X1_rowsNotYetCounted_30, e_X1_rowsNotYetCounted_31, e_X1_rowsNotYetCounted_34, e_X1_rowsNotYetCounted_35, e_X1_rowsNotYetCounted_38, e_X1_rowsNotYetCounted_39, e_X1_rowsNotYetCounted_40, e_X1_rowsNotYetCounted_41, e_X1_rowsNotYetCounted_44, e_X1_rowsNotYetCounted_47, e_X1_rowsNotYetCounted_50, e_X1_rowsNotYetCounted_53, e_X1_rowsNotYetCounted_54, Option.bind_some, Option.bind_none, Option.toList_some, Option.toList_none, List.cons_append, List.nil_append, I_z, I_i8, I_q8, I_i7, I_q7, I_i6, I_q6, I_i5, I_q5, I_i4, I_q4, I_i3, I_q3, I_i2, I_q2, I_i1, I_q1, I_w8, I_w7, I_w6, I_w5, I_w4, I_w3, I_w2, I_c2n, I_c2i, I_c2q, eq_self, or_true, true_or, and_true, true_and, if_true, if_false, not_false_eq_true, not_true_eq_false, Option.map_none, Option.map_some, reduceCtorEq, gT_2, gT_0, gR_3, pR_3, hr, ht, sI_2, sI_6, sI_sI, h1, lTr, h12, hp, hc, markA, nI_1, ih1]
theorem k_marks (hS : WB S) (ht : t < 16) {f : Nat → Int32} : ev X d m_X1_rowsNotYetCounted 0 [some (va_rf (some (aT X t))), some (.int a), none, none] [] (rp X (sI S 6 f)) = some (some (.int (markA S t a (S.2.1 1 t) 0 f 0).2), rp X (sI S 6 (markA S t a (S.2.1 1 t) 0 f 0).1)) := by
  have h := k_marks_loop (X := X) (d := d) (a := a) hS ht (S.2.1 1 t) 0 f 0 (by omega)
  rw [nI_0] at h
  simp only [e_X1_rowsNotYetCounted_0, e_X1_rowsNotYetCounted_1, e_X1_rowsNotYetCounted_2, e_X1_rowsNotYetCounted_3, Option.bind_some, Option.bind_none, Option.toList_some, Option.toList_none, List.cons_append, List.nil_append, I_z, I_i8, I_q8, I_i7, I_q7, I_i6, I_q6, I_i5, I_q5, I_i4, I_q4, I_i3, I_q3, I_i2, I_q2, I_i1, I_q1, I_w8, I_w7, I_w6, I_w5, I_w4, I_w3, I_w2, I_c2n, I_c2i, I_c2q, eq_self, or_true, true_or, and_true, true_and, if_true, if_false, not_false_eq_true, not_true_eq_false, Option.map_none, Option.map_some, reduceCtorEq, h]
/-- place i of two tables: both fallen, or rows with the same cells -/
def agr (S : St) (t t2 i : Nat) : Prop := match S.2.2.1 t i, S.2.2.1 t2 i with
  | some r, some r2 => sameR S r r2
  | none, none => True
  | _, _ => False
theorem k_agr_loop (hS : WB S) (ht : t < 16) (ht2 : t2 < 16) (hk : ∀ i r r2, i < S.2.1 1 t → S.2.2.1 t i = some r → S.2.2.1 t2 i = some r2 → S.1 5 r = S.1 5 r2) : ∀ m i l3 l4 l5, i + m = S.2.1 1 t → I_c2 l3 = false → I_c2 l4 = false → ev X (d + 3) m_X1_agreesWith 26 [some (va_rf (some (aT X t))), some (va_rf (some (aT X t2))), some (.int (nI i)), l3, l4, l5] [] (rp X S) = some (some (.int (b01 (∀ k, i ≤ k → k < S.2.1 1 t → agr S t t2 k))), rp X S) := by
  have hh := hS.2.1 t ht
  have e10 : ¬ (1 : Int32) = 0 := by decide
  intro m
  induction m with
  | zero =>
    intro i l3 l4 l5 hi _ _
    have h1 : nI (S.2.1 1 t) ≤ nI i := nI_le (by omega) (by omega)
    rw [b01_t (show ∀ k, i ≤ k → k < S.2.1 1 t → agr S t t2 k from fun k a b => by omega)]
    simp only [e_X1_agreesWith_0, e_X1_agreesWith_1, e_X1_agreesWith_4, e_X1_agreesWith_5, e_X1_agreesWith_8, e_X1_agreesWith_11, e_X1_agreesWith_12, e_X1_agreesWith_15, e_X1_agreesWith_16, e_X1_agreesWith_19, e_X1_agreesWith_22, e_X1_agreesWith_23, e_X1_agreesWith_24, e_X1_agreesWith_25, e_X1_agreesWith_26, e_X1_agreesWith_27, e_X1_agreesWith_28, e_X1_agreesWith_31, e_X1_agreesWith_34, e_X1_agreesWith_35, e_X1_agreesWith_38, e_X1_agreesWith_39, e_X1_agreesWith_40, e_X1_agreesWith_41, e_X1_agreesWith_42, e_X1_agreesWith_45, e_X1_agreesWith_46, e_X1_agreesWith_47, e_X1_agreesWith_49, e_X1_agreesWith_50, e_X1_agreesWith_53, e_X1_agreesWith_55, e_X1_agreesWith_58, e_X1_agreesWith_59, e_X1_agreesWith_61, e_X1_agreesWith_64, e_X1_agreesWith_65, e_X1_agreesWith_68, e_X1_agreesWith_69, e_X1_agreesWith_72, e_X1_agreesWith_73, e_X1_agreesWith_75, e_X1_agreesWith_78, e_X1_agreesWith_80, e_X1_agreesWith_82, e_X1_agreesWith_85, e_X1_agreesWith_86, e_X1_agreesWith_87, e_X1_agreesWith_90, e_X1_agreesWith_93, e_X1_agreesWith_94, Option.bind_some, Option.bind_none, Option.toList_some, Option.toList_none, List.cons_append, List.nil_append, I_z, I_i8, I_q8, I_i7, I_q7, I_i6, I_q6, I_i5, I_q5, I_i4, I_q4, I_i3, I_q3, I_i2, I_q2, I_i1, I_q1, I_w8, I_w7, I_w6, I_w5, I_w4, I_w3, I_w2, I_c2n, I_c2i, I_c2q, eq_self, or_true, true_or, and_true, true_and, if_true, if_false, not_false_eq_true, not_true_eq_false, Option.map_none, Option.map_some, reduceCtorEq, gT_2, ht, h1]
  | succ m ih =>
    intro i l3 l4 l5 hi h3 h4
    have h1 : ¬ nI (S.2.1 1 t) ≤ nI i := nI_ge (by omega) (by omega)
    have h12 : i < 12 := by omega
    have hi1 : i < S.2.1 1 t := by omega
    cases hp : S.2.2.1 t i with
    | none =>
      cases hp2 : S.2.2.1 t2 i with
      | none =>
        have ha : agr S t t2 i := by unfold agr; rw [hp, hp2]; trivial
        rw [b01_s hi1 ha]
        have ih1 := ih (i + 1) (some (va_rf none)) (some (va_rf none)) (some (.int 1)) (by omega) I_c2_q I_c2_q
        rw [e_X1_agreesWith_26]
        simp only [e_X1_agreesWith_27, e_X1_agreesWith_28, e_X1_agreesWith_31, e_X1_agreesWith_34, e_X1_agreesWith_35, e_X1_agreesWith_38, e_X1_agreesWith_39, e_X1_agreesWith_40, e_X1_agreesWith_41, e_X1_agreesWith_42, e_X1_agreesWith_45, e_X1_agreesWith_46, e_X1_agreesWith_47, e_X1_agreesWith_49, e_X1_agreesWith_50, e_X1_agreesWith_53, e_X1_agreesWith_55, e_X1_agreesWith_58, e_X1_agreesWith_59, e_X1_agreesWith_61, e_X1_agreesWith_64, e_X1_agreesWith_65, e_X1_agreesWith_68, e_X1_agreesWith_69, e_X1_agreesWith_72, e_X1_agreesWith_73, e_X1_agreesWith_75, e_X1_agreesWith_78, e_X1_agreesWith_80, e_X1_agreesWith_82, e_X1_agreesWith_85, e_X1_agreesWith_86, e_X1_agreesWith_87, e_X1_agreesWith_90, e_X1_agreesWith_93, e_X1_agreesWith_94, Option.bind_some, Option.bind_none, Option.toList_some, Option.toList_none, List.cons_append, List.nil_append, I_z, I_i8, I_q8, I_i7, I_q7, I_i6, I_q6, I_i5, I_q5, I_i4, I_q4, I_i3, I_q3, I_i2, I_q2, I_i1, I_q1, I_w8, I_w7, I_w6, I_w5, I_w4, I_w3, I_w2, I_c2n, I_c2i, I_c2q, eq_self, or_true, true_or, and_true, true_and, if_true, if_false, not_false_eq_true, not_true_eq_false, Option.map_none, Option.map_some, reduceCtorEq, gT_2, gT_0, ht, ht2, h1, h3, h4, lTr, h12, hp, hp2, e10, nI_1, ih1]
      | some r2 =>
        have ha : ¬ agr S t t2 i := by unfold agr; rw [hp, hp2]; exact fun q => q
        rw [b01_n hi1 ha]
        rw [e_X1_agreesWith_26]
        simp only [e_X1_agreesWith_27, e_X1_agreesWith_28, e_X1_agreesWith_31, e_X1_agreesWith_34, e_X1_agreesWith_35, e_X1_agreesWith_38, e_X1_agreesWith_39, e_X1_agreesWith_40, e_X1_agreesWith_41, e_X1_agreesWith_42, e_X1_agreesWith_45, e_X1_agreesWith_46, e_X1_agreesWith_47, e_X1_agreesWith_49, e_X1_agreesWith_50, e_X1_agreesWith_53, e_X1_agreesWith_55, e_X1_agreesWith_58, e_X1_agreesWith_59, e_X1_agreesWith_61, e_X1_agreesWith_64, e_X1_agreesWith_65, e_X1_agreesWith_68, e_X1_agreesWith_69, e_X1_agreesWith_72, e_X1_agreesWith_73, e_X1_agreesWith_75, e_X1_agreesWith_78, e_X1_agreesWith_80, e_X1_agreesWith_82, e_X1_agreesWith_85, e_X1_agreesWith_86, e_X1_agreesWith_87, e_X1_agreesWith_90, e_X1_agreesWith_93, e_X1_agreesWith_94, Option.bind_some, Option.bind_none, Option.toList_some, Option.toList_none, List.cons_append, List.nil_append, I_z, I_i8, I_q8, I_i7, I_q7, I_i6, I_q6, I_i5, I_q5, I_i4, I_q4, I_i3, I_q3, I_i2, I_q2, I_i1, I_q1, I_w8, I_w7, I_w6, I_w5, I_w4, I_w3, I_w2, I_c2n, I_c2i, I_c2q, eq_self, or_true, true_or, and_true, true_and, if_true, if_false, not_false_eq_true, not_true_eq_false, Option.map_none, Option.map_some, reduceCtorEq, gT_2, gT_0, ht, ht2, h1, h3, h4, lTr, h12, hp, hp2]
    | some r =>
      have hr := hS.2.2.1 t i r ht hp
      cases hp2 : S.2.2.1 t2 i with
      | none =>
        have ha : ¬ agr S t t2 i := by unfold agr; rw [hp, hp2]; exact fun q => q
        rw [b01_n hi1 ha]
        rw [e_X1_agreesWith_26]
        simp only [e_X1_agreesWith_27, e_X1_agreesWith_28, e_X1_agreesWith_31, e_X1_agreesWith_34, e_X1_agreesWith_35, e_X1_agreesWith_38, e_X1_agreesWith_39, e_X1_agreesWith_40, e_X1_agreesWith_41, e_X1_agreesWith_42, e_X1_agreesWith_45, e_X1_agreesWith_46, e_X1_agreesWith_47, e_X1_agreesWith_49, e_X1_agreesWith_50, e_X1_agreesWith_53, e_X1_agreesWith_55, e_X1_agreesWith_58, e_X1_agreesWith_59, e_X1_agreesWith_61, e_X1_agreesWith_64, e_X1_agreesWith_65, e_X1_agreesWith_68, e_X1_agreesWith_69, e_X1_agreesWith_72, e_X1_agreesWith_73, e_X1_agreesWith_75, e_X1_agreesWith_78, e_X1_agreesWith_80, e_X1_agreesWith_82, e_X1_agreesWith_85, e_X1_agreesWith_86, e_X1_agreesWith_87, e_X1_agreesWith_90, e_X1_agreesWith_93, e_X1_agreesWith_94, Option.bind_some, Option.bind_none, Option.toList_some, Option.toList_none, List.cons_append, List.nil_append, I_z, I_i8, I_q8, I_i7, I_q7, I_i6, I_q6, I_i5, I_q5, I_i4, I_q4, I_i3, I_q3, I_i2, I_q2, I_i1, I_q1, I_w8, I_w7, I_w6, I_w5, I_w4, I_w3, I_w2, I_c2n, I_c2i, I_c2q, eq_self, or_true, true_or, and_true, true_and, if_true, if_false, not_false_eq_true, not_true_eq_false, Option.map_none, Option.map_some, reduceCtorEq, gT_2, gT_0, ht, ht2, h1, h3, h4, lTr, h12, hp, hp2]
      | some r2 =>
        have hr2 := hS.2.2.1 t2 i r2 ht2 hp2
        by_cases hs : sameR S r r2
        · have ha : agr S t t2 i := by unfold agr; rw [hp, hp2]; exact hs
          rw [b01_s hi1 ha]
          have ih1 := ih (i + 1) (some (va_rf (some (aR X r)))) (some (va_rf (some (aR X r2)))) (some (.int 1)) (by omega) I_c2_q I_c2_q
          rw [e_X1_agreesWith_26]
          simp only [e_X1_agreesWith_27, e_X1_agreesWith_28, e_X1_agreesWith_31, e_X1_agreesWith_34, e_X1_agreesWith_35, e_X1_agreesWith_38, e_X1_agreesWith_39, e_X1_agreesWith_40, e_X1_agreesWith_41, e_X1_agreesWith_42, e_X1_agreesWith_45, e_X1_agreesWith_46, e_X1_agreesWith_47, e_X1_agreesWith_49, e_X1_agreesWith_50, e_X1_agreesWith_53, e_X1_agreesWith_55, e_X1_agreesWith_58, e_X1_agreesWith_59, e_X1_agreesWith_61, e_X1_agreesWith_64, e_X1_agreesWith_65, e_X1_agreesWith_68, e_X1_agreesWith_69, e_X1_agreesWith_72, e_X1_agreesWith_73, e_X1_agreesWith_75, e_X1_agreesWith_78, e_X1_agreesWith_80, e_X1_agreesWith_82, e_X1_agreesWith_85, e_X1_agreesWith_86, e_X1_agreesWith_87, e_X1_agreesWith_90, e_X1_agreesWith_93, e_X1_agreesWith_94, Option.bind_some, Option.bind_none, Option.toList_some, Option.toList_none, List.cons_append, List.nil_append, I_z, I_i8, I_q8, I_i7, I_q7, I_i6, I_q6, I_i5, I_q5, I_i4, I_q4, I_i3, I_q3, I_i2, I_q2, I_i1, I_q1, I_w8, I_w7, I_w6, I_w5, I_w4, I_w3, I_w2, I_c2n, I_c2i, I_c2q, eq_self, or_true, true_or, and_true, true_and, if_true, if_false, not_false_eq_true, not_true_eq_false, Option.map_none, Option.map_some, reduceCtorEq, gT_2, gT_0, ht, ht2, h1, h3, h4, lTr, h12, hp, hp2, isR, hr, hr2, k_cellsOf hS hr hr2 (hk i r r2 hi1 hp hp2), b01_t hs, e10, nI_1, ih1]
        · have ha : ¬ agr S t t2 i := by unfold agr; rw [hp, hp2]; exact hs
          rw [b01_n hi1 ha]
          rw [e_X1_agreesWith_26]
          simp only [e_X1_agreesWith_27, e_X1_agreesWith_28, e_X1_agreesWith_31, e_X1_agreesWith_34, e_X1_agreesWith_35, e_X1_agreesWith_38, e_X1_agreesWith_39, e_X1_agreesWith_40, e_X1_agreesWith_41, e_X1_agreesWith_42, e_X1_agreesWith_45, e_X1_agreesWith_46, e_X1_agreesWith_47, e_X1_agreesWith_49, e_X1_agreesWith_50, e_X1_agreesWith_53, e_X1_agreesWith_55, e_X1_agreesWith_58, e_X1_agreesWith_59, e_X1_agreesWith_61, e_X1_agreesWith_64, e_X1_agreesWith_65, e_X1_agreesWith_68, e_X1_agreesWith_69, e_X1_agreesWith_72, e_X1_agreesWith_73, e_X1_agreesWith_75, e_X1_agreesWith_78, e_X1_agreesWith_80, e_X1_agreesWith_82, e_X1_agreesWith_85, e_X1_agreesWith_86, e_X1_agreesWith_87, e_X1_agreesWith_90, e_X1_agreesWith_93, e_X1_agreesWith_94, Option.bind_some, Option.bind_none, Option.toList_some, Option.toList_none, List.cons_append, List.nil_append, I_z, I_i8, I_q8, I_i7, I_q7, I_i6, I_q6, I_i5, I_q5, I_i4, I_q4, I_i3, I_q3, I_i2, I_q2, I_i1, I_q1, I_w8, I_w7, I_w6, I_w5, I_w4, I_w3, I_w2, I_c2n, I_c2i, I_c2q, eq_self, or_true, true_or, and_true, true_and, if_true, if_false, not_false_eq_true, not_true_eq_false, Option.map_none, Option.map_some, reduceCtorEq, gT_2, gT_0, ht, ht2, h1, h3, h4, lTr, h12, hp, hp2, isR, hr, hr2, k_cellsOf hS hr hr2 (hk i r r2 hi1 hp hp2), b01_f hs]
/-- two tables agree -/
def agrT (S : St) (t t2 : Nat) : Prop := S.1 1 t = S.1 1 t2 ∧ S.2.1 1 t = S.2.1 1 t2 ∧ ∀ k, 0 ≤ k → k < S.2.1 1 t → agr S t t2 k
theorem k_agr (hS : WB S) (ht : t < 16) (ht2 : t2 < 16) (hk : S.1 1 t = S.1 1 t2 → S.2.1 1 t = S.2.1 1 t2 → ∀ i r r2, i < S.2.1 1 t → S.2.2.1 t i = some r → S.2.2.1 t2 i = some r2 → S.1 5 r = S.1 5 r2) : ev X (d + 3) m_X1_agreesWith 0 [some (va_rf (some (aT X t))), some (va_rf (some (aT X t2))), none, none, none, none] [] (rp X S) = some (some (.int (b01 (agrT S t t2))), rp X S) := by
  have hh := hS.2.1 t ht
  have hh2 := hS.2.1 t2 ht2
  by_cases c1 : S.1 1 t = S.1 1 t2
  · by_cases c2 : S.2.1 1 t = S.2.1 1 t2
    · have h := k_agr_loop (X := X) (d := d) hS ht ht2 (hk c1 c2) (S.2.1 1 t) 0 none none none (by omega) I_c2_n I_c2_n
      rw [nI_0] at h
      have c3 : nI (S.2.1 1 t) = nI (S.2.1 1 t2) := by rw [c2]
      rw [b01_c (show agrT S t t2 ↔ ∀ k, 0 ≤ k → k < S.2.1 1 t → agr S t t2 k from ⟨fun q => q.2.2, fun q => ⟨c1, c2, q⟩⟩)]
      simp only [e_X1_agreesWith_0, e_X1_agreesWith_1, e_X1_agreesWith_4, e_X1_agreesWith_5, e_X1_agreesWith_8, e_X1_agreesWith_11, e_X1_agreesWith_12, e_X1_agreesWith_15, e_X1_agreesWith_16, e_X1_agreesWith_19, e_X1_agreesWith_22, e_X1_agreesWith_23, e_X1_agreesWith_24, e_X1_agreesWith_25, Option.bind_some, Option.bind_none, Option.toList_some, Option.toList_none, List.cons_append, List.nil_append, I_z, I_i8, I_q8, I_i7, I_q7, I_i6, I_q6, I_i5, I_q5, I_i4, I_q4, I_i3, I_q3, I_i2, I_q2, I_i1, I_q1, I_w8, I_w7, I_w6, I_w5, I_w4, I_w3, I_w2, I_c2n, I_c2i, I_c2q, eq_self, or_true, true_or, and_true, true_and, if_true, if_false, not_false_eq_true, not_true_eq_false, Option.map_none, Option.map_some, reduceCtorEq, gT_1, gT_2, ht, ht2, c1, c3, h]
    · have c3 : ¬ nI (S.2.1 1 t) = nI (S.2.1 1 t2) := fun q => c2 ((nI_eq (by omega) (by omega)).mp q)
      rw [b01_f (show ¬ agrT S t t2 from fun q => c2 q.2.1)]
      simp only [e_X1_agreesWith_0, e_X1_agreesWith_1, e_X1_agreesWith_4, e_X1_agreesWith_5, e_X1_agreesWith_8, e_X1_agreesWith_11, e_X1_agreesWith_12, e_X1_agreesWith_15, e_X1_agreesWith_16, e_X1_agreesWith_19, e_X1_agreesWith_22, e_X1_agreesWith_23, e_X1_agreesWith_24, e_X1_agreesWith_25, Option.bind_some, Option.bind_none, Option.toList_some, Option.toList_none, List.cons_append, List.nil_append, I_z, I_i8, I_q8, I_i7, I_q7, I_i6, I_q6, I_i5, I_q5, I_i4, I_q4, I_i3, I_q3, I_i2, I_q2, I_i1, I_q1, I_w8, I_w7, I_w6, I_w5, I_w4, I_w3, I_w2, I_c2n, I_c2i, I_c2q, eq_self, or_true, true_or, and_true, true_and, if_true, if_false, not_false_eq_true, not_true_eq_false, Option.map_none, Option.map_some, reduceCtorEq, gT_1, gT_2, ht, ht2, c1, c3]
  · rw [b01_f (show ¬ agrT S t t2 from fun q => c1 q.1)]
    simp only [e_X1_agreesWith_0, e_X1_agreesWith_1, e_X1_agreesWith_4, e_X1_agreesWith_5, e_X1_agreesWith_8, e_X1_agreesWith_11, e_X1_agreesWith_12, e_X1_agreesWith_15, e_X1_agreesWith_16, e_X1_agreesWith_19, e_X1_agreesWith_22, e_X1_agreesWith_23, e_X1_agreesWith_24, e_X1_agreesWith_25, Option.bind_some, Option.bind_none, Option.toList_some, Option.toList_none, List.cons_append, List.nil_append, I_z, I_i8, I_q8, I_i7, I_q7, I_i6, I_q6, I_i5, I_q5, I_i4, I_q4, I_i3, I_q3, I_i2, I_q2, I_i1, I_q1, I_w8, I_w7, I_w6, I_w5, I_w4, I_w3, I_w2, I_c2n, I_c2i, I_c2q, eq_self, or_true, true_or, and_true, true_and, if_true, if_false, not_false_eq_true, not_true_eq_false, Option.map_none, Option.map_some, reduceCtorEq, gT_1, gT_2, ht, ht2, c1]
/-- all places fallen -/
def noRows (S : St) (t i : Nat) : Nat → Option Nat := fun j => if j < i then none else S.2.2.1 t j
theorem noRows_0 : noRows S t 0 = S.2.2.1 t := by funext j; unfold noRows; rw [if_neg (by omega)]
theorem noRows_s : va_up (noRows S t i) i none = noRows S t (i + 1) := by
  funext j
  unfold va_up noRows
  by_cases h : j = i
  · rw [if_pos h, if_pos (by omega)]
  · rw [if_neg h]
    by_cases h2 : j < i
    · rw [if_pos h2, if_pos (by omega)]
    · rw [if_neg h2, if_neg (by omega)]
theorem sP_t {f : Nat → Option Nat} : (sP S t f).2.2.1 t = f := by rw [sP_3, up_eq]
theorem k_begin_loop (ht : t < 16) : ∀ m i, i + m = 12 → ev X d m_X1_begin 12 [some (va_rf (some (aT X t))), some (.int a), some (.int b), some (.int (nI i))] [] (rp X (sP S t (noRows S t i))) = some (none, rp X (sP S t (noRows S t 12))) := by
  intro m
  induction m with
  | zero =>
    intro i hi
    have h1 : (12 : Int32) ≤ nI i := nI_le (a := 12) (by omega) (by omega)
    have e : i = 12 := by omega
    subst e
    simp only [e_X1_begin_0, e_X1_begin_1, e_X1_begin_2, e_X1_begin_5, e_X1_begin_6, e_X1_begin_7, e_X1_begin_10, e_X1_begin_11, e_X1_begin_12, e_X1_begin_13, e_X1_begin_14, e_X1_begin_17, e_X1_begin_18, e_X1_begin_21, e_X1_begin_22, e_X1_begin_25, e_X1_begin_26, e_X1_begin_27, e_X1_begin_28, e_X1_begin_31, e_X1_begin_34, Option.bind_some, Option.bind_none, Option.toList_some, Option.toList_none, List.cons_append, List.nil_append, I_z, I_i8, I_q8, I_i7, I_q7, I_i6, I_q6, I_i5, I_q5, I_i4, I_q4, I_i3, I_q3, I_i2, I_q2, I_i1, I_q1, I_w8, I_w7, I_w6, I_w5, I_w4, I_w3, I_w2, I_c2n, I_c2i, I_c2q, eq_self, or_true, true_or, and_true, true_and, if_true, if_false, not_false_eq_true, not_true_eq_false, Option.map_none, Option.map_some, reduceCtorEq, gT_0, ht, nTr, h1]
  | succ m ih =>
    intro i hi
    have h1 : ¬ (12 : Int32) ≤ nI i := nI_ge (b := 12) (by omega) (by omega)
    have h12 : i < 12 := by omega
    have ih1 := ih (i + 1) (by omega)
    rw [e_X1_begin_12]
    simp only [e_X1_begin_13, e_X1_begin_14, e_X1_begin_17, e_X1_begin_18, e_X1_begin_21, e_X1_begin_22, e_X1_begin_25, e_X1_begin_26, e_X1_begin_27, e_X1_begin_28, e_X1_begin_31, e_X1_begin_34, Option.bind_some, Option.bind_none, Option.toList_some, Option.toList_none, List.cons_append, List.nil_append, I_z, I_i8, I_q8, I_i7, I_q7, I_i6, I_q6, I_i5, I_q5, I_i4, I_q4, I_i3, I_q3, I_i2, I_q2, I_i1, I_q1, I_w8, I_w7, I_w6, I_w5, I_w4, I_w3, I_w2, I_c2n, I_c2i, I_c2q, eq_self, or_true, true_or, and_true, true_and, if_true, if_false, not_false_eq_true, not_true_eq_false, Option.map_none, Option.map_some, reduceCtorEq, gT_0, ht, nTr, h1, uTr0, h12, sP_t, noRows_s, sP_sP, nI_1, ih1]
/-- table t begun anew -/
def sBegin (S : St) (t : Nat) (k : Int32) (n : Nat) : St := sP (sN (sI S 1 (upd (S.1 1) t k)) 1 (va_up (S.2.1 1) t n)) t (noRows S t 12)
theorem k_begin (ht : t < 16) : ev X d m_X1_begin 0 [some (va_rf (some (aT X t))), some (.int a), some (.int (nI n)), none] [] (rp X S) = some (none, rp X (sBegin S t a n)) := by
  have h := k_begin_loop (X := X) (d := d) (S := sN (sI S 1 (upd (S.1 1) t a)) 1 (va_up (S.2.1 1) t n)) (a := a) (b := nI n) ht 12 0 (by omega)
  rw [nI_0, noRows_0, sP_self] at h
  simp only [e_X1_begin_0, e_X1_begin_1, e_X1_begin_2, e_X1_begin_5, e_X1_begin_6, e_X1_begin_7, e_X1_begin_10, e_X1_begin_11, Option.bind_some, Option.bind_none, Option.toList_some, Option.toList_none, List.cons_append, List.nil_append, I_z, I_i8, I_q8, I_i7, I_q7, I_i6, I_q6, I_i5, I_q5, I_i4, I_q4, I_i3, I_q3, I_i2, I_q2, I_i1, I_q1, I_w8, I_w7, I_w6, I_w5, I_w4, I_w3, I_w2, I_c2n, I_c2i, I_c2q, eq_self, or_true, true_or, and_true, true_and, if_true, if_false, not_false_eq_true, not_true_eq_false, Option.map_none, Option.map_some, reduceCtorEq, pT_1, pT_2, sI_2, ht, h]
  rfl
end TB2
