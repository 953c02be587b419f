/-! Rows and tables of the landed code: what their own methods answer. -/
section TB1
variable {X : I_X} {S : St} {d t t2 r r2 i j n : Nat} {a b v : Int32}
theorem lTr_0 (ht : t < 16) : I_aldq X (rp X S) (aTr X t) 0 = some ((S.2.2.1 t 0).map (aR X)) := lTr (i := 0) ht (by omega)
theorem k_placeCause2 (ht : t < 16) (h : unp S t a) : ev X (d + 1) m_X1_placeCause 0 [some (va_rf (some (aT X t))), some (.int a)] [] (rp X S) = some (some (.int 2), rp X S) := by
  simp only [e_X1_placeCause_0, e_X1_placeCause_1, e_X1_placeCause_2, e_X1_placeCause_5, e_X1_placeCause_8, e_X1_placeCause_9, e_X1_placeCause_10, e_X1_placeCause_11, e_X1_placeCause_14, e_X1_placeCause_15, e_X1_placeCause_16, e_X1_placeCause_19, e_X1_placeCause_20, e_X1_placeCause_23, e_X1_placeCause_24, Option.bind_some, Option.bind_none, Option.toList_some, Option.toList_none, List.cons_append, List.nil_append, I_z, I_i8, I_q8, I_i7, I_q7, I_i6, I_q6, I_i5, I_q5, I_i4, I_q4, I_i3, I_q3, I_i2, I_q2, I_i1, I_q1, I_w8, I_w7, I_w6, I_w5, I_w4, I_w3, I_w2, I_c2n, I_c2i, I_c2q, eq_self, or_true, true_or, and_true, true_and, if_true, if_false, not_false_eq_true, not_true_eq_false, Option.map_none, Option.map_some, reduceCtorEq, isT, ht, k_hasPlace0 ht h]
theorem k_placeCause1 (ht : t < 16) (hh : S.2.1 1 t ≤ 12) (h : i < S.2.1 1 t) (hp : S.2.2.1 t i = none) : ev X (d + 1) m_X1_placeCause 0 [some (va_rf (some (aT X t))), some (.int (nI i))] [] (rp X S) = some (some (.int 1), rp X S) := by
  have h12 : i < 12 := by omega
  have e10 : ¬ (1 : Int32) = 0 := by decide
  simp only [e_X1_placeCause_0, e_X1_placeCause_1, e_X1_placeCause_2, e_X1_placeCause_5, e_X1_placeCause_8, e_X1_placeCause_9, e_X1_placeCause_10, e_X1_placeCause_11, e_X1_placeCause_14, e_X1_placeCause_15, e_X1_placeCause_16, e_X1_placeCause_19, e_X1_placeCause_20, e_X1_placeCause_23, e_X1_placeCause_24, Option.bind_some, Option.bind_none, Option.toList_some, Option.toList_none, List.cons_append, List.nil_append, I_z, I_i8, I_q8, I_i7, I_q7, I_i6, I_q6, I_i5, I_q5, I_i4, I_q4, I_i3, I_q3, I_i2, I_q2, I_i1, I_q1, I_w8, I_w7, I_w6, I_w5, I_w4, I_w3, I_w2, I_c2n, I_c2i, I_c2q, eq_self, or_true, true_or, and_true, true_and, if_true, if_false, not_false_eq_true, not_true_eq_false, Option.map_none, Option.map_some, reduceCtorEq, isT, ht, k_hasPlace1 ht hh h, e10, gT_0, lTr, h12, hp]
theorem k_placeCause0 (ht : t < 16) (hh : S.2.1 1 t ≤ 12) (h : i < S.2.1 1 t) (hp : S.2.2.1 t i = some r) : ev X (d + 1) m_X1_placeCause 0 [some (va_rf (some (aT X t))), some (.int (nI i))] [] (rp X S) = some (some (.int 0), rp X S) := by
  have h12 : i < 12 := by omega
  have e10 : ¬ (1 : Int32) = 0 := by decide
  simp only [e_X1_placeCause_0, e_X1_placeCause_1, e_X1_placeCause_2, e_X1_placeCause_5, e_X1_placeCause_8, e_X1_placeCause_9, e_X1_placeCause_10, e_X1_placeCause_11, e_X1_placeCause_14, e_X1_placeCause_15, e_X1_placeCause_16, e_X1_placeCause_19, e_X1_placeCause_20, e_X1_placeCause_23, e_X1_placeCause_24, Option.bind_some, Option.bind_none, Option.toList_some, Option.toList_none, List.cons_append, List.nil_append, I_z, I_i8, I_q8, I_i7, I_q7, I_i6, I_q6, I_i5, I_q5, I_i4, I_q4, I_i3, I_q3, I_i2, I_q2, I_i1, I_q1, I_w8, I_w7, I_w6, I_w5, I_w4, I_w3, I_w2, I_c2n, I_c2i, I_c2q, eq_self, or_true, true_or, and_true, true_and, if_true, if_false, not_false_eq_true, not_true_eq_false, Option.map_none, Option.map_some, reduceCtorEq, isT, ht, k_hasPlace1 ht hh h, e10, gT_0, lTr, h12, hp]
theorem k_cellCause_p (ht : t < 16) (h : unp S t a) : ev X (d + 2) m_X1_cellCause 0 [some (va_rf (some (aT X t))), some (.int a), some (.int b), none] [] (rp X S) = some (some (.int 2), rp X S) := by
  have e10 : ¬ (2 : Int32) = 0 := by decide
  simp only [e_X1_cellCause_0, e_X1_cellCause_1, e_X1_cellCause_2, e_X1_cellCause_5, e_X1_cellCause_6, e_X1_cellCause_7, e_X1_cellCause_10, e_X1_cellCause_11, e_X1_cellCause_12, e_X1_cellCause_13, e_X1_cellCause_16, e_X1_cellCause_17, e_X1_cellCause_18, e_X1_cellCause_19, e_X1_cellCause_20, e_X1_cellCause_23, e_X1_cellCause_26, e_X1_cellCause_27, e_X1_cellCause_30, e_X1_cellCause_31, Option.bind_some, Option.bind_none, Option.toList_some, Option.toList_none, List.cons_append, List.nil_append, I_z, I_i8, I_q8, I_i7, I_q7, I_i6, I_q6, I_i5, I_q5, I_i4, I_q4, I_i3, I_q3, I_i2, I_q2, I_i1, I_q1, I_w8, I_w7, I_w6, I_w5, I_w4, I_w3, I_w2, I_c2n, I_c2i, I_c2q, eq_self, or_true, true_or, and_true, true_and, if_true, if_false, not_false_eq_true, not_true_eq_false, Option.map_none, Option.map_some, reduceCtorEq, isT, ht, k_placeCause2 ht h, e10]
theorem k_cellCause_n (ht : t < 16) (hh : S.2.1 1 t ≤ 12) (h : i < S.2.1 1 t) (hp : S.2.2.1 t i = none) : ev X (d + 2) m_X1_cellCause 0 [some (va_rf (some (aT X t))), some (.int (nI i)), some (.int b), none] [] (rp X S) = some (some (.int 1), rp X S) := by
  have e10 : ¬ (1 : Int32) = 0 := by decide
  simp only [e_X1_cellCause_0, e_X1_cellCause_1, e_X1_cellCause_2, e_X1_cellCause_5, e_X1_cellCause_6, e_X1_cellCause_7, e_X1_cellCause_10, e_X1_cellCause_11, e_X1_cellCause_12, e_X1_cellCause_13, e_X1_cellCause_16, e_X1_cellCause_17, e_X1_cellCause_18, e_X1_cellCause_19, e_X1_cellCause_20, e_X1_cellCause_23, e_X1_cellCause_26, e_X1_cellCause_27, e_X1_cellCause_30, e_X1_cellCause_31, Option.bind_some, Option.bind_none, Option.toList_some, Option.toList_none, List.cons_append, List.nil_append, I_z, I_i8, I_q8, I_i7, I_q7, I_i6, I_q6, I_i5, I_q5, I_i4, I_q4, I_i3, I_q3, I_i2, I_q2, I_i1, I_q1, I_w8, I_w7, I_w6, I_w5, I_w4, I_w3, I_w2, I_c2n, I_c2i, I_c2q, eq_self, or_true, true_or, and_true, true_and, if_true, if_false, not_false_eq_true, not_true_eq_false, Option.map_none, Option.map_some, reduceCtorEq, isT, ht, k_placeCause1 ht hh h hp, e10]
theorem k_cellCause_0 (ht : t < 16) (hh : S.2.1 1 t ≤ 12) (h : i < S.2.1 1 t) (hp : S.2.2.1 t i = some r) (hr : r < S.2.1 0 1) (hc : hasC (S.2.1 2 r) b 1) : ev X (d + 2) m_X1_cellCause 0 [some (va_rf (some (aT X t))), some (.int (nI i)), some (.int b), none] [] (rp X S) = some (some (.int 0), rp X S) := by
  have h12 : i < 12 := by omega
  have e10 : ¬ (1 : Int32) = 0 := by decide
  simp only [e_X1_cellCause_0, e_X1_cellCause_1, e_X1_cellCause_2, e_X1_cellCause_5, e_X1_cellCause_6, e_X1_cellCause_7, e_X1_cellCause_10, e_X1_cellCause_11, e_X1_cellCause_12, e_X1_cellCause_13, e_X1_cellCause_16, e_X1_cellCause_17, e_X1_cellCause_18, e_X1_cellCause_19, e_X1_cellCause_20, e_X1_cellCause_23, e_X1_cellCause_26, e_X1_cellCause_27, e_X1_cellCause_30, e_X1_cellCause_31, Option.bind_some, Option.bind_none, Option.toList_some, Option.toList_none, List.cons_append, List.nil_append, I_z, I_i8, I_q8, I_i7, I_q7, I_i6, I_q6, I_i5, I_q5, I_i4, I_q4, I_i3, I_q3, I_i2, I_q2, I_i1, I_q1, I_w8, I_w7, I_w6, I_w5, I_w4, I_w3, I_w2, I_c2n, I_c2i, I_c2q, eq_self, or_true, true_or, and_true, true_and, if_true, if_false, not_false_eq_true, not_true_eq_false, Option.map_none, Option.map_some, reduceCtorEq, isT, ht, k_placeCause0 ht hh h hp, e10, gT_0, lTr, h12, hp, isR, hr, k_hasCells1 hr hc]
theorem k_cellCause_2 (ht : t < 16) (hh : S.2.1 1 t ≤ 12) (h : i < S.2.1 1 t) (hp : S.2.2.1 t i = some r) (hr : r < S.2.1 0 1) (hc : ¬ hasC (S.2.1 2 r) b 1) : ev X (d + 2) m_X1_cellCause 0 [some (va_rf (some (aT X t))), some (.int (nI i)), some (.int b), none] [] (rp X S) = some (some (.int 2), rp X S) := by
  have h12 : i < 12 := by omega
  have e10 : ¬ (1 : Int32) = 0 := by decide
  simp only [e_X1_cellCause_0, e_X1_cellCause_1, e_X1_cellCause_2, e_X1_cellCause_5, e_X1_cellCause_6, e_X1_cellCause_7, e_X1_cellCause_10, e_X1_cellCause_11, e_X1_cellCause_12, e_X1_cellCause_13, e_X1_cellCause_16, e_X1_cellCause_17, e_X1_cellCause_18, e_X1_cellCause_19, e_X1_cellCause_20, e_X1_cellCause_23, e_X1_cellCause_26, e_X1_cellCause_27, e_X1_cellCause_30, e_X1_cellCause_31, Option.bind_some, Option.bind_none, Option.toList_some, Option.toList_none, List.cons_append, List.nil_append, I_z, I_i8, I_q8, I_i7, I_q7, I_i6, I_q6, I_i5, I_q5, I_i4, I_q4, I_i3, I_q3, I_i2, I_q2, I_i1, I_q1, I_w8, I_w7, I_w6, I_w5, I_w4, I_w3, I_w2, I_c2n, I_c2i, I_c2q, eq_self, or_true, true_or, and_true, true_and, if_true, if_false, not_false_eq_true, not_true_eq_false, Option.map_none, Option.map_some, reduceCtorEq, isT, ht, k_placeCause0 ht hh h hp, e10, gT_0, lTr, h12, hp, isR, hr, k_hasCells0 hr hc]
/-- the length of the first row -/
def wid (S : St) (t : Nat) : Nat := if S.2.1 1 t = 0 then 0 else match S.2.2.1 t 0 with
  | none => 0
  | some r => S.2.1 2 r
theorem nI_z {n : Nat} (hn : n < 2 ^ 31) (h : ¬ n = 0) : ¬ nI n = 0 := nI_ne0 (by omega) hn
theorem k_wide (ht : t < 16) (hh : S.2.1 1 t ≤ 12) (hr : ∀ r, S.2.2.1 t 0 = some r → r < S.2.1 0 1) : ev X (d + 1) m_X1_wide 0 [some (va_rf (some (aT X t)))] [] (rp X S) = some (some (.int (nI (wid S t))), rp X S) := by
  by_cases h0 : S.2.1 1 t = 0
  · have e0 : nI (S.2.1 1 t) = 0 := by rw [h0]; rfl
    have ew : wid S t = 0 := if_pos h0
    simp only [e_X1_wide_0, e_X1_wide_1, e_X1_wide_4, e_X1_wide_7, e_X1_wide_8, e_X1_wide_11, e_X1_wide_12, e_X1_wide_13, e_X1_wide_16, e_X1_wide_17, e_X1_wide_20, e_X1_wide_21, e_X1_wide_24, e_X1_wide_25, e_X1_wide_26, e_X1_wide_29, Option.bind_some, Option.bind_none, Option.toList_some, Option.toList_none, List.cons_append, List.nil_append, I_z, I_i8, I_q8, I_i7, I_q7, I_i6, I_q6, I_i5, I_q5, I_i4, I_q4, I_i3, I_q3, I_i2, I_q2, I_i1, I_q1, I_w8, I_w7, I_w6, I_w5, I_w4, I_w3, I_w2, I_c2n, I_c2i, I_c2q, eq_self, or_true, true_or, and_true, true_and, if_true, if_false, not_false_eq_true, not_true_eq_false, Option.map_none, Option.map_some, reduceCtorEq, gT_2, ht, e0, ew, nI_0]
  · have e0 : ¬ nI (S.2.1 1 t) = 0 := nI_z (by omega) h0
    cases hp : S.2.2.1 t 0 with
    | none =>
      have ew : wid S t = 0 := by unfold wid; rw [if_neg h0, hp]
      simp only [e_X1_wide_0, e_X1_wide_1, e_X1_wide_4, e_X1_wide_7, e_X1_wide_8, e_X1_wide_11, e_X1_wide_12, e_X1_wide_13, e_X1_wide_16, e_X1_wide_17, e_X1_wide_20, e_X1_wide_21, e_X1_wide_24, e_X1_wide_25, e_X1_wide_26, e_X1_wide_29, Option.bind_some, Option.bind_none, Option.toList_some, Option.toList_none, List.cons_append, List.nil_append, I_z, I_i8, I_q8, I_i7, I_q7, I_i6, I_q6, I_i5, I_q5, I_i4, I_q4, I_i3, I_q3, I_i2, I_q2, I_i1, I_q1, I_w8, I_w7, I_w6, I_w5, I_w4, I_w3, I_w2, I_c2n, I_c2i, I_c2q, eq_self, or_true, true_or, and_true, true_and, if_true, if_false, not_false_eq_true, not_true_eq_false, Option.map_none, Option.map_some, reduceCtorEq, gT_2, gT_0, ht, e0, ew, nI_0, lTr_0, hp]
    | some r =>
      have ew : wid S t = S.2.1 2 r := by unfold wid; rw [if_neg h0, hp]
      have hr1 := hr r hp
      simp only [e_X1_wide_0, e_X1_wide_1, e_X1_wide_4, e_X1_wide_7, e_X1_wide_8, e_X1_wide_11, e_X1_wide_12, e_X1_wide_13, e_X1_wide_16, e_X1_wide_17, e_X1_wide_20, e_X1_wide_21, e_X1_wide_24, e_X1_wide_25, e_X1_wide_26, e_X1_wide_29, Option.bind_some, Option.bind_none, Option.toList_some, Option.toList_none, List.cons_append, List.nil_append, I_z, I_i8, I_q8, I_i7, I_q7, I_i6, I_q6, I_i5, I_q5, I_i4, I_q4, I_i3, I_q3, I_i2, I_q2, I_i1, I_q1, I_w8, I_w7, I_w6, I_w5, I_w4, I_w3, I_w2, I_c2n, I_c2i, I_c2q, eq_self, or_true, true_or, and_true, true_and, if_true, if_false, not_false_eq_true, not_true_eq_false, Option.map_none, Option.map_some, reduceCtorEq, gT_2, gT_0, ht, e0, ew, lTr_0, hp, isR, hr1, k_length hr1]
/-- the place is fallen, or its row has not n cells -/
def badL (S : St) (t n i : Nat) : Prop := match S.2.2.1 t i with
  | none => True
  | some r => ¬ S.2.1 2 r = n
theorem badL_n (h : S.2.2.1 t i = none) : badL S t n i := by unfold badL; rw [h]; trivial
theorem badL_s (h : S.2.2.1 t i = some r) : badL S t n i ↔ ¬ S.2.1 2 r = n := by unfold badL; rw [h]
/-- the first bad place, of m places from i on -/
noncomputable def oddF (S : St) (t : Nat) : Nat → Nat → Int32
  | 0, _ => -1000009
  | m + 1, i => @ite _ (badL S t (S.2.1 1 t) i) (Classical.propDecidable _) (nI i) (oddF S t m (i + 1))
/-- rows are known, tables of few places -/
def WB (S : St) : Prop := S.2.1 0 0 ≤ 16 ∧ (∀ t, t < 16 → S.2.1 1 t ≤ 12) ∧ (∀ t i r, t < 16 → S.2.2.1 t i = some r → r < S.2.1 0 1) ∧ ∀ r, r < S.2.1 0 1 → S.2.1 2 r ≤ 16 ∧ S.2.1 3 r = if S.1 5 r = 2 then S.2.1 2 r else 0
theorem nI_inj {a b : Nat} (ha : a < 2 ^ 31) (hb : b < 2 ^ 31) : (nI a = nI b) = (a = b) := propext (nI_eq ha hb)
theorem k_fns_loop (hS : WB S) (ht : t < 16) : ∀ m i, i + m = S.2.1 1 t → ev X (d + 1) m_X1_firstNotSquare 2 [some (va_rf (some (aT X t))), some (.int (nI i))] [] (rp X S) = some (some (.int (oddF S t m i)), rp X S) := by
  have hh := hS.2.1 t ht
  intro m
  induction m with
  | zero =>
    intro i hi
    have h1 : nI (S.2.1 1 t) ≤ nI i := nI_le (by omega) (by omega)
    simp only [e_X1_firstNotSquare_0, e_X1_firstNotSquare_1, e_X1_firstNotSquare_2, e_X1_firstNotSquare_3, e_X1_firstNotSquare_4, e_X1_firstNotSquare_7, e_X1_firstNotSquare_10, e_X1_firstNotSquare_11, e_X1_firstNotSquare_14, e_X1_firstNotSquare_15, e_X1_firstNotSquare_16, e_X1_firstNotSquare_19, e_X1_firstNotSquare_20, e_X1_firstNotSquare_23, e_X1_firstNotSquare_24, e_X1_firstNotSquare_25, e_X1_firstNotSquare_28, e_X1_firstNotSquare_29, e_X1_firstNotSquare_32, e_X1_firstNotSquare_35, e_X1_firstNotSquare_36, e_X1_firstNotSquare_37, e_X1_firstNotSquare_40, e_X1_firstNotSquare_43, e_X1_firstNotSquare_45, Option.bind_some, Option.bind_none, Option.toList_some, Option.toList_none, List.cons_append, List.nil_append, I_z, I_i8, I_q8, I_i7, I_q7, I_i6, I_q6, I_i5, I_q5, I_i4, I_q4, I_i3, I_q3, I_i2, I_q2, I_i1, I_q1, I_w8, I_w7, I_w6, I_w5, I_w4, I_w3, I_w2, I_c2n, I_c2i, I_c2q, eq_self, or_true, true_or, and_true, true_and, if_true, if_false, not_false_eq_true, not_true_eq_false, Option.map_none, Option.map_some, reduceCtorEq, gT_2, ht, h1, oddF]
  | succ m ih =>
    intro i hi
    have h1 : ¬ nI (S.2.1 1 t) ≤ nI i := nI_ge (by omega) (by omega)
    have h12 : i < 12 := by omega
    have ih1 := ih (i + 1) (by omega)
    cases hp : S.2.2.1 t i with
    | none =>
      have hb : badL S t (S.2.1 1 t) i := badL_n hp
      simp only [e_X1_firstNotSquare_2, e_X1_firstNotSquare_3, e_X1_firstNotSquare_4, e_X1_firstNotSquare_7, e_X1_firstNotSquare_10, e_X1_firstNotSquare_11, e_X1_firstNotSquare_14, e_X1_firstNotSquare_15, e_X1_firstNotSquare_16, e_X1_firstNotSquare_19, e_X1_firstNotSquare_20, e_X1_firstNotSquare_23, e_X1_firstNotSquare_24, e_X1_firstNotSquare_25, e_X1_firstNotSquare_28, e_X1_firstNotSquare_29, e_X1_firstNotSquare_32, e_X1_firstNotSquare_35, e_X1_firstNotSquare_36, Option.bind_some, Option.bind_none, Option.toList_some, Option.toList_none, List.cons_append, List.nil_append, I_z, I_i8, I_q8, I_i7, I_q7, I_i6, I_q6, I_i5, I_q5, I_i4, I_q4, I_i3, I_q3, I_i2, I_q2, I_i1, I_q1, I_w8, I_w7, I_w6, I_w5, I_w4, I_w3, I_w2, I_c2n, I_c2i, I_c2q, eq_self, or_true, true_or, and_true, true_and, if_true, if_false, not_false_eq_true, not_true_eq_false, Option.map_none, Option.map_some, reduceCtorEq, gT_2, gT_0, ht, h1, lTr, h12, hp, oddF, hb]
    | some r =>
      have hr := hS.2.2.1 t i r ht hp
      have h16 := (hS.2.2.2 r hr).1
      by_cases hl : S.2.1 2 r = S.2.1 1 t
      · have hb : ¬ badL S t (S.2.1 1 t) i := fun q => (badL_s hp).mp q hl
        simp only [e_X1_firstNotSquare_3, e_X1_firstNotSquare_4, e_X1_firstNotSquare_7, e_X1_firstNotSquare_10, e_X1_firstNotSquare_11, e_X1_firstNotSquare_14, e_X1_firstNotSquare_15, e_X1_firstNotSquare_16, e_X1_firstNotSquare_19, e_X1_firstNotSquare_20, e_X1_firstNotSquare_23, e_X1_firstNotSquare_24, e_X1_firstNotSquare_25, e_X1_firstNotSquare_28, e_X1_firstNotSquare_29, e_X1_firstNotSquare_32, e_X1_firstNotSquare_35, e_X1_firstNotSquare_36, e_X1_firstNotSquare_37, e_X1_firstNotSquare_40, e_X1_firstNotSquare_2, Option.bind_some, Option.bind_none, Option.toList_some, Option.toList_none, List.cons_append, List.nil_append, I_z, I_i8, I_q8, I_i7, I_q7, I_i6, I_q6, I_i5, I_q5, I_i4, I_q4, I_i3, I_q3, I_i2, I_q2, I_i1, I_q1, I_w8, I_w7, I_w6, I_w5, I_w4, I_w3, I_w2, I_c2n, I_c2i, I_c2q, eq_self, or_true, true_or, and_true, true_and, if_true, if_false, not_false_eq_true, not_true_eq_false, Option.map_none, Option.map_some, reduceCtorEq, gT_2, gT_0, ht, h1, lTr, h12, hp, isR, hr, k_length hr, hl, oddF, hb, nI_1, ih1]
      · have hb : badL S t (S.2.1 1 t) i := (badL_s hp).mpr hl
        have hl2 : ¬ nI (S.2.1 2 r) = nI (S.2.1 1 t) := fun q => hl ((nI_eq (by omega) (by omega)).mp q)
        simp only [e_X1_firstNotSquare_2, e_X1_firstNotSquare_3, e_X1_firstNotSquare_4, e_X1_firstNotSquare_7, e_X1_firstNotSquare_10, e_X1_firstNotSquare_11, e_X1_firstNotSquare_14, e_X1_firstNotSquare_15, e_X1_firstNotSquare_16, e_X1_firstNotSquare_19, e_X1_firstNotSquare_20, e_X1_firstNotSquare_23, e_X1_firstNotSquare_24, e_X1_firstNotSquare_25, e_X1_firstNotSquare_28, e_X1_firstNotSquare_29, e_X1_firstNotSquare_32, e_X1_firstNotSquare_35, e_X1_firstNotSquare_36, e_X1_firstNotSquare_37, e_X1_firstNotSquare_40, Option.bind_some, Option.bind_none, Option.toList_some, Option.toList_none, List.cons_append, List.nil_append, I_z, I_i8, I_q8, I_i7, I_q7, I_i6, I_q6, I_i5, I_q5, I_i4, I_q4, I_i3, I_q3, I_i2, I_q2, I_i1, I_q1, I_w8, I_w7, I_w6, I_w5, I_w4, I_w3, I_w2, I_c2n, I_c2i, I_c2q, eq_self, or_true, true_or, and_true, true_and, if_true, if_false, not_false_eq_true, not_true_eq_false, Option.map_none, Option.map_some, reduceCtorEq, gT_2, gT_0, ht, h1, lTr, h12, hp, isR, hr, k_length hr, hl2, oddF, hb]
theorem k_fns (hS : WB S) (ht : t < 16) : ev X (d + 1) m_X1_firstNotSquare 0 [some (va_rf (some (aT X t))), none] [] (rp X S) = some (some (.int (oddF S t (S.2.1 1 t) 0)), rp X S) := by
  have h := k_fns_loop (X := X) (d := d) hS ht (S.2.1 1 t) 0 (by omega)
  rw [nI_0] at h
  simp only [e_X1_firstNotSquare_0, e_X1_firstNotSquare_1, Option.bind_some, Option.bind_none, Option.toList_some, Option.toList_none, List.cons_append, List.nil_append, I_z, I_i8, I_q8, I_i7, I_q7, I_i6, I_q6, I_i5, I_q5, I_i4, I_q4, I_i3, I_q3, I_i2, I_q2, I_i1, I_q1, I_w8, I_w7, I_w6, I_w5, I_w4, I_w3, I_w2, I_c2n, I_c2i, I_c2q, eq_self, or_true, true_or, and_true, true_and, if_true, if_false, not_false_eq_true, not_true_eq_false, Option.map_none, Option.map_some, reduceCtorEq, h]
end TB1
