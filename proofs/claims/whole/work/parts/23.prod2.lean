/-! The landed code's turned and product, whole. -/
section PR1
variable {X : I_X} {S B : St} {d t t2 r r2 i j n m g w hi l to yy xx : Nat} {a b c e v x y z k : Int32} {u u2 : UInt64}
theorem bwS_all (hh : hi ≤ 12) : (bwS S k hi w).2.1 0 0 = S.2.1 0 0 + 1 ∧ (bwS S k hi w).2.1 0 1 = S.2.1 0 1 + hi ∧ (bwS S k hi w).2.1 0 2 ≤ S.2.1 0 2 + hi * (4 + 2 * w) ∧ (∀ t', (bwS S k hi w).2.1 1 t' = if t' = S.2.1 0 0 then hi else S.2.1 1 t') ∧
    (∀ r, (bwS S k hi w).2.1 2 r = if S.2.1 0 1 ≤ r ∧ r < S.2.1 0 1 + hi then w else S.2.1 2 r) ∧ (∀ r, (bwS S k hi w).2.1 3 r = if S.2.1 0 1 ≤ r ∧ r < S.2.1 0 1 + hi then (if k = 2 then w else 0) else S.2.1 3 r) ∧
    (∀ t' i', t' ≠ S.2.1 0 0 → (bwS S k hi w).2.2.1 t' i' = S.2.2.1 t' i') ∧ (∀ i', i' < hi → (bwS S k hi w).2.2.1 (S.2.1 0 0) i' = some (S.2.1 0 1 + i')) ∧
    (∀ t', (bwS S k hi w).1 1 t' = if t' = S.2.1 0 0 then k else S.1 1 t') ∧
    (∀ r, (bwS S k hi w).1 5 r = if S.2.1 0 1 ≤ r ∧ r < S.2.1 0 1 + hi then k else S.1 5 r) ∧ (∀ r, (bwS S k hi w).1 6 r = if S.2.1 0 1 ≤ r ∧ r < S.2.1 0 1 + hi then 0 else S.1 6 r) ∧
    (∀ r, (bwS S k hi w).1 (100 + r) = if S.2.1 0 1 ≤ r ∧ r < S.2.1 0 1 + hi then newC k w else S.1 (100 + r)) ∧ (∀ g, g < 100 → g ≠ 1 → g ≠ 5 → g ≠ 6 → (bwS S k hi w).1 g = S.1 g) ∧
    (∀ r, (bwS S k hi w).2.2.2 (1 + r) = if S.2.1 0 1 ≤ r ∧ r < S.2.1 0 1 + hi then (fun _ => 0) else S.2.2.2 (1 + r)) ∧ (bwS S k hi w).2.2.2 0 = S.2.2.2 0 := by
  obtain ⟨a1, a2, a3, a4, a5, a6, a7, a8, a9, b1, b2, b3, b4⟩ := rowsA_all (t := S.2.1 0 0) (k := k) (n := w) hi 0 (sBegun S k hi) (by omega)
  have z1 : (sBegun S k hi).2.1 0 1 = S.2.1 0 1 := by rw [sBegun_N0, up_ne (by omega)]
  have z2 : (sBegun S k hi).2.1 0 2 = S.2.1 0 2 := by rw [sBegun_N0, up_ne (by omega)]
  have z3 : (sBegun S k hi).2.1 0 0 = S.2.1 0 0 + 1 := by rw [sBegun_N0, up_eq]
  rw [z1] at a2 a5 a6 a7 a8 a9 b1 b3
  rw [z2] at a3
  rw [z3] at a1
  unfold bwS
  refine ⟨a1, a2, a3, fun t' => ?_, fun r => ?_, fun r => ?_, fun t' i' h => ?_, fun i' h => ?_, fun t' => ?_, fun r => ?_, fun r => ?_, fun r => ?_, fun g h1 h2 h3 h4 => ?_, fun r => ?_, ?_⟩
  · rw [a4, sBegun_N1]; rfl
  · rw [a5, sBegun_N (by omega) (by omega)]
  · rw [a6, sBegun_N (by omega) (by omega)]
  · rw [a7, if_neg (fun q => h q.1), sBegun_P, up_ne h]
  · rw [a7, if_pos ⟨rfl, by omega, by omega⟩, Nat.sub_zero]
  · rw [b2 1 (by omega) (by omega) (by omega), sBegun_1]; rfl
  · rw [a8, sBegun_I (by omega)]
  · rw [a9, sBegun_I (by omega)]
  · rw [b1, sBegun_I (by omega)]
  · rw [b2 g h1 h3 h4, sBegun_I h2]
  · rw [b3, sBegun_F]
  · rw [b4, sBegun_F]
theorem bwS_WB (hS : WB S) (h : S.2.1 0 0 < 16) (hh : hi ≤ 12) (hw : w ≤ 16) : WB (bwS S k hi w) := rowsA_WB hw h hi 0 _ (sBegun_WB hS h hh)
theorem k_turned_unk (h : unk S a) : ev X (d + 3) m_X2_turned 0 [some (va_rf (some (aO X))), some (.int a), none, none, none, none, none] [] (rp X S) = some (some (.int (-1000001)), rp X S) := by
  simp only [e_X2_turned_0, e_X2_turned_1, e_X2_turned_2, e_X2_turned_5, e_X2_turned_8, e_X2_turned_10, e_X2_turned_11, e_X2_turned_12, e_X2_turned_15, e_X2_turned_16, e_X2_turned_17, e_X2_turned_18, e_X2_turned_19, e_X2_turned_22, e_X2_turned_25, e_X2_turned_26, e_X2_turned_29, e_X2_turned_31, e_X2_turned_34, e_X2_turned_36, e_X2_turned_37, e_X2_turned_38, e_X2_turned_41, e_X2_turned_44, e_X2_turned_46, e_X2_turned_47, e_X2_turned_48, e_X2_turned_49, e_X2_turned_52, e_X2_turned_53, e_X2_turned_56, e_X2_turned_57, e_X2_turned_60, e_X2_turned_63, e_X2_turned_64, e_X2_turned_65, e_X2_turned_68, e_X2_turned_69, e_X2_turned_70, e_X2_turned_72, e_X2_turned_73, e_X2_turned_75, e_X2_turned_77, e_X2_turned_79, e_X2_turned_82, e_X2_turned_85, e_X2_turned_86, e_X2_turned_88, e_X2_turned_90, e_X2_turned_91, e_X2_turned_94, e_X2_turned_97, e_X2_turned_99, e_X2_turned_102, e_X2_turned_104, e_X2_turned_105, e_X2_turned_107, e_X2_turned_108, e_X2_turned_111, e_X2_turned_113, e_X2_turned_114, e_X2_turned_116, e_X2_turned_117, e_X2_turned_120, e_X2_turned_123, e_X2_turned_126, e_X2_turned_129, e_X2_turned_132, e_X2_turned_133, Option.bind_some, Option.bind_none, Option.toList_some, Option.toList_none, List.cons_append, List.nil_append, I_z, I_i8, I_q8, I_i7, I_q7, I_i6, I_q6, I_i5, I_q5, I_i4, I_q4, I_i3, I_q3, I_i2, I_q2, I_i1, I_q1, I_w8, I_w7, I_w6, I_w5, I_w4, I_w3, I_w2, I_c2n, I_c2i, I_c2q, eq_self, or_true, true_or, and_true, true_and, if_true, if_false, not_false_eq_true, not_true_eq_false, Option.map_none, Option.map_some, reduceCtorEq, isO, isT, isR, isM, gO_0, gO_1, gO_2, gO_3, gO_4, gO_5, gO_6, gO_7, gO_8, gO_9, gT_0, gT_1, gT_2, gR_0, gR_1, gR_2, gR_3, gM_0, gM_1, gM_2, gM_3, gM_4, gM_5, gM_6, gM_7, gM_8, gM_9, gM_10, gM_11, gM_12, gM_13, gM_14, gM_15, gM_16, gM_17, gM_18, gM_19, gM_20, lTs, lTr, lWd, lOp, lDp, lRw, lRd, nRw, nTr, nI_1, nI_add, sI_2, k_isUnknown1 h, e10]
theorem wid_le (hS : WB S) (ht : t < 16) : wid S t ≤ 16 := by
  unfold wid
  split
  · omega
  · split
    · omega
    · rename_i r h; exact (hS.2.2.2 r (hS.2.2.1 t 0 r ht h)).1
theorem k_wide' (hS : WB S) (ht : t < 16) : ev X (d + 1) m_X1_wide 0 [some (va_rf (some (aT X t)))] [] (rp X S) = some (some (.int (nI (wid S t))), rp X S) := k_wide ht (hS.2.1 t ht) (fun r h => hS.2.2.1 t 0 r ht h)
theorem k_turned_state (hS : WB S) (h1 : t < S.2.1 0 0) (h : ¬ (evn S t ∧ wid S t ≤ 12)) : ev X (d + 3) m_X2_turned 0 [some (va_rf (some (aO X))), some (.int (nI t)), none, none, none, none, none] [] (rp X S) = some (some (.int (-1000003)), rp X S) := by
  have h16 := hS.1
  have ht : t < 16 := by omega
  have hw := wid_le hS ht
  by_cases c1 : evn S t
  · have c2 : ¬ nI (wid S t) ≤ 12 := nI_ge (a := 12) (by have : ¬ wid S t ≤ 12 := fun q => h ⟨c1, q⟩
                                                         omega) (by omega)
    simp only [e_X2_turned_0, e_X2_turned_1, e_X2_turned_2, e_X2_turned_5, e_X2_turned_8, e_X2_turned_10, e_X2_turned_11, e_X2_turned_12, e_X2_turned_15, e_X2_turned_16, e_X2_turned_17, e_X2_turned_18, e_X2_turned_19, e_X2_turned_22, e_X2_turned_25, e_X2_turned_26, e_X2_turned_29, e_X2_turned_31, e_X2_turned_34, e_X2_turned_36, Option.bind_some, Option.bind_none, Option.toList_some, Option.toList_none, List.cons_append, List.nil_append, I_z, I_i8, I_q8, I_i7, I_q7, I_i6, I_q6, I_i5, I_q5, I_i4, I_q4, I_i3, I_q3, I_i2, I_q2, I_i1, I_q1, I_w8, I_w7, I_w6, I_w5, I_w4, I_w3, I_w2, I_c2n, I_c2i, I_c2q, eq_self, or_true, true_or, and_true, true_and, if_true, if_false, not_false_eq_true, not_true_eq_false, Option.map_none, Option.map_some, reduceCtorEq, isO, isT, isR, isM, gO_0, gO_1, gO_2, gO_3, gO_4, gO_5, gO_6, gO_7, gO_8, gO_9, gT_0, gT_1, gT_2, gR_0, gR_1, gR_2, gR_3, gM_0, gM_1, gM_2, gM_3, gM_4, gM_5, gM_6, gM_7, gM_8, gM_9, gM_10, gM_11, gM_12, gM_13, gM_14, gM_15, gM_16, gM_17, gM_18, gM_19, gM_20, lTs, lTr, lWd, lOp, lDp, lRw, lRd, nRw, nTr, nI_1, nI_add, sI_2, ht, k_isUnknown0 h1 h16, k_even hS ht, b01_t c1, e10, k_wide' hS ht, c2]
  · simp only [e_X2_turned_0, e_X2_turned_1, e_X2_turned_2, e_X2_turned_5, e_X2_turned_8, e_X2_turned_10, e_X2_turned_11, e_X2_turned_12, e_X2_turned_15, e_X2_turned_16, e_X2_turned_17, e_X2_turned_18, e_X2_turned_19, e_X2_turned_22, e_X2_turned_25, e_X2_turned_26, e_X2_turned_29, e_X2_turned_31, e_X2_turned_34, e_X2_turned_36, Option.bind_some, Option.bind_none, Option.toList_some, Option.toList_none, List.cons_append, List.nil_append, I_z, I_i8, I_q8, I_i7, I_q7, I_i6, I_q6, I_i5, I_q5, I_i4, I_q4, I_i3, I_q3, I_i2, I_q2, I_i1, I_q1, I_w8, I_w7, I_w6, I_w5, I_w4, I_w3, I_w2, I_c2n, I_c2i, I_c2q, eq_self, or_true, true_or, and_true, true_and, if_true, if_false, not_false_eq_true, not_true_eq_false, Option.map_none, Option.map_some, reduceCtorEq, isO, isT, isR, isM, gO_0, gO_1, gO_2, gO_3, gO_4, gO_5, gO_6, gO_7, gO_8, gO_9, gT_0, gT_1, gT_2, gR_0, gR_1, gR_2, gR_3, gM_0, gM_1, gM_2, gM_3, gM_4, gM_5, gM_6, gM_7, gM_8, gM_9, gM_10, gM_11, gM_12, gM_13, gM_14, gM_15, gM_16, gM_17, gM_18, gM_19, gM_20, lTs, lTr, lWd, lOp, lDp, lRw, lRd, nRw, nTr, nI_1, nI_add, sI_2, ht, k_isUnknown0 h1 h16, k_even hS ht, b01_f c1]
theorem k_turned_room (hS : WB S) (h1 : t < S.2.1 0 0) (c1 : evn S t) (c3 : wid S t ≤ 12) (hf : S.2.1 0 0 = 16) : ev X (d + 3) m_X2_turned 0 [some (va_rf (some (aO X))), some (.int (nI t)), none, none, none, none, none] [] (rp X S) = some (some (.int (-1000004)), rp X S) := by
  have h16 := hS.1
  have ht : t < 16 := by omega
  have c2 : nI (wid S t) ≤ 12 := nI_le (b := 12) c3 (by omega)
  simp only [e_X2_turned_0, e_X2_turned_1, e_X2_turned_2, e_X2_turned_5, e_X2_turned_8, e_X2_turned_10, e_X2_turned_11, e_X2_turned_12, e_X2_turned_15, e_X2_turned_16, e_X2_turned_17, e_X2_turned_18, e_X2_turned_19, e_X2_turned_22, e_X2_turned_25, e_X2_turned_26, e_X2_turned_29, e_X2_turned_31, e_X2_turned_34, e_X2_turned_36, e_X2_turned_37, e_X2_turned_38, e_X2_turned_41, e_X2_turned_44, e_X2_turned_46, Option.bind_some, Option.bind_none, Option.toList_some, Option.toList_none, List.cons_append, List.nil_append, I_z, I_i8, I_q8, I_i7, I_q7, I_i6, I_q6, I_i5, I_q5, I_i4, I_q4, I_i3, I_q3, I_i2, I_q2, I_i1, I_q1, I_w8, I_w7, I_w6, I_w5, I_w4, I_w3, I_w2, I_c2n, I_c2i, I_c2q, eq_self, or_true, true_or, and_true, true_and, if_true, if_false, not_false_eq_true, not_true_eq_false, Option.map_none, Option.map_some, reduceCtorEq, isO, isT, isR, isM, gO_0, gO_1, gO_2, gO_3, gO_4, gO_5, gO_6, gO_7, gO_8, gO_9, gT_0, gT_1, gT_2, gR_0, gR_1, gR_2, gR_3, gM_0, gM_1, gM_2, gM_3, gM_4, gM_5, gM_6, gM_7, gM_8, gM_9, gM_10, gM_11, gM_12, gM_13, gM_14, gM_15, gM_16, gM_17, gM_18, gM_19, gM_20, lTs, lTr, lWd, lOp, lDp, lRw, lRd, nRw, nTr, nI_1, nI_add, sI_2, ht, k_isUnknown0 h1 h16, k_even hS ht, b01_t c1, e10, k_wide' hS ht, c2, k_isFull h16, if_pos hf]
theorem evn_row (h : evn S t) (hi : i < S.2.1 1 t) : ∃ r, S.2.2.1 t i = some r ∧ S.2.1 2 r = wid S t := by
  have hb := h i (Nat.zero_le _) hi
  cases hp : S.2.2.1 t i with
  | none => exact absurd (badL_n hp) hb
  | some r => exact ⟨r, rfl, Classical.not_not.mp (fun q => hb ((badL_s hp).mpr q))⟩
theorem k_turned_ok (hS : WB S) (hK : KD S) (h1 : t < S.2.1 0 0) (c1 : evn S t) (c3 : wid S t ≤ 12) (hf : S.2.1 0 0 < 16) : ∃ S', ev X (d + 4) m_X2_turned 0 [some (va_rf (some (aO X))), some (.int (nI t)), none, none, none, none, none] [] (rp X S) = some (some (.int (nI (S.2.1 0 0))), rp X S') ∧ NW (bwS S (S.1 1 t) (wid S t) (S.2.1 1 t)) S' (S.2.1 0 1) ∧ ∀ x y r, x < wid S t → y < S.2.1 1 t → S.2.2.1 t y = some r → S'.1 (100 + (S.2.1 0 1 + x)) y = S.1 (100 + r) x ∧ (S.1 1 t = 2 → S'.2.2.2 (1 + (S.2.1 0 1 + x)) y = S.2.2.2 (1 + r) x) := by
  have h16 := hS.1
  have ht : t < 16 := by omega
  have hh := hS.2.1 t ht
  have c2 : nI (wid S t) ≤ 12 := nI_le (b := 12) c3 (by omega)
  obtain ⟨a1, a2, a3, a4, a5, a6, a7, a7', a8, a9, b1, b2, b3, b4, b5⟩ := bwS_all (S := S) (k := S.1 1 t) (hi := wid S t) (w := S.2.1 1 t) c3
  have hB := bwS_WB (k := S.1 1 t) (hi := wid S t) (w := S.2.1 1 t) hS hf c3 (by omega)
  have hne : t ≠ S.2.1 0 0 := by omega
  have e1 : (bwS S (S.1 1 t) (wid S t) (S.2.1 1 t)).2.1 1 t = S.2.1 1 t := by rw [a4, if_neg hne]
  have e2 : (bwS S (S.1 1 t) (wid S t) (S.2.1 1 t)).2.1 1 (S.2.1 0 0) = wid S t := by rw [a4, if_pos rfl]
  have e3 : (bwS S (S.1 1 t) (wid S t) (S.2.1 1 t)).1 1 t = S.1 1 t := by rw [a8, if_neg hne]
  obtain ⟨S', f1, f2, f3⟩ := k_trn_x (X := X) (d := d + 2) (a := nI t) (b := nI (S.2.1 0 0)) (n0 := S.2.1 0 1) (t := t) (t2 := S.2.1 0 0) hB ht hf (fun xx hx => by
    rw [e2] at hx
    rw [a2, a7' xx hx, a5, if_pos (by omega), a9, if_pos (by omega), e1, e3]
    exact ⟨by omega, rfl, rfl, rfl⟩) (fun y' hy' => by
    rw [e1] at hy'
    obtain ⟨r, p1, p2⟩ := evn_row c1 hy'
    have hr := hS.2.2.1 t y' r ht p1
    refine ⟨r, hr, ?_, ?_, ?_⟩
    · rw [a7 t y' hne]; exact p1
    · rw [e2, a5, if_neg (by omega), p2]; exact Nat.le_refl _
    · rw [a9, if_neg (by omega), e3]; exact hK t y' r h1 hy' p1) (wid S t) 0 none _ (by rw [e2]; omega) (NW.refl _) (fun x' hx' => by omega)
  rw [nI_0] at f1
  refine ⟨S', ?_, f2, fun x y r hx hy hp => ?_⟩
  · simp only [e_X2_turned_0, e_X2_turned_1, e_X2_turned_2, e_X2_turned_5, e_X2_turned_8, e_X2_turned_10, e_X2_turned_11, e_X2_turned_12, e_X2_turned_15, e_X2_turned_16, e_X2_turned_17, e_X2_turned_18, e_X2_turned_19, e_X2_turned_22, e_X2_turned_25, e_X2_turned_26, e_X2_turned_29, e_X2_turned_31, e_X2_turned_34, e_X2_turned_36, e_X2_turned_37, e_X2_turned_38, e_X2_turned_41, e_X2_turned_44, e_X2_turned_46, e_X2_turned_47, e_X2_turned_48, e_X2_turned_49, e_X2_turned_52, e_X2_turned_53, e_X2_turned_56, e_X2_turned_57, e_X2_turned_60, e_X2_turned_63, e_X2_turned_64, e_X2_turned_65, e_X2_turned_68, e_X2_turned_69, e_X2_turned_70, e_X2_turned_72, e_X2_turned_73, Option.bind_some, Option.bind_none, Option.toList_some, Option.toList_none, List.cons_append, List.nil_append, I_z, I_i8, I_q8, I_i7, I_q7, I_i6, I_q6, I_i5, I_q5, I_i4, I_q4, I_i3, I_q3, I_i2, I_q2, I_i1, I_q1, I_w8, I_w7, I_w6, I_w5, I_w4, I_w3, I_w2, I_c2n, I_c2i, I_c2q, eq_self, or_true, true_or, and_true, true_and, if_true, if_false, not_false_eq_true, not_true_eq_false, Option.map_none, Option.map_some, reduceCtorEq, isO, isT, isR, isM, gO_0, gO_1, gO_2, gO_3, gO_4, gO_5, gO_6, gO_7, gO_8, gO_9, gT_0, gT_1, gT_2, gR_0, gR_1, gR_2, gR_3, gM_0, gM_1, gM_2, gM_3, gM_4, gM_5, gM_6, gM_7, gM_8, gM_9, gM_10, gM_11, gM_12, gM_13, gM_14, gM_15, gM_16, gM_17, gM_18, gM_19, gM_20, lTs, lTr, lWd, lOp, lDp, lRw, lRd, nRw, nTr, nI_1, nI_add, sI_2, ht, hf, k_isUnknown0 h1 h16, k_even hS ht, b01_t c1, e10, k_wide' hS ht, c2, k_isFull h16, if_neg (show ¬ S.2.1 0 0 = 16 by omega), k_bwr hS hf c3 (show S.2.1 1 t ≤ 16 by omega), f1]
  · have hr := hS.2.2.1 t y r ht hp
    obtain ⟨q1, q2⟩ := f3 x (by rw [e2]; exact hx) y (by rw [e1]; exact hy) r (by rw [a7 t y hne]; exact hp)
    rw [b2, if_neg (by omega)] at q1
    rw [b4, if_neg (by omega), e3] at q2
    exact ⟨q1, q2⟩
/-- can be multiplied -/
def canM (S : St) (t t2 : Nat) : Prop := ¬ S.1 1 t = 3 ∧ S.1 1 t = S.1 1 t2 ∧ evn S t ∧ evn S t2 ∧ wid S t = S.2.1 1 t2
theorem k_canM (hS : WB S) (ht : t < 16) (ht2 : t2 < 16) : ev X (d + 3) m_X2_canMultiply 0 [some (va_rf (some (aT X t))), some (va_rf (some (aT X t2)))] [] (rp X S) = some (some (.int (b01 (canM S t t2))), rp X S) := by
  have hw := wid_le hS ht
  have hh2 := hS.2.1 t2 ht2
  by_cases c1 : S.1 1 t = 3
  · rw [b01_f (show ¬ canM S t t2 from fun q => q.1 c1)]
    simp only [e_X2_canMultiply_0, e_X2_canMultiply_1, e_X2_canMultiply_4, e_X2_canMultiply_5, e_X2_canMultiply_8, e_X2_canMultiply_9, e_X2_canMultiply_12, e_X2_canMultiply_13, e_X2_canMultiply_16, e_X2_canMultiply_19, e_X2_canMultiply_20, e_X2_canMultiply_23, e_X2_canMultiply_26, e_X2_canMultiply_27, e_X2_canMultiply_30, e_X2_canMultiply_33, e_X2_canMultiply_34, e_X2_canMultiply_37, e_X2_canMultiply_38, e_X2_canMultiply_41, e_X2_canMultiply_44, e_X2_canMultiply_45, e_X2_canMultiply_48, e_X2_canMultiply_49, Option.bind_some, Option.bind_none, Option.toList_some, Option.toList_none, List.cons_append, List.nil_append, I_z, I_i8, I_q8, I_i7, I_q7, I_i6, I_q6, I_i5, I_q5, I_i4, I_q4, I_i3, I_q3, I_i2, I_q2, I_i1, I_q1, I_w8, I_w7, I_w6, I_w5, I_w4, I_w3, I_w2, I_c2n, I_c2i, I_c2q, eq_self, or_true, true_or, and_true, true_and, if_true, if_false, not_false_eq_true, not_true_eq_false, Option.map_none, Option.map_some, reduceCtorEq, isO, isT, isR, isM, gO_0, gO_1, gO_2, gO_3, gO_4, gO_5, gO_6, gO_7, gO_8, gO_9, gT_0, gT_1, gT_2, gR_0, gR_1, gR_2, gR_3, gM_0, gM_1, gM_2, gM_3, gM_4, gM_5, gM_6, gM_7, gM_8, gM_9, gM_10, gM_11, gM_12, gM_13, gM_14, gM_15, gM_16, gM_17, gM_18, gM_19, gM_20, lTs, lTr, lWd, lOp, lDp, lRw, lRd, nRw, nTr, nI_1, nI_add, sI_2, ht, ht2, c1]
  · by_cases c2 : S.1 1 t = S.1 1 t2
    · by_cases c3 : evn S t
      · by_cases c4 : evn S t2
        · by_cases c5 : wid S t = S.2.1 1 t2
          · have c6 : nI (wid S t) = nI (S.2.1 1 t2) := by rw [c5]
            rw [b01_t (show canM S t t2 from ⟨c1, c2, c3, c4, c5⟩)]
            rw [c2] at c1
            simp only [e_X2_canMultiply_0, e_X2_canMultiply_1, e_X2_canMultiply_4, e_X2_canMultiply_5, e_X2_canMultiply_8, e_X2_canMultiply_9, e_X2_canMultiply_12, e_X2_canMultiply_13, e_X2_canMultiply_16, e_X2_canMultiply_19, e_X2_canMultiply_20, e_X2_canMultiply_23, e_X2_canMultiply_26, e_X2_canMultiply_27, e_X2_canMultiply_30, e_X2_canMultiply_33, e_X2_canMultiply_34, e_X2_canMultiply_37, e_X2_canMultiply_38, e_X2_canMultiply_41, e_X2_canMultiply_44, e_X2_canMultiply_45, e_X2_canMultiply_48, e_X2_canMultiply_49, Option.bind_some, Option.bind_none, Option.toList_some, Option.toList_none, List.cons_append, List.nil_append, I_z, I_i8, I_q8, I_i7, I_q7, I_i6, I_q6, I_i5, I_q5, I_i4, I_q4, I_i3, I_q3, I_i2, I_q2, I_i1, I_q1, I_w8, I_w7, I_w6, I_w5, I_w4, I_w3, I_w2, I_c2n, I_c2i, I_c2q, eq_self, or_true, true_or, and_true, true_and, if_true, if_false, not_false_eq_true, not_true_eq_false, Option.map_none, Option.map_some, reduceCtorEq, isO, isT, isR, isM, gO_0, gO_1, gO_2, gO_3, gO_4, gO_5, gO_6, gO_7, gO_8, gO_9, gT_0, gT_1, gT_2, gR_0, gR_1, gR_2, gR_3, gM_0, gM_1, gM_2, gM_3, gM_4, gM_5, gM_6, gM_7, gM_8, gM_9, gM_10, gM_11, gM_12, gM_13, gM_14, gM_15, gM_16, gM_17, gM_18, gM_19, gM_20, lTs, lTr, lWd, lOp, lDp, lRw, lRd, nRw, nTr, nI_1, nI_add, sI_2, ht, ht2, c1, c2, k_even hS ht, k_even hS ht2, b01_t c3, b01_t c4, e10, k_wide' hS ht, c6]
          · have c6 : ¬ nI (wid S t) = nI (S.2.1 1 t2) := fun q => c5 ((nI_eq (by omega) (by omega)).mp q)
            rw [b01_f (show ¬ canM S t t2 from fun q => c5 q.2.2.2.2)]
            rw [c2] at c1
            simp only [e_X2_canMultiply_0, e_X2_canMultiply_1, e_X2_canMultiply_4, e_X2_canMultiply_5, e_X2_canMultiply_8, e_X2_canMultiply_9, e_X2_canMultiply_12, e_X2_canMultiply_13, e_X2_canMultiply_16, e_X2_canMultiply_19, e_X2_canMultiply_20, e_X2_canMultiply_23, e_X2_canMultiply_26, e_X2_canMultiply_27, e_X2_canMultiply_30, e_X2_canMultiply_33, e_X2_canMultiply_34, e_X2_canMultiply_37, e_X2_canMultiply_38, e_X2_canMultiply_41, e_X2_canMultiply_44, e_X2_canMultiply_45, e_X2_canMultiply_48, e_X2_canMultiply_49, Option.bind_some, Option.bind_none, Option.toList_some, Option.toList_none, List.cons_append, List.nil_append, I_z, I_i8, I_q8, I_i7, I_q7, I_i6, I_q6, I_i5, I_q5, I_i4, I_q4, I_i3, I_q3, I_i2, I_q2, I_i1, I_q1, I_w8, I_w7, I_w6, I_w5, I_w4, I_w3, I_w2, I_c2n, I_c2i, I_c2q, eq_self, or_true, true_or, and_true, true_and, if_true, if_false, not_false_eq_true, not_true_eq_false, Option.map_none, Option.map_some, reduceCtorEq, isO, isT, isR, isM, gO_0, gO_1, gO_2, gO_3, gO_4, gO_5, gO_6, gO_7, gO_8, gO_9, gT_0, gT_1, gT_2, gR_0, gR_1, gR_2, gR_3, gM_0, gM_1, gM_2, gM_3, gM_4, gM_5, gM_6, gM_7, gM_8, gM_9, gM_10, gM_11, gM_12, gM_13, gM_14, gM_15, gM_16, gM_17, gM_18, gM_19, gM_20, lTs, lTr, lWd, lOp, lDp, lRw, lRd, nRw, nTr, nI_1, nI_add, sI_2, ht, ht2, c1, c2, k_even hS ht, k_even hS ht2, b01_t c3, b01_t c4, e10, k_wide' hS ht, c6]
        · rw [b01_f (show ¬ canM S t t2 from fun q => c4 q.2.2.2.1)]
          rw [c2] at c1
          simp only [e_X2_canMultiply_0, e_X2_canMultiply_1, e_X2_canMultiply_4, e_X2_canMultiply_5, e_X2_canMultiply_8, e_X2_canMultiply_9, e_X2_canMultiply_12, e_X2_canMultiply_13, e_X2_canMultiply_16, e_X2_canMultiply_19, e_X2_canMultiply_20, e_X2_canMultiply_23, e_X2_canMultiply_26, e_X2_canMultiply_27, e_X2_canMultiply_30, e_X2_canMultiply_33, e_X2_canMultiply_34, e_X2_canMultiply_37, e_X2_canMultiply_38, e_X2_canMultiply_41, e_X2_canMultiply_44, e_X2_canMultiply_45, e_X2_canMultiply_48, e_X2_canMultiply_49, Option.bind_some, Option.bind_none, Option.toList_some, Option.toList_none, List.cons_append, List.nil_append, I_z, I_i8, I_q8, I_i7, I_q7, I_i6, I_q6, I_i5, I_q5, I_i4, I_q4, I_i3, I_q3, I_i2, I_q2, I_i1, I_q1, I_w8, I_w7, I_w6, I_w5, I_w4, I_w3, I_w2, I_c2n, I_c2i, I_c2q, eq_self, or_true, true_or, and_true, true_and, if_true, if_false, not_false_eq_true, not_true_eq_false, Option.map_none, Option.map_some, reduceCtorEq, isO, isT, isR, isM, gO_0, gO_1, gO_2, gO_3, gO_4, gO_5, gO_6, gO_7, gO_8, gO_9, gT_0, gT_1, gT_2, gR_0, gR_1, gR_2, gR_3, gM_0, gM_1, gM_2, gM_3, gM_4, gM_5, gM_6, gM_7, gM_8, gM_9, gM_10, gM_11, gM_12, gM_13, gM_14, gM_15, gM_16, gM_17, gM_18, gM_19, gM_20, lTs, lTr, lWd, lOp, lDp, lRw, lRd, nRw, nTr, nI_1, nI_add, sI_2, ht, ht2, c1, c2, k_even hS ht, k_even hS ht2, b01_t c3, b01_f c4, e10]
      · rw [b01_f (show ¬ canM S t t2 from fun q => c3 q.2.2.1)]
        rw [c2] at c1
        simp only [e_X2_canMultiply_0, e_X2_canMultiply_1, e_X2_canMultiply_4, e_X2_canMultiply_5, e_X2_canMultiply_8, e_X2_canMultiply_9, e_X2_canMultiply_12, e_X2_canMultiply_13, e_X2_canMultiply_16, e_X2_canMultiply_19, e_X2_canMultiply_20, e_X2_canMultiply_23, e_X2_canMultiply_26, e_X2_canMultiply_27, e_X2_canMultiply_30, e_X2_canMultiply_33, e_X2_canMultiply_34, e_X2_canMultiply_37, e_X2_canMultiply_38, e_X2_canMultiply_41, e_X2_canMultiply_44, e_X2_canMultiply_45, e_X2_canMultiply_48, e_X2_canMultiply_49, Option.bind_some, Option.bind_none, Option.toList_some, Option.toList_none, List.cons_append, List.nil_append, I_z, I_i8, I_q8, I_i7, I_q7, I_i6, I_q6, I_i5, I_q5, I_i4, I_q4, I_i3, I_q3, I_i2, I_q2, I_i1, I_q1, I_w8, I_w7, I_w6, I_w5, I_w4, I_w3, I_w2, I_c2n, I_c2i, I_c2q, eq_self, or_true, true_or, and_true, true_and, if_true, if_false, not_false_eq_true, not_true_eq_false, Option.map_none, Option.map_some, reduceCtorEq, isO, isT, isR, isM, gO_0, gO_1, gO_2, gO_3, gO_4, gO_5, gO_6, gO_7, gO_8, gO_9, gT_0, gT_1, gT_2, gR_0, gR_1, gR_2, gR_3, gM_0, gM_1, gM_2, gM_3, gM_4, gM_5, gM_6, gM_7, gM_8, gM_9, gM_10, gM_11, gM_12, gM_13, gM_14, gM_15, gM_16, gM_17, gM_18, gM_19, gM_20, lTs, lTr, lWd, lOp, lDp, lRw, lRd, nRw, nTr, nI_1, nI_add, sI_2, ht, ht2, c1, c2, k_even hS ht, b01_f c3]
    · rw [b01_f (show ¬ canM S t t2 from fun q => c2 q.2.1)]
      simp only [e_X2_canMultiply_0, e_X2_canMultiply_1, e_X2_canMultiply_4, e_X2_canMultiply_5, e_X2_canMultiply_8, e_X2_canMultiply_9, e_X2_canMultiply_12, e_X2_canMultiply_13, e_X2_canMultiply_16, e_X2_canMultiply_19, e_X2_canMultiply_20, e_X2_canMultiply_23, e_X2_canMultiply_26, e_X2_canMultiply_27, e_X2_canMultiply_30, e_X2_canMultiply_33, e_X2_canMultiply_34, e_X2_canMultiply_37, e_X2_canMultiply_38, e_X2_canMultiply_41, e_X2_canMultiply_44, e_X2_canMultiply_45, e_X2_canMultiply_48, e_X2_canMultiply_49, Option.bind_some, Option.bind_none, Option.toList_some, Option.toList_none, List.cons_append, List.nil_append, I_z, I_i8, I_q8, I_i7, I_q7, I_i6, I_q6, I_i5, I_q5, I_i4, I_q4, I_i3, I_q3, I_i2, I_q2, I_i1, I_q1, I_w8, I_w7, I_w6, I_w5, I_w4, I_w3, I_w2, I_c2n, I_c2i, I_c2q, eq_self, or_true, true_or, and_true, true_and, if_true, if_false, not_false_eq_true, not_true_eq_false, Option.map_none, Option.map_some, reduceCtorEq, isO, isT, isR, isM, gO_0, gO_1, gO_2, gO_3, gO_4, gO_5, gO_6, gO_7, gO_8, gO_9, gT_0, gT_1, gT_2, gR_0, gR_1, gR_2, gR_3, gM_0, gM_1, gM_2, gM_3, gM_4, gM_5, gM_6, gM_7, gM_8, gM_9, gM_10, gM_11, gM_12, gM_13, gM_14, gM_15, gM_16, gM_17, gM_18, gM_19, gM_20, lTs, lTr, lWd, lOp, lDp, lRw, lRd, nRw, nTr, nI_1, nI_add, sI_2, ht, ht2, c1, c2]
theorem k_prod_unk (h16 : S.2.1 0 0 ≤ 16) (h : unk S a ∨ unk S b) : ev X (d + 4) m_X2_product 0 [some (va_rf (some (aO X))), some (.int a), some (.int b), none, none, none, none, none, none] [] (rp X S) = some (some (.int (-1000001)), rp X S) := by
  rcases unk_or h16 a with h1 | ⟨t, ht, rfl⟩
  · simp only [e_X2_product_0, e_X2_product_1, e_X2_product_2, e_X2_product_5, e_X2_product_8, e_X2_product_9, e_X2_product_10, e_X2_product_13, e_X2_product_16, e_X2_product_18, Option.bind_some, Option.bind_none, Option.toList_some, Option.toList_none, List.cons_append, List.nil_append, I_z, I_i8, I_q8, I_i7, I_q7, I_i6, I_q6, I_i5, I_q5, I_i4, I_q4, I_i3, I_q3, I_i2, I_q2, I_i1, I_q1, I_w8, I_w7, I_w6, I_w5, I_w4, I_w3, I_w2, I_c2n, I_c2i, I_c2q, eq_self, or_true, true_or, and_true, true_and, if_true, if_false, not_false_eq_true, not_true_eq_false, Option.map_none, Option.map_some, reduceCtorEq, isO, isT, isR, isM, gO_0, gO_1, gO_2, gO_3, gO_4, gO_5, gO_6, gO_7, gO_8, gO_9, gT_0, gT_1, gT_2, gR_0, gR_1, gR_2, gR_3, gM_0, gM_1, gM_2, gM_3, gM_4, gM_5, gM_6, gM_7, gM_8, gM_9, gM_10, gM_11, gM_12, gM_13, gM_14, gM_15, gM_16, gM_17, gM_18, gM_19, gM_20, lTs, lTr, lWd, lOp, lDp, lRw, lRd, nRw, nTr, nI_1, nI_add, sI_2, k_isUnknown1 h1, e10]
  · have h2 : unk S b := h.resolve_left (unk_no ht h16)
    simp only [e_X2_product_0, e_X2_product_1, e_X2_product_2, e_X2_product_5, e_X2_product_8, e_X2_product_9, e_X2_product_10, e_X2_product_13, e_X2_product_16, e_X2_product_18, Option.bind_some, Option.bind_none, Option.toList_some, Option.toList_none, List.cons_append, List.nil_append, I_z, I_i8, I_q8, I_i7, I_q7, I_i6, I_q6, I_i5, I_q5, I_i4, I_q4, I_i3, I_q3, I_i2, I_q2, I_i1, I_q1, I_w8, I_w7, I_w6, I_w5, I_w4, I_w3, I_w2, I_c2n, I_c2i, I_c2q, eq_self, or_true, true_or, and_true, true_and, if_true, if_false, not_false_eq_true, not_true_eq_false, Option.map_none, Option.map_some, reduceCtorEq, isO, isT, isR, isM, gO_0, gO_1, gO_2, gO_3, gO_4, gO_5, gO_6, gO_7, gO_8, gO_9, gT_0, gT_1, gT_2, gR_0, gR_1, gR_2, gR_3, gM_0, gM_1, gM_2, gM_3, gM_4, gM_5, gM_6, gM_7, gM_8, gM_9, gM_10, gM_11, gM_12, gM_13, gM_14, gM_15, gM_16, gM_17, gM_18, gM_19, gM_20, lTs, lTr, lWd, lOp, lDp, lRw, lRd, nRw, nTr, nI_1, nI_add, sI_2, k_isUnknown0 ht h16, k_isUnknown1 h2, e10]
theorem k_prod_state (hS : WB S) (h1 : t < S.2.1 0 0) (h2 : t2 < S.2.1 0 0) (hc : ¬ canM S t t2) : ev X (d + 4) m_X2_product 0 [some (va_rf (some (aO X))), some (.int (nI t)), some (.int (nI t2)), none, none, none, none, none, none] [] (rp X S) = some (some (.int (-1000003)), rp X S) := by
  have h16 := hS.1
  have ht : t < 16 := by omega
  have ht2 : t2 < 16 := by omega
  simp only [e_X2_product_0, e_X2_product_1, e_X2_product_2, e_X2_product_5, e_X2_product_8, e_X2_product_9, e_X2_product_10, e_X2_product_13, e_X2_product_16, e_X2_product_18, e_X2_product_19, e_X2_product_20, e_X2_product_23, e_X2_product_24, e_X2_product_25, e_X2_product_26, e_X2_product_27, e_X2_product_30, e_X2_product_31, e_X2_product_32, e_X2_product_34, e_X2_product_35, e_X2_product_37, e_X2_product_40, e_X2_product_43, e_X2_product_45, Option.bind_some, Option.bind_none, Option.toList_some, Option.toList_none, List.cons_append, List.nil_append, I_z, I_i8, I_q8, I_i7, I_q7, I_i6, I_q6, I_i5, I_q5, I_i4, I_q4, I_i3, I_q3, I_i2, I_q2, I_i1, I_q1, I_w8, I_w7, I_w6, I_w5, I_w4, I_w3, I_w2, I_c2n, I_c2i, I_c2q, eq_self, or_true, true_or, and_true, true_and, if_true, if_false, not_false_eq_true, not_true_eq_false, Option.map_none, Option.map_some, reduceCtorEq, isO, isT, isR, isM, gO_0, gO_1, gO_2, gO_3, gO_4, gO_5, gO_6, gO_7, gO_8, gO_9, gT_0, gT_1, gT_2, gR_0, gR_1, gR_2, gR_3, gM_0, gM_1, gM_2, gM_3, gM_4, gM_5, gM_6, gM_7, gM_8, gM_9, gM_10, gM_11, gM_12, gM_13, gM_14, gM_15, gM_16, gM_17, gM_18, gM_19, gM_20, lTs, lTr, lWd, lOp, lDp, lRw, lRd, nRw, nTr, nI_1, nI_add, sI_2, ht, ht2, k_isUnknown0 h1 h16, k_isUnknown0 h2 h16, k_canM hS ht ht2, b01_f hc]
theorem k_prod_room (hS : WB S) (h1 : t < S.2.1 0 0) (h2 : t2 < S.2.1 0 0) (hc : canM S t t2) (hf : S.2.1 0 0 = 16) : ev X (d + 4) m_X2_product 0 [some (va_rf (some (aO X))), some (.int (nI t)), some (.int (nI t2)), none, none, none, none, none, none] [] (rp X S) = some (some (.int (-1000004)), rp X S) := by
  have h16 := hS.1
  have ht : t < 16 := by omega
  have ht2 : t2 < 16 := by omega
  simp only [e_X2_product_0, e_X2_product_1, e_X2_product_2, e_X2_product_5, e_X2_product_8, e_X2_product_9, e_X2_product_10, e_X2_product_13, e_X2_product_16, e_X2_product_18, e_X2_product_19, e_X2_product_20, e_X2_product_23, e_X2_product_24, e_X2_product_25, e_X2_product_26, e_X2_product_27, e_X2_product_30, e_X2_product_31, e_X2_product_32, e_X2_product_34, e_X2_product_35, e_X2_product_37, e_X2_product_40, e_X2_product_43, e_X2_product_45, e_X2_product_46, e_X2_product_47, e_X2_product_50, e_X2_product_53, e_X2_product_55, Option.bind_some, Option.bind_none, Option.toList_some, Option.toList_none, List.cons_append, List.nil_append, I_z, I_i8, I_q8, I_i7, I_q7, I_i6, I_q6, I_i5, I_q5, I_i4, I_q4, I_i3, I_q3, I_i2, I_q2, I_i1, I_q1, I_w8, I_w7, I_w6, I_w5, I_w4, I_w3, I_w2, I_c2n, I_c2i, I_c2q, eq_self, or_true, true_or, and_true, true_and, if_true, if_false, not_false_eq_true, not_true_eq_false, Option.map_none, Option.map_some, reduceCtorEq, isO, isT, isR, isM, gO_0, gO_1, gO_2, gO_3, gO_4, gO_5, gO_6, gO_7, gO_8, gO_9, gT_0, gT_1, gT_2, gR_0, gR_1, gR_2, gR_3, gM_0, gM_1, gM_2, gM_3, gM_4, gM_5, gM_6, gM_7, gM_8, gM_9, gM_10, gM_11, gM_12, gM_13, gM_14, gM_15, gM_16, gM_17, gM_18, gM_19, gM_20, lTs, lTr, lWd, lOp, lDp, lRw, lRd, nRw, nTr, nI_1, nI_add, sI_2, ht, ht2, k_isUnknown0 h1 h16, k_isUnknown0 h2 h16, k_canM hS ht ht2, b01_t hc, e10, k_isFull h16, if_pos hf]
/-- cell y of row to is what the product asks, by the rows of B -/
def prdC (B S : St) (k : Int32) (to y l t2 : Nat) : Prop := if k = 0 then S.1 (100 + to) y = fB B l t2 y (B.2.1 2 l) 0 0 else if k = 1 then S.1 (100 + to) y = fM' B l t2 y (B.2.1 2 l) 0 0 else match fR B l t2 y (B.2.1 2 l) 0 0 with
  | none => S.1 (100 + to) y = 1 ∧ S.2.2.2 (1 + to) y = 0
  | some u => S.1 (100 + to) y = 0 ∧ S.2.2.2 (1 + to) y = u
theorem fB_c {n0 : Nat} (hN : NW B S n0) (hl : l < n0) : ∀ m k s, (∀ k', k ≤ k' → k' < k + m → rowAt B t2 k' < n0) → fB S l t2 yy m k s = fB B l t2 yy m k s := by
  intro m
  induction m with
  | zero => intro k s _; rfl
  | succ m ih =>
    intro k s h
    have e : rowAt S t2 k = rowAt B t2 k := by unfold rowAt; rw [hN.2.1]
    have hk := h k (Nat.le_refl _) (by omega)
    unfold fB
    rw [e, hN.2.2.1 (100 + l) (by omega), hN.2.2.1 (100 + rowAt B t2 k) (by omega)]
    exact ih (k + 1) _ (fun k' q1 q2 => h k' (by omega) (by omega))
theorem fM_c {n0 : Nat} (hN : NW B S n0) (hl : l < n0) : ∀ m k s, (∀ k', k ≤ k' → k' < k + m → rowAt B t2 k' < n0) → fM' S l t2 yy m k s = fM' B l t2 yy m k s := by
  intro m
  induction m with
  | zero => intro k s _; rfl
  | succ m ih =>
    intro k s h
    have e : rowAt S t2 k = rowAt B t2 k := by unfold rowAt; rw [hN.2.1]
    have hk := h k (Nat.le_refl _) (by omega)
    unfold fM'
    rw [e, hN.2.2.1 (100 + l) (by omega), hN.2.2.1 (100 + rowAt B t2 k) (by omega)]
    exact ih (k + 1) _ (fun k' q1 q2 => h k' (by omega) (by omega))
theorem nn_c {n0 : Nat} (hN : NW B S n0) (hl : l < n0) : nn S l j = nn B l j := by
  unfold nn
  rw [hN.2.2.1 5 (by omega), hN.2.2.1 (100 + l) (by omega)]
theorem fR_c {n0 : Nat} (hN : NW B S n0) (hl : l < n0) : ∀ m k s, (∀ k', k ≤ k' → k' < k + m → rowAt B t2 k' < n0) → fR S l t2 yy m k s = fR B l t2 yy m k s := by
  intro m
  induction m with
  | zero => intro k s _; rfl
  | succ m ih =>
    intro k s h
    have e : rowAt S t2 k = rowAt B t2 k := by unfold rowAt; rw [hN.2.1]
    have hk := h k (Nat.le_refl _) (by omega)
    unfold fR
    rw [e, hN.2.2.2 (1 + l) (by omega), hN.2.2.2 (1 + rowAt B t2 k) (by omega), nn_c hN hl, nn_c hN hk, ih (k + 1) _ (fun k' q1 q2 => h k' (by omega) (by omega))]
theorem sReal_eq {o : Option UInt64} : (sReal S to yy o).2.1 = S.2.1 ∧ (sReal S to yy o).2.2.1 = S.2.2.1 ∧ (∀ g, g ≠ 100 + to → (sReal S to yy o).1 g = S.1 g) ∧ (∀ g, g ≠ 1 + to → (sReal S to yy o).2.2.2 g = S.2.2.2 g) ∧ ∀ y', y' ≠ yy → (sReal S to yy o).1 (100 + to) y' = S.1 (100 + to) y' ∧ (sReal S to yy o).2.2.2 (1 + to) y' = S.2.2.2 (1 + to) y' := by
  cases o with
  | none =>
    refine ⟨rfl, rfl, fun g hg => ?_, fun g hg => ?_, fun y' hy => ⟨?_, ?_⟩⟩
    · show (sMark S to yy).1 g = _; unfold sMark; rw [sF_1, sI_1, up_ne hg]
    · show (sMark S to yy).2.2.2 g = _; unfold sMark; rw [sF_4, up_ne hg]; rfl
    · show (sMark S to yy).1 (100 + to) y' = _; unfold sMark; rw [sF_1, sI_1, up_eq, pk_un hy]
    · show (sMark S to yy).2.2.2 (1 + to) y' = _; unfold sMark; rw [sF_4, up_eq]; exact if_neg hy
  | some u =>
    refine ⟨rfl, rfl, fun g hg => rfl, fun g hg => ?_, fun y' hy => ⟨rfl, ?_⟩⟩
    · show (sF S (1 + to) _).2.2.2 g = _; rw [sF_4, up_ne hg]
    · show (sF S (1 + to) _).2.2.2 (1 + to) y' = _; rw [sF_4, up_eq]; exact if_neg hy
theorem sMul_eq : (sMul S to yy l t2).2.1 = S.2.1 ∧ (sMul S to yy l t2).2.2.1 = S.2.2.1 ∧ (∀ g, g ≠ 100 + to → (sMul S to yy l t2).1 g = S.1 g) ∧ (∀ g, g ≠ 1 + to → (sMul S to yy l t2).2.2.2 g = S.2.2.2 g) ∧ ∀ y', y' ≠ yy → (sMul S to yy l t2).1 (100 + to) y' = S.1 (100 + to) y' ∧ (sMul S to yy l t2).2.2.2 (1 + to) y' = S.2.2.2 (1 + to) y' := by
  unfold sMul
  split
  · exact ⟨rfl, rfl, fun g hg => by rw [sI_1, up_ne hg], fun g hg => rfl, fun y' hy => ⟨by rw [sI_1, up_eq, pk_un hy], rfl⟩⟩
  · split
    · exact ⟨rfl, rfl, fun g hg => by rw [sI_1, up_ne hg], fun g hg => rfl, fun y' hy => ⟨by rw [sI_1, up_eq, pk_un hy], rfl⟩⟩
    · exact sReal_eq
theorem sMul_prd {n0 : Nat} (hN : NW B S n0) (hl : l < n0) (hto : n0 ≤ to) (hR : ∀ k', k' < B.2.1 2 l → rowAt B t2 k' < n0) (h0 : S.1 (100 + to) yy = 0) : prdC B (sMul S to yy l t2) (B.1 5 to) to yy l t2 := by
  have e5 : S.1 5 to = B.1 5 to := by rw [hN.2.2.1 5 (by omega)]
  have eL : S.2.1 2 l = B.2.1 2 l := by rw [hN.1]
  unfold prdC sMul
  rw [e5, eL]
  by_cases k0 : B.1 5 to = 0
  · rw [if_pos k0, if_pos k0, sI_1, up_eq, pk_us]
    exact fB_c hN hl _ 0 0 (fun k' _ q => hR k' (by omega))
  · rw [if_neg k0, if_neg k0]
    by_cases k1 : B.1 5 to = 1
    · rw [if_pos k1, if_pos k1, sI_1, up_eq, pk_us]
      exact fM_c hN hl _ 0 0 (fun k' _ q => hR k' (by omega))
    · rw [if_neg k1, if_neg k1, fR_c hN hl _ 0 0 (fun k' _ q => hR k' (by omega))]
      cases fR B l t2 yy (B.2.1 2 l) 0 0 with
      | none =>
        show (sMark S to yy).1 (100 + to) yy = 1 ∧ (sMark S to yy).2.2.2 (1 + to) yy = 0
        unfold sMark
        rw [sF_1, sI_1, up_eq, pk_us, sF_4, up_eq]
        exact ⟨rfl, if_pos rfl⟩
      | some u =>
        show (sF S (1 + to) _).1 (100 + to) yy = 0 ∧ (sF S (1 + to) _).2.2.2 (1 + to) yy = u
        rw [sF_1, sF_4, up_eq]
        exact ⟨h0, if_pos rfl⟩
end PR1
