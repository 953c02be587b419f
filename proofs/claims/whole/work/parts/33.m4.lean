section M4
variable {X : I_X} {S A : St} {nu : Nat → Nat} {d t t2 r r2 i j n m : Nat} {a b c e v x y z : Int32}
theorem q_fo_loop (v1 : TV S A nu t) : ∀ m i l3, i + m = A.2.1 1 t → ev X d m_X3_firstOdd 2 [some (va_rf (some (aM X))), some (.int (nI t)), some (.int (nI i)), l3] [] (rp X S) = some (some (.int (oddF A t m i)), rp X S) := by
  have hh := v1.2.2.1
  intro m
  induction m with
  | zero =>
    intro i l3 hi
    have h1 : nI (A.2.1 1 t) ≤ nI i := nI_le (by omega) (by omega)
    rw [e_X3_firstOdd_2]
    simp only [e_X3_firstOdd_3, e_X3_firstOdd_4, e_X3_firstOdd_7, e_X3_firstOdd_8, e_X3_firstOdd_9, e_X3_firstOdd_12, e_X3_firstOdd_13, e_X3_firstOdd_16, e_X3_firstOdd_18, e_X3_firstOdd_19, e_X3_firstOdd_20, e_X3_firstOdd_21, e_X3_firstOdd_22, e_X3_firstOdd_23, e_X3_firstOdd_24, e_X3_firstOdd_25, e_X3_firstOdd_28, e_X3_firstOdd_29, e_X3_firstOdd_32, e_X3_firstOdd_33, e_X3_firstOdd_34, e_X3_firstOdd_35, e_X3_firstOdd_38, e_X3_firstOdd_39, e_X3_firstOdd_40, e_X3_firstOdd_43, e_X3_firstOdd_44, e_X3_firstOdd_45, e_X3_firstOdd_48, e_X3_firstOdd_51, e_X3_firstOdd_53, Option.bind_some, Option.bind_none, Option.toList_some, Option.toList_none, List.cons_append, List.nil_append, I_z, I_i8, I_q8, I_i7, I_q7, I_i6, I_q6, I_i5, I_q5, I_i4, I_q4, I_i3, I_q3, I_i2, I_q2, I_i1, I_q1, I_w8, I_w7, I_w6, I_w5, I_w4, I_w3, I_w2, I_c2n, I_c2i, I_c2q, eq_self, or_true, true_or, and_true, true_and, if_true, if_false, not_false_eq_true, not_true_eq_false, Option.map_none, Option.map_some, reduceCtorEq, gM_2, lA1, v1.1, v1.2.1, h1, oddF]
  | succ m ih =>
    intro i l3 hi
    have h1 : ¬ nI (A.2.1 1 t) ≤ nI i := nI_ge (by omega) (by omega)
    have hi1 : i < A.2.1 1 t := by omega
    have hb1 : 12 * t + i < 192 := by have := v1.1; omega
    have hq := v1.2.2.2.2.1 i hi1
    cases hp : A.2.2.1 t i with
    | none =>
      rw [hp, plN_n] at hq
      have hb : badL A t (A.2.1 1 t) i := badL_n hp
      rw [e_X3_firstOdd_2]
      simp only [e_X3_firstOdd_3, e_X3_firstOdd_4, e_X3_firstOdd_7, e_X3_firstOdd_8, e_X3_firstOdd_9, e_X3_firstOdd_12, e_X3_firstOdd_13, e_X3_firstOdd_16, e_X3_firstOdd_18, e_X3_firstOdd_19, e_X3_firstOdd_20, e_X3_firstOdd_21, e_X3_firstOdd_22, e_X3_firstOdd_23, e_X3_firstOdd_24, e_X3_firstOdd_25, e_X3_firstOdd_28, e_X3_firstOdd_29, e_X3_firstOdd_32, e_X3_firstOdd_33, e_X3_firstOdd_34, e_X3_firstOdd_35, e_X3_firstOdd_38, e_X3_firstOdd_39, e_X3_firstOdd_40, e_X3_firstOdd_43, e_X3_firstOdd_44, e_X3_firstOdd_45, e_X3_firstOdd_48, e_X3_firstOdd_51, e_X3_firstOdd_53, Option.bind_some, Option.bind_none, Option.toList_some, Option.toList_none, List.cons_append, List.nil_append, I_z, I_i8, I_q8, I_i7, I_q7, I_i6, I_q6, I_i5, I_q5, I_i4, I_q4, I_i3, I_q3, I_i2, I_q2, I_i1, I_q1, I_w8, I_w7, I_w6, I_w5, I_w4, I_w3, I_w2, I_c2n, I_c2i, I_c2q, eq_self, or_true, true_or, and_true, true_and, if_true, if_false, not_false_eq_true, not_true_eq_false, Option.map_none, Option.map_some, reduceCtorEq, gM_2, gM_3, lA1, lA2, v1.1, v1.2.1, n12, nI_add, hb1, hq, h1, neg1_lt, oddF, hb]
    | some r =>
      rw [hp, plN_s] at hq
      obtain ⟨g1, g2, g3⟩ := v1.2.2.2.2.2 i r hi1 hp
      have gg : ¬ nI (nu r) < 0 := nI_pos (by omega)
      have g9 : nu r < 900 := by omega
      have ih1 := ih (i + 1) (some (.int (nI (nu r)))) (by omega)
      by_cases hl : A.2.1 2 r = A.2.1 1 t
      · have hb : ¬ badL A t (A.2.1 1 t) i := fun q => (badL_s hp).mp q hl
        have hl2 : nI (A.2.1 2 r) = nI (A.2.1 1 t) := by rw [hl]
        rw [e_X3_firstOdd_2]
        simp only [e_X3_firstOdd_3, e_X3_firstOdd_4, e_X3_firstOdd_7, e_X3_firstOdd_8, e_X3_firstOdd_9, e_X3_firstOdd_12, e_X3_firstOdd_13, e_X3_firstOdd_16, e_X3_firstOdd_18, e_X3_firstOdd_19, e_X3_firstOdd_20, e_X3_firstOdd_21, e_X3_firstOdd_22, e_X3_firstOdd_23, e_X3_firstOdd_24, e_X3_firstOdd_25, e_X3_firstOdd_28, e_X3_firstOdd_29, e_X3_firstOdd_32, e_X3_firstOdd_33, e_X3_firstOdd_34, e_X3_firstOdd_35, e_X3_firstOdd_38, e_X3_firstOdd_39, e_X3_firstOdd_40, e_X3_firstOdd_43, e_X3_firstOdd_44, e_X3_firstOdd_45, e_X3_firstOdd_48, e_X3_firstOdd_51, e_X3_firstOdd_53, Option.bind_some, Option.bind_none, Option.toList_some, Option.toList_none, List.cons_append, List.nil_append, I_z, I_i8, I_q8, I_i7, I_q7, I_i6, I_q6, I_i5, I_q5, I_i4, I_q4, I_i3, I_q3, I_i2, I_q2, I_i1, I_q1, I_w8, I_w7, I_w6, I_w5, I_w4, I_w3, I_w2, I_c2n, I_c2i, I_c2q, eq_self, or_true, true_or, and_true, true_and, if_true, if_false, not_false_eq_true, not_true_eq_false, Option.map_none, Option.map_some, reduceCtorEq, gM_2, gM_3, gM_5, lA1, lA2, lA3, v1.1, v1.2.1, n12, nI_add, hb1, hq, h1, gg, g9, g2, hl2, oddF, hb, nI_1, ih1]
      · have hb : badL A t (A.2.1 1 t) i := (badL_s hp).mpr hl
        have hl2 : ¬ nI (A.2.1 2 r) = nI (A.2.1 1 t) := fun q => hl ((nI_eq (by omega) (by omega)).mp q)
        rw [e_X3_firstOdd_2]
        simp only [e_X3_firstOdd_3, e_X3_firstOdd_4, e_X3_firstOdd_7, e_X3_firstOdd_8, e_X3_firstOdd_9, e_X3_firstOdd_12, e_X3_firstOdd_13, e_X3_firstOdd_16, e_X3_firstOdd_18, e_X3_firstOdd_19, e_X3_firstOdd_20, e_X3_firstOdd_21, e_X3_firstOdd_22, e_X3_firstOdd_23, e_X3_firstOdd_24, e_X3_firstOdd_25, e_X3_firstOdd_28, e_X3_firstOdd_29, e_X3_firstOdd_32, e_X3_firstOdd_33, e_X3_firstOdd_34, e_X3_firstOdd_35, e_X3_firstOdd_38, e_X3_firstOdd_39, e_X3_firstOdd_40, e_X3_firstOdd_43, e_X3_firstOdd_44, e_X3_firstOdd_45, e_X3_firstOdd_48, e_X3_firstOdd_51, e_X3_firstOdd_53, Option.bind_some, Option.bind_none, Option.toList_some, Option.toList_none, List.cons_append, List.nil_append, I_z, I_i8, I_q8, I_i7, I_q7, I_i6, I_q6, I_i5, I_q5, I_i4, I_q4, I_i3, I_q3, I_i2, I_q2, I_i1, I_q1, I_w8, I_w7, I_w6, I_w5, I_w4, I_w3, I_w2, I_c2n, I_c2i, I_c2q, eq_self, or_true, true_or, and_true, true_and, if_true, if_false, not_false_eq_true, not_true_eq_false, Option.map_none, Option.map_some, reduceCtorEq, gM_2, gM_3, gM_5, lA1, lA2, lA3, v1.1, v1.2.1, n12, nI_add, hb1, hq, h1, gg, g9, g2, hl2, oddF, hb]
theorem q_fo (v1 : TV S A nu t) : ev X d m_X3_firstOdd 0 [some (va_rf (some (aM X))), some (.int (nI t)), none, none] [] (rp X S) = some (some (.int (oddF A t (A.2.1 1 t) 0)), rp X S) := by
  have h := q_fo_loop (X := X) (d := d) v1 (A.2.1 1 t) 0 none (by omega)
  rw [nI_0] at h
  simp only [e_X3_firstOdd_0, e_X3_firstOdd_1, Option.bind_some, Option.bind_none, Option.toList_some, Option.toList_none, List.cons_append, List.nil_append, I_z, I_i8, I_q8, I_i7, I_q7, I_i6, I_q6, I_i5, I_q5, I_i4, I_q4, I_i3, I_q3, I_i2, I_q2, I_i1, I_q1, I_w8, I_w7, I_w6, I_w5, I_w4, I_w3, I_w2, I_c2n, I_c2i, I_c2q, eq_self, or_true, true_or, and_true, true_and, if_true, if_false, not_false_eq_true, not_true_eq_false, Option.map_none, Option.map_some, reduceCtorEq, h]
theorem q_odd_unk (hM : S.1 20 0 = nI (A.2.1 0 0)) (h16 : A.2.1 0 0 ≤ 16) (h : unk A a) : ev X (d + 2) m_X3_odd 0 [some (va_rf (some (aM X))), some (.int a)] [] (rp X S) = some (some (.int (-1000001)), rp X S) := by
  simp only [e_X3_odd_0, e_X3_odd_1, e_X3_odd_2, e_X3_odd_5, e_X3_odd_8, e_X3_odd_9, e_X3_odd_10, e_X3_odd_13, e_X3_odd_16, e_X3_odd_18, Option.bind_some, Option.bind_none, Option.toList_some, Option.toList_none, List.cons_append, List.nil_append, I_z, I_i8, I_q8, I_i7, I_q7, I_i6, I_q6, I_i5, I_q5, I_i4, I_q4, I_i3, I_q3, I_i2, I_q2, I_i1, I_q1, I_w8, I_w7, I_w6, I_w5, I_w4, I_w3, I_w2, I_c2n, I_c2i, I_c2q, eq_self, or_true, true_or, and_true, true_and, if_true, if_false, not_false_eq_true, not_true_eq_false, Option.map_none, Option.map_some, reduceCtorEq, isM, q_isTable0 hM h16 h]
theorem q_odd (hM : S.1 20 0 = nI (A.2.1 0 0)) (h16 : A.2.1 0 0 ≤ 16) (h1 : t < A.2.1 0 0) (v1 : TV S A nu t) : ev X (d + 2) m_X3_odd 0 [some (va_rf (some (aM X))), some (.int (nI t))] [] (rp X S) = some (some (.int (oddF A t (A.2.1 1 t) 0)), rp X S) := by
  have e10 : ¬ (1 : Int32) = 0 := by decide
  simp only [e_X3_odd_0, e_X3_odd_1, e_X3_odd_2, e_X3_odd_5, e_X3_odd_8, e_X3_odd_9, e_X3_odd_10, e_X3_odd_13, e_X3_odd_16, e_X3_odd_18, Option.bind_some, Option.bind_none, Option.toList_some, Option.toList_none, List.cons_append, List.nil_append, I_z, I_i8, I_q8, I_i7, I_q7, I_i6, I_q6, I_i5, I_q5, I_i4, I_q4, I_i3, I_q3, I_i2, I_q2, I_i1, I_q1, I_w8, I_w7, I_w6, I_w5, I_w4, I_w3, I_w2, I_c2n, I_c2i, I_c2q, eq_self, or_true, true_or, and_true, true_and, if_true, if_false, not_false_eq_true, not_true_eq_false, Option.map_none, Option.map_some, reduceCtorEq, isM, q_isTable1 hM h16 h1, e10, q_fo v1]
theorem q_wide (v1 : TV S A nu t) : ev X d m_X3_wideOf 0 [some (va_rf (some (aM X))), some (.int (nI t))] [] (rp X S) = some (some (.int (nI (wid A t))), rp X S) := by
  have ht := v1.1
  have hh := v1.2.2.1
  have hb : 12 * t < 192 := by omega
  by_cases h0 : A.2.1 1 t = 0
  · have e0 : nI (A.2.1 1 t) = 0 := by rw [h0]; rfl
    have ew : wid A t = 0 := if_pos h0
    simp only [e_X3_wideOf_0, e_X3_wideOf_1, e_X3_wideOf_4, e_X3_wideOf_5, e_X3_wideOf_6, e_X3_wideOf_9, e_X3_wideOf_10, e_X3_wideOf_13, e_X3_wideOf_15, e_X3_wideOf_16, e_X3_wideOf_17, e_X3_wideOf_18, e_X3_wideOf_21, e_X3_wideOf_22, e_X3_wideOf_25, e_X3_wideOf_26, e_X3_wideOf_29, e_X3_wideOf_30, e_X3_wideOf_33, e_X3_wideOf_35, e_X3_wideOf_36, e_X3_wideOf_37, e_X3_wideOf_38, e_X3_wideOf_39, Option.bind_some, Option.bind_none, Option.toList_some, Option.toList_none, List.cons_append, List.nil_append, I_z, I_i8, I_q8, I_i7, I_q7, I_i6, I_q6, I_i5, I_q5, I_i4, I_q4, I_i3, I_q3, I_i2, I_q2, I_i1, I_q1, I_w8, I_w7, I_w6, I_w5, I_w4, I_w3, I_w2, I_c2n, I_c2i, I_c2q, eq_self, or_true, true_or, and_true, true_and, if_true, if_false, not_false_eq_true, not_true_eq_false, Option.map_none, Option.map_some, reduceCtorEq, gM_2, lA1, v1.1, v1.2.1, e0, ew, nI_0]
  · have e0 : ¬ nI (A.2.1 1 t) = 0 := nI_z (by omega) h0
    have hq := v1.2.2.2.2.1 0 (by omega)
    rw [Nat.add_zero] at hq
    cases hp : A.2.2.1 t 0 with
    | none =>
      rw [hp, plN_n] at hq
      have ew : wid A t = 0 := by unfold wid; rw [if_neg h0, hp]
      simp only [e_X3_wideOf_0, e_X3_wideOf_1, e_X3_wideOf_4, e_X3_wideOf_5, e_X3_wideOf_6, e_X3_wideOf_9, e_X3_wideOf_10, e_X3_wideOf_13, e_X3_wideOf_15, e_X3_wideOf_16, e_X3_wideOf_17, e_X3_wideOf_18, e_X3_wideOf_21, e_X3_wideOf_22, e_X3_wideOf_25, e_X3_wideOf_26, e_X3_wideOf_29, e_X3_wideOf_30, e_X3_wideOf_33, e_X3_wideOf_35, e_X3_wideOf_36, e_X3_wideOf_37, e_X3_wideOf_38, e_X3_wideOf_39, Option.bind_some, Option.bind_none, Option.toList_some, Option.toList_none, List.cons_append, List.nil_append, I_z, I_i8, I_q8, I_i7, I_q7, I_i6, I_q6, I_i5, I_q5, I_i4, I_q4, I_i3, I_q3, I_i2, I_q2, I_i1, I_q1, I_w8, I_w7, I_w6, I_w5, I_w4, I_w3, I_w2, I_c2n, I_c2i, I_c2q, eq_self, or_true, true_or, and_true, true_and, if_true, if_false, not_false_eq_true, not_true_eq_false, Option.map_none, Option.map_some, reduceCtorEq, gM_2, gM_3, lA1, lA2, v1.1, v1.2.1, e0, ew, nI_0, n12, hb, hq, neg1_ge]
    | some r =>
      rw [hp, plN_s] at hq
      obtain ⟨g1, g2, g3⟩ := v1.2.2.2.2.2 0 r (by omega) hp
      have gg : 0 ≤ nI (nu r) := nI_pos' (by omega)
      have g9 : nu r < 900 := by omega
      have ew : wid A t = A.2.1 2 r := by unfold wid; rw [if_neg h0, hp]
      simp only [e_X3_wideOf_0, e_X3_wideOf_1, e_X3_wideOf_4, e_X3_wideOf_5, e_X3_wideOf_6, e_X3_wideOf_9, e_X3_wideOf_10, e_X3_wideOf_13, e_X3_wideOf_15, e_X3_wideOf_16, e_X3_wideOf_17, e_X3_wideOf_18, e_X3_wideOf_21, e_X3_wideOf_22, e_X3_wideOf_25, e_X3_wideOf_26, e_X3_wideOf_29, e_X3_wideOf_30, e_X3_wideOf_33, e_X3_wideOf_35, e_X3_wideOf_36, e_X3_wideOf_37, e_X3_wideOf_38, e_X3_wideOf_39, Option.bind_some, Option.bind_none, Option.toList_some, Option.toList_none, List.cons_append, List.nil_append, I_z, I_i8, I_q8, I_i7, I_q7, I_i6, I_q6, I_i5, I_q5, I_i4, I_q4, I_i3, I_q3, I_i2, I_q2, I_i1, I_q1, I_w8, I_w7, I_w6, I_w5, I_w4, I_w3, I_w2, I_c2n, I_c2i, I_c2q, eq_self, or_true, true_or, and_true, true_and, if_true, if_false, not_false_eq_true, not_true_eq_false, Option.map_none, Option.map_some, reduceCtorEq, gM_2, gM_3, gM_5, lA1, lA2, lA3, v1.1, v1.2.1, e0, ew, n12, hb, hq, gg, g9, g2]
theorem wid_16 (v1 : TV S A nu t) : wid A t ≤ 16 := by
  unfold wid
  split
  · omega
  · rename_i h0
    split
    · omega
    · rename_i r h; exact (v1.2.2.2.2.2 0 r (by omega) h).2.2
theorem b01_a {P : Nat → Prop} {i : Nat} : b01 (∀ k, k < i + 1 → P k) = b01 ((∀ k, k < i → P k) ∧ P i) := by
  refine b01_c ⟨fun q => ⟨fun k h => q k (by omega), q i (by omega)⟩, fun q k h => ?_⟩
  rcases Nat.lt_or_ge k i with z | z
  · exact q.1 k z
  · have : k = i := by omega
    subst this; exact q.2
theorem q_even_loop (v1 : TV S A nu t) : ∀ m i l4, i + m = A.2.1 1 t → ev X (d + 1) m_X3_isEven 4 [some (va_rf (some (aM X))), some (.int (nI t)), some (.int (b01 (∀ k, k < i → ¬ badL A t (wid A t) k))), some (.int (nI i)), l4] [] (rp X S) = some (some (.int (b01 (∀ k, k < A.2.1 1 t → ¬ badL A t (wid A t) k))), rp X S) := by
  have hh := v1.2.2.1
  have hw := wid_16 v1
  have e10 : ¬ (1 : Int32) = 0 := by decide
  intro m
  induction m with
  | zero =>
    intro i l4 hi
    have h1 : nI (A.2.1 1 t) ≤ nI i := nI_le (by omega) (by omega)
    have e1 : i = A.2.1 1 t := by omega
    rw [e1] at h1 ⊢
    rw [e_X3_isEven_4]
    simp only [e_X3_isEven_5, e_X3_isEven_6, e_X3_isEven_9, e_X3_isEven_10, e_X3_isEven_11, e_X3_isEven_14, e_X3_isEven_15, e_X3_isEven_18, e_X3_isEven_20, e_X3_isEven_21, e_X3_isEven_22, e_X3_isEven_23, e_X3_isEven_24, e_X3_isEven_25, e_X3_isEven_27, e_X3_isEven_28, e_X3_isEven_31, e_X3_isEven_33, e_X3_isEven_36, e_X3_isEven_37, e_X3_isEven_40, e_X3_isEven_42, e_X3_isEven_43, e_X3_isEven_44, e_X3_isEven_45, e_X3_isEven_48, e_X3_isEven_51, e_X3_isEven_52, e_X3_isEven_55, e_X3_isEven_56, e_X3_isEven_57, e_X3_isEven_60, e_X3_isEven_63, e_X3_isEven_64, Option.bind_some, Option.bind_none, Option.toList_some, Option.toList_none, List.cons_append, List.nil_append, I_z, I_i8, I_q8, I_i7, I_q7, I_i6, I_q6, I_i5, I_q5, I_i4, I_q4, I_i3, I_q3, I_i2, I_q2, I_i1, I_q1, I_w8, I_w7, I_w6, I_w5, I_w4, I_w3, I_w2, I_c2n, I_c2i, I_c2q, eq_self, or_true, true_or, and_true, true_and, if_true, if_false, not_false_eq_true, not_true_eq_false, Option.map_none, Option.map_some, reduceCtorEq, gM_2, lA1, v1.1, v1.2.1, h1, b01_or]
  | succ m ih =>
    intro i l4 hi
    have h1 : ¬ nI (A.2.1 1 t) ≤ nI i := nI_ge (by omega) (by omega)
    have hi1 : i < A.2.1 1 t := by omega
    have hb1 : 12 * t + i < 192 := by have := v1.1; omega
    have hq := v1.2.2.2.2.1 i hi1
    by_cases hev : ∀ k, k < i → ¬ badL A t (wid A t) k
    · rw [b01_t hev]
      cases hp : A.2.2.1 t i with
      | none =>
        rw [hp, plN_n] at hq
        have ih1 := ih (i + 1) (some (.int (-1))) (by omega)
        rw [b01_f (show ¬ ∀ k, k < i + 1 → ¬ badL A t (wid A t) k from fun q => q i (by omega) (badL_n hp))] at ih1
        rw [e_X3_isEven_4]
        simp only [e_X3_isEven_5, e_X3_isEven_6, e_X3_isEven_9, e_X3_isEven_10, e_X3_isEven_11, e_X3_isEven_14, e_X3_isEven_15, e_X3_isEven_18, e_X3_isEven_20, e_X3_isEven_21, e_X3_isEven_22, e_X3_isEven_23, e_X3_isEven_24, e_X3_isEven_25, e_X3_isEven_27, e_X3_isEven_28, e_X3_isEven_31, e_X3_isEven_33, e_X3_isEven_36, e_X3_isEven_37, e_X3_isEven_40, e_X3_isEven_42, e_X3_isEven_43, e_X3_isEven_44, e_X3_isEven_45, e_X3_isEven_48, e_X3_isEven_51, e_X3_isEven_52, e_X3_isEven_55, e_X3_isEven_56, e_X3_isEven_57, e_X3_isEven_60, e_X3_isEven_63, e_X3_isEven_64, Option.bind_some, Option.bind_none, Option.toList_some, Option.toList_none, List.cons_append, List.nil_append, I_z, I_i8, I_q8, I_i7, I_q7, I_i6, I_q6, I_i5, I_q5, I_i4, I_q4, I_i3, I_q3, I_i2, I_q2, I_i1, I_q1, I_w8, I_w7, I_w6, I_w5, I_w4, I_w3, I_w2, I_c2n, I_c2i, I_c2q, eq_self, or_true, true_or, and_true, true_and, if_true, if_false, not_false_eq_true, not_true_eq_false, Option.map_none, Option.map_some, reduceCtorEq, gM_2, gM_3, lA1, lA2, v1.1, v1.2.1, n12, nI_add, hb1, hq, h1, e10, neg1_lt, nI_1, ih1]
      | some r =>
        rw [hp, plN_s] at hq
        obtain ⟨g1, g2, g3⟩ := v1.2.2.2.2.2 i r hi1 hp
        have gg : ¬ nI (nu r) < 0 := nI_pos (by omega)
        have g9 : nu r < 900 := by omega
        have ih1 := ih (i + 1) (some (.int (nI (nu r)))) (by omega)
        by_cases hl : A.2.1 2 r = wid A t
        · have hl2 : nI (A.2.1 2 r) = nI (wid A t) := by rw [hl]
          rw [b01_t (show ∀ k, k < i + 1 → ¬ badL A t (wid A t) k from fun k hk => by
            rcases Nat.lt_or_ge k i with z | z
            · exact hev k z
            · have : k = i := by omega
              subst this; exact fun q => (badL_s hp).mp q hl)] at ih1
          rw [e_X3_isEven_4]
          simp only [e_X3_isEven_5, e_X3_isEven_6, e_X3_isEven_9, e_X3_isEven_10, e_X3_isEven_11, e_X3_isEven_14, e_X3_isEven_15, e_X3_isEven_18, e_X3_isEven_20, e_X3_isEven_21, e_X3_isEven_22, e_X3_isEven_23, e_X3_isEven_24, e_X3_isEven_25, e_X3_isEven_27, e_X3_isEven_28, e_X3_isEven_31, e_X3_isEven_33, e_X3_isEven_36, e_X3_isEven_37, e_X3_isEven_40, e_X3_isEven_42, e_X3_isEven_43, e_X3_isEven_44, e_X3_isEven_45, e_X3_isEven_48, e_X3_isEven_51, e_X3_isEven_52, e_X3_isEven_55, e_X3_isEven_56, e_X3_isEven_57, e_X3_isEven_60, e_X3_isEven_63, e_X3_isEven_64, Option.bind_some, Option.bind_none, Option.toList_some, Option.toList_none, List.cons_append, List.nil_append, I_z, I_i8, I_q8, I_i7, I_q7, I_i6, I_q6, I_i5, I_q5, I_i4, I_q4, I_i3, I_q3, I_i2, I_q2, I_i1, I_q1, I_w8, I_w7, I_w6, I_w5, I_w4, I_w3, I_w2, I_c2n, I_c2i, I_c2q, eq_self, or_true, true_or, and_true, true_and, if_true, if_false, not_false_eq_true, not_true_eq_false, Option.map_none, Option.map_some, reduceCtorEq, isM, gM_2, gM_3, gM_5, lA1, lA2, lA3, v1.1, v1.2.1, n12, nI_add, hb1, hq, h1, e10, gg, g9, g2, q_wide v1, hl2, nI_1, ih1]
        · have hl2 : ¬ nI (A.2.1 2 r) = nI (wid A t) := fun q => hl ((nI_eq (by omega) (by omega)).mp q)
          rw [b01_f (show ¬ ∀ k, k < i + 1 → ¬ badL A t (wid A t) k from fun q => q i (by omega) ((badL_s hp).mpr hl))] at ih1
          rw [e_X3_isEven_4]
          simp only [e_X3_isEven_5, e_X3_isEven_6, e_X3_isEven_9, e_X3_isEven_10, e_X3_isEven_11, e_X3_isEven_14, e_X3_isEven_15, e_X3_isEven_18, e_X3_isEven_20, e_X3_isEven_21, e_X3_isEven_22, e_X3_isEven_23, e_X3_isEven_24, e_X3_isEven_25, e_X3_isEven_27, e_X3_isEven_28, e_X3_isEven_31, e_X3_isEven_33, e_X3_isEven_36, e_X3_isEven_37, e_X3_isEven_40, e_X3_isEven_42, e_X3_isEven_43, e_X3_isEven_44, e_X3_isEven_45, e_X3_isEven_48, e_X3_isEven_51, e_X3_isEven_52, e_X3_isEven_55, e_X3_isEven_56, e_X3_isEven_57, e_X3_isEven_60, e_X3_isEven_63, e_X3_isEven_64, Option.bind_some, Option.bind_none, Option.toList_some, Option.toList_none, List.cons_append, List.nil_append, I_z, I_i8, I_q8, I_i7, I_q7, I_i6, I_q6, I_i5, I_q5, I_i4, I_q4, I_i3, I_q3, I_i2, I_q2, I_i1, I_q1, I_w8, I_w7, I_w6, I_w5, I_w4, I_w3, I_w2, I_c2n, I_c2i, I_c2q, eq_self, or_true, true_or, and_true, true_and, if_true, if_false, not_false_eq_true, not_true_eq_false, Option.map_none, Option.map_some, reduceCtorEq, isM, gM_2, gM_3, gM_5, lA1, lA2, lA3, v1.1, v1.2.1, n12, nI_add, hb1, hq, h1, e10, gg, g9, g2, q_wide v1, hl2, nI_1, ih1]
    · rw [b01_f hev]
      have ih1 := ih (i + 1) (some (.int (plN nu (A.2.2.1 t i)))) (by omega)
      rw [b01_f (show ¬ ∀ k, k < i + 1 → ¬ badL A t (wid A t) k from fun q => hev fun k hk => q k (by omega))] at ih1
      rw [e_X3_isEven_4]
      simp only [e_X3_isEven_5, e_X3_isEven_6, e_X3_isEven_9, e_X3_isEven_10, e_X3_isEven_11, e_X3_isEven_14, e_X3_isEven_15, e_X3_isEven_18, e_X3_isEven_20, e_X3_isEven_21, e_X3_isEven_22, e_X3_isEven_23, e_X3_isEven_24, e_X3_isEven_25, e_X3_isEven_27, e_X3_isEven_28, e_X3_isEven_31, e_X3_isEven_33, e_X3_isEven_36, e_X3_isEven_37, e_X3_isEven_40, e_X3_isEven_42, e_X3_isEven_43, e_X3_isEven_44, e_X3_isEven_45, e_X3_isEven_48, e_X3_isEven_51, e_X3_isEven_52, e_X3_isEven_55, e_X3_isEven_56, e_X3_isEven_57, e_X3_isEven_60, e_X3_isEven_63, e_X3_isEven_64, Option.bind_some, Option.bind_none, Option.toList_some, Option.toList_none, List.cons_append, List.nil_append, I_z, I_i8, I_q8, I_i7, I_q7, I_i6, I_q6, I_i5, I_q5, I_i4, I_q4, I_i3, I_q3, I_i2, I_q2, I_i1, I_q1, I_w8, I_w7, I_w6, I_w5, I_w4, I_w3, I_w2, I_c2n, I_c2i, I_c2q, eq_self, or_true, true_or, and_true, true_and, if_true, if_false, not_false_eq_true, not_true_eq_false, Option.map_none, Option.map_some, reduceCtorEq, gM_2, gM_3, lA1, lA2, v1.1, v1.2.1, n12, nI_add, hb1, hq, h1, nI_1, ih1]
theorem q_even (v1 : TV S A nu t) : ev X (d + 1) m_X3_isEven 0 [some (va_rf (some (aM X))), some (.int (nI t)), none, none, none] [] (rp X S) = some (some (.int (b01 (evn A t))), rp X S) := by
  have h := q_even_loop (X := X) (d := d) v1 (A.2.1 1 t) 0 none (by omega)
  rw [nI_0, b01_t (show ∀ k, k < 0 → ¬ badL A t (wid A t) k from fun k hk => by omega)] at h
  rw [b01_c (show evn A t ↔ ∀ k, k < A.2.1 1 t → ¬ badL A t (wid A t) k from ⟨fun q k hk => q k (Nat.zero_le k) hk, fun q k _ hk => q k hk⟩)]
  simp only [e_X3_isEven_0, e_X3_isEven_1, e_X3_isEven_2, e_X3_isEven_3, Option.bind_some, Option.bind_none, Option.toList_some, Option.toList_none, List.cons_append, List.nil_append, I_z, I_i8, I_q8, I_i7, I_q7, I_i6, I_q6, I_i5, I_q5, I_i4, I_q4, I_i3, I_q3, I_i2, I_q2, I_i1, I_q1, I_w8, I_w7, I_w6, I_w5, I_w4, I_w3, I_w2, I_c2n, I_c2i, I_c2q, eq_self, or_true, true_or, and_true, true_and, if_true, if_false, not_false_eq_true, not_true_eq_false, Option.map_none, Option.map_some, reduceCtorEq, h]
/-- cells p and q of the reference are the same -/
def mSame (S : St) (k : Int32) (p q : Nat) : Prop := if k = 2 then Op.cmpValue (FP.dcmp (S.2.2.2 0 p) (S.2.2.2 0 q)) .l = 0 else S.1 44 p = S.1 44 q
theorem q_al_loop (hr : r < 512) (hr2 : r2 < 512) (hl : S.1 43 r = nI n) (hn : n ≤ 16) : ∀ m j, j + m = n → ev X d m_X3_areAlike 47 [some (va_rf (some (aM X))), some (.int a), some (.int (nI r)), some (.int (nI r2)), some (.int 1), some (.int (nI j))] [] (rp X S) = some (some (.int (b01 (∀ k, j ≤ k → k < n → mSame S a (16 * r + k) (16 * r2 + k)))), rp X S) := by
  have e10 : ¬ (1 : Int32) = 0 := by decide
  have g9 : r < 900 := by omega
  intro m
  induction m with
  | zero =>
    intro j hj
    have h1 : nI n ≤ nI j := nI_le (by omega) (by omega)
    rw [b01_t (show ∀ k, j ≤ k → k < n → mSame S a (16 * r + k) (16 * r2 + k) from fun k _ _ => by omega)]
    rw [e_X3_areAlike_47]
    simp only [e_X3_areAlike_49, e_X3_areAlike_50, e_X3_areAlike_53, e_X3_areAlike_54, e_X3_areAlike_55, e_X3_areAlike_58, e_X3_areAlike_60, e_X3_areAlike_63, e_X3_areAlike_64, e_X3_areAlike_65, e_X3_areAlike_68, e_X3_areAlike_69, e_X3_areAlike_72, e_X3_areAlike_74, e_X3_areAlike_75, e_X3_areAlike_76, e_X3_areAlike_78, e_X3_areAlike_79, e_X3_areAlike_80, e_X3_areAlike_81, e_X3_areAlike_84, e_X3_areAlike_86, e_X3_areAlike_87, e_X3_areAlike_88, e_X3_areAlike_90, e_X3_areAlike_91, e_X3_areAlike_92, e_X3_areAlike_93, e_X3_areAlike_96, e_X3_areAlike_97, e_X3_areAlike_100, e_X3_areAlike_101, e_X3_areAlike_104, e_X3_areAlike_105, e_X3_areAlike_108, e_X3_areAlike_110, e_X3_areAlike_111, e_X3_areAlike_112, e_X3_areAlike_114, e_X3_areAlike_115, e_X3_areAlike_116, e_X3_areAlike_117, e_X3_areAlike_120, e_X3_areAlike_122, e_X3_areAlike_123, e_X3_areAlike_124, e_X3_areAlike_126, e_X3_areAlike_127, e_X3_areAlike_128, e_X3_areAlike_131, e_X3_areAlike_132, e_X3_areAlike_135, e_X3_areAlike_136, e_X3_areAlike_138, e_X3_areAlike_141, e_X3_areAlike_144, e_X3_areAlike_146, Option.bind_some, Option.bind_none, Option.toList_some, Option.toList_none, List.cons_append, List.nil_append, I_z, I_i8, I_q8, I_i7, I_q7, I_i6, I_q6, I_i5, I_q5, I_i4, I_q4, I_i3, I_q3, I_i2, I_q2, I_i1, I_q1, I_w8, I_w7, I_w6, I_w5, I_w4, I_w3, I_w2, I_c2n, I_c2i, I_c2q, eq_self, or_true, true_or, and_true, true_and, if_true, if_false, not_false_eq_true, not_true_eq_false, Option.map_none, Option.map_some, reduceCtorEq, gM_5, lA3, g9, hl, h1]
  | succ m ih =>
    intro j hj
    have h1 : ¬ nI n ≤ nI j := nI_ge (by omega) (by omega)
    have hj1 : j < n := by omega
    have hb1 : 16 * r + j < 14400 := by omega
    have hb2 : 16 * r2 + j < 14400 := by omega
    have ih1 := ih (j + 1) (by omega)
    have stop : ev X d m_X3_areAlike 47 [some (va_rf (some (aM X))), some (.int a), some (.int (nI r)), some (.int (nI r2)), some (.int 0), some (.int (nI (j + 1)))] [] (rp X S) = some (some (.int 0), rp X S) := by
      rw [e_X3_areAlike_47]
      by_cases h2 : nI n ≤ nI (j + 1)
      · simp only [e_X3_areAlike_49, e_X3_areAlike_50, e_X3_areAlike_53, e_X3_areAlike_54, e_X3_areAlike_55, e_X3_areAlike_58, e_X3_areAlike_60, e_X3_areAlike_63, e_X3_areAlike_64, e_X3_areAlike_65, e_X3_areAlike_68, e_X3_areAlike_69, e_X3_areAlike_72, e_X3_areAlike_74, e_X3_areAlike_75, e_X3_areAlike_76, e_X3_areAlike_78, e_X3_areAlike_79, e_X3_areAlike_80, e_X3_areAlike_81, e_X3_areAlike_84, e_X3_areAlike_86, e_X3_areAlike_87, e_X3_areAlike_88, e_X3_areAlike_90, e_X3_areAlike_91, e_X3_areAlike_92, e_X3_areAlike_93, e_X3_areAlike_96, e_X3_areAlike_97, e_X3_areAlike_100, e_X3_areAlike_101, e_X3_areAlike_104, e_X3_areAlike_105, e_X3_areAlike_108, e_X3_areAlike_110, e_X3_areAlike_111, e_X3_areAlike_112, e_X3_areAlike_114, e_X3_areAlike_115, e_X3_areAlike_116, e_X3_areAlike_117, e_X3_areAlike_120, e_X3_areAlike_122, e_X3_areAlike_123, e_X3_areAlike_124, e_X3_areAlike_126, e_X3_areAlike_127, e_X3_areAlike_128, e_X3_areAlike_131, e_X3_areAlike_132, e_X3_areAlike_135, e_X3_areAlike_136, e_X3_areAlike_138, e_X3_areAlike_141, e_X3_areAlike_144, e_X3_areAlike_146, Option.bind_some, Option.bind_none, Option.toList_some, Option.toList_none, List.cons_append, List.nil_append, I_z, I_i8, I_q8, I_i7, I_q7, I_i6, I_q6, I_i5, I_q5, I_i4, I_q4, I_i3, I_q3, I_i2, I_q2, I_i1, I_q1, I_w8, I_w7, I_w6, I_w5, I_w4, I_w3, I_w2, I_c2n, I_c2i, I_c2q, eq_self, or_true, true_or, and_true, true_and, if_true, if_false, not_false_eq_true, not_true_eq_false, Option.map_none, Option.map_some, reduceCtorEq, gM_5, lA3, g9, hl, h2]
      · simp only [e_X3_areAlike_49, e_X3_areAlike_50, e_X3_areAlike_53, e_X3_areAlike_54, e_X3_areAlike_55, e_X3_areAlike_58, e_X3_areAlike_60, e_X3_areAlike_63, e_X3_areAlike_64, e_X3_areAlike_65, e_X3_areAlike_68, e_X3_areAlike_69, e_X3_areAlike_72, e_X3_areAlike_74, e_X3_areAlike_75, e_X3_areAlike_76, e_X3_areAlike_78, e_X3_areAlike_79, e_X3_areAlike_80, e_X3_areAlike_81, e_X3_areAlike_84, e_X3_areAlike_86, e_X3_areAlike_87, e_X3_areAlike_88, e_X3_areAlike_90, e_X3_areAlike_91, e_X3_areAlike_92, e_X3_areAlike_93, e_X3_areAlike_96, e_X3_areAlike_97, e_X3_areAlike_100, e_X3_areAlike_101, e_X3_areAlike_104, e_X3_areAlike_105, e_X3_areAlike_108, e_X3_areAlike_110, e_X3_areAlike_111, e_X3_areAlike_112, e_X3_areAlike_114, e_X3_areAlike_115, e_X3_areAlike_116, e_X3_areAlike_117, e_X3_areAlike_120, e_X3_areAlike_122, e_X3_areAlike_123, e_X3_areAlike_124, e_X3_areAlike_126, e_X3_areAlike_127, e_X3_areAlike_128, e_X3_areAlike_131, e_X3_areAlike_132, e_X3_areAlike_135, e_X3_areAlike_136, e_X3_areAlike_138, e_X3_areAlike_141, e_X3_areAlike_144, e_X3_areAlike_146, Option.bind_some, Option.bind_none, Option.toList_some, Option.toList_none, List.cons_append, List.nil_append, I_z, I_i8, I_q8, I_i7, I_q7, I_i6, I_q6, I_i5, I_q5, I_i4, I_q4, I_i3, I_q3, I_i2, I_q2, I_i1, I_q1, I_w8, I_w7, I_w6, I_w5, I_w4, I_w3, I_w2, I_c2n, I_c2i, I_c2q, eq_self, or_true, true_or, and_true, true_and, if_true, if_false, not_false_eq_true, not_true_eq_false, Option.map_none, Option.map_some, reduceCtorEq, gM_5, lA3, g9, hl, h2]
    by_cases ha : a = 2
    · subst ha
      by_cases hc : Op.cmpValue (FP.dcmp (S.2.2.2 0 (16 * r + j)) (S.2.2.2 0 (16 * r2 + j))) .l = 0
      · rw [b01_s hj1 (show mSame S 2 (16 * r + j) (16 * r2 + j) by unfold mSame; rw [if_pos rfl]; exact hc)]
        rw [e_X3_areAlike_47]
        simp only [e_X3_areAlike_49, e_X3_areAlike_50, e_X3_areAlike_53, e_X3_areAlike_54, e_X3_areAlike_55, e_X3_areAlike_58, e_X3_areAlike_60, e_X3_areAlike_63, e_X3_areAlike_64, e_X3_areAlike_65, e_X3_areAlike_68, e_X3_areAlike_69, e_X3_areAlike_72, e_X3_areAlike_74, e_X3_areAlike_75, e_X3_areAlike_76, e_X3_areAlike_78, e_X3_areAlike_79, e_X3_areAlike_80, e_X3_areAlike_81, e_X3_areAlike_84, e_X3_areAlike_86, e_X3_areAlike_87, e_X3_areAlike_88, e_X3_areAlike_90, e_X3_areAlike_91, e_X3_areAlike_92, e_X3_areAlike_93, e_X3_areAlike_96, e_X3_areAlike_97, e_X3_areAlike_100, e_X3_areAlike_101, e_X3_areAlike_104, e_X3_areAlike_105, e_X3_areAlike_108, e_X3_areAlike_110, e_X3_areAlike_111, e_X3_areAlike_112, e_X3_areAlike_114, e_X3_areAlike_115, e_X3_areAlike_116, e_X3_areAlike_117, e_X3_areAlike_120, e_X3_areAlike_122, e_X3_areAlike_123, e_X3_areAlike_124, e_X3_areAlike_126, e_X3_areAlike_127, e_X3_areAlike_128, e_X3_areAlike_131, e_X3_areAlike_132, e_X3_areAlike_135, e_X3_areAlike_136, e_X3_areAlike_138, e_X3_areAlike_141, e_X3_areAlike_144, e_X3_areAlike_146, Option.bind_some, Option.bind_none, Option.toList_some, Option.toList_none, List.cons_append, List.nil_append, I_z, I_i8, I_q8, I_i7, I_q7, I_i6, I_q6, I_i5, I_q5, I_i4, I_q4, I_i3, I_q3, I_i2, I_q2, I_i1, I_q1, I_w8, I_w7, I_w6, I_w5, I_w4, I_w3, I_w2, I_c2n, I_c2i, I_c2q, eq_self, or_true, true_or, and_true, true_and, if_true, if_false, not_false_eq_true, not_true_eq_false, Option.map_none, Option.map_some, reduceCtorEq, gM_5, gM_7, lA3, lA5, g9, hl, h1, e10, n16, nI_add, hb1, hb2, hc, nI_1, ih1]
      · rw [b01_n hj1 (show ¬ mSame S 2 (16 * r + j) (16 * r2 + j) from fun q => by unfold mSame at q; rw [if_pos rfl] at q; exact hc q)]
        rw [e_X3_areAlike_47]
        simp only [e_X3_areAlike_49, e_X3_areAlike_50, e_X3_areAlike_53, e_X3_areAlike_54, e_X3_areAlike_55, e_X3_areAlike_58, e_X3_areAlike_60, e_X3_areAlike_63, e_X3_areAlike_64, e_X3_areAlike_65, e_X3_areAlike_68, e_X3_areAlike_69, e_X3_areAlike_72, e_X3_areAlike_74, e_X3_areAlike_75, e_X3_areAlike_76, e_X3_areAlike_78, e_X3_areAlike_79, e_X3_areAlike_80, e_X3_areAlike_81, e_X3_areAlike_84, e_X3_areAlike_86, e_X3_areAlike_87, e_X3_areAlike_88, e_X3_areAlike_90, e_X3_areAlike_91, e_X3_areAlike_92, e_X3_areAlike_93, e_X3_areAlike_96, e_X3_areAlike_97, e_X3_areAlike_100, e_X3_areAlike_101, e_X3_areAlike_104, e_X3_areAlike_105, e_X3_areAlike_108, e_X3_areAlike_110, e_X3_areAlike_111, e_X3_areAlike_112, e_X3_areAlike_114, e_X3_areAlike_115, e_X3_areAlike_116, e_X3_areAlike_117, e_X3_areAlike_120, e_X3_areAlike_122, e_X3_areAlike_123, e_X3_areAlike_124, e_X3_areAlike_126, e_X3_areAlike_127, e_X3_areAlike_128, e_X3_areAlike_131, e_X3_areAlike_132, e_X3_areAlike_135, e_X3_areAlike_136, e_X3_areAlike_138, e_X3_areAlike_141, e_X3_areAlike_144, e_X3_areAlike_146, Option.bind_some, Option.bind_none, Option.toList_some, Option.toList_none, List.cons_append, List.nil_append, I_z, I_i8, I_q8, I_i7, I_q7, I_i6, I_q6, I_i5, I_q5, I_i4, I_q4, I_i3, I_q3, I_i2, I_q2, I_i1, I_q1, I_w8, I_w7, I_w6, I_w5, I_w4, I_w3, I_w2, I_c2n, I_c2i, I_c2q, eq_self, or_true, true_or, and_true, true_and, if_true, if_false, not_false_eq_true, not_true_eq_false, Option.map_none, Option.map_some, reduceCtorEq, gM_5, gM_7, lA3, lA5, g9, hl, h1, e10, n16, nI_add, hb1, hb2, hc, nI_1, stop]
    · by_cases hc : S.1 44 (16 * r + j) = S.1 44 (16 * r2 + j)
      · rw [b01_s hj1 (show mSame S a (16 * r + j) (16 * r2 + j) by unfold mSame; rw [if_neg ha]; exact hc)]
        rw [e_X3_areAlike_47]
        simp only [e_X3_areAlike_49, e_X3_areAlike_50, e_X3_areAlike_53, e_X3_areAlike_54, e_X3_areAlike_55, e_X3_areAlike_58, e_X3_areAlike_60, e_X3_areAlike_63, e_X3_areAlike_64, e_X3_areAlike_65, e_X3_areAlike_68, e_X3_areAlike_69, e_X3_areAlike_72, e_X3_areAlike_74, e_X3_areAlike_75, e_X3_areAlike_76, e_X3_areAlike_78, e_X3_areAlike_79, e_X3_areAlike_80, e_X3_areAlike_81, e_X3_areAlike_84, e_X3_areAlike_86, e_X3_areAlike_87, e_X3_areAlike_88, e_X3_areAlike_90, e_X3_areAlike_91, e_X3_areAlike_92, e_X3_areAlike_93, e_X3_areAlike_96, e_X3_areAlike_97, e_X3_areAlike_100, e_X3_areAlike_101, e_X3_areAlike_104, e_X3_areAlike_105, e_X3_areAlike_108, e_X3_areAlike_110, e_X3_areAlike_111, e_X3_areAlike_112, e_X3_areAlike_114, e_X3_areAlike_115, e_X3_areAlike_116, e_X3_areAlike_117, e_X3_areAlike_120, e_X3_areAlike_122, e_X3_areAlike_123, e_X3_areAlike_124, e_X3_areAlike_126, e_X3_areAlike_127, e_X3_areAlike_128, e_X3_areAlike_131, e_X3_areAlike_132, e_X3_areAlike_135, e_X3_areAlike_136, e_X3_areAlike_138, e_X3_areAlike_141, e_X3_areAlike_144, e_X3_areAlike_146, Option.bind_some, Option.bind_none, Option.toList_some, Option.toList_none, List.cons_append, List.nil_append, I_z, I_i8, I_q8, I_i7, I_q7, I_i6, I_q6, I_i5, I_q5, I_i4, I_q4, I_i3, I_q3, I_i2, I_q2, I_i1, I_q1, I_w8, I_w7, I_w6, I_w5, I_w4, I_w3, I_w2, I_c2n, I_c2i, I_c2q, eq_self, or_true, true_or, and_true, true_and, if_true, if_false, not_false_eq_true, not_true_eq_false, Option.map_none, Option.map_some, reduceCtorEq, gM_5, gM_6, lA3, lA4, g9, hl, h1, e10, ha, n16, nI_add, hb1, hb2, hc, nI_1, ih1]
      · rw [b01_n hj1 (show ¬ mSame S a (16 * r + j) (16 * r2 + j) from fun q => by unfold mSame at q; rw [if_neg ha] at q; exact hc q)]
        rw [e_X3_areAlike_47]
        simp only [e_X3_areAlike_49, e_X3_areAlike_50, e_X3_areAlike_53, e_X3_areAlike_54, e_X3_areAlike_55, e_X3_areAlike_58, e_X3_areAlike_60, e_X3_areAlike_63, e_X3_areAlike_64, e_X3_areAlike_65, e_X3_areAlike_68, e_X3_areAlike_69, e_X3_areAlike_72, e_X3_areAlike_74, e_X3_areAlike_75, e_X3_areAlike_76, e_X3_areAlike_78, e_X3_areAlike_79, e_X3_areAlike_80, e_X3_areAlike_81, e_X3_areAlike_84, e_X3_areAlike_86, e_X3_areAlike_87, e_X3_areAlike_88, e_X3_areAlike_90, e_X3_areAlike_91, e_X3_areAlike_92, e_X3_areAlike_93, e_X3_areAlike_96, e_X3_areAlike_97, e_X3_areAlike_100, e_X3_areAlike_101, e_X3_areAlike_104, e_X3_areAlike_105, e_X3_areAlike_108, e_X3_areAlike_110, e_X3_areAlike_111, e_X3_areAlike_112, e_X3_areAlike_114, e_X3_areAlike_115, e_X3_areAlike_116, e_X3_areAlike_117, e_X3_areAlike_120, e_X3_areAlike_122, e_X3_areAlike_123, e_X3_areAlike_124, e_X3_areAlike_126, e_X3_areAlike_127, e_X3_areAlike_128, e_X3_areAlike_131, e_X3_areAlike_132, e_X3_areAlike_135, e_X3_areAlike_136, e_X3_areAlike_138, e_X3_areAlike_141, e_X3_areAlike_144, e_X3_areAlike_146, Option.bind_some, Option.bind_none, Option.toList_some, Option.toList_none, List.cons_append, List.nil_append, I_z, I_i8, I_q8, I_i7, I_q7, I_i6, I_q6, I_i5, I_q5, I_i4, I_q4, I_i3, I_q3, I_i2, I_q2, I_i1, I_q1, I_w8, I_w7, I_w6, I_w5, I_w4, I_w3, I_w2, I_c2n, I_c2i, I_c2q, eq_self, or_true, true_or, and_true, true_and, if_true, if_false, not_false_eq_true, not_true_eq_false, Option.map_none, Option.map_some, reduceCtorEq, gM_5, gM_6, lA3, lA4, g9, hl, h1, e10, ha, n16, nI_add, hb1, hb2, hc, nI_1, stop]
end M4
