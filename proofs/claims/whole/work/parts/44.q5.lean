/-! The reference: turned whole, pack, count. -/
section Q50
variable {X : I_X} {S B S0 S1 A S2 S3 : St} {nu nu1 ro : Nat → Nat} {d t t2 u r r2 i j n m g R tc hi w p q l l2 b0 : Nat} {a b c e v x y z k : Int32} {f f0 wd : Nat → Int32} {F : Nat → UInt64}
/-- after a squeeze that left R rows: a new table of hi rows of w cells -/
def NewM (A S S2 : St) (nu1 : Nat → Nat) (R : Nat) (k : Int32) (hi w : Nat) : Prop := ∃ S1, cEq S1 S ∧ Sim S1 A nu1 ∧ S1.1 20 4 = nI R ∧ R ≤ 499 ∧ (∀ r, std A r → nu1 r < R) ∧ EvP S1 S2 k hi w (A.2.1 0 0) R hi
theorem NewM.mok (hW : WB A) (h : NewM A S S2 nu1 R k hi w) (hf : A.2.1 0 0 < 16) (hh : hi ≤ 12) (ht : t < A.2.1 0 0) (hP : ∀ y, y < A.2.1 1 t → ∃ r, A.2.2.1 t y = some r) : Mok S2 R t (A.2.1 0 0) hi (A.2.1 1 t) (fun y => nu1 (rowAt A t y)) := by
  obtain ⟨S1, c1, c2, c3, c4, c5, c6⟩ := h
  obtain ⟨h1, h2, h3, h4, h5, h6, h7, h8, h9, h10, h11⟩ := c6
  have v := c2.tv hW ht
  refine ⟨v.1, hf, hh, v.2.2.1, c4, ?_, ?_, fun x hx => ?_, fun y hy => ?_⟩
  · rw [h6, pk_un (by omega)]; exact v.2.1
  · rw [h6, pk_us]
  · rw [h7, if_pos (by omega)]; congr 1; omega
  · obtain ⟨r, hr⟩ := hP y hy
    have hq := v.2.2.2.2.1 y hy
    rw [hr, plN_s] at hq
    have h12 := v.2.2.1
    refine ⟨?_, ?_⟩
    · show S2.1 42 (12 * t + y) = nI (nu1 (rowAt A t y))
      rw [rowAt_s hr, h7, if_neg (by omega), if_neg (by omega), hq]
    · show nu1 (rowAt A t y) < R
      rw [rowAt_s hr]
      exact c5 r ⟨t, y, ht, hy, hr⟩
theorem q_turned_unk (hM : S.1 20 0 = nI (A.2.1 0 0)) (h16 : A.2.1 0 0 ≤ 16) (h : unk A a) : ev X (d + 2) m_X3_turned 0 [some (va_rf (some (aM X))), some (.int a), none, none, none] [] (rp X S) = some (some (.int (-1000001)), rp X S) := by
  simp only [e_X3_turned_0, e_X3_turned_1, e_X3_turned_2, e_X3_turned_5, e_X3_turned_8, e_X3_turned_10, e_X3_turned_11, e_X3_turned_12, e_X3_turned_13, e_X3_turned_16, e_X3_turned_19, e_X3_turned_20, e_X3_turned_21, e_X3_turned_24, e_X3_turned_26, e_X3_turned_29, e_X3_turned_31, e_X3_turned_32, e_X3_turned_33, e_X3_turned_36, e_X3_turned_38, e_X3_turned_41, e_X3_turned_43, e_X3_turned_44, e_X3_turned_45, e_X3_turned_48, e_X3_turned_49, e_X3_turned_50, e_X3_turned_53, e_X3_turned_54, e_X3_turned_55, e_X3_turned_56, e_X3_turned_57, e_X3_turned_60, e_X3_turned_61, e_X3_turned_64, e_X3_turned_65, e_X3_turned_66, e_X3_turned_69, e_X3_turned_70, e_X3_turned_71, Option.bind_some, Option.bind_none, Option.toList_some, Option.toList_none, List.cons_append, List.nil_append, I_z, I_i8, I_q8, I_i7, I_q7, I_i6, I_q6, I_i5, I_q5, I_i4, I_q4, I_i3, I_q3, I_i2, I_q2, I_i1, I_q1, I_w8, I_w7, I_w6, I_w5, I_w4, I_w3, I_w2, I_c2n, I_c2i, I_c2q, eq_self, or_true, true_or, and_true, true_and, if_true, if_false, not_false_eq_true, not_true_eq_false, Option.map_none, Option.map_some, reduceCtorEq, isM, gM_0, gM_1, gM_2, gM_3, gM_4, gM_5, gM_6, gM_7, gM_8, gM_9, gM_10, gM_11, gM_12, gM_13, gM_14, gM_15, gM_16, gM_17, gM_18, gM_19, gM_20, lA0, lA1, lA2, lA3, lA4, lA5, lA6, lA7, lA8, lA9, lA10, lA11, lA12, nI_1, nI_add, n12, n16, sI_2, q_isTable0 hM h16 h]
theorem q_turned_state (hM : S.1 20 0 = nI (A.2.1 0 0)) (h16 : A.2.1 0 0 ≤ 16) (h1 : t < A.2.1 0 0) (v1 : TV S A nu t) (h : ¬ (evn A t ∧ wid A t ≤ 12)) : ev X (d + 2) m_X3_turned 0 [some (va_rf (some (aM X))), some (.int (nI t)), none, none, none] [] (rp X S) = some (some (.int (-1000003)), rp X S) := by
  have hw := wid_16 v1
  by_cases c1 : evn A t
  · have c2 : ¬ nI (wid A t) ≤ 12 := nI_ge (a := 12) (by have : ¬ wid A t ≤ 12 := fun q => h ⟨c1, q⟩
                                                         omega) (by omega)
    simp only [e_X3_turned_0, e_X3_turned_1, e_X3_turned_2, e_X3_turned_5, e_X3_turned_8, e_X3_turned_10, e_X3_turned_11, e_X3_turned_12, e_X3_turned_13, e_X3_turned_16, e_X3_turned_19, e_X3_turned_20, e_X3_turned_21, e_X3_turned_24, e_X3_turned_26, e_X3_turned_29, e_X3_turned_31, e_X3_turned_32, e_X3_turned_33, e_X3_turned_36, e_X3_turned_38, e_X3_turned_41, e_X3_turned_43, e_X3_turned_44, e_X3_turned_45, e_X3_turned_48, e_X3_turned_49, e_X3_turned_50, e_X3_turned_53, e_X3_turned_54, e_X3_turned_55, e_X3_turned_56, e_X3_turned_57, e_X3_turned_60, e_X3_turned_61, e_X3_turned_64, e_X3_turned_65, e_X3_turned_66, e_X3_turned_69, e_X3_turned_70, e_X3_turned_71, Option.bind_some, Option.bind_none, Option.toList_some, Option.toList_none, List.cons_append, List.nil_append, I_z, I_i8, I_q8, I_i7, I_q7, I_i6, I_q6, I_i5, I_q5, I_i4, I_q4, I_i3, I_q3, I_i2, I_q2, I_i1, I_q1, I_w8, I_w7, I_w6, I_w5, I_w4, I_w3, I_w2, I_c2n, I_c2i, I_c2q, eq_self, or_true, true_or, and_true, true_and, if_true, if_false, not_false_eq_true, not_true_eq_false, Option.map_none, Option.map_some, reduceCtorEq, isM, gM_0, gM_1, gM_2, gM_3, gM_4, gM_5, gM_6, gM_7, gM_8, gM_9, gM_10, gM_11, gM_12, gM_13, gM_14, gM_15, gM_16, gM_17, gM_18, gM_19, gM_20, lA0, lA1, lA2, lA3, lA4, lA5, lA6, lA7, lA8, lA9, lA10, lA11, lA12, nI_1, nI_add, n12, n16, sI_2, q_isTable1 hM h16 h1, q_even v1, b01_t c1, e10, q_wide v1, c2]
  · simp only [e_X3_turned_0, e_X3_turned_1, e_X3_turned_2, e_X3_turned_5, e_X3_turned_8, e_X3_turned_10, e_X3_turned_11, e_X3_turned_12, e_X3_turned_13, e_X3_turned_16, e_X3_turned_19, e_X3_turned_20, e_X3_turned_21, e_X3_turned_24, e_X3_turned_26, e_X3_turned_29, e_X3_turned_31, e_X3_turned_32, e_X3_turned_33, e_X3_turned_36, e_X3_turned_38, e_X3_turned_41, e_X3_turned_43, e_X3_turned_44, e_X3_turned_45, e_X3_turned_48, e_X3_turned_49, e_X3_turned_50, e_X3_turned_53, e_X3_turned_54, e_X3_turned_55, e_X3_turned_56, e_X3_turned_57, e_X3_turned_60, e_X3_turned_61, e_X3_turned_64, e_X3_turned_65, e_X3_turned_66, e_X3_turned_69, e_X3_turned_70, e_X3_turned_71, Option.bind_some, Option.bind_none, Option.toList_some, Option.toList_none, List.cons_append, List.nil_append, I_z, I_i8, I_q8, I_i7, I_q7, I_i6, I_q6, I_i5, I_q5, I_i4, I_q4, I_i3, I_q3, I_i2, I_q2, I_i1, I_q1, I_w8, I_w7, I_w6, I_w5, I_w4, I_w3, I_w2, I_c2n, I_c2i, I_c2q, eq_self, or_true, true_or, and_true, true_and, if_true, if_false, not_false_eq_true, not_true_eq_false, Option.map_none, Option.map_some, reduceCtorEq, isM, gM_0, gM_1, gM_2, gM_3, gM_4, gM_5, gM_6, gM_7, gM_8, gM_9, gM_10, gM_11, gM_12, gM_13, gM_14, gM_15, gM_16, gM_17, gM_18, gM_19, gM_20, lA0, lA1, lA2, lA3, lA4, lA5, lA6, lA7, lA8, lA9, lA10, lA11, lA12, nI_1, nI_add, n12, n16, sI_2, q_isTable1 hM h16 h1, q_even v1, b01_f c1, e10]
theorem q_turned_room (hM : S.1 20 0 = nI (A.2.1 0 0)) (hf : A.2.1 0 0 = 16) (h1 : t < A.2.1 0 0) (v1 : TV S A nu t) (c1 : evn A t) (c3 : wid A t ≤ 12) : ev X (d + 2) m_X3_turned 0 [some (va_rf (some (aM X))), some (.int (nI t)), none, none, none] [] (rp X S) = some (some (.int (-1000004)), rp X S) := by
  have c2 : nI (wid A t) ≤ 12 := nI_le (b := 12) c3 (by omega)
  have eM : S.1 20 0 = 16 := by rw [hM, hf]; rfl
  simp only [e_X3_turned_0, e_X3_turned_1, e_X3_turned_2, e_X3_turned_5, e_X3_turned_8, e_X3_turned_10, e_X3_turned_11, e_X3_turned_12, e_X3_turned_13, e_X3_turned_16, e_X3_turned_19, e_X3_turned_20, e_X3_turned_21, e_X3_turned_24, e_X3_turned_26, e_X3_turned_29, e_X3_turned_31, e_X3_turned_32, e_X3_turned_33, e_X3_turned_36, e_X3_turned_38, e_X3_turned_41, e_X3_turned_43, e_X3_turned_44, e_X3_turned_45, e_X3_turned_48, e_X3_turned_49, e_X3_turned_50, e_X3_turned_53, e_X3_turned_54, e_X3_turned_55, e_X3_turned_56, e_X3_turned_57, e_X3_turned_60, e_X3_turned_61, e_X3_turned_64, e_X3_turned_65, e_X3_turned_66, e_X3_turned_69, e_X3_turned_70, e_X3_turned_71, Option.bind_some, Option.bind_none, Option.toList_some, Option.toList_none, List.cons_append, List.nil_append, I_z, I_i8, I_q8, I_i7, I_q7, I_i6, I_q6, I_i5, I_q5, I_i4, I_q4, I_i3, I_q3, I_i2, I_q2, I_i1, I_q1, I_w8, I_w7, I_w6, I_w5, I_w4, I_w3, I_w2, I_c2n, I_c2i, I_c2q, eq_self, or_true, true_or, and_true, true_and, if_true, if_false, not_false_eq_true, not_true_eq_false, Option.map_none, Option.map_some, reduceCtorEq, isM, gM_0, gM_1, gM_2, gM_3, gM_4, gM_5, gM_6, gM_7, gM_8, gM_9, gM_10, gM_11, gM_12, gM_13, gM_14, gM_15, gM_16, gM_17, gM_18, gM_19, gM_20, lA0, lA1, lA2, lA3, lA4, lA5, lA6, lA7, lA8, lA9, lA10, lA11, lA12, nI_1, nI_add, n12, n16, sI_2, q_isTable1 hM (by omega) h1, q_even v1, b01_t c1, e10, q_wide v1, c2, eM]
theorem q_turned_ok (hW : WB A) (hs : Sim S A nu) (h1 : t < A.2.1 0 0) (c1 : evn A t) (c3 : wid A t ≤ 12) (hf : A.2.1 0 0 < 16) : ∃ nu1 R S2 S', ev X (d + 2) m_X3_turned 0 [some (va_rf (some (aM X))), some (.int (nI t)), none, none, none] [] (rp X S) = some (some (.int (nI (A.2.1 0 0))), rp X S') ∧ NewM A S S2 nu1 R (A.1 1 t) (wid A t) (A.2.1 1 t) ∧ NM S2 S' R ∧ ∀ x y, x < wid A t → y < A.2.1 1 t → mtr S2 S' R (fun y => nu1 (rowAt A t y)) x y := by
  have h16 := hW.1
  have v1 := hs.tv hW h1
  have c2 : nI (wid A t) ≤ 12 := nI_le (b := 12) c3 (by omega)
  obtain ⟨S1, nu1, R, e1, e2, e3, e4, e5, e6⟩ := q_squeeze (X := X) (d := d + 1) hW hs
  have v2 := e3.tv hW h1
  obtain ⟨S2, f1, f2⟩ := q_newEven (X := X) (d := d) (S := S1) (k := A.1 1 t) (hi := wid A t) (w := A.2.1 1 t) (R := R) hf c3 (by omega) e3.1 e4
  have hN : NewM A S S2 nu1 R (A.1 1 t) (wid A t) (A.2.1 1 t) := ⟨S1, e2, e3, e4, e5, e6, f2⟩
  have hm := hN.mok hW hf c3 h1 (fun y hy => by obtain ⟨r, hr, _⟩ := evn_row c1 hy; exact ⟨r, hr⟩)
  obtain ⟨S', g1, g2, g3⟩ := q_trn_x (X := X) (d := d + 1) hm (wid A t) 0 none S2 (by omega) NM.refl (fun x' y' _ _ q => by omega)
  rw [nI_0] at g1
  refine ⟨nu1, R, S2, S', ?_, hN, g2, g3⟩
  simp only [e_X3_turned_0, e_X3_turned_1, e_X3_turned_2, e_X3_turned_5, e_X3_turned_8, e_X3_turned_10, e_X3_turned_11, e_X3_turned_12, e_X3_turned_13, e_X3_turned_16, e_X3_turned_19, e_X3_turned_20, e_X3_turned_21, e_X3_turned_24, e_X3_turned_26, e_X3_turned_29, e_X3_turned_31, e_X3_turned_32, e_X3_turned_33, e_X3_turned_36, e_X3_turned_38, e_X3_turned_41, e_X3_turned_43, e_X3_turned_44, e_X3_turned_45, e_X3_turned_48, e_X3_turned_49, e_X3_turned_50, e_X3_turned_53, e_X3_turned_54, e_X3_turned_55, e_X3_turned_56, e_X3_turned_57, e_X3_turned_60, e_X3_turned_61, e_X3_turned_64, e_X3_turned_65, e_X3_turned_66, e_X3_turned_69, e_X3_turned_70, e_X3_turned_71, Option.bind_some, Option.bind_none, Option.toList_some, Option.toList_none, List.cons_append, List.nil_append, I_z, I_i8, I_q8, I_i7, I_q7, I_i6, I_q6, I_i5, I_q5, I_i4, I_q4, I_i3, I_q3, I_i2, I_q2, I_i1, I_q1, I_w8, I_w7, I_w6, I_w5, I_w4, I_w3, I_w2, I_c2n, I_c2i, I_c2q, eq_self, or_true, true_or, and_true, true_and, if_true, if_false, not_false_eq_true, not_true_eq_false, Option.map_none, Option.map_some, reduceCtorEq, isM, gM_0, gM_1, gM_2, gM_3, gM_4, gM_5, gM_6, gM_7, gM_8, gM_9, gM_10, gM_11, gM_12, gM_13, gM_14, gM_15, gM_16, gM_17, gM_18, gM_19, gM_20, lA0, lA1, lA2, lA3, lA4, lA5, lA6, lA7, lA8, lA9, lA10, lA11, lA12, nI_1, nI_add, n12, n16, sI_2, q_isTable1 hs.1 h16 h1, q_even v1, b01_t c1, e10, q_wide v1, c2, hs.1, tc_ne hf, e1, v2.1, v2.2.1, v2.2.2.2.1, q_wide v2, f1, g1]
theorem q_pack_unk (hM : S.1 20 0 = nI (A.2.1 0 0)) (h16 : A.2.1 0 0 ≤ 16) (h : unk A a) : ev X (d + 2) m_X3_pack 0 [some (va_rf (some (aM X))), some (.int a), none, none, none] [] (rp X S) = some (some (.int (-1000001)), rp X S) := by
  simp only [e_X3_pack_0, e_X3_pack_1, e_X3_pack_2, e_X3_pack_5, e_X3_pack_8, e_X3_pack_10, e_X3_pack_11, e_X3_pack_12, e_X3_pack_15, e_X3_pack_16, e_X3_pack_17, e_X3_pack_20, e_X3_pack_22, e_X3_pack_23, e_X3_pack_24, Option.bind_some, Option.bind_none, Option.toList_some, Option.toList_none, List.cons_append, List.nil_append, I_z, I_i8, I_q8, I_i7, I_q7, I_i6, I_q6, I_i5, I_q5, I_i4, I_q4, I_i3, I_q3, I_i2, I_q2, I_i1, I_q1, I_w8, I_w7, I_w6, I_w5, I_w4, I_w3, I_w2, I_c2n, I_c2i, I_c2q, eq_self, or_true, true_or, and_true, true_and, if_true, if_false, not_false_eq_true, not_true_eq_false, Option.map_none, Option.map_some, reduceCtorEq, isM, gM_0, gM_1, gM_2, gM_3, gM_4, gM_5, gM_6, gM_7, gM_8, gM_9, gM_10, gM_11, gM_12, gM_13, gM_14, gM_15, gM_16, gM_17, gM_18, gM_19, gM_20, lA0, lA1, lA2, lA3, lA4, lA5, lA6, lA7, lA8, lA9, lA10, lA11, lA12, nI_1, nI_add, n12, n16, sI_2, q_isTable0 hM h16 h]
theorem q_pack_state (hM : S.1 20 0 = nI (A.2.1 0 0)) (h16 : A.2.1 0 0 ≤ 16) (h1 : t < A.2.1 0 0) (v1 : TV S A nu t) (hk : ¬ A.1 1 t = 0) : ev X (d + 2) m_X3_pack 0 [some (va_rf (some (aM X))), some (.int (nI t)), none, none, none] [] (rp X S) = some (some (.int (-1000003)), rp X S) := by
  simp only [e_X3_pack_0, e_X3_pack_1, e_X3_pack_2, e_X3_pack_5, e_X3_pack_8, e_X3_pack_10, e_X3_pack_11, e_X3_pack_12, e_X3_pack_15, e_X3_pack_16, e_X3_pack_17, e_X3_pack_20, e_X3_pack_22, e_X3_pack_23, e_X3_pack_24, Option.bind_some, Option.bind_none, Option.toList_some, Option.toList_none, List.cons_append, List.nil_append, I_z, I_i8, I_q8, I_i7, I_q7, I_i6, I_q6, I_i5, I_q5, I_i4, I_q4, I_i3, I_q3, I_i2, I_q2, I_i1, I_q1, I_w8, I_w7, I_w6, I_w5, I_w4, I_w3, I_w2, I_c2n, I_c2i, I_c2q, eq_self, or_true, true_or, and_true, true_and, if_true, if_false, not_false_eq_true, not_true_eq_false, Option.map_none, Option.map_some, reduceCtorEq, isM, gM_0, gM_1, gM_2, gM_3, gM_4, gM_5, gM_6, gM_7, gM_8, gM_9, gM_10, gM_11, gM_12, gM_13, gM_14, gM_15, gM_16, gM_17, gM_18, gM_19, gM_20, lA0, lA1, lA2, lA3, lA4, lA5, lA6, lA7, lA8, lA9, lA10, lA11, lA12, nI_1, nI_add, n12, n16, sI_2, q_isTable1 hM h16 h1, e10, v1.1, v1.2.2.2.1, hk]
theorem q_pk1 (v1 : TV S A nu t) : ∀ m i, i + m = A.2.1 1 t → ((∃ q, i ≤ q ∧ q < A.2.1 1 t ∧ A.2.2.1 t q = none) → ev X (d + 1) m_X3_pack 25 [some (va_rf (some (aM X))), some (.int (nI t)), some (.int (nI i)), none, none] [] (rp X S) = some (some (.int (-1000011)), rp X (qFail S))) ∧ ((∀ q, i ≤ q → q < A.2.1 1 t → A.2.2.1 t q ≠ none) → ev X (d + 1) m_X3_pack 25 [some (va_rf (some (aM X))), some (.int (nI t)), some (.int (nI i)), none, none] [] (rp X S) = ev X (d + 1) m_X3_pack 61 [some (va_rf (some (aM X))), some (.int (nI t)), some (.int (nI (A.2.1 1 t))), none, none] [] (rp X S)) := by
  have h12 := v1.2.2.1
  have e : (-1000010 : Int32) - 1 = -1000011 := by decide
  intro m
  induction m with
  | zero =>
    intro i hi
    have ei : i = A.2.1 1 t := by omega
    refine ⟨fun ⟨q, q1, q2, _⟩ => by omega, fun _ => ?_⟩
    subst ei
    have h1 : nI (A.2.1 1 t) ≤ nI (A.2.1 1 t) := nI_le (Nat.le_refl _) (by omega)
    rw [e_X3_pack_25]
    simp only [e_X3_pack_26, e_X3_pack_27, e_X3_pack_30, e_X3_pack_31, e_X3_pack_32, e_X3_pack_35, e_X3_pack_36, e_X3_pack_39, e_X3_pack_41, e_X3_pack_42, e_X3_pack_43, e_X3_pack_44, e_X3_pack_45, e_X3_pack_46, e_X3_pack_49, e_X3_pack_50, e_X3_pack_51, e_X3_pack_54, e_X3_pack_55, e_X3_pack_58, Option.bind_some, Option.bind_none, Option.toList_some, Option.toList_none, List.cons_append, List.nil_append, I_z, I_i8, I_q8, I_i7, I_q7, I_i6, I_q6, I_i5, I_q5, I_i4, I_q4, I_i3, I_q3, I_i2, I_q2, I_i1, I_q1, I_w8, I_w7, I_w6, I_w5, I_w4, I_w3, I_w2, I_c2n, I_c2i, I_c2q, eq_self, or_true, true_or, and_true, true_and, if_true, if_false, not_false_eq_true, not_true_eq_false, Option.map_none, Option.map_some, reduceCtorEq, isM, gM_0, gM_1, gM_2, gM_3, gM_4, gM_5, gM_6, gM_7, gM_8, gM_9, gM_10, gM_11, gM_12, gM_13, gM_14, gM_15, gM_16, gM_17, gM_18, gM_19, gM_20, lA0, lA1, lA2, lA3, lA4, lA5, lA6, lA7, lA8, lA9, lA10, lA11, lA12, nI_1, nI_add, n12, n16, sI_2, v1.1, v1.2.1, h1]
  | succ m ih =>
    intro i hi
    have h1 : ¬ nI (A.2.1 1 t) ≤ nI i := nI_ge (by omega) (by omega)
    have hb : 12 * t + i < 192 := by have := v1.1; omega
    have hq := v1.2.2.2.2.1 i (by omega)
    obtain ⟨i1, i2⟩ := ih (i + 1) (by omega)
    cases hp : A.2.2.1 t i with
    | none =>
      rw [hp, plN_n] at hq
      refine ⟨fun _ => ?_, fun z => absurd hp (z i (Nat.le_refl _) (by omega))⟩
      rw [e_X3_pack_25]
      simp only [e_X3_pack_26, e_X3_pack_27, e_X3_pack_30, e_X3_pack_31, e_X3_pack_32, e_X3_pack_35, e_X3_pack_36, e_X3_pack_39, e_X3_pack_41, e_X3_pack_42, e_X3_pack_43, e_X3_pack_44, e_X3_pack_45, e_X3_pack_46, e_X3_pack_49, e_X3_pack_50, e_X3_pack_51, e_X3_pack_54, e_X3_pack_55, e_X3_pack_58, Option.bind_some, Option.bind_none, Option.toList_some, Option.toList_none, List.cons_append, List.nil_append, I_z, I_i8, I_q8, I_i7, I_q7, I_i6, I_q6, I_i5, I_q5, I_i4, I_q4, I_i3, I_q3, I_i2, I_q2, I_i1, I_q1, I_w8, I_w7, I_w6, I_w5, I_w4, I_w3, I_w2, I_c2n, I_c2i, I_c2q, eq_self, or_true, true_or, and_true, true_and, if_true, if_false, not_false_eq_true, not_true_eq_false, Option.map_none, Option.map_some, reduceCtorEq, isM, gM_0, gM_1, gM_2, gM_3, gM_4, gM_5, gM_6, gM_7, gM_8, gM_9, gM_10, gM_11, gM_12, gM_13, gM_14, gM_15, gM_16, gM_17, gM_18, gM_19, gM_20, lA0, lA1, lA2, lA3, lA4, lA5, lA6, lA7, lA8, lA9, lA10, lA11, lA12, nI_1, nI_add, n12, n16, sI_2, v1.1, v1.2.1, h1, hb, hq, neg1_ge, q_fails, e]
    | some r =>
      rw [hp, plN_s] at hq
      have gg : 0 ≤ nI (nu r) := nI_pos' (by have := (v1.2.2.2.2.2 i r (by omega) hp).1; omega)
      refine ⟨fun ⟨q, q1, q2, q3⟩ => ?_, fun z => ?_⟩
      · have : q ≠ i := fun w => by rw [w, hp] at q3; cases q3
        rw [← i1 ⟨q, by omega, q2, q3⟩, e_X3_pack_25]
        simp only [e_X3_pack_26, e_X3_pack_27, e_X3_pack_30, e_X3_pack_31, e_X3_pack_32, e_X3_pack_35, e_X3_pack_36, e_X3_pack_39, e_X3_pack_41, e_X3_pack_42, e_X3_pack_43, e_X3_pack_44, e_X3_pack_45, e_X3_pack_46, e_X3_pack_49, e_X3_pack_50, e_X3_pack_51, e_X3_pack_54, e_X3_pack_55, e_X3_pack_58, Option.bind_some, Option.bind_none, Option.toList_some, Option.toList_none, List.cons_append, List.nil_append, I_z, I_i8, I_q8, I_i7, I_q7, I_i6, I_q6, I_i5, I_q5, I_i4, I_q4, I_i3, I_q3, I_i2, I_q2, I_i1, I_q1, I_w8, I_w7, I_w6, I_w5, I_w4, I_w3, I_w2, I_c2n, I_c2i, I_c2q, eq_self, or_true, true_or, and_true, true_and, if_true, if_false, not_false_eq_true, not_true_eq_false, Option.map_none, Option.map_some, reduceCtorEq, isM, gM_0, gM_1, gM_2, gM_3, gM_4, gM_5, gM_6, gM_7, gM_8, gM_9, gM_10, gM_11, gM_12, gM_13, gM_14, gM_15, gM_16, gM_17, gM_18, gM_19, gM_20, lA0, lA1, lA2, lA3, lA4, lA5, lA6, lA7, lA8, lA9, lA10, lA11, lA12, nI_1, nI_add, n12, n16, sI_2, v1.1, v1.2.1, h1, hb, hq, gg]
      · rw [← i2 (fun q q1 q2 => z q (by omega) q2), e_X3_pack_25]
        simp only [e_X3_pack_26, e_X3_pack_27, e_X3_pack_30, e_X3_pack_31, e_X3_pack_32, e_X3_pack_35, e_X3_pack_36, e_X3_pack_39, e_X3_pack_41, e_X3_pack_42, e_X3_pack_43, e_X3_pack_44, e_X3_pack_45, e_X3_pack_46, e_X3_pack_49, e_X3_pack_50, e_X3_pack_51, e_X3_pack_54, e_X3_pack_55, e_X3_pack_58, Option.bind_some, Option.bind_none, Option.toList_some, Option.toList_none, List.cons_append, List.nil_append, I_z, I_i8, I_q8, I_i7, I_q7, I_i6, I_q6, I_i5, I_q5, I_i4, I_q4, I_i3, I_q3, I_i2, I_q2, I_i1, I_q1, I_w8, I_w7, I_w6, I_w5, I_w4, I_w3, I_w2, I_c2n, I_c2i, I_c2q, eq_self, or_true, true_or, and_true, true_and, if_true, if_false, not_false_eq_true, not_true_eq_false, Option.map_none, Option.map_some, reduceCtorEq, isM, gM_0, gM_1, gM_2, gM_3, gM_4, gM_5, gM_6, gM_7, gM_8, gM_9, gM_10, gM_11, gM_12, gM_13, gM_14, gM_15, gM_16, gM_17, gM_18, gM_19, gM_20, lA0, lA1, lA2, lA3, lA4, lA5, lA6, lA7, lA8, lA9, lA10, lA11, lA12, nI_1, nI_add, n12, n16, sI_2, v1.1, v1.2.1, h1, hb, hq, gg]
theorem q_pack_null (hM : S.1 20 0 = nI (A.2.1 0 0)) (h16 : A.2.1 0 0 ≤ 16) (h1 : t < A.2.1 0 0) (v1 : TV S A nu t) (hk : A.1 1 t = 0) (hi : i < A.2.1 1 t) (hp : A.2.2.1 t i = none) : ev X (d + 2) m_X3_pack 0 [some (va_rf (some (aM X))), some (.int (nI t)), none, none, none] [] (rp X S) = some (some (.int (-1000011)), rp X (qFail S)) := by
  have h := (q_pk1 (X := X) (d := d + 1) v1 (A.2.1 1 t) 0 (by omega)).1 ⟨i, Nat.zero_le _, hi, hp⟩
  rw [nI_0] at h
  simp only [e_X3_pack_0, e_X3_pack_1, e_X3_pack_2, e_X3_pack_5, e_X3_pack_8, e_X3_pack_10, e_X3_pack_11, e_X3_pack_12, e_X3_pack_15, e_X3_pack_16, e_X3_pack_17, e_X3_pack_20, e_X3_pack_22, e_X3_pack_23, e_X3_pack_24, Option.bind_some, Option.bind_none, Option.toList_some, Option.toList_none, List.cons_append, List.nil_append, I_z, I_i8, I_q8, I_i7, I_q7, I_i6, I_q6, I_i5, I_q5, I_i4, I_q4, I_i3, I_q3, I_i2, I_q2, I_i1, I_q1, I_w8, I_w7, I_w6, I_w5, I_w4, I_w3, I_w2, I_c2n, I_c2i, I_c2q, eq_self, or_true, true_or, and_true, true_and, if_true, if_false, not_false_eq_true, not_true_eq_false, Option.map_none, Option.map_some, reduceCtorEq, isM, gM_0, gM_1, gM_2, gM_3, gM_4, gM_5, gM_6, gM_7, gM_8, gM_9, gM_10, gM_11, gM_12, gM_13, gM_14, gM_15, gM_16, gM_17, gM_18, gM_19, gM_20, lA0, lA1, lA2, lA3, lA4, lA5, lA6, lA7, lA8, lA9, lA10, lA11, lA12, nI_1, nI_add, n12, n16, sI_2, q_isTable1 hM h16 h1, e10, v1.1, v1.2.2.2.1, hk, h]
theorem fill_s' {f : Nat → Int32} : upd (fillF f 0 i) i 0 = fillF f 0 (i + 1) := fillF_s
theorem q_pk2 (f : Nat → Int32) : ∀ m i (S : St), i + m = 8 → S.1 47 = fillF f 0 i → ev X d m_X3_pack 63 [some (va_rf (some (aM X))), some (.int a), some (.int (nI i)), none, none] [] (rp X S) = ev X d m_X3_pack 82 [some (va_rf (some (aM X))), some (.int a), some (.int (nI 8)), none, none] [] (rp X (sI S 47 (fillF f 0 8))) := by
  intro m
  induction m with
  | zero =>
    intro i S hi h7
    have e : i = 8 := by omega
    subst e
    have h1 : (8 : Int32) ≤ nI 8 := by decide
    rw [← h7, sI_self, e_X3_pack_63]
    simp only [e_X3_pack_64, e_X3_pack_66, e_X3_pack_69, e_X3_pack_70, e_X3_pack_73, e_X3_pack_74, e_X3_pack_75, e_X3_pack_76, e_X3_pack_79, Option.bind_some, Option.bind_none, Option.toList_some, Option.toList_none, List.cons_append, List.nil_append, I_z, I_i8, I_q8, I_i7, I_q7, I_i6, I_q6, I_i5, I_q5, I_i4, I_q4, I_i3, I_q3, I_i2, I_q2, I_i1, I_q1, I_w8, I_w7, I_w6, I_w5, I_w4, I_w3, I_w2, I_c2n, I_c2i, I_c2q, eq_self, or_true, true_or, and_true, true_and, if_true, if_false, not_false_eq_true, not_true_eq_false, Option.map_none, Option.map_some, reduceCtorEq, isM, gM_0, gM_1, gM_2, gM_3, gM_4, gM_5, gM_6, gM_7, gM_8, gM_9, gM_10, gM_11, gM_12, gM_13, gM_14, gM_15, gM_16, gM_17, gM_18, gM_19, gM_20, lA0, lA1, lA2, lA3, lA4, lA5, lA6, lA7, lA8, lA9, lA10, lA11, lA12, nI_1, nI_add, n12, n16, sI_2, h1]
  | succ m ih =>
    intro i S hi h7
    have h1 : ¬ (8 : Int32) ≤ nI i := nI_ge (b := 8) (by omega) (by omega)
    have hb : i < 8 := by omega
    have ih1 := ih (i + 1) (sI S 47 (upd (S.1 47) i 0)) (by omega) (by rw [sI_g, h7, fillF_s])
    rw [sI_sI] at ih1
    rw [← ih1, e_X3_pack_63]
    simp only [e_X3_pack_64, e_X3_pack_66, e_X3_pack_69, e_X3_pack_70, e_X3_pack_73, e_X3_pack_74, e_X3_pack_75, e_X3_pack_76, e_X3_pack_79, Option.bind_some, Option.bind_none, Option.toList_some, Option.toList_none, List.cons_append, List.nil_append, I_z, I_i8, I_q8, I_i7, I_q7, I_i6, I_q6, I_i5, I_q5, I_i4, I_q4, I_i3, I_q3, I_i2, I_q2, I_i1, I_q1, I_w8, I_w7, I_w6, I_w5, I_w4, I_w3, I_w2, I_c2n, I_c2i, I_c2q, eq_self, or_true, true_or, and_true, true_and, if_true, if_false, not_false_eq_true, not_true_eq_false, Option.map_none, Option.map_some, reduceCtorEq, isM, gM_0, gM_1, gM_2, gM_3, gM_4, gM_5, gM_6, gM_7, gM_8, gM_9, gM_10, gM_11, gM_12, gM_13, gM_14, gM_15, gM_16, gM_17, gM_18, gM_19, gM_20, lA0, lA1, lA2, lA3, lA4, lA5, lA6, lA7, lA8, lA9, lA10, lA11, lA12, nI_1, nI_add, n12, n16, sI_2, h1, uA7, hb]
theorem q_pk4 (v1 : TV S A nu t) (hi : i < A.2.1 1 t) (hp : A.2.2.1 t i = some r) (hc : ∀ j, j < A.2.1 2 r → S.1 44 (16 * nu r + j) = A.1 (100 + r) j) (hb0 : b0 + A.2.1 2 r ≤ 192) : ∀ m j (w : Nat → Int32), j + m = A.2.1 2 r → ev X (d + 1) m_X3_pack 99 [some (va_rf (some (aM X))), some (.int (nI t)), some (.int (nI (b0 + j))), some (.int (nI i)), some (.int (nI j))] [] (rp X (sI S 47 w)) = ev X (d + 1) m_X3_pack 159 [some (va_rf (some (aM X))), some (.int (nI t)), some (.int (nI (b0 + A.2.1 2 r))), some (.int (nI i)), some (.int (nI (A.2.1 2 r)))] [] (rp X (sI S 47 (pkR (A.1 (100 + r)) b0 m j w))) := by
  have h12 := v1.2.2.1
  have i12 : i < 12 := by omega
  have hb1 : 12 * t + i < 192 := by have := v1.1; omega
  have hq := v1.2.2.2.2.1 i hi
  rw [hp, plN_s] at hq
  obtain ⟨g1, g2, g3⟩ := v1.2.2.2.2.2 i r hi hp
  have g9 : nu r < 900 := by omega
  intro m
  induction m with
  | zero =>
    intro j w hj
    have e : j = A.2.1 2 r := by omega
    subst e
    have h1 : nI (A.2.1 2 r) ≤ nI (A.2.1 2 r) := nI_le (Nat.le_refl _) (by omega)
    have e42 : (sI S 47 w).1 42 (12 * t + i) = nI (nu r) := by rw [sI_ne (by omega)]; exact hq
    have e43 : (sI S 47 w).1 43 (nu r) = nI (A.2.1 2 r) := by rw [sI_ne (by omega)]; exact g2
    rw [e_X3_pack_99]
    simp only [e_X3_pack_101, e_X3_pack_102, e_X3_pack_105, e_X3_pack_106, e_X3_pack_109, e_X3_pack_111, e_X3_pack_112, e_X3_pack_113, e_X3_pack_114, e_X3_pack_115, e_X3_pack_116, e_X3_pack_117, e_X3_pack_120, e_X3_pack_121, e_X3_pack_124, e_X3_pack_125, e_X3_pack_127, e_X3_pack_128, e_X3_pack_129, e_X3_pack_130, e_X3_pack_131, e_X3_pack_134, e_X3_pack_135, e_X3_pack_136, e_X3_pack_137, e_X3_pack_139, e_X3_pack_142, e_X3_pack_143, e_X3_pack_144, e_X3_pack_146, e_X3_pack_147, e_X3_pack_148, e_X3_pack_149, e_X3_pack_150, e_X3_pack_153, e_X3_pack_156, Option.bind_some, Option.bind_none, Option.toList_some, Option.toList_none, List.cons_append, List.nil_append, I_z, I_i8, I_q8, I_i7, I_q7, I_i6, I_q6, I_i5, I_q5, I_i4, I_q4, I_i3, I_q3, I_i2, I_q2, I_i1, I_q1, I_w8, I_w7, I_w6, I_w5, I_w4, I_w3, I_w2, I_c2n, I_c2i, I_c2q, eq_self, or_true, true_or, and_true, true_and, if_true, if_false, not_false_eq_true, not_true_eq_false, Option.map_none, Option.map_some, reduceCtorEq, isM, gM_0, gM_1, gM_2, gM_3, gM_4, gM_5, gM_6, gM_7, gM_8, gM_9, gM_10, gM_11, gM_12, gM_13, gM_14, gM_15, gM_16, gM_17, gM_18, gM_19, gM_20, lA0, lA1, lA2, lA3, lA4, lA5, lA6, lA7, lA8, lA9, lA10, lA11, lA12, nI_1, nI_add, n12, n16, sI_2, hb1, e42, g9, e43, h1, pkR]
  | succ m ih =>
    intro j w hj
    have h1 : ¬ nI (A.2.1 2 r) ≤ nI j := nI_ge (by omega) (by omega)
    have e42 : (sI S 47 w).1 42 (12 * t + i) = nI (nu r) := by rw [sI_ne (by omega)]; exact hq
    have e43 : (sI S 47 w).1 43 (nu r) = nI (A.2.1 2 r) := by rw [sI_ne (by omega)]; exact g2
    have e44 : (sI S 47 w).1 44 (16 * nu r + j) = A.1 (100 + r) j := by rw [sI_ne (by omega)]; exact hc j (by omega)
    have hb2 : 16 * nu r + j < 14400 := by omega
    have e32 : ¬ (32 : Int32) = 0 := by decide
    have d1 : nI (b0 + j) / (32 : Int32) = nI ((b0 + j) / 32) := pk_div (d := 32) (by omega) (by omega) (by omega)
    have d2 : nI (b0 + j) - nI ((b0 + j) / 32) * (32 : Int32) = nI ((b0 + j) % 32) := by
      have := pk_rem (a := b0 + j) (d := 32) (by omega) (by omega) (by omega)
      rw [← d1]; exact this
    have d3 : (b0 + j) / 32 < 8 := by omega
    have ih1 := ih (j + 1) (pkW w (b0 + j) (A.1 (100 + r) j)) (by omega)
    have eR : pkR (A.1 (100 + r)) b0 (m + 1) j w = pkR (A.1 (100 + r)) b0 m (j + 1) (pkW w (b0 + j) (A.1 (100 + r) j)) := rfl
    rw [eR, ← ih1, e_X3_pack_99]
    unfold pkW
    simp only [e_X3_pack_101, e_X3_pack_102, e_X3_pack_105, e_X3_pack_106, e_X3_pack_109, e_X3_pack_111, e_X3_pack_112, e_X3_pack_113, e_X3_pack_114, e_X3_pack_115, e_X3_pack_116, e_X3_pack_117, e_X3_pack_120, e_X3_pack_121, e_X3_pack_124, e_X3_pack_125, e_X3_pack_127, e_X3_pack_128, e_X3_pack_129, e_X3_pack_130, e_X3_pack_131, e_X3_pack_134, e_X3_pack_135, e_X3_pack_136, e_X3_pack_137, e_X3_pack_139, e_X3_pack_142, e_X3_pack_143, e_X3_pack_144, e_X3_pack_146, e_X3_pack_147, e_X3_pack_148, e_X3_pack_149, e_X3_pack_150, e_X3_pack_153, e_X3_pack_156, Option.bind_some, Option.bind_none, Option.toList_some, Option.toList_none, List.cons_append, List.nil_append, I_z, I_i8, I_q8, I_i7, I_q7, I_i6, I_q6, I_i5, I_q5, I_i4, I_q4, I_i3, I_q3, I_i2, I_q2, I_i1, I_q1, I_w8, I_w7, I_w6, I_w5, I_w4, I_w3, I_w2, I_c2n, I_c2i, I_c2q, eq_self, or_true, true_or, and_true, true_and, if_true, if_false, not_false_eq_true, not_true_eq_false, Option.map_none, Option.map_some, reduceCtorEq, isM, gM_0, gM_1, gM_2, gM_3, gM_4, gM_5, gM_6, gM_7, gM_8, gM_9, gM_10, gM_11, gM_12, gM_13, gM_14, gM_15, gM_16, gM_17, gM_18, gM_19, gM_20, lA0, lA1, lA2, lA3, lA4, lA5, lA6, lA7, lA8, lA9, lA10, lA11, lA12, nI_1, nI_add, n12, n16, sI_2, hb1, e42, g9, e43, h1, e32, d1, d2, d3, sI_g, q_cellOf v1.1 i12 e42, hb2, e44, uA7, sI_sI, Nat.add_assoc]
theorem q_pk3 (v1 : TV S A nu t) (hc : ∀ i r j, i < A.2.1 1 t → A.2.2.1 t i = some r → j < A.2.1 2 r → S.1 44 (16 * nu r + j) = A.1 (100 + r) j) (hP : ∀ i, i < A.2.1 1 t → ∃ r, A.2.2.1 t i = some r) : ∀ m i b l4 (w : Nat → Int32), i + m = A.2.1 1 t → b ≤ 16 * i → ∃ l4', ev X (d + 1) m_X3_pack 86 [some (va_rf (some (aM X))), some (.int (nI t)), some (.int (nI b)), some (.int (nI i)), l4] [] (rp X (sI S 47 w)) = ev X (d + 1) m_X3_pack 165 [some (va_rf (some (aM X))), some (.int (nI t)), some (.int (nI (pkT A t m i b w).2)), some (.int (nI (A.2.1 1 t))), l4'] [] (rp X (sI S 47 (pkT A t m i b w).1)) := by
  have h12 := v1.2.2.1
  intro m
  induction m with
  | zero =>
    intro i b l4 w hi hb
    have e : i = A.2.1 1 t := by omega
    subst e
    have h1 : nI (A.2.1 1 t) ≤ nI (A.2.1 1 t) := nI_le (Nat.le_refl _) (by omega)
    have e41 : (sI S 47 w).1 41 t = nI (A.2.1 1 t) := by rw [sI_ne (by omega)]; exact v1.2.1
    refine ⟨l4, ?_⟩
    rw [e_X3_pack_86]
    simp only [e_X3_pack_87, e_X3_pack_88, e_X3_pack_91, e_X3_pack_92, e_X3_pack_93, e_X3_pack_96, e_X3_pack_97, Option.bind_some, Option.bind_none, Option.toList_some, Option.toList_none, List.cons_append, List.nil_append, I_z, I_i8, I_q8, I_i7, I_q7, I_i6, I_q6, I_i5, I_q5, I_i4, I_q4, I_i3, I_q3, I_i2, I_q2, I_i1, I_q1, I_w8, I_w7, I_w6, I_w5, I_w4, I_w3, I_w2, I_c2n, I_c2i, I_c2q, eq_self, or_true, true_or, and_true, true_and, if_true, if_false, not_false_eq_true, not_true_eq_false, Option.map_none, Option.map_some, reduceCtorEq, isM, gM_0, gM_1, gM_2, gM_3, gM_4, gM_5, gM_6, gM_7, gM_8, gM_9, gM_10, gM_11, gM_12, gM_13, gM_14, gM_15, gM_16, gM_17, gM_18, gM_19, gM_20, lA0, lA1, lA2, lA3, lA4, lA5, lA6, lA7, lA8, lA9, lA10, lA11, lA12, nI_1, nI_add, n12, n16, sI_2, v1.1, e41, h1, pkT]
  | succ m ih =>
    intro i b l4 w hi hb
    have h1 : ¬ nI (A.2.1 1 t) ≤ nI i := nI_ge (by omega) (by omega)
    have e41 : (sI S 47 w).1 41 t = nI (A.2.1 1 t) := by rw [sI_ne (by omega)]; exact v1.2.1
    obtain ⟨r, hp⟩ := hP i (by omega)
    obtain ⟨g1, g2, g3⟩ := v1.2.2.2.2.2 i r (by omega) hp
    have h4 := q_pk4 (X := X) (d := d) (b0 := b) v1 (show i < A.2.1 1 t by omega) hp (fun j hj => hc i r j (by omega) hp hj) (by omega) (A.2.1 2 r) 0 w (by omega)
    rw [nI_0, Nat.add_zero b] at h4
    obtain ⟨l4', ih1⟩ := ih (i + 1) (b + A.2.1 2 r) (some (.int (nI (A.2.1 2 r)))) (pkR (A.1 (100 + r)) b (A.2.1 2 r) 0 w) (by omega) (by omega)
    have eT : pkT A t (m + 1) i b w = pkT A t m (i + 1) (b + A.2.1 2 r) (pkR (A.1 (100 + r)) b (A.2.1 2 r) 0 w) := by
      show pkT A t m (i + 1) (b + A.2.1 2 (rowAt A t i)) (pkR (A.1 (100 + rowAt A t i)) b (A.2.1 2 (rowAt A t i)) 0 w) = _
      rw [rowAt_s hp]
    refine ⟨l4', ?_⟩
    rw [eT, ← ih1, e_X3_pack_86]
    simp only [e_X3_pack_87, e_X3_pack_88, e_X3_pack_91, e_X3_pack_92, e_X3_pack_93, e_X3_pack_96, e_X3_pack_97, Option.bind_some, Option.bind_none, Option.toList_some, Option.toList_none, List.cons_append, List.nil_append, I_z, I_i8, I_q8, I_i7, I_q7, I_i6, I_q6, I_i5, I_q5, I_i4, I_q4, I_i3, I_q3, I_i2, I_q2, I_i1, I_q1, I_w8, I_w7, I_w6, I_w5, I_w4, I_w3, I_w2, I_c2n, I_c2i, I_c2q, eq_self, or_true, true_or, and_true, true_and, if_true, if_false, not_false_eq_true, not_true_eq_false, Option.map_none, Option.map_some, reduceCtorEq, isM, gM_0, gM_1, gM_2, gM_3, gM_4, gM_5, gM_6, gM_7, gM_8, gM_9, gM_10, gM_11, gM_12, gM_13, gM_14, gM_15, gM_16, gM_17, gM_18, gM_19, gM_20, lA0, lA1, lA2, lA3, lA4, lA5, lA6, lA7, lA8, lA9, lA10, lA11, lA12, nI_1, nI_add, n12, n16, sI_2, v1.1, e41, h1, h4]
    simp only [e_X3_pack_159, e_X3_pack_162, Option.bind_some, Option.bind_none, Option.toList_some, Option.toList_none, List.cons_append, List.nil_append, I_z, I_i8, I_q8, I_i7, I_q7, I_i6, I_q6, I_i5, I_q5, I_i4, I_q4, I_i3, I_q3, I_i2, I_q2, I_i1, I_q1, I_w8, I_w7, I_w6, I_w5, I_w4, I_w3, I_w2, I_c2n, I_c2i, I_c2q, eq_self, or_true, true_or, and_true, true_and, if_true, if_false, not_false_eq_true, not_true_eq_false, Option.map_none, Option.map_some, reduceCtorEq, isM, gM_0, gM_1, gM_2, gM_3, gM_4, gM_5, gM_6, gM_7, gM_8, gM_9, gM_10, gM_11, gM_12, gM_13, gM_14, gM_15, gM_16, gM_17, gM_18, gM_19, gM_20, lA0, lA1, lA2, lA3, lA4, lA5, lA6, lA7, lA8, lA9, lA10, lA11, lA12, nI_1, nI_add, n12, n16, sI_2]
/-- packed, in the reference -/
def qPack (S A : St) (t : Nat) : St := sI (sI S 47 (pkT A t (A.2.1 1 t) 0 0 (fillF (S.1 47) 0 8)).1) 20 (upd (S.1 20) 10 (nI (((pkT A t (A.2.1 1 t) 0 0 (fillF (S.1 47) 0 8)).2 + 31) / 32)))
theorem q_pack_ok (hW : WB A) (hM : S.1 20 0 = nI (A.2.1 0 0)) (h16 : A.2.1 0 0 ≤ 16) (h1 : t < A.2.1 0 0) (v1 : TV S A nu t) (hk : A.1 1 t = 0) (hB : bitT A t) (hc : ∀ i r j, i < A.2.1 1 t → A.2.2.1 t i = some r → j < A.2.1 2 r → S.1 44 (16 * nu r + j) = A.1 (100 + r) j) : ev X (d + 2) m_X3_pack 0 [some (va_rf (some (aM X))), some (.int (nI t)), none, none, none] [] (rp X S) = some (some (.int (nI (((pkT A t (A.2.1 1 t) 0 0 (fillF (S.1 47) 0 8)).2 + 31) / 32))), rp X (qPack S A t)) := by
  have h12 := v1.2.2.1
  have l1 := (q_pk1 (X := X) (d := d + 1) v1 (A.2.1 1 t) 0 (by omega)).2 (fun q _ hq => by obtain ⟨r, hp, _⟩ := hB q hq; rw [hp]; exact fun z => by cases z)
  have l2 := q_pk2 (X := X) (d := d + 2) (a := nI t) (S.1 47) 8 0 S (by omega) (by rw [fillF_0])
  obtain ⟨l4', l3⟩ := q_pk3 (X := X) (d := d + 1) v1 hc (fun i hi => by obtain ⟨r, hp, _⟩ := hB i hi; exact ⟨r, hp⟩) (A.2.1 1 t) 0 0 none (fillF (S.1 47) 0 8) (by omega) (by omega)
  have hb := pkT_b hW v1.1 hB (A.2.1 1 t) 0 0 (fillF (S.1 47) 0 8) (by omega) (by omega)
  unfold qPack
  generalize pkT A t (A.2.1 1 t) 0 0 (fillF (S.1 47) 0 8) = P at *
  rw [nI_0] at l1 l2 l3
  have e32 : ¬ (32 : Int32) = 0 := by decide
  have d0 : nI P.2 + 31 = nI (P.2 + 31) := nI_add P.2 31
  have d1 : nI (P.2 + 31) / (32 : Int32) = nI ((P.2 + 31) / 32) := pk_div (d := 32) (by omega) (by omega) (by omega)
  have e20 : (sI S 47 P.1).1 20 = S.1 20 := sI_ne (by omega)
  simp only [e_X3_pack_0, e_X3_pack_1, e_X3_pack_2, e_X3_pack_5, e_X3_pack_8, e_X3_pack_10, e_X3_pack_11, e_X3_pack_12, e_X3_pack_15, e_X3_pack_16, e_X3_pack_17, e_X3_pack_20, e_X3_pack_22, e_X3_pack_23, e_X3_pack_24, Option.bind_some, Option.bind_none, Option.toList_some, Option.toList_none, List.cons_append, List.nil_append, I_z, I_i8, I_q8, I_i7, I_q7, I_i6, I_q6, I_i5, I_q5, I_i4, I_q4, I_i3, I_q3, I_i2, I_q2, I_i1, I_q1, I_w8, I_w7, I_w6, I_w5, I_w4, I_w3, I_w2, I_c2n, I_c2i, I_c2q, eq_self, or_true, true_or, and_true, true_and, if_true, if_false, not_false_eq_true, not_true_eq_false, Option.map_none, Option.map_some, reduceCtorEq, isM, gM_0, gM_1, gM_2, gM_3, gM_4, gM_5, gM_6, gM_7, gM_8, gM_9, gM_10, gM_11, gM_12, gM_13, gM_14, gM_15, gM_16, gM_17, gM_18, gM_19, gM_20, lA0, lA1, lA2, lA3, lA4, lA5, lA6, lA7, lA8, lA9, lA10, lA11, lA12, nI_1, nI_add, n12, n16, sI_2, q_isTable1 hM h16 h1, e10, v1.1, v1.2.2.2.1, hk, l1]
  simp only [e_X3_pack_61, e_X3_pack_62, Option.bind_some, Option.bind_none, Option.toList_some, Option.toList_none, List.cons_append, List.nil_append, I_z, I_i8, I_q8, I_i7, I_q7, I_i6, I_q6, I_i5, I_q5, I_i4, I_q4, I_i3, I_q3, I_i2, I_q2, I_i1, I_q1, I_w8, I_w7, I_w6, I_w5, I_w4, I_w3, I_w2, I_c2n, I_c2i, I_c2q, eq_self, or_true, true_or, and_true, true_and, if_true, if_false, not_false_eq_true, not_true_eq_false, Option.map_none, Option.map_some, reduceCtorEq, isM, gM_0, gM_1, gM_2, gM_3, gM_4, gM_5, gM_6, gM_7, gM_8, gM_9, gM_10, gM_11, gM_12, gM_13, gM_14, gM_15, gM_16, gM_17, gM_18, gM_19, gM_20, lA0, lA1, lA2, lA3, lA4, lA5, lA6, lA7, lA8, lA9, lA10, lA11, lA12, nI_1, nI_add, n12, n16, sI_2, l2]
  simp only [e_X3_pack_82, e_X3_pack_83, e_X3_pack_84, e_X3_pack_85, Option.bind_some, Option.bind_none, Option.toList_some, Option.toList_none, List.cons_append, List.nil_append, I_z, I_i8, I_q8, I_i7, I_q7, I_i6, I_q6, I_i5, I_q5, I_i4, I_q4, I_i3, I_q3, I_i2, I_q2, I_i1, I_q1, I_w8, I_w7, I_w6, I_w5, I_w4, I_w3, I_w2, I_c2n, I_c2i, I_c2q, eq_self, or_true, true_or, and_true, true_and, if_true, if_false, not_false_eq_true, not_true_eq_false, Option.map_none, Option.map_some, reduceCtorEq, isM, gM_0, gM_1, gM_2, gM_3, gM_4, gM_5, gM_6, gM_7, gM_8, gM_9, gM_10, gM_11, gM_12, gM_13, gM_14, gM_15, gM_16, gM_17, gM_18, gM_19, gM_20, lA0, lA1, lA2, lA3, lA4, lA5, lA6, lA7, lA8, lA9, lA10, lA11, lA12, nI_1, nI_add, n12, n16, sI_2, l3]
  simp only [e_X3_pack_165, e_X3_pack_166, e_X3_pack_167, e_X3_pack_169, e_X3_pack_170, e_X3_pack_172, e_X3_pack_173, e_X3_pack_176, e_X3_pack_177, e_X3_pack_180, Option.bind_some, Option.bind_none, Option.toList_some, Option.toList_none, List.cons_append, List.nil_append, I_z, I_i8, I_q8, I_i7, I_q7, I_i6, I_q6, I_i5, I_q5, I_i4, I_q4, I_i3, I_q3, I_i2, I_q2, I_i1, I_q1, I_w8, I_w7, I_w6, I_w5, I_w4, I_w3, I_w2, I_c2n, I_c2i, I_c2q, eq_self, or_true, true_or, and_true, true_and, if_true, if_false, not_false_eq_true, not_true_eq_false, Option.map_none, Option.map_some, reduceCtorEq, isM, gM_0, gM_1, gM_2, gM_3, gM_4, gM_5, gM_6, gM_7, gM_8, gM_9, gM_10, gM_11, gM_12, gM_13, gM_14, gM_15, gM_16, gM_17, gM_18, gM_19, gM_20, lA0, lA1, lA2, lA3, lA4, lA5, lA6, lA7, lA8, lA9, lA10, lA11, lA12, nI_1, nI_add, n12, n16, sI_2, d0, e32, d1, pM_10, e20, sI_g, pk_us]
theorem q_cn1 (hR : R ≤ 511) (f : Nat → Int32) : ∀ m i (S : St), i + m = R → S.1 20 4 = nI R → S.1 46 = blk f 0 0 i → ev X d m_X3_count 7 [some (va_rf (some (aM X))), some (.int a), some (.int b), some (.int c), some (.int (nI i)), none, none] [] (rp X S) = ev X d m_X3_count 30 [some (va_rf (some (aM X))), some (.int a), some (.int b), some (.int c), some (.int (nI R)), none, none] [] (rp X (sI S 46 (blk f 0 0 R))) := by
  intro m
  induction m with
  | zero =>
    intro i S hi hM h6
    have e : i = R := by omega
    subst e
    have h1 : nI i ≤ nI i := nI_le (Nat.le_refl _) (by omega)
    rw [← h6, sI_self, e_X3_count_7]
    simp only [e_X3_count_9, e_X3_count_10, e_X3_count_13, e_X3_count_16, e_X3_count_17, e_X3_count_20, e_X3_count_22, e_X3_count_23, e_X3_count_24, e_X3_count_27, Option.bind_some, Option.bind_none, Option.toList_some, Option.toList_none, List.cons_append, List.nil_append, I_z, I_i8, I_q8, I_i7, I_q7, I_i6, I_q6, I_i5, I_q5, I_i4, I_q4, I_i3, I_q3, I_i2, I_q2, I_i1, I_q1, I_w8, I_w7, I_w6, I_w5, I_w4, I_w3, I_w2, I_c2n, I_c2i, I_c2q, eq_self, or_true, true_or, and_true, true_and, if_true, if_false, not_false_eq_true, not_true_eq_false, Option.map_none, Option.map_some, reduceCtorEq, isM, gM_0, gM_1, gM_2, gM_3, gM_4, gM_5, gM_6, gM_7, gM_8, gM_9, gM_10, gM_11, gM_12, gM_13, gM_14, gM_15, gM_16, gM_17, gM_18, gM_19, gM_20, lA0, lA1, lA2, lA3, lA4, lA5, lA6, lA7, lA8, lA9, lA10, lA11, lA12, nI_1, nI_add, n12, n16, sI_2, hM, h1]
  | succ m ih =>
    intro i S hi hM h6
    have h1 : ¬ nI R ≤ nI i := nI_ge (by omega) (by omega)
    have hb : i < 900 := by omega
    have hb2 : upd (blk f 0 0 i) i 0 = blk f 0 0 (i + 1) := by
      have := blk_s (f := f) (p := 0) (v := 0) (m := i)
      rw [Nat.zero_add] at this; exact this
    have ih1 := ih (i + 1) (sI S 46 (upd (S.1 46) i 0)) (by omega) (by rw [sI_ne (by omega)]; exact hM) (by rw [sI_g, h6, hb2])
    rw [sI_sI] at ih1
    rw [← ih1, e_X3_count_7]
    simp only [e_X3_count_9, e_X3_count_10, e_X3_count_13, e_X3_count_16, e_X3_count_17, e_X3_count_20, e_X3_count_22, e_X3_count_23, e_X3_count_24, e_X3_count_27, Option.bind_some, Option.bind_none, Option.toList_some, Option.toList_none, List.cons_append, List.nil_append, I_z, I_i8, I_q8, I_i7, I_q7, I_i6, I_q6, I_i5, I_q5, I_i4, I_q4, I_i3, I_q3, I_i2, I_q2, I_i1, I_q1, I_w8, I_w7, I_w6, I_w5, I_w4, I_w3, I_w2, I_c2n, I_c2i, I_c2q, eq_self, or_true, true_or, and_true, true_and, if_true, if_false, not_false_eq_true, not_true_eq_false, Option.map_none, Option.map_some, reduceCtorEq, isM, gM_0, gM_1, gM_2, gM_3, gM_4, gM_5, gM_6, gM_7, gM_8, gM_9, gM_10, gM_11, gM_12, gM_13, gM_14, gM_15, gM_16, gM_17, gM_18, gM_19, gM_20, lA0, lA1, lA2, lA3, lA4, lA5, lA6, lA7, lA8, lA9, lA10, lA11, lA12, nI_1, nI_add, n12, n16, sI_2, hM, h1, uA6, hb]
/-- the marks of the reference are g's -/
def mkR (A S0 S : St) (nu : Nat → Nat) (g : Nat → Int32) : Prop := cEq S S0 ∧ (∀ q, q ≠ 46 → S.1 q = S0.1 q) ∧ S.2.2.2 0 = S0.2.2.2 0 ∧ ∀ r, std A r → S.1 46 (nu r) = g r ∧ (g r = 0 ∨ g r = 1)
theorem q_cn3 (hs : Sim S0 A nu) (hW : WB A) (ht : t < A.2.1 0 0) : ∀ m i b c l6 g (S : St), i + m = A.2.1 1 t → mkR A S0 S nu g → ∃ S' l6', ev X d m_X3_count 45 [some (va_rf (some (aM X))), some (.int a), some (.int b), some (.int c), some (.int (nI t)), some (.int (nI i)), l6] [] (rp X S) = ev X d m_X3_count 115 [some (va_rf (some (aM X))), some (.int a), some (.int (markA A t 1 m i g b).2), some (.int (fallA A t m i c)), some (.int (nI t)), some (.int (nI (A.2.1 1 t))), l6'] [] (rp X S') ∧ mkR A S0 S' nu (markA A t 1 m i g b).1 := by
  have v1 := hs.tv hW ht
  have h12 := v1.2.2.1
  intro m
  induction m with
  | zero =>
    intro i b c l6 g S hi hK
    have e : i = A.2.1 1 t := by omega
    subst e
    have h1 : nI (A.2.1 1 t) ≤ nI (A.2.1 1 t) := nI_le (Nat.le_refl _) (by omega)
    have e41 : S.1 41 t = nI (A.2.1 1 t) := by rw [hK.2.1 41 (by omega)]; exact v1.2.1
    refine ⟨S, l6, ?_, hK⟩
    rw [e_X3_count_45]
    simp only [e_X3_count_47, e_X3_count_48, e_X3_count_51, e_X3_count_53, e_X3_count_54, e_X3_count_57, e_X3_count_58, e_X3_count_61, e_X3_count_63, e_X3_count_65, e_X3_count_66, e_X3_count_68, e_X3_count_69, e_X3_count_70, e_X3_count_72, e_X3_count_74, e_X3_count_77, e_X3_count_80, e_X3_count_83, e_X3_count_84, e_X3_count_85, e_X3_count_88, e_X3_count_90, e_X3_count_91, e_X3_count_94, e_X3_count_95, e_X3_count_98, e_X3_count_99, e_X3_count_100, e_X3_count_101, e_X3_count_102, e_X3_count_105, e_X3_count_107, e_X3_count_108, e_X3_count_109, e_X3_count_112, Option.bind_some, Option.bind_none, Option.toList_some, Option.toList_none, List.cons_append, List.nil_append, I_z, I_i8, I_q8, I_i7, I_q7, I_i6, I_q6, I_i5, I_q5, I_i4, I_q4, I_i3, I_q3, I_i2, I_q2, I_i1, I_q1, I_w8, I_w7, I_w6, I_w5, I_w4, I_w3, I_w2, I_c2n, I_c2i, I_c2q, eq_self, or_true, true_or, and_true, true_and, if_true, if_false, not_false_eq_true, not_true_eq_false, Option.map_none, Option.map_some, reduceCtorEq, isM, gM_0, gM_1, gM_2, gM_3, gM_4, gM_5, gM_6, gM_7, gM_8, gM_9, gM_10, gM_11, gM_12, gM_13, gM_14, gM_15, gM_16, gM_17, gM_18, gM_19, gM_20, lA0, lA1, lA2, lA3, lA4, lA5, lA6, lA7, lA8, lA9, lA10, lA11, lA12, nI_1, nI_add, n12, n16, sI_2, v1.1, e41, h1, markA, fallA]
  | succ m ih =>
    intro i b c l6 g S hi hK
    have h1 : ¬ nI (A.2.1 1 t) ≤ nI i := nI_ge (by omega) (by omega)
    have e41 : S.1 41 t = nI (A.2.1 1 t) := by rw [hK.2.1 41 (by omega)]; exact v1.2.1
    have hb : 12 * t + i < 192 := by have := v1.1; omega
    have hq := v1.2.2.2.2.1 i (by omega)
    rw [← hK.2.1 42 (by omega)] at hq
    cases hp : A.2.2.1 t i with
    | none =>
      rw [hp, plN_n] at hq
      obtain ⟨S', l6', f1, f2⟩ := ih (i + 1) b (c + 1) (some (.int (-1))) g S (by omega) hK
      have eM : markA A t 1 (m + 1) i g b = markA A t 1 m (i + 1) g b := by
        show (match A.2.2.1 t i with | none => _ | some r => _) = _
        rw [hp]
      have eF : fallA A t (m + 1) i c = fallA A t m (i + 1) (c + 1) := by
        show fallA A t m (i + 1) (match A.2.2.1 t i with | none => c + 1 | some _ => c) = _
        rw [hp]
      refine ⟨S', l6', ?_, by rw [eM]; exact f2⟩
      rw [eM, eF, ← f1, e_X3_count_45]
      simp only [e_X3_count_47, e_X3_count_48, e_X3_count_51, e_X3_count_53, e_X3_count_54, e_X3_count_57, e_X3_count_58, e_X3_count_61, e_X3_count_63, e_X3_count_65, e_X3_count_66, e_X3_count_68, e_X3_count_69, e_X3_count_70, e_X3_count_72, e_X3_count_74, e_X3_count_77, e_X3_count_80, e_X3_count_83, e_X3_count_84, e_X3_count_85, e_X3_count_88, e_X3_count_90, e_X3_count_91, e_X3_count_94, e_X3_count_95, e_X3_count_98, e_X3_count_99, e_X3_count_100, e_X3_count_101, e_X3_count_102, e_X3_count_105, e_X3_count_107, e_X3_count_108, e_X3_count_109, e_X3_count_112, Option.bind_some, Option.bind_none, Option.toList_some, Option.toList_none, List.cons_append, List.nil_append, I_z, I_i8, I_q8, I_i7, I_q7, I_i6, I_q6, I_i5, I_q5, I_i4, I_q4, I_i3, I_q3, I_i2, I_q2, I_i1, I_q1, I_w8, I_w7, I_w6, I_w5, I_w4, I_w3, I_w2, I_c2n, I_c2i, I_c2q, eq_self, or_true, true_or, and_true, true_and, if_true, if_false, not_false_eq_true, not_true_eq_false, Option.map_none, Option.map_some, reduceCtorEq, isM, gM_0, gM_1, gM_2, gM_3, gM_4, gM_5, gM_6, gM_7, gM_8, gM_9, gM_10, gM_11, gM_12, gM_13, gM_14, gM_15, gM_16, gM_17, gM_18, gM_19, gM_20, lA0, lA1, lA2, lA3, lA4, lA5, lA6, lA7, lA8, lA9, lA10, lA11, lA12, nI_1, nI_add, n12, n16, sI_2, v1.1, e41, h1, hb, hq, neg1_ge]
    | some r =>
      rw [hp, plN_s] at hq
      have hst : std A r := ⟨t, i, ht, by omega, hp⟩
      obtain ⟨g1, g2, g3⟩ := v1.2.2.2.2.2 i r (by omega) hp
      have gg : 0 ≤ nI (nu r) := nI_pos' (by omega)
      have g9 : nu r < 900 := by omega
      obtain ⟨k1, k2⟩ := hK.2.2.2 r hst
      have eF : fallA A t (m + 1) i c = fallA A t m (i + 1) c := by
        show fallA A t m (i + 1) (match A.2.2.1 t i with | none => c + 1 | some _ => c) = _
        rw [hp]
      have inj : ∀ r', std A r' → r' ≠ r → nu r' ≠ nu r := fun r' h h2 z => h2 (hs.2.2.2.2.1 r' r h hst z)
      have hK2 : mkR A S0 (sI S 46 (upd (S.1 46) (nu r) 1)) nu (upd g r 1) := by
        refine ⟨(cEq_sI (by omega) (by omega)).trans hK.1, fun q hq => by rw [sI_ne hq]; exact hK.2.1 q hq, hK.2.2.1, fun r' hr' => ?_⟩
        rw [sI_g]
        by_cases z : r' = r
        · subst z; rw [pk_us, pk_us]; exact ⟨rfl, Or.inr rfl⟩
        · rw [pk_un (inj r' hr' z), pk_un z]; exact hK.2.2.2 r' hr'
      by_cases c1 : g r = 1
      · have eM : markA A t 1 (m + 1) i g b = markA A t 1 m (i + 1) g b := by
          show (match A.2.2.1 t i with | none => _ | some r => _) = _
          rw [hp]
          exact if_pos c1
        have eg : upd g r 1 = g := by
          funext q
          unfold upd
          by_cases z : q = r
          · rw [if_pos z, z, c1]
          · rw [if_neg z]
        rw [eg] at hK2
        obtain ⟨S', l6', f1, f2⟩ := ih (i + 1) (b + 0) c (some (.int (nI (nu r)))) g _ (by omega) hK2
        have z1 : ¬ S.1 46 (nu r) = 0 := by rw [k1, c1]; decide
        rw [Int32.add_zero] at f1 f2
        refine ⟨S', l6', ?_, by rw [eM]; exact f2⟩
        rw [eM, eF, ← f1, e_X3_count_45]
        simp only [e_X3_count_47, e_X3_count_48, e_X3_count_51, e_X3_count_53, e_X3_count_54, e_X3_count_57, e_X3_count_58, e_X3_count_61, e_X3_count_63, e_X3_count_65, e_X3_count_66, e_X3_count_68, e_X3_count_69, e_X3_count_70, e_X3_count_72, e_X3_count_74, e_X3_count_77, e_X3_count_80, e_X3_count_83, e_X3_count_84, e_X3_count_85, e_X3_count_88, e_X3_count_90, e_X3_count_91, e_X3_count_94, e_X3_count_95, e_X3_count_98, e_X3_count_99, e_X3_count_100, e_X3_count_101, e_X3_count_102, e_X3_count_105, e_X3_count_107, e_X3_count_108, e_X3_count_109, e_X3_count_112, Option.bind_some, Option.bind_none, Option.toList_some, Option.toList_none, List.cons_append, List.nil_append, I_z, I_i8, I_q8, I_i7, I_q7, I_i6, I_q6, I_i5, I_q5, I_i4, I_q4, I_i3, I_q3, I_i2, I_q2, I_i1, I_q1, I_w8, I_w7, I_w6, I_w5, I_w4, I_w3, I_w2, I_c2n, I_c2i, I_c2q, eq_self, or_true, true_or, and_true, true_and, if_true, if_false, not_false_eq_true, not_true_eq_false, Option.map_none, Option.map_some, reduceCtorEq, isM, gM_0, gM_1, gM_2, gM_3, gM_4, gM_5, gM_6, gM_7, gM_8, gM_9, gM_10, gM_11, gM_12, gM_13, gM_14, gM_15, gM_16, gM_17, gM_18, gM_19, gM_20, lA0, lA1, lA2, lA3, lA4, lA5, lA6, lA7, lA8, lA9, lA10, lA11, lA12, nI_1, nI_add, n12, n16, sI_2, v1.1, e41, h1, hb, hq, gg, g9, z1, uA6, Int32.add_zero]
      · have eM : markA A t 1 (m + 1) i g b = markA A t 1 m (i + 1) (upd g r 1) (b + 1) := by
          show (match A.2.2.1 t i with | none => _ | some r => _) = _
          rw [hp]
          exact if_neg c1
        obtain ⟨S', l6', f1, f2⟩ := ih (i + 1) (b + 1) c (some (.int (nI (nu r)))) (upd g r 1) _ (by omega) hK2
        have z1 : S.1 46 (nu r) = 0 := by rw [k1]; exact k2.resolve_right c1
        refine ⟨S', l6', ?_, by rw [eM]; exact f2⟩
        rw [eM, eF, ← f1, e_X3_count_45]
        simp only [e_X3_count_47, e_X3_count_48, e_X3_count_51, e_X3_count_53, e_X3_count_54, e_X3_count_57, e_X3_count_58, e_X3_count_61, e_X3_count_63, e_X3_count_65, e_X3_count_66, e_X3_count_68, e_X3_count_69, e_X3_count_70, e_X3_count_72, e_X3_count_74, e_X3_count_77, e_X3_count_80, e_X3_count_83, e_X3_count_84, e_X3_count_85, e_X3_count_88, e_X3_count_90, e_X3_count_91, e_X3_count_94, e_X3_count_95, e_X3_count_98, e_X3_count_99, e_X3_count_100, e_X3_count_101, e_X3_count_102, e_X3_count_105, e_X3_count_107, e_X3_count_108, e_X3_count_109, e_X3_count_112, Option.bind_some, Option.bind_none, Option.toList_some, Option.toList_none, List.cons_append, List.nil_append, I_z, I_i8, I_q8, I_i7, I_q7, I_i6, I_q6, I_i5, I_q5, I_i4, I_q4, I_i3, I_q3, I_i2, I_q2, I_i1, I_q1, I_w8, I_w7, I_w6, I_w5, I_w4, I_w3, I_w2, I_c2n, I_c2i, I_c2q, eq_self, or_true, true_or, and_true, true_and, if_true, if_false, not_false_eq_true, not_true_eq_false, Option.map_none, Option.map_some, reduceCtorEq, isM, gM_0, gM_1, gM_2, gM_3, gM_4, gM_5, gM_6, gM_7, gM_8, gM_9, gM_10, gM_11, gM_12, gM_13, gM_14, gM_15, gM_16, gM_17, gM_18, gM_19, gM_20, lA0, lA1, lA2, lA3, lA4, lA5, lA6, lA7, lA8, lA9, lA10, lA11, lA12, nI_1, nI_add, n12, n16, sI_2, v1.1, e41, h1, hb, hq, gg, g9, z1, uA6]
/-- the countings through all tables, as the reference makes them -/
def cntM (A : St) : Nat → Nat → (Nat → Int32) → Int32 → Int32 → (Nat → Int32) × Int32 × Int32
  | 0, _, g, b, c => (g, b, c)
  | m + 1, t, g, b, c => cntM A m (t + 1) (markA A t 1 (A.2.1 1 t) 0 g b).1 (markA A t 1 (A.2.1 1 t) 0 g b).2 (fallA A t (A.2.1 1 t) 0 c)
theorem q_cn2 (hs : Sim S0 A nu) (hW : WB A) : ∀ m t b c l5 l6 g (S : St), t + m = A.2.1 0 0 → mkR A S0 S nu g → ∃ S' l5' l6', ev X d m_X3_count 33 [some (va_rf (some (aM X))), some (.int a), some (.int b), some (.int c), some (.int (nI t)), l5, l6] [] (rp X S) = ev X d m_X3_count 121 [some (va_rf (some (aM X))), some (.int a), some (.int (cntM A m t g b c).2.1), some (.int (cntM A m t g b c).2.2), some (.int (nI (A.2.1 0 0))), l5', l6'] [] (rp X S') ∧ mkR A S0 S' nu (cntM A m t g b c).1 := by
  have h16 := hW.1
  intro m
  induction m with
  | zero =>
    intro t b c l5 l6 g S ht hK
    have e : t = A.2.1 0 0 := by omega
    subst e
    have h1 : nI (A.2.1 0 0) ≤ nI (A.2.1 0 0) := nI_le (Nat.le_refl _) (by omega)
    have e20 : S.1 20 0 = nI (A.2.1 0 0) := by rw [hK.2.1 20 (by omega)]; exact hs.1
    refine ⟨S, l5, l6, ?_, hK⟩
    rw [e_X3_count_33]
    simp only [e_X3_count_35, e_X3_count_36, e_X3_count_39, e_X3_count_42, e_X3_count_43, Option.bind_some, Option.bind_none, Option.toList_some, Option.toList_none, List.cons_append, List.nil_append, I_z, I_i8, I_q8, I_i7, I_q7, I_i6, I_q6, I_i5, I_q5, I_i4, I_q4, I_i3, I_q3, I_i2, I_q2, I_i1, I_q1, I_w8, I_w7, I_w6, I_w5, I_w4, I_w3, I_w2, I_c2n, I_c2i, I_c2q, eq_self, or_true, true_or, and_true, true_and, if_true, if_false, not_false_eq_true, not_true_eq_false, Option.map_none, Option.map_some, reduceCtorEq, isM, gM_0, gM_1, gM_2, gM_3, gM_4, gM_5, gM_6, gM_7, gM_8, gM_9, gM_10, gM_11, gM_12, gM_13, gM_14, gM_15, gM_16, gM_17, gM_18, gM_19, gM_20, lA0, lA1, lA2, lA3, lA4, lA5, lA6, lA7, lA8, lA9, lA10, lA11, lA12, nI_1, nI_add, n12, n16, sI_2, e20, h1, cntM]
  | succ m ih =>
    intro t b c l5 l6 g S ht hK
    have h1 : ¬ nI (A.2.1 0 0) ≤ nI t := nI_ge (by omega) (by omega)
    have e20 : S.1 20 0 = nI (A.2.1 0 0) := by rw [hK.2.1 20 (by omega)]; exact hs.1
    obtain ⟨S1, l6', e1, e2⟩ := q_cn3 (X := X) (d := d) (a := a) hs hW (show t < A.2.1 0 0 by omega) (A.2.1 1 t) 0 b c l6 g S (by omega) hK
    rw [nI_0] at e1
    obtain ⟨S2, l5'', l6'', f1, f2⟩ := ih (t + 1) _ (fallA A t (A.2.1 1 t) 0 c) (some (.int (nI (A.2.1 1 t)))) l6' _ S1 (by omega) e2
    refine ⟨S2, l5'', l6'', ?_, f2⟩
    show _ = ev X d m_X3_count 121 [_, _, some (.int (cntM A m (t + 1) _ _ _).2.1), some (.int (cntM A m (t + 1) _ _ _).2.2), _, _, _] [] _
    rw [← f1, e_X3_count_33]
    simp only [e_X3_count_35, e_X3_count_36, e_X3_count_39, e_X3_count_42, e_X3_count_43, Option.bind_some, Option.bind_none, Option.toList_some, Option.toList_none, List.cons_append, List.nil_append, I_z, I_i8, I_q8, I_i7, I_q7, I_i6, I_q6, I_i5, I_q5, I_i4, I_q4, I_i3, I_q3, I_i2, I_q2, I_i1, I_q1, I_w8, I_w7, I_w6, I_w5, I_w4, I_w3, I_w2, I_c2n, I_c2i, I_c2q, eq_self, or_true, true_or, and_true, true_and, if_true, if_false, not_false_eq_true, not_true_eq_false, Option.map_none, Option.map_some, reduceCtorEq, isM, gM_0, gM_1, gM_2, gM_3, gM_4, gM_5, gM_6, gM_7, gM_8, gM_9, gM_10, gM_11, gM_12, gM_13, gM_14, gM_15, gM_16, gM_17, gM_18, gM_19, gM_20, lA0, lA1, lA2, lA3, lA4, lA5, lA6, lA7, lA8, lA9, lA10, lA11, lA12, nI_1, nI_add, n12, n16, sI_2, e20, h1, e1]
    simp only [e_X3_count_115, e_X3_count_118, Option.bind_some, Option.bind_none, Option.toList_some, Option.toList_none, List.cons_append, List.nil_append, I_z, I_i8, I_q8, I_i7, I_q7, I_i6, I_q6, I_i5, I_q5, I_i4, I_q4, I_i3, I_q3, I_i2, I_q2, I_i1, I_q1, I_w8, I_w7, I_w6, I_w5, I_w4, I_w3, I_w2, I_c2n, I_c2i, I_c2q, eq_self, or_true, true_or, and_true, true_and, if_true, if_false, not_false_eq_true, not_true_eq_false, Option.map_none, Option.map_some, reduceCtorEq, isM, gM_0, gM_1, gM_2, gM_3, gM_4, gM_5, gM_6, gM_7, gM_8, gM_9, gM_10, gM_11, gM_12, gM_13, gM_14, gM_15, gM_16, gM_17, gM_18, gM_19, gM_20, lA0, lA1, lA2, lA3, lA4, lA5, lA6, lA7, lA8, lA9, lA10, lA11, lA12, nI_1, nI_add, n12, n16, sI_2]
/-- what count answers in the reference -/
theorem q_count (hs : Sim S A nu) (hW : WB A) : ∃ S', cEq S' S ∧ (∀ q, q ≠ 46 → S'.1 q = S.1 q) ∧ S'.2.2.2 0 = S.2.2.2 0 ∧ (a = 0 → ev X d m_X3_count 0 [some (va_rf (some (aM X))), some (.int a), none, none, none, none, none] [] (rp X S) = some (some (.int (nI (A.2.1 0 0))), rp X S')) ∧ (a = 1 → ev X d m_X3_count 0 [some (va_rf (some (aM X))), some (.int a), none, none, none, none, none] [] (rp X S) = some (some (.int (cntM A (A.2.1 0 0) 0 (fun _ => 0) 0 0).2.1), rp X S')) ∧ (a = 2 → ev X d m_X3_count 0 [some (va_rf (some (aM X))), some (.int a), none, none, none, none, none] [] (rp X S) = some (some (.int (cntM A (A.2.1 0 0) 0 (fun _ => 0) 0 0).2.2), rp X S')) ∧ (a = 3 → ev X d m_X3_count 0 [some (va_rf (some (aM X))), some (.int a), none, none, none, none, none] [] (rp X S) = some (some (.int (A.1 0 2)), rp X S')) ∧ (a.toInt < 0 ∨ 3 < a.toInt → ev X d m_X3_count 0 [some (va_rf (some (aM X))), some (.int a), none, none, none, none, none] [] (rp X S) = some (some (.int (-1000002)), rp X S')) := by
  obtain ⟨R, hR1, hR2, hR3⟩ := hs.2.2.2.1
  have l1 := q_cn1 (X := X) (d := d) (a := a) (b := 0) (c := 0) hR1 (S.1 46) R 0 S (by omega) hR2 (by rw [blk_0])
  obtain ⟨S', l5, l6, l2, k1, k2, k3, k4⟩ := q_cn2 (X := X) (d := d) (a := a) hs hW (A.2.1 0 0) 0 0 0 none none (fun _ => 0) (sI S 46 (blk (S.1 46) 0 0 R)) (by omega) ⟨cEq_sI (by omega) (by omega), fun q hq => sI_ne hq, rfl, fun r hr => ⟨by rw [sI_g]; unfold blk; rw [if_pos ⟨Nat.zero_le _, by have := hR3 r hr; omega⟩], Or.inl rfl⟩⟩
  rw [nI_0] at l1 l2
  have e20 : S'.1 20 = S.1 20 := k2 20 (by omega)
  have e0 : S'.1 20 0 = nI (A.2.1 0 0) := by rw [e20]; exact hs.1
  have e8 : S'.1 20 8 = A.1 0 2 := by rw [e20]; exact hs.2.2.2.2.2.2.2.1
  refine ⟨S', k1, k2, k3, fun h => ?_, fun h => ?_, fun h => ?_, fun h => ?_, fun h => ?_⟩
  · subst h
    simp only [e_X3_count_0, e_X3_count_1, e_X3_count_2, e_X3_count_3, e_X3_count_4, e_X3_count_5, Option.bind_some, Option.bind_none, Option.toList_some, Option.toList_none, List.cons_append, List.nil_append, I_z, I_i8, I_q8, I_i7, I_q7, I_i6, I_q6, I_i5, I_q5, I_i4, I_q4, I_i3, I_q3, I_i2, I_q2, I_i1, I_q1, I_w8, I_w7, I_w6, I_w5, I_w4, I_w3, I_w2, I_c2n, I_c2i, I_c2q, eq_self, or_true, true_or, and_true, true_and, if_true, if_false, not_false_eq_true, not_true_eq_false, Option.map_none, Option.map_some, reduceCtorEq, isM, gM_0, gM_1, gM_2, gM_3, gM_4, gM_5, gM_6, gM_7, gM_8, gM_9, gM_10, gM_11, gM_12, gM_13, gM_14, gM_15, gM_16, gM_17, gM_18, gM_19, gM_20, lA0, lA1, lA2, lA3, lA4, lA5, lA6, lA7, lA8, lA9, lA10, lA11, lA12, nI_1, nI_add, n12, n16, sI_2, l1]
    simp only [e_X3_count_30, e_X3_count_31, Option.bind_some, Option.bind_none, Option.toList_some, Option.toList_none, List.cons_append, List.nil_append, I_z, I_i8, I_q8, I_i7, I_q7, I_i6, I_q6, I_i5, I_q5, I_i4, I_q4, I_i3, I_q3, I_i2, I_q2, I_i1, I_q1, I_w8, I_w7, I_w6, I_w5, I_w4, I_w3, I_w2, I_c2n, I_c2i, I_c2q, eq_self, or_true, true_or, and_true, true_and, if_true, if_false, not_false_eq_true, not_true_eq_false, Option.map_none, Option.map_some, reduceCtorEq, isM, gM_0, gM_1, gM_2, gM_3, gM_4, gM_5, gM_6, gM_7, gM_8, gM_9, gM_10, gM_11, gM_12, gM_13, gM_14, gM_15, gM_16, gM_17, gM_18, gM_19, gM_20, lA0, lA1, lA2, lA3, lA4, lA5, lA6, lA7, lA8, lA9, lA10, lA11, lA12, nI_1, nI_add, n12, n16, sI_2, l2]
    simp only [e_X3_count_121, e_X3_count_122_0, e_X3_count_122_1, e_X3_count_122_2, e_X3_count_122_3, e_X3_count_122_d, e_X3_count_152, e_X3_count_153, e_X3_count_156, e_X3_count_157, e_X3_count_158, e_X3_count_159, e_X3_count_160, e_X3_count_161, e_X3_count_162, e_X3_count_165, e_X3_count_166, e_X3_count_168, Option.bind_some, Option.bind_none, Option.toList_some, Option.toList_none, List.cons_append, List.nil_append, I_z, I_i8, I_q8, I_i7, I_q7, I_i6, I_q6, I_i5, I_q5, I_i4, I_q4, I_i3, I_q3, I_i2, I_q2, I_i1, I_q1, I_w8, I_w7, I_w6, I_w5, I_w4, I_w3, I_w2, I_c2n, I_c2i, I_c2q, eq_self, or_true, true_or, and_true, true_and, if_true, if_false, not_false_eq_true, not_true_eq_false, Option.map_none, Option.map_some, reduceCtorEq, isM, gM_0, gM_1, gM_2, gM_3, gM_4, gM_5, gM_6, gM_7, gM_8, gM_9, gM_10, gM_11, gM_12, gM_13, gM_14, gM_15, gM_16, gM_17, gM_18, gM_19, gM_20, lA0, lA1, lA2, lA3, lA4, lA5, lA6, lA7, lA8, lA9, lA10, lA11, lA12, nI_1, nI_add, n12, n16, sI_2, e0]
  · subst h
    simp only [e_X3_count_0, e_X3_count_1, e_X3_count_2, e_X3_count_3, e_X3_count_4, e_X3_count_5, Option.bind_some, Option.bind_none, Option.toList_some, Option.toList_none, List.cons_append, List.nil_append, I_z, I_i8, I_q8, I_i7, I_q7, I_i6, I_q6, I_i5, I_q5, I_i4, I_q4, I_i3, I_q3, I_i2, I_q2, I_i1, I_q1, I_w8, I_w7, I_w6, I_w5, I_w4, I_w3, I_w2, I_c2n, I_c2i, I_c2q, eq_self, or_true, true_or, and_true, true_and, if_true, if_false, not_false_eq_true, not_true_eq_false, Option.map_none, Option.map_some, reduceCtorEq, isM, gM_0, gM_1, gM_2, gM_3, gM_4, gM_5, gM_6, gM_7, gM_8, gM_9, gM_10, gM_11, gM_12, gM_13, gM_14, gM_15, gM_16, gM_17, gM_18, gM_19, gM_20, lA0, lA1, lA2, lA3, lA4, lA5, lA6, lA7, lA8, lA9, lA10, lA11, lA12, nI_1, nI_add, n12, n16, sI_2, l1]
    simp only [e_X3_count_30, e_X3_count_31, Option.bind_some, Option.bind_none, Option.toList_some, Option.toList_none, List.cons_append, List.nil_append, I_z, I_i8, I_q8, I_i7, I_q7, I_i6, I_q6, I_i5, I_q5, I_i4, I_q4, I_i3, I_q3, I_i2, I_q2, I_i1, I_q1, I_w8, I_w7, I_w6, I_w5, I_w4, I_w3, I_w2, I_c2n, I_c2i, I_c2q, eq_self, or_true, true_or, and_true, true_and, if_true, if_false, not_false_eq_true, not_true_eq_false, Option.map_none, Option.map_some, reduceCtorEq, isM, gM_0, gM_1, gM_2, gM_3, gM_4, gM_5, gM_6, gM_7, gM_8, gM_9, gM_10, gM_11, gM_12, gM_13, gM_14, gM_15, gM_16, gM_17, gM_18, gM_19, gM_20, lA0, lA1, lA2, lA3, lA4, lA5, lA6, lA7, lA8, lA9, lA10, lA11, lA12, nI_1, nI_add, n12, n16, sI_2, l2]
    simp only [e_X3_count_121, e_X3_count_122_0, e_X3_count_122_1, e_X3_count_122_2, e_X3_count_122_3, e_X3_count_122_d, e_X3_count_152, e_X3_count_153, e_X3_count_156, e_X3_count_157, e_X3_count_158, e_X3_count_159, e_X3_count_160, e_X3_count_161, e_X3_count_162, e_X3_count_165, e_X3_count_166, e_X3_count_168, Option.bind_some, Option.bind_none, Option.toList_some, Option.toList_none, List.cons_append, List.nil_append, I_z, I_i8, I_q8, I_i7, I_q7, I_i6, I_q6, I_i5, I_q5, I_i4, I_q4, I_i3, I_q3, I_i2, I_q2, I_i1, I_q1, I_w8, I_w7, I_w6, I_w5, I_w4, I_w3, I_w2, I_c2n, I_c2i, I_c2q, eq_self, or_true, true_or, and_true, true_and, if_true, if_false, not_false_eq_true, not_true_eq_false, Option.map_none, Option.map_some, reduceCtorEq, isM, gM_0, gM_1, gM_2, gM_3, gM_4, gM_5, gM_6, gM_7, gM_8, gM_9, gM_10, gM_11, gM_12, gM_13, gM_14, gM_15, gM_16, gM_17, gM_18, gM_19, gM_20, lA0, lA1, lA2, lA3, lA4, lA5, lA6, lA7, lA8, lA9, lA10, lA11, lA12, nI_1, nI_add, n12, n16, sI_2]
  · subst h
    simp only [e_X3_count_0, e_X3_count_1, e_X3_count_2, e_X3_count_3, e_X3_count_4, e_X3_count_5, Option.bind_some, Option.bind_none, Option.toList_some, Option.toList_none, List.cons_append, List.nil_append, I_z, I_i8, I_q8, I_i7, I_q7, I_i6, I_q6, I_i5, I_q5, I_i4, I_q4, I_i3, I_q3, I_i2, I_q2, I_i1, I_q1, I_w8, I_w7, I_w6, I_w5, I_w4, I_w3, I_w2, I_c2n, I_c2i, I_c2q, eq_self, or_true, true_or, and_true, true_and, if_true, if_false, not_false_eq_true, not_true_eq_false, Option.map_none, Option.map_some, reduceCtorEq, isM, gM_0, gM_1, gM_2, gM_3, gM_4, gM_5, gM_6, gM_7, gM_8, gM_9, gM_10, gM_11, gM_12, gM_13, gM_14, gM_15, gM_16, gM_17, gM_18, gM_19, gM_20, lA0, lA1, lA2, lA3, lA4, lA5, lA6, lA7, lA8, lA9, lA10, lA11, lA12, nI_1, nI_add, n12, n16, sI_2, l1]
    simp only [e_X3_count_30, e_X3_count_31, Option.bind_some, Option.bind_none, Option.toList_some, Option.toList_none, List.cons_append, List.nil_append, I_z, I_i8, I_q8, I_i7, I_q7, I_i6, I_q6, I_i5, I_q5, I_i4, I_q4, I_i3, I_q3, I_i2, I_q2, I_i1, I_q1, I_w8, I_w7, I_w6, I_w5, I_w4, I_w3, I_w2, I_c2n, I_c2i, I_c2q, eq_self, or_true, true_or, and_true, true_and, if_true, if_false, not_false_eq_true, not_true_eq_false, Option.map_none, Option.map_some, reduceCtorEq, isM, gM_0, gM_1, gM_2, gM_3, gM_4, gM_5, gM_6, gM_7, gM_8, gM_9, gM_10, gM_11, gM_12, gM_13, gM_14, gM_15, gM_16, gM_17, gM_18, gM_19, gM_20, lA0, lA1, lA2, lA3, lA4, lA5, lA6, lA7, lA8, lA9, lA10, lA11, lA12, nI_1, nI_add, n12, n16, sI_2, l2]
    simp only [e_X3_count_121, e_X3_count_122_0, e_X3_count_122_1, e_X3_count_122_2, e_X3_count_122_3, e_X3_count_122_d, e_X3_count_152, e_X3_count_153, e_X3_count_156, e_X3_count_157, e_X3_count_158, e_X3_count_159, e_X3_count_160, e_X3_count_161, e_X3_count_162, e_X3_count_165, e_X3_count_166, e_X3_count_168, Option.bind_some, Option.bind_none, Option.toList_some, Option.toList_none, List.cons_append, List.nil_append, I_z, I_i8, I_q8, I_i7, I_q7, I_i6, I_q6, I_i5, I_q5, I_i4, I_q4, I_i3, I_q3, I_i2, I_q2, I_i1, I_q1, I_w8, I_w7, I_w6, I_w5, I_w4, I_w3, I_w2, I_c2n, I_c2i, I_c2q, eq_self, or_true, true_or, and_true, true_and, if_true, if_false, not_false_eq_true, not_true_eq_false, Option.map_none, Option.map_some, reduceCtorEq, isM, gM_0, gM_1, gM_2, gM_3, gM_4, gM_5, gM_6, gM_7, gM_8, gM_9, gM_10, gM_11, gM_12, gM_13, gM_14, gM_15, gM_16, gM_17, gM_18, gM_19, gM_20, lA0, lA1, lA2, lA3, lA4, lA5, lA6, lA7, lA8, lA9, lA10, lA11, lA12, nI_1, nI_add, n12, n16, sI_2]
  · subst h
    simp only [e_X3_count_0, e_X3_count_1, e_X3_count_2, e_X3_count_3, e_X3_count_4, e_X3_count_5, Option.bind_some, Option.bind_none, Option.toList_some, Option.toList_none, List.cons_append, List.nil_append, I_z, I_i8, I_q8, I_i7, I_q7, I_i6, I_q6, I_i5, I_q5, I_i4, I_q4, I_i3, I_q3, I_i2, I_q2, I_i1, I_q1, I_w8, I_w7, I_w6, I_w5, I_w4, I_w3, I_w2, I_c2n, I_c2i, I_c2q, eq_self, or_true, true_or, and_true, true_and, if_true, if_false, not_false_eq_true, not_true_eq_false, Option.map_none, Option.map_some, reduceCtorEq, isM, gM_0, gM_1, gM_2, gM_3, gM_4, gM_5, gM_6, gM_7, gM_8, gM_9, gM_10, gM_11, gM_12, gM_13, gM_14, gM_15, gM_16, gM_17, gM_18, gM_19, gM_20, lA0, lA1, lA2, lA3, lA4, lA5, lA6, lA7, lA8, lA9, lA10, lA11, lA12, nI_1, nI_add, n12, n16, sI_2, l1]
    simp only [e_X3_count_30, e_X3_count_31, Option.bind_some, Option.bind_none, Option.toList_some, Option.toList_none, List.cons_append, List.nil_append, I_z, I_i8, I_q8, I_i7, I_q7, I_i6, I_q6, I_i5, I_q5, I_i4, I_q4, I_i3, I_q3, I_i2, I_q2, I_i1, I_q1, I_w8, I_w7, I_w6, I_w5, I_w4, I_w3, I_w2, I_c2n, I_c2i, I_c2q, eq_self, or_true, true_or, and_true, true_and, if_true, if_false, not_false_eq_true, not_true_eq_false, Option.map_none, Option.map_some, reduceCtorEq, isM, gM_0, gM_1, gM_2, gM_3, gM_4, gM_5, gM_6, gM_7, gM_8, gM_9, gM_10, gM_11, gM_12, gM_13, gM_14, gM_15, gM_16, gM_17, gM_18, gM_19, gM_20, lA0, lA1, lA2, lA3, lA4, lA5, lA6, lA7, lA8, lA9, lA10, lA11, lA12, nI_1, nI_add, n12, n16, sI_2, l2]
    simp only [e_X3_count_121, e_X3_count_122_0, e_X3_count_122_1, e_X3_count_122_2, e_X3_count_122_3, e_X3_count_122_d, e_X3_count_152, e_X3_count_153, e_X3_count_156, e_X3_count_157, e_X3_count_158, e_X3_count_159, e_X3_count_160, e_X3_count_161, e_X3_count_162, e_X3_count_165, e_X3_count_166, e_X3_count_168, Option.bind_some, Option.bind_none, Option.toList_some, Option.toList_none, List.cons_append, List.nil_append, I_z, I_i8, I_q8, I_i7, I_q7, I_i6, I_q6, I_i5, I_q5, I_i4, I_q4, I_i3, I_q3, I_i2, I_q2, I_i1, I_q1, I_w8, I_w7, I_w6, I_w5, I_w4, I_w3, I_w2, I_c2n, I_c2i, I_c2q, eq_self, or_true, true_or, and_true, true_and, if_true, if_false, not_false_eq_true, not_true_eq_false, Option.map_none, Option.map_some, reduceCtorEq, isM, gM_0, gM_1, gM_2, gM_3, gM_4, gM_5, gM_6, gM_7, gM_8, gM_9, gM_10, gM_11, gM_12, gM_13, gM_14, gM_15, gM_16, gM_17, gM_18, gM_19, gM_20, lA0, lA1, lA2, lA3, lA4, lA5, lA6, lA7, lA8, lA9, lA10, lA11, lA12, nI_1, nI_add, n12, n16, sI_2, e8]
  · simp only [e_X3_count_0, e_X3_count_1, e_X3_count_2, e_X3_count_3, e_X3_count_4, e_X3_count_5, Option.bind_some, Option.bind_none, Option.toList_some, Option.toList_none, List.cons_append, List.nil_append, I_z, I_i8, I_q8, I_i7, I_q7, I_i6, I_q6, I_i5, I_q5, I_i4, I_q4, I_i3, I_q3, I_i2, I_q2, I_i1, I_q1, I_w8, I_w7, I_w6, I_w5, I_w4, I_w3, I_w2, I_c2n, I_c2i, I_c2q, eq_self, or_true, true_or, and_true, true_and, if_true, if_false, not_false_eq_true, not_true_eq_false, Option.map_none, Option.map_some, reduceCtorEq, isM, gM_0, gM_1, gM_2, gM_3, gM_4, gM_5, gM_6, gM_7, gM_8, gM_9, gM_10, gM_11, gM_12, gM_13, gM_14, gM_15, gM_16, gM_17, gM_18, gM_19, gM_20, lA0, lA1, lA2, lA3, lA4, lA5, lA6, lA7, lA8, lA9, lA10, lA11, lA12, nI_1, nI_add, n12, n16, sI_2, l1]
    simp only [e_X3_count_30, e_X3_count_31, Option.bind_some, Option.bind_none, Option.toList_some, Option.toList_none, List.cons_append, List.nil_append, I_z, I_i8, I_q8, I_i7, I_q7, I_i6, I_q6, I_i5, I_q5, I_i4, I_q4, I_i3, I_q3, I_i2, I_q2, I_i1, I_q1, I_w8, I_w7, I_w6, I_w5, I_w4, I_w3, I_w2, I_c2n, I_c2i, I_c2q, eq_self, or_true, true_or, and_true, true_and, if_true, if_false, not_false_eq_true, not_true_eq_false, Option.map_none, Option.map_some, reduceCtorEq, isM, gM_0, gM_1, gM_2, gM_3, gM_4, gM_5, gM_6, gM_7, gM_8, gM_9, gM_10, gM_11, gM_12, gM_13, gM_14, gM_15, gM_16, gM_17, gM_18, gM_19, gM_20, lA0, lA1, lA2, lA3, lA4, lA5, lA6, lA7, lA8, lA9, lA10, lA11, lA12, nI_1, nI_add, n12, n16, sI_2, l2]
    simp only [e_X3_count_121, e_X3_count_122_d h, e_X3_count_152, e_X3_count_153, e_X3_count_156, e_X3_count_157, e_X3_count_158, e_X3_count_159, e_X3_count_160, e_X3_count_161, e_X3_count_162, e_X3_count_165, e_X3_count_166, e_X3_count_168, Option.bind_some, Option.bind_none, Option.toList_some, Option.toList_none, List.cons_append, List.nil_append, I_z, I_i8, I_q8, I_i7, I_q7, I_i6, I_q6, I_i5, I_q5, I_i4, I_q4, I_i3, I_q3, I_i2, I_q2, I_i1, I_q1, I_w8, I_w7, I_w6, I_w5, I_w4, I_w3, I_w2, I_c2n, I_c2i, I_c2q, eq_self, or_true, true_or, and_true, true_and, if_true, if_false, not_false_eq_true, not_true_eq_false, Option.map_none, Option.map_some, reduceCtorEq, isM, gM_0, gM_1, gM_2, gM_3, gM_4, gM_5, gM_6, gM_7, gM_8, gM_9, gM_10, gM_11, gM_12, gM_13, gM_14, gM_15, gM_16, gM_17, gM_18, gM_19, gM_20, lA0, lA1, lA2, lA3, lA4, lA5, lA6, lA7, lA8, lA9, lA10, lA11, lA12, nI_1, nI_add, n12, n16, sI_2]
end Q50
