/-! The reference's total and deep, whole. -/
section MF
variable {X : I_X} {S A : St} {nu : Nat → Nat} {D d dd t r i j n m p q z g u k f : Nat} {a b c en jd v s dep : Int32} {pl pa st fo eb op op2 dp : Nat → Int32} {l3 l4 : Option Value}
theorem fS_self : fS S (S.1 48) (S.1 49) (S.1 50) (S.1 51) (S.1 52) (S.1 20 18) (S.1 20 19) (S.1 20 20) = S := by
  unfold fS
  rw [upd_same (f := S.1 20) rfl, upd_same (f := S.1 20) rfl, upd_same (f := S.1 20) rfl, sI_self, sI_self, sI_self, sI_self, sI_self, sI_self]
theorem q_f0 : ∀ m i st, i + m = 16 → (∀ z, z < i → st z = 0) → ∃ st2, (∀ z, z < 16 → st2 z = 0) ∧ ev X D m_X3_find 2 [some (va_rf (some (aM X))), some (.int (nI t)), some (.int dep), some (.int (nI i)), none] [] (rp X (fS S pl pa st fo eb c en jd)) = ev X D m_X3_find 21 [some (va_rf (some (aM X))), some (.int (nI t)), some (.int dep), some (.int (nI 16)), none] [] (rp X (fS S pl pa st2 fo eb c en jd)) := by
  intro m
  induction m with
  | zero =>
    intro i st hi hz
    have e : i = 16 := by omega
    subst e
    have h1 : (16 : Int32) ≤ nI 16 := by decide
    refine ⟨st, hz, ?_⟩
    rw [e_X3_find_2]
    simp only [e_X3_find_3, e_X3_find_5, e_X3_find_8, e_X3_find_9, e_X3_find_12, e_X3_find_13, e_X3_find_14, e_X3_find_15, e_X3_find_18, Option.bind_some, Option.bind_none, Option.toList_some, Option.toList_none, List.cons_append, List.nil_append, I_z, I_i8, I_q8, I_i7, I_q7, I_i6, I_q6, I_i5, I_q5, I_i4, I_q4, I_i3, I_q3, I_i2, I_q2, I_i1, I_q1, I_w8, I_w7, I_w6, I_w5, I_w4, I_w3, I_w2, I_c2n, I_c2i, I_c2q, eq_self, or_true, true_or, and_true, true_and, if_true, if_false, not_false_eq_true, not_true_eq_false, Option.map_none, Option.map_some, reduceCtorEq, isM, gM_0, gM_1, gM_2, gM_3, gM_4, gM_5, gM_6, gM_7, gM_8, gM_9, gM_10, gM_11, gM_12, gM_13, gM_14, gM_15, gM_16, gM_17, gM_18, gM_19, gM_20, lA0, lA1, lA2, lA3, lA4, lA5, lA6, lA7, lA8, lA9, lA10, lA11, lA12, nI_1, nI_add, n12, n16, sI_2, h1]
  | succ m ih =>
    intro i st hi hz
    have h1 : ¬ (16 : Int32) ≤ nI i := nI_ge (b := 16) (by omega) (by omega)
    have i16 : i < 16 := by omega
    obtain ⟨st2, g1, g2⟩ := ih (i + 1) (upd st i 0) (by omega) (fun z hz2 => by
      by_cases w : z = i
      · rw [w, pk_us]
      · rw [pk_un w]; exact hz z (by omega))
    refine ⟨st2, g1, ?_⟩
    rw [← g2, e_X3_find_2]
    simp only [e_X3_find_3, e_X3_find_5, e_X3_find_8, e_X3_find_9, e_X3_find_12, e_X3_find_13, e_X3_find_14, e_X3_find_15, e_X3_find_18, Option.bind_some, Option.bind_none, Option.toList_some, Option.toList_none, List.cons_append, List.nil_append, I_z, I_i8, I_q8, I_i7, I_q7, I_i6, I_q6, I_i5, I_q5, I_i4, I_q4, I_i3, I_q3, I_i2, I_q2, I_i1, I_q1, I_w8, I_w7, I_w6, I_w5, I_w4, I_w3, I_w2, I_c2n, I_c2i, I_c2q, eq_self, or_true, true_or, and_true, true_and, if_true, if_false, not_false_eq_true, not_true_eq_false, Option.map_none, Option.map_some, reduceCtorEq, isM, gM_0, gM_1, gM_2, gM_3, gM_4, gM_5, gM_6, gM_7, gM_8, gM_9, gM_10, gM_11, gM_12, gM_13, gM_14, gM_15, gM_16, gM_17, gM_18, gM_19, gM_20, lA0, lA1, lA2, lA3, lA4, lA5, lA6, lA7, lA8, lA9, lA10, lA11, lA12, nI_1, nI_add, n12, n16, sI_2, h1, i16, fu10]
theorem q_find0 (ht : t < 16) (hv : v = if dep = 0 then 0 else if S.1 40 t = 3 then 1 else 0) : ∃ st2, (∀ z, z < 16 → st2 z = 0) ∧ ev X (D + 1) m_X3_find 0 [some (va_rf (some (aM X))), some (.int (nI t)), some (.int dep), none, none] [] (rp X S) = ev X (D + 1) m_X3_find 45 [some (va_rf (some (aM X))), some (.int (nI t)), some (.int dep), some (.int 0), none] [] (rp X (fS S (upd (S.1 48) 0 (nI t)) (upd (S.1 49) 0 0) (upd st2 t 1) (upd (S.1 51) t v) (upd (S.1 52) t 0) 0 1 (-1))) := by
  obtain ⟨st2, g1, g2⟩ := q_f0 (X := X) (S := S) (D := D + 1) (t := t) (dep := dep) (pl := S.1 48) (pa := S.1 49) (fo := S.1 51) (eb := S.1 52) (c := S.1 20 18) (en := S.1 20 19) (jd := S.1 20 20) 16 0 (S.1 50) (by omega) (fun z hz => by omega)
  rw [fS_self, nI_0] at g2
  refine ⟨st2, g1, ?_⟩
  have he := q_enter (X := X) (D := D) (S := S) (pl := S.1 48) (pa := S.1 49) (st := st2) (fo := S.1 51) (eb := S.1 52) (c := 0) (en := 0) (jd := -1) (dd := 0) (by omega) ht hv
  have e1 : (0 : Int32) + 1 - 1 = 0 := by decide
  have e2 : (0 : Int32) + 1 = 1 := by decide
  rw [nI_0, e1, e2] at he
  simp only [e_X3_find_0, e_X3_find_1, Option.bind_some, Option.bind_none, Option.toList_some, Option.toList_none, List.cons_append, List.nil_append, I_z, I_i8, I_q8, I_i7, I_q7, I_i6, I_q6, I_i5, I_q5, I_i4, I_q4, I_i3, I_q3, I_i2, I_q2, I_i1, I_q1, I_w8, I_w7, I_w6, I_w5, I_w4, I_w3, I_w2, I_c2n, I_c2i, I_c2q, eq_self, or_true, true_or, and_true, true_and, if_true, if_false, not_false_eq_true, not_true_eq_false, Option.map_none, Option.map_some, reduceCtorEq, isM, gM_0, gM_1, gM_2, gM_3, gM_4, gM_5, gM_6, gM_7, gM_8, gM_9, gM_10, gM_11, gM_12, gM_13, gM_14, gM_15, gM_16, gM_17, gM_18, gM_19, gM_20, lA0, lA1, lA2, lA3, lA4, lA5, lA6, lA7, lA8, lA9, lA10, lA11, lA12, nI_1, nI_add, n12, n16, sI_2, g2]
  simp only [e_X3_find_21, e_X3_find_22, e_X3_find_23, e_X3_find_26, e_X3_find_27, e_X3_find_28, e_X3_find_31, e_X3_find_32, e_X3_find_33, e_X3_find_36, e_X3_find_37, e_X3_find_38, e_X3_find_39, e_X3_find_40, e_X3_find_43, e_X3_find_44, Option.bind_some, Option.bind_none, Option.toList_some, Option.toList_none, List.cons_append, List.nil_append, I_z, I_i8, I_q8, I_i7, I_q7, I_i6, I_q6, I_i5, I_q5, I_i4, I_q4, I_i3, I_q3, I_i2, I_q2, I_i1, I_q1, I_w8, I_w7, I_w6, I_w5, I_w4, I_w3, I_w2, I_c2n, I_c2i, I_c2q, eq_self, or_true, true_or, and_true, true_and, if_true, if_false, not_false_eq_true, not_true_eq_false, Option.map_none, Option.map_some, reduceCtorEq, isM, gM_0, gM_1, gM_2, gM_3, gM_4, gM_5, gM_6, gM_7, gM_8, gM_9, gM_10, gM_11, gM_12, gM_13, gM_14, gM_15, gM_16, gM_17, gM_18, gM_19, gM_20, lA0, lA1, lA2, lA3, lA4, lA5, lA6, lA7, lA8, lA9, lA10, lA11, lA12, nI_1, nI_add, n12, n16, sI_2, fp18, fp19, fp20, he]
/-- what a search leaves -/
def FE (S2 S : St) (en : Int32) (k : Int32) : Prop := (∀ g, g ≠ 20 → (g < 48 ∨ 52 < g) → S2.1 g = S.1 g) ∧ S2.2 = S.2 ∧ (∀ n, n < 18 → n ≠ 8 → n ≠ 12 → S2.1 20 n = S.1 20 n) ∧ S2.1 20 12 = en ∧ S2.1 20 8 = S.1 20 8 + k
theorem FE_0 : FE (fS S pl pa st fo eb c en jd) S (S.1 20 12) 0 := ⟨fun g h1 h2 => fS_g ⟨h1, h2⟩, fS_2, fun n h1 _ _ => fS_k h1, fS_k (by omega), by rw [fS_k (by omega), Int32.add_zero]⟩
theorem FE_f {S2 : St} (h : FE S2 S en 0) : FE (qFail S2) S en 1 := by
  obtain ⟨h1, h2, h3, h4, h5⟩ := h
  refine ⟨fun g g1 g2 => ?_, h2, fun n n1 n2 n3 => ?_, ?_, ?_⟩
  · unfold qFail; rw [sI_ne g1]; exact h1 g g1 g2
  · unfold qFail; rw [sI_g, pk_un n2]; exact h3 n n1 n2 n3
  · unfold qFail; rw [sI_g, pk_un (by omega)]; exact h4
  · unfold qFail; rw [sI_g, pk_us, h5, Int32.add_zero]
theorem FE_e {S2 : St} (h : FE S2 S v 0) : FE (sI S2 20 (upd (S2.1 20) 12 en)) S en 0 := by
  obtain ⟨h1, h2, h3, h4, h5⟩ := h
  refine ⟨fun g g1 g2 => ?_, h2, fun n n1 n2 n3 => ?_, ?_, ?_⟩
  · rw [sI_ne g1]; exact h1 g g1 g2
  · rw [sI_g, pk_un n3]; exact h3 n n1 n2 n3
  · rw [sI_g, pk_us]
  · rw [sI_g, pk_un (by omega)]; exact h5
theorem q_f139 (ht : t < 16) : ∃ S2, ev X (D + 1) m_X3_find 139 [some (va_rf (some (aM X))), some (.int (nI t)), some (.int 0), l3, l4] [] (rp X (fS S pl pa st fo eb c en jd)) = some (some (.int (if c = 0 then fo t else -1000010 - c)), rp X S2) ∧ FE S2 S en (if c = 0 then 0 else 1) := by
  have e51 : (sI (fS S pl pa st fo eb c en jd) 20 (upd ((fS S pl pa st fo eb c en jd).1 20) 12 en)).1 51 = fo := by rw [sI_ne (by omega), fS_51]
  have e18 : (sI (fS S pl pa st fo eb c en jd) 20 (upd ((fS S pl pa st fo eb c en jd).1 20) 12 en)).1 20 18 = c := by rw [sI_g, pk_un (by omega), fS_c]
  by_cases h : c = 0
  · subst h
    refine ⟨(sI (fS S pl pa st fo eb 0 en jd) 20 (upd ((fS S pl pa st fo eb 0 en jd).1 20) 12 en)), ?_, by rw [if_pos rfl]; exact FE_e FE_0⟩
    rw [if_pos rfl]
    simp only [e_X3_find_139, e_X3_find_140, e_X3_find_143, e_X3_find_144, e_X3_find_145, e_X3_find_148, e_X3_find_151, e_X3_find_152, e_X3_find_155, e_X3_find_158, e_X3_find_159, e_X3_find_162, e_X3_find_163, e_X3_find_164, e_X3_find_167, e_X3_find_168, e_X3_find_169, e_X3_find_172, e_X3_find_175, Option.bind_some, Option.bind_none, Option.toList_some, Option.toList_none, List.cons_append, List.nil_append, I_z, I_i8, I_q8, I_i7, I_q7, I_i6, I_q6, I_i5, I_q5, I_i4, I_q4, I_i3, I_q3, I_i2, I_q2, I_i1, I_q1, I_w8, I_w7, I_w6, I_w5, I_w4, I_w3, I_w2, I_c2n, I_c2i, I_c2q, eq_self, or_true, true_or, and_true, true_and, if_true, if_false, not_false_eq_true, not_true_eq_false, Option.map_none, Option.map_some, reduceCtorEq, isM, gM_0, gM_1, gM_2, gM_3, gM_4, gM_5, gM_6, gM_7, gM_8, gM_9, gM_10, gM_11, gM_12, gM_13, gM_14, gM_15, gM_16, gM_17, gM_18, gM_19, gM_20, lA0, lA1, lA2, lA3, lA4, lA5, lA6, lA7, lA8, lA9, lA10, lA11, lA12, nI_1, nI_add, n12, n16, sI_2, ht, fS_e, pM_12, e18, e51]
  · refine ⟨qFail (sI (fS S pl pa st fo eb c en jd) 20 (upd ((fS S pl pa st fo eb c en jd).1 20) 12 en)), ?_, by rw [if_neg h]; exact FE_f (FE_e FE_0)⟩
    rw [if_neg h]
    simp only [e_X3_find_139, e_X3_find_140, e_X3_find_143, e_X3_find_144, e_X3_find_145, e_X3_find_148, e_X3_find_151, e_X3_find_152, e_X3_find_155, e_X3_find_158, e_X3_find_159, e_X3_find_162, e_X3_find_163, e_X3_find_164, e_X3_find_167, e_X3_find_168, e_X3_find_169, e_X3_find_172, e_X3_find_175, Option.bind_some, Option.bind_none, Option.toList_some, Option.toList_none, List.cons_append, List.nil_append, I_z, I_i8, I_q8, I_i7, I_q7, I_i6, I_q6, I_i5, I_q5, I_i4, I_q4, I_i3, I_q3, I_i2, I_q2, I_i1, I_q1, I_w8, I_w7, I_w6, I_w5, I_w4, I_w3, I_w2, I_c2n, I_c2i, I_c2q, eq_self, or_true, true_or, and_true, true_and, if_true, if_false, not_false_eq_true, not_true_eq_false, Option.map_none, Option.map_some, reduceCtorEq, isM, gM_0, gM_1, gM_2, gM_3, gM_4, gM_5, gM_6, gM_7, gM_8, gM_9, gM_10, gM_11, gM_12, gM_13, gM_14, gM_15, gM_16, gM_17, gM_18, gM_19, gM_20, lA0, lA1, lA2, lA3, lA4, lA5, lA6, lA7, lA8, lA9, lA10, lA11, lA12, nI_1, nI_add, n12, n16, sI_2, ht, fS_e, pM_12, e18, h, q_fails]
theorem q_f139d (ht : t < 16) : ∃ S2, ev X (D + 1) m_X3_find 139 [some (va_rf (some (aM X))), some (.int (nI t)), some (.int 1), l3, l4] [] (rp X (fS S pl pa st fo eb c en jd)) = some (some (.int (if c = 0 then fo t else -1000010 - c)), rp X S2) ∧ FE S2 S (S.1 20 12) (if c = 0 then 0 else 1) := by
  by_cases h : c = 0
  · refine ⟨(fS S pl pa st fo eb c en jd), ?_, by rw [if_pos h]; exact FE_0⟩
    rw [if_pos h]
    simp only [e_X3_find_139, e_X3_find_140, e_X3_find_143, e_X3_find_144, e_X3_find_145, e_X3_find_148, e_X3_find_151, e_X3_find_152, e_X3_find_155, e_X3_find_158, e_X3_find_159, e_X3_find_162, e_X3_find_163, e_X3_find_164, e_X3_find_167, e_X3_find_168, e_X3_find_169, e_X3_find_172, e_X3_find_175, Option.bind_some, Option.bind_none, Option.toList_some, Option.toList_none, List.cons_append, List.nil_append, I_z, I_i8, I_q8, I_i7, I_q7, I_i6, I_q6, I_i5, I_q5, I_i4, I_q4, I_i3, I_q3, I_i2, I_q2, I_i1, I_q1, I_w8, I_w7, I_w6, I_w5, I_w4, I_w3, I_w2, I_c2n, I_c2i, I_c2q, eq_self, or_true, true_or, and_true, true_and, if_true, if_false, not_false_eq_true, not_true_eq_false, Option.map_none, Option.map_some, reduceCtorEq, isM, gM_0, gM_1, gM_2, gM_3, gM_4, gM_5, gM_6, gM_7, gM_8, gM_9, gM_10, gM_11, gM_12, gM_13, gM_14, gM_15, gM_16, gM_17, gM_18, gM_19, gM_20, lA0, lA1, lA2, lA3, lA4, lA5, lA6, lA7, lA8, lA9, lA10, lA11, lA12, nI_1, nI_add, n12, n16, sI_2, ht, fS_c, fS_51, h, e10]
  · refine ⟨qFail (fS S pl pa st fo eb c en jd), ?_, by rw [if_neg h]; exact FE_f FE_0⟩
    rw [if_neg h]
    simp only [e_X3_find_139, e_X3_find_140, e_X3_find_143, e_X3_find_144, e_X3_find_145, e_X3_find_148, e_X3_find_151, e_X3_find_152, e_X3_find_155, e_X3_find_158, e_X3_find_159, e_X3_find_162, e_X3_find_163, e_X3_find_164, e_X3_find_167, e_X3_find_168, e_X3_find_169, e_X3_find_172, e_X3_find_175, Option.bind_some, Option.bind_none, Option.toList_some, Option.toList_none, List.cons_append, List.nil_append, I_z, I_i8, I_q8, I_i7, I_q7, I_i6, I_q6, I_i5, I_q5, I_i4, I_q4, I_i3, I_q3, I_i2, I_q2, I_i1, I_q1, I_w8, I_w7, I_w6, I_w5, I_w4, I_w3, I_w2, I_c2n, I_c2i, I_c2q, eq_self, or_true, true_or, and_true, true_and, if_true, if_false, not_false_eq_true, not_true_eq_false, Option.map_none, Option.map_some, reduceCtorEq, isM, gM_0, gM_1, gM_2, gM_3, gM_4, gM_5, gM_6, gM_7, gM_8, gM_9, gM_10, gM_11, gM_12, gM_13, gM_14, gM_15, gM_16, gM_17, gM_18, gM_19, gM_20, lA0, lA1, lA2, lA3, lA4, lA5, lA6, lA7, lA8, lA9, lA10, lA11, lA12, nI_1, nI_add, n12, n16, sI_2, ht, fS_c, h, e10, q_fails]
theorem q_total_unk (hM : S.1 20 0 = nI (A.2.1 0 0)) (h16 : A.2.1 0 0 ≤ 16) (h : unk A a) : ev X (d + 2) m_X3_total 0 [some (va_rf (some (aM X))), some (.int a)] [] (rp X S) = some (some (.int (-1000001)), rp X S) := by
  simp only [e_X3_total_0, e_X3_total_1, e_X3_total_2, e_X3_total_5, e_X3_total_8, e_X3_total_9, e_X3_total_10, e_X3_total_11, e_X3_total_14, e_X3_total_17, e_X3_total_19, Option.bind_some, Option.bind_none, Option.toList_some, Option.toList_none, List.cons_append, List.nil_append, I_z, I_i8, I_q8, I_i7, I_q7, I_i6, I_q6, I_i5, I_q5, I_i4, I_q4, I_i3, I_q3, I_i2, I_q2, I_i1, I_q1, I_w8, I_w7, I_w6, I_w5, I_w4, I_w3, I_w2, I_c2n, I_c2i, I_c2q, eq_self, or_true, true_or, and_true, true_and, if_true, if_false, not_false_eq_true, not_true_eq_false, Option.map_none, Option.map_some, reduceCtorEq, isM, gM_0, gM_1, gM_2, gM_3, gM_4, gM_5, gM_6, gM_7, gM_8, gM_9, gM_10, gM_11, gM_12, gM_13, gM_14, gM_15, gM_16, gM_17, gM_18, gM_19, gM_20, lA0, lA1, lA2, lA3, lA4, lA5, lA6, lA7, lA8, lA9, lA10, lA11, lA12, nI_1, nI_add, n12, n16, sI_2, q_isTable0 hM h16 h]
theorem q_deep_unk (hM : S.1 20 0 = nI (A.2.1 0 0)) (h16 : A.2.1 0 0 ≤ 16) (h : unk A a) : ev X (d + 2) m_X3_deep 0 [some (va_rf (some (aM X))), some (.int a)] [] (rp X S) = some (some (.int (-1000001)), rp X S) := by
  simp only [e_X3_deep_0, e_X3_deep_1, e_X3_deep_2, e_X3_deep_5, e_X3_deep_8, e_X3_deep_9, e_X3_deep_10, e_X3_deep_11, e_X3_deep_14, e_X3_deep_17, e_X3_deep_19, Option.bind_some, Option.bind_none, Option.toList_some, Option.toList_none, List.cons_append, List.nil_append, I_z, I_i8, I_q8, I_i7, I_q7, I_i6, I_q6, I_i5, I_q5, I_i4, I_q4, I_i3, I_q3, I_i2, I_q2, I_i1, I_q1, I_w8, I_w7, I_w6, I_w5, I_w4, I_w3, I_w2, I_c2n, I_c2i, I_c2q, eq_self, or_true, true_or, and_true, true_and, if_true, if_false, not_false_eq_true, not_true_eq_false, Option.map_none, Option.map_some, reduceCtorEq, isM, gM_0, gM_1, gM_2, gM_3, gM_4, gM_5, gM_6, gM_7, gM_8, gM_9, gM_10, gM_11, gM_12, gM_13, gM_14, gM_15, gM_16, gM_17, gM_18, gM_19, gM_20, lA0, lA1, lA2, lA3, lA4, lA5, lA6, lA7, lA8, lA9, lA10, lA11, lA12, nI_1, nI_add, n12, n16, sI_2, q_isTable0 hM h16 h]
theorem cnt_0 : ∀ n, (∀ z, z < n → op z = 0) → cnt op n = 0 := by
  intro n
  induction n with
  | zero => intro _; rfl
  | succ n ih =>
    intro h
    unfold cnt
    rw [ih (fun z hz => h z (by omega)), if_pos (h n (by omega))]
theorem q_total (hW : WB A) (hK : KD A) (hL : lnkOK A) (hs : Sim S A nu) (ht : t < A.2.1 0 0) (ho : ∀ z, z < 16 → op z = 0) : ∃ S2, ev X (d + 3) m_X3_total 0 [some (va_rf (some (aM X))), some (.int (nI t))] [] (rp X S) = some (some (.int (if (totT A 16 op t 0).1 = 0 then (totT A 16 op t 0).2.2 else -1000010 - (totT A 16 op t 0).1)), rp X S2) ∧ FE S2 S (nI (totT A 16 op t 0).2.1) (if (totT A 16 op t 0).1 = 0 then 0 else 1) := by
  have h16 := hW.1
  have ht16 : t < 16 := by omega
  obtain ⟨st2, g1, g2⟩ := q_find0 (X := X) (D := d + 1) (S := S) (dep := 0) (v := 0) ht16 (if_pos rfl).symm
  have ot := ho t ht16
  have eT : totT A 16 op t 0 = totW A (totT A 15 (upd op t 1)) t (16 * A.2.1 1 t) 0 1 0 := by
    refine ((if_pos ot).trans (if_pos (by omega))).trans ?_
    exact lin_P (fun i r h => (hW.2.2.2 r (hW.2.2.1 t i r ht16 h)).1) _ _ _ _
  have hR := mt (X := X) (D := d) (t := t) hW hK hL hs 15 (upd op t 1) (16 * A.2.1 1 t) t 0 0 1 0 1 0 (upd (S.1 48) 0 (nI t)) (upd (S.1 49) 0 0) (upd st2 t 1) (upd (S.1 51) t 0) (upd (S.1 52) t 0) (fun _ => 0) (fun _ => 0) (by rw [cnt_in ot (by decide) 16 ht16, cnt_0 16 ho]) ht (fun z hz => by
    by_cases w : z = t
    · subst w; rw [pk_us, pk_us]; exact ⟨⟨fun _ => rfl, fun _ => by decide⟩, Or.inr (Or.inl rfl)⟩
    · rw [pk_un w, pk_un w, ho z (by omega), g1 z (by omega)]
      exact ⟨⟨fun h => absurd rfl h, fun h => absurd h (by decide)⟩, Or.inl rfl⟩) pk_us (by omega) pk_us (by rw [pk_us]; rfl) (by omega) (fun z hz hs2 => by
    by_cases w : z = t
    · rw [w, pk_us] at hs2; exact absurd hs2 (by decide)
    · rw [pk_un w, g1 z (by omega)] at hs2; exact absurd hs2 (by decide)) (by rw [pk_us]; exact PI_0) (Nat.le_refl _) rfl (by omega) (by rw [pk_us]; rfl)
  rw [pk_us, ← eT] at hR
  have k1 : nI 1 = 1 := rfl
  have k0 : nI 0 = 0 := rfl
  have km : (0 : Int32) + -1 = -1 := by decide
  generalize totT A 16 op t 0 = Q at *
  have fin : ∀ (R : Option I_R) (a : Int32) (hh : I_H), FG X (d + 1) t 0 0 t (fS S (upd (S.1 48) 0 (nI t)) (upd (S.1 49) 0 0) (upd st2 t 1) (upd (S.1 51) t 0) (upd (S.1 52) t 0) 0 (nI 1) (-1)) R → R = some (some (.int a), hh) → ev X (d + 3) m_X3_total 0 [some (va_rf (some (aM X))), some (.int (nI t))] [] (rp X S) = some (some (.int a), hh) := fun R a hh h hR2 => by
    have h3 := fg_fr (by omega) pk_us h none
    rw [k0] at h3
    rw [k1] at h3
    rw [h3] at g2
    rw [hR2] at g2
    simp only [e_X3_total_0, e_X3_total_1, e_X3_total_2, e_X3_total_5, e_X3_total_8, e_X3_total_9, e_X3_total_10, e_X3_total_11, e_X3_total_14, e_X3_total_17, e_X3_total_19, Option.bind_some, Option.bind_none, Option.toList_some, Option.toList_none, List.cons_append, List.nil_append, I_z, I_i8, I_q8, I_i7, I_q7, I_i6, I_q6, I_i5, I_q5, I_i4, I_q4, I_i3, I_q3, I_i2, I_q2, I_i1, I_q1, I_w8, I_w7, I_w6, I_w5, I_w4, I_w3, I_w2, I_c2n, I_c2i, I_c2q, eq_self, or_true, true_or, and_true, true_and, if_true, if_false, not_false_eq_true, not_true_eq_false, Option.map_none, Option.map_some, reduceCtorEq, isM, gM_0, gM_1, gM_2, gM_3, gM_4, gM_5, gM_6, gM_7, gM_8, gM_9, gM_10, gM_11, gM_12, gM_13, gM_14, gM_15, gM_16, gM_17, gM_18, gM_19, gM_20, lA0, lA1, lA2, lA3, lA4, lA5, lA6, lA7, lA8, lA9, lA10, lA11, lA12, nI_1, nI_add, n12, n16, sI_2, q_isTable1 hs.1 h16 ht, e10, g2]
  by_cases c1 : Q.1 = 0
  · obtain ⟨l4, pl2, pa2, st3, fo2, eb2, E2, rk2, N2, f1, f2, f3, f4, f5, f6, f7⟩ := hR.1 c1
    obtain ⟨S2, e1, e2⟩ := q_f139 (X := X) (D := d + 1) (S := S) (t := t) (pl := pl2) (pa := pa2) (st := st3) (fo := fo2) (eb := eb2) (c := 0) (en := nI Q.2.1) (jd := nI t) (l3 := some (.int (-1))) (l4 := l4) ht16
    rw [if_pos rfl] at e1 e2
    refine ⟨S2, ?_, by rw [if_pos c1]; exact e2⟩
    rw [if_pos c1, ← f5]
    refine fin _ _ _ f1 ?_
    rw [← e1, k0, km, e_X3_find_45]
    simp only [e_X3_find_46, Option.bind_some, Option.bind_none, Option.toList_some, Option.toList_none, List.cons_append, List.nil_append, I_z, I_i8, I_q8, I_i7, I_q7, I_i6, I_q6, I_i5, I_q5, I_i4, I_q4, I_i3, I_q3, I_i2, I_q2, I_i1, I_q1, I_w8, I_w7, I_w6, I_w5, I_w4, I_w3, I_w2, I_c2n, I_c2i, I_c2q, eq_self, or_true, true_or, and_true, true_and, if_true, if_false, not_false_eq_true, not_true_eq_false, Option.map_none, Option.map_some, reduceCtorEq, isM, gM_0, gM_1, gM_2, gM_3, gM_4, gM_5, gM_6, gM_7, gM_8, gM_9, gM_10, gM_11, gM_12, gM_13, gM_14, gM_15, gM_16, gM_17, gM_18, gM_19, gM_20, lA0, lA1, lA2, lA3, lA4, lA5, lA6, lA7, lA8, lA9, lA10, lA11, lA12, nI_1, nI_add, n12, n16, sI_2, neg1_lt]
  · obtain ⟨l3, l4, pl2, pa2, st3, fo2, eb2, jd2, f1⟩ := hR.2 c1
    obtain ⟨S2, e1, e2⟩ := q_f139 (X := X) (D := d + 1) (S := S) (t := t) (pl := pl2) (pa := pa2) (st := st3) (fo := fo2) (eb := eb2) (c := Q.1) (en := nI Q.2.1) (jd := jd2) (l3 := l3) (l4 := l4) ht16
    rw [if_neg c1] at e1 e2
    refine ⟨S2, ?_, by rw [if_neg c1]; exact e2⟩
    rw [if_neg c1]
    exact fin _ _ _ f1 e1
theorem q_deep (hW : WB A) (hK : KD A) (hL : lnkOK A) (hs : Sim S A nu) (ht : t < A.2.1 0 0) (hdp : ∀ z, z < 16 → dp z = -2) : ∃ S2, ev X (d + 3) m_X3_deep 0 [some (va_rf (some (aM X))), some (.int (nI t))] [] (rp X S) = some (some (.int (if (depT A 16 dp t).1 = -1 then -1000015 else (depT A 16 dp t).1)), rp X S2) ∧ FE S2 S (S.1 20 12) (if (depT A 16 dp t).1 = -1 then 1 else 0) := by
  have h16 := hW.1
  have ht16 : t < 16 := by omega
  have k40 : S.1 40 t = A.1 1 t := (hs.2.1 t ht).1
  obtain ⟨st2, g1, g2⟩ := q_find0 (X := X) (D := d + 1) (S := S) (dep := 1) (v := if A.1 1 t = 3 then 1 else 0) ht16 (by rw [k40, if_neg e10])
  have hR := ent (X := X) (D := d + 1) (t := t) hW hK hL hs 16 (fun _ => 0) (fun _ => 0) dp (S.1 48) (S.1 49) st2 (S.1 51) (S.1 52) t 0 1 (-1) (if A.1 1 t = 3 then 1 else 0) 0 (by rw [cnt_0 16 (fun _ _ => rfl)]) ht (fun z hz => Or.inl ⟨g1 z (by omega), hdp z (by omega), rfl, rfl⟩) (g1 t ht16) (by omega) rfl
  have k0 : nI 0 = 0 := rfl
  have km : (0 : Int32) + -1 = -1 := by decide
  generalize depT A 16 dp t = Q at *
  have fin : ∀ (R : Option I_R) (a : Int32) (hh : I_H), FR X (d + 1) t 0 1 (fS S (upd (S.1 48) 0 (nI t)) (upd (S.1 49) 0 0) (upd st2 t 1) (upd (S.1 51) t (if A.1 1 t = 3 then 1 else 0)) (upd (S.1 52) t 0) 0 1 (-1)) R → R = some (some (.int a), hh) → ev X (d + 3) m_X3_deep 0 [some (va_rf (some (aM X))), some (.int (nI t))] [] (rp X S) = some (some (.int a), hh) := fun R a hh h hR2 => by
    have h3 := h none
    rw [k0] at h3
    rw [h3] at g2
    rw [hR2] at g2
    simp only [e_X3_deep_0, e_X3_deep_1, e_X3_deep_2, e_X3_deep_5, e_X3_deep_8, e_X3_deep_9, e_X3_deep_10, e_X3_deep_11, e_X3_deep_14, e_X3_deep_17, e_X3_deep_19, Option.bind_some, Option.bind_none, Option.toList_some, Option.toList_none, List.cons_append, List.nil_append, I_z, I_i8, I_q8, I_i7, I_q7, I_i6, I_q6, I_i5, I_q5, I_i4, I_q4, I_i3, I_q3, I_i2, I_q2, I_i1, I_q1, I_w8, I_w7, I_w6, I_w5, I_w4, I_w3, I_w2, I_c2n, I_c2i, I_c2q, eq_self, or_true, true_or, and_true, true_and, if_true, if_false, not_false_eq_true, not_true_eq_false, Option.map_none, Option.map_some, reduceCtorEq, isM, gM_0, gM_1, gM_2, gM_3, gM_4, gM_5, gM_6, gM_7, gM_8, gM_9, gM_10, gM_11, gM_12, gM_13, gM_14, gM_15, gM_16, gM_17, gM_18, gM_19, gM_20, lA0, lA1, lA2, lA3, lA4, lA5, lA6, lA7, lA8, lA9, lA10, lA11, lA12, nI_1, nI_add, n12, n16, sI_2, q_isTable1 hs.1 h16 ht, e10, g2]
  by_cases c1 : Q.1 = -1
  · obtain ⟨l3, l4, pl2, pa2, st3, fo2, eb2, en2, jd2, f1⟩ := hR.1 c1
    obtain ⟨S2, e1, e2⟩ := q_f139d (X := X) (D := d + 1) (S := S) (t := t) (pl := pl2) (pa := pa2) (st := st3) (fo := fo2) (eb := eb2) (c := 5) (en := en2) (jd := jd2) (l3 := l3) (l4 := l4) ht16
    rw [if_neg i50] at e1 e2
    refine ⟨S2, ?_, by rw [if_pos c1]; exact e2⟩
    rw [if_pos c1]
    exact fin _ _ _ f1 e1
  · obtain ⟨l4, pl2, pa2, st3, fo2, eb2, en2, jd2, op3, f1, f2, f3, f4, f5, f6, f7⟩ := hR.2 c1
    obtain ⟨S2, e1, e2⟩ := q_f139d (X := X) (D := d + 1) (S := S) (t := t) (pl := pl2) (pa := pa2) (st := st3) (fo := fo2) (eb := eb2) (c := 0) (en := en2) (jd := jd2) (l3 := some (.int (-1))) (l4 := l4) ht16
    rw [if_pos rfl] at e1 e2
    refine ⟨S2, ?_, by rw [if_neg c1]; exact e2⟩
    rw [if_neg c1, ← f6]
    refine fin _ _ _ f1 ?_
    rw [← e1, k0, km, e_X3_find_45]
    simp only [e_X3_find_46, Option.bind_some, Option.bind_none, Option.toList_some, Option.toList_none, List.cons_append, List.nil_append, I_z, I_i8, I_q8, I_i7, I_q7, I_i6, I_q6, I_i5, I_q5, I_i4, I_q4, I_i3, I_q3, I_i2, I_q2, I_i1, I_q1, I_w8, I_w7, I_w6, I_w5, I_w4, I_w3, I_w2, I_c2n, I_c2i, I_c2q, eq_self, or_true, true_or, and_true, true_and, if_true, if_false, not_false_eq_true, not_true_eq_false, Option.map_none, Option.map_some, reduceCtorEq, isM, gM_0, gM_1, gM_2, gM_3, gM_4, gM_5, gM_6, gM_7, gM_8, gM_9, gM_10, gM_11, gM_12, gM_13, gM_14, gM_15, gM_16, gM_17, gM_18, gM_19, gM_20, lA0, lA1, lA2, lA3, lA4, lA5, lA6, lA7, lA8, lA9, lA10, lA11, lA12, nI_1, nI_add, n12, n16, sI_2, neg1_lt]
end MF
