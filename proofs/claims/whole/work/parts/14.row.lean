/-! Rows of the landed code. -/
section RW0
variable {X : I_X} {S : St} {d t r r2 i j n g g2 : Nat} {a b v : Int32} {f f2 : Nat → Int32}
theorem sI_2 : (sI S g f).2 = S.2 := by simp only [sI]
theorem sI_1 : (sI S g f).1 = va_up S.1 g f := by simp only [sI]
theorem sN_1 {f : Nat → Nat} : (sN S g f).1 = S.1 := by simp only [sN]
theorem sN_2 {f : Nat → Nat} : (sN S g f).2.1 = va_up S.2.1 g f := by simp only [sN]
theorem sN_3 {f : Nat → Nat} : (sN S g f).2.2 = S.2.2 := by simp only [sN]
theorem sP_1 {f : Nat → Option Nat} : (sP S g f).1 = S.1 := by simp only [sP]
theorem sP_2 {f : Nat → Option Nat} : (sP S g f).2.1 = S.2.1 := by simp only [sP]
theorem sP_3 {f : Nat → Option Nat} : (sP S g f).2.2.1 = va_up S.2.2.1 g f := by simp only [sP]
theorem sP_4 {f : Nat → Option Nat} : (sP S g f).2.2.2 = S.2.2.2 := by simp only [sP]
theorem sF_1 {f : Nat → UInt64} : (sF S g f).1 = S.1 := by simp only [sF]
theorem sF_2 {f : Nat → UInt64} : (sF S g f).2.1 = S.2.1 := by simp only [sF]
theorem sF_3 {f : Nat → UInt64} : (sF S g f).2.2.1 = S.2.2.1 := by simp only [sF]
theorem sF_4 {f : Nat → UInt64} : (sF S g f).2.2.2 = va_up S.2.2.2 g f := by simp only [sF]
theorem uu {α : Type} {f : Nat → α} {k : Nat} {v w : α} : va_up (va_up f k v) k w = va_up f k w := by
  funext j
  unfold va_up
  by_cases h : j = k <;> simp [h]
theorem uself {α : Type} {f : Nat → α} {k : Nat} : va_up f k (f k) = f := by
  funext j
  unfold va_up
  by_cases h : j = k <;> simp [h]
theorem sI_sI : sI (sI S g f) g f2 = sI S g f2 := by simp only [sI, uu]
theorem sI_self : sI S g (S.1 g) = S := by simp only [sI, uself]
theorem sP_sP {f f2 : Nat → Option Nat} : sP (sP S g f) g f2 = sP S g f2 := by simp only [sP, uu]
theorem sP_self : sP S g (S.2.2.1 g) = S := by simp only [sP, uself]
/-- 1 if it holds, 0 if not -/
noncomputable def b01 (p : Prop) : Int32 := @ite _ p (Classical.propDecidable p) 1 0
theorem b01_t {p : Prop} (h : p) : b01 p = 1 := by unfold b01; exact if_pos h
theorem b01_f {p : Prop} (h : ¬ p) : b01 p = 0 := by unfold b01; exact if_neg h
theorem b01_c {p q : Prop} (h : p ↔ q) : b01 p = b01 q := by rw [propext h]
theorem b01_s {P : Nat → Prop} {i n : Nat} (hi : i < n) (h : P i) : b01 (∀ k, i ≤ k → k < n → P k) = b01 (∀ k, i + 1 ≤ k → k < n → P k) := by
  refine b01_c ⟨fun q k h1 h2 => q k (by omega) h2, fun q k h1 h2 => ?_⟩
  rcases Nat.lt_or_ge i k with z | z
  · exact q k z h2
  · have : k = i := by omega
    subst this; exact h
theorem b01_n {P : Nat → Prop} {i n : Nat} (hi : i < n) (h : ¬ P i) : b01 (∀ k, i ≤ k → k < n → P k) = 0 := b01_f (fun q => h (q i (Nat.le_refl _) hi))
theorem b01_e {P : Nat → Prop} {n : Nat} : b01 (∀ k, n ≤ k → k < n → P k) = 1 := b01_t (fun k h1 h2 => by omega)
theorem b01_or (p : Prop) : b01 p = 0 ∨ b01 p = 1 := by
  by_cases h : p
  · exact Or.inr (b01_t h)
  · exact Or.inl (b01_f h)
theorem k_write0 (hr : r < S.2.1 0 1) (hk : S.1 5 r = 0) (hj : j < S.2.1 2 r) (hb : S.2.1 2 r < 2 ^ 31) : ev X d m_X0_write 0 [some (va_rf (some (aR X r))), some (.int (nI j)), some (.int v)] [] (rp X S) = some (none, rp X (sI S (100 + r) (upd (S.1 (100 + r)) j (if v = 0 then 0 else 1)))) := by
  by_cases hv : v = 0
  · simp only [e_X0_write_0, e_X0_write_1, e_X0_write_4_0, e_X0_write_4_2, e_X0_write_4_d, e_X0_write_32, e_X0_write_33, e_X0_write_36, e_X0_write_37, e_X0_write_38, e_X0_write_41, e_X0_write_42, e_X0_write_45, e_X0_write_46, e_X0_write_47, e_X0_write_50, e_X0_write_51, e_X0_write_54, e_X0_write_55, e_X0_write_56, e_X0_write_57, e_X0_write_58, e_X0_write_61, e_X0_write_62, e_X0_write_63, e_X0_write_64, e_X0_write_67, e_X0_write_68, e_X0_write_69, e_X0_write_72, e_X0_write_73, e_X0_write_76, e_X0_write_77, e_X0_write_78, e_X0_write_79, Option.bind_some, Option.bind_none, Option.toList_some, Option.toList_none, List.cons_append, List.nil_append, I_z, I_i8, I_q8, I_i7, I_q7, I_i6, I_q6, I_i5, I_q5, I_i4, I_q4, I_i3, I_q3, I_i2, I_q2, I_i1, I_q1, I_w8, I_w7, I_w6, I_w5, I_w4, I_w3, I_w2, I_c2n, I_c2i, I_c2q, eq_self, or_true, true_or, and_true, true_and, if_true, if_false, not_false_eq_true, not_true_eq_false, Option.map_none, Option.map_some, reduceCtorEq, gR_0, gR_1, hr, hk, hv, uRw, hj, hb]
  · simp only [e_X0_write_0, e_X0_write_1, e_X0_write_4_0, e_X0_write_4_2, e_X0_write_4_d, e_X0_write_32, e_X0_write_33, e_X0_write_36, e_X0_write_37, e_X0_write_38, e_X0_write_41, e_X0_write_42, e_X0_write_45, e_X0_write_46, e_X0_write_47, e_X0_write_50, e_X0_write_51, e_X0_write_54, e_X0_write_55, e_X0_write_56, e_X0_write_57, e_X0_write_58, e_X0_write_61, e_X0_write_62, e_X0_write_63, e_X0_write_64, e_X0_write_67, e_X0_write_68, e_X0_write_69, e_X0_write_72, e_X0_write_73, e_X0_write_76, e_X0_write_77, e_X0_write_78, e_X0_write_79, Option.bind_some, Option.bind_none, Option.toList_some, Option.toList_none, List.cons_append, List.nil_append, I_z, I_i8, I_q8, I_i7, I_q7, I_i6, I_q6, I_i5, I_q5, I_i4, I_q4, I_i3, I_q3, I_i2, I_q2, I_i1, I_q1, I_w8, I_w7, I_w6, I_w5, I_w4, I_w3, I_w2, I_c2n, I_c2i, I_c2q, eq_self, or_true, true_or, and_true, true_and, if_true, if_false, not_false_eq_true, not_true_eq_false, Option.map_none, Option.map_some, reduceCtorEq, gR_0, gR_1, hr, hk, hv, uRw, hj, hb]
theorem k_write2 (hr : r < S.2.1 0 1) (hk : S.1 5 r = 2) (hj : j < S.2.1 2 r) (hb : S.2.1 2 r < 2 ^ 31) (hj3 : j < S.2.1 3 r) (hb3 : S.2.1 3 r < 2 ^ 31) : ev X d m_X0_write 0 [some (va_rf (some (aR X r))), some (.int (nI j)), some (.int v)] [] (rp X S) = some (none, rp X (sF (sI S (100 + r) (upd (S.1 (100 + r)) j 0)) (1 + r) (vf_upd (S.2.2.2 (1 + r)) j (FP.ddiv (FP.i2d v) 4652007308841189376)))) := by
  simp only [e_X0_write_0, e_X0_write_1, e_X0_write_4_0, e_X0_write_4_2, e_X0_write_4_d, e_X0_write_32, e_X0_write_33, e_X0_write_36, e_X0_write_37, e_X0_write_38, e_X0_write_41, e_X0_write_42, e_X0_write_45, e_X0_write_46, e_X0_write_47, e_X0_write_50, e_X0_write_51, e_X0_write_54, e_X0_write_55, e_X0_write_56, e_X0_write_57, e_X0_write_58, e_X0_write_61, e_X0_write_62, e_X0_write_63, e_X0_write_64, e_X0_write_67, e_X0_write_68, e_X0_write_69, e_X0_write_72, e_X0_write_73, e_X0_write_76, e_X0_write_77, e_X0_write_78, e_X0_write_79, Option.bind_some, Option.bind_none, Option.toList_some, Option.toList_none, List.cons_append, List.nil_append, I_z, I_i8, I_q8, I_i7, I_q7, I_i6, I_q6, I_i5, I_q5, I_i4, I_q4, I_i3, I_q3, I_i2, I_q2, I_i1, I_q1, I_w8, I_w7, I_w6, I_w5, I_w4, I_w3, I_w2, I_c2n, I_c2i, I_c2q, eq_self, or_true, true_or, and_true, true_and, if_true, if_false, not_false_eq_true, not_true_eq_false, Option.map_none, Option.map_some, reduceCtorEq, gR_0, gR_1, gR_2, hr, hk, uRw, uRd, hj, hb, hj3, hb3, sI_2, fp_div]
theorem k_writeN (hr : r < S.2.1 0 1) (hk : ¬ S.1 5 r = 0) (hk2 : ¬ S.1 5 r = 2) (hj : j < S.2.1 2 r) (hb : S.2.1 2 r < 2 ^ 31) : ev X d m_X0_write 0 [some (va_rf (some (aR X r))), some (.int (nI j)), some (.int v)] [] (rp X S) = some (none, rp X (sI S (100 + r) (upd (S.1 (100 + r)) j v))) := by
  simp only [e_X0_write_0, e_X0_write_1, e_X0_write_4_0, e_X0_write_4_2, e_X0_write_4_d, e_X0_write_32, e_X0_write_33, e_X0_write_36, e_X0_write_37, e_X0_write_38, e_X0_write_41, e_X0_write_42, e_X0_write_45, e_X0_write_46, e_X0_write_47, e_X0_write_50, e_X0_write_51, e_X0_write_54, e_X0_write_55, e_X0_write_56, e_X0_write_57, e_X0_write_58, e_X0_write_61, e_X0_write_62, e_X0_write_63, e_X0_write_64, e_X0_write_67, e_X0_write_68, e_X0_write_69, e_X0_write_72, e_X0_write_73, e_X0_write_76, e_X0_write_77, e_X0_write_78, e_X0_write_79, Option.bind_some, Option.bind_none, Option.toList_some, Option.toList_none, List.cons_append, List.nil_append, I_z, I_i8, I_q8, I_i7, I_q7, I_i6, I_q6, I_i5, I_q5, I_i4, I_q4, I_i3, I_q3, I_i2, I_q2, I_i1, I_q1, I_w8, I_w7, I_w6, I_w5, I_w4, I_w3, I_w2, I_c2n, I_c2i, I_c2q, eq_self, or_true, true_or, and_true, true_and, if_true, if_false, not_false_eq_true, not_true_eq_false, Option.map_none, Option.map_some, reduceCtorEq, gR_0, gR_1, hr, hk, hk2, uRw, hj, hb]
def cutS (S : St) (r j : Nat) : Int32 := if S.1 5 r = 2 then FP.d2i (S.2.2.2 (1 + r) j) else S.1 (100 + r) j
theorem k_cut (hS : WB S) (hr : r < S.2.1 0 1) (hj : j < S.2.1 2 r) : ev X d m_X0_cut 0 [some (va_rf (some (aR X r))), some (.int (nI j))] [] (rp X S) = some (some (.int (cutS S r j)), rp X S) := by
  obtain ⟨h16, h3⟩ := hS.2.2.2 r hr
  have hb : S.2.1 2 r < 2 ^ 31 := by omega
  by_cases hk : S.1 5 r = 2
  · rw [if_pos hk] at h3
    have hj3 : j < S.2.1 3 r := by omega
    have hb3 : S.2.1 3 r < 2 ^ 31 := by omega
    simp only [e_X0_cut_0, e_X0_cut_1, e_X0_cut_4, e_X0_cut_5, e_X0_cut_8, e_X0_cut_9, e_X0_cut_12, e_X0_cut_13, e_X0_cut_14, e_X0_cut_15, e_X0_cut_18, e_X0_cut_19, e_X0_cut_22, e_X0_cut_23, e_X0_cut_24, Option.bind_some, Option.bind_none, Option.toList_some, Option.toList_none, List.cons_append, List.nil_append, I_z, I_i8, I_q8, I_i7, I_q7, I_i6, I_q6, I_i5, I_q5, I_i4, I_q4, I_i3, I_q3, I_i2, I_q2, I_i1, I_q1, I_w8, I_w7, I_w6, I_w5, I_w4, I_w3, I_w2, I_c2n, I_c2i, I_c2q, eq_self, or_true, true_or, and_true, true_and, if_true, if_false, not_false_eq_true, not_true_eq_false, Option.map_none, Option.map_some, reduceCtorEq, gR_0, gR_2, hr, hk, lRd, hj3, hb3, cutS]
  · simp only [e_X0_cut_0, e_X0_cut_1, e_X0_cut_4, e_X0_cut_5, e_X0_cut_8, e_X0_cut_9, e_X0_cut_12, e_X0_cut_13, e_X0_cut_14, e_X0_cut_15, e_X0_cut_18, e_X0_cut_19, e_X0_cut_22, e_X0_cut_23, e_X0_cut_24, Option.bind_some, Option.bind_none, Option.toList_some, Option.toList_none, List.cons_append, List.nil_append, I_z, I_i8, I_q8, I_i7, I_q7, I_i6, I_q6, I_i5, I_q5, I_i4, I_q4, I_i3, I_q3, I_i2, I_q2, I_i1, I_q1, I_w8, I_w7, I_w6, I_w5, I_w4, I_w3, I_w2, I_c2n, I_c2i, I_c2q, eq_self, or_true, true_or, and_true, true_and, if_true, if_false, not_false_eq_true, not_true_eq_false, Option.map_none, Option.map_some, reduceCtorEq, gR_0, gR_1, hr, hk, lRw, hj, hb, cutS]
/-- the cells from j on, m of them, added to s -/
def sumA (S : St) (r : Nat) : Nat → Nat → Int32 → Int32
  | 0, _, s => s
  | m + 1, j, s => sumA S r m (j + 1) (s + cutS S r j)
theorem k_sum_loop (hS : WB S) (hr : r < S.2.1 0 1) : ∀ m j s, j + m = S.2.1 2 r → ev X (d + 1) m_X0_sumOfCells 4 [some (va_rf (some (aR X r))), some (.int s), some (.int (nI j))] [] (rp X S) = some (some (.int (sumA S r m j s)), rp X S) := by
  have h16 := (hS.2.2.2 r hr).1
  intro m
  induction m with
  | zero =>
    intro j s hj
    have h1 : nI (S.2.1 2 r) ≤ nI j := nI_le (by omega) (by omega)
    simp only [e_X0_sumOfCells_0, e_X0_sumOfCells_1, e_X0_sumOfCells_2, e_X0_sumOfCells_3, e_X0_sumOfCells_4, e_X0_sumOfCells_5, e_X0_sumOfCells_6, e_X0_sumOfCells_9, e_X0_sumOfCells_10, e_X0_sumOfCells_13, e_X0_sumOfCells_14, e_X0_sumOfCells_15, e_X0_sumOfCells_16, e_X0_sumOfCells_19, e_X0_sumOfCells_20, e_X0_sumOfCells_21, e_X0_sumOfCells_24, e_X0_sumOfCells_27, e_X0_sumOfCells_28, Option.bind_some, Option.bind_none, Option.toList_some, Option.toList_none, List.cons_append, List.nil_append, I_z, I_i8, I_q8, I_i7, I_q7, I_i6, I_q6, I_i5, I_q5, I_i4, I_q4, I_i3, I_q3, I_i2, I_q2, I_i1, I_q1, I_w8, I_w7, I_w6, I_w5, I_w4, I_w3, I_w2, I_c2n, I_c2i, I_c2q, eq_self, or_true, true_or, and_true, true_and, if_true, if_false, not_false_eq_true, not_true_eq_false, Option.map_none, Option.map_some, reduceCtorEq, gR_1, hr, nRw, h1, sumA]
  | succ m ih =>
    intro j s hj
    have h1 : ¬ nI (S.2.1 2 r) ≤ nI j := nI_ge (by omega) (by omega)
    have hj2 : j < S.2.1 2 r := by omega
    have ih1 := ih (j + 1) (s + cutS S r j) (by omega)
    simp only [e_X0_sumOfCells_0, e_X0_sumOfCells_1, e_X0_sumOfCells_2, e_X0_sumOfCells_3, e_X0_sumOfCells_4, e_X0_sumOfCells_5, e_X0_sumOfCells_6, e_X0_sumOfCells_9, e_X0_sumOfCells_10, e_X0_sumOfCells_13, e_X0_sumOfCells_14, e_X0_sumOfCells_15, e_X0_sumOfCells_16, e_X0_sumOfCells_19, e_X0_sumOfCells_20, e_X0_sumOfCells_21, e_X0_sumOfCells_24, e_X0_sumOfCells_27, e_X0_sumOfCells_28, Option.bind_some, Option.bind_none, Option.toList_some, Option.toList_none, List.cons_append, List.nil_append, I_z, I_i8, I_q8, I_i7, I_q7, I_i6, I_q6, I_i5, I_q5, I_i4, I_q4, I_i3, I_q3, I_i2, I_q2, I_i1, I_q1, I_w8, I_w7, I_w6, I_w5, I_w4, I_w3, I_w2, I_c2n, I_c2i, I_c2q, eq_self, or_true, true_or, and_true, true_and, if_true, if_false, not_false_eq_true, not_true_eq_false, Option.map_none, Option.map_some, reduceCtorEq, gR_1, hr, nRw, h1, sumA, isR, k_cut hS hr hj2, nI_1, ih1]
theorem k_sum (hS : WB S) (hr : r < S.2.1 0 1) : ev X (d + 1) m_X0_sumOfCells 0 [some (va_rf (some (aR X r))), none, none] [] (rp X S) = some (some (.int (sumA S r (S.2.1 2 r) 0 0)), rp X S) := by
  have h := k_sum_loop (X := X) (d := d) hS hr (S.2.1 2 r) 0 0 (by omega)
  rw [nI_0] at h
  simp only [e_X0_sumOfCells_0, e_X0_sumOfCells_1, e_X0_sumOfCells_2, e_X0_sumOfCells_3, Option.bind_some, Option.bind_none, Option.toList_some, Option.toList_none, List.cons_append, List.nil_append, I_z, I_i8, I_q8, I_i7, I_q7, I_i6, I_q6, I_i5, I_q5, I_i4, I_q4, I_i3, I_q3, I_i2, I_q2, I_i1, I_q1, I_w8, I_w7, I_w6, I_w5, I_w4, I_w3, I_w2, I_c2n, I_c2i, I_c2q, eq_self, or_true, true_or, and_true, true_and, if_true, if_false, not_false_eq_true, not_true_eq_false, Option.map_none, Option.map_some, reduceCtorEq, h]
/-- a cell that is no number -/
def nn (S : St) (r j : Nat) : Prop := S.1 5 r = 2 ∧ ¬ S.1 (100 + r) j = 0
theorem k_isNoNumber (hr : r < S.2.1 0 1) (hj : j < S.2.1 2 r) (hb : S.2.1 2 r < 2 ^ 31) : ev X d m_X0_isNoNumber 0 [some (va_rf (some (aR X r))), some (.int (nI j))] [] (rp X S) = some (some (.int (b01 (nn S r j))), rp X S) := by
  by_cases hk : S.1 5 r = 2
  · by_cases hv : S.1 (100 + r) j = 0
    · rw [b01_f (fun q => q.2 hv)]
      simp only [e_X0_isNoNumber_0, e_X0_isNoNumber_1, e_X0_isNoNumber_4, e_X0_isNoNumber_5, e_X0_isNoNumber_8, e_X0_isNoNumber_9, e_X0_isNoNumber_12, e_X0_isNoNumber_13, e_X0_isNoNumber_14, e_X0_isNoNumber_17, e_X0_isNoNumber_18, e_X0_isNoNumber_21, e_X0_isNoNumber_22, Option.bind_some, Option.bind_none, Option.toList_some, Option.toList_none, List.cons_append, List.nil_append, I_z, I_i8, I_q8, I_i7, I_q7, I_i6, I_q6, I_i5, I_q5, I_i4, I_q4, I_i3, I_q3, I_i2, I_q2, I_i1, I_q1, I_w8, I_w7, I_w6, I_w5, I_w4, I_w3, I_w2, I_c2n, I_c2i, I_c2q, eq_self, or_true, true_or, and_true, true_and, if_true, if_false, not_false_eq_true, not_true_eq_false, Option.map_none, Option.map_some, reduceCtorEq, gR_0, gR_1, hr, hk, lRw, hj, hb, hv]
    · rw [b01_t ⟨hk, hv⟩]
      simp only [e_X0_isNoNumber_0, e_X0_isNoNumber_1, e_X0_isNoNumber_4, e_X0_isNoNumber_5, e_X0_isNoNumber_8, e_X0_isNoNumber_9, e_X0_isNoNumber_12, e_X0_isNoNumber_13, e_X0_isNoNumber_14, e_X0_isNoNumber_17, e_X0_isNoNumber_18, e_X0_isNoNumber_21, e_X0_isNoNumber_22, Option.bind_some, Option.bind_none, Option.toList_some, Option.toList_none, List.cons_append, List.nil_append, I_z, I_i8, I_q8, I_i7, I_q7, I_i6, I_q6, I_i5, I_q5, I_i4, I_q4, I_i3, I_q3, I_i2, I_q2, I_i1, I_q1, I_w8, I_w7, I_w6, I_w5, I_w4, I_w3, I_w2, I_c2n, I_c2i, I_c2q, eq_self, or_true, true_or, and_true, true_and, if_true, if_false, not_false_eq_true, not_true_eq_false, Option.map_none, Option.map_some, reduceCtorEq, gR_0, gR_1, hr, hk, lRw, hj, hb, hv]
  · rw [b01_f (fun q => hk q.1)]
    simp only [e_X0_isNoNumber_0, e_X0_isNoNumber_1, e_X0_isNoNumber_4, e_X0_isNoNumber_5, e_X0_isNoNumber_8, e_X0_isNoNumber_9, e_X0_isNoNumber_12, e_X0_isNoNumber_13, e_X0_isNoNumber_14, e_X0_isNoNumber_17, e_X0_isNoNumber_18, e_X0_isNoNumber_21, e_X0_isNoNumber_22, Option.bind_some, Option.bind_none, Option.toList_some, Option.toList_none, List.cons_append, List.nil_append, I_z, I_i8, I_q8, I_i7, I_q7, I_i6, I_q6, I_i5, I_q5, I_i4, I_q4, I_i3, I_q3, I_i2, I_q2, I_i1, I_q1, I_w8, I_w7, I_w6, I_w5, I_w4, I_w3, I_w2, I_c2n, I_c2i, I_c2q, eq_self, or_true, true_or, and_true, true_and, if_true, if_false, not_false_eq_true, not_true_eq_false, Option.map_none, Option.map_some, reduceCtorEq, gR_0, gR_1, hr, hk]
theorem k_mark (hr : r < S.2.1 0 1) (hj : j < S.2.1 2 r) (hb : S.2.1 2 r < 2 ^ 31) (hj3 : j < S.2.1 3 r) (hb3 : S.2.1 3 r < 2 ^ 31) : ev X d m_X0_markNoNumber 0 [some (va_rf (some (aR X r))), some (.int (nI j))] [] (rp X S) = some (none, rp X (sF (sI S (100 + r) (upd (S.1 (100 + r)) j 1)) (1 + r) (vf_upd (S.2.2.2 (1 + r)) j 0))) := by
  simp only [e_X0_markNoNumber_0, e_X0_markNoNumber_1, e_X0_markNoNumber_4, e_X0_markNoNumber_5, e_X0_markNoNumber_6, e_X0_markNoNumber_7, e_X0_markNoNumber_8, e_X0_markNoNumber_11, e_X0_markNoNumber_12, e_X0_markNoNumber_13, e_X0_markNoNumber_14, Option.bind_some, Option.bind_none, Option.toList_some, Option.toList_none, List.cons_append, List.nil_append, I_z, I_i8, I_q8, I_i7, I_q7, I_i6, I_q6, I_i5, I_q5, I_i4, I_q4, I_i3, I_q3, I_i2, I_q2, I_i1, I_q1, I_w8, I_w7, I_w6, I_w5, I_w4, I_w3, I_w2, I_c2n, I_c2i, I_c2q, eq_self, or_true, true_or, and_true, true_and, if_true, if_false, not_false_eq_true, not_true_eq_false, Option.map_none, Option.map_some, reduceCtorEq, gR_1, gR_2, hr, uRw, uRd, hj, hb, hj3, hb3, sI_2]
/-- n cells of row r from i on come to row r2 from j on -/
def sTake (S : St) (r2 j r i n : Nat) : St := if S.1 5 r2 = 2 then sF (sI S (100 + r2) (va_cpy (S.1 (100 + r)) (S.1 (100 + r2)) i j n)) (1 + r2) (va_cpy (S.2.2.2 (1 + r)) (S.2.2.2 (1 + r2)) i j n) else sI S (100 + r2) (va_cpy (S.1 (100 + r)) (S.1 (100 + r2)) i j n)
theorem k_take (hS : WB S) (hr : r < S.2.1 0 1) (hr2 : r2 < S.2.1 0 1) (hk : S.1 5 r = S.1 5 r2) (h1 : i + n ≤ S.2.1 2 r) (h2 : j + n ≤ S.2.1 2 r2) : ev X d m_X0_takeCells 0 [some (va_rf (some (aR X r2))), some (.int (nI j)), some (va_rf (some (aR X r))), some (.int (nI i)), some (.int (nI n))] [] (rp X S) = some (none, rp X (sTake S r2 j r i n)) := by
  obtain ⟨h16, h3⟩ := hS.2.2.2 r hr
  obtain ⟨h162, h32⟩ := hS.2.2.2 r2 hr2
  have hb : S.2.1 2 r < 2 ^ 31 := by omega
  have hb2 : S.2.1 2 r2 < 2 ^ 31 := by omega
  have hu : va_up S.1 (100 + r2) (va_cpy (S.1 (100 + r)) (S.1 (100 + r2)) i j n) 5 = S.1 5 := up_ne (by omega)
  by_cases hk2 : S.1 5 r2 = 2
  · rw [if_pos hk2] at h32
    rw [hk, if_pos hk2] at h3
    have h1' : i + n ≤ S.2.1 3 r := by omega
    have h2' : j + n ≤ S.2.1 3 r2 := by omega
    have hb3 : S.2.1 3 r < 2 ^ 31 := by omega
    have hb32 : S.2.1 3 r2 < 2 ^ 31 := by omega
    simp only [e_X0_takeCells_0, e_X0_takeCells_1, e_X0_takeCells_4, e_X0_takeCells_5, e_X0_takeCells_6, e_X0_takeCells_9, e_X0_takeCells_10, e_X0_takeCells_12, e_X0_takeCells_15, e_X0_takeCells_16, e_X0_takeCells_19, e_X0_takeCells_20, e_X0_takeCells_23, e_X0_takeCells_24, e_X0_takeCells_27, e_X0_takeCells_28, e_X0_takeCells_29, e_X0_takeCells_32, e_X0_takeCells_33, e_X0_takeCells_35, e_X0_takeCells_38, Option.bind_some, Option.bind_none, Option.toList_some, Option.toList_none, List.cons_append, List.nil_append, I_z, I_i8, I_q8, I_i7, I_q7, I_i6, I_q6, I_i5, I_q5, I_i4, I_q4, I_i3, I_q3, I_i2, I_q2, I_i1, I_q1, I_w8, I_w7, I_w6, I_w5, I_w4, I_w3, I_w2, I_c2n, I_c2i, I_c2q, eq_self, or_true, true_or, and_true, true_and, if_true, if_false, not_false_eq_true, not_true_eq_false, Option.map_none, Option.map_some, reduceCtorEq, gR_0, gR_1, gR_2, hr, hr2, cRw, cRd, h1, h2, hb, hb2, h1', h2', hb3, hb32, sI_2, sI_1, hu, hk2, sTake]
  · simp only [e_X0_takeCells_0, e_X0_takeCells_1, e_X0_takeCells_4, e_X0_takeCells_5, e_X0_takeCells_6, e_X0_takeCells_9, e_X0_takeCells_10, e_X0_takeCells_12, e_X0_takeCells_15, e_X0_takeCells_16, e_X0_takeCells_19, e_X0_takeCells_20, e_X0_takeCells_23, e_X0_takeCells_24, e_X0_takeCells_27, e_X0_takeCells_28, e_X0_takeCells_29, e_X0_takeCells_32, e_X0_takeCells_33, e_X0_takeCells_35, e_X0_takeCells_38, Option.bind_some, Option.bind_none, Option.toList_some, Option.toList_none, List.cons_append, List.nil_append, I_z, I_i8, I_q8, I_i7, I_q7, I_i6, I_q6, I_i5, I_q5, I_i4, I_q4, I_i3, I_q3, I_i2, I_q2, I_i1, I_q1, I_w8, I_w7, I_w6, I_w5, I_w4, I_w3, I_w2, I_c2n, I_c2i, I_c2q, eq_self, or_true, true_or, and_true, true_and, if_true, if_false, not_false_eq_true, not_true_eq_false, Option.map_none, Option.map_some, reduceCtorEq, gR_0, gR_1, gR_2, hr, hr2, cRw, h1, h2, hb, hb2, sI_2, sI_1, hu, hk2, sTake]
/-- cell j of two rows of one kind is the same -/
def sameC (S : St) (r r2 j : Nat) : Prop := if S.1 5 r = 2 then (¬ nn S r j ∧ ¬ nn S r2 j ∧ Op.cmpValue (FP.dcmp (S.2.2.2 (1 + r) j) (S.2.2.2 (1 + r2) j)) .l = 0) else S.1 (100 + r) j = S.1 (100 + r2) j
theorem k_cellOf (hS : WB S) (hr : r < S.2.1 0 1) (hr2 : r2 < S.2.1 0 1) (hk : S.1 5 r = S.1 5 r2) (hj : j < S.2.1 2 r) (hj2 : j < S.2.1 2 r2) : ev X (d + 1) m_X0_hasTheCellOf 0 [some (va_rf (some (aR X r))), some (va_rf (some (aR X r2))), some (.int (nI j))] [] (rp X S) = some (some (.int (b01 (sameC S r r2 j))), rp X S) := by
  obtain ⟨h16, h3⟩ := hS.2.2.2 r hr
  obtain ⟨h162, h32⟩ := hS.2.2.2 r2 hr2
  have hb : S.2.1 2 r < 2 ^ 31 := by omega
  have hb2 : S.2.1 2 r2 < 2 ^ 31 := by omega
  have e10 : ¬ (1 : Int32) = 0 := by decide
  by_cases hk2 : S.1 5 r = 2
  · have hkk : S.1 5 r2 = 2 := by rw [← hk]; exact hk2
    rw [if_pos hkk] at h32
    rw [if_pos hk2] at h3
    have hj3 : j < S.2.1 3 r := by omega
    have hj32 : j < S.2.1 3 r2 := by omega
    have hb3 : S.2.1 3 r < 2 ^ 31 := by omega
    have hb32 : S.2.1 3 r2 < 2 ^ 31 := by omega
    by_cases n1 : nn S r j
    · rw [b01_f (show ¬ sameC S r r2 j from fun q => by unfold sameC at q; rw [if_pos hk2] at q; exact q.1 n1)]
      simp only [e_X0_hasTheCellOf_0, e_X0_hasTheCellOf_1, e_X0_hasTheCellOf_4, e_X0_hasTheCellOf_5, e_X0_hasTheCellOf_8, e_X0_hasTheCellOf_9, e_X0_hasTheCellOf_12, e_X0_hasTheCellOf_13, e_X0_hasTheCellOf_14, e_X0_hasTheCellOf_15, e_X0_hasTheCellOf_18, e_X0_hasTheCellOf_19, e_X0_hasTheCellOf_20, e_X0_hasTheCellOf_23, e_X0_hasTheCellOf_24, e_X0_hasTheCellOf_27, e_X0_hasTheCellOf_28, e_X0_hasTheCellOf_29, e_X0_hasTheCellOf_30, e_X0_hasTheCellOf_31, e_X0_hasTheCellOf_34, e_X0_hasTheCellOf_37, e_X0_hasTheCellOf_38, e_X0_hasTheCellOf_39, e_X0_hasTheCellOf_42, e_X0_hasTheCellOf_45, e_X0_hasTheCellOf_46, e_X0_hasTheCellOf_49, e_X0_hasTheCellOf_50, e_X0_hasTheCellOf_51, e_X0_hasTheCellOf_52, e_X0_hasTheCellOf_55, e_X0_hasTheCellOf_56, e_X0_hasTheCellOf_57, e_X0_hasTheCellOf_58, e_X0_hasTheCellOf_61, e_X0_hasTheCellOf_62, e_X0_hasTheCellOf_65, e_X0_hasTheCellOf_66, Option.bind_some, Option.bind_none, Option.toList_some, Option.toList_none, List.cons_append, List.nil_append, I_z, I_i8, I_q8, I_i7, I_q7, I_i6, I_q6, I_i5, I_q5, I_i4, I_q4, I_i3, I_q3, I_i2, I_q2, I_i1, I_q1, I_w8, I_w7, I_w6, I_w5, I_w4, I_w3, I_w2, I_c2n, I_c2i, I_c2q, eq_self, or_true, true_or, and_true, true_and, if_true, if_false, not_false_eq_true, not_true_eq_false, Option.map_none, Option.map_some, reduceCtorEq, gR_0, hr, hk2, isR, k_isNoNumber hr hj hb, b01_t n1, e10]
    · by_cases n2 : nn S r2 j
      · rw [b01_f (show ¬ sameC S r r2 j from fun q => by unfold sameC at q; rw [if_pos hk2] at q; exact q.2.1 n2)]
        simp only [e_X0_hasTheCellOf_0, e_X0_hasTheCellOf_1, e_X0_hasTheCellOf_4, e_X0_hasTheCellOf_5, e_X0_hasTheCellOf_8, e_X0_hasTheCellOf_9, e_X0_hasTheCellOf_12, e_X0_hasTheCellOf_13, e_X0_hasTheCellOf_14, e_X0_hasTheCellOf_15, e_X0_hasTheCellOf_18, e_X0_hasTheCellOf_19, e_X0_hasTheCellOf_20, e_X0_hasTheCellOf_23, e_X0_hasTheCellOf_24, e_X0_hasTheCellOf_27, e_X0_hasTheCellOf_28, e_X0_hasTheCellOf_29, e_X0_hasTheCellOf_30, e_X0_hasTheCellOf_31, e_X0_hasTheCellOf_34, e_X0_hasTheCellOf_37, e_X0_hasTheCellOf_38, e_X0_hasTheCellOf_39, e_X0_hasTheCellOf_42, e_X0_hasTheCellOf_45, e_X0_hasTheCellOf_46, e_X0_hasTheCellOf_49, e_X0_hasTheCellOf_50, e_X0_hasTheCellOf_51, e_X0_hasTheCellOf_52, e_X0_hasTheCellOf_55, e_X0_hasTheCellOf_56, e_X0_hasTheCellOf_57, e_X0_hasTheCellOf_58, e_X0_hasTheCellOf_61, e_X0_hasTheCellOf_62, e_X0_hasTheCellOf_65, e_X0_hasTheCellOf_66, Option.bind_some, Option.bind_none, Option.toList_some, Option.toList_none, List.cons_append, List.nil_append, I_z, I_i8, I_q8, I_i7, I_q7, I_i6, I_q6, I_i5, I_q5, I_i4, I_q4, I_i3, I_q3, I_i2, I_q2, I_i1, I_q1, I_w8, I_w7, I_w6, I_w5, I_w4, I_w3, I_w2, I_c2n, I_c2i, I_c2q, eq_self, or_true, true_or, and_true, true_and, if_true, if_false, not_false_eq_true, not_true_eq_false, Option.map_none, Option.map_some, reduceCtorEq, gR_0, hr, hr2, hk2, isR, k_isNoNumber hr hj hb, k_isNoNumber hr2 hj2 hb2, b01_f n1, b01_t n2, e10]
      · by_cases n3 : Op.cmpValue (FP.dcmp (S.2.2.2 (1 + r) j) (S.2.2.2 (1 + r2) j)) .l = 0
        · rw [b01_t (show sameC S r r2 j by unfold sameC; rw [if_pos hk2]; exact ⟨n1, n2, n3⟩)]
          simp only [e_X0_hasTheCellOf_0, e_X0_hasTheCellOf_1, e_X0_hasTheCellOf_4, e_X0_hasTheCellOf_5, e_X0_hasTheCellOf_8, e_X0_hasTheCellOf_9, e_X0_hasTheCellOf_12, e_X0_hasTheCellOf_13, e_X0_hasTheCellOf_14, e_X0_hasTheCellOf_15, e_X0_hasTheCellOf_18, e_X0_hasTheCellOf_19, e_X0_hasTheCellOf_20, e_X0_hasTheCellOf_23, e_X0_hasTheCellOf_24, e_X0_hasTheCellOf_27, e_X0_hasTheCellOf_28, e_X0_hasTheCellOf_29, e_X0_hasTheCellOf_30, e_X0_hasTheCellOf_31, e_X0_hasTheCellOf_34, e_X0_hasTheCellOf_37, e_X0_hasTheCellOf_38, e_X0_hasTheCellOf_39, e_X0_hasTheCellOf_42, e_X0_hasTheCellOf_45, e_X0_hasTheCellOf_46, e_X0_hasTheCellOf_49, e_X0_hasTheCellOf_50, e_X0_hasTheCellOf_51, e_X0_hasTheCellOf_52, e_X0_hasTheCellOf_55, e_X0_hasTheCellOf_56, e_X0_hasTheCellOf_57, e_X0_hasTheCellOf_58, e_X0_hasTheCellOf_61, e_X0_hasTheCellOf_62, e_X0_hasTheCellOf_65, e_X0_hasTheCellOf_66, Option.bind_some, Option.bind_none, Option.toList_some, Option.toList_none, List.cons_append, List.nil_append, I_z, I_i8, I_q8, I_i7, I_q7, I_i6, I_q6, I_i5, I_q5, I_i4, I_q4, I_i3, I_q3, I_i2, I_q2, I_i1, I_q1, I_w8, I_w7, I_w6, I_w5, I_w4, I_w3, I_w2, I_c2n, I_c2i, I_c2q, eq_self, or_true, true_or, and_true, true_and, if_true, if_false, not_false_eq_true, not_true_eq_false, Option.map_none, Option.map_some, reduceCtorEq, gR_0, gR_2, hr, hr2, hk2, isR, k_isNoNumber hr hj hb, k_isNoNumber hr2 hj2 hb2, b01_f n1, b01_f n2, lRd, hj3, hj32, hb3, hb32, n3]
        · rw [b01_f (show ¬ sameC S r r2 j from fun q => by unfold sameC at q; rw [if_pos hk2] at q; exact n3 q.2.2)]
          simp only [e_X0_hasTheCellOf_0, e_X0_hasTheCellOf_1, e_X0_hasTheCellOf_4, e_X0_hasTheCellOf_5, e_X0_hasTheCellOf_8, e_X0_hasTheCellOf_9, e_X0_hasTheCellOf_12, e_X0_hasTheCellOf_13, e_X0_hasTheCellOf_14, e_X0_hasTheCellOf_15, e_X0_hasTheCellOf_18, e_X0_hasTheCellOf_19, e_X0_hasTheCellOf_20, e_X0_hasTheCellOf_23, e_X0_hasTheCellOf_24, e_X0_hasTheCellOf_27, e_X0_hasTheCellOf_28, e_X0_hasTheCellOf_29, e_X0_hasTheCellOf_30, e_X0_hasTheCellOf_31, e_X0_hasTheCellOf_34, e_X0_hasTheCellOf_37, e_X0_hasTheCellOf_38, e_X0_hasTheCellOf_39, e_X0_hasTheCellOf_42, e_X0_hasTheCellOf_45, e_X0_hasTheCellOf_46, e_X0_hasTheCellOf_49, e_X0_hasTheCellOf_50, e_X0_hasTheCellOf_51, e_X0_hasTheCellOf_52, e_X0_hasTheCellOf_55, e_X0_hasTheCellOf_56, e_X0_hasTheCellOf_57, e_X0_hasTheCellOf_58, e_X0_hasTheCellOf_61, e_X0_hasTheCellOf_62, e_X0_hasTheCellOf_65, e_X0_hasTheCellOf_66, Option.bind_some, Option.bind_none, Option.toList_some, Option.toList_none, List.cons_append, List.nil_append, I_z, I_i8, I_q8, I_i7, I_q7, I_i6, I_q6, I_i5, I_q5, I_i4, I_q4, I_i3, I_q3, I_i2, I_q2, I_i1, I_q1, I_w8, I_w7, I_w6, I_w5, I_w4, I_w3, I_w2, I_c2n, I_c2i, I_c2q, eq_self, or_true, true_or, and_true, true_and, if_true, if_false, not_false_eq_true, not_true_eq_false, Option.map_none, Option.map_some, reduceCtorEq, gR_0, gR_2, hr, hr2, hk2, isR, k_isNoNumber hr hj hb, k_isNoNumber hr2 hj2 hb2, b01_f n1, b01_f n2, lRd, hj3, hj32, hb3, hb32, n3]
  · by_cases n3 : S.1 (100 + r) j = S.1 (100 + r2) j
    · rw [b01_t (show sameC S r r2 j by unfold sameC; rw [if_neg hk2]; exact n3)]
      simp only [e_X0_hasTheCellOf_0, e_X0_hasTheCellOf_1, e_X0_hasTheCellOf_4, e_X0_hasTheCellOf_5, e_X0_hasTheCellOf_8, e_X0_hasTheCellOf_9, e_X0_hasTheCellOf_12, e_X0_hasTheCellOf_13, e_X0_hasTheCellOf_14, e_X0_hasTheCellOf_15, e_X0_hasTheCellOf_18, e_X0_hasTheCellOf_19, e_X0_hasTheCellOf_20, e_X0_hasTheCellOf_23, e_X0_hasTheCellOf_24, e_X0_hasTheCellOf_27, e_X0_hasTheCellOf_28, e_X0_hasTheCellOf_29, e_X0_hasTheCellOf_30, e_X0_hasTheCellOf_31, e_X0_hasTheCellOf_34, e_X0_hasTheCellOf_37, e_X0_hasTheCellOf_38, e_X0_hasTheCellOf_39, e_X0_hasTheCellOf_42, e_X0_hasTheCellOf_45, e_X0_hasTheCellOf_46, e_X0_hasTheCellOf_49, e_X0_hasTheCellOf_50, e_X0_hasTheCellOf_51, e_X0_hasTheCellOf_52, e_X0_hasTheCellOf_55, e_X0_hasTheCellOf_56, e_X0_hasTheCellOf_57, e_X0_hasTheCellOf_58, e_X0_hasTheCellOf_61, e_X0_hasTheCellOf_62, e_X0_hasTheCellOf_65, e_X0_hasTheCellOf_66, Option.bind_some, Option.bind_none, Option.toList_some, Option.toList_none, List.cons_append, List.nil_append, I_z, I_i8, I_q8, I_i7, I_q7, I_i6, I_q6, I_i5, I_q5, I_i4, I_q4, I_i3, I_q3, I_i2, I_q2, I_i1, I_q1, I_w8, I_w7, I_w6, I_w5, I_w4, I_w3, I_w2, I_c2n, I_c2i, I_c2q, eq_self, or_true, true_or, and_true, true_and, if_true, if_false, not_false_eq_true, not_true_eq_false, Option.map_none, Option.map_some, reduceCtorEq, gR_0, gR_1, hr, hr2, hk2, lRw, hj, hj2, hb, hb2, n3]
    · rw [b01_f (show ¬ sameC S r r2 j from fun q => by unfold sameC at q; rw [if_neg hk2] at q; exact n3 q)]
      simp only [e_X0_hasTheCellOf_0, e_X0_hasTheCellOf_1, e_X0_hasTheCellOf_4, e_X0_hasTheCellOf_5, e_X0_hasTheCellOf_8, e_X0_hasTheCellOf_9, e_X0_hasTheCellOf_12, e_X0_hasTheCellOf_13, e_X0_hasTheCellOf_14, e_X0_hasTheCellOf_15, e_X0_hasTheCellOf_18, e_X0_hasTheCellOf_19, e_X0_hasTheCellOf_20, e_X0_hasTheCellOf_23, e_X0_hasTheCellOf_24, e_X0_hasTheCellOf_27, e_X0_hasTheCellOf_28, e_X0_hasTheCellOf_29, e_X0_hasTheCellOf_30, e_X0_hasTheCellOf_31, e_X0_hasTheCellOf_34, e_X0_hasTheCellOf_37, e_X0_hasTheCellOf_38, e_X0_hasTheCellOf_39, e_X0_hasTheCellOf_42, e_X0_hasTheCellOf_45, e_X0_hasTheCellOf_46, e_X0_hasTheCellOf_49, e_X0_hasTheCellOf_50, e_X0_hasTheCellOf_51, e_X0_hasTheCellOf_52, e_X0_hasTheCellOf_55, e_X0_hasTheCellOf_56, e_X0_hasTheCellOf_57, e_X0_hasTheCellOf_58, e_X0_hasTheCellOf_61, e_X0_hasTheCellOf_62, e_X0_hasTheCellOf_65, e_X0_hasTheCellOf_66, Option.bind_some, Option.bind_none, Option.toList_some, Option.toList_none, List.cons_append, List.nil_append, I_z, I_i8, I_q8, I_i7, I_q7, I_i6, I_q6, I_i5, I_q5, I_i4, I_q4, I_i3, I_q3, I_i2, I_q2, I_i1, I_q1, I_w8, I_w7, I_w6, I_w5, I_w4, I_w3, I_w2, I_c2n, I_c2i, I_c2q, eq_self, or_true, true_or, and_true, true_and, if_true, if_false, not_false_eq_true, not_true_eq_false, Option.map_none, Option.map_some, reduceCtorEq, gR_0, gR_1, hr, hr2, hk2, lRw, hj, hj2, hb, hb2, n3]
theorem k_cellsOf_loop (hS : WB S) (hr : r < S.2.1 0 1) (hr2 : r2 < S.2.1 0 1) (hk : S.1 5 r = S.1 5 r2) (hl : S.2.1 2 r = S.2.1 2 r2) : ∀ m j, j + m = S.2.1 2 r → ev X (d + 2) m_X0_hasTheCellsOf 15 [some (va_rf (some (aR X r))), some (va_rf (some (aR X r2))), some (.int (nI j))] [] (rp X S) = some (some (.int (b01 (∀ k, j ≤ k → k < S.2.1 2 r → sameC S r r2 k))), rp X S) := by
  have h16 := (hS.2.2.2 r hr).1
  have e10 : ¬ (1 : Int32) = 0 := by decide
  intro m
  induction m with
  | zero =>
    intro j hj
    have h1 : nI (S.2.1 2 r) ≤ nI j := nI_le (by omega) (by omega)
    have hj2 : j = S.2.1 2 r := by omega
    rw [b01_t (show ∀ k, j ≤ k → k < S.2.1 2 r → sameC S r r2 k from fun k a b => by omega)]
    simp only [e_X0_hasTheCellsOf_0, e_X0_hasTheCellsOf_1, e_X0_hasTheCellsOf_4, e_X0_hasTheCellsOf_5, e_X0_hasTheCellsOf_8, e_X0_hasTheCellsOf_11, e_X0_hasTheCellsOf_12, e_X0_hasTheCellsOf_13, e_X0_hasTheCellsOf_14, e_X0_hasTheCellsOf_15, e_X0_hasTheCellsOf_16, e_X0_hasTheCellsOf_17, e_X0_hasTheCellsOf_20, e_X0_hasTheCellsOf_23, e_X0_hasTheCellsOf_24, e_X0_hasTheCellsOf_25, e_X0_hasTheCellsOf_26, e_X0_hasTheCellsOf_29, e_X0_hasTheCellsOf_32, e_X0_hasTheCellsOf_33, e_X0_hasTheCellsOf_34, e_X0_hasTheCellsOf_37, e_X0_hasTheCellsOf_40, e_X0_hasTheCellsOf_41, Option.bind_some, Option.bind_none, Option.toList_some, Option.toList_none, List.cons_append, List.nil_append, I_z, I_i8, I_q8, I_i7, I_q7, I_i6, I_q6, I_i5, I_q5, I_i4, I_q4, I_i3, I_q3, I_i2, I_q2, I_i1, I_q1, I_w8, I_w7, I_w6, I_w5, I_w4, I_w3, I_w2, I_c2n, I_c2i, I_c2q, eq_self, or_true, true_or, and_true, true_and, if_true, if_false, not_false_eq_true, not_true_eq_false, Option.map_none, Option.map_some, reduceCtorEq, isR, hr, k_length hr, h1]
  | succ m ih =>
    intro j hj
    have h1 : ¬ nI (S.2.1 2 r) ≤ nI j := nI_ge (by omega) (by omega)
    have hj1 : j < S.2.1 2 r := by omega
    have hj2 : j < S.2.1 2 r2 := by omega
    have ih1 := ih (j + 1) (by omega)
    by_cases hc : sameC S r r2 j
    · rw [b01_s hj1 hc]
      simp only [e_X0_hasTheCellsOf_0, e_X0_hasTheCellsOf_1, e_X0_hasTheCellsOf_4, e_X0_hasTheCellsOf_5, e_X0_hasTheCellsOf_8, e_X0_hasTheCellsOf_11, e_X0_hasTheCellsOf_12, e_X0_hasTheCellsOf_13, e_X0_hasTheCellsOf_14, e_X0_hasTheCellsOf_15, e_X0_hasTheCellsOf_16, e_X0_hasTheCellsOf_17, e_X0_hasTheCellsOf_20, e_X0_hasTheCellsOf_23, e_X0_hasTheCellsOf_24, e_X0_hasTheCellsOf_25, e_X0_hasTheCellsOf_26, e_X0_hasTheCellsOf_29, e_X0_hasTheCellsOf_32, e_X0_hasTheCellsOf_33, e_X0_hasTheCellsOf_34, e_X0_hasTheCellsOf_37, e_X0_hasTheCellsOf_40, e_X0_hasTheCellsOf_41, Option.bind_some, Option.bind_none, Option.toList_some, Option.toList_none, List.cons_append, List.nil_append, I_z, I_i8, I_q8, I_i7, I_q7, I_i6, I_q6, I_i5, I_q5, I_i4, I_q4, I_i3, I_q3, I_i2, I_q2, I_i1, I_q1, I_w8, I_w7, I_w6, I_w5, I_w4, I_w3, I_w2, I_c2n, I_c2i, I_c2q, eq_self, or_true, true_or, and_true, true_and, if_true, if_false, not_false_eq_true, not_true_eq_false, Option.map_none, Option.map_some, reduceCtorEq, isR, hr, k_length hr, h1, k_cellOf hS hr hr2 hk hj1 hj2, b01_t hc, e10, nI_1, ih1]
    · rw [b01_n hj1 hc]
      simp only [e_X0_hasTheCellsOf_0, e_X0_hasTheCellsOf_1, e_X0_hasTheCellsOf_4, e_X0_hasTheCellsOf_5, e_X0_hasTheCellsOf_8, e_X0_hasTheCellsOf_11, e_X0_hasTheCellsOf_12, e_X0_hasTheCellsOf_13, e_X0_hasTheCellsOf_14, e_X0_hasTheCellsOf_15, e_X0_hasTheCellsOf_16, e_X0_hasTheCellsOf_17, e_X0_hasTheCellsOf_20, e_X0_hasTheCellsOf_23, e_X0_hasTheCellsOf_24, e_X0_hasTheCellsOf_25, e_X0_hasTheCellsOf_26, e_X0_hasTheCellsOf_29, e_X0_hasTheCellsOf_32, e_X0_hasTheCellsOf_33, e_X0_hasTheCellsOf_34, e_X0_hasTheCellsOf_37, e_X0_hasTheCellsOf_40, e_X0_hasTheCellsOf_41, Option.bind_some, Option.bind_none, Option.toList_some, Option.toList_none, List.cons_append, List.nil_append, I_z, I_i8, I_q8, I_i7, I_q7, I_i6, I_q6, I_i5, I_q5, I_i4, I_q4, I_i3, I_q3, I_i2, I_q2, I_i1, I_q1, I_w8, I_w7, I_w6, I_w5, I_w4, I_w3, I_w2, I_c2n, I_c2i, I_c2q, eq_self, or_true, true_or, and_true, true_and, if_true, if_false, not_false_eq_true, not_true_eq_false, Option.map_none, Option.map_some, reduceCtorEq, isR, hr, k_length hr, h1, k_cellOf hS hr hr2 hk hj1 hj2, b01_f hc]
/-- two rows have the same cells -/
def sameR (S : St) (r r2 : Nat) : Prop := S.2.1 2 r = S.2.1 2 r2 ∧ ∀ k, 0 ≤ k → k < S.2.1 2 r → sameC S r r2 k
theorem k_cellsOf (hS : WB S) (hr : r < S.2.1 0 1) (hr2 : r2 < S.2.1 0 1) (hk : S.1 5 r = S.1 5 r2) : ev X (d + 2) m_X0_hasTheCellsOf 0 [some (va_rf (some (aR X r))), some (va_rf (some (aR X r2))), none] [] (rp X S) = some (some (.int (b01 (sameR S r r2))), rp X S) := by
  have h16 := (hS.2.2.2 r hr).1
  have h162 := (hS.2.2.2 r2 hr2).1
  by_cases hl : S.2.1 2 r = S.2.1 2 r2
  · have h := k_cellsOf_loop (X := X) (d := d) hS hr hr2 hk hl (S.2.1 2 r) 0 (by omega)
    rw [nI_0] at h
    have hll : nI (S.2.1 2 r) = nI (S.2.1 2 r2) := by rw [hl]
    rw [b01_c (show sameR S r r2 ↔ ∀ k, 0 ≤ k → k < S.2.1 2 r → sameC S r r2 k from ⟨fun q => q.2, fun q => ⟨hl, q⟩⟩)]
    simp only [e_X0_hasTheCellsOf_0, e_X0_hasTheCellsOf_1, e_X0_hasTheCellsOf_4, e_X0_hasTheCellsOf_5, e_X0_hasTheCellsOf_8, e_X0_hasTheCellsOf_11, e_X0_hasTheCellsOf_12, e_X0_hasTheCellsOf_13, e_X0_hasTheCellsOf_14, Option.bind_some, Option.bind_none, Option.toList_some, Option.toList_none, List.cons_append, List.nil_append, I_z, I_i8, I_q8, I_i7, I_q7, I_i6, I_q6, I_i5, I_q5, I_i4, I_q4, I_i3, I_q3, I_i2, I_q2, I_i1, I_q1, I_w8, I_w7, I_w6, I_w5, I_w4, I_w3, I_w2, I_c2n, I_c2i, I_c2q, eq_self, or_true, true_or, and_true, true_and, if_true, if_false, not_false_eq_true, not_true_eq_false, Option.map_none, Option.map_some, reduceCtorEq, isR, hr, hr2, k_length hr, k_length hr2, hll, h]
  · have hl2 : ¬ nI (S.2.1 2 r) = nI (S.2.1 2 r2) := fun q => hl ((nI_eq (by omega) (by omega)).mp q)
    rw [b01_f (show ¬ sameR S r r2 from fun q => hl q.1)]
    simp only [e_X0_hasTheCellsOf_0, e_X0_hasTheCellsOf_1, e_X0_hasTheCellsOf_4, e_X0_hasTheCellsOf_5, e_X0_hasTheCellsOf_8, e_X0_hasTheCellsOf_11, e_X0_hasTheCellsOf_12, e_X0_hasTheCellsOf_13, e_X0_hasTheCellsOf_14, Option.bind_some, Option.bind_none, Option.toList_some, Option.toList_none, List.cons_append, List.nil_append, I_z, I_i8, I_q8, I_i7, I_q7, I_i6, I_q6, I_i5, I_q5, I_i4, I_q4, I_i3, I_q3, I_i2, I_q2, I_i1, I_q1, I_w8, I_w7, I_w6, I_w5, I_w4, I_w3, I_w2, I_c2n, I_c2i, I_c2q, eq_self, or_true, true_or, and_true, true_and, if_true, if_false, not_false_eq_true, not_true_eq_false, Option.map_none, Option.map_some, reduceCtorEq, isR, hr, hr2, k_length hr, k_length hr2, hl2]
end RW0
