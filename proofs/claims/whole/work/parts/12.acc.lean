section AC0
variable {st : List Value} {a : Int32} {w : UInt64} {r : Option Nat}
theorem I_z {n : Nat} : (I_cat [] ≤ n) = True := by simp [I_cat]
theorem I_i1 : (I_cat (.int a :: st) ≤ 1) = (I_cat st ≤ 0) := by rw [I_cat_i]; exact propext ⟨fun h => by omega, fun h => by omega⟩
theorem I_q1 : (I_cat (va_rf r :: st) ≤ 1) = (I_cat st ≤ 0) := by rw [I_cat_q]; exact propext ⟨fun h => by omega, fun h => by omega⟩
theorem I_i2 : (I_cat (.int a :: st) ≤ 2) = (I_cat st ≤ 1) := by rw [I_cat_i]; exact propext ⟨fun h => by omega, fun h => by omega⟩
theorem I_q2 : (I_cat (va_rf r :: st) ≤ 2) = (I_cat st ≤ 1) := by rw [I_cat_q]; exact propext ⟨fun h => by omega, fun h => by omega⟩
theorem I_w2 : (I_cat (.double w :: st) ≤ 2) = (I_cat st ≤ 0) := by rw [I_cat_d]; exact propext ⟨fun h => by omega, fun h => by omega⟩
theorem I_i3 : (I_cat (.int a :: st) ≤ 3) = (I_cat st ≤ 2) := by rw [I_cat_i]; exact propext ⟨fun h => by omega, fun h => by omega⟩
theorem I_q3 : (I_cat (va_rf r :: st) ≤ 3) = (I_cat st ≤ 2) := by rw [I_cat_q]; exact propext ⟨fun h => by omega, fun h => by omega⟩
theorem I_w3 : (I_cat (.double w :: st) ≤ 3) = (I_cat st ≤ 1) := by rw [I_cat_d]; exact propext ⟨fun h => by omega, fun h => by omega⟩
theorem I_i4 : (I_cat (.int a :: st) ≤ 4) = (I_cat st ≤ 3) := by rw [I_cat_i]; exact propext ⟨fun h => by omega, fun h => by omega⟩
theorem I_q4 : (I_cat (va_rf r :: st) ≤ 4) = (I_cat st ≤ 3) := by rw [I_cat_q]; exact propext ⟨fun h => by omega, fun h => by omega⟩
theorem I_w4 : (I_cat (.double w :: st) ≤ 4) = (I_cat st ≤ 2) := by rw [I_cat_d]; exact propext ⟨fun h => by omega, fun h => by omega⟩
theorem I_i5 : (I_cat (.int a :: st) ≤ 5) = (I_cat st ≤ 4) := by rw [I_cat_i]; exact propext ⟨fun h => by omega, fun h => by omega⟩
theorem I_q5 : (I_cat (va_rf r :: st) ≤ 5) = (I_cat st ≤ 4) := by rw [I_cat_q]; exact propext ⟨fun h => by omega, fun h => by omega⟩
theorem I_w5 : (I_cat (.double w :: st) ≤ 5) = (I_cat st ≤ 3) := by rw [I_cat_d]; exact propext ⟨fun h => by omega, fun h => by omega⟩
theorem I_i6 : (I_cat (.int a :: st) ≤ 6) = (I_cat st ≤ 5) := by rw [I_cat_i]; exact propext ⟨fun h => by omega, fun h => by omega⟩
theorem I_q6 : (I_cat (va_rf r :: st) ≤ 6) = (I_cat st ≤ 5) := by rw [I_cat_q]; exact propext ⟨fun h => by omega, fun h => by omega⟩
theorem I_w6 : (I_cat (.double w :: st) ≤ 6) = (I_cat st ≤ 4) := by rw [I_cat_d]; exact propext ⟨fun h => by omega, fun h => by omega⟩
theorem I_i7 : (I_cat (.int a :: st) ≤ 7) = (I_cat st ≤ 6) := by rw [I_cat_i]; exact propext ⟨fun h => by omega, fun h => by omega⟩
theorem I_q7 : (I_cat (va_rf r :: st) ≤ 7) = (I_cat st ≤ 6) := by rw [I_cat_q]; exact propext ⟨fun h => by omega, fun h => by omega⟩
theorem I_w7 : (I_cat (.double w :: st) ≤ 7) = (I_cat st ≤ 5) := by rw [I_cat_d]; exact propext ⟨fun h => by omega, fun h => by omega⟩
theorem I_i8 : (I_cat (.int a :: st) ≤ 8) = (I_cat st ≤ 7) := by rw [I_cat_i]; exact propext ⟨fun h => by omega, fun h => by omega⟩
theorem I_q8 : (I_cat (va_rf r :: st) ≤ 8) = (I_cat st ≤ 7) := by rw [I_cat_q]; exact propext ⟨fun h => by omega, fun h => by omega⟩
theorem I_w8 : (I_cat (.double w :: st) ≤ 8) = (I_cat st ≤ 6) := by rw [I_cat_d]; exact propext ⟨fun h => by omega, fun h => by omega⟩
theorem I_c2i : (I_c2 (some (.int a)) = false) = True := by simp only [I_c2]
theorem I_c2n : (I_c2 none = false) = True := by simp only [I_c2]
theorem I_c2q : (I_c2 (some (va_rf r)) = false) = True := by rw [I_c2_q]; simp only
end AC0
/-! The typed state: what the machine's writes do to it. -/
section AC1
variable {X : I_X} {S : St} {t r r0 k i n : Nat} {v : Int32} {w : UInt64}
theorem pO_1 : I_putf X (rp X S) (aO X) 2 1 (.int (nI n)) = some (rp X (sN S 0 (va_up (S.2.1 0) 0 n))) := by
  unfold I_putf; rw [rc_O]; simp only [fO]
  refine congrArg some ?_
  exact w_O0 (f := va_up (S.2.1 0) 0 n) rfl rfl
theorem pO_2 : I_putf X (rp X S) (aO X) 2 2 (.int v) = some (rp X (sI S 0 (upd (S.1 0) 2 v))) := by
  unfold I_putf; rw [rc_O]; exact congrArg some (w_OI (f := upd (S.1 0) 2 v))
theorem pO_4 : I_putf X (rp X S) (aO X) 2 4 (.int v) = some (rp X (sI S 0 (upd (S.1 0) 4 v))) := by
  unfold I_putf; rw [rc_O]; exact congrArg some (w_OI (f := upd (S.1 0) 4 v))
theorem pO_6 : I_putf X (rp X S) (aO X) 2 6 (.int v) = some (rp X (sI S 0 (upd (S.1 0) 6 v))) := by
  unfold I_putf; rw [rc_O]; exact congrArg some (w_OI (f := upd (S.1 0) 6 v))
theorem pO_7 : I_putf X (rp X S) (aO X) 2 7 (.int v) = some (rp X (sI S 0 (upd (S.1 0) 7 v))) := by
  unfold I_putf; rw [rc_O]; exact congrArg some (w_OI (f := upd (S.1 0) 7 v))
theorem pO_9 : I_putf X (rp X S) (aO X) 2 9 (.int v) = some (rp X (sI S 0 (upd (S.1 0) 9 v))) := by
  unfold I_putf; rw [rc_O]; exact congrArg some (w_OI (f := upd (S.1 0) 9 v))
theorem pT_1 (h : t < 16) : I_putf X (rp X S) (aT X t) 1 1 (.int v) = some (rp X (sI S 1 (upd (S.1 1) t v))) := by
  unfold I_putf; rw [rc_T h]; exact congrArg some (w_Tk h)
theorem pT_2 (h : t < 16) : I_putf X (rp X S) (aT X t) 1 2 (.int (nI n)) = some (rp X (sN S 1 (va_up (S.2.1 1) t n))) := by
  unfold I_putf; rw [rc_T h]; exact congrArg some (w_Th h)
theorem pM_0 : I_putf X (rp X S) (aM X) 3 0 (.int v) = some (rp X (sI S 20 (upd (S.1 20) 0 v))) := by
  unfold I_putf; rw [rc_M]; exact congrArg some (w_MI (f := upd (S.1 20) 0 v))
theorem pM_4 : I_putf X (rp X S) (aM X) 3 4 (.int v) = some (rp X (sI S 20 (upd (S.1 20) 4 v))) := by
  unfold I_putf; rw [rc_M]; exact congrArg some (w_MI (f := upd (S.1 20) 4 v))
theorem pM_8 : I_putf X (rp X S) (aM X) 3 8 (.int v) = some (rp X (sI S 20 (upd (S.1 20) 8 v))) := by
  unfold I_putf; rw [rc_M]; exact congrArg some (w_MI (f := upd (S.1 20) 8 v))
theorem pM_10 : I_putf X (rp X S) (aM X) 3 10 (.int v) = some (rp X (sI S 20 (upd (S.1 20) 10 v))) := by
  unfold I_putf; rw [rc_M]; exact congrArg some (w_MI (f := upd (S.1 20) 10 v))
theorem pM_12 : I_putf X (rp X S) (aM X) 3 12 (.int v) = some (rp X (sI S 20 (upd (S.1 20) 12 v))) := by
  unfold I_putf; rw [rc_M]; exact congrArg some (w_MI (f := upd (S.1 20) 12 v))
theorem pM_18 : I_putf X (rp X S) (aM X) 3 18 (.int v) = some (rp X (sI S 20 (upd (S.1 20) 18 v))) := by
  unfold I_putf; rw [rc_M]; exact congrArg some (w_MI (f := upd (S.1 20) 18 v))
theorem pM_19 : I_putf X (rp X S) (aM X) 3 19 (.int v) = some (rp X (sI S 20 (upd (S.1 20) 19 v))) := by
  unfold I_putf; rw [rc_M]; exact congrArg some (w_MI (f := upd (S.1 20) 19 v))
theorem pM_20 : I_putf X (rp X S) (aM X) 3 20 (.int v) = some (rp X (sI S 20 (upd (S.1 20) 20 v))) := by
  unfold I_putf; rw [rc_M]; exact congrArg some (w_MI (f := upd (S.1 20) 20 v))
theorem pR_3 (h : r < S.2.1 0 1) : I_putf X (rp X S) (aR X r) 0 3 (.int v) = some (rp X (sI S 6 (upd (S.1 6) r v))) := by
  unfold I_putf; rw [rc_R h]; exact congrArg some w_Rc
theorem uWd (h : i < 6) : I_asti X (rp X S) 0 (aWd X) (nI i) v = some (rp X (sI S 2 (upd (S.1 2) i v))) := by
  unfold I_asti; rw [arr_of rc_Wd]; simp only [I_in_nI h (by omega), nI_clamp (show i < 2 ^ 31 by omega), and_self, if_true]; exact congrArg some w_Wd
theorem uOp (h : i < 16) : I_asti X (rp X S) 2 (aOp X) (nI i) v = some (rp X (sI S 3 (upd (S.1 3) i v))) := by
  unfold I_asti; rw [arr_of rc_Op]; simp only [I_in_nI h (by omega), nI_clamp (show i < 2 ^ 31 by omega), and_self, if_true]; exact congrArg some w_Op
theorem uDp (h : i < 16) : I_asti X (rp X S) 0 (aDp X) (nI i) v = some (rp X (sI S 4 (upd (S.1 4) i v))) := by
  unfold I_asti; rw [arr_of rc_Dp]; simp only [I_in_nI h (by omega), nI_clamp (show i < 2 ^ 31 by omega), and_self, if_true]; exact congrArg some w_Dp
theorem uA (hk : k < 13) (h5 : k ≠ 5) (h : i < lnA k) : I_asti X (rp X S) 0 (aA X k) (nI i) v = some (rp X (sI S (40 + k) (upd (S.1 (40 + k)) i v))) := by
  have := lnA_le k
  unfold I_asti; rw [arr_of (rc_A hk h5)]; simp only [I_in_nI h (by omega), nI_clamp (show i < 2 ^ 31 by omega), and_self, if_true]; exact congrArg some (w_A hk h5)
theorem uA5 (h : i < 14400) : I_astd X (rp X S) (aA X 5) (nI i) w = some (rp X (sF S 0 (vf_upd (S.2.2.2 0) i w))) := by
  unfold I_astd; rw [arr_of rc_A5]; simp only [I_in_nI h (by omega), nI_clamp (show i < 2 ^ 31 by omega), and_self, if_true]; exact congrArg some w_A5
theorem uRw (hr : r < S.2.1 0 1) (h : i < S.2.1 2 r) (hb : S.2.1 2 r < 2 ^ 31) : I_asti X (rp X S) 0 (aRw X r) (nI i) v = some (rp X (sI S (100 + r) (upd (S.1 (100 + r)) i v))) := by
  unfold I_asti; rw [arr_of (rc_Rw hr)]; simp only [I_in_nI h hb, nI_clamp (show i < 2 ^ 31 by omega), and_self, if_true]; exact congrArg some w_Rw
theorem uRd (hr : r < S.2.1 0 1) (h : i < S.2.1 3 r) (hb : S.2.1 3 r < 2 ^ 31) : I_astd X (rp X S) (aRd X r) (nI i) w = some (rp X (sF S (1 + r) (vf_upd (S.2.2.2 (1 + r)) i w))) := by
  unfold I_astd; rw [arr_of (rc_Rd hr)]; simp only [I_in_nI h hb, nI_clamp (show i < 2 ^ 31 by omega), and_self, if_true]; exact congrArg some w_Rd
theorem uTr0 (ht : t < 16) (h : i < 12) : I_astq X (rp X S) (aTr X t) (nI i) none = some (rp X (sP S t (va_up (S.2.2.1 t) i none))) := by
  unfold I_astq; rw [arr_of (rc_Tr ht)]
  simp only [I_in_nI h (by omega), nI_clamp (show i < 2 ^ 31 by omega), and_self, and_true, or_true, if_true]
  refine congrArg some ?_
  rw [← w_Tr ht]
  congr 8
  funext j
  unfold va_up
  by_cases hj : j = i <;> simp [hj]
theorem uTr1 (ht : t < 16) (h : i < 12) (hr : r < S.2.1 0 1) : I_astq X (rp X S) (aTr X t) (nI i) (some (aR X r)) = some (rp X (sP S t (va_up (S.2.2.1 t) i (some r)))) := by
  unfold I_astq; rw [arr_of (rc_Tr ht)]
  simp only [I_in_nI h (by omega), nI_clamp (show i < 2 ^ 31 by omega), isR hr, and_self, and_true, or_true, if_true]
  refine congrArg some ?_
  rw [← w_Tr ht]
  congr 8
  funext j
  unfold va_up
  by_cases hj : j = i <;> simp [hj]
theorem cRw {a b : Nat} (hr : r < S.2.1 0 1) (hr0 : r0 < S.2.1 0 1) (h1 : a + n ≤ S.2.1 2 r0) (h2 : b + n ≤ S.2.1 2 r) (hb : S.2.1 2 r < 2 ^ 31) (hb0 : S.2.1 2 r0 < 2 ^ 31) : I_copy X (rp X S) (aRw X r0) (nI a) (aRw X r) (nI b) (nI n) = some (rp X (sI S (100 + r) (va_cpy (S.1 (100 + r0)) (S.1 (100 + r)) a b n))) := by
  unfold I_copy; rw [arr_of (rc_Rw hr), arr_of (rc_Rw hr0)]
  have ea := nI_clamp (n := a) (by omega)
  have eb := nI_clamp (n := b) (by omega)
  have en := nI_clamp (n := n) (by omega)
  simp only [ea, eb, en, nI_pos (n := a) (by omega), nI_pos (n := b) (by omega), nI_pos (n := n) (by omega), h1, h2, not_false_eq_true, and_self, if_true]
  exact congrArg some w_Rw
theorem cRd {a b : Nat} (hr : r < S.2.1 0 1) (hr0 : r0 < S.2.1 0 1) (h1 : a + n ≤ S.2.1 3 r0) (h2 : b + n ≤ S.2.1 3 r) (hb : S.2.1 3 r < 2 ^ 31) (hb0 : S.2.1 3 r0 < 2 ^ 31) : I_copy X (rp X S) (aRd X r0) (nI a) (aRd X r) (nI b) (nI n) = some (rp X (sF S (1 + r) (va_cpy (S.2.2.2 (1 + r0)) (S.2.2.2 (1 + r)) a b n))) := by
  unfold I_copy; rw [arr_of (rc_Rd hr), arr_of (rc_Rd hr0)]
  have ea := nI_clamp (n := a) (by omega)
  have eb := nI_clamp (n := b) (by omega)
  have en := nI_clamp (n := n) (by omega)
  simp only [ea, eb, en, nI_pos (n := a) (by omega), nI_pos (n := b) (by omega), nI_pos (n := n) (by omega), h1, h2, not_false_eq_true, and_self, if_true]
  exact congrArg some w_Rd
end AC1
section AC2
variable {X : I_X} {S : St} {d t r j : Nat} {a b v : Int32}
/-- a table that there is not -/
def unk (S : St) (a : Int32) : Prop := a < 0 ∨ ¬ a < nI (S.2.1 0 0)
theorem unk_or (h : S.2.1 0 0 ≤ 16) (a : Int32) : unk S a ∨ ∃ t, t < S.2.1 0 0 ∧ a = nI t := by
  by_cases h1 : a < 0
  · exact Or.inl (Or.inl h1)
  · by_cases h2 : a < nI (S.2.1 0 0)
    · obtain ⟨j, hj, rfl⟩ := nI_of h1
      exact Or.inr ⟨j, (nI_ltI hj (by omega)).mp h2, rfl⟩
    · exact Or.inl (Or.inr h2)
theorem k_isUnknown1 (h : unk S a) : ev X d m_X2_isUnknown 0 [some (va_rf (some (aO X))), some (.int a)] [] (rp X S) = some (some (.int 1), rp X S) := by
  by_cases h1 : a < 0
  · simp only [e_X2_isUnknown_0, e_X2_isUnknown_1, e_X2_isUnknown_4, e_X2_isUnknown_5, e_X2_isUnknown_6, e_X2_isUnknown_9, e_X2_isUnknown_12, e_X2_isUnknown_13, e_X2_isUnknown_16, e_X2_isUnknown_17, Option.bind_some, Option.bind_none, Option.toList_some, Option.toList_none, List.cons_append, List.nil_append, I_z, I_i8, I_q8, I_i7, I_q7, I_i6, I_q6, I_i5, I_q5, I_i4, I_q4, I_i3, I_q3, I_i2, I_q2, I_i1, I_q1, I_w8, I_w7, I_w6, I_w5, I_w4, I_w3, I_w2, I_c2n, I_c2i, I_c2q, eq_self, or_true, true_or, and_true, true_and, if_true, if_false, not_false_eq_true, not_true_eq_false, Option.map_none, Option.map_some, reduceCtorEq, gO_1, h1]
  · have h2 : ¬ a < nI (S.2.1 0 0) := h.resolve_left h1
    simp only [e_X2_isUnknown_0, e_X2_isUnknown_1, e_X2_isUnknown_4, e_X2_isUnknown_5, e_X2_isUnknown_6, e_X2_isUnknown_9, e_X2_isUnknown_12, e_X2_isUnknown_13, e_X2_isUnknown_16, e_X2_isUnknown_17, Option.bind_some, Option.bind_none, Option.toList_some, Option.toList_none, List.cons_append, List.nil_append, I_z, I_i8, I_q8, I_i7, I_q7, I_i6, I_q6, I_i5, I_q5, I_i4, I_q4, I_i3, I_q3, I_i2, I_q2, I_i1, I_q1, I_w8, I_w7, I_w6, I_w5, I_w4, I_w3, I_w2, I_c2n, I_c2i, I_c2q, eq_self, or_true, true_or, and_true, true_and, if_true, if_false, not_false_eq_true, not_true_eq_false, Option.map_none, Option.map_some, reduceCtorEq, gO_1, h1, h2]
theorem k_isUnknown0 (h : t < S.2.1 0 0) (h16 : S.2.1 0 0 ≤ 16) : ev X d m_X2_isUnknown 0 [some (va_rf (some (aO X))), some (.int (nI t))] [] (rp X S) = some (some (.int 0), rp X S) := by
  have h1 : ¬ nI t < 0 := nI_pos (by omega)
  have h2 : nI t < nI (S.2.1 0 0) := nI_lt h (by omega)
  simp only [e_X2_isUnknown_0, e_X2_isUnknown_1, e_X2_isUnknown_4, e_X2_isUnknown_5, e_X2_isUnknown_6, e_X2_isUnknown_9, e_X2_isUnknown_12, e_X2_isUnknown_13, e_X2_isUnknown_16, e_X2_isUnknown_17, Option.bind_some, Option.bind_none, Option.toList_some, Option.toList_none, List.cons_append, List.nil_append, I_z, I_i8, I_q8, I_i7, I_q7, I_i6, I_q6, I_i5, I_q5, I_i4, I_q4, I_i3, I_q3, I_i2, I_q2, I_i1, I_q1, I_w8, I_w7, I_w6, I_w5, I_w4, I_w3, I_w2, I_c2n, I_c2i, I_c2q, eq_self, or_true, true_or, and_true, true_and, if_true, if_false, not_false_eq_true, not_true_eq_false, Option.map_none, Option.map_some, reduceCtorEq, gO_1, h1, h2]
theorem k_isFull (h16 : S.2.1 0 0 ≤ 16) : ev X d m_X2_isFull 0 [some (va_rf (some (aO X)))] [] (rp X S) = some (some (.int (if S.2.1 0 0 = 16 then 1 else 0)), rp X S) := by
  by_cases h : S.2.1 0 0 = 16
  · have h2 : ¬ nI (S.2.1 0 0) < 16 := by rw [h]; decide
    have h3 : (16 : Int32) ≤ nI (S.2.1 0 0) := by rw [h]; decide
    simp only [e_X2_isFull_0, e_X2_isFull_1, e_X2_isFull_4, e_X2_isFull_6, e_X2_isFull_9, e_X2_isFull_10, e_X2_isFull_13, e_X2_isFull_14, Option.bind_some, Option.bind_none, Option.toList_some, Option.toList_none, List.cons_append, List.nil_append, I_z, I_i8, I_q8, I_i7, I_q7, I_i6, I_q6, I_i5, I_q5, I_i4, I_q4, I_i3, I_q3, I_i2, I_q2, I_i1, I_q1, I_w8, I_w7, I_w6, I_w5, I_w4, I_w3, I_w2, I_c2n, I_c2i, I_c2q, eq_self, or_true, true_or, and_true, true_and, if_true, if_false, not_false_eq_true, not_true_eq_false, Option.map_none, Option.map_some, reduceCtorEq, gO_1, h2, h3, if_pos h]
  · have h2 : nI (S.2.1 0 0) < 16 := nI_lt (b := 16) (by omega) (by decide)
    have h3 : ¬ (16 : Int32) ≤ nI (S.2.1 0 0) := nI_ge (b := 16) (by omega) (by decide)
    simp only [e_X2_isFull_0, e_X2_isFull_1, e_X2_isFull_4, e_X2_isFull_6, e_X2_isFull_9, e_X2_isFull_10, e_X2_isFull_13, e_X2_isFull_14, Option.bind_some, Option.bind_none, Option.toList_some, Option.toList_none, List.cons_append, List.nil_append, I_z, I_i8, I_q8, I_i7, I_q7, I_i6, I_q6, I_i5, I_q5, I_i4, I_q4, I_i3, I_q3, I_i2, I_q2, I_i1, I_q1, I_w8, I_w7, I_w6, I_w5, I_w4, I_w3, I_w2, I_c2n, I_c2i, I_c2q, eq_self, or_true, true_or, and_true, true_and, if_true, if_false, not_false_eq_true, not_true_eq_false, Option.map_none, Option.map_some, reduceCtorEq, gO_1, h2, h3, h]
def sFail (S : St) : St := sI S 0 (upd (S.1 0) 2 (S.1 0 2 + 1))
theorem k_failed : ev X d m_X2_failed 0 [some (va_rf (some (aO X))), some (.int a)] [] (rp X S) = some (some (.int (-1000010 - a)), rp X (sFail S)) := by
  simp only [e_X2_failed_0, e_X2_failed_1, e_X2_failed_1i, e_X2_failed_2, e_X2_failed_5, e_X2_failed_6, e_X2_failed_7, e_X2_failed_10, e_X2_failed_12, e_X2_failed_13, e_X2_failed_14, Option.bind_some, Option.bind_none, Option.toList_some, Option.toList_none, List.cons_append, List.nil_append, I_z, I_i8, I_q8, I_i7, I_q7, I_i6, I_q6, I_i5, I_q5, I_i4, I_q4, I_i3, I_q3, I_i2, I_q2, I_i1, I_q1, I_w8, I_w7, I_w6, I_w5, I_w4, I_w3, I_w2, I_c2n, I_c2i, I_c2q, eq_self, or_true, true_or, and_true, true_and, if_true, if_false, not_false_eq_true, not_true_eq_false, Option.map_none, Option.map_some, reduceCtorEq, gO_2, pO_2]
  rfl
/-- a place that there is not -/
def unp (S : St) (t : Nat) (a : Int32) : Prop := a < 0 ∨ ¬ a < nI (S.2.1 1 t)
theorem unp_or (h : S.2.1 1 t ≤ 12) (a : Int32) : unp S t a ∨ ∃ i, i < S.2.1 1 t ∧ a = nI i := by
  by_cases h1 : a < 0
  · exact Or.inl (Or.inl h1)
  · by_cases h2 : a < nI (S.2.1 1 t)
    · obtain ⟨j, hj, rfl⟩ := nI_of h1
      exact Or.inr ⟨j, (nI_ltI hj (by omega)).mp h2, rfl⟩
    · exact Or.inl (Or.inr h2)
theorem i_nle {a b : Int32} (h : a < b) : ¬ b ≤ a := fun q => absurd h (by rw [Int32.lt_iff_toInt_lt]; rw [Int32.le_iff_toInt_le] at q; omega)
theorem i_le {a b : Int32} (h : ¬ a < b) : b ≤ a := by rw [Int32.lt_iff_toInt_lt] at h; rw [Int32.le_iff_toInt_le]; omega
theorem k_hasPlace0 (ht : t < 16) (h : unp S t a) : ev X d m_X1_hasPlace 0 [some (va_rf (some (aT X t))), some (.int a)] [] (rp X S) = some (some (.int 0), rp X S) := by
  by_cases h1 : a < 0
  · simp only [e_X1_hasPlace_0, e_X1_hasPlace_1, e_X1_hasPlace_4, e_X1_hasPlace_5, e_X1_hasPlace_6, e_X1_hasPlace_9, e_X1_hasPlace_12, e_X1_hasPlace_13, e_X1_hasPlace_16, e_X1_hasPlace_17, Option.bind_some, Option.bind_none, Option.toList_some, Option.toList_none, List.cons_append, List.nil_append, I_z, I_i8, I_q8, I_i7, I_q7, I_i6, I_q6, I_i5, I_q5, I_i4, I_q4, I_i3, I_q3, I_i2, I_q2, I_i1, I_q1, I_w8, I_w7, I_w6, I_w5, I_w4, I_w3, I_w2, I_c2n, I_c2i, I_c2q, eq_self, or_true, true_or, and_true, true_and, if_true, if_false, not_false_eq_true, not_true_eq_false, Option.map_none, Option.map_some, reduceCtorEq, gT_2, ht, h1]
  · have h2 := i_le (h.resolve_left h1)
    simp only [e_X1_hasPlace_0, e_X1_hasPlace_1, e_X1_hasPlace_4, e_X1_hasPlace_5, e_X1_hasPlace_6, e_X1_hasPlace_9, e_X1_hasPlace_12, e_X1_hasPlace_13, e_X1_hasPlace_16, e_X1_hasPlace_17, Option.bind_some, Option.bind_none, Option.toList_some, Option.toList_none, List.cons_append, List.nil_append, I_z, I_i8, I_q8, I_i7, I_q7, I_i6, I_q6, I_i5, I_q5, I_i4, I_q4, I_i3, I_q3, I_i2, I_q2, I_i1, I_q1, I_w8, I_w7, I_w6, I_w5, I_w4, I_w3, I_w2, I_c2n, I_c2i, I_c2q, eq_self, or_true, true_or, and_true, true_and, if_true, if_false, not_false_eq_true, not_true_eq_false, Option.map_none, Option.map_some, reduceCtorEq, gT_2, ht, h1, h2]
theorem k_hasPlace1 (ht : t < 16) (hh : S.2.1 1 t ≤ 12) (h : j < S.2.1 1 t) : ev X d m_X1_hasPlace 0 [some (va_rf (some (aT X t))), some (.int (nI j))] [] (rp X S) = some (some (.int 1), rp X S) := by
  have h1 : ¬ nI j < 0 := nI_pos (by omega)
  have h2 : ¬ nI (S.2.1 1 t) ≤ nI j := nI_ge h (by omega)
  simp only [e_X1_hasPlace_0, e_X1_hasPlace_1, e_X1_hasPlace_4, e_X1_hasPlace_5, e_X1_hasPlace_6, e_X1_hasPlace_9, e_X1_hasPlace_12, e_X1_hasPlace_13, e_X1_hasPlace_16, e_X1_hasPlace_17, Option.bind_some, Option.bind_none, Option.toList_some, Option.toList_none, List.cons_append, List.nil_append, I_z, I_i8, I_q8, I_i7, I_q7, I_i6, I_q6, I_i5, I_q5, I_i4, I_q4, I_i3, I_q3, I_i2, I_q2, I_i1, I_q1, I_w8, I_w7, I_w6, I_w5, I_w4, I_w3, I_w2, I_c2n, I_c2i, I_c2q, eq_self, or_true, true_or, and_true, true_and, if_true, if_false, not_false_eq_true, not_true_eq_false, Option.map_none, Option.map_some, reduceCtorEq, gT_2, ht, h1, h2]
theorem k_length (hr : r < S.2.1 0 1) : ev X d m_X0_length 0 [some (va_rf (some (aR X r)))] [] (rp X S) = some (some (.int (nI (S.2.1 2 r))), rp X S) := by
  simp only [e_X0_length_0, e_X0_length_1, e_X0_length_4, e_X0_length_5, Option.bind_some, Option.bind_none, Option.toList_some, Option.toList_none, List.cons_append, List.nil_append, I_z, I_i8, I_q8, I_i7, I_q7, I_i6, I_q6, I_i5, I_q5, I_i4, I_q4, I_i3, I_q3, I_i2, I_q2, I_i1, I_q1, I_w8, I_w7, I_w6, I_w5, I_w4, I_w3, I_w2, I_c2n, I_c2i, I_c2q, eq_self, or_true, true_or, and_true, true_and, if_true, if_false, not_false_eq_true, not_true_eq_false, Option.map_none, Option.map_some, reduceCtorEq, gR_1, hr, nRw]
def hasC (n : Nat) (a b : Int32) : Prop := ¬ a < 0 ∧ ¬ b < 0 ∧ ¬ nI n - b < a
theorem k_hasCells1 (hr : r < S.2.1 0 1) (h : hasC (S.2.1 2 r) a b) : ev X d m_X0_hasCells 0 [some (va_rf (some (aR X r))), some (.int a), some (.int b)] [] (rp X S) = some (some (.int 1), rp X S) := by
  obtain ⟨h1, h2, h3⟩ := h
  simp only [e_X0_hasCells_0, e_X0_hasCells_1, e_X0_hasCells_4, e_X0_hasCells_5, e_X0_hasCells_8, e_X0_hasCells_9, e_X0_hasCells_10, e_X0_hasCells_13, e_X0_hasCells_14, e_X0_hasCells_15, e_X0_hasCells_16, e_X0_hasCells_19, e_X0_hasCells_20, e_X0_hasCells_23, e_X0_hasCells_24, Option.bind_some, Option.bind_none, Option.toList_some, Option.toList_none, List.cons_append, List.nil_append, I_z, I_i8, I_q8, I_i7, I_q7, I_i6, I_q6, I_i5, I_q5, I_i4, I_q4, I_i3, I_q3, I_i2, I_q2, I_i1, I_q1, I_w8, I_w7, I_w6, I_w5, I_w4, I_w3, I_w2, I_c2n, I_c2i, I_c2q, eq_self, or_true, true_or, and_true, true_and, if_true, if_false, not_false_eq_true, not_true_eq_false, Option.map_none, Option.map_some, reduceCtorEq, gR_1, hr, nRw, h1, h2, h3]
theorem k_hasCells0 (hr : r < S.2.1 0 1) (h : ¬ hasC (S.2.1 2 r) a b) : ev X d m_X0_hasCells 0 [some (va_rf (some (aR X r))), some (.int a), some (.int b)] [] (rp X S) = some (some (.int 0), rp X S) := by
  by_cases h1 : a < 0
  · simp only [e_X0_hasCells_0, e_X0_hasCells_1, e_X0_hasCells_4, e_X0_hasCells_5, e_X0_hasCells_8, e_X0_hasCells_9, e_X0_hasCells_10, e_X0_hasCells_13, e_X0_hasCells_14, e_X0_hasCells_15, e_X0_hasCells_16, e_X0_hasCells_19, e_X0_hasCells_20, e_X0_hasCells_23, e_X0_hasCells_24, Option.bind_some, Option.bind_none, Option.toList_some, Option.toList_none, List.cons_append, List.nil_append, I_z, I_i8, I_q8, I_i7, I_q7, I_i6, I_q6, I_i5, I_q5, I_i4, I_q4, I_i3, I_q3, I_i2, I_q2, I_i1, I_q1, I_w8, I_w7, I_w6, I_w5, I_w4, I_w3, I_w2, I_c2n, I_c2i, I_c2q, eq_self, or_true, true_or, and_true, true_and, if_true, if_false, not_false_eq_true, not_true_eq_false, Option.map_none, Option.map_some, reduceCtorEq, gR_1, hr, nRw, h1]
  · by_cases h2 : b < 0
    · simp only [e_X0_hasCells_0, e_X0_hasCells_1, e_X0_hasCells_4, e_X0_hasCells_5, e_X0_hasCells_8, e_X0_hasCells_9, e_X0_hasCells_10, e_X0_hasCells_13, e_X0_hasCells_14, e_X0_hasCells_15, e_X0_hasCells_16, e_X0_hasCells_19, e_X0_hasCells_20, e_X0_hasCells_23, e_X0_hasCells_24, Option.bind_some, Option.bind_none, Option.toList_some, Option.toList_none, List.cons_append, List.nil_append, I_z, I_i8, I_q8, I_i7, I_q7, I_i6, I_q6, I_i5, I_q5, I_i4, I_q4, I_i3, I_q3, I_i2, I_q2, I_i1, I_q1, I_w8, I_w7, I_w6, I_w5, I_w4, I_w3, I_w2, I_c2n, I_c2i, I_c2q, eq_self, or_true, true_or, and_true, true_and, if_true, if_false, not_false_eq_true, not_true_eq_false, Option.map_none, Option.map_some, reduceCtorEq, gR_1, hr, nRw, h1, h2]
    · by_cases h3 : nI (S.2.1 2 r) - b < a
      · simp only [e_X0_hasCells_0, e_X0_hasCells_1, e_X0_hasCells_4, e_X0_hasCells_5, e_X0_hasCells_8, e_X0_hasCells_9, e_X0_hasCells_10, e_X0_hasCells_13, e_X0_hasCells_14, e_X0_hasCells_15, e_X0_hasCells_16, e_X0_hasCells_19, e_X0_hasCells_20, e_X0_hasCells_23, e_X0_hasCells_24, Option.bind_some, Option.bind_none, Option.toList_some, Option.toList_none, List.cons_append, List.nil_append, I_z, I_i8, I_q8, I_i7, I_q7, I_i6, I_q6, I_i5, I_q5, I_i4, I_q4, I_i3, I_q3, I_i2, I_q2, I_i1, I_q1, I_w8, I_w7, I_w6, I_w5, I_w4, I_w3, I_w2, I_c2n, I_c2i, I_c2q, eq_self, or_true, true_or, and_true, true_and, if_true, if_false, not_false_eq_true, not_true_eq_false, Option.map_none, Option.map_some, reduceCtorEq, gR_1, hr, nRw, h1, h2, h3]
      · exact absurd ⟨h1, h2, h3⟩ h
end AC2
