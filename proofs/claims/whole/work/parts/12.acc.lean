/-! The typed state: what the machine's writes do to it. -/
section AC1
variable {X : I_X} {S : St} {t r r0 k i n : Nat} {v : Int32} {w : UInt64}
theorem pO_1 : I_putf X (rp X S) (aO X) 2 1 (.int (nI n)) = some (rp X (sN S 0 (va_up (S.2.1 0) 0 n))) := by
  unfold I_putf; rw [rc_O]; simp only [fO]
  refine congrArg some ?_
  exact w_O0 (f := va_up (S.2.1 0) 0 n) rfl rfl
theorem pO_2 : I_putf X (rp X S) (aO X) 2 2 (.int v) = some (rp X (sI S 0 (upd (S.1 0) 2 v))) := by
  unfold I_putf; rw [rc_O]; exact congrArg some (w_OI (f := upd (S.1 0) 2 v))
theorem pO_4 : I_putf X (rp X S) (aO X) 2 4 (.int v) = some (rp X (sI S 0 (upd (S.1 0) 4 v))) := by
  unfold I_putf; rw [rc_O]; exact congrArg some (w_OI (f := upd (S.1 0) 4 v))
theorem pO_6 : I_putf X (rp X S) (aO X) 2 6 (.int v) = some (rp X (sI S 0 (upd (S.1 0) 6 v))) := by
  unfold I_putf; rw [rc_O]; exact congrArg some (w_OI (f := upd (S.1 0) 6 v))
theorem pO_7 : I_putf X (rp X S) (aO X) 2 7 (.int v) = some (rp X (sI S 0 (upd (S.1 0) 7 v))) := by
  unfold I_putf; rw [rc_O]; exact congrArg some (w_OI (f := upd (S.1 0) 7 v))
theorem pO_9 : I_putf X (rp X S) (aO X) 2 9 (.int v) = some (rp X (sI S 0 (upd (S.1 0) 9 v))) := by
  unfold I_putf; rw [rc_O]; exact congrArg some (w_OI (f := upd (S.1 0) 9 v))
theorem pT_1 (h : t < 16) : I_putf X (rp X S) (aT X t) 1 1 (.int v) = some (rp X (sI S 1 (upd (S.1 1) t v))) := by
  unfold I_putf; rw [rc_T h]; exact congrArg some (w_Tk h)
theorem pT_2 (h : t < 16) : I_putf X (rp X S) (aT X t) 1 2 (.int (nI n)) = some (rp X (sN S 1 (va_up (S.2.1 1) t n))) := by
  unfold I_putf; rw [rc_T h]; exact congrArg some (w_Th h)
theorem pM_0 : I_putf X (rp X S) (aM X) 3 0 (.int v) = some (rp X (sI S 20 (upd (S.1 20) 0 v))) := by
  unfold I_putf; rw [rc_M]; exact congrArg some (w_MI (f := upd (S.1 20) 0 v))
theorem pM_4 : I_putf X (rp X S) (aM X) 3 4 (.int v) = some (rp X (sI S 20 (upd (S.1 20) 4 v))) := by
  unfold I_putf; rw [rc_M]; exact congrArg some (w_MI (f := upd (S.1 20) 4 v))
theorem pM_8 : I_putf X (rp X S) (aM X) 3 8 (.int v) = some (rp X (sI S 20 (upd (S.1 20) 8 v))) := by
  unfold I_putf; rw [rc_M]; exact congrArg some (w_MI (f := upd (S.1 20) 8 v))
theorem pM_10 : I_putf X (rp X S) (aM X) 3 10 (.int v) = some (rp X (sI S 20 (upd (S.1 20) 10 v))) := by
  unfold I_putf; rw [rc_M]; exact congrArg some (w_MI (f := upd (S.1 20) 10 v))
theorem pM_12 : I_putf X (rp X S) (aM X) 3 12 (.int v) = some (rp X (sI S 20 (upd (S.1 20) 12 v))) := by
  unfold I_putf; rw [rc_M]; exact congrArg some (w_MI (f := upd (S.1 20) 12 v))
theorem pM_18 : I_putf X (rp X S) (aM X) 3 18 (.int v) = some (rp X (sI S 20 (upd (S.1 20) 18 v))) := by
  unfold I_putf; rw [rc_M]; exact congrArg some (w_MI (f := upd (S.1 20) 18 v))
theorem pM_19 : I_putf X (rp X S) (aM X) 3 19 (.int v) = some (rp X (sI S 20 (upd (S.1 20) 19 v))) := by
  unfold I_putf; rw [rc_M]; exact congrArg some (w_MI (f := upd (S.1 20) 19 v))
theorem pM_20 : I_putf X (rp X S) (aM X) 3 20 (.int v) = some (rp X (sI S 20 (upd (S.1 20) 20 v))) := by
  unfold I_putf; rw [rc_M]; exact congrArg some (w_MI (f := upd (S.1 20) 20 v))
theorem pR_3 (h : r < S.2.1 0 1) : I_putf X (rp X S) (aR X r) 0 3 (.int v) = some (rp X (sI S 6 (upd (S.1 6) r v))) := by
  unfold I_putf; rw [rc_R h]; exact congrArg some w_Rc
theorem uWd (h : i < 6) : I_asti X (rp X S) 0 (aWd X) (nI i) v = some (rp X (sI S 2 (upd (S.1 2) i v))) := by
  unfold I_asti; rw [arr_of rc_Wd]; simp only [I_in_nI h (by omega), nI_clamp (show i < 2 ^ 31 by omega), and_self, if_true]; exact congrArg some w_Wd
theorem uOp (h : i < 16) : I_asti X (rp X S) 2 (aOp X) (nI i) v = some (rp X (sI S 3 (upd (S.1 3) i v))) := by
  unfold I_asti; rw [arr_of rc_Op]; simp only [I_in_nI h (by omega), nI_clamp (show i < 2 ^ 31 by omega), and_self, if_true]; exact congrArg some w_Op
theorem uDp (h : i < 16) : I_asti X (rp X S) 0 (aDp X) (nI i) v = some (rp X (sI S 4 (upd (S.1 4) i v))) := by
  unfold I_asti; rw [arr_of rc_Dp]; simp only [I_in_nI h (by omega), nI_clamp (show i < 2 ^ 31 by omega), and_self, if_true]; exact congrArg some w_Dp
theorem uA (hk : k < 13) (h5 : k ≠ 5) (h : i < lnA k) : I_asti X (rp X S) 0 (aA X k) (nI i) v = some (rp X (sI S (40 + k) (upd (S.1 (40 + k)) i v))) := by
  have := lnA_le k
  unfold I_asti; rw [arr_of (rc_A hk h5)]; simp only [I_in_nI h (by omega), nI_clamp (show i < 2 ^ 31 by omega), and_self, if_true]; exact congrArg some (w_A hk h5)
theorem uA5 (h : i < 14400) : I_astd X (rp X S) (aA X 5) (nI i) w = some (rp X (sF S 0 (vf_upd (S.2.2.2 0) i w))) := by
  unfold I_astd; rw [arr_of rc_A5]; simp only [I_in_nI h (by omega), nI_clamp (show i < 2 ^ 31 by omega), and_self, if_true]; exact congrArg some w_A5
theorem uRw (hr : r < S.2.1 0 1) (h : i < S.2.1 2 r) (hb : S.2.1 2 r < 2 ^ 31) : I_asti X (rp X S) 0 (aRw X r) (nI i) v = some (rp X (sI S (100 + r) (upd (S.1 (100 + r)) i v))) := by
  unfold I_asti; rw [arr_of (rc_Rw hr)]; simp only [I_in_nI h hb, nI_clamp (show i < 2 ^ 31 by omega), and_self, if_true]; exact congrArg some w_Rw
theorem uRd (hr : r < S.2.1 0 1) (h : i < S.2.1 3 r) (hb : S.2.1 3 r < 2 ^ 31) : I_astd X (rp X S) (aRd X r) (nI i) w = some (rp X (sF S (1 + r) (vf_upd (S.2.2.2 (1 + r)) i w))) := by
  unfold I_astd; rw [arr_of (rc_Rd hr)]; simp only [I_in_nI h hb, nI_clamp (show i < 2 ^ 31 by omega), and_self, if_true]; exact congrArg some w_Rd
theorem uTr0 (ht : t < 16) (h : i < 12) : I_astq X (rp X S) (aTr X t) (nI i) none = some (rp X (sP S t (va_up (S.2.2.1 t) i none))) := by
  unfold I_astq; rw [arr_of (rc_Tr ht)]
  simp only [I_in_nI h (by omega), nI_clamp (show i < 2 ^ 31 by omega), and_self, and_true, or_true, if_true]
  refine congrArg some ?_
  rw [← w_Tr ht]
  congr 8
  funext j
  unfold va_up
  by_cases hj : j = i <;> simp [hj]
theorem uTr1 (ht : t < 16) (h : i < 12) (hr : r < S.2.1 0 1) : I_astq X (rp X S) (aTr X t) (nI i) (some (aR X r)) = some (rp X (sP S t (va_up (S.2.2.1 t) i (some r)))) := by
  unfold I_astq; rw [arr_of (rc_Tr ht)]
  simp only [I_in_nI h (by omega), nI_clamp (show i < 2 ^ 31 by omega), isR hr, and_self, and_true, or_true, if_true]
  refine congrArg some ?_
  rw [← w_Tr ht]
  congr 8
  funext j
  unfold va_up
  by_cases hj : j = i <;> simp [hj]
theorem cRw {a b : Nat} (hr : r < S.2.1 0 1) (hr0 : r0 < S.2.1 0 1) (h1 : a + n ≤ S.2.1 2 r0) (h2 : b + n ≤ S.2.1 2 r) (hb : S.2.1 2 r < 2 ^ 31) (hb0 : S.2.1 2 r0 < 2 ^ 31) : I_copy X (rp X S) (aRw X r0) (nI a) (aRw X r) (nI b) (nI n) = some (rp X (sI S (100 + r) (va_cpy (S.1 (100 + r0)) (S.1 (100 + r)) a b n))) := by
  unfold I_copy; rw [arr_of (rc_Rw hr), arr_of (rc_Rw hr0)]
  have ea := nI_clamp (n := a) (by omega)
  have eb := nI_clamp (n := b) (by omega)
  have en := nI_clamp (n := n) (by omega)
  simp only [ea, eb, en, nI_pos (n := a) (by omega), nI_pos (n := b) (by omega), nI_pos (n := n) (by omega), h1, h2, not_false_eq_true, and_self, if_true]
  exact congrArg some w_Rw
theorem cRd {a b : Nat} (hr : r < S.2.1 0 1) (hr0 : r0 < S.2.1 0 1) (h1 : a + n ≤ S.2.1 3 r0) (h2 : b + n ≤ S.2.1 3 r) (hb : S.2.1 3 r < 2 ^ 31) (hb0 : S.2.1 3 r0 < 2 ^ 31) : I_copy X (rp X S) (aRd X r0) (nI a) (aRd X r) (nI b) (nI n) = some (rp X (sF S (1 + r) (va_cpy (S.2.2.2 (1 + r0)) (S.2.2.2 (1 + r)) a b n))) := by
  unfold I_copy; rw [arr_of (rc_Rd hr), arr_of (rc_Rd hr0)]
  have ea := nI_clamp (n := a) (by omega)
  have eb := nI_clamp (n := b) (by omega)
  have en := nI_clamp (n := n) (by omega)
  simp only [ea, eb, en, nI_pos (n := a) (by omega), nI_pos (n := b) (by omega), nI_pos (n := n) (by omega), h1, h2, not_false_eq_true, and_self, if_true]
  exact congrArg some w_Rd
end AC1
section AC2
variable {X : I_X} {S : St} {d t : Nat} {a b : Int32}
theorem k_isUnknown : ev X d m_X2_isUnknown 0 [some (va_rf (some (aO X))), some (.int a)] [] (rp X S) = some (some (.int (if a < 0 ∨ nI (S.2.1 0 0) ≤ a then 1 else 0)), rp X S) := by
  by_cases h1 : a < 0
  · simp only [e_X2_isUnknown_0, e_X2_isUnknown_1, e_X2_isUnknown_4, e_X2_isUnknown_5, e_X2_isUnknown_6, e_X2_isUnknown_9, e_X2_isUnknown_12, e_X2_isUnknown_13, e_X2_isUnknown_16, e_X2_isUnknown_17, Option.bind_some, Option.bind_none, Option.toList_some, Option.toList_none, List.cons_append, List.nil_append, I_cat_n, I_cat_i, I_cat_q, I_cat_d, I_c2_n, I_c2_i, I_c2_q, Nat.reduceAdd, Nat.reduceLeDiff, Nat.zero_add, Nat.zero_le, gO_1, h1, if_true, true_or]
    simp
  · by_cases h2 : nI (S.2.1 0 0) ≤ a
    · simp only [e_X2_isUnknown_0, e_X2_isUnknown_1, e_X2_isUnknown_4, e_X2_isUnknown_5, e_X2_isUnknown_6, e_X2_isUnknown_9, e_X2_isUnknown_12, e_X2_isUnknown_13, e_X2_isUnknown_16, e_X2_isUnknown_17, Option.bind_some, Option.bind_none, Option.toList_some, Option.toList_none, List.cons_append, List.nil_append, I_cat_n, I_cat_i, I_cat_q, I_cat_d, I_c2_n, I_c2_i, I_c2_q, Nat.reduceAdd, Nat.reduceLeDiff, Nat.zero_add, Nat.zero_le, gO_1, h1, h2, if_true, if_false, or_true]
      simp
    · simp only [e_X2_isUnknown_0, e_X2_isUnknown_1, e_X2_isUnknown_4, e_X2_isUnknown_5, e_X2_isUnknown_6, e_X2_isUnknown_9, e_X2_isUnknown_12, e_X2_isUnknown_13, e_X2_isUnknown_16, e_X2_isUnknown_17, Option.bind_some, Option.bind_none, Option.toList_some, Option.toList_none, List.cons_append, List.nil_append, I_cat_n, I_cat_i, I_cat_q, I_cat_d, I_c2_n, I_c2_i, I_c2_q, Nat.reduceAdd, Nat.reduceLeDiff, Nat.zero_add, Nat.zero_le, gO_1, h1, h2, if_true, if_false, or_false]
      simp
end AC2
