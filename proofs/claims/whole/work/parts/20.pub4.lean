/-! Rows made at once; turned. -/
section PB4
variable {X : I_X} {S B : St} {d t t2 r r2 i j n m g w hi : Nat} {a b c e v x y z k : Int32}
theorem nRow_I (h5 : g ≠ 5) (h6 : g ≠ 6) (hw : g ≠ 100 + S.2.1 0 1) : (nRow S a n m).1 g = S.1 g := by
  simp only [nRow]; rw [up_ne hw, up_ne h6, up_ne h5]
theorem nRow_5 : (nRow S a n m).1 5 = upd (S.1 5) (S.2.1 0 1) a := by
  simp only [nRow]; rw [up_ne (by omega), up_ne (by omega), up_eq]
theorem nRow_6 : (nRow S a n m).1 6 = upd (S.1 6) (S.2.1 0 1) 0 := by
  simp only [nRow]; rw [up_ne (by omega), up_eq]
theorem nRow_N0 : (nRow S a n m).2.1 0 = va_up (va_up (S.2.1 0) 1 (S.2.1 0 1 + 1)) 2 (S.2.1 0 2 + 4 + n + m) := by
  simp only [nRow]; rw [up_ne (by omega), up_ne (by omega), up_eq]
theorem nRow_N1 : (nRow S a n m).2.1 1 = S.2.1 1 := by
  simp only [nRow]; rw [up_ne (by omega), up_ne (by omega), up_ne (by omega)]
theorem nRow_N3 : (nRow S a n m).2.1 3 = va_up (S.2.1 3) (S.2.1 0 1) m := by
  simp only [nRow]; exact up_eq
theorem nRow_F : (nRow S a n m).2.2.2 = va_up S.2.2.2 (1 + S.2.1 0 1) (fun _ => 0) := by
  simp only [nRow]
theorem nRowK_I (h5 : g ≠ 5) (h6 : g ≠ 6) (hw : g ≠ 100 + S.2.1 0 1) : (nRowK S a n).1 g = S.1 g := by
  unfold nRowK
  split
  · rw [sI_1, up_ne hw, nRow_I h5 h6 hw]
  · split <;> exact nRow_I h5 h6 hw
theorem nRowK_5 : (nRowK S a n).1 5 = upd (S.1 5) (S.2.1 0 1) a := by
  unfold nRowK
  split
  · rw [sI_1, up_ne (by omega), nRow_5]
  · split <;> exact nRow_5
theorem nRowK_6 : (nRowK S a n).1 6 = upd (S.1 6) (S.2.1 0 1) 0 := by
  unfold nRowK
  split
  · rw [sI_1, up_ne (by omega), nRow_6]
  · split <;> exact nRow_6
/-- the cells of a new row -/
def newC (k : Int32) (n j : Nat) : Int32 := if k = 3 then (if j < n then -1000009 else 0) else 0
theorem nRowK_w : (nRowK S a n).1 (100 + S.2.1 0 1) = newC a n := by
  unfold nRowK
  funext j
  unfold newC
  by_cases h : a = 3
  · rw [if_pos h, if_pos h, sI_g]; rfl
  · rw [if_neg h, if_neg h]
    split <;> rw [nRow_w]
theorem nRowK_N : (nRowK S a n).2.1 = (nRow S a n (if a = 2 then n else 0)).2.1 := by
  unfold nRowK
  by_cases h : a = 3
  · have h2 : ¬ a = 2 := by rw [h]; decide
    rw [if_pos h, if_neg h2, sI_2]
  · rw [if_neg h]
    by_cases h2 : a = 2
    · rw [if_pos h2, if_pos h2]
    · rw [if_neg h2, if_neg h2]
theorem nRowK_F : (nRowK S a n).2.2.2 = va_up S.2.2.2 (1 + S.2.1 0 1) (fun _ => 0) := by
  unfold nRowK
  split
  · rw [sI_2, nRow_F]
  · split <;> exact nRow_F
/-- m new rows of n cells at the places of table t from i on -/
def rowsA (t : Nat) (k : Int32) (n : Nat) : Nat → Nat → St → St
  | 0, _, S => S
  | m + 1, i, S => rowsA t k n m (i + 1) (sRow S t i k n)
theorem sRow_I (h5 : g ≠ 5) (h6 : g ≠ 6) (hw : g ≠ 100 + S.2.1 0 1) : (sRow S t i k n).1 g = S.1 g := by
  unfold sRow; rw [sP_1, nRowK_I h5 h6 hw]
theorem sRow_5 : (sRow S t i k n).1 5 = upd (S.1 5) (S.2.1 0 1) k := by unfold sRow; rw [sP_1, nRowK_5]
theorem sRow_6 : (sRow S t i k n).1 6 = upd (S.1 6) (S.2.1 0 1) 0 := by unfold sRow; rw [sP_1, nRowK_6]
theorem sRow_w : (sRow S t i k n).1 (100 + S.2.1 0 1) = newC k n := by unfold sRow; rw [sP_1, nRowK_w]
theorem sRow_N0 : (sRow S t i k n).2.1 0 = va_up (va_up (S.2.1 0) 1 (S.2.1 0 1 + 1)) 2 (S.2.1 0 2 + 4 + n + (if k = 2 then n else 0)) := by unfold sRow; rw [sP_2, nRowK_N, nRow_N0]
theorem sRow_N00 : (sRow S t i k n).2.1 0 0 = S.2.1 0 0 := by rw [sRow_N0, up_ne (by omega), up_ne (by omega)]
theorem sRow_N01 : (sRow S t i k n).2.1 0 1 = S.2.1 0 1 + 1 := by rw [sRow_N0, up_ne (by omega), up_eq]
theorem sRow_N02 : (sRow S t i k n).2.1 0 2 = S.2.1 0 2 + 4 + n + (if k = 2 then n else 0) := by rw [sRow_N0, up_eq]
theorem sRow_N1 : (sRow S t i k n).2.1 1 = S.2.1 1 := by unfold sRow; rw [sP_2, nRowK_N, nRow_N1]
theorem sRow_N2 : (sRow S t i k n).2.1 2 = va_up (S.2.1 2) (S.2.1 0 1) n := by unfold sRow; rw [sP_2, nRowK_N, nRow_2]
theorem sRow_N3 : (sRow S t i k n).2.1 3 = va_up (S.2.1 3) (S.2.1 0 1) (if k = 2 then n else 0) := by unfold sRow; rw [sP_2, nRowK_N, nRow_N3]
theorem sRow_P : (sRow S t i k n).2.2.1 = va_up S.2.2.1 t (va_up (S.2.2.1 t) i (some (S.2.1 0 1))) := by unfold sRow; rw [sP_3, nRowK_p]
theorem sRow_F : (sRow S t i k n).2.2.2 = va_up S.2.2.2 (1 + S.2.1 0 1) (fun _ => 0) := by unfold sRow; rw [sP_4, nRowK_F]
theorem sRow_WB (hS : WB S) (hn : n ≤ 16) (ht : t < 16) : WB (sRow S t i k n) := by
  obtain ⟨h1, h2, h3, h4⟩ := hS
  refine ⟨by rw [sRow_N00]; exact h1, fun t' ht' => by rw [sRow_N1]; exact h2 t' ht', fun t' i' r ht' hp => ?_, fun r hr => ?_⟩
  · rw [sRow_N01]
    rw [sRow_P] at hp
    by_cases c1 : t' = t
    · subst c1
      rw [up_eq] at hp
      by_cases c2 : i' = i
      · subst c2; rw [up_eq] at hp; cases hp; omega
      · rw [up_ne c2] at hp; have := h3 t' i' r ht' hp; omega
    · rw [up_ne c1] at hp; have := h3 t' i' r ht' hp; omega
  · rw [sRow_N01] at hr
    rw [sRow_N2, sRow_N3, sRow_5]
    by_cases c : r = S.2.1 0 1
    · subst c; rw [up_eq, up_eq, pk_us]; exact ⟨hn, rfl⟩
    · rw [up_ne c, up_ne c, pk_un c]; exact h4 r (by omega)
theorem k_bwr_loop (hn : n ≤ 16) (ht : t < 16) : ∀ m i (S : St), WB S → i + m = S.2.1 1 t → ev X (d + 2) m_X2_begunWithRows 20 [some (va_rf (some (aO X))), some (.int k), some (.int b), some (.int (nI n)), some (.int (nI t)), some (va_rf (some (aT X t))), some (.int (nI i))] [] (rp X S) = some (some (.int (nI t)), rp X (rowsA t k n m i S)) := by
  intro m
  induction m with
  | zero =>
    intro i S hS hi
    have hh := hS.2.1 t ht
    have h1 : nI (S.2.1 1 t) ≤ nI i := nI_le (by omega) (by omega)
    rw [e_X2_begunWithRows_20]
    simp only [e_X2_begunWithRows_22, e_X2_begunWithRows_24, e_X2_begunWithRows_27, e_X2_begunWithRows_30, e_X2_begunWithRows_32, e_X2_begunWithRows_35, e_X2_begunWithRows_37, e_X2_begunWithRows_40, e_X2_begunWithRows_40i, e_X2_begunWithRows_41, e_X2_begunWithRows_42, e_X2_begunWithRows_43, e_X2_begunWithRows_46, e_X2_begunWithRows_47, e_X2_begunWithRows_50, e_X2_begunWithRows_53, e_X2_begunWithRows_55, Option.bind_some, Option.bind_none, Option.toList_some, Option.toList_none, List.cons_append, List.nil_append, I_z, I_i8, I_q8, I_i7, I_q7, I_i6, I_q6, I_i5, I_q5, I_i4, I_q4, I_i3, I_q3, I_i2, I_q2, I_i1, I_q1, I_w8, I_w7, I_w6, I_w5, I_w4, I_w3, I_w2, I_c2n, I_c2i, I_c2q, eq_self, or_true, true_or, and_true, true_and, if_true, if_false, not_false_eq_true, not_true_eq_false, Option.map_none, Option.map_some, reduceCtorEq, isO, isT, isR, isM, gO_0, gO_1, gO_2, gO_3, gO_4, gO_5, gO_6, gO_7, gO_8, gO_9, gT_0, gT_1, gT_2, gR_0, gR_1, gR_2, gR_3, gM_0, gM_1, gM_2, gM_3, gM_4, gM_5, gM_6, gM_7, gM_8, gM_9, gM_10, gM_11, gM_12, gM_13, gM_14, gM_15, gM_16, gM_17, gM_18, gM_19, gM_20, lTs, lTr, lWd, lOp, lDp, lRw, lRd, nRw, nTr, nI_1, nI_add, sI_2, ht, h1, rowsA]
  | succ m ih =>
    intro i S hS hi
    have hh := hS.2.1 t ht
    have h1 : ¬ nI (S.2.1 1 t) ≤ nI i := nI_ge (by omega) (by omega)
    have h12 : i < 12 := by omega
    have ih1 := ih (i + 1) (sRow S t i k n) (sRow_WB hS hn ht) (by rw [sRow_N1]; omega)
    have eh : I_new (rp X S) (I_N 0) (.inr (0, I_def 0)) = hR0 X S := rfl
    have hr : S.2.1 0 1 < (nRowK S k n).2.1 0 1 := by rw [nRowK_1]; omega
    have hu := uTr1 (X := X) (S := nRowK S k n) ht h12 hr
    rw [nRowK_p, show sP (nRowK S k n) t (va_up (S.2.2.1 t) i (some (S.2.1 0 1))) = sRow S t i k n from rfl] at hu
    rw [e_X2_begunWithRows_20]
    simp only [e_X2_begunWithRows_22, e_X2_begunWithRows_24, e_X2_begunWithRows_27, e_X2_begunWithRows_30, e_X2_begunWithRows_32, e_X2_begunWithRows_35, e_X2_begunWithRows_37, e_X2_begunWithRows_40, e_X2_begunWithRows_40i, e_X2_begunWithRows_41, e_X2_begunWithRows_42, e_X2_begunWithRows_43, e_X2_begunWithRows_46, e_X2_begunWithRows_47, e_X2_begunWithRows_50, e_X2_begunWithRows_53, e_X2_begunWithRows_55, Option.bind_some, Option.bind_none, Option.toList_some, Option.toList_none, List.cons_append, List.nil_append, I_z, I_i8, I_q8, I_i7, I_q7, I_i6, I_q6, I_i5, I_q5, I_i4, I_q4, I_i3, I_q3, I_i2, I_q2, I_i1, I_q1, I_w8, I_w7, I_w6, I_w5, I_w4, I_w3, I_w2, I_c2n, I_c2i, I_c2q, eq_self, or_true, true_or, and_true, true_and, if_true, if_false, not_false_eq_true, not_true_eq_false, Option.map_none, Option.map_some, reduceCtorEq, isO, isT, isR, isM, gO_0, gO_1, gO_2, gO_3, gO_4, gO_5, gO_6, gO_7, gO_8, gO_9, gT_0, gT_1, gT_2, gR_0, gR_1, gR_2, gR_3, gM_0, gM_1, gM_2, gM_3, gM_4, gM_5, gM_6, gM_7, gM_8, gM_9, gM_10, gM_11, gM_12, gM_13, gM_14, gM_15, gM_16, gM_17, gM_18, gM_19, gM_20, lTs, lTr, lWd, lOp, lDp, lRw, lRd, nRw, nTr, nI_1, nI_add, sI_2, ht, h1, rp_1, eh, k_Row hn, hu, rowsA, ih1]
theorem sBegun_N0 : (sBegun S k n).2.1 0 = va_up (S.2.1 0) 0 (S.2.1 0 0 + 1) := by unfold sBegun; rw [sN_2, up_eq]
theorem sBegun_N1 : (sBegun S k n).2.1 1 = va_up (S.2.1 1) (S.2.1 0 0) n := by
  unfold sBegun; rw [sN_2, up_ne (by omega)]; unfold sBegin; rw [sP_2, sN_2, up_eq]
theorem sBegun_N (hg : g ≠ 0) (hg1 : g ≠ 1) : (sBegun S k n).2.1 g = S.2.1 g := by
  unfold sBegun; rw [sN_2, up_ne hg]; unfold sBegin; rw [sP_2, sN_2, up_ne hg1, sI_2]
theorem sBegun_I (hg : g ≠ 1) : (sBegun S k n).1 g = S.1 g := by
  unfold sBegun; rw [sN_1]; unfold sBegin; rw [sP_1, sN_1, sI_1, up_ne hg]
theorem sBegun_1 : (sBegun S k n).1 1 = upd (S.1 1) (S.2.1 0 0) k := by
  unfold sBegun; rw [sN_1]; unfold sBegin; rw [sP_1, sN_1, sI_1, up_eq]
theorem sBegun_P : (sBegun S k n).2.2.1 = va_up S.2.2.1 (S.2.1 0 0) (noRows S (S.2.1 0 0) 12) := by
  unfold sBegun; rw [sN_3]; unfold sBegin; rw [sP_3, sN_3, sI_2]
theorem sBegun_F : (sBegun S k n).2.2.2 = S.2.2.2 := by
  unfold sBegun; rw [sN_3]; unfold sBegin; rw [sP_4, sN_3, sI_2]
theorem sBegun_WB (hS : WB S) (h : S.2.1 0 0 < 16) (hn : n ≤ 12) : WB (sBegun S k n) := by
  obtain ⟨h1, h2, h3, h4⟩ := hS
  refine ⟨by rw [sBegun_N0, up_eq]; omega, fun t' ht' => ?_, fun t' i' r ht' hp => ?_, fun r hr => ?_⟩
  · rw [sBegun_N1]
    by_cases c : t' = S.2.1 0 0
    · subst c; rw [up_eq]; exact hn
    · rw [up_ne c]; exact h2 t' ht'
  · rw [sBegun_N0, up_ne (by omega)]
    rw [sBegun_P] at hp
    by_cases c : t' = S.2.1 0 0
    · subst c
      rw [up_eq] at hp
      unfold noRows at hp
      split at hp
      · cases hp
      · exact h3 _ i' r ht' hp
    · rw [up_ne c] at hp; exact h3 t' i' r ht' hp
  · rw [sBegun_N0, up_ne (by omega)] at hr
    rw [sBegun_N (by omega) (by omega), sBegun_N (by omega) (by omega), sBegun_I (by omega)]
    exact h4 r hr
/-- a new table with hi rows of w cells -/
def bwS (S : St) (k : Int32) (hi w : Nat) : St := rowsA (S.2.1 0 0) k w hi 0 (sBegun S k hi)
theorem k_bwr (hS : WB S) (h : S.2.1 0 0 < 16) (hh : hi ≤ 12) (hw : w ≤ 16) : ev X (d + 2) m_X2_begunWithRows 0 [some (va_rf (some (aO X))), some (.int k), some (.int (nI hi)), some (.int (nI w)), none, none, none] [] (rp X S) = some (some (.int (nI (S.2.1 0 0))), rp X (bwS S k hi w)) := by
  have hl := k_bwr_loop (X := X) (d := d) (k := k) (b := nI hi) hw h hi 0 (sBegun S k hi) (sBegun_WB hS h hh) (by rw [sBegun_N1, up_eq]; omega)
  rw [nI_0] at hl
  simp only [e_X2_begunWithRows_0, e_X2_begunWithRows_1, e_X2_begunWithRows_2, e_X2_begunWithRows_3, e_X2_begunWithRows_6, e_X2_begunWithRows_8, e_X2_begunWithRows_9, e_X2_begunWithRows_12, e_X2_begunWithRows_14, e_X2_begunWithRows_15, e_X2_begunWithRows_17, e_X2_begunWithRows_18, Option.bind_some, Option.bind_none, Option.toList_some, Option.toList_none, List.cons_append, List.nil_append, I_z, I_i8, I_q8, I_i7, I_q7, I_i6, I_q6, I_i5, I_q5, I_i4, I_q4, I_i3, I_q3, I_i2, I_q2, I_i1, I_q1, I_w8, I_w7, I_w6, I_w5, I_w4, I_w3, I_w2, I_c2n, I_c2i, I_c2q, eq_self, or_true, true_or, and_true, true_and, if_true, if_false, not_false_eq_true, not_true_eq_false, Option.map_none, Option.map_some, reduceCtorEq, isO, isT, isR, isM, gO_0, gO_1, gO_2, gO_3, gO_4, gO_5, gO_6, gO_7, gO_8, gO_9, gT_0, gT_1, gT_2, gR_0, gR_1, gR_2, gR_3, gM_0, gM_1, gM_2, gM_3, gM_4, gM_5, gM_6, gM_7, gM_8, gM_9, gM_10, gM_11, gM_12, gM_13, gM_14, gM_15, gM_16, gM_17, gM_18, gM_19, gM_20, lTs, lTr, lWd, lOp, lDp, lRw, lRd, nRw, nTr, nI_1, nI_add, sI_2, h, k_begun h, hl, bwS]
/-- what rowsA leaves, and what it makes -/
theorem rowsA_all : ∀ m i (S : St), i + m ≤ 12 → (rowsA t k n m i S).2.1 0 0 = S.2.1 0 0 ∧ (rowsA t k n m i S).2.1 0 1 = S.2.1 0 1 + m ∧ (rowsA t k n m i S).2.1 0 2 ≤ S.2.1 0 2 + m * (4 + 2 * n) ∧ (rowsA t k n m i S).2.1 1 = S.2.1 1 ∧
    (∀ r, (rowsA t k n m i S).2.1 2 r = if S.2.1 0 1 ≤ r ∧ r < S.2.1 0 1 + m then n else S.2.1 2 r) ∧ (∀ r, (rowsA t k n m i S).2.1 3 r = if S.2.1 0 1 ≤ r ∧ r < S.2.1 0 1 + m then (if k = 2 then n else 0) else S.2.1 3 r) ∧
    (∀ t' i', (rowsA t k n m i S).2.2.1 t' i' = if t' = t ∧ i ≤ i' ∧ i' < i + m then some (S.2.1 0 1 + (i' - i)) else S.2.2.1 t' i') ∧
    (∀ r, (rowsA t k n m i S).1 5 r = if S.2.1 0 1 ≤ r ∧ r < S.2.1 0 1 + m then k else S.1 5 r) ∧ (∀ r, (rowsA t k n m i S).1 6 r = if S.2.1 0 1 ≤ r ∧ r < S.2.1 0 1 + m then 0 else S.1 6 r) ∧
    (∀ r, (rowsA t k n m i S).1 (100 + r) = if S.2.1 0 1 ≤ r ∧ r < S.2.1 0 1 + m then newC k n else S.1 (100 + r)) ∧ (∀ g, g < 100 → g ≠ 5 → g ≠ 6 → (rowsA t k n m i S).1 g = S.1 g) ∧
    (∀ r, (rowsA t k n m i S).2.2.2 (1 + r) = if S.2.1 0 1 ≤ r ∧ r < S.2.1 0 1 + m then (fun _ => 0) else S.2.2.2 (1 + r)) ∧ (rowsA t k n m i S).2.2.2 0 = S.2.2.2 0 := by
  intro m
  induction m with
  | zero =>
    intro i S _
    refine ⟨rfl, rfl, by show S.2.1 0 2 ≤ _; omega, rfl, fun r => ?_, fun r => ?_, fun t' i' => ?_, fun r => ?_, fun r => ?_, fun r => ?_, fun _ _ _ _ => rfl, fun r => ?_, rfl⟩
    all_goals (rw [if_neg (by omega)]; rfl)
  | succ m ih =>
    intro i S hi
    obtain ⟨a1, a2, a3, a4, a5, a6, a7, a8, a9, b1, b2, b3, b4⟩ := ih (i + 1) (sRow S t i k n) (by omega)
    rw [sRow_N01] at a2 a5 a6 a7 a8 a9 b1 b3
    have key : ∀ r, ∀ (α : Type) (u v w : α), r ≠ S.2.1 0 1 → w = v → (if S.2.1 0 1 + 1 ≤ r ∧ r < S.2.1 0 1 + 1 + m then u else w) = (if S.2.1 0 1 ≤ r ∧ r < S.2.1 0 1 + (m + 1) then u else v) := by
      intro r α u v w hr hvw
      by_cases c : S.2.1 0 1 + 1 ≤ r ∧ r < S.2.1 0 1 + 1 + m
      · rw [if_pos c, if_pos (by omega)]
      · rw [if_neg c, if_neg (by omega), hvw]
    refine ⟨by show (rowsA t k n m (i + 1) _).2.1 0 0 = _; rw [a1, sRow_N00], by show (rowsA t k n m (i + 1) _).2.1 0 1 = _; rw [a2]; omega, ?_, by show (rowsA t k n m (i + 1) _).2.1 1 = _; rw [a4, sRow_N1], fun r => ?_, fun r => ?_, fun t' i' => ?_, fun r => ?_, fun r => ?_, fun r => ?_, fun g h1 h2 h3 => ?_, fun r => ?_, ?_⟩
    · show (rowsA t k n m (i + 1) _).2.1 0 2 ≤ _
      rw [sRow_N02] at a3
      have : (m + 1) * (4 + 2 * n) = m * (4 + 2 * n) + (4 + 2 * n) := Nat.succ_mul _ _
      split at a3 <;> omega
    · show (rowsA t k n m (i + 1) _).2.1 2 r = _
      rw [a5 r, sRow_N2]
      by_cases c : r = S.2.1 0 1
      · subst c; rw [if_neg (by omega), up_eq, if_pos (by omega)]
      · exact key r _ _ _ _ c (up_ne c)
    · show (rowsA t k n m (i + 1) _).2.1 3 r = _
      rw [a6 r, sRow_N3]
      by_cases c : r = S.2.1 0 1
      · subst c; exact (if_neg (by omega)).trans (up_eq.trans (if_pos (by omega)).symm)
      · exact key r _ _ _ _ c (up_ne c)
    · show (rowsA t k n m (i + 1) _).2.2.1 t' i' = _
      rw [a7 t' i', sRow_P]
      by_cases c : t' = t
      · subst c
        rw [up_eq]
        by_cases c2 : i' = i
        · subst c2; rw [if_neg (by omega), up_eq, if_pos (by omega)]; congr 1; omega
        · rw [up_ne c2]
          by_cases c3 : i + 1 ≤ i' ∧ i' < i + 1 + m
          · rw [if_pos ⟨rfl, c3⟩, if_pos ⟨rfl, by omega⟩]; congr 1; omega
          · rw [if_neg (fun q => c3 q.2), if_neg (fun q => c3 (by omega))]
      · rw [if_neg (fun q => c q.1), up_ne c, if_neg (fun q => c q.1)]
    · show (rowsA t k n m (i + 1) _).1 5 r = _
      rw [a8 r, sRow_5]
      by_cases c : r = S.2.1 0 1
      · subst c; rw [if_neg (by omega), pk_us, if_pos (by omega)]
      · exact key r _ _ _ _ c (pk_un c)
    · show (rowsA t k n m (i + 1) _).1 6 r = _
      rw [a9 r, sRow_6]
      by_cases c : r = S.2.1 0 1
      · subst c; rw [if_neg (by omega), pk_us, if_pos (by omega)]
      · exact key r _ _ _ _ c (pk_un c)
    · show (rowsA t k n m (i + 1) _).1 (100 + r) = _
      rw [b1 r]
      by_cases c : r = S.2.1 0 1
      · subst c; rw [if_neg (by omega), sRow_w, if_pos (by omega)]
      · exact key r _ _ _ _ c (sRow_I (by omega) (by omega) (by omega))
    · show (rowsA t k n m (i + 1) _).1 g = _
      rw [b2 g h1 h2 h3, sRow_I h2 h3 (by omega)]
    · show (rowsA t k n m (i + 1) _).2.2.2 (1 + r) = _
      rw [b3 r, sRow_F]
      by_cases c : r = S.2.1 0 1
      · subst c; rw [if_neg (by omega), up_eq, if_pos (by omega)]
      · exact key r _ _ _ _ c (up_ne (by omega))
    · show (rowsA t k n m (i + 1) _).2.2.2 0 = _
      rw [b4, sRow_F, up_ne (by omega)]
theorem rowsA_WB (hn : n ≤ 16) (ht : t < 16) : ∀ m i (S : St), WB S → WB (rowsA t k n m i S) := by
  intro m
  induction m with
  | zero => intro i S h; exact h
  | succ m ih => intro i S h; exact ih (i + 1) _ (sRow_WB h hn ht)
/-- only cells of rows from n0 on have changed -/
def NW (B S : St) (n0 : Nat) : Prop := S.2.1 = B.2.1 ∧ S.2.2.1 = B.2.2.1 ∧ (∀ g, g < 100 + n0 → S.1 g = B.1 g) ∧ ∀ g, g < 1 + n0 → S.2.2.2 g = B.2.2.2 g
theorem NW.refl (n0 : Nat) : NW B B n0 := ⟨rfl, rfl, fun _ _ => rfl, fun _ _ => rfl⟩
theorem NW.trans {C : St} {n0 : Nat} (h1 : NW B S n0) (h2 : NW S C n0) : NW B C n0 := ⟨h2.1.trans h1.1, h2.2.1.trans h1.2.1, fun g hg => (h2.2.2.1 g hg).trans (h1.2.2.1 g hg), fun g hg => (h2.2.2.2 g hg).trans (h1.2.2.2 g hg)⟩
theorem NW.wb {n0 : Nat} (h : NW B S n0) (hB : WB B) : WB S := by
  obtain ⟨h1, h2, h3, h4⟩ := hB
  obtain ⟨e1, e2, e3, _⟩ := h
  refine ⟨by rw [e1]; exact h1, by rw [e1]; exact h2, by rw [e1, e2]; exact h3, ?_⟩
  rw [e1, e3 5 (by omega)]
  exact h4
theorem NW_sI {n0 : Nat} {f : Nat → Int32} (h : NW B S n0) (hr : n0 ≤ r) : NW B (sI S (100 + r) f) n0 := by
  obtain ⟨e1, e2, e3, e4⟩ := h
  exact ⟨e1, e2, fun g hg => by rw [sI_1, up_ne (by omega)]; exact e3 g hg, e4⟩
theorem NW_sF {n0 : Nat} {f : Nat → UInt64} (h : NW B S n0) (hr : n0 ≤ r) : NW B (sF S (1 + r) f) n0 := by
  obtain ⟨e1, e2, e3, e4⟩ := h
  exact ⟨e1, e2, e3, fun g hg => by rw [sF_4, up_ne (by omega)]; exact e4 g hg⟩
theorem NW_take {n0 p q : Nat} (h : NW B S n0) (hr : n0 ≤ r) : NW B (sTake S r p r2 q n) n0 := by
  unfold sTake
  split
  · exact NW_sF (NW_sI h hr) hr
  · exact NW_sI h hr
theorem sTake_I {p q : Nat} : (sTake S r p r2 q n).1 = va_up S.1 (100 + r) (va_cpy (S.1 (100 + r2)) (S.1 (100 + r)) q p n) := by
  unfold sTake
  split
  · rw [sF_1, sI_1]
  · rw [sI_1]
theorem sTake_F {p q : Nat} (hk : S.1 5 r = 2) : (sTake S r p r2 q n).2.2.2 = va_up S.2.2.2 (1 + r) (va_cpy (S.2.2.2 (1 + r2)) (S.2.2.2 (1 + r)) q p n) := by
  unfold sTake
  rw [if_pos hk, sF_4, sI_2]
theorem sTake_F0 {p q : Nat} (hk : ¬ S.1 5 r = 2) : (sTake S r p r2 q n).2.2.2 = S.2.2.2 := by
  unfold sTake
  rw [if_neg hk, sI_2]
/-- cells 0 .. y of row x of the new table are the turned ones -/
def trn (B S : St) (n0 t x y : Nat) : Prop := ∀ y', y' < y → ∀ r, B.2.2.1 t y' = some r → S.1 (100 + (n0 + x)) y' = B.1 (100 + r) x ∧ (B.1 1 t = 2 → S.2.2.2 (1 + (n0 + x)) y' = B.2.2.2 (1 + r) x)
theorem k_trn_y (hB : WB B) {n0 xx : Nat} (hxx : n0 + xx < B.2.1 0 1) (ht : t < 16) (ht2 : t2 < 16) (hP2 : B.2.2.1 t2 xx = some (n0 + xx)) (hx2 : xx < B.2.1 1 t2) (hl2 : B.2.1 2 (n0 + xx) = B.2.1 1 t) (hk2 : B.1 5 (n0 + xx) = B.1 1 t) (hP : ∀ y', y' < B.2.1 1 t → ∃ r, r < n0 ∧ B.2.2.1 t y' = some r ∧ xx < B.2.1 2 r ∧ B.1 5 r = B.1 1 t) : ∀ m y (S : St), y + m = B.2.1 1 t → NW B S n0 → trn B S n0 t xx y → ∃ S', ev X (d + 2) m_X2_turned 88 [some (va_rf (some (aO X))), some (.int a), some (va_rf (some (aT X t))), some (.int b), some (va_rf (some (aT X t2))), some (.int (nI xx)), some (.int (nI y))] [] (rp X S) = ev X (d + 2) m_X2_turned 126 [some (va_rf (some (aO X))), some (.int a), some (va_rf (some (aT X t))), some (.int b), some (va_rf (some (aT X t2))), some (.int (nI xx)), some (.int (nI (B.2.1 1 t)))] [] (rp X S') ∧ NW B S' n0 ∧ trn B S' n0 t xx (B.2.1 1 t) ∧ ∀ g, g ≠ n0 + xx → S'.1 (100 + g) = S.1 (100 + g) ∧ S'.2.2.2 (1 + g) = S.2.2.2 (1 + g) := by
  have hh := hB.2.1 t ht
  have hh2 := hB.2.1 t2 ht2
  intro m
  induction m with
  | zero =>
    intro y S hy hN hT
    have h1 : nI (B.2.1 1 t) ≤ nI y := nI_le (by omega) (by omega)
    have ey : y = B.2.1 1 t := by omega
    subst ey
    refine ⟨S, ?_, hN, hT, fun g _ => ⟨rfl, rfl⟩⟩
    rw [e_X2_turned_88]
    simp only [e_X2_turned_90, e_X2_turned_91, e_X2_turned_94, e_X2_turned_97, e_X2_turned_99, e_X2_turned_102, e_X2_turned_104, e_X2_turned_105, e_X2_turned_107, e_X2_turned_108, e_X2_turned_111, e_X2_turned_113, e_X2_turned_114, e_X2_turned_116, e_X2_turned_117, e_X2_turned_120, e_X2_turned_123, Option.bind_some, Option.bind_none, Option.toList_some, Option.toList_none, List.cons_append, List.nil_append, I_z, I_i8, I_q8, I_i7, I_q7, I_i6, I_q6, I_i5, I_q5, I_i4, I_q4, I_i3, I_q3, I_i2, I_q2, I_i1, I_q1, I_w8, I_w7, I_w6, I_w5, I_w4, I_w3, I_w2, I_c2n, I_c2i, I_c2q, eq_self, or_true, true_or, and_true, true_and, if_true, if_false, not_false_eq_true, not_true_eq_false, Option.map_none, Option.map_some, reduceCtorEq, isO, isT, isR, isM, gO_0, gO_1, gO_2, gO_3, gO_4, gO_5, gO_6, gO_7, gO_8, gO_9, gT_0, gT_1, gT_2, gR_0, gR_1, gR_2, gR_3, gM_0, gM_1, gM_2, gM_3, gM_4, gM_5, gM_6, gM_7, gM_8, gM_9, gM_10, gM_11, gM_12, gM_13, gM_14, gM_15, gM_16, gM_17, gM_18, gM_19, gM_20, lTs, lTr, lWd, lOp, lDp, lRw, lRd, nRw, nTr, nI_1, nI_add, sI_2, ht, hN.1, h1]
  | succ m ih =>
    intro y S hy hN hT
    have h1 : ¬ nI (B.2.1 1 t) ≤ nI y := nI_ge (by omega) (by omega)
    have hy12 : y < 12 := by omega
    have hx12 : xx < 12 := by omega
    obtain ⟨r, hr, hp, hxr, hkr⟩ := hP y (by omega)
    have hSW := hN.wb hB
    have hr2 : r < S.2.1 0 1 := by rw [hN.1]; omega
    have hxx2 : n0 + xx < S.2.1 0 1 := by rw [hN.1]; exact hxx
    have hkk : S.1 5 r = S.1 5 (n0 + xx) := by rw [hN.2.2.1 5 (by omega), hkr, hk2]
    have ht1 : y + 1 ≤ S.2.1 2 (n0 + xx) := by rw [hN.1, hl2]; omega
    have ht3 : xx + 1 ≤ S.2.1 2 r := by rw [hN.1]; omega
    have hkt := k_take (X := X) (d := d + 1) hSW hr2 hxx2 hkk ht3 ht1
    have hN2 : NW B (sTake S (n0 + xx) y r xx 1) n0 := NW_take hN (by omega)
    have hT2 : trn B (sTake S (n0 + xx) y r xx 1) n0 t xx (y + 1) := by
      intro y' hy' r' hp'
      rw [sTake_I, up_eq]
      by_cases c : y' = y
      · subst c
        rw [hp] at hp'
        cases hp'
        refine ⟨?_, fun hk => ?_⟩
        · rw [pk_cpy_in (by omega) (by omega), hN.2.2.1 (100 + r) (by omega), Nat.sub_self, Nat.add_zero]
        · have hk5 : S.1 5 (n0 + xx) = 2 := by rw [hN.2.2.1 5 (by omega), hk2]; exact hk
          rw [sTake_F hk5, up_eq, pk_cpy_in (by omega) (by omega), hN.2.2.2 (1 + r) (by omega), Nat.sub_self, Nat.add_zero]
      · obtain ⟨q1, q2⟩ := hT y' (by omega) r' hp'
        refine ⟨?_, fun hk => ?_⟩
        · rw [pk_cpy_out (by omega)]; exact q1
        · have hk5 : S.1 5 (n0 + xx) = 2 := by rw [hN.2.2.1 5 (by omega), hk2]; exact hk
          rw [sTake_F hk5, up_eq, pk_cpy_out (by omega)]; exact q2 hk
    obtain ⟨S', e1, e2, e3, e4⟩ := ih (y + 1) _ (by omega) hN2 hT2
    refine ⟨S', ?_, e2, e3, fun g hg => ?_⟩
    · rw [← e1, e_X2_turned_88]
      have p1 : S.2.2.1 t2 xx = some (n0 + xx) := by rw [hN.2.1]; exact hP2
      have p2 : S.2.2.1 t y = some r := by rw [hN.2.1]; exact hp
      have q1 : S.2.1 1 t = B.2.1 1 t := by rw [hN.1]
      rw [show nI 1 = (1 : Int32) from rfl] at hkt
      simp only [e_X2_turned_90, e_X2_turned_91, e_X2_turned_94, e_X2_turned_97, e_X2_turned_99, e_X2_turned_102, e_X2_turned_104, e_X2_turned_105, e_X2_turned_107, e_X2_turned_108, e_X2_turned_111, e_X2_turned_113, e_X2_turned_114, e_X2_turned_116, e_X2_turned_117, e_X2_turned_120, e_X2_turned_123, Option.bind_some, Option.bind_none, Option.toList_some, Option.toList_none, List.cons_append, List.nil_append, I_z, I_i8, I_q8, I_i7, I_q7, I_i6, I_q6, I_i5, I_q5, I_i4, I_q4, I_i3, I_q3, I_i2, I_q2, I_i1, I_q1, I_w8, I_w7, I_w6, I_w5, I_w4, I_w3, I_w2, I_c2n, I_c2i, I_c2q, eq_self, or_true, true_or, and_true, true_and, if_true, if_false, not_false_eq_true, not_true_eq_false, Option.map_none, Option.map_some, reduceCtorEq, isO, isT, isR, isM, gO_0, gO_1, gO_2, gO_3, gO_4, gO_5, gO_6, gO_7, gO_8, gO_9, gT_0, gT_1, gT_2, gR_0, gR_1, gR_2, gR_3, gM_0, gM_1, gM_2, gM_3, gM_4, gM_5, gM_6, gM_7, gM_8, gM_9, gM_10, gM_11, gM_12, gM_13, gM_14, gM_15, gM_16, gM_17, gM_18, gM_19, gM_20, lTs, lTr, lWd, lOp, lDp, lRw, lRd, nRw, nTr, nI_1, nI_add, sI_2, ht, ht2, hy12, hx12, q1, h1, p1, p2, hr2, hxx2, hkt]
    · obtain ⟨f1, f2⟩ := e4 g hg
      rw [f1, f2, sTake_I, up_ne (by omega)]
      refine ⟨rfl, ?_⟩
      by_cases hk5 : S.1 5 (n0 + xx) = 2
      · rw [sTake_F hk5, up_ne (by omega)]
      · rw [sTake_F0 hk5]
theorem k_trn_x (hB : WB B) {n0 : Nat} (ht : t < 16) (ht2 : t2 < 16) (hP2 : ∀ xx, xx < B.2.1 1 t2 → n0 + xx < B.2.1 0 1 ∧ B.2.2.1 t2 xx = some (n0 + xx) ∧ B.2.1 2 (n0 + xx) = B.2.1 1 t ∧ B.1 5 (n0 + xx) = B.1 1 t) (hP : ∀ y', y' < B.2.1 1 t → ∃ r, r < n0 ∧ B.2.2.1 t y' = some r ∧ B.2.1 1 t2 ≤ B.2.1 2 r ∧ B.1 5 r = B.1 1 t) : ∀ m xx l6 (S : St), xx + m = B.2.1 1 t2 → NW B S n0 → (∀ x', x' < xx → trn B S n0 t x' (B.2.1 1 t)) → ∃ S', ev X (d + 2) m_X2_turned 75 [some (va_rf (some (aO X))), some (.int a), some (va_rf (some (aT X t))), some (.int b), some (va_rf (some (aT X t2))), some (.int (nI xx)), l6] [] (rp X S) = some (some (.int b), rp X S') ∧ NW B S' n0 ∧ ∀ x', x' < B.2.1 1 t2 → trn B S' n0 t x' (B.2.1 1 t) := by
  have hh2 := hB.2.1 t2 ht2
  intro m
  induction m with
  | zero =>
    intro xx l6 S hx hN hT
    have h1 : nI (B.2.1 1 t2) ≤ nI xx := nI_le (by omega) (by omega)
    have ex : xx = B.2.1 1 t2 := by omega
    subst ex
    refine ⟨S, ?_, hN, hT⟩
    rw [e_X2_turned_75]
    simp only [e_X2_turned_77, e_X2_turned_79, e_X2_turned_82, e_X2_turned_126, e_X2_turned_129, e_X2_turned_132, e_X2_turned_133, Option.bind_some, Option.bind_none, Option.toList_some, Option.toList_none, List.cons_append, List.nil_append, I_z, I_i8, I_q8, I_i7, I_q7, I_i6, I_q6, I_i5, I_q5, I_i4, I_q4, I_i3, I_q3, I_i2, I_q2, I_i1, I_q1, I_w8, I_w7, I_w6, I_w5, I_w4, I_w3, I_w2, I_c2n, I_c2i, I_c2q, eq_self, or_true, true_or, and_true, true_and, if_true, if_false, not_false_eq_true, not_true_eq_false, Option.map_none, Option.map_some, reduceCtorEq, isO, isT, isR, isM, gO_0, gO_1, gO_2, gO_3, gO_4, gO_5, gO_6, gO_7, gO_8, gO_9, gT_0, gT_1, gT_2, gR_0, gR_1, gR_2, gR_3, gM_0, gM_1, gM_2, gM_3, gM_4, gM_5, gM_6, gM_7, gM_8, gM_9, gM_10, gM_11, gM_12, gM_13, gM_14, gM_15, gM_16, gM_17, gM_18, gM_19, gM_20, lTs, lTr, lWd, lOp, lDp, lRw, lRd, nRw, nTr, nI_1, nI_add, sI_2, ht2, hN.1, h1]
  | succ m ih =>
    intro xx l6 S hx hN hT
    have h1 : ¬ nI (B.2.1 1 t2) ≤ nI xx := nI_ge (by omega) (by omega)
    obtain ⟨p1, p2, p3, p4⟩ := hP2 xx (by omega)
    obtain ⟨S1, e1, e2, e3, e4⟩ := k_trn_y (X := X) (d := d) (a := a) (b := b) hB p1 ht ht2 p2 (by omega) p3 p4 (fun y' hy' => by
      obtain ⟨r, q1, q2, q3, q4⟩ := hP y' hy'
      exact ⟨r, q1, q2, by omega, q4⟩) (B.2.1 1 t) 0 S (by omega) hN (fun y' hy' => by omega)
    rw [nI_0] at e1
    obtain ⟨S2, f1, f2, f3⟩ := ih (xx + 1) (some (.int (nI (B.2.1 1 t)))) S1 (by omega) e2 (fun x' hx' => by
      rcases Nat.lt_or_ge x' xx with z | z
      · intro y' hy' r hr
        obtain ⟨g1, g2⟩ := e4 (n0 + x') (by omega)
        rw [g1, g2]
        exact hT x' z y' hy' r hr
      · have : x' = xx := by omega
        subst this; exact e3)
    refine ⟨S2, ?_, f2, f3⟩
    rw [← f1, e_X2_turned_75]
    simp only [e_X2_turned_77, e_X2_turned_79, e_X2_turned_82, e_X2_turned_85, e_X2_turned_86, Option.bind_some, Option.bind_none, Option.toList_some, Option.toList_none, List.cons_append, List.nil_append, I_z, I_i8, I_q8, I_i7, I_q7, I_i6, I_q6, I_i5, I_q5, I_i4, I_q4, I_i3, I_q3, I_i2, I_q2, I_i1, I_q1, I_w8, I_w7, I_w6, I_w5, I_w4, I_w3, I_w2, I_c2n, I_c2i, I_c2q, eq_self, or_true, true_or, and_true, true_and, if_true, if_false, not_false_eq_true, not_true_eq_false, Option.map_none, Option.map_some, reduceCtorEq, isO, isT, isR, isM, gO_0, gO_1, gO_2, gO_3, gO_4, gO_5, gO_6, gO_7, gO_8, gO_9, gT_0, gT_1, gT_2, gR_0, gR_1, gR_2, gR_3, gM_0, gM_1, gM_2, gM_3, gM_4, gM_5, gM_6, gM_7, gM_8, gM_9, gM_10, gM_11, gM_12, gM_13, gM_14, gM_15, gM_16, gM_17, gM_18, gM_19, gM_20, lTs, lTr, lWd, lOp, lDp, lRw, lRd, nRw, nTr, nI_1, nI_add, sI_2, ht2, hN.1, h1, e1]
    simp only [e_X2_turned_126, e_X2_turned_129, e_X2_turned_132, e_X2_turned_133, Option.bind_some, Option.bind_none, Option.toList_some, Option.toList_none, List.cons_append, List.nil_append, I_z, I_i8, I_q8, I_i7, I_q7, I_i6, I_q6, I_i5, I_q5, I_i4, I_q4, I_i3, I_q3, I_i2, I_q2, I_i1, I_q1, I_w8, I_w7, I_w6, I_w5, I_w4, I_w3, I_w2, I_c2n, I_c2i, I_c2q, eq_self, or_true, true_or, and_true, true_and, if_true, if_false, not_false_eq_true, not_true_eq_false, Option.map_none, Option.map_some, reduceCtorEq, isO, isT, isR, isM, gO_0, gO_1, gO_2, gO_3, gO_4, gO_5, gO_6, gO_7, gO_8, gO_9, gT_0, gT_1, gT_2, gR_0, gR_1, gR_2, gR_3, gM_0, gM_1, gM_2, gM_3, gM_4, gM_5, gM_6, gM_7, gM_8, gM_9, gM_10, gM_11, gM_12, gM_13, gM_14, gM_15, gM_16, gM_17, gM_18, gM_19, gM_20, lTs, lTr, lWd, lOp, lDp, lRw, lRd, nRw, nTr, nI_1, nI_add, sI_2]
end PB4
