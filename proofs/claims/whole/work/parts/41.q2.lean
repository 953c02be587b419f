/-! The reference: even tables made. -/
section Q20
variable {X : I_X} {S S0 A S2 S3 : St} {nu : Nat → Nat} {d t t2 r r2 i j n m g R tc hi w p q : Nat} {a b c e v x y z k : Int32} {f : Nat → Int32} {F : Nat → UInt64}
/-- S0 with a new table, i rows of it made -/
def EvP (S0 S : St) (k : Int32) (hi w tc R i : Nat) : Prop := cEq S S0 ∧ S.1 20 0 = nI (tc + 1) ∧ S.1 20 4 = nI (R + i) ∧ (∀ q, q ≠ 0 → q ≠ 4 → S.1 20 q = S0.1 20 q) ∧ S.1 40 = upd (S0.1 40) tc k ∧ S.1 41 = upd (S0.1 41) tc (nI hi) ∧ (∀ p, S.1 42 p = if 12 * tc ≤ p ∧ p < 12 * tc + i then nI (R + (p - 12 * tc)) else if 12 * tc ≤ p ∧ p < 12 * tc + hi then -1 else S0.1 42 p) ∧ (∀ r, S.1 43 r = if R ≤ r ∧ r < R + i then nI w else S0.1 43 r) ∧ (∀ p, S.1 44 p = if 16 * R ≤ p ∧ p < 16 * (R + i) then fil k else S0.1 44 p) ∧ (∀ p, S.2.2.2 0 p = if 16 * R ≤ p ∧ p < 16 * (R + i) then 0 else S0.2.2.2 0 p) ∧ ∀ g, 46 ≤ g → g < 100 → S.1 g = S0.1 g
theorem qRow_c : cEq (qRow S k n R) S := by
  unfold qRow
  exact (cEq_sI (by omega) (by omega)).trans (cEq_sF.trans ((cEq_sI (by omega) (by omega)).trans (cEq_sI (by omega) (by omega))))
theorem qRow_20 : (qRow S k n R).1 20 = upd (S.1 20) 4 (nI (R + 1)) := by unfold qRow; rw [sI_g]
theorem qRow_43 : (qRow S k n R).1 43 = upd (S.1 43) R (nI n) := by unfold qRow; rw [sI_ne (by omega), sF_1, sI_ne (by omega), sI_g]
theorem qRow_44 : (qRow S k n R).1 44 = blk (S.1 44) (16 * R) (fil k) 16 := by unfold qRow; rw [sI_ne (by omega), sF_1, sI_g]
theorem qRow_F : (qRow S k n R).2.2.2 0 = blk (S.2.2.2 0) (16 * R) 0 16 := by
  unfold qRow
  rw [sI_2, sF_0]
theorem qRow_g (h1 : g ≠ 20) (h2 : g ≠ 43) (h3 : g ≠ 44) : (qRow S k n R).1 g = S.1 g := by unfold qRow; rw [sI_ne h1, sF_1, sI_ne h3, sI_ne h2]
theorem EvP_step (ht : tc < 16) (hi12 : hi ≤ 12) (hi' : i < hi) (h : EvP S0 S k hi w tc R i) : EvP S0 (sI (qRow S k w (R + i)) 42 (upd ((qRow S k w (R + i)).1 42) (12 * tc + i) (nI (R + i)))) k hi w tc R (i + 1) := by
  obtain ⟨h1, h2, h3, h4, h5, h6, h7, h8, h9, h10, h11⟩ := h
  refine ⟨(cEq_sI (by omega) (by omega)).trans (qRow_c.trans h1), ?_, ?_, fun q q0 q4 => ?_, ?_, ?_, fun p => ?_, fun r => ?_, fun p => ?_, fun p => ?_, fun g g1 g2 => ?_⟩
  · rw [sI_ne (by omega), qRow_20, pk_un (by omega)]; exact h2
  · rw [sI_ne (by omega), qRow_20, pk_us]; congr 1
  · rw [sI_ne (by omega), qRow_20, pk_un q4]; exact h4 q q0 q4
  · rw [sI_ne (by omega), qRow_g (by omega) (by omega) (by omega)]; exact h5
  · rw [sI_ne (by omega), qRow_g (by omega) (by omega) (by omega)]; exact h6
  · rw [sI_g, qRow_g (by omega) (by omega) (by omega)]
    by_cases c : p = 12 * tc + i
    · subst c; rw [pk_us, if_pos (by omega)]; congr 1; omega
    · rw [pk_un c, h7 p]
      by_cases c2 : 12 * tc ≤ p ∧ p < 12 * tc + i
      · rw [if_pos c2, if_pos (by omega)]
      · rw [if_neg c2, if_neg (show ¬ (12 * tc ≤ p ∧ p < 12 * tc + (i + 1)) by omega)]
  · rw [sI_ne (by omega), qRow_43]
    by_cases c : r = R + i
    · subst c; rw [pk_us, if_pos (by omega)]
    · rw [pk_un c, h8 r]
      by_cases c2 : R ≤ r ∧ r < R + i
      · rw [if_pos c2, if_pos (by omega)]
      · rw [if_neg c2, if_neg (by omega)]
  · rw [sI_ne (by omega), qRow_44]
    unfold blk
    by_cases c : 16 * (R + i) ≤ p ∧ p < 16 * (R + i) + 16
    · rw [if_pos c, if_pos (by omega)]
    · rw [if_neg c, h9 p]
      by_cases c2 : 16 * R ≤ p ∧ p < 16 * (R + i)
      · rw [if_pos c2, if_pos (by omega)]
      · rw [if_neg c2, if_neg (by omega)]
  · rw [sI_2, qRow_F]
    unfold blk
    by_cases c : 16 * (R + i) ≤ p ∧ p < 16 * (R + i) + 16
    · rw [if_pos c, if_pos (by omega)]
    · rw [if_neg c, h10 p]
      by_cases c2 : 16 * R ≤ p ∧ p < 16 * (R + i)
      · rw [if_pos c2, if_pos (by omega)]
      · rw [if_neg c2, if_neg (by omega)]
  · rw [sI_ne (by omega), qRow_g (by omega) (by omega) (by omega)]; exact h11 g g1 g2
theorem EvP_0 : EvP S0 (qTab S0 k hi tc) k hi w tc R 0 ↔ S0.1 20 4 = nI R := by
  have c0 : cEq (qTab S0 k hi tc) S0 := by
    unfold qTab
    exact (cEq_sI (by omega) (by omega)).trans ((cEq_sI (by omega) (by omega)).trans ((cEq_sI (by omega) (by omega)).trans (cEq_sI (by omega) (by omega))))
  have e20 : (qTab S0 k hi tc).1 20 = upd (S0.1 20) 0 (nI (tc + 1)) := by unfold qTab; rw [sI_g]
  constructor
  · intro h
    have := h.2.2.1
    rw [e20, pk_un (by omega)] at this
    exact this
  · intro h
    refine ⟨c0, by rw [e20, pk_us], by rw [e20, pk_un (by omega)]; exact h, fun q q0 q4 => by rw [e20, pk_un q0], ?_, ?_, fun p => ?_, fun r => ?_, fun p => ?_, fun p => ?_, fun g g1 g2 => ?_⟩
    · unfold qTab; rw [sI_ne (by omega), sI_ne (by omega), sI_ne (by omega), sI_g]
    · unfold qTab; rw [sI_ne (by omega), sI_ne (by omega), sI_g]
    · unfold qTab
      rw [sI_ne (by omega), sI_g, if_neg (by omega)]
      rfl
    · unfold qTab; rw [sI_ne (by omega), sI_ne (by omega), sI_ne (by omega), sI_ne (by omega), if_neg (by omega)]
    · unfold qTab; rw [sI_ne (by omega), sI_ne (by omega), sI_ne (by omega), sI_ne (by omega), if_neg (by omega)]
    · rw [if_neg (by omega)]; rfl
    · unfold qTab; rw [sI_ne (by omega), sI_ne (by omega), sI_ne (by omega), sI_ne (by omega)]
theorem q_ne_loop (ht : tc < 16) (hi12 : hi ≤ 12) (hR : R + 12 < 900) : ∀ m i (S : St), i + m = hi → EvP S0 S k hi w tc R i → ∃ S', ev X (d + 1) m_X3_newEven 11 [some (va_rf (some (aM X))), some (.int k), some (.int (nI hi)), some (.int (nI w)), some (.int (nI tc)), some (.int (nI i))] [] (rp X S) = some (some (.int (nI tc)), rp X S') ∧ EvP S0 S' k hi w tc R hi := by
  intro m
  induction m with
  | zero =>
    intro i S hi' hE
    have e : i = hi := by omega
    subst e
    have h1 : nI i ≤ nI i := nI_le (Nat.le_refl _) (by omega)
    refine ⟨S, ?_, hE⟩
    rw [e_X3_newEven_11]
    simp only [e_X3_newEven_13, e_X3_newEven_14, e_X3_newEven_17, e_X3_newEven_18, e_X3_newEven_21, e_X3_newEven_23, e_X3_newEven_25, e_X3_newEven_26, e_X3_newEven_28, e_X3_newEven_29, e_X3_newEven_30, e_X3_newEven_31, e_X3_newEven_32, e_X3_newEven_35, e_X3_newEven_36, e_X3_newEven_39, e_X3_newEven_42, e_X3_newEven_44, Option.bind_some, Option.bind_none, Option.toList_some, Option.toList_none, List.cons_append, List.nil_append, I_z, I_i8, I_q8, I_i7, I_q7, I_i6, I_q6, I_i5, I_q5, I_i4, I_q4, I_i3, I_q3, I_i2, I_q2, I_i1, I_q1, I_w8, I_w7, I_w6, I_w5, I_w4, I_w3, I_w2, I_c2n, I_c2i, I_c2q, eq_self, or_true, true_or, and_true, true_and, if_true, if_false, not_false_eq_true, not_true_eq_false, Option.map_none, Option.map_some, reduceCtorEq, isM, gM_0, gM_1, gM_2, gM_3, gM_4, gM_5, gM_6, gM_7, gM_8, gM_9, gM_10, gM_11, gM_12, gM_13, gM_14, gM_15, gM_16, gM_17, gM_18, gM_19, gM_20, lA0, lA1, lA2, lA3, lA4, lA5, lA6, lA7, lA8, lA9, lA10, lA11, lA12, nI_1, nI_add, n12, n16, sI_2, h1]
  | succ m ih =>
    intro i S hi' hE
    have h1 : ¬ nI hi ≤ nI i := nI_ge (by omega) (by omega)
    have hb : 12 * tc + i < 192 := by omega
    obtain ⟨S', f1, f2⟩ := ih (i + 1) _ (by omega) (EvP_step ht hi12 (by omega) hE)
    refine ⟨S', ?_, f2⟩
    rw [← f1, e_X3_newEven_11]
    simp only [e_X3_newEven_13, e_X3_newEven_14, e_X3_newEven_17, e_X3_newEven_18, e_X3_newEven_21, e_X3_newEven_23, e_X3_newEven_25, e_X3_newEven_26, e_X3_newEven_28, e_X3_newEven_29, e_X3_newEven_30, e_X3_newEven_31, e_X3_newEven_32, e_X3_newEven_35, e_X3_newEven_36, e_X3_newEven_39, e_X3_newEven_42, e_X3_newEven_44, Option.bind_some, Option.bind_none, Option.toList_some, Option.toList_none, List.cons_append, List.nil_append, I_z, I_i8, I_q8, I_i7, I_q7, I_i6, I_q6, I_i5, I_q5, I_i4, I_q4, I_i3, I_q3, I_i2, I_q2, I_i1, I_q1, I_w8, I_w7, I_w6, I_w5, I_w4, I_w3, I_w2, I_c2n, I_c2i, I_c2q, eq_self, or_true, true_or, and_true, true_and, if_true, if_false, not_false_eq_true, not_true_eq_false, Option.map_none, Option.map_some, reduceCtorEq, isM, gM_0, gM_1, gM_2, gM_3, gM_4, gM_5, gM_6, gM_7, gM_8, gM_9, gM_10, gM_11, gM_12, gM_13, gM_14, gM_15, gM_16, gM_17, gM_18, gM_19, gM_20, lA0, lA1, lA2, lA3, lA4, lA5, lA6, lA7, lA8, lA9, lA10, lA11, lA12, nI_1, nI_add, n12, n16, sI_2, h1, q_newRow (k := k) (n := w) (show R + i < 900 by omega) hE.2.2.1, uA2, hb]
theorem q_newEven (ht : tc < 16) (hi12 : hi ≤ 12) (hR : R + 12 < 900) (hM : S.1 20 0 = nI tc) (hM4 : S.1 20 4 = nI R) : ∃ S', ev X (d + 1) m_X3_newEven 0 [some (va_rf (some (aM X))), some (.int k), some (.int (nI hi)), some (.int (nI w)), none, none] [] (rp X S) = some (some (.int (nI tc)), rp X S') ∧ EvP S S' k hi w tc R hi := by
  obtain ⟨S', f1, f2⟩ := q_ne_loop (X := X) (d := d) (S0 := S) (k := k) (w := w) (R := R) ht hi12 hR hi 0 (qTab S k hi tc) (by omega) (EvP_0.mpr hM4)
  rw [nI_0] at f1
  refine ⟨S', ?_, f2⟩
  simp only [e_X3_newEven_0, e_X3_newEven_1, e_X3_newEven_2, e_X3_newEven_3, e_X3_newEven_6, e_X3_newEven_8, e_X3_newEven_9, Option.bind_some, Option.bind_none, Option.toList_some, Option.toList_none, List.cons_append, List.nil_append, I_z, I_i8, I_q8, I_i7, I_q7, I_i6, I_q6, I_i5, I_q5, I_i4, I_q4, I_i3, I_q3, I_i2, I_q2, I_i1, I_q1, I_w8, I_w7, I_w6, I_w5, I_w4, I_w3, I_w2, I_c2n, I_c2i, I_c2q, eq_self, or_true, true_or, and_true, true_and, if_true, if_false, not_false_eq_true, not_true_eq_false, Option.map_none, Option.map_some, reduceCtorEq, isM, gM_0, gM_1, gM_2, gM_3, gM_4, gM_5, gM_6, gM_7, gM_8, gM_9, gM_10, gM_11, gM_12, gM_13, gM_14, gM_15, gM_16, gM_17, gM_18, gM_19, gM_20, lA0, lA1, lA2, lA3, lA4, lA5, lA6, lA7, lA8, lA9, lA10, lA11, lA12, nI_1, nI_add, n12, n16, sI_2, q_newTable (k := k) ht hi12 hM, f1]
/-- how many of the first n are nought -/
def cntZ (f : Nat → Int32) : Nat → Nat
  | 0 => 0
  | n + 1 => cntZ f n + if f n = 0 then 1 else 0
theorem cntZ_le : ∀ n, cntZ f n ≤ n := by
  intro n
  induction n with
  | zero => exact Nat.le_refl _
  | succ n ih => unfold cntZ; split <;> omega
theorem cntZ_mono : ∀ n m, n ≤ m → cntZ f n ≤ cntZ f m := by
  intro n m h
  induction h with
  | refl => exact Nat.le_refl _
  | step _ ih => exact Nat.le_trans ih (by show _ ≤ cntZ f _ + _; omega)
theorem cntZ_lt (hf : f n = 0) (h : n < m) : cntZ f n < cntZ f m := by
  have h1 := cntZ_mono (f := f) (n + 1) m h
  have h2 : cntZ f (n + 1) = cntZ f n + 1 := by show cntZ f n + (if f n = 0 then 1 else 0) = _; rw [if_pos hf]
  omega
theorem cntZ_upd : ∀ n, cntZ (upd f q 0) n ≤ cntZ f n + 1 ∧ (n ≤ q → cntZ (upd f q 0) n = cntZ f n) := by
  intro n
  induction n with
  | zero => exact ⟨by show 0 ≤ 0 + 1; omega, fun _ => rfl⟩
  | succ n ih =>
    constructor
    · by_cases c : n = q
      · have := ih.2 (by omega)
        show cntZ (upd f q 0) n + _ ≤ cntZ f n + _ + 1
        split <;> split <;> omega
      · have := ih.1
        show cntZ (upd f q 0) n + (if upd f q 0 n = 0 then 1 else 0) ≤ cntZ f n + (if f n = 0 then 1 else 0) + 1
        rw [pk_un c]; omega
    · intro h
      show cntZ (upd f q 0) n + (if upd f q 0 n = 0 then 1 else 0) = cntZ f n + (if f n = 0 then 1 else 0)
      rw [ih.2 (by omega), pk_un (by omega)]
theorem cntZ_0 (h : ∀ r, r < n → f r ≠ 0) : cntZ f n = 0 := by
  induction n with
  | zero => rfl
  | succ n ih =>
    show cntZ f n + (if f n = 0 then 1 else 0) = 0
    rw [ih (fun r hr => h r (by omega)), if_neg (h n (by omega))]
/-- place p of the reference stands in a table -/
def vp (A : St) (p : Nat) : Prop := p / 12 < A.2.1 0 0 ∧ p % 12 < A.2.1 1 (p / 12)
theorem q_sq1 (hR : R ≤ 511) (f : Nat → Int32) : ∀ m i (S : St), i + m = R → S.1 20 4 = nI R → S.1 46 = blk f 0 (-1) i → ev X d m_X3_squeeze 13 [some (va_rf (some (aM X))), some (.int (nI i)), none, none] [] (rp X S) = ev X d m_X3_squeeze 34 [some (va_rf (some (aM X))), some (.int (nI R)), none, none] [] (rp X (sI S 46 (blk f 0 (-1) R))) := by
  intro m
  induction m with
  | zero =>
    intro i S hi hM h6
    have e : i = R := by omega
    subst e
    have h1 : nI i ≤ nI i := nI_le (Nat.le_refl _) (by omega)
    rw [← h6, sI_self, e_X3_squeeze_13]
    simp only [e_X3_squeeze_14, e_X3_squeeze_15, e_X3_squeeze_18, e_X3_squeeze_21, e_X3_squeeze_22, e_X3_squeeze_25, e_X3_squeeze_26, e_X3_squeeze_27, e_X3_squeeze_28, e_X3_squeeze_31, Option.bind_some, Option.bind_none, Option.toList_some, Option.toList_none, List.cons_append, List.nil_append, I_z, I_i8, I_q8, I_i7, I_q7, I_i6, I_q6, I_i5, I_q5, I_i4, I_q4, I_i3, I_q3, I_i2, I_q2, I_i1, I_q1, I_w8, I_w7, I_w6, I_w5, I_w4, I_w3, I_w2, I_c2n, I_c2i, I_c2q, eq_self, or_true, true_or, and_true, true_and, if_true, if_false, not_false_eq_true, not_true_eq_false, Option.map_none, Option.map_some, reduceCtorEq, isM, gM_0, gM_1, gM_2, gM_3, gM_4, gM_5, gM_6, gM_7, gM_8, gM_9, gM_10, gM_11, gM_12, gM_13, gM_14, gM_15, gM_16, gM_17, gM_18, gM_19, gM_20, lA0, lA1, lA2, lA3, lA4, lA5, lA6, lA7, lA8, lA9, lA10, lA11, lA12, nI_1, nI_add, n12, n16, sI_2, hM, h1]
  | succ m ih =>
    intro i S hi hM h6
    have h1 : ¬ nI R ≤ nI i := nI_ge (by omega) (by omega)
    have hb : i < 900 := by omega
    have hb2 : upd (blk f 0 (-1) i) i (-1) = blk f 0 (-1) (i + 1) := by
      have := blk_s (f := f) (p := 0) (v := -1) (m := i)
      rw [Nat.zero_add] at this; exact this
    have ih1 := ih (i + 1) (sI S 46 (upd (S.1 46) i (-1))) (by omega) (by rw [sI_ne (by omega)]; exact hM) (by rw [sI_g, h6, hb2])
    rw [sI_sI] at ih1
    rw [← ih1, e_X3_squeeze_13]
    simp only [e_X3_squeeze_14, e_X3_squeeze_15, e_X3_squeeze_18, e_X3_squeeze_21, e_X3_squeeze_22, e_X3_squeeze_25, e_X3_squeeze_26, e_X3_squeeze_27, e_X3_squeeze_28, e_X3_squeeze_31, Option.bind_some, Option.bind_none, Option.toList_some, Option.toList_none, List.cons_append, List.nil_append, I_z, I_i8, I_q8, I_i7, I_q7, I_i6, I_q6, I_i5, I_q5, I_i4, I_q4, I_i3, I_q3, I_i2, I_q2, I_i1, I_q1, I_w8, I_w7, I_w6, I_w5, I_w4, I_w3, I_w2, I_c2n, I_c2i, I_c2q, eq_self, or_true, true_or, and_true, true_and, if_true, if_false, not_false_eq_true, not_true_eq_false, Option.map_none, Option.map_some, reduceCtorEq, isM, gM_0, gM_1, gM_2, gM_3, gM_4, gM_5, gM_6, gM_7, gM_8, gM_9, gM_10, gM_11, gM_12, gM_13, gM_14, gM_15, gM_16, gM_17, gM_18, gM_19, gM_20, lA0, lA1, lA2, lA3, lA4, lA5, lA6, lA7, lA8, lA9, lA10, lA11, lA12, nI_1, nI_add, n12, n16, sI_2, hM, h1, uA6, hb]
/-- the walk over the places: what each does to the marks -/
noncomputable def mrk (A : St) (nu : Nat → Nat) (f : Nat → Int32) (p : Nat) : Nat → Int32 := @ite _ (vp A p) (Classical.propDecidable _) (match A.2.2.1 (p / 12) (p % 12) with
  | none => f
  | some r => upd f (nu r) 0) f
noncomputable def mrkA (A : St) (nu : Nat → Nat) (f : Nat → Int32) : Nat → Nat → Int32
  | 0 => f
  | p + 1 => mrk A nu (mrkA A nu f p) p
theorem p12 (h : p < 192) : nI p / (12 : Int32) = nI (p / 12) ∧ nI p - nI (p / 12) * (12 : Int32) = nI (p % 12) := by
  have h1 : nI p / (12 : Int32) = nI (p / 12) := pk_div (d := 12) (by omega) (by omega) (by omega)
  refine ⟨h1, ?_⟩
  have := pk_rem (a := p) (d := 12) (by omega) (by omega) (by omega)
  rw [← h1]; exact this
theorem q_sq2 (hW : WB A) (hsim : Sim S0 A nu) (f : Nat → Int32) : ∀ m p (S : St), p + m = 192 → (∀ g, g ≠ 46 → S.1 g = S0.1 g) → S.1 46 = mrkA A nu f p → ev X d m_X3_squeeze 36 [some (va_rf (some (aM X))), some (.int (nI p)), none, none] [] (rp X S) = ev X d m_X3_squeeze 97 [some (va_rf (some (aM X))), some (.int (nI 192)), none, none] [] (rp X (sI S 46 (mrkA A nu f 192))) := by
  have h16 := hW.1
  intro m
  induction m with
  | zero =>
    intro p S hp hg h6
    have e : p = 192 := by omega
    subst e
    have h1 : (192 : Int32) ≤ nI 192 := by decide
    rw [← h6, sI_self, e_X3_squeeze_36]
    simp only [e_X3_squeeze_37, e_X3_squeeze_40, e_X3_squeeze_43, e_X3_squeeze_44, e_X3_squeeze_46, e_X3_squeeze_47, e_X3_squeeze_48, e_X3_squeeze_51, e_X3_squeeze_54, e_X3_squeeze_55, e_X3_squeeze_57, e_X3_squeeze_58, e_X3_squeeze_59, e_X3_squeeze_62, e_X3_squeeze_63, e_X3_squeeze_65, e_X3_squeeze_66, e_X3_squeeze_67, e_X3_squeeze_70, e_X3_squeeze_71, e_X3_squeeze_74, e_X3_squeeze_75, e_X3_squeeze_76, e_X3_squeeze_79, e_X3_squeeze_80, e_X3_squeeze_83, e_X3_squeeze_84, e_X3_squeeze_87, e_X3_squeeze_88, e_X3_squeeze_89, e_X3_squeeze_90, e_X3_squeeze_91, e_X3_squeeze_94, Option.bind_some, Option.bind_none, Option.toList_some, Option.toList_none, List.cons_append, List.nil_append, I_z, I_i8, I_q8, I_i7, I_q7, I_i6, I_q6, I_i5, I_q5, I_i4, I_q4, I_i3, I_q3, I_i2, I_q2, I_i1, I_q1, I_w8, I_w7, I_w6, I_w5, I_w4, I_w3, I_w2, I_c2n, I_c2i, I_c2q, eq_self, or_true, true_or, and_true, true_and, if_true, if_false, not_false_eq_true, not_true_eq_false, Option.map_none, Option.map_some, reduceCtorEq, isM, gM_0, gM_1, gM_2, gM_3, gM_4, gM_5, gM_6, gM_7, gM_8, gM_9, gM_10, gM_11, gM_12, gM_13, gM_14, gM_15, gM_16, gM_17, gM_18, gM_19, gM_20, lA0, lA1, lA2, lA3, lA4, lA5, lA6, lA7, lA8, lA9, lA10, lA11, lA12, nI_1, nI_add, n12, n16, sI_2, h1]
  | succ m ih =>
    intro p S hp hg h6
    have hb : p < 192 := by omega
    have h1 : ¬ (192 : Int32) ≤ nI p := nI_ge (b := 192) (by omega) (by omega)
    obtain ⟨d1, d2⟩ := p12 hb
    have e12 : ¬ (12 : Int32) = 0 := by decide
    have hp16 : p / 12 < 16 := by omega
    have eM : S.1 20 0 = nI (A.2.1 0 0) := by rw [hg 20 (by omega)]; exact hsim.1
    have keep : mrk A nu (mrkA A nu f p) p = mrkA A nu f p → ev X d m_X3_squeeze 91 [some (va_rf (some (aM X))), some (.int (nI p)), none, none] [] (rp X S) = ev X d m_X3_squeeze 97 [some (va_rf (some (aM X))), some (.int (nI 192)), none, none] [] (rp X (sI S 46 (mrkA A nu f 192))) := by
      intro hk
      rw [← ih (p + 1) S (by omega) hg (by show _ = mrk A nu (mrkA A nu f p) p; rw [hk, h6])]
      simp only [e_X3_squeeze_91, e_X3_squeeze_94, Option.bind_some, Option.bind_none, Option.toList_some, Option.toList_none, List.cons_append, List.nil_append, I_z, I_i8, I_q8, I_i7, I_q7, I_i6, I_q6, I_i5, I_q5, I_i4, I_q4, I_i3, I_q3, I_i2, I_q2, I_i1, I_q1, I_w8, I_w7, I_w6, I_w5, I_w4, I_w3, I_w2, I_c2n, I_c2i, I_c2q, eq_self, or_true, true_or, and_true, true_and, if_true, if_false, not_false_eq_true, not_true_eq_false, Option.map_none, Option.map_some, reduceCtorEq, isM, gM_0, gM_1, gM_2, gM_3, gM_4, gM_5, gM_6, gM_7, gM_8, gM_9, gM_10, gM_11, gM_12, gM_13, gM_14, gM_15, gM_16, gM_17, gM_18, gM_19, gM_20, lA0, lA1, lA2, lA3, lA4, lA5, lA6, lA7, lA8, lA9, lA10, lA11, lA12, nI_1, nI_add, n12, n16, sI_2]
    rw [e_X3_squeeze_36]
    by_cases c1 : p / 12 < A.2.1 0 0
    · have c1' : ¬ nI (A.2.1 0 0) ≤ nI (p / 12) := nI_ge c1 (by omega)
      have hv := hsim.tv hW c1
      have eh : S.1 41 (p / 12) = nI (A.2.1 1 (p / 12)) := by rw [hg 41 (by omega)]; exact hv.2.1
      have h12 := hv.2.2.1
      by_cases c2 : p % 12 < A.2.1 1 (p / 12)
      · have c2' : ¬ nI (A.2.1 1 (p / 12)) ≤ nI (p % 12) := nI_ge c2 (by omega)
        have hq := hv.2.2.2.2.1 (p % 12) c2
        rw [show 12 * (p / 12) + p % 12 = p by omega, ← hg 42 (by omega)] at hq
        cases hpl : A.2.2.1 (p / 12) (p % 12) with
        | none =>
          rw [hpl, plN_n] at hq
          have hk := keep (by unfold mrk; rw [if_pos ⟨c1, c2⟩, hpl])
          simp only [e_X3_squeeze_37, e_X3_squeeze_40, e_X3_squeeze_43, e_X3_squeeze_44, e_X3_squeeze_46, e_X3_squeeze_47, e_X3_squeeze_48, e_X3_squeeze_51, e_X3_squeeze_54, e_X3_squeeze_55, e_X3_squeeze_57, e_X3_squeeze_58, e_X3_squeeze_59, e_X3_squeeze_62, e_X3_squeeze_63, e_X3_squeeze_65, e_X3_squeeze_66, e_X3_squeeze_67, e_X3_squeeze_70, e_X3_squeeze_71, e_X3_squeeze_74, e_X3_squeeze_75, e_X3_squeeze_76, e_X3_squeeze_79, e_X3_squeeze_80, e_X3_squeeze_83, e_X3_squeeze_84, e_X3_squeeze_87, e_X3_squeeze_88, e_X3_squeeze_89, e_X3_squeeze_90, Option.bind_some, Option.bind_none, Option.toList_some, Option.toList_none, List.cons_append, List.nil_append, I_z, I_i8, I_q8, I_i7, I_q7, I_i6, I_q6, I_i5, I_q5, I_i4, I_q4, I_i3, I_q3, I_i2, I_q2, I_i1, I_q1, I_w8, I_w7, I_w6, I_w5, I_w4, I_w3, I_w2, I_c2n, I_c2i, I_c2q, eq_self, or_true, true_or, and_true, true_and, if_true, if_false, not_false_eq_true, not_true_eq_false, Option.map_none, Option.map_some, reduceCtorEq, isM, gM_0, gM_1, gM_2, gM_3, gM_4, gM_5, gM_6, gM_7, gM_8, gM_9, gM_10, gM_11, gM_12, gM_13, gM_14, gM_15, gM_16, gM_17, gM_18, gM_19, gM_20, lA0, lA1, lA2, lA3, lA4, lA5, lA6, lA7, lA8, lA9, lA10, lA11, lA12, nI_1, nI_add, n12, n16, sI_2, h1, d1, d2, e12, eM, c1', hp16, eh, c2', hb, hq, neg1_lt, hk]
        | some r =>
          rw [hpl, plN_s] at hq
          obtain ⟨g1, g2, g3⟩ := hv.2.2.2.2.2 (p % 12) r c2 hpl
          have gg : ¬ nI (nu r) < 0 := nI_pos (by omega)
          have g9 : nu r < 900 := by omega
          have ih1 := ih (p + 1) (sI S 46 (upd (S.1 46) (nu r) 0)) (by omega) (fun g hg' => by rw [sI_ne hg']; exact hg g hg') (by
            rw [sI_g, h6]
            show _ = mrk A nu (mrkA A nu f p) p
            unfold mrk
            rw [if_pos ⟨c1, c2⟩, hpl])
          rw [sI_sI] at ih1
          rw [← ih1]
          simp only [e_X3_squeeze_37, e_X3_squeeze_40, e_X3_squeeze_43, e_X3_squeeze_44, e_X3_squeeze_46, e_X3_squeeze_47, e_X3_squeeze_48, e_X3_squeeze_51, e_X3_squeeze_54, e_X3_squeeze_55, e_X3_squeeze_57, e_X3_squeeze_58, e_X3_squeeze_59, e_X3_squeeze_62, e_X3_squeeze_63, e_X3_squeeze_65, e_X3_squeeze_66, e_X3_squeeze_67, e_X3_squeeze_70, e_X3_squeeze_71, e_X3_squeeze_74, e_X3_squeeze_75, e_X3_squeeze_76, e_X3_squeeze_79, e_X3_squeeze_80, e_X3_squeeze_83, e_X3_squeeze_84, e_X3_squeeze_87, e_X3_squeeze_88, e_X3_squeeze_89, e_X3_squeeze_90, e_X3_squeeze_91, e_X3_squeeze_94, Option.bind_some, Option.bind_none, Option.toList_some, Option.toList_none, List.cons_append, List.nil_append, I_z, I_i8, I_q8, I_i7, I_q7, I_i6, I_q6, I_i5, I_q5, I_i4, I_q4, I_i3, I_q3, I_i2, I_q2, I_i1, I_q1, I_w8, I_w7, I_w6, I_w5, I_w4, I_w3, I_w2, I_c2n, I_c2i, I_c2q, eq_self, or_true, true_or, and_true, true_and, if_true, if_false, not_false_eq_true, not_true_eq_false, Option.map_none, Option.map_some, reduceCtorEq, isM, gM_0, gM_1, gM_2, gM_3, gM_4, gM_5, gM_6, gM_7, gM_8, gM_9, gM_10, gM_11, gM_12, gM_13, gM_14, gM_15, gM_16, gM_17, gM_18, gM_19, gM_20, lA0, lA1, lA2, lA3, lA4, lA5, lA6, lA7, lA8, lA9, lA10, lA11, lA12, nI_1, nI_add, n12, n16, sI_2, h1, d1, d2, e12, eM, c1', hp16, eh, c2', hb, hq, gg, uA6, g9]
      · have c2' : nI (A.2.1 1 (p / 12)) ≤ nI (p % 12) := nI_le (by omega) (by omega)
        have hk := keep (by unfold mrk; rw [if_neg (fun z => c2 z.2)])
        simp only [e_X3_squeeze_37, e_X3_squeeze_40, e_X3_squeeze_43, e_X3_squeeze_44, e_X3_squeeze_46, e_X3_squeeze_47, e_X3_squeeze_48, e_X3_squeeze_51, e_X3_squeeze_54, e_X3_squeeze_55, e_X3_squeeze_57, e_X3_squeeze_58, e_X3_squeeze_59, e_X3_squeeze_62, e_X3_squeeze_63, e_X3_squeeze_65, e_X3_squeeze_66, e_X3_squeeze_67, e_X3_squeeze_70, e_X3_squeeze_71, e_X3_squeeze_74, e_X3_squeeze_75, e_X3_squeeze_76, e_X3_squeeze_79, e_X3_squeeze_80, e_X3_squeeze_83, e_X3_squeeze_84, e_X3_squeeze_87, e_X3_squeeze_88, e_X3_squeeze_89, e_X3_squeeze_90, Option.bind_some, Option.bind_none, Option.toList_some, Option.toList_none, List.cons_append, List.nil_append, I_z, I_i8, I_q8, I_i7, I_q7, I_i6, I_q6, I_i5, I_q5, I_i4, I_q4, I_i3, I_q3, I_i2, I_q2, I_i1, I_q1, I_w8, I_w7, I_w6, I_w5, I_w4, I_w3, I_w2, I_c2n, I_c2i, I_c2q, eq_self, or_true, true_or, and_true, true_and, if_true, if_false, not_false_eq_true, not_true_eq_false, Option.map_none, Option.map_some, reduceCtorEq, isM, gM_0, gM_1, gM_2, gM_3, gM_4, gM_5, gM_6, gM_7, gM_8, gM_9, gM_10, gM_11, gM_12, gM_13, gM_14, gM_15, gM_16, gM_17, gM_18, gM_19, gM_20, lA0, lA1, lA2, lA3, lA4, lA5, lA6, lA7, lA8, lA9, lA10, lA11, lA12, nI_1, nI_add, n12, n16, sI_2, h1, d1, d2, e12, eM, c1', hp16, eh, c2', hk]
    · have c1' : nI (A.2.1 0 0) ≤ nI (p / 12) := nI_le (by omega) (by omega)
      have hk := keep (by unfold mrk; rw [if_neg (fun z => c1 z.1)])
      simp only [e_X3_squeeze_37, e_X3_squeeze_40, e_X3_squeeze_43, e_X3_squeeze_44, e_X3_squeeze_46, e_X3_squeeze_47, e_X3_squeeze_48, e_X3_squeeze_51, e_X3_squeeze_54, e_X3_squeeze_55, e_X3_squeeze_57, e_X3_squeeze_58, e_X3_squeeze_59, e_X3_squeeze_62, e_X3_squeeze_63, e_X3_squeeze_65, e_X3_squeeze_66, e_X3_squeeze_67, e_X3_squeeze_70, e_X3_squeeze_71, e_X3_squeeze_74, e_X3_squeeze_75, e_X3_squeeze_76, e_X3_squeeze_79, e_X3_squeeze_80, e_X3_squeeze_83, e_X3_squeeze_84, e_X3_squeeze_87, e_X3_squeeze_88, e_X3_squeeze_89, e_X3_squeeze_90, Option.bind_some, Option.bind_none, Option.toList_some, Option.toList_none, List.cons_append, List.nil_append, I_z, I_i8, I_q8, I_i7, I_q7, I_i6, I_q6, I_i5, I_q5, I_i4, I_q4, I_i3, I_q3, I_i2, I_q2, I_i1, I_q1, I_w8, I_w7, I_w6, I_w5, I_w4, I_w3, I_w2, I_c2n, I_c2i, I_c2q, eq_self, or_true, true_or, and_true, true_and, if_true, if_false, not_false_eq_true, not_true_eq_false, Option.map_none, Option.map_some, reduceCtorEq, isM, gM_0, gM_1, gM_2, gM_3, gM_4, gM_5, gM_6, gM_7, gM_8, gM_9, gM_10, gM_11, gM_12, gM_13, gM_14, gM_15, gM_16, gM_17, gM_18, gM_19, gM_20, lA0, lA1, lA2, lA3, lA4, lA5, lA6, lA7, lA8, lA9, lA10, lA11, lA12, nI_1, nI_add, n12, n16, sI_2, h1, d1, d2, e12, eM, c1', hk]
theorem mrkA_v : ∀ p r, mrkA A nu f p r = f r ∨ mrkA A nu f p r = 0 := by
  intro p
  induction p with
  | zero => intro r; exact Or.inl rfl
  | succ p ih =>
    intro r
    show mrk A nu (mrkA A nu f p) p r = f r ∨ mrk A nu (mrkA A nu f p) p r = 0
    unfold mrk
    split
    · cases hpp : A.2.2.1 (p / 12) (p % 12) with
      | none => exact ih r
      | some r' =>
        show upd (mrkA A nu f p) (nu r') 0 r = f r ∨ upd (mrkA A nu f p) (nu r') 0 r = 0
        by_cases c : r = nu r'
        · right; rw [c, pk_us]
        · rw [pk_un c]; exact ih r
    · exact ih r
theorem mrkA_0 : ∀ p q, q < p → vp A q → ∀ r, A.2.2.1 (q / 12) (q % 12) = some r → mrkA A nu f p (nu r) = 0 := by
  intro p
  induction p with
  | zero => intro q hq; omega
  | succ p ih =>
    intro q hq hv r hr
    show mrk A nu (mrkA A nu f p) p (nu r) = 0
    unfold mrk
    by_cases c : q = p
    · subst c
      rw [if_pos hv, hr]
      exact pk_us
    · have h := ih q (by omega) hv r hr
      split
      · cases hpp : A.2.2.1 (p / 12) (p % 12) with
        | none => exact h
        | some r' =>
          show upd (mrkA A nu f p) (nu r') 0 (nu r) = 0
          by_cases c2 : nu r = nu r'
          · rw [c2, pk_us]
          · rw [pk_un c2]; exact h
      · exact h
theorem mrkA_n : ∀ p n, cntZ (mrkA A nu f p) n ≤ cntZ f n + p := by
  intro p
  induction p with
  | zero => intro n; exact Nat.le_refl _
  | succ p ih =>
    intro n
    show cntZ (mrk A nu (mrkA A nu f p) p) n ≤ _
    have := ih n
    unfold mrk
    split
    · cases hpp : A.2.2.1 (p / 12) (p % 12) with
      | none => show cntZ (mrkA A nu f p) n ≤ _; omega
      | some r' =>
        show cntZ (upd (mrkA A nu f p) (nu r') 0) n ≤ _
        have := (cntZ_upd (f := mrkA A nu f p) (q := nu r') n).1
        omega
    · omega
end Q20
