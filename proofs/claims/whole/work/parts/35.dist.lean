/-! Walks, and the landed code's way to their lengths. -/
section DI0
variable {E : Nat → Nat → Prop} {k L L1 L2 x y n : Nat}
/-- a walk of so many steps from x to y, all between below k -/
def Wk (E : Nat → Nat → Prop) (k : Nat) : Nat → Nat → Nat → Prop
  | 0, x, y => x = y
  | L + 1, x, y => ∃ z, Wk E k L x z ∧ (L = 0 ∨ z < k) ∧ E z y
theorem Wk_1 (h : E x y) : Wk E k 1 x y := ⟨x, rfl, Or.inl rfl, h⟩
theorem Wk_mono : ∀ L y, Wk E k L x y → Wk E (k + 1) L x y := by
  intro L
  induction L with
  | zero => intro y h; exact h
  | succ L ih =>
    rintro y ⟨z, h1, h2, h3⟩
    exact ⟨z, ih z h1, h2.imp id (fun q => by omega), h3⟩
theorem Wk_cat (h1 : Wk E k L1 x k) : ∀ L2 y, Wk E k L2 k y → Wk E (k + 1) (L1 + L2) x y := by
  intro L2
  induction L2 with
  | zero =>
    intro y h
    have : k = y := h
    subst this; exact Wk_mono _ _ h1
  | succ L2 ih =>
    rintro y ⟨z, q1, q2, q3⟩
    refine ⟨z, ih z q1, Or.inr ?_, q3⟩
    rcases q2 with q2 | q2
    · subst q2
      have : k = z := q1
      omega
    · omega
theorem Wk_dec : ∀ L y, Wk E (k + 1) L x y → (∃ L', L' ≤ L ∧ Wk E k L' x y) ∨ ∃ L1 L2, L1 + L2 ≤ L ∧ Wk E k L1 x k ∧ Wk E k L2 k y := by
  intro L
  induction L with
  | zero => intro y h; exact Or.inl ⟨0, Nat.le_refl _, h⟩
  | succ L ih =>
    rintro y ⟨z, h1, h2, h3⟩
    rcases ih z h1 with ⟨L', q1, q2⟩ | ⟨L1, L2, q1, q2, q3⟩
    · rcases Nat.eq_zero_or_pos L' with c | c
      · subst c
        have : x = z := q2
        subst this
        exact Or.inl ⟨1, by omega, Wk_1 h3⟩
      · rcases h2 with h2 | h2
        · omega
        · rcases Nat.lt_or_ge z k with c2 | c2
          · exact Or.inl ⟨L' + 1, by omega, z, q2, Or.inr c2, h3⟩
          · have : z = k := by omega
            subst this
            exact Or.inr ⟨L', 1, by omega, q2, Wk_1 h3⟩
    · rcases Nat.eq_zero_or_pos L2 with c | c
      · subst c
        have : k = z := q3
        subst this
        exact Or.inr ⟨L1, 1, by omega, q2, Wk_1 h3⟩
      · rcases h2 with h2 | h2
        · omega
        · rcases Nat.lt_or_ge z k with c2 | c2
          · exact Or.inr ⟨L1, L2 + 1, by omega, q2, z, q3, Or.inr c2, h3⟩
          · have : z = k := by omega
            subst this
            exact Or.inr ⟨L1, 1, by omega, q2, Wk_1 h3⟩
/-- v is the least number of steps, -1 if there is no walk -/
def Dst (E : Nat → Nat → Prop) (k x y : Nat) (v : Int32) : Prop := (v = -1 ∧ ∀ L, ¬ Wk E k L x y) ∨ ∃ d, d ≤ 2 ^ k ∧ v = nI d ∧ Wk E k d x y ∧ ∀ L, Wk E k L x y → d ≤ L
/-- a way through k where it is shorter -/
def shV (a b c : Int32) : Int32 := if a = -1 then c else if b = -1 then c else if c = -1 then a + b else if a + b < c then a + b else c
theorem nI_m1 {n : Nat} (h : n < 2 ^ 31) : ¬ nI n = -1 := fun q => nI_pos h (by rw [q]; decide)
theorem Dst_step {a b c : Int32} (hk : k ≤ 20) (ha : Dst E k x k a) (hb : Dst E k k y b) (hc : Dst E k x y c) : Dst E (k + 1) x y (shV a b c) := by
  have p2 : 2 ^ (k + 1) = 2 ^ k + 2 ^ k := by rw [Nat.pow_succ]; omega
  have p3 : 2 ^ k ≤ 2 ^ 20 := Nat.pow_le_pow_right (by omega) hk
  have keep : (∀ L1 L2, Wk E k L1 x k → Wk E k L2 k y → False) → Dst E (k + 1) x y c := by
    intro hno
    rcases hc with ⟨c1, c2⟩ | ⟨d, d1, d2, d3, d4⟩
    · refine Or.inl ⟨c1, fun L h => ?_⟩
      rcases Wk_dec L y h with ⟨L', _, q⟩ | ⟨L1, L2, _, q1, q2⟩
      · exact c2 L' q
      · exact hno L1 L2 q1 q2
    · refine Or.inr ⟨d, by omega, d2, Wk_mono _ _ d3, fun L h => ?_⟩
      rcases Wk_dec L y h with ⟨L', q1, q2⟩ | ⟨L1, L2, _, q1, q2⟩
      · have := d4 L' q2; omega
      · exact (hno L1 L2 q1 q2).elim
  unfold shV
  rcases ha with ⟨a1, a2⟩ | ⟨da, a1, a2, a3, a4⟩
  · rw [if_pos a1]; exact keep (fun L1 L2 q _ => a2 L1 q)
  · rcases hb with ⟨b1, b2⟩ | ⟨db, b1, b2, b3, b4⟩
    · rw [if_neg (by rw [a2]; exact nI_m1 (by omega)), if_pos b1]; exact keep (fun L1 L2 _ q => b2 L2 q)
    · rw [if_neg (by rw [a2]; exact nI_m1 (by omega)), if_neg (by rw [b2]; exact nI_m1 (by omega)), a2, b2, nI_add]
      rcases hc with ⟨c1, c2⟩ | ⟨dc, c1, c2, c3, c4⟩
      · rw [if_pos c1]
        refine Or.inr ⟨da + db, by omega, rfl, Wk_cat a3 _ _ b3, fun L h => ?_⟩
        rcases Wk_dec L y h with ⟨L', _, q⟩ | ⟨L1, L2, q0, q1, q2⟩
        · exact absurd q (c2 L')
        · have := a4 L1 q1; have := b4 L2 q2; omega
      · rw [if_neg (by rw [c2]; exact nI_m1 (by omega)), c2]
        by_cases hlt : da + db < dc
        · rw [if_pos (nI_lt hlt (by omega))]
          refine Or.inr ⟨da + db, by omega, rfl, Wk_cat a3 _ _ b3, fun L h => ?_⟩
          rcases Wk_dec L y h with ⟨L', q0, q⟩ | ⟨L1, L2, q0, q1, q2⟩
          · have := c4 L' q; omega
          · have := a4 L1 q1; have := b4 L2 q2; omega
        · rw [if_neg (nI_nlt (by omega) (by omega))]
          refine Or.inr ⟨dc, by omega, rfl, Wk_mono _ _ c3, fun L h => ?_⟩
          rcases Wk_dec L y h with ⟨L', q0, q⟩ | ⟨L1, L2, q0, q1, q2⟩
          · have := c4 L' q; omega
          · have := a4 L1 q1; have := b4 L2 q2; omega
theorem Dst_0 {b : Int32} (hb : E x y ↔ ¬ b = 0) : Dst E 0 x y (if y = x then 0 else if b = 0 then -1 else 1) := by
  by_cases h : y = x
  · rw [if_pos h]; exact Or.inr ⟨0, by omega, rfl, h.symm, fun L _ => Nat.zero_le L⟩
  · rw [if_neg h]
    by_cases hb0 : b = 0
    · rw [if_pos hb0]
      refine Or.inl ⟨rfl, fun L hL => ?_⟩
      match L, hL with
      | 0, hL => exact h (show x = y from hL).symm
      | L + 1, ⟨z, q1, q2, q3⟩ =>
        rcases q2 with q2 | q2
        · subst q2
          have : x = z := q1
          subst this
          exact hb.mp q3 hb0
        · omega
    · rw [if_neg hb0]
      refine Or.inr ⟨1, by omega, rfl, Wk_1 (hb.mpr hb0), fun L hL => ?_⟩
      match L, hL with
      | 0, hL => exact absurd (show x = y from hL).symm h
      | L + 1, _ => omega
theorem Dst_kk {v : Int32} (h : Dst E k x x v) : v = 0 := by
  rcases h with ⟨_, h2⟩ | ⟨d, h1, h2, h3, h4⟩
  · exact absurd rfl (h2 0)
  · have : d ≤ 0 := h4 0 rfl
    have : d = 0 := by omega
    rw [h2, this]; rfl
end DI0
section DI1
variable {X : I_X} {S B : St} {d t tn r r0 i j n m g w hi l yy xx n0 kk rx rk : Nat} {a b c e v x y z k : Int32} {f h : Nat → Int32}
/-- the first way of row x, and that part done -/
def stp (h : Nat → Int32) (x j : Nat) : Int32 := if j = x then 0 else if h j = 0 then -1 else 1
def wsA (f h : Nat → Int32) (x i : Nat) : Nat → Int32 := fun j => if j < i then stp h x j else f j
theorem wsA_0 : wsA f h xx 0 = f := by funext j; unfold wsA; rw [if_neg (by omega)]
theorem wsA_s : upd (wsA f h xx i) i (stp h xx i) = wsA f h xx (i + 1) := by
  funext j
  unfold upd wsA
  by_cases q : j = i
  · rw [if_pos q, if_pos (by omega), q]
  · rw [if_neg q]
    by_cases h2 : j < i
    · rw [if_pos h2, if_pos (by omega)]
    · rw [if_neg h2, if_neg (by omega)]
theorem k_ws_loop (hS : WB S) (hr : r < S.2.1 0 1) (hr0 : r0 < S.2.1 0 1) (hne : r0 ≠ r) (hl : S.2.1 2 r = n) (hl0 : S.2.1 2 r0 = n) (hx : xx < n) : ∀ m i, i + m = n → ev X d m_X2_writeSteps 2 [some (va_rf (some (aRw X r))), some (va_rf (some (aRw X r0))), some (.int (nI xx)), some (.int (nI i))] [] (rp X (sI S (100 + r) (wsA (S.1 (100 + r)) (S.1 (100 + r0)) xx i))) = some (none, rp X (sI S (100 + r) (wsA (S.1 (100 + r)) (S.1 (100 + r0)) xx n))) := by
  have h16 := (hS.2.2.2 r hr).1
  rw [hl] at h16
  have hb : n < 2 ^ 31 := by omega
  intro m
  induction m with
  | zero =>
    intro i hi
    have h1 : nI n ≤ nI i := nI_le (by omega) (by omega)
    have e : i = n := by omega
    subst e
    rw [e_X2_writeSteps_2]
    simp only [e_X2_writeSteps_3, e_X2_writeSteps_4, e_X2_writeSteps_5, e_X2_writeSteps_8, e_X2_writeSteps_9, e_X2_writeSteps_10, e_X2_writeSteps_11, e_X2_writeSteps_14, e_X2_writeSteps_15, e_X2_writeSteps_16, e_X2_writeSteps_19, e_X2_writeSteps_20, e_X2_writeSteps_21, e_X2_writeSteps_22, e_X2_writeSteps_23, e_X2_writeSteps_26, e_X2_writeSteps_27, e_X2_writeSteps_28, e_X2_writeSteps_29, e_X2_writeSteps_30, e_X2_writeSteps_31, e_X2_writeSteps_34, e_X2_writeSteps_35, e_X2_writeSteps_38, e_X2_writeSteps_39, e_X2_writeSteps_40, e_X2_writeSteps_43, e_X2_writeSteps_46, Option.bind_some, Option.bind_none, Option.toList_some, Option.toList_none, List.cons_append, List.nil_append, I_z, I_i8, I_q8, I_i7, I_q7, I_i6, I_q6, I_i5, I_q5, I_i4, I_q4, I_i3, I_q3, I_i2, I_q2, I_i1, I_q1, I_w8, I_w7, I_w6, I_w5, I_w4, I_w3, I_w2, I_c2n, I_c2i, I_c2q, eq_self, or_true, true_or, and_true, true_and, if_true, if_false, not_false_eq_true, not_true_eq_false, Option.map_none, Option.map_some, reduceCtorEq, isO, isT, isR, isM, gO_0, gO_1, gO_2, gO_3, gO_4, gO_5, gO_6, gO_7, gO_8, gO_9, gT_0, gT_1, gT_2, gR_0, gR_1, gR_2, gR_3, gM_0, gM_1, gM_2, gM_3, gM_4, gM_5, gM_6, gM_7, gM_8, gM_9, gM_10, gM_11, gM_12, gM_13, gM_14, gM_15, gM_16, gM_17, gM_18, gM_19, gM_20, lTs, lTr, lWd, lOp, lDp, lRw, lRd, nRw, nTr, nI_1, nI_add, sI_2, hr, hl, h1]
  | succ m ih =>
    intro i hi
    have h1 : ¬ nI n ≤ nI i := nI_ge (by omega) (by omega)
    have ih1 := ih (i + 1) (by omega)
    have hi1 : i < S.2.1 2 r := by omega
    have hi0 : i < S.2.1 2 r0 := by omega
    have hb1 : S.2.1 2 r < 2 ^ 31 := by omega
    have hb0 : S.2.1 2 r0 < 2 ^ 31 := by omega
    have er : va_up S.1 (100 + r) (wsA (S.1 (100 + r)) (S.1 (100 + r0)) xx i) (100 + r0) = S.1 (100 + r0) := up_ne (by omega)
    rw [← wsA_s] at ih1
    rw [e_X2_writeSteps_2]
    by_cases c1 : i = xx
    · subst c1
      have e2 : stp (S.1 (100 + r0)) i i = 0 := if_pos rfl
      rw [e2] at ih1
      simp only [e_X2_writeSteps_3, e_X2_writeSteps_4, e_X2_writeSteps_5, e_X2_writeSteps_8, e_X2_writeSteps_9, e_X2_writeSteps_10, e_X2_writeSteps_11, e_X2_writeSteps_14, e_X2_writeSteps_15, e_X2_writeSteps_16, e_X2_writeSteps_19, e_X2_writeSteps_20, e_X2_writeSteps_21, e_X2_writeSteps_22, e_X2_writeSteps_23, e_X2_writeSteps_26, e_X2_writeSteps_27, e_X2_writeSteps_28, e_X2_writeSteps_29, e_X2_writeSteps_30, e_X2_writeSteps_31, e_X2_writeSteps_34, e_X2_writeSteps_35, e_X2_writeSteps_38, e_X2_writeSteps_39, e_X2_writeSteps_40, e_X2_writeSteps_43, e_X2_writeSteps_46, Option.bind_some, Option.bind_none, Option.toList_some, Option.toList_none, List.cons_append, List.nil_append, I_z, I_i8, I_q8, I_i7, I_q7, I_i6, I_q6, I_i5, I_q5, I_i4, I_q4, I_i3, I_q3, I_i2, I_q2, I_i1, I_q1, I_w8, I_w7, I_w6, I_w5, I_w4, I_w3, I_w2, I_c2n, I_c2i, I_c2q, eq_self, or_true, true_or, and_true, true_and, if_true, if_false, not_false_eq_true, not_true_eq_false, Option.map_none, Option.map_some, reduceCtorEq, isO, isT, isR, isM, gO_0, gO_1, gO_2, gO_3, gO_4, gO_5, gO_6, gO_7, gO_8, gO_9, gT_0, gT_1, gT_2, gR_0, gR_1, gR_2, gR_3, gM_0, gM_1, gM_2, gM_3, gM_4, gM_5, gM_6, gM_7, gM_8, gM_9, gM_10, gM_11, gM_12, gM_13, gM_14, gM_15, gM_16, gM_17, gM_18, gM_19, gM_20, lTs, lTr, lWd, lOp, lDp, lRw, lRd, nRw, nTr, nI_1, nI_add, sI_2, hr, hr0, hl, hl0, h1, uRw, hi1, hx, hb, hb1, sI_1, up_eq, sI_g, sI_sI, ih1]
    · have c2 : ¬ nI i = nI xx := fun q => c1 ((nI_eq (by omega) (by omega)).mp q)
      by_cases c3 : S.1 (100 + r0) i = 0
      · have e2 : stp (S.1 (100 + r0)) xx i = -1 := by unfold stp; rw [if_neg c1, if_pos c3]
        rw [e2] at ih1
        simp only [e_X2_writeSteps_3, e_X2_writeSteps_4, e_X2_writeSteps_5, e_X2_writeSteps_8, e_X2_writeSteps_9, e_X2_writeSteps_10, e_X2_writeSteps_11, e_X2_writeSteps_14, e_X2_writeSteps_15, e_X2_writeSteps_16, e_X2_writeSteps_19, e_X2_writeSteps_20, e_X2_writeSteps_21, e_X2_writeSteps_22, e_X2_writeSteps_23, e_X2_writeSteps_26, e_X2_writeSteps_27, e_X2_writeSteps_28, e_X2_writeSteps_29, e_X2_writeSteps_30, e_X2_writeSteps_31, e_X2_writeSteps_34, e_X2_writeSteps_35, e_X2_writeSteps_38, e_X2_writeSteps_39, e_X2_writeSteps_40, e_X2_writeSteps_43, e_X2_writeSteps_46, Option.bind_some, Option.bind_none, Option.toList_some, Option.toList_none, List.cons_append, List.nil_append, I_z, I_i8, I_q8, I_i7, I_q7, I_i6, I_q6, I_i5, I_q5, I_i4, I_q4, I_i3, I_q3, I_i2, I_q2, I_i1, I_q1, I_w8, I_w7, I_w6, I_w5, I_w4, I_w3, I_w2, I_c2n, I_c2i, I_c2q, eq_self, or_true, true_or, and_true, true_and, if_true, if_false, not_false_eq_true, not_true_eq_false, Option.map_none, Option.map_some, reduceCtorEq, isO, isT, isR, isM, gO_0, gO_1, gO_2, gO_3, gO_4, gO_5, gO_6, gO_7, gO_8, gO_9, gT_0, gT_1, gT_2, gR_0, gR_1, gR_2, gR_3, gM_0, gM_1, gM_2, gM_3, gM_4, gM_5, gM_6, gM_7, gM_8, gM_9, gM_10, gM_11, gM_12, gM_13, gM_14, gM_15, gM_16, gM_17, gM_18, gM_19, gM_20, lTs, lTr, lWd, lOp, lDp, lRw, lRd, nRw, nTr, nI_1, nI_add, sI_2, hr, hr0, hl, hl0, h1, c2, hi0, hb0, hb, show i < n by omega, sI_1, er, c3, uRw, hi1, hb1, sI_g, sI_sI, up_eq, ih1]
      · have e2 : stp (S.1 (100 + r0)) xx i = 1 := by unfold stp; rw [if_neg c1, if_neg c3]
        rw [e2] at ih1
        simp only [e_X2_writeSteps_3, e_X2_writeSteps_4, e_X2_writeSteps_5, e_X2_writeSteps_8, e_X2_writeSteps_9, e_X2_writeSteps_10, e_X2_writeSteps_11, e_X2_writeSteps_14, e_X2_writeSteps_15, e_X2_writeSteps_16, e_X2_writeSteps_19, e_X2_writeSteps_20, e_X2_writeSteps_21, e_X2_writeSteps_22, e_X2_writeSteps_23, e_X2_writeSteps_26, e_X2_writeSteps_27, e_X2_writeSteps_28, e_X2_writeSteps_29, e_X2_writeSteps_30, e_X2_writeSteps_31, e_X2_writeSteps_34, e_X2_writeSteps_35, e_X2_writeSteps_38, e_X2_writeSteps_39, e_X2_writeSteps_40, e_X2_writeSteps_43, e_X2_writeSteps_46, Option.bind_some, Option.bind_none, Option.toList_some, Option.toList_none, List.cons_append, List.nil_append, I_z, I_i8, I_q8, I_i7, I_q7, I_i6, I_q6, I_i5, I_q5, I_i4, I_q4, I_i3, I_q3, I_i2, I_q2, I_i1, I_q1, I_w8, I_w7, I_w6, I_w5, I_w4, I_w3, I_w2, I_c2n, I_c2i, I_c2q, eq_self, or_true, true_or, and_true, true_and, if_true, if_false, not_false_eq_true, not_true_eq_false, Option.map_none, Option.map_some, reduceCtorEq, isO, isT, isR, isM, gO_0, gO_1, gO_2, gO_3, gO_4, gO_5, gO_6, gO_7, gO_8, gO_9, gT_0, gT_1, gT_2, gR_0, gR_1, gR_2, gR_3, gM_0, gM_1, gM_2, gM_3, gM_4, gM_5, gM_6, gM_7, gM_8, gM_9, gM_10, gM_11, gM_12, gM_13, gM_14, gM_15, gM_16, gM_17, gM_18, gM_19, gM_20, lTs, lTr, lWd, lOp, lDp, lRw, lRd, nRw, nTr, nI_1, nI_add, sI_2, hr, hr0, hl, hl0, h1, c2, hi0, hb0, hb, show i < n by omega, sI_1, er, c3, uRw, hi1, hb1, sI_g, sI_sI, up_eq, ih1]
theorem k_ws (hS : WB S) (hr : r < S.2.1 0 1) (hr0 : r0 < S.2.1 0 1) (hne : r0 ≠ r) (hl : S.2.1 2 r = n) (hl0 : S.2.1 2 r0 = n) (hx : xx < n) : ev X d m_X2_writeSteps 0 [some (va_rf (some (aRw X r))), some (va_rf (some (aRw X r0))), some (.int (nI xx)), none] [] (rp X S) = some (none, rp X (sI S (100 + r) (wsA (S.1 (100 + r)) (S.1 (100 + r0)) xx n))) := by
  have h := k_ws_loop (X := X) (d := d) hS hr hr0 hne hl hl0 hx n 0 (by omega)
  rw [nI_0, wsA_0, sI_self] at h
  simp only [e_X2_writeSteps_0, e_X2_writeSteps_1, Option.bind_some, Option.bind_none, Option.toList_some, Option.toList_none, List.cons_append, List.nil_append, I_z, I_i8, I_q8, I_i7, I_q7, I_i6, I_q6, I_i5, I_q5, I_i4, I_q4, I_i3, I_q3, I_i2, I_q2, I_i1, I_q1, I_w8, I_w7, I_w6, I_w5, I_w4, I_w3, I_w2, I_c2n, I_c2i, I_c2q, eq_self, or_true, true_or, and_true, true_and, if_true, if_false, not_false_eq_true, not_true_eq_false, Option.map_none, Option.map_some, reduceCtorEq, isO, isT, isR, isM, gO_0, gO_1, gO_2, gO_3, gO_4, gO_5, gO_6, gO_7, gO_8, gO_9, gT_0, gT_1, gT_2, gR_0, gR_1, gR_2, gR_3, gM_0, gM_1, gM_2, gM_3, gM_4, gM_5, gM_6, gM_7, gM_8, gM_9, gM_10, gM_11, gM_12, gM_13, gM_14, gM_15, gM_16, gM_17, gM_18, gM_19, gM_20, lTs, lTr, lWd, lOp, lDp, lRw, lRd, nRw, nTr, nI_1, nI_add, sI_2, h]
/-- row f through row h at k, for the first i cells -/
def shA (f h : Nat → Int32) (k i : Nat) : Nat → Int32 := fun j => if j < i then shV (f k) (h j) (f j) else f j
theorem shA_0 : shA f h kk 0 = f := by funext j; unfold shA; rw [if_neg (by omega)]
theorem shA_s : upd (shA f h kk i) i (shV (f kk) (h i) (f i)) = shA f h kk (i + 1) := by
  funext j
  unfold upd shA
  by_cases q : j = i
  · rw [if_pos q, if_pos (by omega), q]
  · rw [if_neg q]
    by_cases h2 : j < i
    · rw [if_pos h2, if_pos (by omega)]
    · rw [if_neg h2, if_neg (by omega)]
theorem shA_same (hh : shV (f kk) (h i) (f i) = f i) : shA f h kk i = shA f h kk (i + 1) := by
  rw [← shA_s, hh]
  funext j
  unfold upd
  by_cases q : j = i
  · rw [if_pos q, q]; unfold shA; rw [if_neg (by omega)]
  · rw [if_neg q]
theorem shV_no {a b c : Int32} (h : a = -1) : shV a b c = c := if_pos h
theorem I_lt_irr (a : Int32) : ¬ a < a := by rw [Int32.lt_iff_toInt_lt]; omega
theorem shA_k (hk : f kk ≠ -1) (h0 : h kk = 0) : shA f h kk i kk = f kk := by
  unfold shA
  split
  · unfold shV
    rw [if_neg hk, h0, if_neg (by decide), if_neg hk, Int32.add_zero, if_neg (I_lt_irr _)]
  · rfl
theorem k_sh_loop (hS : WB S) (hr : rx < S.2.1 0 1) (hrk : rk < S.2.1 0 1) (hl : S.2.1 2 rx = n) (hlk : S.2.1 2 rk = n) (hk : kk < n) (hne : S.1 (100 + rx) kk ≠ -1) (h0 : S.1 (100 + rk) kk = 0) : ∀ m i l4, i + m = n → ev X d m_X2_shortenThrough 10 [some (.int (nI kk)), some (va_rf (some (aRw X rx))), some (va_rf (some (aRw X rk))), some (.int (nI i)), l4] [] (rp X (sI S (100 + rx) (shA (S.1 (100 + rx)) (S.1 (100 + rk)) kk i))) = some (none, rp X (sI S (100 + rx) (shA (S.1 (100 + rx)) (S.1 (100 + rk)) kk n))) := by
  have h16 := (hS.2.2.2 rx hr).1
  rw [hl] at h16
  have hb : n < 2 ^ 31 := by omega
  intro m
  induction m with
  | zero =>
    intro i l4 hi
    have h1 : nI n ≤ nI i := nI_le (by omega) (by omega)
    have e : i = n := by omega
    subst e
    rw [e_X2_shortenThrough_10]
    simp only [e_X2_shortenThrough_11, e_X2_shortenThrough_12, e_X2_shortenThrough_13, e_X2_shortenThrough_16, e_X2_shortenThrough_17, e_X2_shortenThrough_18, e_X2_shortenThrough_19, e_X2_shortenThrough_22, e_X2_shortenThrough_23, e_X2_shortenThrough_24, e_X2_shortenThrough_25, e_X2_shortenThrough_26, e_X2_shortenThrough_29, e_X2_shortenThrough_30, e_X2_shortenThrough_31, e_X2_shortenThrough_32, e_X2_shortenThrough_33, e_X2_shortenThrough_34, e_X2_shortenThrough_35, e_X2_shortenThrough_36, e_X2_shortenThrough_38, e_X2_shortenThrough_39, e_X2_shortenThrough_40, e_X2_shortenThrough_41, e_X2_shortenThrough_42, e_X2_shortenThrough_45, e_X2_shortenThrough_47, e_X2_shortenThrough_48, e_X2_shortenThrough_49, e_X2_shortenThrough_50, e_X2_shortenThrough_53, e_X2_shortenThrough_54, e_X2_shortenThrough_55, e_X2_shortenThrough_57, e_X2_shortenThrough_58, e_X2_shortenThrough_61, e_X2_shortenThrough_64, Option.bind_some, Option.bind_none, Option.toList_some, Option.toList_none, List.cons_append, List.nil_append, I_z, I_i8, I_q8, I_i7, I_q7, I_i6, I_q6, I_i5, I_q5, I_i4, I_q4, I_i3, I_q3, I_i2, I_q2, I_i1, I_q1, I_w8, I_w7, I_w6, I_w5, I_w4, I_w3, I_w2, I_c2n, I_c2i, I_c2q, eq_self, or_true, true_or, and_true, true_and, if_true, if_false, not_false_eq_true, not_true_eq_false, Option.map_none, Option.map_some, reduceCtorEq, isO, isT, isR, isM, gO_0, gO_1, gO_2, gO_3, gO_4, gO_5, gO_6, gO_7, gO_8, gO_9, gT_0, gT_1, gT_2, gR_0, gR_1, gR_2, gR_3, gM_0, gM_1, gM_2, gM_3, gM_4, gM_5, gM_6, gM_7, gM_8, gM_9, gM_10, gM_11, gM_12, gM_13, gM_14, gM_15, gM_16, gM_17, gM_18, gM_19, gM_20, lTs, lTr, lWd, lOp, lDp, lRw, lRd, nRw, nTr, nI_1, nI_add, sI_2, hr, hl, h1]
  | succ m ih =>
    intro i l4 hi
    have h1 : ¬ nI n ≤ nI i := nI_ge (by omega) (by omega)
    have hin : i < n := by omega
    have hi1 : i < S.2.1 2 rx := by omega
    have hb1 : S.2.1 2 rx < 2 ^ 31 := by omega
    have er : va_up S.1 (100 + rx) (shA (S.1 (100 + rx)) (S.1 (100 + rk)) kk i) (100 + rk) i = S.1 (100 + rk) i := by
      by_cases c : rk = rx
      · subst c; rw [up_eq]; unfold shA; rw [if_neg (by omega)]
      · rw [up_ne (by omega)]
    have ek := shA_k (i := i) hne h0
    have ei : shA (S.1 (100 + rx)) (S.1 (100 + rk)) kk i i = S.1 (100 + rx) i := by unfold shA; rw [if_neg (by omega)]
    rw [e_X2_shortenThrough_10]
    by_cases c1 : S.1 (100 + rk) i = -1
    · have ih1 := ih (i + 1) l4 (by omega)
      have es : shV (S.1 (100 + rx) kk) (S.1 (100 + rk) i) (S.1 (100 + rx) i) = S.1 (100 + rx) i := by unfold shV; rw [if_neg hne, if_pos c1]
      rw [← shA_same es] at ih1
      simp only [e_X2_shortenThrough_11, e_X2_shortenThrough_12, e_X2_shortenThrough_13, e_X2_shortenThrough_16, e_X2_shortenThrough_17, e_X2_shortenThrough_18, e_X2_shortenThrough_19, e_X2_shortenThrough_22, e_X2_shortenThrough_23, e_X2_shortenThrough_24, e_X2_shortenThrough_25, e_X2_shortenThrough_26, e_X2_shortenThrough_29, e_X2_shortenThrough_30, e_X2_shortenThrough_31, e_X2_shortenThrough_32, e_X2_shortenThrough_33, e_X2_shortenThrough_34, e_X2_shortenThrough_35, e_X2_shortenThrough_36, e_X2_shortenThrough_38, e_X2_shortenThrough_39, e_X2_shortenThrough_40, e_X2_shortenThrough_41, e_X2_shortenThrough_42, e_X2_shortenThrough_45, e_X2_shortenThrough_47, e_X2_shortenThrough_48, e_X2_shortenThrough_49, e_X2_shortenThrough_50, e_X2_shortenThrough_53, e_X2_shortenThrough_54, e_X2_shortenThrough_55, e_X2_shortenThrough_57, e_X2_shortenThrough_58, e_X2_shortenThrough_61, e_X2_shortenThrough_64, Option.bind_some, Option.bind_none, Option.toList_some, Option.toList_none, List.cons_append, List.nil_append, I_z, I_i8, I_q8, I_i7, I_q7, I_i6, I_q6, I_i5, I_q5, I_i4, I_q4, I_i3, I_q3, I_i2, I_q2, I_i1, I_q1, I_w8, I_w7, I_w6, I_w5, I_w4, I_w3, I_w2, I_c2n, I_c2i, I_c2q, eq_self, or_true, true_or, and_true, true_and, if_true, if_false, not_false_eq_true, not_true_eq_false, Option.map_none, Option.map_some, reduceCtorEq, isO, isT, isR, isM, gO_0, gO_1, gO_2, gO_3, gO_4, gO_5, gO_6, gO_7, gO_8, gO_9, gT_0, gT_1, gT_2, gR_0, gR_1, gR_2, gR_3, gM_0, gM_1, gM_2, gM_3, gM_4, gM_5, gM_6, gM_7, gM_8, gM_9, gM_10, gM_11, gM_12, gM_13, gM_14, gM_15, gM_16, gM_17, gM_18, gM_19, gM_20, lTs, lTr, lWd, lOp, lDp, lRw, lRd, nRw, nTr, nI_1, nI_add, sI_2, hr, hrk, hl, hlk, h1, hin, hb, sI_1, er, c1, ih1]
    · have ih1 := ih (i + 1) (some (.int (S.1 (100 + rx) kk + S.1 (100 + rk) i))) (by omega)
      by_cases c2 : S.1 (100 + rx) i = -1
      · have es : shV (S.1 (100 + rx) kk) (S.1 (100 + rk) i) (S.1 (100 + rx) i) = S.1 (100 + rx) kk + S.1 (100 + rk) i := by unfold shV; rw [if_neg hne, if_neg c1, if_pos c2]
        rw [← shA_s, es] at ih1
        simp only [e_X2_shortenThrough_11, e_X2_shortenThrough_12, e_X2_shortenThrough_13, e_X2_shortenThrough_16, e_X2_shortenThrough_17, e_X2_shortenThrough_18, e_X2_shortenThrough_19, e_X2_shortenThrough_22, e_X2_shortenThrough_23, e_X2_shortenThrough_24, e_X2_shortenThrough_25, e_X2_shortenThrough_26, e_X2_shortenThrough_29, e_X2_shortenThrough_30, e_X2_shortenThrough_31, e_X2_shortenThrough_32, e_X2_shortenThrough_33, e_X2_shortenThrough_34, e_X2_shortenThrough_35, e_X2_shortenThrough_36, e_X2_shortenThrough_38, e_X2_shortenThrough_39, e_X2_shortenThrough_40, e_X2_shortenThrough_41, e_X2_shortenThrough_42, e_X2_shortenThrough_45, e_X2_shortenThrough_47, e_X2_shortenThrough_48, e_X2_shortenThrough_49, e_X2_shortenThrough_50, e_X2_shortenThrough_53, e_X2_shortenThrough_54, e_X2_shortenThrough_55, e_X2_shortenThrough_57, e_X2_shortenThrough_58, e_X2_shortenThrough_61, e_X2_shortenThrough_64, Option.bind_some, Option.bind_none, Option.toList_some, Option.toList_none, List.cons_append, List.nil_append, I_z, I_i8, I_q8, I_i7, I_q7, I_i6, I_q6, I_i5, I_q5, I_i4, I_q4, I_i3, I_q3, I_i2, I_q2, I_i1, I_q1, I_w8, I_w7, I_w6, I_w5, I_w4, I_w3, I_w2, I_c2n, I_c2i, I_c2q, eq_self, or_true, true_or, and_true, true_and, if_true, if_false, not_false_eq_true, not_true_eq_false, Option.map_none, Option.map_some, reduceCtorEq, isO, isT, isR, isM, gO_0, gO_1, gO_2, gO_3, gO_4, gO_5, gO_6, gO_7, gO_8, gO_9, gT_0, gT_1, gT_2, gR_0, gR_1, gR_2, gR_3, gM_0, gM_1, gM_2, gM_3, gM_4, gM_5, gM_6, gM_7, gM_8, gM_9, gM_10, gM_11, gM_12, gM_13, gM_14, gM_15, gM_16, gM_17, gM_18, gM_19, gM_20, lTs, lTr, lWd, lOp, lDp, lRw, lRd, nRw, nTr, nI_1, nI_add, sI_2, hr, hrk, hl, hlk, h1, hin, hk, hb, sI_1, er, up_eq, ek, ei, c1, c2, uRw, hi1, hb1, sI_g, sI_sI, ih1]
      · by_cases c3 : S.1 (100 + rx) kk + S.1 (100 + rk) i < S.1 (100 + rx) i
        · have c4 := i_nle c3
          have es : shV (S.1 (100 + rx) kk) (S.1 (100 + rk) i) (S.1 (100 + rx) i) = S.1 (100 + rx) kk + S.1 (100 + rk) i := by unfold shV; rw [if_neg hne, if_neg c1, if_neg c2, if_pos c3]
          rw [← shA_s, es] at ih1
          simp only [e_X2_shortenThrough_11, e_X2_shortenThrough_12, e_X2_shortenThrough_13, e_X2_shortenThrough_16, e_X2_shortenThrough_17, e_X2_shortenThrough_18, e_X2_shortenThrough_19, e_X2_shortenThrough_22, e_X2_shortenThrough_23, e_X2_shortenThrough_24, e_X2_shortenThrough_25, e_X2_shortenThrough_26, e_X2_shortenThrough_29, e_X2_shortenThrough_30, e_X2_shortenThrough_31, e_X2_shortenThrough_32, e_X2_shortenThrough_33, e_X2_shortenThrough_34, e_X2_shortenThrough_35, e_X2_shortenThrough_36, e_X2_shortenThrough_38, e_X2_shortenThrough_39, e_X2_shortenThrough_40, e_X2_shortenThrough_41, e_X2_shortenThrough_42, e_X2_shortenThrough_45, e_X2_shortenThrough_47, e_X2_shortenThrough_48, e_X2_shortenThrough_49, e_X2_shortenThrough_50, e_X2_shortenThrough_53, e_X2_shortenThrough_54, e_X2_shortenThrough_55, e_X2_shortenThrough_57, e_X2_shortenThrough_58, e_X2_shortenThrough_61, e_X2_shortenThrough_64, Option.bind_some, Option.bind_none, Option.toList_some, Option.toList_none, List.cons_append, List.nil_append, I_z, I_i8, I_q8, I_i7, I_q7, I_i6, I_q6, I_i5, I_q5, I_i4, I_q4, I_i3, I_q3, I_i2, I_q2, I_i1, I_q1, I_w8, I_w7, I_w6, I_w5, I_w4, I_w3, I_w2, I_c2n, I_c2i, I_c2q, eq_self, or_true, true_or, and_true, true_and, if_true, if_false, not_false_eq_true, not_true_eq_false, Option.map_none, Option.map_some, reduceCtorEq, isO, isT, isR, isM, gO_0, gO_1, gO_2, gO_3, gO_4, gO_5, gO_6, gO_7, gO_8, gO_9, gT_0, gT_1, gT_2, gR_0, gR_1, gR_2, gR_3, gM_0, gM_1, gM_2, gM_3, gM_4, gM_5, gM_6, gM_7, gM_8, gM_9, gM_10, gM_11, gM_12, gM_13, gM_14, gM_15, gM_16, gM_17, gM_18, gM_19, gM_20, lTs, lTr, lWd, lOp, lDp, lRw, lRd, nRw, nTr, nI_1, nI_add, sI_2, hr, hrk, hl, hlk, h1, hin, hk, hb, sI_1, er, up_eq, ek, ei, c1, c2, c4, uRw, hi1, hb1, sI_g, sI_sI, ih1]
        · have c4 := i_le c3
          have es : shV (S.1 (100 + rx) kk) (S.1 (100 + rk) i) (S.1 (100 + rx) i) = S.1 (100 + rx) i := by unfold shV; rw [if_neg hne, if_neg c1, if_neg c2, if_neg c3]
          rw [← shA_same es] at ih1
          simp only [e_X2_shortenThrough_11, e_X2_shortenThrough_12, e_X2_shortenThrough_13, e_X2_shortenThrough_16, e_X2_shortenThrough_17, e_X2_shortenThrough_18, e_X2_shortenThrough_19, e_X2_shortenThrough_22, e_X2_shortenThrough_23, e_X2_shortenThrough_24, e_X2_shortenThrough_25, e_X2_shortenThrough_26, e_X2_shortenThrough_29, e_X2_shortenThrough_30, e_X2_shortenThrough_31, e_X2_shortenThrough_32, e_X2_shortenThrough_33, e_X2_shortenThrough_34, e_X2_shortenThrough_35, e_X2_shortenThrough_36, e_X2_shortenThrough_38, e_X2_shortenThrough_39, e_X2_shortenThrough_40, e_X2_shortenThrough_41, e_X2_shortenThrough_42, e_X2_shortenThrough_45, e_X2_shortenThrough_47, e_X2_shortenThrough_48, e_X2_shortenThrough_49, e_X2_shortenThrough_50, e_X2_shortenThrough_53, e_X2_shortenThrough_54, e_X2_shortenThrough_55, e_X2_shortenThrough_57, e_X2_shortenThrough_58, e_X2_shortenThrough_61, e_X2_shortenThrough_64, Option.bind_some, Option.bind_none, Option.toList_some, Option.toList_none, List.cons_append, List.nil_append, I_z, I_i8, I_q8, I_i7, I_q7, I_i6, I_q6, I_i5, I_q5, I_i4, I_q4, I_i3, I_q3, I_i2, I_q2, I_i1, I_q1, I_w8, I_w7, I_w6, I_w5, I_w4, I_w3, I_w2, I_c2n, I_c2i, I_c2q, eq_self, or_true, true_or, and_true, true_and, if_true, if_false, not_false_eq_true, not_true_eq_false, Option.map_none, Option.map_some, reduceCtorEq, isO, isT, isR, isM, gO_0, gO_1, gO_2, gO_3, gO_4, gO_5, gO_6, gO_7, gO_8, gO_9, gT_0, gT_1, gT_2, gR_0, gR_1, gR_2, gR_3, gM_0, gM_1, gM_2, gM_3, gM_4, gM_5, gM_6, gM_7, gM_8, gM_9, gM_10, gM_11, gM_12, gM_13, gM_14, gM_15, gM_16, gM_17, gM_18, gM_19, gM_20, lTs, lTr, lWd, lOp, lDp, lRw, lRd, nRw, nTr, nI_1, nI_add, sI_2, hr, hrk, hl, hlk, h1, hin, hk, hb, sI_1, er, up_eq, ek, ei, c1, c2, c4, ih1]
theorem k_sh (hS : WB S) (hr : rx < S.2.1 0 1) (hrk : rk < S.2.1 0 1) (hl : S.2.1 2 rx = n) (hlk : S.2.1 2 rk = n) (hk : kk < n) (h0 : S.1 (100 + rk) kk = 0) : ev X d m_X2_shortenThrough 0 [some (.int (nI kk)), some (va_rf (some (aRw X rx))), some (va_rf (some (aRw X rk))), none, none] [] (rp X S) = some (none, rp X (sI S (100 + rx) (shA (S.1 (100 + rx)) (S.1 (100 + rk)) kk n))) := by
  have hk1 : kk < S.2.1 2 rx := by omega
  have hb1 : S.2.1 2 rx < 2 ^ 31 := by have := (hS.2.2.2 rx hr).1; omega
  by_cases c : S.1 (100 + rx) kk = -1
  · have e : shA (S.1 (100 + rx)) (S.1 (100 + rk)) kk n = S.1 (100 + rx) := by
      funext j
      unfold shA
      split
      · exact shV_no c
      · rfl
    rw [e, sI_self]
    simp only [e_X2_shortenThrough_0, e_X2_shortenThrough_1, e_X2_shortenThrough_2, e_X2_shortenThrough_3, e_X2_shortenThrough_4, e_X2_shortenThrough_7, e_X2_shortenThrough_8, e_X2_shortenThrough_9, Option.bind_some, Option.bind_none, Option.toList_some, Option.toList_none, List.cons_append, List.nil_append, I_z, I_i8, I_q8, I_i7, I_q7, I_i6, I_q6, I_i5, I_q5, I_i4, I_q4, I_i3, I_q3, I_i2, I_q2, I_i1, I_q1, I_w8, I_w7, I_w6, I_w5, I_w4, I_w3, I_w2, I_c2n, I_c2i, I_c2q, eq_self, or_true, true_or, and_true, true_and, if_true, if_false, not_false_eq_true, not_true_eq_false, Option.map_none, Option.map_some, reduceCtorEq, isO, isT, isR, isM, gO_0, gO_1, gO_2, gO_3, gO_4, gO_5, gO_6, gO_7, gO_8, gO_9, gT_0, gT_1, gT_2, gR_0, gR_1, gR_2, gR_3, gM_0, gM_1, gM_2, gM_3, gM_4, gM_5, gM_6, gM_7, gM_8, gM_9, gM_10, gM_11, gM_12, gM_13, gM_14, gM_15, gM_16, gM_17, gM_18, gM_19, gM_20, lTs, lTr, lWd, lOp, lDp, lRw, lRd, nRw, nTr, nI_1, nI_add, sI_2, hr, hk1, hb1, c]
  · have h := k_sh_loop (X := X) (d := d) hS hr hrk hl hlk hk c h0 n 0 none (by omega)
    rw [nI_0, shA_0, sI_self] at h
    simp only [e_X2_shortenThrough_0, e_X2_shortenThrough_1, e_X2_shortenThrough_2, e_X2_shortenThrough_3, e_X2_shortenThrough_4, e_X2_shortenThrough_7, e_X2_shortenThrough_8, e_X2_shortenThrough_9, Option.bind_some, Option.bind_none, Option.toList_some, Option.toList_none, List.cons_append, List.nil_append, I_z, I_i8, I_q8, I_i7, I_q7, I_i6, I_q6, I_i5, I_q5, I_i4, I_q4, I_i3, I_q3, I_i2, I_q2, I_i1, I_q1, I_w8, I_w7, I_w6, I_w5, I_w4, I_w3, I_w2, I_c2n, I_c2i, I_c2q, eq_self, or_true, true_or, and_true, true_and, if_true, if_false, not_false_eq_true, not_true_eq_false, Option.map_none, Option.map_some, reduceCtorEq, isO, isT, isR, isM, gO_0, gO_1, gO_2, gO_3, gO_4, gO_5, gO_6, gO_7, gO_8, gO_9, gT_0, gT_1, gT_2, gR_0, gR_1, gR_2, gR_3, gM_0, gM_1, gM_2, gM_3, gM_4, gM_5, gM_6, gM_7, gM_8, gM_9, gM_10, gM_11, gM_12, gM_13, gM_14, gM_15, gM_16, gM_17, gM_18, gM_19, gM_20, lTs, lTr, lWd, lOp, lDp, lRw, lRd, nRw, nTr, nI_1, nI_add, sI_2, hr, hk1, hb1, c, h]
theorem oddF_none (hh : S.2.1 1 t ≤ 12) : ∀ m i, i + m ≤ 12 → (oddF S t m i = -1000009 ↔ ∀ q, i ≤ q → q < i + m → ¬ badL S t (S.2.1 1 t) q) := by
  intro m
  induction m with
  | zero => intro i _; exact ⟨fun _ q a b => by omega, fun _ => rfl⟩
  | succ m ih =>
    intro i hi
    by_cases c : badL S t (S.2.1 1 t) i
    · have e : oddF S t (m + 1) i = nI i := if_pos c
      rw [e]
      constructor
      · intro q
        exact absurd q (fun z => nI_pos (n := i) (by omega) (by rw [z]; decide))
      · intro q; exact absurd c (q i (Nat.le_refl _) (by omega))
    · have e : oddF S t (m + 1) i = oddF S t m (i + 1) := if_neg c
      rw [e, ih (i + 1) (by omega)]
      constructor
      · intro q p h1 h2
        rcases Nat.lt_or_ge i p with z | z
        · exact q p z (by omega)
        · have : p = i := by omega
          subst this; exact c
      · intro q p h1 h2; exact q p (by omega) (by omega)
/-- the table is square -/
def sqr (S : St) (t : Nat) : Prop := ∀ q, q < S.2.1 1 t → ∃ r, S.2.2.1 t q = some r ∧ S.2.1 2 r = S.2.1 1 t
theorem sqr_odd (hh : S.2.1 1 t ≤ 12) : oddF S t (S.2.1 1 t) 0 = -1000009 ↔ sqr S t := by
  rw [oddF_none hh _ 0 (by omega)]
  constructor
  · intro h q hq
    have hb := h q (Nat.zero_le _) (by omega)
    cases hp : S.2.2.1 t q with
    | none => exact absurd (badL_n hp) hb
    | some r => exact ⟨r, rfl, Classical.not_not.mp (fun z => hb ((badL_s hp).mpr z))⟩
  · intro h q _ hq hb
    obtain ⟨r, p1, p2⟩ := h q (by omega)
    exact (badL_s p1).mp hb p2
theorem k_dist_unk (h : unk S a) : ev X (d + 4) m_X2_distances 0 [some (va_rf (some (aO X))), some (.int a), none, none, none, none, none] [] (rp X S) = some (some (.int (-1000001)), rp X S) := by
  simp only [e_X2_distances_0, e_X2_distances_1, e_X2_distances_2, e_X2_distances_5, e_X2_distances_8, e_X2_distances_10, Option.bind_some, Option.bind_none, Option.toList_some, Option.toList_none, List.cons_append, List.nil_append, I_z, I_i8, I_q8, I_i7, I_q7, I_i6, I_q6, I_i5, I_q5, I_i4, I_q4, I_i3, I_q3, I_i2, I_q2, I_i1, I_q1, I_w8, I_w7, I_w6, I_w5, I_w4, I_w3, I_w2, I_c2n, I_c2i, I_c2q, eq_self, or_true, true_or, and_true, true_and, if_true, if_false, not_false_eq_true, not_true_eq_false, Option.map_none, Option.map_some, reduceCtorEq, isO, isT, isR, isM, gO_0, gO_1, gO_2, gO_3, gO_4, gO_5, gO_6, gO_7, gO_8, gO_9, gT_0, gT_1, gT_2, gR_0, gR_1, gR_2, gR_3, gM_0, gM_1, gM_2, gM_3, gM_4, gM_5, gM_6, gM_7, gM_8, gM_9, gM_10, gM_11, gM_12, gM_13, gM_14, gM_15, gM_16, gM_17, gM_18, gM_19, gM_20, lTs, lTr, lWd, lOp, lDp, lRw, lRd, nRw, nTr, nI_1, nI_add, sI_2, k_isUnknown1 h, e10]
theorem k_dist_state (hS : WB S) (h1 : t < S.2.1 0 0) (h : ¬ (S.1 1 t = 0 ∧ sqr S t)) : ev X (d + 4) m_X2_distances 0 [some (va_rf (some (aO X))), some (.int (nI t)), none, none, none, none, none] [] (rp X S) = some (some (.int (-1000003)), rp X S) := by
  have h16 := hS.1
  have ht : t < 16 := by omega
  by_cases c1 : S.1 1 t = 0
  · have c2 : ¬ oddF S t (S.2.1 1 t) 0 = -1000009 := fun q => h ⟨c1, (sqr_odd (hS.2.1 t ht)).mp q⟩
    simp only [e_X2_distances_0, e_X2_distances_1, e_X2_distances_2, e_X2_distances_5, e_X2_distances_8, e_X2_distances_10, e_X2_distances_11, e_X2_distances_12, e_X2_distances_15, e_X2_distances_16, e_X2_distances_17, e_X2_distances_18, e_X2_distances_19, e_X2_distances_22, e_X2_distances_25, e_X2_distances_26, e_X2_distances_29, e_X2_distances_31, e_X2_distances_34, e_X2_distances_36, Option.bind_some, Option.bind_none, Option.toList_some, Option.toList_none, List.cons_append, List.nil_append, I_z, I_i8, I_q8, I_i7, I_q7, I_i6, I_q6, I_i5, I_q5, I_i4, I_q4, I_i3, I_q3, I_i2, I_q2, I_i1, I_q1, I_w8, I_w7, I_w6, I_w5, I_w4, I_w3, I_w2, I_c2n, I_c2i, I_c2q, eq_self, or_true, true_or, and_true, true_and, if_true, if_false, not_false_eq_true, not_true_eq_false, Option.map_none, Option.map_some, reduceCtorEq, isO, isT, isR, isM, gO_0, gO_1, gO_2, gO_3, gO_4, gO_5, gO_6, gO_7, gO_8, gO_9, gT_0, gT_1, gT_2, gR_0, gR_1, gR_2, gR_3, gM_0, gM_1, gM_2, gM_3, gM_4, gM_5, gM_6, gM_7, gM_8, gM_9, gM_10, gM_11, gM_12, gM_13, gM_14, gM_15, gM_16, gM_17, gM_18, gM_19, gM_20, lTs, lTr, lWd, lOp, lDp, lRw, lRd, nRw, nTr, nI_1, nI_add, sI_2, ht, k_isUnknown0 h1 h16, c1, k_fns hS ht, c2]
  · simp only [e_X2_distances_0, e_X2_distances_1, e_X2_distances_2, e_X2_distances_5, e_X2_distances_8, e_X2_distances_10, e_X2_distances_11, e_X2_distances_12, e_X2_distances_15, e_X2_distances_16, e_X2_distances_17, e_X2_distances_18, e_X2_distances_19, e_X2_distances_22, e_X2_distances_25, e_X2_distances_26, e_X2_distances_29, e_X2_distances_31, e_X2_distances_34, e_X2_distances_36, Option.bind_some, Option.bind_none, Option.toList_some, Option.toList_none, List.cons_append, List.nil_append, I_z, I_i8, I_q8, I_i7, I_q7, I_i6, I_q6, I_i5, I_q5, I_i4, I_q4, I_i3, I_q3, I_i2, I_q2, I_i1, I_q1, I_w8, I_w7, I_w6, I_w5, I_w4, I_w3, I_w2, I_c2n, I_c2i, I_c2q, eq_self, or_true, true_or, and_true, true_and, if_true, if_false, not_false_eq_true, not_true_eq_false, Option.map_none, Option.map_some, reduceCtorEq, isO, isT, isR, isM, gO_0, gO_1, gO_2, gO_3, gO_4, gO_5, gO_6, gO_7, gO_8, gO_9, gT_0, gT_1, gT_2, gR_0, gR_1, gR_2, gR_3, gM_0, gM_1, gM_2, gM_3, gM_4, gM_5, gM_6, gM_7, gM_8, gM_9, gM_10, gM_11, gM_12, gM_13, gM_14, gM_15, gM_16, gM_17, gM_18, gM_19, gM_20, lTs, lTr, lWd, lOp, lDp, lRw, lRd, nRw, nTr, nI_1, nI_add, sI_2, ht, k_isUnknown0 h1 h16, c1]
theorem k_dist_room (hS : WB S) (h1 : t < S.2.1 0 0) (c1 : S.1 1 t = 0) (c2 : sqr S t) (hf : S.2.1 0 0 = 16) : ev X (d + 4) m_X2_distances 0 [some (va_rf (some (aO X))), some (.int (nI t)), none, none, none, none, none] [] (rp X S) = some (some (.int (-1000004)), rp X S) := by
  have h16 := hS.1
  have ht : t < 16 := by omega
  have c3 := (sqr_odd (hS.2.1 t ht)).mpr c2
  simp only [e_X2_distances_0, e_X2_distances_1, e_X2_distances_2, e_X2_distances_5, e_X2_distances_8, e_X2_distances_10, e_X2_distances_11, e_X2_distances_12, e_X2_distances_15, e_X2_distances_16, e_X2_distances_17, e_X2_distances_18, e_X2_distances_19, e_X2_distances_22, e_X2_distances_25, e_X2_distances_26, e_X2_distances_29, e_X2_distances_31, e_X2_distances_34, e_X2_distances_36, e_X2_distances_37, e_X2_distances_38, e_X2_distances_41, e_X2_distances_44, e_X2_distances_46, Option.bind_some, Option.bind_none, Option.toList_some, Option.toList_none, List.cons_append, List.nil_append, I_z, I_i8, I_q8, I_i7, I_q7, I_i6, I_q6, I_i5, I_q5, I_i4, I_q4, I_i3, I_q3, I_i2, I_q2, I_i1, I_q1, I_w8, I_w7, I_w6, I_w5, I_w4, I_w3, I_w2, I_c2n, I_c2i, I_c2q, eq_self, or_true, true_or, and_true, true_and, if_true, if_false, not_false_eq_true, not_true_eq_false, Option.map_none, Option.map_some, reduceCtorEq, isO, isT, isR, isM, gO_0, gO_1, gO_2, gO_3, gO_4, gO_5, gO_6, gO_7, gO_8, gO_9, gT_0, gT_1, gT_2, gR_0, gR_1, gR_2, gR_3, gM_0, gM_1, gM_2, gM_3, gM_4, gM_5, gM_6, gM_7, gM_8, gM_9, gM_10, gM_11, gM_12, gM_13, gM_14, gM_15, gM_16, gM_17, gM_18, gM_19, gM_20, lTs, lTr, lWd, lOp, lDp, lRw, lRd, nRw, nTr, nI_1, nI_add, sI_2, ht, k_isUnknown0 h1 h16, c1, k_fns hS ht, c3, k_isFull h16, if_pos hf, e10]
/-- what B must be -/
def Dok (B : St) (n0 t tn n : Nat) : Prop := WB B ∧ t < 16 ∧ tn < 16 ∧ n ≤ 12 ∧ B.2.1 1 tn = n ∧ B.2.1 1 t = n ∧ ∀ x, x < n → n0 + x < B.2.1 0 1 ∧ B.2.2.1 tn x = some (n0 + x) ∧ B.2.1 2 (n0 + x) = n ∧ ∃ l, l < n0 ∧ B.2.2.1 t x = some l ∧ B.2.1 2 l = n
/-- the steps of B's table t -/
def stE (B : St) (t n x y : Nat) : Prop := x < n ∧ y < n ∧ ¬ B.1 (100 + rowAt B t x) y = 0
theorem k_dist_w (hB : Dok B n0 t tn n) : ∀ m xx (S : St), xx + m = n → NW B S n0 → (∀ x y, x < xx → y < n → Dst (stE B t n) 0 x y (S.1 (100 + (n0 + x)) y)) → ∃ S', ev X (d + 2) m_X2_distances 72 [some (va_rf (some (aO X))), some (.int a), some (va_rf (some (aT X t))), some (.int b), some (va_rf (some (aT X tn))), some (.int (nI xx)), none] [] (rp X S) = ev X (d + 2) m_X2_distances 114 [some (va_rf (some (aO X))), some (.int a), some (va_rf (some (aT X t))), some (.int b), some (va_rf (some (aT X tn))), some (.int (nI n)), none] [] (rp X S') ∧ NW B S' n0 ∧ ∀ x y, x < n → y < n → Dst (stE B t n) 0 x y (S'.1 (100 + (n0 + x)) y) := by
  obtain ⟨hW, ht, htn, hn, hhn, hht, hrows⟩ := hB
  intro m
  induction m with
  | zero =>
    intro xx S hx hN hD
    have ex : xx = n := by omega
    subst ex
    have h1 : nI xx ≤ nI xx := nI_le (Nat.le_refl _) (by omega)
    have eh : S.2.1 1 tn = xx := by rw [hN.1]; exact hhn
    refine ⟨S, ?_, hN, hD⟩
    rw [e_X2_distances_72]
    simp only [e_X2_distances_74, e_X2_distances_76, e_X2_distances_79, e_X2_distances_82, e_X2_distances_84, e_X2_distances_87, e_X2_distances_89, e_X2_distances_90, e_X2_distances_93, e_X2_distances_94, e_X2_distances_97, e_X2_distances_99, e_X2_distances_100, e_X2_distances_103, e_X2_distances_105, e_X2_distances_108, e_X2_distances_111, Option.bind_some, Option.bind_none, Option.toList_some, Option.toList_none, List.cons_append, List.nil_append, I_z, I_i8, I_q8, I_i7, I_q7, I_i6, I_q6, I_i5, I_q5, I_i4, I_q4, I_i3, I_q3, I_i2, I_q2, I_i1, I_q1, I_w8, I_w7, I_w6, I_w5, I_w4, I_w3, I_w2, I_c2n, I_c2i, I_c2q, eq_self, or_true, true_or, and_true, true_and, if_true, if_false, not_false_eq_true, not_true_eq_false, Option.map_none, Option.map_some, reduceCtorEq, isO, isT, isR, isM, gO_0, gO_1, gO_2, gO_3, gO_4, gO_5, gO_6, gO_7, gO_8, gO_9, gT_0, gT_1, gT_2, gR_0, gR_1, gR_2, gR_3, gM_0, gM_1, gM_2, gM_3, gM_4, gM_5, gM_6, gM_7, gM_8, gM_9, gM_10, gM_11, gM_12, gM_13, gM_14, gM_15, gM_16, gM_17, gM_18, gM_19, gM_20, lTs, lTr, lWd, lOp, lDp, lRw, lRd, nRw, nTr, nI_1, nI_add, sI_2, htn, eh, h1]
  | succ m ih =>
    intro xx S hx hN hD
    have h1 : ¬ nI n ≤ nI xx := nI_ge (by omega) (by omega)
    have eh : S.2.1 1 tn = n := by rw [hN.1]; exact hhn
    obtain ⟨p1, p2, p3, l, l1, l2, l3⟩ := hrows xx (by omega)
    have hSW := hN.wb hW
    have x12 : xx < 12 := by omega
    have p1' : n0 + xx < S.2.1 0 1 := by rw [hN.1]; exact p1
    have p2' : S.2.2.1 tn xx = some (n0 + xx) := by rw [hN.2.1]; exact p2
    have l1' : l < S.2.1 0 1 := by rw [hN.1]; omega
    have l2' : S.2.2.1 t xx = some l := by rw [hN.2.1]; exact l2
    have hw := k_ws (X := X) (d := d + 1) (n := n) (xx := xx) hSW p1' l1' (by omega) (by rw [hN.1]; exact p3) (by rw [hN.1]; exact l3) (by omega)
    have eb : S.1 (100 + l) = B.1 (100 + l) := hN.2.2.1 _ (by omega)
    obtain ⟨S', f1, f2, f3⟩ := ih (xx + 1) (sI S (100 + (n0 + xx)) (wsA (S.1 (100 + (n0 + xx))) (S.1 (100 + l)) xx n)) (by omega) (NW_sI hN (by omega)) (fun x y hx' hy => by
      rw [sI_1]
      by_cases c : x = xx
      · subst c
        rw [up_eq]
        unfold wsA stp
        rw [if_pos hy, eb]
        exact Dst_0 ⟨fun q => by have := q.2.2; rw [rowAt_s l2] at this; exact this, fun q => ⟨by omega, hy, by rw [rowAt_s l2]; exact q⟩⟩
      · rw [up_ne (by omega)]; exact hD x y (by omega) hy)
    refine ⟨S', ?_, f2, f3⟩
    rw [← f1, e_X2_distances_72]
    simp only [e_X2_distances_74, e_X2_distances_76, e_X2_distances_79, e_X2_distances_82, e_X2_distances_84, e_X2_distances_87, e_X2_distances_89, e_X2_distances_90, e_X2_distances_93, e_X2_distances_94, e_X2_distances_97, e_X2_distances_99, e_X2_distances_100, e_X2_distances_103, e_X2_distances_105, e_X2_distances_108, e_X2_distances_111, Option.bind_some, Option.bind_none, Option.toList_some, Option.toList_none, List.cons_append, List.nil_append, I_z, I_i8, I_q8, I_i7, I_q7, I_i6, I_q6, I_i5, I_q5, I_i4, I_q4, I_i3, I_q3, I_i2, I_q2, I_i1, I_q1, I_w8, I_w7, I_w6, I_w5, I_w4, I_w3, I_w2, I_c2n, I_c2i, I_c2q, eq_self, or_true, true_or, and_true, true_and, if_true, if_false, not_false_eq_true, not_true_eq_false, Option.map_none, Option.map_some, reduceCtorEq, isO, isT, isR, isM, gO_0, gO_1, gO_2, gO_3, gO_4, gO_5, gO_6, gO_7, gO_8, gO_9, gT_0, gT_1, gT_2, gR_0, gR_1, gR_2, gR_3, gM_0, gM_1, gM_2, gM_3, gM_4, gM_5, gM_6, gM_7, gM_8, gM_9, gM_10, gM_11, gM_12, gM_13, gM_14, gM_15, gM_16, gM_17, gM_18, gM_19, gM_20, lTs, lTr, lWd, lOp, lDp, lRw, lRd, nRw, nTr, nI_1, nI_add, sI_2, htn, ht, eh, h1, x12, p1', p2', l1', l2', hw]
theorem k_dist_x (hB : Dok B n0 t tn n) (hk : kk < n) : ∀ m xx (S : St), xx + m = n → NW B S n0 → (∀ x y, x < n → y < n → Dst (stE B t n) (if x < xx then kk + 1 else kk) x y (S.1 (100 + (n0 + x)) y)) → (∀ y, y < n → Dst (stE B t n) kk kk y (S.1 (100 + (n0 + kk)) y)) → ∃ S', ev X (d + 2) m_X2_distances 130 [some (va_rf (some (aO X))), some (.int a), some (va_rf (some (aT X t))), some (.int b), some (va_rf (some (aT X tn))), some (.int (nI kk)), some (.int (nI xx))] [] (rp X S) = ev X (d + 2) m_X2_distances 173 [some (va_rf (some (aO X))), some (.int a), some (va_rf (some (aT X t))), some (.int b), some (va_rf (some (aT X tn))), some (.int (nI kk)), some (.int (nI n))] [] (rp X S') ∧ NW B S' n0 ∧ ∀ x y, x < n → y < n → Dst (stE B t n) (kk + 1) x y (S'.1 (100 + (n0 + x)) y) := by
  obtain ⟨hW, ht, htn, hn, hhn, hht, hrows⟩ := hB
  intro m
  induction m with
  | zero =>
    intro xx S hx hN hD _
    have ex : xx = n := by omega
    subst ex
    have h1 : nI xx ≤ nI xx := nI_le (Nat.le_refl _) (by omega)
    have eh : S.2.1 1 tn = xx := by rw [hN.1]; exact hhn
    refine ⟨S, ?_, hN, fun x y hx hy => by have := hD x y hx hy; rw [if_pos hx] at this; exact this⟩
    rw [e_X2_distances_130]
    simp only [e_X2_distances_132, e_X2_distances_134, e_X2_distances_137, e_X2_distances_140, e_X2_distances_142, e_X2_distances_144, e_X2_distances_147, e_X2_distances_149, e_X2_distances_150, e_X2_distances_153, e_X2_distances_155, e_X2_distances_158, e_X2_distances_160, e_X2_distances_161, e_X2_distances_164, e_X2_distances_167, e_X2_distances_170, Option.bind_some, Option.bind_none, Option.toList_some, Option.toList_none, List.cons_append, List.nil_append, I_z, I_i8, I_q8, I_i7, I_q7, I_i6, I_q6, I_i5, I_q5, I_i4, I_q4, I_i3, I_q3, I_i2, I_q2, I_i1, I_q1, I_w8, I_w7, I_w6, I_w5, I_w4, I_w3, I_w2, I_c2n, I_c2i, I_c2q, eq_self, or_true, true_or, and_true, true_and, if_true, if_false, not_false_eq_true, not_true_eq_false, Option.map_none, Option.map_some, reduceCtorEq, isO, isT, isR, isM, gO_0, gO_1, gO_2, gO_3, gO_4, gO_5, gO_6, gO_7, gO_8, gO_9, gT_0, gT_1, gT_2, gR_0, gR_1, gR_2, gR_3, gM_0, gM_1, gM_2, gM_3, gM_4, gM_5, gM_6, gM_7, gM_8, gM_9, gM_10, gM_11, gM_12, gM_13, gM_14, gM_15, gM_16, gM_17, gM_18, gM_19, gM_20, lTs, lTr, lWd, lOp, lDp, lRw, lRd, nRw, nTr, nI_1, nI_add, sI_2, htn, eh, h1]
  | succ m ih =>
    intro xx S hx hN hD hKK
    have h1 : ¬ nI n ≤ nI xx := nI_ge (by omega) (by omega)
    have eh : S.2.1 1 tn = n := by rw [hN.1]; exact hhn
    obtain ⟨p1, p2, p3, _⟩ := hrows xx (by omega)
    obtain ⟨q1, q2, q3, _⟩ := hrows kk hk
    have hSW := hN.wb hW
    have x12 : xx < 12 := by omega
    have k12 : kk < 12 := by omega
    have p1' : n0 + xx < S.2.1 0 1 := by rw [hN.1]; exact p1
    have p2' : S.2.2.1 tn xx = some (n0 + xx) := by rw [hN.2.1]; exact p2
    have q1' : n0 + kk < S.2.1 0 1 := by rw [hN.1]; exact q1
    have q2' : S.2.2.1 tn kk = some (n0 + kk) := by rw [hN.2.1]; exact q2
    have h0 : S.1 (100 + (n0 + kk)) kk = 0 := Dst_kk (hKK kk hk)
    have hw := k_sh (X := X) (d := d + 1) (n := n) (kk := kk) hSW p1' q1' (by rw [hN.1]; exact p3) (by rw [hN.1]; exact q3) hk h0
    have hxk : ∀ y, y < n → Dst (stE B t n) kk xx y (S.1 (100 + (n0 + xx)) y) := fun y hy => by
      have := hD xx y (by omega) hy
      rw [if_neg (by omega)] at this; exact this
    obtain ⟨S', f1, f2, f3⟩ := ih (xx + 1) (sI S (100 + (n0 + xx)) (shA (S.1 (100 + (n0 + xx))) (S.1 (100 + (n0 + kk))) kk n)) (by omega) (NW_sI hN (by omega)) (fun x y hx' hy => by
      rw [sI_1]
      by_cases c : x = xx
      · subst c
        rw [up_eq, if_pos (by omega)]
        unfold shA
        rw [if_pos hy]
        exact Dst_step (by omega) (hxk kk hk) (hKK y hy) (hxk y hy)
      · rw [up_ne (by omega)]
        have := hD x y hx' hy
        by_cases c2 : x < xx
        · rw [if_pos c2] at this; rw [if_pos (by omega)]; exact this
        · rw [if_neg c2] at this; rw [if_neg (by omega)]; exact this) (fun y hy => by
      rw [sI_1]
      by_cases c : xx = kk
      · subst c
        rw [up_eq]
        unfold shA
        rw [if_pos hy, h0]
        have : shV 0 (S.1 (100 + (n0 + xx)) y) (S.1 (100 + (n0 + xx)) y) = S.1 (100 + (n0 + xx)) y := by
          unfold shV
          rw [if_neg (by decide), Int32.zero_add]
          split
          · rfl
          · rw [if_neg (I_lt_irr _)]
        rw [this]; exact hKK y hy
      · rw [up_ne (by omega)]; exact hKK y hy)
    refine ⟨S', ?_, f2, f3⟩
    rw [← f1, e_X2_distances_130]
    simp only [e_X2_distances_132, e_X2_distances_134, e_X2_distances_137, e_X2_distances_140, e_X2_distances_142, e_X2_distances_144, e_X2_distances_147, e_X2_distances_149, e_X2_distances_150, e_X2_distances_153, e_X2_distances_155, e_X2_distances_158, e_X2_distances_160, e_X2_distances_161, e_X2_distances_164, e_X2_distances_167, e_X2_distances_170, Option.bind_some, Option.bind_none, Option.toList_some, Option.toList_none, List.cons_append, List.nil_append, I_z, I_i8, I_q8, I_i7, I_q7, I_i6, I_q6, I_i5, I_q5, I_i4, I_q4, I_i3, I_q3, I_i2, I_q2, I_i1, I_q1, I_w8, I_w7, I_w6, I_w5, I_w4, I_w3, I_w2, I_c2n, I_c2i, I_c2q, eq_self, or_true, true_or, and_true, true_and, if_true, if_false, not_false_eq_true, not_true_eq_false, Option.map_none, Option.map_some, reduceCtorEq, isO, isT, isR, isM, gO_0, gO_1, gO_2, gO_3, gO_4, gO_5, gO_6, gO_7, gO_8, gO_9, gT_0, gT_1, gT_2, gR_0, gR_1, gR_2, gR_3, gM_0, gM_1, gM_2, gM_3, gM_4, gM_5, gM_6, gM_7, gM_8, gM_9, gM_10, gM_11, gM_12, gM_13, gM_14, gM_15, gM_16, gM_17, gM_18, gM_19, gM_20, lTs, lTr, lWd, lOp, lDp, lRw, lRd, nRw, nTr, nI_1, nI_add, sI_2, htn, ht, eh, h1, x12, k12, p1', p2', q1', q2', hw]
theorem k_dist_k (hB : Dok B n0 t tn n) : ∀ m kk l6 (S : St), kk + m = n → NW B S n0 → (∀ x y, x < n → y < n → Dst (stE B t n) kk x y (S.1 (100 + (n0 + x)) y)) → ∃ S', ev X (d + 2) m_X2_distances 117 [some (va_rf (some (aO X))), some (.int a), some (va_rf (some (aT X t))), some (.int b), some (va_rf (some (aT X tn))), some (.int (nI kk)), l6] [] (rp X S) = some (some (.int b), rp X S') ∧ NW B S' n0 ∧ ∀ x y, x < n → y < n → Dst (stE B t n) n x y (S'.1 (100 + (n0 + x)) y) := by
  have hB0 := hB
  obtain ⟨hW, ht, htn, hn, hhn, hht, hrows⟩ := hB
  intro m
  induction m with
  | zero =>
    intro kk l6 S hx hN hD
    have ex : kk = n := by omega
    subst ex
    have h1 : nI kk ≤ nI kk := nI_le (Nat.le_refl _) (by omega)
    have eh : S.2.1 1 tn = kk := by rw [hN.1]; exact hhn
    refine ⟨S, ?_, hN, hD⟩
    rw [e_X2_distances_117]
    simp only [e_X2_distances_119, e_X2_distances_121, e_X2_distances_124, e_X2_distances_127, e_X2_distances_128, e_X2_distances_179, e_X2_distances_180, Option.bind_some, Option.bind_none, Option.toList_some, Option.toList_none, List.cons_append, List.nil_append, I_z, I_i8, I_q8, I_i7, I_q7, I_i6, I_q6, I_i5, I_q5, I_i4, I_q4, I_i3, I_q3, I_i2, I_q2, I_i1, I_q1, I_w8, I_w7, I_w6, I_w5, I_w4, I_w3, I_w2, I_c2n, I_c2i, I_c2q, eq_self, or_true, true_or, and_true, true_and, if_true, if_false, not_false_eq_true, not_true_eq_false, Option.map_none, Option.map_some, reduceCtorEq, isO, isT, isR, isM, gO_0, gO_1, gO_2, gO_3, gO_4, gO_5, gO_6, gO_7, gO_8, gO_9, gT_0, gT_1, gT_2, gR_0, gR_1, gR_2, gR_3, gM_0, gM_1, gM_2, gM_3, gM_4, gM_5, gM_6, gM_7, gM_8, gM_9, gM_10, gM_11, gM_12, gM_13, gM_14, gM_15, gM_16, gM_17, gM_18, gM_19, gM_20, lTs, lTr, lWd, lOp, lDp, lRw, lRd, nRw, nTr, nI_1, nI_add, sI_2, htn, eh, h1]
  | succ m ih =>
    intro kk l6 S hx hN hD
    have h1 : ¬ nI n ≤ nI kk := nI_ge (by omega) (by omega)
    have eh : S.2.1 1 tn = n := by rw [hN.1]; exact hhn
    obtain ⟨S1, e1, e2, e3⟩ := k_dist_x (X := X) (d := d) (a := a) (b := b) (kk := kk) hB0 (by omega) n 0 S (by omega) hN (fun x y hx hy => by rw [if_neg (by omega)]; exact hD x y hx hy) (fun y hy => hD kk y (by omega) hy)
    rw [nI_0] at e1
    obtain ⟨S2, f1, f2, f3⟩ := ih (kk + 1) (some (.int (nI n))) S1 (by omega) e2 e3
    refine ⟨S2, ?_, f2, f3⟩
    rw [← f1, e_X2_distances_117]
    simp only [e_X2_distances_119, e_X2_distances_121, e_X2_distances_124, e_X2_distances_127, e_X2_distances_128, Option.bind_some, Option.bind_none, Option.toList_some, Option.toList_none, List.cons_append, List.nil_append, I_z, I_i8, I_q8, I_i7, I_q7, I_i6, I_q6, I_i5, I_q5, I_i4, I_q4, I_i3, I_q3, I_i2, I_q2, I_i1, I_q1, I_w8, I_w7, I_w6, I_w5, I_w4, I_w3, I_w2, I_c2n, I_c2i, I_c2q, eq_self, or_true, true_or, and_true, true_and, if_true, if_false, not_false_eq_true, not_true_eq_false, Option.map_none, Option.map_some, reduceCtorEq, isO, isT, isR, isM, gO_0, gO_1, gO_2, gO_3, gO_4, gO_5, gO_6, gO_7, gO_8, gO_9, gT_0, gT_1, gT_2, gR_0, gR_1, gR_2, gR_3, gM_0, gM_1, gM_2, gM_3, gM_4, gM_5, gM_6, gM_7, gM_8, gM_9, gM_10, gM_11, gM_12, gM_13, gM_14, gM_15, gM_16, gM_17, gM_18, gM_19, gM_20, lTs, lTr, lWd, lOp, lDp, lRw, lRd, nRw, nTr, nI_1, nI_add, sI_2, htn, eh, h1, e1]
    simp only [e_X2_distances_173, e_X2_distances_176, Option.bind_some, Option.bind_none, Option.toList_some, Option.toList_none, List.cons_append, List.nil_append, I_z, I_i8, I_q8, I_i7, I_q7, I_i6, I_q6, I_i5, I_q5, I_i4, I_q4, I_i3, I_q3, I_i2, I_q2, I_i1, I_q1, I_w8, I_w7, I_w6, I_w5, I_w4, I_w3, I_w2, I_c2n, I_c2i, I_c2q, eq_self, or_true, true_or, and_true, true_and, if_true, if_false, not_false_eq_true, not_true_eq_false, Option.map_none, Option.map_some, reduceCtorEq, isO, isT, isR, isM, gO_0, gO_1, gO_2, gO_3, gO_4, gO_5, gO_6, gO_7, gO_8, gO_9, gT_0, gT_1, gT_2, gR_0, gR_1, gR_2, gR_3, gM_0, gM_1, gM_2, gM_3, gM_4, gM_5, gM_6, gM_7, gM_8, gM_9, gM_10, gM_11, gM_12, gM_13, gM_14, gM_15, gM_16, gM_17, gM_18, gM_19, gM_20, lTs, lTr, lWd, lOp, lDp, lRw, lRd, nRw, nTr, nI_1, nI_add, sI_2]
theorem k_dist_ok (hS : WB S) (h1 : t < S.2.1 0 0) (c1 : S.1 1 t = 0) (c2 : sqr S t) (hf : S.2.1 0 0 < 16) : ∃ S', ev X (d + 4) m_X2_distances 0 [some (va_rf (some (aO X))), some (.int (nI t)), none, none, none, none, none] [] (rp X S) = some (some (.int (nI (S.2.1 0 0))), rp X S') ∧ NW (bwS S 1 (S.2.1 1 t) (S.2.1 1 t)) S' (S.2.1 0 1) ∧ ∀ x y, x < S.2.1 1 t → y < S.2.1 1 t → Dst (stE S t (S.2.1 1 t)) (S.2.1 1 t) x y (S'.1 (100 + (S.2.1 0 1 + x)) y) := by
  have h16 := hS.1
  have ht : t < 16 := by omega
  have hh := hS.2.1 t ht
  have c3 := (sqr_odd hh).mpr c2
  obtain ⟨a1, a2, a3, a4, a5, a6, a7, a7', a8, a9, b1, b2, b3, b4, b5⟩ := bwS_all (S := S) (k := 1) (hi := S.2.1 1 t) (w := S.2.1 1 t) hh
  have hB := bwS_WB (k := 1) (hi := S.2.1 1 t) (w := S.2.1 1 t) hS hf hh (by omega)
  generalize hBd : bwS S 1 (S.2.1 1 t) (S.2.1 1 t) = B at *
  have hD : Dok B (S.2.1 0 1) t (S.2.1 0 0) (S.2.1 1 t) := by
    refine ⟨hB, ht, hf, hh, by rw [a4, if_pos rfl], by rw [a4, if_neg (by omega)], fun x hx => ?_⟩
    obtain ⟨l, p1, p2⟩ := c2 x hx
    have hl := hS.2.2.1 t x l ht p1
    exact ⟨by rw [a2]; omega, a7' x hx, by rw [a5, if_pos (by omega)], l, hl, by rw [a7 t x (by omega)]; exact p1, by rw [a5, if_neg (by omega)]; exact p2⟩
  have eE : stE B t (S.2.1 1 t) = stE S t (S.2.1 1 t) := by
    funext x y
    unfold stE
    by_cases hx : x < S.2.1 1 t
    · obtain ⟨l, p1, p2⟩ := c2 x hx
      have hl := hS.2.2.1 t x l ht p1
      rw [rowAt_s (S := B) (r := l) (by rw [a7 t x (by omega)]; exact p1), rowAt_s p1, b2, if_neg (by omega)]
    · simp only [hx, false_and]
  obtain ⟨S1, e1, e2, e3⟩ := k_dist_w (X := X) (d := d + 2) (a := nI t) (b := nI (S.2.1 0 0)) hD (S.2.1 1 t) 0 B (by omega) (NW.refl _) (fun x y hx _ => by omega)
  obtain ⟨S2, f1, f2, f3⟩ := k_dist_k (X := X) (d := d + 2) (a := nI t) (b := nI (S.2.1 0 0)) hD (S.2.1 1 t) 0 none S1 (by omega) e2 e3
  rw [nI_0] at e1 f1
  rw [eE] at f3
  refine ⟨S2, ?_, f2, f3⟩
  simp only [e_X2_distances_0, e_X2_distances_1, e_X2_distances_2, e_X2_distances_5, e_X2_distances_8, e_X2_distances_10, e_X2_distances_11, e_X2_distances_12, e_X2_distances_15, e_X2_distances_16, e_X2_distances_17, e_X2_distances_18, e_X2_distances_19, e_X2_distances_22, e_X2_distances_25, e_X2_distances_26, e_X2_distances_29, e_X2_distances_31, e_X2_distances_34, e_X2_distances_36, e_X2_distances_37, e_X2_distances_38, e_X2_distances_41, e_X2_distances_44, e_X2_distances_46, e_X2_distances_47, e_X2_distances_48, e_X2_distances_49, e_X2_distances_50, e_X2_distances_53, e_X2_distances_54, e_X2_distances_57, e_X2_distances_60, e_X2_distances_61, e_X2_distances_62, e_X2_distances_65, e_X2_distances_66, e_X2_distances_67, e_X2_distances_69, e_X2_distances_70, Option.bind_some, Option.bind_none, Option.toList_some, Option.toList_none, List.cons_append, List.nil_append, I_z, I_i8, I_q8, I_i7, I_q7, I_i6, I_q6, I_i5, I_q5, I_i4, I_q4, I_i3, I_q3, I_i2, I_q2, I_i1, I_q1, I_w8, I_w7, I_w6, I_w5, I_w4, I_w3, I_w2, I_c2n, I_c2i, I_c2q, eq_self, or_true, true_or, and_true, true_and, if_true, if_false, not_false_eq_true, not_true_eq_false, Option.map_none, Option.map_some, reduceCtorEq, isO, isT, isR, isM, gO_0, gO_1, gO_2, gO_3, gO_4, gO_5, gO_6, gO_7, gO_8, gO_9, gT_0, gT_1, gT_2, gR_0, gR_1, gR_2, gR_3, gM_0, gM_1, gM_2, gM_3, gM_4, gM_5, gM_6, gM_7, gM_8, gM_9, gM_10, gM_11, gM_12, gM_13, gM_14, gM_15, gM_16, gM_17, gM_18, gM_19, gM_20, lTs, lTr, lWd, lOp, lDp, lRw, lRd, nRw, nTr, nI_1, nI_add, sI_2, ht, hf, k_isUnknown0 h1 h16, c1, k_fns hS ht, c3, k_isFull h16, if_neg (show ¬ S.2.1 0 0 = 16 by omega), e10, k_bwr hS hf hh (show S.2.1 1 t ≤ 16 by omega), hBd, e1]
  simp only [e_X2_distances_114, e_X2_distances_115, Option.bind_some, Option.bind_none, Option.toList_some, Option.toList_none, List.cons_append, List.nil_append, I_z, I_i8, I_q8, I_i7, I_q7, I_i6, I_q6, I_i5, I_q5, I_i4, I_q4, I_i3, I_q3, I_i2, I_q2, I_i1, I_q1, I_w8, I_w7, I_w6, I_w5, I_w4, I_w3, I_w2, I_c2n, I_c2i, I_c2q, eq_self, or_true, true_or, and_true, true_and, if_true, if_false, not_false_eq_true, not_true_eq_false, Option.map_none, Option.map_some, reduceCtorEq, isO, isT, isR, isM, gO_0, gO_1, gO_2, gO_3, gO_4, gO_5, gO_6, gO_7, gO_8, gO_9, gT_0, gT_1, gT_2, gR_0, gR_1, gR_2, gR_3, gM_0, gM_1, gM_2, gM_3, gM_4, gM_5, gM_6, gM_7, gM_8, gM_9, gM_10, gM_11, gM_12, gM_13, gM_14, gM_15, gM_16, gM_17, gM_18, gM_19, gM_20, lTs, lTr, lWd, lOp, lDp, lRw, lRd, nRw, nTr, nI_1, nI_add, sI_2, f1]
end DI1
