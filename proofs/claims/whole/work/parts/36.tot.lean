/-! The landed code: pack, total, deep. -/
section TO0
variable {X : I_X} {S B : St} {d t tn r r0 i j n m g w b0 l yy xx n0 kk : Nat} {a b c e v x y z k : Int32} {f h wd : Nat → Int32}
/-- bit v comes to place n of the words -/
def pkW (wd : Nat → Int32) (n : Nat) (v : Int32) : Nat → Int32 := upd wd (n / 32) (wd (n / 32) ||| (v <<< (nI (n % 32) &&& 31)))
theorem shl0 (s : Int32) : (0 : Int32) <<< s = 0 := by
  apply Int32.toBitVec_inj.mp
  rw [Int32.toBitVec_shiftLeft]
  exact BitVec.zero_shiftLeft _
theorem pkW_0 : pkW wd n 0 = wd := by
  funext j
  unfold pkW upd
  by_cases q : j = n / 32
  · rw [if_pos q, shl0, Int32.or_zero, q]
  · rw [if_neg q]
/-- a row's cells come to the words, from place b0 on -/
def pkR (f : Nat → Int32) (b0 : Nat) : Nat → Nat → (Nat → Int32) → Nat → Int32
  | 0, _, w => w
  | m + 1, j, w => pkR f b0 m (j + 1) (pkW w (b0 + j) (f j))
theorem n32 : (32 : Int32) = nI 32 := rfl
theorem k_pr_loop (hS : WB S) (hr : r < S.2.1 0 1) (hb0 : b0 + S.2.1 2 r ≤ 192) (h01 : ∀ j, j < S.2.1 2 r → S.1 (100 + r) j = 0 ∨ S.1 (100 + r) j = 1) : ∀ m j l4 (w : Nat → Int32), j + m = S.2.1 2 r → ev X d m_X2_packRow 2 [some (va_rf (some (aO X))), some (va_rf (some (aRw X r))), some (.int (nI b0)), some (.int (nI j)), l4] [] (rp X (sI S 2 w)) = some (none, rp X (sI S 2 (pkR (S.1 (100 + r)) b0 m j w))) := by
  have h16 := (hS.2.2.2 r hr).1
  have hb : S.2.1 2 r < 2 ^ 31 := by omega
  intro m
  induction m with
  | zero =>
    intro j l4 w hj
    have h1 : nI (S.2.1 2 r) ≤ nI j := nI_le (by omega) (by omega)
    rw [e_X2_packRow_2]
    simp only [e_X2_packRow_3, e_X2_packRow_4, e_X2_packRow_5, e_X2_packRow_8, e_X2_packRow_9, e_X2_packRow_10, e_X2_packRow_11, e_X2_packRow_13, e_X2_packRow_14, e_X2_packRow_15, e_X2_packRow_16, e_X2_packRow_19, e_X2_packRow_20, e_X2_packRow_23, e_X2_packRow_25, e_X2_packRow_27, e_X2_packRow_28, e_X2_packRow_29, e_X2_packRow_30, e_X2_packRow_31, e_X2_packRow_33, e_X2_packRow_35, e_X2_packRow_36, e_X2_packRow_37, e_X2_packRow_38, e_X2_packRow_39, e_X2_packRow_42, e_X2_packRow_45, Option.bind_some, Option.bind_none, Option.toList_some, Option.toList_none, List.cons_append, List.nil_append, I_z, I_i8, I_q8, I_i7, I_q7, I_i6, I_q6, I_i5, I_q5, I_i4, I_q4, I_i3, I_q3, I_i2, I_q2, I_i1, I_q1, I_w8, I_w7, I_w6, I_w5, I_w4, I_w3, I_w2, I_c2n, I_c2i, I_c2q, eq_self, or_true, true_or, and_true, true_and, if_true, if_false, not_false_eq_true, not_true_eq_false, Option.map_none, Option.map_some, reduceCtorEq, isO, isT, isR, isM, gO_0, gO_1, gO_2, gO_3, gO_4, gO_5, gO_6, gO_7, gO_8, gO_9, gT_0, gT_1, gT_2, gR_0, gR_1, gR_2, gR_3, gM_0, gM_1, gM_2, gM_3, gM_4, gM_5, gM_6, gM_7, gM_8, gM_9, gM_10, gM_11, gM_12, gM_13, gM_14, gM_15, gM_16, gM_17, gM_18, gM_19, gM_20, lTs, lTr, lWd, lOp, lDp, lRw, lRd, nRw, nTr, nI_1, nI_add, sI_2, hr, h1, pkR]
  | succ m ih =>
    intro j l4 w hj
    have h1 : ¬ nI (S.2.1 2 r) ≤ nI j := nI_ge (by omega) (by omega)
    have hj1 : j < S.2.1 2 r := by omega
    have er : va_up S.1 2 w (100 + r) = S.1 (100 + r) := up_ne (by omega)
    have ih1 := ih (j + 1) (some (.int (nI (b0 + j)))) (pkW w (b0 + j) (S.1 (100 + r) j)) (by omega)
    have e32 : ¬ (32 : Int32) = 0 := by decide
    have d1 : nI (b0 + j) / (32 : Int32) = nI ((b0 + j) / 32) := pk_div (d := 32) (by omega) (by omega) (by omega)
    have d2 : nI (b0 + j) - nI ((b0 + j) / 32) * (32 : Int32) = nI ((b0 + j) % 32) := by
      have := pk_rem (a := b0 + j) (d := 32) (by omega) (by omega) (by omega)
      rw [← d1]; exact this
    have d3 : (b0 + j) / 32 < 6 := by omega
    rw [e_X2_packRow_2]
    rcases h01 j hj1 with c | c
    · rw [c, pkW_0] at ih1
      simp only [e_X2_packRow_3, e_X2_packRow_4, e_X2_packRow_5, e_X2_packRow_8, e_X2_packRow_9, e_X2_packRow_10, e_X2_packRow_11, e_X2_packRow_13, e_X2_packRow_14, e_X2_packRow_15, e_X2_packRow_16, e_X2_packRow_19, e_X2_packRow_20, e_X2_packRow_23, e_X2_packRow_25, e_X2_packRow_27, e_X2_packRow_28, e_X2_packRow_29, e_X2_packRow_30, e_X2_packRow_31, e_X2_packRow_33, e_X2_packRow_35, e_X2_packRow_36, e_X2_packRow_37, e_X2_packRow_38, e_X2_packRow_39, e_X2_packRow_42, e_X2_packRow_45, Option.bind_some, Option.bind_none, Option.toList_some, Option.toList_none, List.cons_append, List.nil_append, I_z, I_i8, I_q8, I_i7, I_q7, I_i6, I_q6, I_i5, I_q5, I_i4, I_q4, I_i3, I_q3, I_i2, I_q2, I_i1, I_q1, I_w8, I_w7, I_w6, I_w5, I_w4, I_w3, I_w2, I_c2n, I_c2i, I_c2q, eq_self, or_true, true_or, and_true, true_and, if_true, if_false, not_false_eq_true, not_true_eq_false, Option.map_none, Option.map_some, reduceCtorEq, isO, isT, isR, isM, gO_0, gO_1, gO_2, gO_3, gO_4, gO_5, gO_6, gO_7, gO_8, gO_9, gT_0, gT_1, gT_2, gR_0, gR_1, gR_2, gR_3, gM_0, gM_1, gM_2, gM_3, gM_4, gM_5, gM_6, gM_7, gM_8, gM_9, gM_10, gM_11, gM_12, gM_13, gM_14, gM_15, gM_16, gM_17, gM_18, gM_19, gM_20, lTs, lTr, lWd, lOp, lDp, lRw, lRd, nRw, nTr, nI_1, nI_add, sI_2, hr, h1, hj1, hb, sI_1, er, c, pkR, pkW_0, ih1]
    · rw [c] at ih1
      simp only [e_X2_packRow_3, e_X2_packRow_4, e_X2_packRow_5, e_X2_packRow_8, e_X2_packRow_9, e_X2_packRow_10, e_X2_packRow_11, e_X2_packRow_13, e_X2_packRow_14, e_X2_packRow_15, e_X2_packRow_16, e_X2_packRow_19, e_X2_packRow_20, e_X2_packRow_23, e_X2_packRow_25, e_X2_packRow_27, e_X2_packRow_28, e_X2_packRow_29, e_X2_packRow_30, e_X2_packRow_31, e_X2_packRow_33, e_X2_packRow_35, e_X2_packRow_36, e_X2_packRow_37, e_X2_packRow_38, e_X2_packRow_39, e_X2_packRow_42, e_X2_packRow_45, Option.bind_some, Option.bind_none, Option.toList_some, Option.toList_none, List.cons_append, List.nil_append, I_z, I_i8, I_q8, I_i7, I_q7, I_i6, I_q6, I_i5, I_q5, I_i4, I_q4, I_i3, I_q3, I_i2, I_q2, I_i1, I_q1, I_w8, I_w7, I_w6, I_w5, I_w4, I_w3, I_w2, I_c2n, I_c2i, I_c2q, eq_self, or_true, true_or, and_true, true_and, if_true, if_false, not_false_eq_true, not_true_eq_false, Option.map_none, Option.map_some, reduceCtorEq, isO, isT, isR, isM, gO_0, gO_1, gO_2, gO_3, gO_4, gO_5, gO_6, gO_7, gO_8, gO_9, gT_0, gT_1, gT_2, gR_0, gR_1, gR_2, gR_3, gM_0, gM_1, gM_2, gM_3, gM_4, gM_5, gM_6, gM_7, gM_8, gM_9, gM_10, gM_11, gM_12, gM_13, gM_14, gM_15, gM_16, gM_17, gM_18, gM_19, gM_20, lTs, lTr, lWd, lOp, lDp, lRw, lRd, nRw, nTr, nI_1, nI_add, sI_2, hr, h1, hj1, hb, sI_1, er, c, e10, e32, d1, d2, d3, up_eq, uWd, sI_g, sI_sI, pkR]
      exact ih1
theorem k_pr (hS : WB S) (hr : r < S.2.1 0 1) (hb0 : b0 + S.2.1 2 r ≤ 192) (h01 : ∀ j, j < S.2.1 2 r → S.1 (100 + r) j = 0 ∨ S.1 (100 + r) j = 1) (w : Nat → Int32) : ev X d m_X2_packRow 0 [some (va_rf (some (aO X))), some (va_rf (some (aRw X r))), some (.int (nI b0)), none, none] [] (rp X (sI S 2 w)) = some (none, rp X (sI S 2 (pkR (S.1 (100 + r)) b0 (S.2.1 2 r) 0 w))) := by
  have h := k_pr_loop (X := X) (d := d) hS hr hb0 h01 (S.2.1 2 r) 0 none w (by omega)
  rw [nI_0] at h
  simp only [e_X2_packRow_0, e_X2_packRow_1, Option.bind_some, Option.bind_none, Option.toList_some, Option.toList_none, List.cons_append, List.nil_append, I_z, I_i8, I_q8, I_i7, I_q7, I_i6, I_q6, I_i5, I_q5, I_i4, I_q4, I_i3, I_q3, I_i2, I_q2, I_i1, I_q1, I_w8, I_w7, I_w6, I_w5, I_w4, I_w3, I_w2, I_c2n, I_c2i, I_c2q, eq_self, or_true, true_or, and_true, true_and, if_true, if_false, not_false_eq_true, not_true_eq_false, Option.map_none, Option.map_some, reduceCtorEq, isO, isT, isR, isM, gO_0, gO_1, gO_2, gO_3, gO_4, gO_5, gO_6, gO_7, gO_8, gO_9, gT_0, gT_1, gT_2, gR_0, gR_1, gR_2, gR_3, gM_0, gM_1, gM_2, gM_3, gM_4, gM_5, gM_6, gM_7, gM_8, gM_9, gM_10, gM_11, gM_12, gM_13, gM_14, gM_15, gM_16, gM_17, gM_18, gM_19, gM_20, lTs, lTr, lWd, lOp, lDp, lRw, lRd, nRw, nTr, nI_1, nI_add, sI_2, h]
/-- all rows from i on: the words, and how many bits -/
def pkT (S : St) (t : Nat) : Nat → Nat → Nat → (Nat → Int32) → (Nat → Int32) × Nat
  | 0, _, b, w => (w, b)
  | m + 1, i, b, w => pkT S t m (i + 1) (b + S.2.1 2 (rowAt S t i)) (pkR (S.1 (100 + rowAt S t i)) b (S.2.1 2 (rowAt S t i)) 0 w)
/-- all places stand, with bits -/
def bitT (S : St) (t : Nat) : Prop := ∀ i, i < S.2.1 1 t → ∃ r, S.2.2.1 t i = some r ∧ ∀ j, j < S.2.1 2 r → S.1 (100 + r) j = 0 ∨ S.1 (100 + r) j = 1
theorem pkT_b (hS : WB S) (ht : t < 16) (hB : bitT S t) : ∀ m i b w, i + m = S.2.1 1 t → b ≤ 16 * i → (pkT S t m i b w).2 ≤ 16 * S.2.1 1 t := by
  intro m
  induction m with
  | zero => intro i b w hi hb; show b ≤ _; omega
  | succ m ih =>
    intro i b w hi hb
    obtain ⟨r, hp, _⟩ := hB i (by omega)
    have h16 := (hS.2.2.2 r (hS.2.2.1 t i r ht hp)).1
    have er := rowAt_s hp
    exact ih (i + 1) _ _ (by omega) (by rw [er]; omega)
theorem k_pk_loop (hS : WB S) (ht : t < 16) (hB : bitT S t) : ∀ m i b w, i + m = S.2.1 1 t → b ≤ 16 * i → ev X (d + 1) m_X2_pack 54 [some (va_rf (some (aO X))), some (.int a), some (va_rf (some (aT X t))), some (.int (nI b)), some (.int (nI i))] [] (rp X (sI S 2 w)) = ev X (d + 1) m_X2_pack 97 [some (va_rf (some (aO X))), some (.int a), some (va_rf (some (aT X t))), some (.int (nI (pkT S t m i b w).2)), some (.int (nI (S.2.1 1 t)))] [] (rp X (sI S 2 (pkT S t m i b w).1)) := by
  have hh := hS.2.1 t ht
  intro m
  induction m with
  | zero =>
    intro i b w hi hb
    have e : i = S.2.1 1 t := by omega
    subst e
    have h1 : nI (S.2.1 1 t) ≤ nI (S.2.1 1 t) := nI_le (Nat.le_refl _) (by omega)
    rw [e_X2_pack_54]
    simp only [e_X2_pack_56, e_X2_pack_57, e_X2_pack_60, e_X2_pack_63, e_X2_pack_64, e_X2_pack_65, e_X2_pack_68, e_X2_pack_70, e_X2_pack_71, e_X2_pack_74, e_X2_pack_75, e_X2_pack_78, e_X2_pack_79, e_X2_pack_80, e_X2_pack_83, e_X2_pack_85, e_X2_pack_86, e_X2_pack_89, e_X2_pack_90, e_X2_pack_91, e_X2_pack_94, Option.bind_some, Option.bind_none, Option.toList_some, Option.toList_none, List.cons_append, List.nil_append, I_z, I_i8, I_q8, I_i7, I_q7, I_i6, I_q6, I_i5, I_q5, I_i4, I_q4, I_i3, I_q3, I_i2, I_q2, I_i1, I_q1, I_w8, I_w7, I_w6, I_w5, I_w4, I_w3, I_w2, I_c2n, I_c2i, I_c2q, eq_self, or_true, true_or, and_true, true_and, if_true, if_false, not_false_eq_true, not_true_eq_false, Option.map_none, Option.map_some, reduceCtorEq, isO, isT, isR, isM, gO_0, gO_1, gO_2, gO_3, gO_4, gO_5, gO_6, gO_7, gO_8, gO_9, gT_0, gT_1, gT_2, gR_0, gR_1, gR_2, gR_3, gM_0, gM_1, gM_2, gM_3, gM_4, gM_5, gM_6, gM_7, gM_8, gM_9, gM_10, gM_11, gM_12, gM_13, gM_14, gM_15, gM_16, gM_17, gM_18, gM_19, gM_20, lTs, lTr, lWd, lOp, lDp, lRw, lRd, nRw, nTr, nI_1, nI_add, sI_2, ht, h1, pkT]
  | succ m ih =>
    intro i b w hi hb
    have h1 : ¬ nI (S.2.1 1 t) ≤ nI i := nI_ge (by omega) (by omega)
    obtain ⟨r, hp, h01⟩ := hB i (by omega)
    have hr := hS.2.2.1 t i r ht hp
    have h16 := (hS.2.2.2 r hr).1
    have er := rowAt_s hp
    have i12 : i < 12 := by omega
    have ih1 := ih (i + 1) (b + S.2.1 2 r) (pkR (S.1 (100 + r)) b (S.2.1 2 r) 0 w) (by omega) (by omega)
    have hl : ev X d m_X0_length 0 [some (va_rf (some (aR X r)))] [] (rp X (sI S 2 (pkR (S.1 (100 + r)) b (S.2.1 2 r) 0 w))) = some (some (.int (nI (S.2.1 2 r))), rp X (sI S 2 (pkR (S.1 (100 + r)) b (S.2.1 2 r) 0 w))) := k_length (S := sI S 2 (pkR (S.1 (100 + r)) b (S.2.1 2 r) 0 w)) hr
    rw [e_X2_pack_54]
    simp only [e_X2_pack_56, e_X2_pack_57, e_X2_pack_60, e_X2_pack_63, e_X2_pack_64, e_X2_pack_65, e_X2_pack_68, e_X2_pack_70, e_X2_pack_71, e_X2_pack_74, e_X2_pack_75, e_X2_pack_78, e_X2_pack_79, e_X2_pack_80, e_X2_pack_83, e_X2_pack_85, e_X2_pack_86, e_X2_pack_89, e_X2_pack_90, e_X2_pack_91, e_X2_pack_94, Option.bind_some, Option.bind_none, Option.toList_some, Option.toList_none, List.cons_append, List.nil_append, I_z, I_i8, I_q8, I_i7, I_q7, I_i6, I_q6, I_i5, I_q5, I_i4, I_q4, I_i3, I_q3, I_i2, I_q2, I_i1, I_q1, I_w8, I_w7, I_w6, I_w5, I_w4, I_w3, I_w2, I_c2n, I_c2i, I_c2q, eq_self, or_true, true_or, and_true, true_and, if_true, if_false, not_false_eq_true, not_true_eq_false, Option.map_none, Option.map_some, reduceCtorEq, isO, isT, isR, isM, gO_0, gO_1, gO_2, gO_3, gO_4, gO_5, gO_6, gO_7, gO_8, gO_9, gT_0, gT_1, gT_2, gR_0, gR_1, gR_2, gR_3, gM_0, gM_1, gM_2, gM_3, gM_4, gM_5, gM_6, gM_7, gM_8, gM_9, gM_10, gM_11, gM_12, gM_13, gM_14, gM_15, gM_16, gM_17, gM_18, gM_19, gM_20, lTs, lTr, lWd, lOp, lDp, lRw, lRd, nRw, nTr, nI_1, nI_add, sI_2, ht, h1, i12, hp, hr, k_pr hS hr (show b + S.2.1 2 r ≤ 192 by omega) h01 w, hl, pkT, er, ih1]
theorem k_pack_unk (h : unk S a) : ev X (d + 2) m_X2_pack 0 [some (va_rf (some (aO X))), some (.int a), none, none, none] [] (rp X S) = some (some (.int (-1000001)), rp X S) := by
  simp only [e_X2_pack_0, e_X2_pack_1, e_X2_pack_2, e_X2_pack_5, e_X2_pack_8, e_X2_pack_10, Option.bind_some, Option.bind_none, Option.toList_some, Option.toList_none, List.cons_append, List.nil_append, I_z, I_i8, I_q8, I_i7, I_q7, I_i6, I_q6, I_i5, I_q5, I_i4, I_q4, I_i3, I_q3, I_i2, I_q2, I_i1, I_q1, I_w8, I_w7, I_w6, I_w5, I_w4, I_w3, I_w2, I_c2n, I_c2i, I_c2q, eq_self, or_true, true_or, and_true, true_and, if_true, if_false, not_false_eq_true, not_true_eq_false, Option.map_none, Option.map_some, reduceCtorEq, isO, isT, isR, isM, gO_0, gO_1, gO_2, gO_3, gO_4, gO_5, gO_6, gO_7, gO_8, gO_9, gT_0, gT_1, gT_2, gR_0, gR_1, gR_2, gR_3, gM_0, gM_1, gM_2, gM_3, gM_4, gM_5, gM_6, gM_7, gM_8, gM_9, gM_10, gM_11, gM_12, gM_13, gM_14, gM_15, gM_16, gM_17, gM_18, gM_19, gM_20, lTs, lTr, lWd, lOp, lDp, lRw, lRd, nRw, nTr, nI_1, nI_add, sI_2, k_isUnknown1 h, e10]
theorem k_pack_state (hS : WB S) (h1 : t < S.2.1 0 0) (hk : ¬ S.1 1 t = 0) : ev X (d + 2) m_X2_pack 0 [some (va_rf (some (aO X))), some (.int (nI t)), none, none, none] [] (rp X S) = some (some (.int (-1000003)), rp X S) := by
  have h16 := hS.1
  have ht : t < 16 := by omega
  simp only [e_X2_pack_0, e_X2_pack_1, e_X2_pack_2, e_X2_pack_5, e_X2_pack_8, e_X2_pack_10, e_X2_pack_11, e_X2_pack_12, e_X2_pack_15, e_X2_pack_16, e_X2_pack_17, e_X2_pack_18, e_X2_pack_19, e_X2_pack_22, e_X2_pack_25, e_X2_pack_27, Option.bind_some, Option.bind_none, Option.toList_some, Option.toList_none, List.cons_append, List.nil_append, I_z, I_i8, I_q8, I_i7, I_q7, I_i6, I_q6, I_i5, I_q5, I_i4, I_q4, I_i3, I_q3, I_i2, I_q2, I_i1, I_q1, I_w8, I_w7, I_w6, I_w5, I_w4, I_w3, I_w2, I_c2n, I_c2i, I_c2q, eq_self, or_true, true_or, and_true, true_and, if_true, if_false, not_false_eq_true, not_true_eq_false, Option.map_none, Option.map_some, reduceCtorEq, isO, isT, isR, isM, gO_0, gO_1, gO_2, gO_3, gO_4, gO_5, gO_6, gO_7, gO_8, gO_9, gT_0, gT_1, gT_2, gR_0, gR_1, gR_2, gR_3, gM_0, gM_1, gM_2, gM_3, gM_4, gM_5, gM_6, gM_7, gM_8, gM_9, gM_10, gM_11, gM_12, gM_13, gM_14, gM_15, gM_16, gM_17, gM_18, gM_19, gM_20, lTs, lTr, lWd, lOp, lDp, lRw, lRd, nRw, nTr, nI_1, nI_add, sI_2, ht, k_isUnknown0 h1 h16, hk]
theorem fallA_n (hh : S.2.1 1 t ≤ 12) : ∀ m i s, i + m ≤ 12 → s ≤ 12 → ∃ q, fallA S t m i (nI s) = nI (s + q) ∧ q ≤ m ∧ (q = 0 ↔ ∀ p, i ≤ p → p < i + m → S.2.2.1 t p ≠ none) := by
  intro m
  induction m with
  | zero => intro i s _ _; exact ⟨0, rfl, Nat.le_refl _, fun _ p h1 h2 => by omega, fun _ => rfl⟩
  | succ m ih =>
    intro i s hi hs
    cases hp : S.2.2.1 t i with
    | none =>
      have e : fallA S t (m + 1) i (nI s) = fallA S t m (i + 1) (nI s + 1) := by
        show fallA S t m (i + 1) (match S.2.2.1 t i with | none => nI s + 1 | some _ => nI s) = _
        rw [hp]
      have gen : ∀ m i s, ∃ q, fallA S t m i (nI s) = nI (s + q) ∧ q ≤ m := by
        intro m
        induction m with
        | zero => intro i s; exact ⟨0, rfl, Nat.le_refl _⟩
        | succ m ih =>
          intro i s
          cases hp : S.2.2.1 t i with
          | none =>
            obtain ⟨q, h1, h2⟩ := ih (i + 1) (s + 1)
            refine ⟨q + 1, ?_, by omega⟩
            show fallA S t (m + 1) i (nI s) = _
            unfold fallA
            rw [hp]
            show fallA S t m (i + 1) (nI s + 1) = _
            rw [nI_1, h1]; congr 1; omega
          | some r =>
            obtain ⟨q, h1, h2⟩ := ih (i + 1) s
            refine ⟨q, ?_, by omega⟩
            show fallA S t (m + 1) i (nI s) = _
            unfold fallA
            rw [hp]
            exact h1
      obtain ⟨q, h1, h2⟩ := gen m (i + 1) (s + 1)
      refine ⟨q + 1, by rw [e, nI_1, h1]; congr 1; omega, by omega, fun z => by omega, fun z => absurd hp (z i (Nat.le_refl _) (by omega))⟩
    | some r =>
      have e : fallA S t (m + 1) i (nI s) = fallA S t m (i + 1) (nI s) := by
        show fallA S t m (i + 1) (match S.2.2.1 t i with | none => nI s + 1 | some _ => nI s) = _
        rw [hp]
      obtain ⟨q, h1, h2, h3⟩ := ih (i + 1) s (by omega) hs
      refine ⟨q, by rw [e, h1], by omega, ?_⟩
      rw [h3]
      constructor
      · intro z p p1 p2
        rcases Nat.lt_or_ge i p with y | y
        · exact z p y (by omega)
        · have : p = i := by omega
          subst this; rw [hp]; exact fun w => by cases w
      · intro z p p1 p2; exact z p (by omega) (by omega)
theorem k_pack_null (hS : WB S) (h1 : t < S.2.1 0 0) (hk : S.1 1 t = 0) (hi : i < S.2.1 1 t) (hp : S.2.2.1 t i = none) : ev X (d + 2) m_X2_pack 0 [some (va_rf (some (aO X))), some (.int (nI t)), none, none, none] [] (rp X S) = some (some (.int (-1000011)), rp X (sFail S)) := by
  have h16 := hS.1
  have ht : t < 16 := by omega
  have hh := hS.2.1 t ht
  have e : (-1000010 : Int32) - 1 = -1000011 := by decide
  obtain ⟨q, q1, q2, q3⟩ := fallA_n hh (S.2.1 1 t) 0 0 (by omega) (by omega)
  have q0 : 0 < q := Nat.pos_of_ne_zero (fun z => (q3.mp z) i (Nat.zero_le _) (by omega) hp)
  have q4 : ¬ fallA S t (S.2.1 1 t) 0 0 ≤ 0 := by rw [show (0 : Int32) = nI 0 from rfl, q1]; exact nI_ge (by omega) (by omega)
  simp only [e_X2_pack_0, e_X2_pack_1, e_X2_pack_2, e_X2_pack_5, e_X2_pack_8, e_X2_pack_10, e_X2_pack_11, e_X2_pack_12, e_X2_pack_15, e_X2_pack_16, e_X2_pack_17, e_X2_pack_18, e_X2_pack_19, e_X2_pack_22, e_X2_pack_25, e_X2_pack_27, e_X2_pack_28, e_X2_pack_29, e_X2_pack_32, e_X2_pack_35, e_X2_pack_36, e_X2_pack_37, e_X2_pack_40, Option.bind_some, Option.bind_none, Option.toList_some, Option.toList_none, List.cons_append, List.nil_append, I_z, I_i8, I_q8, I_i7, I_q7, I_i6, I_q6, I_i5, I_q5, I_i4, I_q4, I_i3, I_q3, I_i2, I_q2, I_i1, I_q1, I_w8, I_w7, I_w6, I_w5, I_w4, I_w3, I_w2, I_c2n, I_c2i, I_c2q, eq_self, or_true, true_or, and_true, true_and, if_true, if_false, not_false_eq_true, not_true_eq_false, Option.map_none, Option.map_some, reduceCtorEq, isO, isT, isR, isM, gO_0, gO_1, gO_2, gO_3, gO_4, gO_5, gO_6, gO_7, gO_8, gO_9, gT_0, gT_1, gT_2, gR_0, gR_1, gR_2, gR_3, gM_0, gM_1, gM_2, gM_3, gM_4, gM_5, gM_6, gM_7, gM_8, gM_9, gM_10, gM_11, gM_12, gM_13, gM_14, gM_15, gM_16, gM_17, gM_18, gM_19, gM_20, lTs, lTr, lWd, lOp, lDp, lRw, lRd, nRw, nTr, nI_1, nI_add, sI_2, ht, k_isUnknown0 h1 h16, hk, k_fallen hS ht, q4, k_failed, e]
/-- packed -/
def sPack (S : St) (t : Nat) : St := sI (sI S 2 (pkT S t (S.2.1 1 t) 0 0 (fillF (S.1 2) 0 6)).1) 0 (upd (S.1 0) 4 (nI (((pkT S t (S.2.1 1 t) 0 0 (fillF (S.1 2) 0 6)).2 + 31) / 32)))
theorem k_pack_ok (hS : WB S) (h1 : t < S.2.1 0 0) (hk : S.1 1 t = 0) (hB : bitT S t) : ev X (d + 2) m_X2_pack 0 [some (va_rf (some (aO X))), some (.int (nI t)), none, none, none] [] (rp X S) = some (some (.int (nI (((pkT S t (S.2.1 1 t) 0 0 (fillF (S.1 2) 0 6)).2 + 31) / 32))), rp X (sPack S t)) := by
  have h16 := hS.1
  have ht : t < 16 := by omega
  have hh := hS.2.1 t ht
  obtain ⟨q, q1, q2, q3⟩ := fallA_n hh (S.2.1 1 t) 0 0 (by omega) (by omega)
  have q0 : q = 0 := q3.mpr (fun p _ p2 => by obtain ⟨r, hp, _⟩ := hB p (by omega); rw [hp]; exact fun w => by cases w)
  have q4 : fallA S t (S.2.1 1 t) 0 0 ≤ 0 := by rw [show (0 : Int32) = nI 0 from rfl, q1, q0]; exact nI_le (Nat.le_refl _) (by omega)
  have hb := pkT_b hS ht hB (S.2.1 1 t) 0 0 (fillF (S.1 2) 0 6) (by omega) (by omega)
  have hl := k_pk_loop (X := X) (d := d + 1) (a := nI t) hS ht hB (S.2.1 1 t) 0 0 (fillF (S.1 2) 0 6) (by omega) (by omega)
  unfold sPack
  generalize pkT S t (S.2.1 1 t) 0 0 (fillF (S.1 2) 0 6) = P at *
  rw [nI_0] at hl
  have e32 : ¬ (32 : Int32) = 0 := by decide
  have d0 : nI P.2 + 32 - 1 = nI (P.2 + 31) := by
    rw [show (32 : Int32) = nI 32 from rfl, nI_add, show (1 : Int32) = nI 1 from rfl, pk_sub (by omega)]; rfl
  have d1 : nI (P.2 + 31) / (32 : Int32) = nI ((P.2 + 31) / 32) := pk_div (d := 32) (by omega) (by omega) (by omega)
  have e0 : (sI S 2 P.1).1 0 = S.1 0 := by rw [sI_1, up_ne (by omega)]
  simp only [e_X2_pack_0, e_X2_pack_1, e_X2_pack_2, e_X2_pack_5, e_X2_pack_8, e_X2_pack_10, e_X2_pack_11, e_X2_pack_12, e_X2_pack_15, e_X2_pack_16, e_X2_pack_17, e_X2_pack_18, e_X2_pack_19, e_X2_pack_22, e_X2_pack_25, e_X2_pack_27, e_X2_pack_28, e_X2_pack_29, e_X2_pack_32, e_X2_pack_35, e_X2_pack_36, e_X2_pack_37, e_X2_pack_40, e_X2_pack_41, e_X2_pack_42, e_X2_pack_45, e_X2_pack_46, e_X2_pack_49, e_X2_pack_50, e_X2_pack_51, e_X2_pack_52, Option.bind_some, Option.bind_none, Option.toList_some, Option.toList_none, List.cons_append, List.nil_append, I_z, I_i8, I_q8, I_i7, I_q7, I_i6, I_q6, I_i5, I_q5, I_i4, I_q4, I_i3, I_q3, I_i2, I_q2, I_i1, I_q1, I_w8, I_w7, I_w6, I_w5, I_w4, I_w3, I_w2, I_c2n, I_c2i, I_c2q, eq_self, or_true, true_or, and_true, true_and, if_true, if_false, not_false_eq_true, not_true_eq_false, Option.map_none, Option.map_some, reduceCtorEq, isO, isT, isR, isM, gO_0, gO_1, gO_2, gO_3, gO_4, gO_5, gO_6, gO_7, gO_8, gO_9, gT_0, gT_1, gT_2, gR_0, gR_1, gR_2, gR_3, gM_0, gM_1, gM_2, gM_3, gM_4, gM_5, gM_6, gM_7, gM_8, gM_9, gM_10, gM_11, gM_12, gM_13, gM_14, gM_15, gM_16, gM_17, gM_18, gM_19, gM_20, lTs, lTr, lWd, lOp, lDp, lRw, lRd, nRw, nTr, nI_1, nI_add, sI_2, ht, k_isUnknown0 h1 h16, hk, k_fallen hS ht, q4, k_fillWd, hl]
  simp only [e_X2_pack_97, e_X2_pack_98, e_X2_pack_99, e_X2_pack_101, e_X2_pack_102, e_X2_pack_103, e_X2_pack_104, e_X2_pack_106, e_X2_pack_107, e_X2_pack_110, e_X2_pack_111, e_X2_pack_114, Option.bind_some, Option.bind_none, Option.toList_some, Option.toList_none, List.cons_append, List.nil_append, I_z, I_i8, I_q8, I_i7, I_q7, I_i6, I_q6, I_i5, I_q5, I_i4, I_q4, I_i3, I_q3, I_i2, I_q2, I_i1, I_q1, I_w8, I_w7, I_w6, I_w5, I_w4, I_w3, I_w2, I_c2n, I_c2i, I_c2q, eq_self, or_true, true_or, and_true, true_and, if_true, if_false, not_false_eq_true, not_true_eq_false, Option.map_none, Option.map_some, reduceCtorEq, isO, isT, isR, isM, gO_0, gO_1, gO_2, gO_3, gO_4, gO_5, gO_6, gO_7, gO_8, gO_9, gT_0, gT_1, gT_2, gR_0, gR_1, gR_2, gR_3, gM_0, gM_1, gM_2, gM_3, gM_4, gM_5, gM_6, gM_7, gM_8, gM_9, gM_10, gM_11, gM_12, gM_13, gM_14, gM_15, gM_16, gM_17, gM_18, gM_19, gM_20, lTs, lTr, lWd, lOp, lDp, lRw, lRd, nRw, nTr, nI_1, nI_add, sI_2, d0, e32, d1, pO_4, e0, sI_g, pk_us]
end TO0
