/-! The landed code's total and deep. -/
section TO1
variable {X : I_X} {S B : St} {d t tn r r0 i j n m g w b0 l yy xx n0 kk en : Nat} {a b c e v x y z k : Int32} {f h wd op dp : Nat → Int32}
/-- S while a total is being found -/
def tS (S : St) (en : Nat) (c : Int32) (op : Nat → Int32) : St := sI (sI S 0 (upd (upd (S.1 0) 6 (nI en)) 7 c)) 3 op
theorem tS_2 : (tS S en c op).2 = S.2 := by simp only [tS, sI_2]
theorem tS_g (h0 : g ≠ 0) (h3 : g ≠ 3) : (tS S en c op).1 g = S.1 g := by unfold tS; rw [sI_1, up_ne h3, sI_1, up_ne h0]
theorem tS_0 : (tS S en c op).1 0 = upd (upd (S.1 0) 6 (nI en)) 7 c := by unfold tS; rw [sI_1, up_ne (by omega), sI_1, up_eq]
theorem tS_6 : (tS S en c op).1 0 6 = nI en := by rw [tS_0, pk_un (by omega), pk_us]
theorem tS_7 : (tS S en c op).1 0 7 = c := by rw [tS_0, pk_us]
theorem tS_3 : (tS S en c op).1 3 = op := by unfold tS; rw [sI_g]
theorem tp6 {en2 : Nat} : I_putf X (rp X (tS S en c op)) (aO X) 2 6 (.int (nI en2)) = some (rp X (tS S en2 c op)) := by
  rw [pO_6]
  refine congrArg some (congrArg (rp X) (Prod.ext ?_ rfl))
  rw [sI_1, tS_0]
  unfold tS
  rw [sI_1, sI_1, sI_1, sI_1]
  funext g
  by_cases g0 : g = 0
  · subst g0
    rw [up_eq, up_ne (by omega), up_eq]
    funext q
    unfold upd
    by_cases q6 : q = 6
    · subst q6; rw [if_pos rfl, if_neg (by omega), if_pos rfl]
    · rw [if_neg q6]
      by_cases q7 : q = 7
      · rw [if_pos q7, if_pos q7]
      · rw [if_neg q7, if_neg q7, if_neg q6, if_neg q6]
  · rw [up_ne g0]
    by_cases g3 : g = 3
    · subst g3; rw [up_eq, up_eq]
    · rw [up_ne g3, up_ne g3, up_ne g0, up_ne g0]
theorem tp7 {c2 : Int32} : I_putf X (rp X (tS S en c op)) (aO X) 2 7 (.int c2) = some (rp X (tS S en c2 op)) := by
  rw [pO_7]
  refine congrArg some (congrArg (rp X) (Prod.ext ?_ rfl))
  rw [sI_1, tS_0]
  unfold tS
  rw [sI_1, sI_1, sI_1, sI_1]
  funext g
  by_cases g0 : g = 0
  · subst g0
    rw [up_eq, up_ne (by omega), up_eq]
    funext q
    unfold upd
    by_cases q7 : q = 7
    · rw [if_pos q7, if_pos q7]
    · rw [if_neg q7, if_neg q7, if_neg q7]
  · rw [up_ne g0]
    by_cases g3 : g = 3
    · subst g3; rw [up_eq, up_eq]
    · rw [up_ne g3, up_ne g3, up_ne g0, up_ne g0]
theorem tu3 (h : i < 16) : I_asti X (rp X (tS S en c op)) 2 (aOp X) (nI i) v = some (rp X (tS S en c (upd op i v))) := by
  rw [uOp h, tS_3]
  unfold tS
  rw [sI_sI]
theorem tS_WB (hS : WB S) : WB (tS S en c op) := WB_sI (WB_sI hS (by omega)) (by omega)
theorem cut_t : cutS (tS S en c op) r j = cutS S r j := by
  unfold cutS
  rw [tS_g (by omega) (by omega), tS_g (by omega) (by omega)]
  rfl
theorem sum_t : ∀ m j s, sumA (tS S en c op) r m j s = sumA S r m j s := by
  intro m
  induction m with
  | zero => intro j s; rfl
  | succ m ih => intro j s; unfold sumA; rw [cut_t]; exact ih (j + 1) _
/-- what a finding answers: its cause, how many were entered, the sum -/
abbrev tR : Type := Int32 × Nat × Int32
/-- the links of row r, m of them from j on -/
def totL (S : St) (G : Nat → Nat → tR) (r : Nat) : Nat → Nat → Nat → Int32 → tR
  | 0, _, e, s => (0, e, s)
  | m + 1, j, e, s => if S.1 (100 + r) j = -1000009 then totL S G r m (j + 1) e s else if (G (S.1 (100 + r) j).toNatClampNeg e).1 = 0 then totL S G r m (j + 1) (G (S.1 (100 + r) j).toNatClampNeg e).2.1 (s + (G (S.1 (100 + r) j).toNatClampNeg e).2.2) else ((G (S.1 (100 + r) j).toNatClampNeg e).1, (G (S.1 (100 + r) j).toNatClampNeg e).2.1, s + (G (S.1 (100 + r) j).toNatClampNeg e).2.2)
def totR (S : St) (G : Nat → Nat → tR) (o : Option Nat) (e : Nat) : tR := match o with
  | none => (1, e, 0)
  | some r => if S.1 5 r = 3 then totL S G r (S.2.1 2 r) 0 e 0 else (0, e, sumA S r (S.2.1 2 r) 0 0)
def totP (S : St) (G : Nat → Nat → tR) (t : Nat) : Nat → Nat → Nat → Int32 → tR
  | 0, _, e, s => (0, e, s)
  | m + 1, i, e, s => if (totR S G (S.2.2.1 t i) e).1 = 0 then totP S G t m (i + 1) (totR S G (S.2.2.1 t i) e).2.1 (s + (totR S G (S.2.2.1 t i) e).2.2) else ((totR S G (S.2.2.1 t i) e).1, (totR S G (S.2.2.1 t i) e).2.1, s + (totR S G (S.2.2.1 t i) e).2.2)
/-- the total of table t, so many levels left -/
def totT (S : St) : Nat → (Nat → Int32) → Nat → Nat → tR
  | 0, _, _, e => (5, e, 0)
  | f + 1, op, t, e => if op t = 0 then (if e < 1000 then totP S (totT S f (upd op t 1)) t (S.2.1 1 t) 0 (e + 1) 0 else (6, e, 0)) else (5, e, 0)
theorem ent_L {G : Nat → Nat → tR} (hG : ∀ q e, e ≤ 1000 → (G q e).2.1 ≤ 1000) : ∀ m j e s, e ≤ 1000 → (totL S G r m j e s).2.1 ≤ 1000 := by
  intro m
  induction m with
  | zero => intro j e s he; exact he
  | succ m ih =>
    intro j e s he
    unfold totL
    split
    · exact ih _ _ _ he
    · split
      · exact ih _ _ _ (hG _ _ he)
      · exact hG _ _ he
theorem ent_R {G : Nat → Nat → tR} (hG : ∀ q e, e ≤ 1000 → (G q e).2.1 ≤ 1000) {o : Option Nat} {e : Nat} (he : e ≤ 1000) : (totR S G o e).2.1 ≤ 1000 := by
  unfold totR
  split
  · exact he
  · split
    · exact ent_L hG _ _ _ _ he
    · exact he
theorem ent_P {G : Nat → Nat → tR} (hG : ∀ q e, e ≤ 1000 → (G q e).2.1 ≤ 1000) : ∀ m i e s, e ≤ 1000 → (totP S G t m i e s).2.1 ≤ 1000 := by
  intro m
  induction m with
  | zero => intro i e s he; exact he
  | succ m ih =>
    intro i e s he
    unfold totP
    split
    · exact ih _ _ _ (ent_R hG he)
    · exact ent_R hG he
theorem ent_T : ∀ f op t e, e ≤ 1000 → (totT S f op t e).2.1 ≤ 1000 := by
  intro f
  induction f with
  | zero => intro op t e he; exact he
  | succ f ih =>
    intro op t e he
    unfold totT
    split
    · split
      · exact ent_P (fun q e' h => ih _ q e' h) _ _ _ _ (by omega)
      · exact he
    · exact he
/-- links of standing rows: none, or a table -/
def lnkOK (S : St) : Prop := ∀ r j, std S r → S.1 5 r = 3 → j < S.2.1 2 r → S.1 (100 + r) j = -1000009 ∨ ∃ q, q < S.2.1 0 0 ∧ S.1 (100 + r) j = nI q
theorem none_unk (h16 : S.2.1 0 0 ≤ 16) : unk S (-1000009) := Or.inl (by decide)
/-- what totalOfTable does at this level -/
def totH (X : I_X) (S : St) (D : Nat) (dd : Nat) (op : Nat → Int32) (G : Nat → Nat → tR) : Prop := ∀ q e, q < S.2.1 0 0 → e ≤ 1000 → ev X D m_X2_totalOfTable 0 [some (va_rf (some (aO X))), some (.int (nI q)), some (.int (nI dd)), none, none, none] [] (rp X (tS S e 0 op)) = some (some (.int (G q e).2.2), rp X (tS S (G q e).2.1 (G q e).1 op))
theorem k_tl_loop (hS : WB S) (hr : r < S.2.1 0 1) (hk : ∀ j, j < S.2.1 2 r → S.1 (100 + r) j = -1000009 ∨ ∃ q, q < S.2.1 0 0 ∧ S.1 (100 + r) j = nI q) {G : Nat → Nat → tR} {D dd : Nat} (hD : totH X S (D + 1) (dd + 1) op G) (hG : ∀ q e, e ≤ 1000 → (G q e).2.1 ≤ 1000) : ∀ m j e s, j + m = S.2.1 2 r → e ≤ 1000 → ev X (D + 2) m_X2_totalOfLinks 5 [some (va_rf (some (aO X))), some (va_rf (some (aR X r))), some (.int (nI dd)), some (.int s), some (.int (nI j))] [] (rp X (tS S e 0 op)) = some (some (.int (totL S G r m j e s).2.2), rp X (tS S (totL S G r m j e s).2.1 (totL S G r m j e s).1 op)) := by
  have h16 := (hS.2.2.2 r hr).1
  have hb : S.2.1 2 r < 2 ^ 31 := by omega
  have ht16 := hS.1
  intro m
  induction m with
  | zero =>
    intro j e s hj he
    have h1 : nI (S.2.1 2 r) ≤ nI j := nI_le (by omega) (by omega)
    have hl : ev X (D + 1) m_X0_length 0 [some (va_rf (some (aR X r)))] [] (rp X (tS S e 0 op)) = some (some (.int (nI (S.2.1 2 r))), rp X (tS S e 0 op)) := k_length (S := tS S e 0 op) hr
    rw [e_X2_totalOfLinks_5]
    simp only [e_X2_totalOfLinks_7, e_X2_totalOfLinks_8, e_X2_totalOfLinks_11, e_X2_totalOfLinks_14, e_X2_totalOfLinks_15, e_X2_totalOfLinks_18, e_X2_totalOfLinks_21, e_X2_totalOfLinks_22, e_X2_totalOfLinks_23, e_X2_totalOfLinks_26, e_X2_totalOfLinks_28, e_X2_totalOfLinks_29, e_X2_totalOfLinks_32, e_X2_totalOfLinks_35, e_X2_totalOfLinks_36, e_X2_totalOfLinks_37, e_X2_totalOfLinks_38, e_X2_totalOfLinks_41, e_X2_totalOfLinks_43, e_X2_totalOfLinks_44, e_X2_totalOfLinks_45, e_X2_totalOfLinks_46, e_X2_totalOfLinks_47, e_X2_totalOfLinks_50, e_X2_totalOfLinks_51, e_X2_totalOfLinks_52, e_X2_totalOfLinks_55, e_X2_totalOfLinks_58, e_X2_totalOfLinks_59, Option.bind_some, Option.bind_none, Option.toList_some, Option.toList_none, List.cons_append, List.nil_append, I_z, I_i8, I_q8, I_i7, I_q7, I_i6, I_q6, I_i5, I_q5, I_i4, I_q4, I_i3, I_q3, I_i2, I_q2, I_i1, I_q1, I_w8, I_w7, I_w6, I_w5, I_w4, I_w3, I_w2, I_c2n, I_c2i, I_c2q, eq_self, or_true, true_or, and_true, true_and, if_true, if_false, not_false_eq_true, not_true_eq_false, Option.map_none, Option.map_some, reduceCtorEq, isO, isT, isR, isM, gO_0, gO_1, gO_2, gO_3, gO_4, gO_5, gO_6, gO_7, gO_8, gO_9, gT_0, gT_1, gT_2, gR_0, gR_1, gR_2, gR_3, gM_0, gM_1, gM_2, gM_3, gM_4, gM_5, gM_6, gM_7, gM_8, gM_9, gM_10, gM_11, gM_12, gM_13, gM_14, gM_15, gM_16, gM_17, gM_18, gM_19, gM_20, lTs, lTr, lWd, lOp, lDp, lRw, lRd, nRw, nTr, nI_1, nI_add, sI_2, tS_2, hr, hl, h1, totL]
  | succ m ih =>
    intro j e s hj he
    have h1 : ¬ nI (S.2.1 2 r) ≤ nI j := nI_ge (by omega) (by omega)
    have hj1 : j < S.2.1 2 r := by omega
    have hl : ev X (D + 1) m_X0_length 0 [some (va_rf (some (aR X r)))] [] (rp X (tS S e 0 op)) = some (some (.int (nI (S.2.1 2 r))), rp X (tS S e 0 op)) := k_length (S := tS S e 0 op) hr
    have er : (tS S e 0 op).1 (100 + r) = S.1 (100 + r) := tS_g (by omega) (by omega)
    rw [e_X2_totalOfLinks_5]
    rcases hk j hj1 with c | ⟨q, hq, c⟩
    · have hu : ev X (D + 1) m_X2_isUnknown 0 [some (va_rf (some (aO X))), some (.int (-1000009))] [] (rp X (tS S e 0 op)) = some (some (.int 1), rp X (tS S e 0 op)) := k_isUnknown1 (none_unk ht16)
      have ih1 := ih (j + 1) e s (by omega) he
      have eL : totL S G r (m + 1) j e s = totL S G r m (j + 1) e s := if_pos c
      rw [eL]
      simp only [e_X2_totalOfLinks_7, e_X2_totalOfLinks_8, e_X2_totalOfLinks_11, e_X2_totalOfLinks_14, e_X2_totalOfLinks_15, e_X2_totalOfLinks_18, e_X2_totalOfLinks_21, e_X2_totalOfLinks_22, e_X2_totalOfLinks_23, e_X2_totalOfLinks_26, e_X2_totalOfLinks_28, e_X2_totalOfLinks_29, e_X2_totalOfLinks_32, e_X2_totalOfLinks_35, e_X2_totalOfLinks_36, e_X2_totalOfLinks_37, e_X2_totalOfLinks_38, e_X2_totalOfLinks_41, e_X2_totalOfLinks_43, e_X2_totalOfLinks_44, e_X2_totalOfLinks_45, e_X2_totalOfLinks_46, e_X2_totalOfLinks_47, e_X2_totalOfLinks_50, e_X2_totalOfLinks_51, e_X2_totalOfLinks_52, e_X2_totalOfLinks_55, e_X2_totalOfLinks_58, e_X2_totalOfLinks_59, Option.bind_some, Option.bind_none, Option.toList_some, Option.toList_none, List.cons_append, List.nil_append, I_z, I_i8, I_q8, I_i7, I_q7, I_i6, I_q6, I_i5, I_q5, I_i4, I_q4, I_i3, I_q3, I_i2, I_q2, I_i1, I_q1, I_w8, I_w7, I_w6, I_w5, I_w4, I_w3, I_w2, I_c2n, I_c2i, I_c2q, eq_self, or_true, true_or, and_true, true_and, if_true, if_false, not_false_eq_true, not_true_eq_false, Option.map_none, Option.map_some, reduceCtorEq, isO, isT, isR, isM, gO_0, gO_1, gO_2, gO_3, gO_4, gO_5, gO_6, gO_7, gO_8, gO_9, gT_0, gT_1, gT_2, gR_0, gR_1, gR_2, gR_3, gM_0, gM_1, gM_2, gM_3, gM_4, gM_5, gM_6, gM_7, gM_8, gM_9, gM_10, gM_11, gM_12, gM_13, gM_14, gM_15, gM_16, gM_17, gM_18, gM_19, gM_20, lTs, lTr, lWd, lOp, lDp, lRw, lRd, nRw, nTr, nI_1, nI_add, sI_2, tS_2, tS_7, hr, hl, h1, hj1, hb, er, c, hu, e10, ih1]
    · have hu : ev X (D + 1) m_X2_isUnknown 0 [some (va_rf (some (aO X))), some (.int (nI q))] [] (rp X (tS S e 0 op)) = some (some (.int 0), rp X (tS S e 0 op)) := k_isUnknown0 (S := tS S e 0 op) hq ht16
      have hd := hD q e hq he
      have cn : ¬ S.1 (100 + r) j = -1000009 := fun z => nI_pos (n := q) (by omega) (by rw [← c, z]; decide)
      have cq : (S.1 (100 + r) j).toNatClampNeg = q := by rw [c]; exact nI_clamp (by omega)
      have eL : totL S G r (m + 1) j e s = if (G q e).1 = 0 then totL S G r m (j + 1) (G q e).2.1 (s + (G q e).2.2) else ((G q e).1, (G q e).2.1, s + (G q e).2.2) := by
        refine (if_neg cn).trans ?_
        rw [cq]
      have hge := hG q e he
      rw [eL]
      generalize G q e = Q at *
      by_cases c0 : Q.1 = 0
      · have ih1 := ih (j + 1) Q.2.1 (s + Q.2.2) (by omega) hge
        rw [if_pos c0]
        rw [c0] at hd
        simp only [e_X2_totalOfLinks_7, e_X2_totalOfLinks_8, e_X2_totalOfLinks_11, e_X2_totalOfLinks_14, e_X2_totalOfLinks_15, e_X2_totalOfLinks_18, e_X2_totalOfLinks_21, e_X2_totalOfLinks_22, e_X2_totalOfLinks_23, e_X2_totalOfLinks_26, e_X2_totalOfLinks_28, e_X2_totalOfLinks_29, e_X2_totalOfLinks_32, e_X2_totalOfLinks_35, e_X2_totalOfLinks_36, e_X2_totalOfLinks_37, e_X2_totalOfLinks_38, e_X2_totalOfLinks_41, e_X2_totalOfLinks_43, e_X2_totalOfLinks_44, e_X2_totalOfLinks_45, e_X2_totalOfLinks_46, e_X2_totalOfLinks_47, e_X2_totalOfLinks_50, e_X2_totalOfLinks_51, e_X2_totalOfLinks_52, e_X2_totalOfLinks_55, e_X2_totalOfLinks_58, e_X2_totalOfLinks_59, Option.bind_some, Option.bind_none, Option.toList_some, Option.toList_none, List.cons_append, List.nil_append, I_z, I_i8, I_q8, I_i7, I_q7, I_i6, I_q6, I_i5, I_q5, I_i4, I_q4, I_i3, I_q3, I_i2, I_q2, I_i1, I_q1, I_w8, I_w7, I_w6, I_w5, I_w4, I_w3, I_w2, I_c2n, I_c2i, I_c2q, eq_self, or_true, true_or, and_true, true_and, if_true, if_false, not_false_eq_true, not_true_eq_false, Option.map_none, Option.map_some, reduceCtorEq, isO, isT, isR, isM, gO_0, gO_1, gO_2, gO_3, gO_4, gO_5, gO_6, gO_7, gO_8, gO_9, gT_0, gT_1, gT_2, gR_0, gR_1, gR_2, gR_3, gM_0, gM_1, gM_2, gM_3, gM_4, gM_5, gM_6, gM_7, gM_8, gM_9, gM_10, gM_11, gM_12, gM_13, gM_14, gM_15, gM_16, gM_17, gM_18, gM_19, gM_20, lTs, lTr, lWd, lOp, lDp, lRw, lRd, nRw, nTr, nI_1, nI_add, sI_2, tS_2, tS_7, hr, hl, h1, hj1, hb, er, c, hu, hd, ih1]
      · rw [if_neg c0]
        have hl2 : ev X (D + 1) m_X0_length 0 [some (va_rf (some (aR X r)))] [] (rp X (tS S Q.2.1 Q.1 op)) = some (some (.int (nI (S.2.1 2 r))), rp X (tS S Q.2.1 Q.1 op)) := k_length (S := tS S Q.2.1 Q.1 op) hr
        simp only [e_X2_totalOfLinks_7, e_X2_totalOfLinks_8, e_X2_totalOfLinks_11, e_X2_totalOfLinks_14, e_X2_totalOfLinks_15, e_X2_totalOfLinks_18, e_X2_totalOfLinks_21, e_X2_totalOfLinks_22, e_X2_totalOfLinks_23, e_X2_totalOfLinks_26, e_X2_totalOfLinks_28, e_X2_totalOfLinks_29, e_X2_totalOfLinks_32, e_X2_totalOfLinks_35, e_X2_totalOfLinks_36, e_X2_totalOfLinks_37, e_X2_totalOfLinks_38, e_X2_totalOfLinks_41, e_X2_totalOfLinks_43, e_X2_totalOfLinks_44, e_X2_totalOfLinks_45, e_X2_totalOfLinks_46, e_X2_totalOfLinks_47, e_X2_totalOfLinks_50, e_X2_totalOfLinks_51, e_X2_totalOfLinks_52, e_X2_totalOfLinks_55, e_X2_totalOfLinks_58, e_X2_totalOfLinks_59, Option.bind_some, Option.bind_none, Option.toList_some, Option.toList_none, List.cons_append, List.nil_append, I_z, I_i8, I_q8, I_i7, I_q7, I_i6, I_q6, I_i5, I_q5, I_i4, I_q4, I_i3, I_q3, I_i2, I_q2, I_i1, I_q1, I_w8, I_w7, I_w6, I_w5, I_w4, I_w3, I_w2, I_c2n, I_c2i, I_c2q, eq_self, or_true, true_or, and_true, true_and, if_true, if_false, not_false_eq_true, not_true_eq_false, Option.map_none, Option.map_some, reduceCtorEq, isO, isT, isR, isM, gO_0, gO_1, gO_2, gO_3, gO_4, gO_5, gO_6, gO_7, gO_8, gO_9, gT_0, gT_1, gT_2, gR_0, gR_1, gR_2, gR_3, gM_0, gM_1, gM_2, gM_3, gM_4, gM_5, gM_6, gM_7, gM_8, gM_9, gM_10, gM_11, gM_12, gM_13, gM_14, gM_15, gM_16, gM_17, gM_18, gM_19, gM_20, lTs, lTr, lWd, lOp, lDp, lRw, lRd, nRw, nTr, nI_1, nI_add, sI_2, tS_2, tS_7, hr, hl, h1, hj1, hb, er, c, hu, hd]
        rw [e_X2_totalOfLinks_5]
        by_cases h2 : nI (S.2.1 2 r) ≤ nI (j + 1)
        · simp only [e_X2_totalOfLinks_7, e_X2_totalOfLinks_8, e_X2_totalOfLinks_11, e_X2_totalOfLinks_14, e_X2_totalOfLinks_15, e_X2_totalOfLinks_18, e_X2_totalOfLinks_21, e_X2_totalOfLinks_22, e_X2_totalOfLinks_23, e_X2_totalOfLinks_26, e_X2_totalOfLinks_28, e_X2_totalOfLinks_29, e_X2_totalOfLinks_32, e_X2_totalOfLinks_35, e_X2_totalOfLinks_36, e_X2_totalOfLinks_37, e_X2_totalOfLinks_38, e_X2_totalOfLinks_41, e_X2_totalOfLinks_43, e_X2_totalOfLinks_44, e_X2_totalOfLinks_45, e_X2_totalOfLinks_46, e_X2_totalOfLinks_47, e_X2_totalOfLinks_50, e_X2_totalOfLinks_51, e_X2_totalOfLinks_52, e_X2_totalOfLinks_55, e_X2_totalOfLinks_58, e_X2_totalOfLinks_59, Option.bind_some, Option.bind_none, Option.toList_some, Option.toList_none, List.cons_append, List.nil_append, I_z, I_i8, I_q8, I_i7, I_q7, I_i6, I_q6, I_i5, I_q5, I_i4, I_q4, I_i3, I_q3, I_i2, I_q2, I_i1, I_q1, I_w8, I_w7, I_w6, I_w5, I_w4, I_w3, I_w2, I_c2n, I_c2i, I_c2q, eq_self, or_true, true_or, and_true, true_and, if_true, if_false, not_false_eq_true, not_true_eq_false, Option.map_none, Option.map_some, reduceCtorEq, isO, isT, isR, isM, gO_0, gO_1, gO_2, gO_3, gO_4, gO_5, gO_6, gO_7, gO_8, gO_9, gT_0, gT_1, gT_2, gR_0, gR_1, gR_2, gR_3, gM_0, gM_1, gM_2, gM_3, gM_4, gM_5, gM_6, gM_7, gM_8, gM_9, gM_10, gM_11, gM_12, gM_13, gM_14, gM_15, gM_16, gM_17, gM_18, gM_19, gM_20, lTs, lTr, lWd, lOp, lDp, lRw, lRd, nRw, nTr, nI_1, nI_add, sI_2, tS_2, hr, hl2, h2]
        · simp only [e_X2_totalOfLinks_7, e_X2_totalOfLinks_8, e_X2_totalOfLinks_11, e_X2_totalOfLinks_14, e_X2_totalOfLinks_15, e_X2_totalOfLinks_18, e_X2_totalOfLinks_21, e_X2_totalOfLinks_22, e_X2_totalOfLinks_23, e_X2_totalOfLinks_26, e_X2_totalOfLinks_28, e_X2_totalOfLinks_29, e_X2_totalOfLinks_32, e_X2_totalOfLinks_35, e_X2_totalOfLinks_36, e_X2_totalOfLinks_37, e_X2_totalOfLinks_38, e_X2_totalOfLinks_41, e_X2_totalOfLinks_43, e_X2_totalOfLinks_44, e_X2_totalOfLinks_45, e_X2_totalOfLinks_46, e_X2_totalOfLinks_47, e_X2_totalOfLinks_50, e_X2_totalOfLinks_51, e_X2_totalOfLinks_52, e_X2_totalOfLinks_55, e_X2_totalOfLinks_58, e_X2_totalOfLinks_59, Option.bind_some, Option.bind_none, Option.toList_some, Option.toList_none, List.cons_append, List.nil_append, I_z, I_i8, I_q8, I_i7, I_q7, I_i6, I_q6, I_i5, I_q5, I_i4, I_q4, I_i3, I_q3, I_i2, I_q2, I_i1, I_q1, I_w8, I_w7, I_w6, I_w5, I_w4, I_w3, I_w2, I_c2n, I_c2i, I_c2q, eq_self, or_true, true_or, and_true, true_and, if_true, if_false, not_false_eq_true, not_true_eq_false, Option.map_none, Option.map_some, reduceCtorEq, isO, isT, isR, isM, gO_0, gO_1, gO_2, gO_3, gO_4, gO_5, gO_6, gO_7, gO_8, gO_9, gT_0, gT_1, gT_2, gR_0, gR_1, gR_2, gR_3, gM_0, gM_1, gM_2, gM_3, gM_4, gM_5, gM_6, gM_7, gM_8, gM_9, gM_10, gM_11, gM_12, gM_13, gM_14, gM_15, gM_16, gM_17, gM_18, gM_19, gM_20, lTs, lTr, lWd, lOp, lDp, lRw, lRd, nRw, nTr, nI_1, nI_add, sI_2, tS_2, tS_7, hr, hl2, h2, c0]
theorem k_tr (hS : WB S) (hL : lnkOK S) {o : Option Nat} (ho : ∀ r, o = some r → r < S.2.1 0 1 ∧ std S r) {G : Nat → Nat → tR} {D dd : Nat} (hD : totH X S (D + 1) (dd + 1) op G) (hG : ∀ q e, e ≤ 1000 → (G q e).2.1 ≤ 1000) {e : Nat} (he : e ≤ 1000) : ev X (D + 3) m_X2_totalOfRow 0 [some (va_rf (some (aO X))), some (va_rf (o.map (aR X))), some (.int (nI dd))] [] (rp X (tS S e 0 op)) = some (some (.int (totR S G o e).2.2), rp X (tS S (totR S G o e).2.1 (totR S G o e).1 op)) := by
  cases o with
  | none => simp only [e_X2_totalOfRow_0, e_X2_totalOfRow_1, e_X2_totalOfRow_4, e_X2_totalOfRow_5, e_X2_totalOfRow_6, e_X2_totalOfRow_9, e_X2_totalOfRow_10, e_X2_totalOfRow_11, e_X2_totalOfRow_12, e_X2_totalOfRow_15, e_X2_totalOfRow_16, e_X2_totalOfRow_19, e_X2_totalOfRow_20, e_X2_totalOfRow_21, e_X2_totalOfRow_22, e_X2_totalOfRow_25, e_X2_totalOfRow_28, e_X2_totalOfRow_29, e_X2_totalOfRow_32, Option.bind_some, Option.bind_none, Option.toList_some, Option.toList_none, List.cons_append, List.nil_append, I_z, I_i8, I_q8, I_i7, I_q7, I_i6, I_q6, I_i5, I_q5, I_i4, I_q4, I_i3, I_q3, I_i2, I_q2, I_i1, I_q1, I_w8, I_w7, I_w6, I_w5, I_w4, I_w3, I_w2, I_c2n, I_c2i, I_c2q, eq_self, or_true, true_or, and_true, true_and, if_true, if_false, not_false_eq_true, not_true_eq_false, Option.map_none, Option.map_some, reduceCtorEq, isO, isT, isR, isM, gO_0, gO_1, gO_2, gO_3, gO_4, gO_5, gO_6, gO_7, gO_8, gO_9, gT_0, gT_1, gT_2, gR_0, gR_1, gR_2, gR_3, gM_0, gM_1, gM_2, gM_3, gM_4, gM_5, gM_6, gM_7, gM_8, gM_9, gM_10, gM_11, gM_12, gM_13, gM_14, gM_15, gM_16, gM_17, gM_18, gM_19, gM_20, lTs, lTr, lWd, lOp, lDp, lRw, lRd, nRw, nTr, nI_1, nI_add, sI_2, tp7, totR]
  | some r =>
    obtain ⟨hr, hst⟩ := ho r rfl
    have e5 : (tS S e 0 op).1 5 = S.1 5 := tS_g (by omega) (by omega)
    by_cases c : S.1 5 r = 3
    · have h := k_tl_loop (X := X) hS hr (fun j hj => hL r j hst c hj) hD hG (S.2.1 2 r) 0 e 0 (by omega) he
      rw [nI_0] at h
      have eR : totR S G (some r) e = totL S G r (S.2.1 2 r) 0 e 0 := if_pos c
      rw [eR]
      simp only [e_X2_totalOfRow_0, e_X2_totalOfRow_1, e_X2_totalOfRow_4, e_X2_totalOfRow_5, e_X2_totalOfRow_6, e_X2_totalOfRow_9, e_X2_totalOfRow_10, e_X2_totalOfRow_11, e_X2_totalOfRow_12, e_X2_totalOfRow_15, e_X2_totalOfRow_16, e_X2_totalOfRow_19, e_X2_totalOfRow_20, e_X2_totalOfRow_21, e_X2_totalOfRow_22, e_X2_totalOfRow_25, e_X2_totalOfRow_28, e_X2_totalOfRow_29, e_X2_totalOfRow_32, e_X2_totalOfLinks_0, e_X2_totalOfLinks_1, e_X2_totalOfLinks_2, e_X2_totalOfLinks_3, Option.bind_some, Option.bind_none, Option.toList_some, Option.toList_none, List.cons_append, List.nil_append, I_z, I_i8, I_q8, I_i7, I_q7, I_i6, I_q6, I_i5, I_q5, I_i4, I_q4, I_i3, I_q3, I_i2, I_q2, I_i1, I_q1, I_w8, I_w7, I_w6, I_w5, I_w4, I_w3, I_w2, I_c2n, I_c2i, I_c2q, eq_self, or_true, true_or, and_true, true_and, if_true, if_false, not_false_eq_true, not_true_eq_false, Option.map_none, Option.map_some, reduceCtorEq, isO, isT, isR, isM, gO_0, gO_1, gO_2, gO_3, gO_4, gO_5, gO_6, gO_7, gO_8, gO_9, gT_0, gT_1, gT_2, gR_0, gR_1, gR_2, gR_3, gM_0, gM_1, gM_2, gM_3, gM_4, gM_5, gM_6, gM_7, gM_8, gM_9, gM_10, gM_11, gM_12, gM_13, gM_14, gM_15, gM_16, gM_17, gM_18, gM_19, gM_20, lTs, lTr, lWd, lOp, lDp, lRw, lRd, nRw, nTr, nI_1, nI_add, sI_2, tS_2, hr, e5, c, h]
    · have h : ev X (D + 2) m_X0_sumOfCells 0 [some (va_rf (some (aR X r))), none, none] [] (rp X (tS S e 0 op)) = some (some (.int (sumA (tS S e 0 op) r (S.2.1 2 r) 0 0)), rp X (tS S e 0 op)) := k_sum (d := D + 1) (S := tS S e 0 op) (tS_WB hS) hr
      rw [sum_t] at h
      have eR : totR S G (some r) e = (0, e, sumA S r (S.2.1 2 r) 0 0) := if_neg c
      rw [eR]
      simp only [e_X2_totalOfRow_0, e_X2_totalOfRow_1, e_X2_totalOfRow_4, e_X2_totalOfRow_5, e_X2_totalOfRow_6, e_X2_totalOfRow_9, e_X2_totalOfRow_10, e_X2_totalOfRow_11, e_X2_totalOfRow_12, e_X2_totalOfRow_15, e_X2_totalOfRow_16, e_X2_totalOfRow_19, e_X2_totalOfRow_20, e_X2_totalOfRow_21, e_X2_totalOfRow_22, e_X2_totalOfRow_25, e_X2_totalOfRow_28, e_X2_totalOfRow_29, e_X2_totalOfRow_32, Option.bind_some, Option.bind_none, Option.toList_some, Option.toList_none, List.cons_append, List.nil_append, I_z, I_i8, I_q8, I_i7, I_q7, I_i6, I_q6, I_i5, I_q5, I_i4, I_q4, I_i3, I_q3, I_i2, I_q2, I_i1, I_q1, I_w8, I_w7, I_w6, I_w5, I_w4, I_w3, I_w2, I_c2n, I_c2i, I_c2q, eq_self, or_true, true_or, and_true, true_and, if_true, if_false, not_false_eq_true, not_true_eq_false, Option.map_none, Option.map_some, reduceCtorEq, isO, isT, isR, isM, gO_0, gO_1, gO_2, gO_3, gO_4, gO_5, gO_6, gO_7, gO_8, gO_9, gT_0, gT_1, gT_2, gR_0, gR_1, gR_2, gR_3, gM_0, gM_1, gM_2, gM_3, gM_4, gM_5, gM_6, gM_7, gM_8, gM_9, gM_10, gM_11, gM_12, gM_13, gM_14, gM_15, gM_16, gM_17, gM_18, gM_19, gM_20, lTs, lTr, lWd, lOp, lDp, lRw, lRd, nRw, nTr, nI_1, nI_add, sI_2, tS_2, hr, e5, c, h]
theorem k_tp_loop (hS : WB S) (hL : lnkOK S) (ht : t < S.2.1 0 0) {G : Nat → Nat → tR} {D dd : Nat} (hD : totH X S (D + 1) (dd + 1) op G) (hG : ∀ q e, e ≤ 1000 → (G q e).2.1 ≤ 1000) : ∀ m i e s, i + m = S.2.1 1 t → e ≤ 1000 → ev X (D + 4) m_X2_totalOfTable 70 [some (va_rf (some (aO X))), some (.int (nI t)), some (.int (nI dd)), some (va_rf (some (aT X t))), some (.int s), some (.int (nI i))] [] (rp X (tS S e 0 op)) = some (some (.int (totP S G t m i e s).2.2), rp X (tS S (totP S G t m i e s).2.1 (totP S G t m i e s).1 (upd op t 0))) := by
  have ht16 := hS.1
  have ht' : t < 16 := by omega
  have hh := hS.2.1 t ht'
  have z0 : ((0 : Int32) = 0 ∨ (0 : Int32) = 1) = True := by decide
  intro m
  induction m with
  | zero =>
    intro i e s hi he
    have h1 : nI (S.2.1 1 t) ≤ nI i := nI_le (by omega) (by omega)
    rw [e_X2_totalOfTable_70]
    simp only [e_X2_totalOfTable_72, e_X2_totalOfTable_73, e_X2_totalOfTable_76, e_X2_totalOfTable_79, e_X2_totalOfTable_80, e_X2_totalOfTable_83, e_X2_totalOfTable_86, e_X2_totalOfTable_88, e_X2_totalOfTable_89, e_X2_totalOfTable_90, e_X2_totalOfTable_93, e_X2_totalOfTable_95, e_X2_totalOfTable_96, e_X2_totalOfTable_97, e_X2_totalOfTable_100, e_X2_totalOfTable_101, e_X2_totalOfTable_103, e_X2_totalOfTable_106, e_X2_totalOfTable_109, e_X2_totalOfTable_110, e_X2_totalOfTable_113, e_X2_totalOfTable_114, e_X2_totalOfTable_115, e_X2_totalOfTable_116, e_X2_totalOfTable_118, Option.bind_some, Option.bind_none, Option.toList_some, Option.toList_none, List.cons_append, List.nil_append, I_z, I_i8, I_q8, I_i7, I_q7, I_i6, I_q6, I_i5, I_q5, I_i4, I_q4, I_i3, I_q3, I_i2, I_q2, I_i1, I_q1, I_w8, I_w7, I_w6, I_w5, I_w4, I_w3, I_w2, I_c2n, I_c2i, I_c2q, eq_self, or_true, true_or, and_true, true_and, if_true, if_false, not_false_eq_true, not_true_eq_false, Option.map_none, Option.map_some, reduceCtorEq, isO, isT, isR, isM, gO_0, gO_1, gO_2, gO_3, gO_4, gO_5, gO_6, gO_7, gO_8, gO_9, gT_0, gT_1, gT_2, gR_0, gR_1, gR_2, gR_3, gM_0, gM_1, gM_2, gM_3, gM_4, gM_5, gM_6, gM_7, gM_8, gM_9, gM_10, gM_11, gM_12, gM_13, gM_14, gM_15, gM_16, gM_17, gM_18, gM_19, gM_20, lTs, lTr, lWd, lOp, lDp, lRw, lRd, nRw, nTr, nI_1, nI_add, sI_2, tS_2, ht', h1, tu3, z0, totP]
  | succ m ih =>
    intro i e s hi he
    have h1 : ¬ nI (S.2.1 1 t) ≤ nI i := nI_ge (by omega) (by omega)
    have i12 : i < 12 := by omega
    have hr := k_tr (X := X) (op := op) (o := S.2.2.1 t i) hS hL (fun r hp => ⟨hS.2.2.1 t i r ht' hp, t, i, ht, by omega, hp⟩) hD hG he
    have hge := ent_R (S := S) hG (o := S.2.2.1 t i) he
    have eP : totP S G t (m + 1) i e s = if (totR S G (S.2.2.1 t i) e).1 = 0 then totP S G t m (i + 1) (totR S G (S.2.2.1 t i) e).2.1 (s + (totR S G (S.2.2.1 t i) e).2.2) else ((totR S G (S.2.2.1 t i) e).1, (totR S G (S.2.2.1 t i) e).2.1, s + (totR S G (S.2.2.1 t i) e).2.2) := rfl
    rw [eP]
    generalize totR S G (S.2.2.1 t i) e = Q at *
    rw [e_X2_totalOfTable_70]
    by_cases c0 : Q.1 = 0
    · have ih1 := ih (i + 1) Q.2.1 (s + Q.2.2) (by omega) hge
      rw [if_pos c0]
      rw [c0] at hr
      simp only [e_X2_totalOfTable_72, e_X2_totalOfTable_73, e_X2_totalOfTable_76, e_X2_totalOfTable_79, e_X2_totalOfTable_80, e_X2_totalOfTable_83, e_X2_totalOfTable_86, e_X2_totalOfTable_88, e_X2_totalOfTable_89, e_X2_totalOfTable_90, e_X2_totalOfTable_93, e_X2_totalOfTable_95, e_X2_totalOfTable_96, e_X2_totalOfTable_97, e_X2_totalOfTable_100, e_X2_totalOfTable_101, e_X2_totalOfTable_103, e_X2_totalOfTable_106, e_X2_totalOfTable_109, e_X2_totalOfTable_110, e_X2_totalOfTable_113, e_X2_totalOfTable_114, e_X2_totalOfTable_115, e_X2_totalOfTable_116, e_X2_totalOfTable_118, Option.bind_some, Option.bind_none, Option.toList_some, Option.toList_none, List.cons_append, List.nil_append, I_z, I_i8, I_q8, I_i7, I_q7, I_i6, I_q6, I_i5, I_q5, I_i4, I_q4, I_i3, I_q3, I_i2, I_q2, I_i1, I_q1, I_w8, I_w7, I_w6, I_w5, I_w4, I_w3, I_w2, I_c2n, I_c2i, I_c2q, eq_self, or_true, true_or, and_true, true_and, if_true, if_false, not_false_eq_true, not_true_eq_false, Option.map_none, Option.map_some, reduceCtorEq, isO, isT, isR, isM, gO_0, gO_1, gO_2, gO_3, gO_4, gO_5, gO_6, gO_7, gO_8, gO_9, gT_0, gT_1, gT_2, gR_0, gR_1, gR_2, gR_3, gM_0, gM_1, gM_2, gM_3, gM_4, gM_5, gM_6, gM_7, gM_8, gM_9, gM_10, gM_11, gM_12, gM_13, gM_14, gM_15, gM_16, gM_17, gM_18, gM_19, gM_20, lTs, lTr, lWd, lOp, lDp, lRw, lRd, nRw, nTr, nI_1, nI_add, sI_2, tS_2, tS_7, ht', h1, i12, hr, ih1]
    · rw [if_neg c0]
      simp only [e_X2_totalOfTable_72, e_X2_totalOfTable_73, e_X2_totalOfTable_76, e_X2_totalOfTable_79, e_X2_totalOfTable_80, e_X2_totalOfTable_83, e_X2_totalOfTable_86, e_X2_totalOfTable_88, e_X2_totalOfTable_89, e_X2_totalOfTable_90, e_X2_totalOfTable_93, e_X2_totalOfTable_95, e_X2_totalOfTable_96, e_X2_totalOfTable_97, e_X2_totalOfTable_100, e_X2_totalOfTable_101, e_X2_totalOfTable_103, e_X2_totalOfTable_106, e_X2_totalOfTable_109, e_X2_totalOfTable_110, e_X2_totalOfTable_113, e_X2_totalOfTable_114, e_X2_totalOfTable_115, e_X2_totalOfTable_116, e_X2_totalOfTable_118, Option.bind_some, Option.bind_none, Option.toList_some, Option.toList_none, List.cons_append, List.nil_append, I_z, I_i8, I_q8, I_i7, I_q7, I_i6, I_q6, I_i5, I_q5, I_i4, I_q4, I_i3, I_q3, I_i2, I_q2, I_i1, I_q1, I_w8, I_w7, I_w6, I_w5, I_w4, I_w3, I_w2, I_c2n, I_c2i, I_c2q, eq_self, or_true, true_or, and_true, true_and, if_true, if_false, not_false_eq_true, not_true_eq_false, Option.map_none, Option.map_some, reduceCtorEq, isO, isT, isR, isM, gO_0, gO_1, gO_2, gO_3, gO_4, gO_5, gO_6, gO_7, gO_8, gO_9, gT_0, gT_1, gT_2, gR_0, gR_1, gR_2, gR_3, gM_0, gM_1, gM_2, gM_3, gM_4, gM_5, gM_6, gM_7, gM_8, gM_9, gM_10, gM_11, gM_12, gM_13, gM_14, gM_15, gM_16, gM_17, gM_18, gM_19, gM_20, lTs, lTr, lWd, lOp, lDp, lRw, lRd, nRw, nTr, nI_1, nI_add, sI_2, tS_2, tS_7, ht', h1, i12, hr]
      rw [e_X2_totalOfTable_70]
      by_cases h2 : nI (S.2.1 1 t) ≤ nI (i + 1)
      · simp only [e_X2_totalOfTable_72, e_X2_totalOfTable_73, e_X2_totalOfTable_76, e_X2_totalOfTable_79, e_X2_totalOfTable_80, e_X2_totalOfTable_83, e_X2_totalOfTable_86, e_X2_totalOfTable_88, e_X2_totalOfTable_89, e_X2_totalOfTable_90, e_X2_totalOfTable_93, e_X2_totalOfTable_95, e_X2_totalOfTable_96, e_X2_totalOfTable_97, e_X2_totalOfTable_100, e_X2_totalOfTable_101, e_X2_totalOfTable_103, e_X2_totalOfTable_106, e_X2_totalOfTable_109, e_X2_totalOfTable_110, e_X2_totalOfTable_113, e_X2_totalOfTable_114, e_X2_totalOfTable_115, e_X2_totalOfTable_116, e_X2_totalOfTable_118, Option.bind_some, Option.bind_none, Option.toList_some, Option.toList_none, List.cons_append, List.nil_append, I_z, I_i8, I_q8, I_i7, I_q7, I_i6, I_q6, I_i5, I_q5, I_i4, I_q4, I_i3, I_q3, I_i2, I_q2, I_i1, I_q1, I_w8, I_w7, I_w6, I_w5, I_w4, I_w3, I_w2, I_c2n, I_c2i, I_c2q, eq_self, or_true, true_or, and_true, true_and, if_true, if_false, not_false_eq_true, not_true_eq_false, Option.map_none, Option.map_some, reduceCtorEq, isO, isT, isR, isM, gO_0, gO_1, gO_2, gO_3, gO_4, gO_5, gO_6, gO_7, gO_8, gO_9, gT_0, gT_1, gT_2, gR_0, gR_1, gR_2, gR_3, gM_0, gM_1, gM_2, gM_3, gM_4, gM_5, gM_6, gM_7, gM_8, gM_9, gM_10, gM_11, gM_12, gM_13, gM_14, gM_15, gM_16, gM_17, gM_18, gM_19, gM_20, lTs, lTr, lWd, lOp, lDp, lRw, lRd, nRw, nTr, nI_1, nI_add, sI_2, tS_2, ht', h2, tu3, z0]
      · simp only [e_X2_totalOfTable_72, e_X2_totalOfTable_73, e_X2_totalOfTable_76, e_X2_totalOfTable_79, e_X2_totalOfTable_80, e_X2_totalOfTable_83, e_X2_totalOfTable_86, e_X2_totalOfTable_88, e_X2_totalOfTable_89, e_X2_totalOfTable_90, e_X2_totalOfTable_93, e_X2_totalOfTable_95, e_X2_totalOfTable_96, e_X2_totalOfTable_97, e_X2_totalOfTable_100, e_X2_totalOfTable_101, e_X2_totalOfTable_103, e_X2_totalOfTable_106, e_X2_totalOfTable_109, e_X2_totalOfTable_110, e_X2_totalOfTable_113, e_X2_totalOfTable_114, e_X2_totalOfTable_115, e_X2_totalOfTable_116, e_X2_totalOfTable_118, Option.bind_some, Option.bind_none, Option.toList_some, Option.toList_none, List.cons_append, List.nil_append, I_z, I_i8, I_q8, I_i7, I_q7, I_i6, I_q6, I_i5, I_q5, I_i4, I_q4, I_i3, I_q3, I_i2, I_q2, I_i1, I_q1, I_w8, I_w7, I_w6, I_w5, I_w4, I_w3, I_w2, I_c2n, I_c2i, I_c2q, eq_self, or_true, true_or, and_true, true_and, if_true, if_false, not_false_eq_true, not_true_eq_false, Option.map_none, Option.map_some, reduceCtorEq, isO, isT, isR, isM, gO_0, gO_1, gO_2, gO_3, gO_4, gO_5, gO_6, gO_7, gO_8, gO_9, gT_0, gT_1, gT_2, gR_0, gR_1, gR_2, gR_3, gM_0, gM_1, gM_2, gM_3, gM_4, gM_5, gM_6, gM_7, gM_8, gM_9, gM_10, gM_11, gM_12, gM_13, gM_14, gM_15, gM_16, gM_17, gM_18, gM_19, gM_20, lTs, lTr, lWd, lOp, lDp, lRw, lRd, nRw, nTr, nI_1, nI_add, sI_2, tS_2, tS_7, ht', h2, c0, tu3, z0]
theorem upd_back (h : op t = 0) : upd (upd op t 1) t 0 = op := by
  funext q
  unfold upd
  by_cases c : q = t
  · rw [if_pos c, c, h]
  · rw [if_neg c, if_neg c]
theorem k_tot (hS : WB S) (hL : lnkOK S) : ∀ f dd D op, dd + f = 16 → 3 * f + 4 ≤ D → totH X S D dd op (totT S f op) := by
  have ht16 := hS.1
  have o5 : (5 : Int32) = 5 := rfl
  have z1 : ((1 : Int32) = 0 ∨ (1 : Int32) = 1) = True := by decide
  intro f
  induction f with
  | zero =>
    intro dd D op hd hD q e hq he
    have hq16 : q < 16 := by omega
    have h1 : ¬ nI dd < 16 := by rw [show dd = 16 by omega]; decide
    by_cases c : op q = 0
    · simp only [e_X2_totalOfTable_0, e_X2_totalOfTable_1, e_X2_totalOfTable_4, e_X2_totalOfTable_5, e_X2_totalOfTable_6, e_X2_totalOfTable_9, e_X2_totalOfTable_10, e_X2_totalOfTable_12, e_X2_totalOfTable_15, e_X2_totalOfTable_16, e_X2_totalOfTable_17, e_X2_totalOfTable_20, e_X2_totalOfTable_21, Option.bind_some, Option.bind_none, Option.toList_some, Option.toList_none, List.cons_append, List.nil_append, I_z, I_i8, I_q8, I_i7, I_q7, I_i6, I_q6, I_i5, I_q5, I_i4, I_q4, I_i3, I_q3, I_i2, I_q2, I_i1, I_q1, I_w8, I_w7, I_w6, I_w5, I_w4, I_w3, I_w2, I_c2n, I_c2i, I_c2q, eq_self, or_true, true_or, and_true, true_and, if_true, if_false, not_false_eq_true, not_true_eq_false, Option.map_none, Option.map_some, reduceCtorEq, isO, isT, isR, isM, gO_0, gO_1, gO_2, gO_3, gO_4, gO_5, gO_6, gO_7, gO_8, gO_9, gT_0, gT_1, gT_2, gR_0, gR_1, gR_2, gR_3, gM_0, gM_1, gM_2, gM_3, gM_4, gM_5, gM_6, gM_7, gM_8, gM_9, gM_10, gM_11, gM_12, gM_13, gM_14, gM_15, gM_16, gM_17, gM_18, gM_19, gM_20, lTs, lTr, lWd, lOp, lDp, lRw, lRd, nRw, nTr, nI_1, nI_add, sI_2, hq16, tS_3, c, h1, tp7, totT]
    · simp only [e_X2_totalOfTable_0, e_X2_totalOfTable_1, e_X2_totalOfTable_4, e_X2_totalOfTable_5, e_X2_totalOfTable_6, e_X2_totalOfTable_9, e_X2_totalOfTable_10, e_X2_totalOfTable_12, e_X2_totalOfTable_15, e_X2_totalOfTable_16, e_X2_totalOfTable_17, e_X2_totalOfTable_20, e_X2_totalOfTable_21, Option.bind_some, Option.bind_none, Option.toList_some, Option.toList_none, List.cons_append, List.nil_append, I_z, I_i8, I_q8, I_i7, I_q7, I_i6, I_q6, I_i5, I_q5, I_i4, I_q4, I_i3, I_q3, I_i2, I_q2, I_i1, I_q1, I_w8, I_w7, I_w6, I_w5, I_w4, I_w3, I_w2, I_c2n, I_c2i, I_c2q, eq_self, or_true, true_or, and_true, true_and, if_true, if_false, not_false_eq_true, not_true_eq_false, Option.map_none, Option.map_some, reduceCtorEq, isO, isT, isR, isM, gO_0, gO_1, gO_2, gO_3, gO_4, gO_5, gO_6, gO_7, gO_8, gO_9, gT_0, gT_1, gT_2, gR_0, gR_1, gR_2, gR_3, gM_0, gM_1, gM_2, gM_3, gM_4, gM_5, gM_6, gM_7, gM_8, gM_9, gM_10, gM_11, gM_12, gM_13, gM_14, gM_15, gM_16, gM_17, gM_18, gM_19, gM_20, lTs, lTr, lWd, lOp, lDp, lRw, lRd, nRw, nTr, nI_1, nI_add, sI_2, hq16, tS_3, c, tp7, totT]
  | succ f ih =>
    intro dd D op hd hD q e hq he
    obtain ⟨D', rfl⟩ : ∃ D', D = D' + 4 := ⟨D - 4, by omega⟩
    have hq16 : q < 16 := by omega
    have h1 : nI dd < 16 := nI_lt (b := 16) (by omega) (by omega)
    by_cases c : op q = 0
    · by_cases c2 : e < 1000
      · have h2 : nI e < 1000 := nI_lt (b := 1000) c2 (by omega)
        have hT := ih (dd + 1) (D' + 1) (upd op q 1) (by omega) (by omega)
        have hp := k_tp_loop (X := X) (op := upd op q 1) hS hL hq hT (fun q e h => ent_T f _ q e h) (S.2.1 1 q) 0 (e + 1) 0 (by omega) (by omega)
        rw [nI_0, upd_back c] at hp
        have eT : totT S (f + 1) op q e = totP S (totT S f (upd op q 1)) q (S.2.1 1 q) 0 (e + 1) 0 := by
          refine (if_pos c).trans ?_
          exact if_pos c2
        rw [eT]
        simp only [e_X2_totalOfTable_0, e_X2_totalOfTable_1, e_X2_totalOfTable_4, e_X2_totalOfTable_5, e_X2_totalOfTable_6, e_X2_totalOfTable_9, e_X2_totalOfTable_10, e_X2_totalOfTable_12, e_X2_totalOfTable_15, e_X2_totalOfTable_16, e_X2_totalOfTable_17, e_X2_totalOfTable_20, e_X2_totalOfTable_21, e_X2_totalOfTable_22, e_X2_totalOfTable_23, e_X2_totalOfTable_26, e_X2_totalOfTable_29, e_X2_totalOfTable_32, e_X2_totalOfTable_33, e_X2_totalOfTable_35, e_X2_totalOfTable_38, e_X2_totalOfTable_39, e_X2_totalOfTable_40, e_X2_totalOfTable_41, e_X2_totalOfTable_41i, e_X2_totalOfTable_42, e_X2_totalOfTable_45, e_X2_totalOfTable_46, e_X2_totalOfTable_47, e_X2_totalOfTable_50, e_X2_totalOfTable_51, e_X2_totalOfTable_54, e_X2_totalOfTable_55, e_X2_totalOfTable_56, e_X2_totalOfTable_57, e_X2_totalOfTable_58, e_X2_totalOfTable_61, e_X2_totalOfTable_62, e_X2_totalOfTable_63, e_X2_totalOfTable_64, e_X2_totalOfTable_65, e_X2_totalOfTable_67, e_X2_totalOfTable_68, Option.bind_some, Option.bind_none, Option.toList_some, Option.toList_none, List.cons_append, List.nil_append, I_z, I_i8, I_q8, I_i7, I_q7, I_i6, I_q6, I_i5, I_q5, I_i4, I_q4, I_i3, I_q3, I_i2, I_q2, I_i1, I_q1, I_w8, I_w7, I_w6, I_w5, I_w4, I_w3, I_w2, I_c2n, I_c2i, I_c2q, eq_self, or_true, true_or, and_true, true_and, if_true, if_false, not_false_eq_true, not_true_eq_false, Option.map_none, Option.map_some, reduceCtorEq, isO, isT, isR, isM, gO_0, gO_1, gO_2, gO_3, gO_4, gO_5, gO_6, gO_7, gO_8, gO_9, gT_0, gT_1, gT_2, gR_0, gR_1, gR_2, gR_3, gM_0, gM_1, gM_2, gM_3, gM_4, gM_5, gM_6, gM_7, gM_8, gM_9, gM_10, gM_11, gM_12, gM_13, gM_14, gM_15, gM_16, gM_17, gM_18, gM_19, gM_20, lTs, lTr, lWd, lOp, lDp, lRw, lRd, nRw, nTr, nI_1, nI_add, sI_2, tS_2, hq16, tS_3, tS_6, c, h1, h2, tp6, tu3, z1, hp]
      · have h2 : ¬ nI e < 1000 := nI_nlt (b := 1000) (by omega) (by omega)
        have eT : totT S (f + 1) op q e = (6, e, 0) := by
          refine (if_pos c).trans ?_
          exact if_neg c2
        rw [eT]
        simp only [e_X2_totalOfTable_0, e_X2_totalOfTable_1, e_X2_totalOfTable_4, e_X2_totalOfTable_5, e_X2_totalOfTable_6, e_X2_totalOfTable_9, e_X2_totalOfTable_10, e_X2_totalOfTable_12, e_X2_totalOfTable_15, e_X2_totalOfTable_16, e_X2_totalOfTable_17, e_X2_totalOfTable_20, e_X2_totalOfTable_21, e_X2_totalOfTable_22, e_X2_totalOfTable_23, e_X2_totalOfTable_26, e_X2_totalOfTable_29, e_X2_totalOfTable_32, e_X2_totalOfTable_33, e_X2_totalOfTable_35, e_X2_totalOfTable_38, e_X2_totalOfTable_39, Option.bind_some, Option.bind_none, Option.toList_some, Option.toList_none, List.cons_append, List.nil_append, I_z, I_i8, I_q8, I_i7, I_q7, I_i6, I_q6, I_i5, I_q5, I_i4, I_q4, I_i3, I_q3, I_i2, I_q2, I_i1, I_q1, I_w8, I_w7, I_w6, I_w5, I_w4, I_w3, I_w2, I_c2n, I_c2i, I_c2q, eq_self, or_true, true_or, and_true, true_and, if_true, if_false, not_false_eq_true, not_true_eq_false, Option.map_none, Option.map_some, reduceCtorEq, isO, isT, isR, isM, gO_0, gO_1, gO_2, gO_3, gO_4, gO_5, gO_6, gO_7, gO_8, gO_9, gT_0, gT_1, gT_2, gR_0, gR_1, gR_2, gR_3, gM_0, gM_1, gM_2, gM_3, gM_4, gM_5, gM_6, gM_7, gM_8, gM_9, gM_10, gM_11, gM_12, gM_13, gM_14, gM_15, gM_16, gM_17, gM_18, gM_19, gM_20, lTs, lTr, lWd, lOp, lDp, lRw, lRd, nRw, nTr, nI_1, nI_add, sI_2, tS_2, hq16, tS_3, tS_6, c, h1, h2, tp7]
    · have eT : totT S (f + 1) op q e = (5, e, 0) := if_neg c
      rw [eT]
      simp only [e_X2_totalOfTable_0, e_X2_totalOfTable_1, e_X2_totalOfTable_4, e_X2_totalOfTable_5, e_X2_totalOfTable_6, e_X2_totalOfTable_9, e_X2_totalOfTable_10, e_X2_totalOfTable_12, e_X2_totalOfTable_15, e_X2_totalOfTable_16, e_X2_totalOfTable_17, e_X2_totalOfTable_20, e_X2_totalOfTable_21, Option.bind_some, Option.bind_none, Option.toList_some, Option.toList_none, List.cons_append, List.nil_append, I_z, I_i8, I_q8, I_i7, I_q7, I_i6, I_q6, I_i5, I_q5, I_i4, I_q4, I_i3, I_q3, I_i2, I_q2, I_i1, I_q1, I_w8, I_w7, I_w6, I_w5, I_w4, I_w3, I_w2, I_c2n, I_c2i, I_c2q, eq_self, or_true, true_or, and_true, true_and, if_true, if_false, not_false_eq_true, not_true_eq_false, Option.map_none, Option.map_some, reduceCtorEq, isO, isT, isR, isM, gO_0, gO_1, gO_2, gO_3, gO_4, gO_5, gO_6, gO_7, gO_8, gO_9, gT_0, gT_1, gT_2, gR_0, gR_1, gR_2, gR_3, gM_0, gM_1, gM_2, gM_3, gM_4, gM_5, gM_6, gM_7, gM_8, gM_9, gM_10, gM_11, gM_12, gM_13, gM_14, gM_15, gM_16, gM_17, gM_18, gM_19, gM_20, lTs, lTr, lWd, lOp, lDp, lRw, lRd, nRw, nTr, nI_1, nI_add, sI_2, hq16, tS_3, c, tp7]
theorem k_total_unk (h : unk S a) : ev X (d + 1) m_X2_total 0 [some (va_rf (some (aO X))), some (.int a), none] [] (rp X S) = some (some (.int (-1000001)), rp X S) := by
  simp only [e_X2_total_0, e_X2_total_1, e_X2_total_2, e_X2_total_5, e_X2_total_8, e_X2_total_10, e_X2_total_11, e_X2_total_12, e_X2_total_13, e_X2_total_16, e_X2_total_17, e_X2_total_18, e_X2_total_21, e_X2_total_22, e_X2_total_23, e_X2_total_24, e_X2_total_27, e_X2_total_28, e_X2_total_29, e_X2_total_32, e_X2_total_35, e_X2_total_36, e_X2_total_37, e_X2_total_40, e_X2_total_43, e_X2_total_46, e_X2_total_47, Option.bind_some, Option.bind_none, Option.toList_some, Option.toList_none, List.cons_append, List.nil_append, I_z, I_i8, I_q8, I_i7, I_q7, I_i6, I_q6, I_i5, I_q5, I_i4, I_q4, I_i3, I_q3, I_i2, I_q2, I_i1, I_q1, I_w8, I_w7, I_w6, I_w5, I_w4, I_w3, I_w2, I_c2n, I_c2i, I_c2q, eq_self, or_true, true_or, and_true, true_and, if_true, if_false, not_false_eq_true, not_true_eq_false, Option.map_none, Option.map_some, reduceCtorEq, isO, isT, isR, isM, gO_0, gO_1, gO_2, gO_3, gO_4, gO_5, gO_6, gO_7, gO_8, gO_9, gT_0, gT_1, gT_2, gR_0, gR_1, gR_2, gR_3, gM_0, gM_1, gM_2, gM_3, gM_4, gM_5, gM_6, gM_7, gM_8, gM_9, gM_10, gM_11, gM_12, gM_13, gM_14, gM_15, gM_16, gM_17, gM_18, gM_19, gM_20, lTs, lTr, lWd, lOp, lDp, lRw, lRd, nRw, nTr, nI_1, nI_add, sI_2, k_isUnknown1 h, e10]
theorem tS_in : sI (sI S 0 (upd (S.1 0) 6 0)) 0 (upd ((sI S 0 (upd (S.1 0) 6 0)).1 0) 7 0) = tS S 0 0 (S.1 3) := by
  unfold tS
  rw [sI_sI, sI_g]
  have e3 : (sI S 0 (upd (upd (S.1 0) 6 (nI 0)) 7 0)).1 3 = S.1 3 := by rw [sI_1, up_ne (by omega)]
  rw [← e3, sI_self]
  rfl
theorem k_total (hS : WB S) (hL : lnkOK S) (ht : t < S.2.1 0 0) : ev X (d + 53) m_X2_total 0 [some (va_rf (some (aO X))), some (.int (nI t)), none] [] (rp X S) = some (some (.int (if (totT S 16 (S.1 3) t 0).1 = 0 then (totT S 16 (S.1 3) t 0).2.2 else -1000010 - (totT S 16 (S.1 3) t 0).1)), rp X (if (totT S 16 (S.1 3) t 0).1 = 0 then tS S (totT S 16 (S.1 3) t 0).2.1 0 (S.1 3) else sFail (tS S (totT S 16 (S.1 3) t 0).2.1 (totT S 16 (S.1 3) t 0).1 (S.1 3)))) := by
  have h16 := hS.1
  have h := k_tot (X := X) hS hL 16 0 (d + 52) (S.1 3) (by omega) (by omega) t 0 ht (by omega)
  rw [nI_0] at h
  generalize totT S 16 (S.1 3) t 0 = Q at *
  have e1 : (sI S 0 (upd (S.1 0) 6 0)).2 = S.2 := rfl
  simp only [e_X2_total_0, e_X2_total_1, e_X2_total_2, e_X2_total_5, e_X2_total_8, e_X2_total_10, e_X2_total_11, e_X2_total_12, e_X2_total_13, e_X2_total_16, e_X2_total_17, e_X2_total_18, e_X2_total_21, e_X2_total_22, e_X2_total_23, e_X2_total_24, e_X2_total_27, Option.bind_some, Option.bind_none, Option.toList_some, Option.toList_none, List.cons_append, List.nil_append, I_z, I_i8, I_q8, I_i7, I_q7, I_i6, I_q6, I_i5, I_q5, I_i4, I_q4, I_i3, I_q3, I_i2, I_q2, I_i1, I_q1, I_w8, I_w7, I_w6, I_w5, I_w4, I_w3, I_w2, I_c2n, I_c2i, I_c2q, eq_self, or_true, true_or, and_true, true_and, if_true, if_false, not_false_eq_true, not_true_eq_false, Option.map_none, Option.map_some, reduceCtorEq, isO, isT, isR, isM, gO_0, gO_1, gO_2, gO_3, gO_4, gO_5, gO_6, gO_7, gO_8, gO_9, gT_0, gT_1, gT_2, gR_0, gR_1, gR_2, gR_3, gM_0, gM_1, gM_2, gM_3, gM_4, gM_5, gM_6, gM_7, gM_8, gM_9, gM_10, gM_11, gM_12, gM_13, gM_14, gM_15, gM_16, gM_17, gM_18, gM_19, gM_20, lTs, lTr, lWd, lOp, lDp, lRw, lRd, nRw, nTr, nI_1, nI_add, sI_2, k_isUnknown0 ht h16, pO_6, pO_7, tS_in, h]
  by_cases c : Q.1 = 0
  · rw [if_pos c, if_pos c, c]
    simp only [e_X2_total_27, e_X2_total_28, e_X2_total_29, e_X2_total_32, e_X2_total_35, e_X2_total_36, e_X2_total_37, e_X2_total_40, e_X2_total_43, e_X2_total_46, e_X2_total_47, Option.bind_some, Option.bind_none, Option.toList_some, Option.toList_none, List.cons_append, List.nil_append, I_z, I_i8, I_q8, I_i7, I_q7, I_i6, I_q6, I_i5, I_q5, I_i4, I_q4, I_i3, I_q3, I_i2, I_q2, I_i1, I_q1, I_w8, I_w7, I_w6, I_w5, I_w4, I_w3, I_w2, I_c2n, I_c2i, I_c2q, eq_self, or_true, true_or, and_true, true_and, if_true, if_false, not_false_eq_true, not_true_eq_false, Option.map_none, Option.map_some, reduceCtorEq, isO, isT, isR, isM, gO_0, gO_1, gO_2, gO_3, gO_4, gO_5, gO_6, gO_7, gO_8, gO_9, gT_0, gT_1, gT_2, gR_0, gR_1, gR_2, gR_3, gM_0, gM_1, gM_2, gM_3, gM_4, gM_5, gM_6, gM_7, gM_8, gM_9, gM_10, gM_11, gM_12, gM_13, gM_14, gM_15, gM_16, gM_17, gM_18, gM_19, gM_20, lTs, lTr, lWd, lOp, lDp, lRw, lRd, nRw, nTr, nI_1, nI_add, sI_2, tS_7]
  · rw [if_neg c, if_neg c]
    simp only [e_X2_total_27, e_X2_total_28, e_X2_total_29, e_X2_total_32, e_X2_total_35, e_X2_total_36, e_X2_total_37, e_X2_total_40, e_X2_total_43, e_X2_total_46, e_X2_total_47, Option.bind_some, Option.bind_none, Option.toList_some, Option.toList_none, List.cons_append, List.nil_append, I_z, I_i8, I_q8, I_i7, I_q7, I_i6, I_q6, I_i5, I_q5, I_i4, I_q4, I_i3, I_q3, I_i2, I_q2, I_i1, I_q1, I_w8, I_w7, I_w6, I_w5, I_w4, I_w3, I_w2, I_c2n, I_c2i, I_c2q, eq_self, or_true, true_or, and_true, true_and, if_true, if_false, not_false_eq_true, not_true_eq_false, Option.map_none, Option.map_some, reduceCtorEq, isO, isT, isR, isM, gO_0, gO_1, gO_2, gO_3, gO_4, gO_5, gO_6, gO_7, gO_8, gO_9, gT_0, gT_1, gT_2, gR_0, gR_1, gR_2, gR_3, gM_0, gM_1, gM_2, gM_3, gM_4, gM_5, gM_6, gM_7, gM_8, gM_9, gM_10, gM_11, gM_12, gM_13, gM_14, gM_15, gM_16, gM_17, gM_18, gM_19, gM_20, lTs, lTr, lWd, lOp, lDp, lRw, lRd, nRw, nTr, nI_1, nI_add, sI_2, tS_7, c, k_failed]
end TO1
