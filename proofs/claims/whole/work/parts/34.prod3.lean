/-! The landed code's product: its loops. -/
section PR2
variable {X : I_X} {S B : St} {d t t2 tn r r2 i j n m g w hi l to yy xx n0 : Nat} {a b c e v x y z k : Int32} {u u2 : UInt64}
/-- what stands while the cells before (x, y) are done -/
def Pst (B S : St) (k : Int32) (n0 t t2 hi w x y : Nat) : Prop := NW B S n0 ∧ ∀ x' y', x' < hi → y' < w → ((x' < x ∨ (x' = x ∧ y' < y)) → prdC B S k (n0 + x') y' (rowAt B t x') t2) ∧ (¬ (x' < x ∨ (x' = x ∧ y' < y)) → S.1 (100 + (n0 + x')) y' = 0)
/-- what B must be -/
def Pok (B : St) (k : Int32) (n0 t t2 tn hi w : Nat) : Prop := WB B ∧ t < 16 ∧ t2 < 16 ∧ tn < 16 ∧ B.2.1 1 tn = hi ∧ (k = 0 ∨ k = 1 ∨ k = 2) ∧ (∀ x, x < hi → x < 12 ∧ n0 + x < B.2.1 0 1 ∧ B.2.2.1 tn x = some (n0 + x) ∧ B.2.1 2 (n0 + x) = w ∧ B.1 5 (n0 + x) = k ∧ ∃ l, l < n0 ∧ B.2.2.1 t x = some l ∧ B.1 5 l = k ∧ (∀ k', k' < B.2.1 2 l → rowAt B t2 k' < n0) ∧ ∀ y, y < w → colOK B l t2 y ∧ (k = 2 → colN B l t2 y))
theorem prdC_c {S2 : St} (h1 : S2.1 (100 + to) yy = S.1 (100 + to) yy) (h2 : S2.2.2.2 (1 + to) yy = S.2.2.2 (1 + to) yy) (h : prdC B S k to yy l t2) : prdC B S2 k to yy l t2 := by
  unfold prdC at h ⊢
  split
  · rename_i q; rw [if_pos q] at h; rw [h1]; exact h
  · rename_i q
    rw [if_neg q] at h
    split
    · rename_i q2; rw [if_pos q2] at h; rw [h1]; exact h
    · rename_i q2
      rw [if_neg q2] at h
      rw [h1, h2]
      exact h
theorem k_prod_y (hB : Pok B k n0 t t2 tn hi w) (hx : xx < hi) : ∀ m y (S : St), y + m = w → Pst B S k n0 t t2 hi w xx y → ∃ S', ev X (d + 4) m_X2_product 100 [some (va_rf (some (aO X))), some (.int a), some (.int b), some (va_rf (some (aT X t))), some (va_rf (some (aT X t2))), some (.int c), some (va_rf (some (aT X tn))), some (.int (nI xx)), some (.int (nI y))] [] (rp X S) = ev X (d + 4) m_X2_product 144 [some (va_rf (some (aO X))), some (.int a), some (.int b), some (va_rf (some (aT X t))), some (va_rf (some (aT X t2))), some (.int c), some (va_rf (some (aT X tn))), some (.int (nI xx)), some (.int (nI w))] [] (rp X S') ∧ Pst B S' k n0 t t2 hi w xx w := by
  obtain ⟨hW, ht, ht2, htn, hhi, hk, hrows⟩ := hB
  obtain ⟨x12, xr, xp, xw, xk, l, l1, l2, l3, l4, l5⟩ := hrows xx hx
  have hw16 := (hW.2.2.2 _ xr).1
  rw [xw] at hw16
  intro m
  induction m with
  | zero =>
    intro y S hy hP
    have ey : y = w := by omega
    subst ey
    have h1 : nI y ≤ nI y := nI_le (Nat.le_refl _) (by omega)
    refine ⟨S, ?_, hP⟩
    have xr' : n0 + xx < S.2.1 0 1 := by rw [hP.1.1]; exact xr
    have xp' : S.2.2.1 tn xx = some (n0 + xx) := by rw [hP.1.2.1]; exact xp
    have xw' : S.2.1 2 (n0 + xx) = y := by rw [hP.1.1]; exact xw
    rw [e_X2_product_100]
    simp only [e_X2_product_102, e_X2_product_104, e_X2_product_107, e_X2_product_109, e_X2_product_110, e_X2_product_113, e_X2_product_116, e_X2_product_118, e_X2_product_121, e_X2_product_123, e_X2_product_124, e_X2_product_126, e_X2_product_127, e_X2_product_130, e_X2_product_132, e_X2_product_133, e_X2_product_135, e_X2_product_138, e_X2_product_141, Option.bind_some, Option.bind_none, Option.toList_some, Option.toList_none, List.cons_append, List.nil_append, I_z, I_i8, I_q8, I_i7, I_q7, I_i6, I_q6, I_i5, I_q5, I_i4, I_q4, I_i3, I_q3, I_i2, I_q2, I_i1, I_q1, I_w8, I_w7, I_w6, I_w5, I_w4, I_w3, I_w2, I_c2n, I_c2i, I_c2q, eq_self, or_true, true_or, and_true, true_and, if_true, if_false, not_false_eq_true, not_true_eq_false, Option.map_none, Option.map_some, reduceCtorEq, isO, isT, isR, isM, gO_0, gO_1, gO_2, gO_3, gO_4, gO_5, gO_6, gO_7, gO_8, gO_9, gT_0, gT_1, gT_2, gR_0, gR_1, gR_2, gR_3, gM_0, gM_1, gM_2, gM_3, gM_4, gM_5, gM_6, gM_7, gM_8, gM_9, gM_10, gM_11, gM_12, gM_13, gM_14, gM_15, gM_16, gM_17, gM_18, gM_19, gM_20, lTs, lTr, lWd, lOp, lDp, lRw, lRd, nRw, nTr, nI_1, nI_add, sI_2, htn, x12, xp', xr', k_length xr', xw', h1]
  | succ m ih =>
    intro y S hy hP
    have h1 : ¬ nI w ≤ nI y := nI_ge (by omega) (by omega)
    have hN := hP.1
    have hSW := hN.wb hW
    have xr' : n0 + xx < S.2.1 0 1 := by rw [hN.1]; exact xr
    have lr' : l < S.2.1 0 1 := by rw [hN.1]; omega
    have xp' : S.2.2.1 tn xx = some (n0 + xx) := by rw [hN.2.1]; exact xp
    have lp' : S.2.2.1 t xx = some l := by rw [hN.2.1]; exact l2
    have xw' : S.2.1 2 (n0 + xx) = w := by rw [hN.1]; exact xw
    have e5 : S.1 5 = B.1 5 := hN.2.2.1 5 (by omega)
    obtain ⟨o1, o2⟩ := l5 y (by omega)
    have cO : colOK S l t2 y := by
      intro k' hk'
      rw [hN.1] at hk' ⊢
      rw [hN.2.1, e5]
      exact o1 k' hk'
    have cN : S.1 5 (n0 + xx) = 2 → colN S l t2 y := by
      intro q
      rw [e5, xk] at q
      intro k' hk'
      rw [hN.1] at hk'
      have er : rowAt S t2 k' = rowAt B t2 k' := by unfold rowAt; rw [hN.2.1]
      rw [er, hN.2.2.2 (1 + l) (by omega), hN.2.2.2 (1 + rowAt B t2 k') (by have := l4 k' hk'; omega)]
      exact o2 q k' hk'
    have hm := k_multiply (X := X) (d := d) (yy := y) hSW ht2 lr' xr' (by rw [xw']; omega) (by rw [e5, l3, xk]) (by rw [e5, xk]; exact hk) cO cN
    have h0 : S.1 (100 + (n0 + xx)) y = 0 := (hP.2 xx y hx (by omega)).2 (by omega)
    obtain ⟨z1, z2, z3, z4, z5⟩ := sMul_eq (S := S) (to := n0 + xx) (yy := y) (l := l) (t2 := t2)
    have hP2 : Pst B (sMul S (n0 + xx) y l t2) k n0 t t2 hi w xx (y + 1) := by
      refine ⟨⟨z1.trans hN.1, z2.trans hN.2.1, fun g hg => (z3 g (by omega)).trans (hN.2.2.1 g hg), fun g hg => (z4 g (by omega)).trans (hN.2.2.2 g hg)⟩, fun x' y' hx' hy' => ?_⟩
      obtain ⟨p1, p2⟩ := hP.2 x' y' hx' hy'
      by_cases c1 : x' = xx
      · subst c1
        by_cases c2 : y' = y
        · subst c2
          refine ⟨fun _ => ?_, fun q => absurd (Or.inr ⟨rfl, by omega⟩) q⟩
          rw [rowAt_s l2]
          have := sMul_prd (yy := y') (t2 := t2) hN l1 (show n0 ≤ n0 + x' by omega) l4 h0
          rw [xk] at this
          exact this
        · obtain ⟨q1, q2⟩ := z5 y' c2
          exact ⟨fun q => prdC_c q1 q2 (p1 (by omega)), fun q => by rw [q1]; exact p2 (by omega)⟩
      · have q1 : (sMul S (n0 + xx) y l t2).1 (100 + (n0 + x')) = S.1 (100 + (n0 + x')) := z3 _ (by omega)
        have q2 : (sMul S (n0 + xx) y l t2).2.2.2 (1 + (n0 + x')) = S.2.2.2 (1 + (n0 + x')) := z4 _ (by omega)
        exact ⟨fun q => prdC_c (by rw [q1]) (by rw [q2]) (p1 (by omega)), fun q => by rw [q1]; exact p2 (by omega)⟩
    obtain ⟨S', f1, f2⟩ := ih (y + 1) _ (by omega) hP2
    refine ⟨S', ?_, f2⟩
    rw [← f1, e_X2_product_100]
    simp only [e_X2_product_102, e_X2_product_104, e_X2_product_107, e_X2_product_109, e_X2_product_110, e_X2_product_113, e_X2_product_116, e_X2_product_118, e_X2_product_121, e_X2_product_123, e_X2_product_124, e_X2_product_126, e_X2_product_127, e_X2_product_130, e_X2_product_132, e_X2_product_133, e_X2_product_135, e_X2_product_138, e_X2_product_141, Option.bind_some, Option.bind_none, Option.toList_some, Option.toList_none, List.cons_append, List.nil_append, I_z, I_i8, I_q8, I_i7, I_q7, I_i6, I_q6, I_i5, I_q5, I_i4, I_q4, I_i3, I_q3, I_i2, I_q2, I_i1, I_q1, I_w8, I_w7, I_w6, I_w5, I_w4, I_w3, I_w2, I_c2n, I_c2i, I_c2q, eq_self, or_true, true_or, and_true, true_and, if_true, if_false, not_false_eq_true, not_true_eq_false, Option.map_none, Option.map_some, reduceCtorEq, isO, isT, isR, isM, gO_0, gO_1, gO_2, gO_3, gO_4, gO_5, gO_6, gO_7, gO_8, gO_9, gT_0, gT_1, gT_2, gR_0, gR_1, gR_2, gR_3, gM_0, gM_1, gM_2, gM_3, gM_4, gM_5, gM_6, gM_7, gM_8, gM_9, gM_10, gM_11, gM_12, gM_13, gM_14, gM_15, gM_16, gM_17, gM_18, gM_19, gM_20, lTs, lTr, lWd, lOp, lDp, lRw, lRd, nRw, nTr, nI_1, nI_add, sI_2, htn, ht, x12, xp', lp', xr', k_length xr', xw', h1, hm]
theorem k_prod_x (hB : Pok B k n0 t t2 tn hi w) : ∀ m xx l8 (S : St), xx + m = hi → Pst B S k n0 t t2 hi w xx 0 → ∃ S', ev X (d + 4) m_X2_product 87 [some (va_rf (some (aO X))), some (.int a), some (.int b), some (va_rf (some (aT X t))), some (va_rf (some (aT X t2))), some (.int c), some (va_rf (some (aT X tn))), some (.int (nI xx)), l8] [] (rp X S) = some (some (.int c), rp X S') ∧ Pst B S' k n0 t t2 hi w hi 0 := by
  have hB0 := hB
  obtain ⟨hW, ht, ht2, htn, hhi, hk, hrows⟩ := hB
  have hh := hW.2.1 tn htn
  rw [hhi] at hh
  intro m
  induction m with
  | zero =>
    intro xx l8 S hx hP
    have ex : xx = hi := by omega
    subst ex
    have h1 : nI xx ≤ nI xx := nI_le (Nat.le_refl _) (by omega)
    have eh : S.2.1 1 tn = xx := by rw [hP.1.1]; exact hhi
    refine ⟨S, ?_, hP⟩
    rw [e_X2_product_87]
    simp only [e_X2_product_89, e_X2_product_91, e_X2_product_94, e_X2_product_97, e_X2_product_98, e_X2_product_150, e_X2_product_152, Option.bind_some, Option.bind_none, Option.toList_some, Option.toList_none, List.cons_append, List.nil_append, I_z, I_i8, I_q8, I_i7, I_q7, I_i6, I_q6, I_i5, I_q5, I_i4, I_q4, I_i3, I_q3, I_i2, I_q2, I_i1, I_q1, I_w8, I_w7, I_w6, I_w5, I_w4, I_w3, I_w2, I_c2n, I_c2i, I_c2q, eq_self, or_true, true_or, and_true, true_and, if_true, if_false, not_false_eq_true, not_true_eq_false, Option.map_none, Option.map_some, reduceCtorEq, isO, isT, isR, isM, gO_0, gO_1, gO_2, gO_3, gO_4, gO_5, gO_6, gO_7, gO_8, gO_9, gT_0, gT_1, gT_2, gR_0, gR_1, gR_2, gR_3, gM_0, gM_1, gM_2, gM_3, gM_4, gM_5, gM_6, gM_7, gM_8, gM_9, gM_10, gM_11, gM_12, gM_13, gM_14, gM_15, gM_16, gM_17, gM_18, gM_19, gM_20, lTs, lTr, lWd, lOp, lDp, lRw, lRd, nRw, nTr, nI_1, nI_add, sI_2, htn, eh, h1]
  | succ m ih =>
    intro xx l8 S hx hP
    have h1 : ¬ nI hi ≤ nI xx := nI_ge (by omega) (by omega)
    have eh : S.2.1 1 tn = hi := by rw [hP.1.1]; exact hhi
    obtain ⟨S1, e1, e2⟩ := k_prod_y (X := X) (d := d) (a := a) (b := b) (c := c) hB0 (show xx < hi by omega) w 0 S (by omega) hP
    rw [nI_0] at e1
    have hP2 : Pst B S1 k n0 t t2 hi w (xx + 1) 0 := by
      refine ⟨e2.1, fun x' y' hx' hy' => ?_⟩
      obtain ⟨p1, p2⟩ := e2.2 x' y' hx' hy'
      exact ⟨fun q => p1 (by omega), fun q => p2 (by omega)⟩
    obtain ⟨S2, f1, f2⟩ := ih (xx + 1) (some (.int (nI w))) S1 (by omega) hP2
    refine ⟨S2, ?_, f2⟩
    rw [← f1, e_X2_product_87]
    simp only [e_X2_product_89, e_X2_product_91, e_X2_product_94, e_X2_product_97, e_X2_product_98, Option.bind_some, Option.bind_none, Option.toList_some, Option.toList_none, List.cons_append, List.nil_append, I_z, I_i8, I_q8, I_i7, I_q7, I_i6, I_q6, I_i5, I_q5, I_i4, I_q4, I_i3, I_q3, I_i2, I_q2, I_i1, I_q1, I_w8, I_w7, I_w6, I_w5, I_w4, I_w3, I_w2, I_c2n, I_c2i, I_c2q, eq_self, or_true, true_or, and_true, true_and, if_true, if_false, not_false_eq_true, not_true_eq_false, Option.map_none, Option.map_some, reduceCtorEq, isO, isT, isR, isM, gO_0, gO_1, gO_2, gO_3, gO_4, gO_5, gO_6, gO_7, gO_8, gO_9, gT_0, gT_1, gT_2, gR_0, gR_1, gR_2, gR_3, gM_0, gM_1, gM_2, gM_3, gM_4, gM_5, gM_6, gM_7, gM_8, gM_9, gM_10, gM_11, gM_12, gM_13, gM_14, gM_15, gM_16, gM_17, gM_18, gM_19, gM_20, lTs, lTr, lWd, lOp, lDp, lRw, lRd, nRw, nTr, nI_1, nI_add, sI_2, htn, eh, h1, e1]
    simp only [e_X2_product_144, e_X2_product_147, Option.bind_some, Option.bind_none, Option.toList_some, Option.toList_none, List.cons_append, List.nil_append, I_z, I_i8, I_q8, I_i7, I_q7, I_i6, I_q6, I_i5, I_q5, I_i4, I_q4, I_i3, I_q3, I_i2, I_q2, I_i1, I_q1, I_w8, I_w7, I_w6, I_w5, I_w4, I_w3, I_w2, I_c2n, I_c2i, I_c2q, eq_self, or_true, true_or, and_true, true_and, if_true, if_false, not_false_eq_true, not_true_eq_false, Option.map_none, Option.map_some, reduceCtorEq, isO, isT, isR, isM, gO_0, gO_1, gO_2, gO_3, gO_4, gO_5, gO_6, gO_7, gO_8, gO_9, gT_0, gT_1, gT_2, gR_0, gR_1, gR_2, gR_3, gM_0, gM_1, gM_2, gM_3, gM_4, gM_5, gM_6, gM_7, gM_8, gM_9, gM_10, gM_11, gM_12, gM_13, gM_14, gM_15, gM_16, gM_17, gM_18, gM_19, gM_20, lTs, lTr, lWd, lOp, lDp, lRw, lRd, nRw, nTr, nI_1, nI_add, sI_2]
/-- reals of standing rows are numbers -/
def RN (S : St) : Prop := ∀ r j, std S r → S.1 5 r = 2 → j < S.2.1 2 r → ¬ fN (S.2.2.2 (1 + r) j)
theorem k_prod_ok (hS : WB S) (hK : KD S) (hR : RN S) (hk : S.1 1 t = 0 ∨ S.1 1 t = 1 ∨ S.1 1 t = 2) (h1 : t < S.2.1 0 0) (h2 : t2 < S.2.1 0 0) (hc : canM S t t2) (hf : S.2.1 0 0 < 16) : ∃ S', ev X (d + 5) m_X2_product 0 [some (va_rf (some (aO X))), some (.int (nI t)), some (.int (nI t2)), none, none, none, none, none, none] [] (rp X S) = some (some (.int (nI (S.2.1 0 0))), rp X S') ∧ NW (bwS S (S.1 1 t) (S.2.1 1 t) (wid S t2)) S' (S.2.1 0 1) ∧ ∀ x y, x < S.2.1 1 t → y < wid S t2 → prdC S S' (S.1 1 t) (S.2.1 0 1 + x) y (rowAt S t x) t2 := by
  have h16 := hS.1
  have ht : t < 16 := by omega
  have ht2 : t2 < 16 := by omega
  have hh := hS.2.1 t ht
  have hh2 := hS.2.1 t2 ht2
  have hw2 := wid_le hS ht2
  obtain ⟨m1, m2, m3, m4, m5⟩ := hc
  have hc : canM S t t2 := ⟨m1, m2, m3, m4, m5⟩
  obtain ⟨a1, a2, a3, a4, a5, a6, a7, a7', a8, a9, b1, b2, b3, b4, b5⟩ := bwS_all (S := S) (k := S.1 1 t) (hi := S.2.1 1 t) (w := wid S t2) hh
  have hB := bwS_WB (k := S.1 1 t) (hi := S.2.1 1 t) (w := wid S t2) hS hf hh hw2
  generalize hBd : bwS S (S.1 1 t) (S.2.1 1 t) (wid S t2) = B at *
  have old : ∀ r, r < S.2.1 0 1 → B.2.1 2 r = S.2.1 2 r ∧ B.1 5 r = S.1 5 r ∧ B.1 (100 + r) = S.1 (100 + r) ∧ B.2.2.2 (1 + r) = S.2.2.2 (1 + r) := by
    intro r hr
    rw [a5, if_neg (by omega), a9, if_neg (by omega), b2, if_neg (by omega), b4, if_neg (by omega)]
    exact ⟨rfl, rfl, rfl, rfl⟩
  have pl : ∀ t' i', t' < S.2.1 0 0 → B.2.2.1 t' i' = S.2.2.1 t' i' := fun t' i' h => a7 t' i' (by omega)
  have rw2 : ∀ k', k' < wid S t → ∃ r, r < S.2.1 0 1 ∧ S.2.2.1 t2 k' = some r ∧ S.2.1 2 r = wid S t2 ∧ S.1 5 r = S.1 1 t ∧ std S r := by
    intro k' hk'
    rw [m5] at hk'
    obtain ⟨r, p1, p2⟩ := evn_row m4 hk'
    exact ⟨r, hS.2.2.1 t2 k' r ht2 p1, p1, p2, by rw [hK t2 k' r h2 hk' p1, m2], t2, k', h2, hk', p1⟩
  have hP : Pok B (S.1 1 t) (S.2.1 0 1) t t2 (S.2.1 0 0) (S.2.1 1 t) (wid S t2) := by
    refine ⟨hB, ht, ht2, hf, by rw [a4, if_pos rfl], hk, fun x hx => ?_⟩
    obtain ⟨l, p1, p2⟩ := evn_row m3 hx
    have hl := hS.2.2.1 t x l ht p1
    obtain ⟨o1, o2, o3, o4⟩ := old l hl
    have hkl := hK t x l h1 hx p1
    refine ⟨by omega, by rw [a2]; omega, a7' x hx, by rw [a5, if_pos (by omega)], by rw [a9, if_pos (by omega)], l, hl, by rw [pl t x h1]; exact p1, by rw [o2]; exact hkl, fun k' hk' => ?_, fun y hy => ⟨fun k' hk' => ?_, fun hk2 k' hk' => ?_⟩⟩
    · rw [o1, p2] at hk'
      obtain ⟨r, q1, q2, q3, q4, q5⟩ := rw2 k' hk'
      rw [rowAt_s (r := r) (by rw [pl t2 k' h2]; exact q2)]; exact q1
    · rw [o1, p2] at hk'
      obtain ⟨r, q1, q2, q3, q4, q5⟩ := rw2 k' hk'
      obtain ⟨z1, z2, z3, z4⟩ := old r q1
      refine ⟨by omega, r, by rw [pl t2 k' h2]; exact q2, by rw [z1, q3]; exact hy, by rw [z2, o2, q4, hkl]⟩
    · rw [o1] at hk'
      have hk'' := hk'
      rw [p2] at hk'
      obtain ⟨r, q1, q2, q3, q4, q5⟩ := rw2 k' hk'
      obtain ⟨z1, z2, z3, z4⟩ := old r q1
      rw [rowAt_s (r := r) (by rw [pl t2 k' h2]; exact q2), o4, z4]
      exact ⟨hR l k' ⟨t, x, h1, hx, p1⟩ (by rw [hkl]; exact hk2) hk'', hR r y q5 (by rw [q4]; exact hk2) (by rw [q3]; exact hy)⟩
  have hn3 : ¬ S.1 1 t = 3 := m1
  obtain ⟨S', f1, f2⟩ := k_prod_x (X := X) (d := d + 1) (a := nI t) (b := nI t2) (c := nI (S.2.1 0 0)) hP (S.2.1 1 t) 0 none B (by omega) ⟨NW.refl _, fun x' y' hx' hy' => ⟨fun q => by omega, fun _ => by
    rw [b2, if_pos (by omega)]; unfold newC; rw [if_neg hn3]⟩⟩
  rw [nI_0] at f1
  refine ⟨S', ?_, f2.1, fun x y hx hy => ?_⟩
  · simp only [e_X2_product_0, e_X2_product_1, e_X2_product_2, e_X2_product_5, e_X2_product_8, e_X2_product_9, e_X2_product_10, e_X2_product_13, e_X2_product_16, e_X2_product_18, e_X2_product_19, e_X2_product_20, e_X2_product_23, e_X2_product_24, e_X2_product_25, e_X2_product_26, e_X2_product_27, e_X2_product_30, e_X2_product_31, e_X2_product_32, e_X2_product_34, e_X2_product_35, e_X2_product_37, e_X2_product_40, e_X2_product_43, e_X2_product_45, e_X2_product_46, e_X2_product_47, e_X2_product_50, e_X2_product_53, e_X2_product_55, e_X2_product_56, e_X2_product_57, e_X2_product_58, e_X2_product_61, e_X2_product_62, e_X2_product_65, e_X2_product_67, e_X2_product_70, e_X2_product_73, e_X2_product_75, e_X2_product_76, e_X2_product_79, e_X2_product_81, e_X2_product_82, e_X2_product_84, e_X2_product_85, Option.bind_some, Option.bind_none, Option.toList_some, Option.toList_none, List.cons_append, List.nil_append, I_z, I_i8, I_q8, I_i7, I_q7, I_i6, I_q6, I_i5, I_q5, I_i4, I_q4, I_i3, I_q3, I_i2, I_q2, I_i1, I_q1, I_w8, I_w7, I_w6, I_w5, I_w4, I_w3, I_w2, I_c2n, I_c2i, I_c2q, eq_self, or_true, true_or, and_true, true_and, if_true, if_false, not_false_eq_true, not_true_eq_false, Option.map_none, Option.map_some, reduceCtorEq, isO, isT, isR, isM, gO_0, gO_1, gO_2, gO_3, gO_4, gO_5, gO_6, gO_7, gO_8, gO_9, gT_0, gT_1, gT_2, gR_0, gR_1, gR_2, gR_3, gM_0, gM_1, gM_2, gM_3, gM_4, gM_5, gM_6, gM_7, gM_8, gM_9, gM_10, gM_11, gM_12, gM_13, gM_14, gM_15, gM_16, gM_17, gM_18, gM_19, gM_20, lTs, lTr, lWd, lOp, lDp, lRw, lRd, nRw, nTr, nI_1, nI_add, sI_2, ht, ht2, hf, k_isUnknown0 h1 h16, k_isUnknown0 h2 h16, k_canM hS ht ht2, b01_t hc, e10, k_wide' hS ht2, k_isFull h16, if_neg (show ¬ S.2.1 0 0 = 16 by omega), k_bwr hS hf hh hw2, hBd, f1]
  · have hp := (f2.2 x y hx hy).1 (Or.inl hx)
    obtain ⟨l, p1, p2⟩ := evn_row m3 hx
    have hl := hS.2.2.1 t x l ht p1
    obtain ⟨o1, o2, o3, o4⟩ := old l hl
    have eL : rowAt B t x = rowAt S t x := by unfold rowAt; rw [pl t x h1]
    rw [eL, rowAt_s p1] at hp
    rw [rowAt_s p1]
    have hN2 : ∀ (α : Type) (f h : α), f = h → h = f := fun _ _ _ q => q.symm
    have hr : ∀ k', k' < S.2.1 2 l → rowAt B t2 k' = rowAt S t2 k' ∧ rowAt S t2 k' < S.2.1 0 1 := by
      intro k' hk'
      rw [p2] at hk'
      obtain ⟨r, q1, q2, q3, q4, q5⟩ := rw2 k' hk'
      refine ⟨by unfold rowAt; rw [pl t2 k' h2], by rw [rowAt_s q2]; exact q1⟩
    have eB : ∀ m k s, k + m ≤ S.2.1 2 l → fB B l t2 y m k s = fB S l t2 y m k s := by
      intro m
      induction m with
      | zero => intro k s _; rfl
      | succ m ih =>
        intro k s q
        obtain ⟨w1, w2⟩ := hr k (by omega)
        unfold fB
        rw [w1, o3, (old _ w2).2.2.1]
        exact ih (k + 1) _ (by omega)
    have eM : ∀ m k s, k + m ≤ S.2.1 2 l → fM' B l t2 y m k s = fM' S l t2 y m k s := by
      intro m
      induction m with
      | zero => intro k s _; rfl
      | succ m ih =>
        intro k s q
        obtain ⟨w1, w2⟩ := hr k (by omega)
        unfold fM'
        rw [w1, o3, (old _ w2).2.2.1]
        exact ih (k + 1) _ (by omega)
    have eR : ∀ m k s, k + m ≤ S.2.1 2 l → fR B l t2 y m k s = fR S l t2 y m k s := by
      intro m
      induction m with
      | zero => intro k s _; rfl
      | succ m ih =>
        intro k s q
        obtain ⟨w1, w2⟩ := hr k (by omega)
        have n1 : nn B l k = nn S l k := by unfold nn; rw [o2, o3]
        have n2 : nn B (rowAt S t2 k) y = nn S (rowAt S t2 k) y := by unfold nn; rw [(old _ w2).2.1, (old _ w2).2.2.1]
        unfold fR
        rw [w1, o4, (old _ w2).2.2.2, n1, n2, ih (k + 1) _ (by omega)]
    unfold prdC at hp ⊢
    rw [o1, eB _ 0 0 (by omega), eM _ 0 0 (by omega), eR _ 0 0 (by omega)] at hp
    exact hp
end PR2
