/-! The reference's squeeze. -/
section Q30
variable {X : I_X} {S S0 S1 A S2 S3 : St} {nu : Nat → Nat} {d t t2 r r2 i j n m g R tc hi w p q : Nat} {a b c e v x y z k : Int32} {f f0 : Nat → Int32} {F : Nat → UInt64}
/-- j cells of row r have come to row n -/
def cpy (S1 S : St) (n r j : Nat) : Prop := cEq S S1 ∧ (∀ g, g ≠ 44 → S.1 g = S1.1 g) ∧ (∀ p, S.1 44 p = if 16 * n ≤ p ∧ p < 16 * n + j then S1.1 44 (16 * r + (p - 16 * n)) else S1.1 44 p) ∧ ∀ p, S.2.2.2 0 p = if 16 * n ≤ p ∧ p < 16 * n + j then S1.2.2.2 0 (16 * r + (p - 16 * n)) else S1.2.2.2 0 p
theorem q_sq3i (hn : n ≤ r) (hr : r < 900) : ∀ m j (S : St), j + m = 16 → cpy S1 S n r j → ∃ S', ev X d m_X3_squeeze 139 [some (va_rf (some (aM X))), some (.int (nI n)), some (.int (nI r)), some (.int (nI j))] [] (rp X S) = ev X d m_X3_squeeze 195 [some (va_rf (some (aM X))), some (.int (nI n)), some (.int (nI r)), some (.int (nI 16))] [] (rp X S') ∧ cpy S1 S' n r 16 := by
  intro m
  induction m with
  | zero =>
    intro j S hj hC
    have e : j = 16 := by omega
    subst e
    have h1 : (16 : Int32) ≤ nI 16 := by decide
    refine ⟨S, ?_, hC⟩
    rw [e_X3_squeeze_139]
    simp only [e_X3_squeeze_140, e_X3_squeeze_142, e_X3_squeeze_145, e_X3_squeeze_146, e_X3_squeeze_149, e_X3_squeeze_151, e_X3_squeeze_152, e_X3_squeeze_153, e_X3_squeeze_154, e_X3_squeeze_155, e_X3_squeeze_156, e_X3_squeeze_159, e_X3_squeeze_161, e_X3_squeeze_162, e_X3_squeeze_163, e_X3_squeeze_164, e_X3_squeeze_165, e_X3_squeeze_166, e_X3_squeeze_167, e_X3_squeeze_168, e_X3_squeeze_171, e_X3_squeeze_173, e_X3_squeeze_174, e_X3_squeeze_175, e_X3_squeeze_176, e_X3_squeeze_177, e_X3_squeeze_178, e_X3_squeeze_181, e_X3_squeeze_183, e_X3_squeeze_184, e_X3_squeeze_185, e_X3_squeeze_186, e_X3_squeeze_187, e_X3_squeeze_188, e_X3_squeeze_189, e_X3_squeeze_192, Option.bind_some, Option.bind_none, Option.toList_some, Option.toList_none, List.cons_append, List.nil_append, I_z, I_i8, I_q8, I_i7, I_q7, I_i6, I_q6, I_i5, I_q5, I_i4, I_q4, I_i3, I_q3, I_i2, I_q2, I_i1, I_q1, I_w8, I_w7, I_w6, I_w5, I_w4, I_w3, I_w2, I_c2n, I_c2i, I_c2q, eq_self, or_true, true_or, and_true, true_and, if_true, if_false, not_false_eq_true, not_true_eq_false, Option.map_none, Option.map_some, reduceCtorEq, isM, gM_0, gM_1, gM_2, gM_3, gM_4, gM_5, gM_6, gM_7, gM_8, gM_9, gM_10, gM_11, gM_12, gM_13, gM_14, gM_15, gM_16, gM_17, gM_18, gM_19, gM_20, lA0, lA1, lA2, lA3, lA4, lA5, lA6, lA7, lA8, lA9, lA10, lA11, lA12, nI_1, nI_add, n12, n16, sI_2, h1]
  | succ m ih =>
    intro j S hj hC
    have h1 : ¬ (16 : Int32) ≤ nI j := nI_ge (b := 16) (by omega) (by omega)
    have hb1 : 16 * n + j < 14400 := by omega
    have hb2 : 16 * r + j < 14400 := by omega
    obtain ⟨c1, c2, c3, c4⟩ := hC
    have r1 : S.1 44 (16 * r + j) = S1.1 44 (16 * r + j) := by rw [c3, if_neg (by omega)]
    have r2 : S.2.2.2 0 (16 * r + j) = S1.2.2.2 0 (16 * r + j) := by rw [c4, if_neg (by omega)]
    obtain ⟨S', f1, f2⟩ := ih (j + 1) (sF (sI S 44 (upd (S.1 44) (16 * n + j) (S.1 44 (16 * r + j)))) 0 (vf_upd (S.2.2.2 0) (16 * n + j) (S.2.2.2 0 (16 * r + j)))) (by omega) ⟨cEq_sF.trans ((cEq_sI (by omega) (by omega)).trans c1), fun g hg => by rw [sF_1, sI_ne hg]; exact c2 g hg, fun p => by
        rw [sF_1, sI_g]
        by_cases z : p = 16 * n + j
        · subst z; rw [pk_us, if_pos (by omega), r1, show 16 * r + (16 * n + j - 16 * n) = 16 * r + j by omega]
        · rw [pk_un z, c3 p]
          by_cases z2 : 16 * n ≤ p ∧ p < 16 * n + j
          · rw [if_pos z2, if_pos (by omega)]
          · rw [if_neg z2, if_neg (by omega)], fun p => by
        rw [sF_0]
        by_cases z : p = 16 * n + j
        · subst z; rw [if_pos (by omega)]; show (if _ = _ then _ else _) = _; rw [if_pos rfl, r2, show 16 * r + (16 * n + j - 16 * n) = 16 * r + j by omega]
        · show (if p = 16 * n + j then _ else S.2.2.2 0 p) = _
          rw [if_neg z, c4 p]
          by_cases z2 : 16 * n ≤ p ∧ p < 16 * n + j
          · rw [if_pos z2, if_pos (by omega)]
          · rw [if_neg z2, if_neg (by omega)]⟩
    refine ⟨S', ?_, f2⟩
    rw [← f1, e_X3_squeeze_139]
    simp only [e_X3_squeeze_140, e_X3_squeeze_142, e_X3_squeeze_145, e_X3_squeeze_146, e_X3_squeeze_149, e_X3_squeeze_151, e_X3_squeeze_152, e_X3_squeeze_153, e_X3_squeeze_154, e_X3_squeeze_155, e_X3_squeeze_156, e_X3_squeeze_159, e_X3_squeeze_161, e_X3_squeeze_162, e_X3_squeeze_163, e_X3_squeeze_164, e_X3_squeeze_165, e_X3_squeeze_166, e_X3_squeeze_167, e_X3_squeeze_168, e_X3_squeeze_171, e_X3_squeeze_173, e_X3_squeeze_174, e_X3_squeeze_175, e_X3_squeeze_176, e_X3_squeeze_177, e_X3_squeeze_178, e_X3_squeeze_181, e_X3_squeeze_183, e_X3_squeeze_184, e_X3_squeeze_185, e_X3_squeeze_186, e_X3_squeeze_187, e_X3_squeeze_188, e_X3_squeeze_189, e_X3_squeeze_192, Option.bind_some, Option.bind_none, Option.toList_some, Option.toList_none, List.cons_append, List.nil_append, I_z, I_i8, I_q8, I_i7, I_q7, I_i6, I_q6, I_i5, I_q5, I_i4, I_q4, I_i3, I_q3, I_i2, I_q2, I_i1, I_q1, I_w8, I_w7, I_w6, I_w5, I_w4, I_w3, I_w2, I_c2n, I_c2i, I_c2q, eq_self, or_true, true_or, and_true, true_and, if_true, if_false, not_false_eq_true, not_true_eq_false, Option.map_none, Option.map_some, reduceCtorEq, isM, gM_0, gM_1, gM_2, gM_3, gM_4, gM_5, gM_6, gM_7, gM_8, gM_9, gM_10, gM_11, gM_12, gM_13, gM_14, gM_15, gM_16, gM_17, gM_18, gM_19, gM_20, lA0, lA1, lA2, lA3, lA4, lA5, lA6, lA7, lA8, lA9, lA10, lA11, lA12, nI_1, nI_add, n12, n16, sI_2, h1, hb1, hb2, uA4, uA5]
/-- what stands when r rows have been looked at -/
def K3 (S0 S : St) (f0 : Nat → Int32) (r : Nat) : Prop := cEq S S0 ∧ (∀ g, g ≠ 43 → g ≠ 44 → g ≠ 46 → S.1 g = S0.1 g) ∧ (∀ q, S.1 46 q = if q < r then (if f0 q = 0 then nI (cntZ f0 q) else f0 q) else f0 q) ∧ (∀ q, q < r → f0 q = 0 → S.1 43 (cntZ f0 q) = S0.1 43 q) ∧ (∀ q, r ≤ q → S.1 43 q = S0.1 43 q) ∧ (∀ q j, q < r → f0 q = 0 → j < 16 → S.1 44 (16 * cntZ f0 q + j) = S0.1 44 (16 * q + j) ∧ S.2.2.2 0 (16 * cntZ f0 q + j) = S0.2.2.2 0 (16 * q + j)) ∧ ∀ p, 16 * r ≤ p → S.1 44 p = S0.1 44 p ∧ S.2.2.2 0 p = S0.2.2.2 0 p
theorem q_sq3 (hR : R ≤ 511) (hM : S0.1 20 4 = nI R) : ∀ m r l3 (S : St), r + m = R → K3 S0 S f0 r → ∃ S' l3', ev X d m_X3_squeeze 101 [some (va_rf (some (aM X))), some (.int (nI (cntZ f0 r))), some (.int (nI r)), l3] [] (rp X S) = ev X d m_X3_squeeze 204 [some (va_rf (some (aM X))), some (.int (nI (cntZ f0 R))), some (.int (nI R)), l3'] [] (rp X S') ∧ K3 S0 S' f0 R := by
  intro m
  induction m with
  | zero =>
    intro r l3 S hr hK
    have e : r = R := by omega
    subst e
    have h1 : nI r ≤ nI r := nI_le (Nat.le_refl _) (by omega)
    have eM : S.1 20 4 = nI r := by rw [hK.2.1 20 (by omega) (by omega) (by omega)]; exact hM
    refine ⟨S, l3, ?_, hK⟩
    rw [e_X3_squeeze_101]
    simp only [e_X3_squeeze_102, e_X3_squeeze_103, e_X3_squeeze_106, e_X3_squeeze_109, e_X3_squeeze_110, e_X3_squeeze_113, e_X3_squeeze_114, e_X3_squeeze_115, e_X3_squeeze_118, e_X3_squeeze_119, e_X3_squeeze_122, e_X3_squeeze_123, e_X3_squeeze_124, e_X3_squeeze_125, e_X3_squeeze_126, e_X3_squeeze_129, e_X3_squeeze_130, e_X3_squeeze_131, e_X3_squeeze_134, e_X3_squeeze_135, e_X3_squeeze_136, e_X3_squeeze_137, e_X3_squeeze_138, Option.bind_some, Option.bind_none, Option.toList_some, Option.toList_none, List.cons_append, List.nil_append, I_z, I_i8, I_q8, I_i7, I_q7, I_i6, I_q6, I_i5, I_q5, I_i4, I_q4, I_i3, I_q3, I_i2, I_q2, I_i1, I_q1, I_w8, I_w7, I_w6, I_w5, I_w4, I_w3, I_w2, I_c2n, I_c2i, I_c2q, eq_self, or_true, true_or, and_true, true_and, if_true, if_false, not_false_eq_true, not_true_eq_false, Option.map_none, Option.map_some, reduceCtorEq, isM, gM_0, gM_1, gM_2, gM_3, gM_4, gM_5, gM_6, gM_7, gM_8, gM_9, gM_10, gM_11, gM_12, gM_13, gM_14, gM_15, gM_16, gM_17, gM_18, gM_19, gM_20, lA0, lA1, lA2, lA3, lA4, lA5, lA6, lA7, lA8, lA9, lA10, lA11, lA12, nI_1, nI_add, n12, n16, sI_2, eM, h1]
  | succ m ih =>
    intro r l3 S hr hK
    have h1 : ¬ nI R ≤ nI r := nI_ge (by omega) (by omega)
    have eM : S.1 20 4 = nI R := by rw [hK.2.1 20 (by omega) (by omega) (by omega)]; exact hM
    obtain ⟨k1, k2, k3, k4, k5, k6, k7⟩ := hK
    have hr9 : r < 900 := by omega
    have er : S.1 46 r = f0 r := by rw [k3, if_neg (by omega)]
    have hle := cntZ_le (f := f0) r
    by_cases c : f0 r = 0
    · have ec : cntZ f0 (r + 1) = cntZ f0 r + 1 := by show cntZ f0 r + (if f0 r = 0 then 1 else 0) = _; rw [if_pos c]
      have hlt : ∀ q, q < r → f0 q = 0 → cntZ f0 q < cntZ f0 r := fun q h1 h2 => cntZ_lt h2 h1
      generalize hn : cntZ f0 r = n at *
      have e43 : (sI S 46 (upd (S.1 46) r (nI n))).1 43 = S.1 43 := sI_ne (by omega)
      obtain ⟨S1, f1, f2, f3, f4, f5⟩ := q_sq3i (X := X) (d := d) (n := n) (r := r) (S1 := sI (sI S 46 (upd (S.1 46) r (nI n))) 43 (upd (S.1 43) n (S.1 43 r))) hle hr9 16 0 _ (by omega) ⟨cEq.refl, fun _ _ => rfl, fun p => by rw [if_neg (by omega)], fun p => by rw [if_neg (by omega)]⟩
      rw [nI_0] at f1
      have g43 : S1.1 43 = upd (S.1 43) n (S.1 43 r) := by rw [f3 43 (by omega), sI_g]
      have g46 : S1.1 46 = upd (S.1 46) r (nI n) := by rw [f3 46 (by omega), sI_ne (by omega), sI_g]
      have b44 : ∀ p, S1.1 44 p = if 16 * n ≤ p ∧ p < 16 * n + 16 then S.1 44 (16 * r + (p - 16 * n)) else S.1 44 p := fun p => by
        rw [f4 p, sI_ne (by omega), sI_ne (by omega)]
      have bF : ∀ p, S1.2.2.2 0 p = if 16 * n ≤ p ∧ p < 16 * n + 16 then S.2.2.2 0 (16 * r + (p - 16 * n)) else S.2.2.2 0 p := f5
      have hK1 : K3 S0 S1 f0 (r + 1) := by
        refine ⟨f2.trans ((cEq_sI (by omega) (by omega)).trans ((cEq_sI (by omega) (by omega)).trans k1)), fun g g1 g2 g3 => ?_, fun q => ?_, fun q hq hz => ?_, fun q hq => ?_, fun q j hq hz hj => ?_, fun p hp => ?_⟩
        · rw [f3 g g2, sI_ne g1, sI_ne g3]; exact k2 g g1 g2 g3
        · rw [g46]
          by_cases z : q = r
          · subst z; rw [pk_us, if_pos (by omega), if_pos c, hn]
          · rw [pk_un z, k3 q]
            by_cases z2 : q < r
            · rw [if_pos z2, if_pos (show q < r + 1 by omega)]
            · rw [if_neg z2, if_neg (show ¬ q < r + 1 by omega)]
        · rw [g43]
          by_cases z : q = r
          · subst z; rw [hn, pk_us]; exact k5 q (Nat.le_refl _)
          · have := hlt q (by omega) hz
            rw [pk_un (by omega)]; exact k4 q (by omega) hz
        · rw [g43]
          rw [pk_un (by omega)]; exact k5 q (by omega)
        · rw [b44, bF]
          by_cases z : q = r
          · subst z
            rw [hn, if_pos (by omega), if_pos (by omega), show 16 * q + (16 * n + j - 16 * n) = 16 * q + j by omega]
            exact k7 _ (by omega)
          · have := hlt q (by omega) hz
            rw [if_neg (by omega), if_neg (by omega)]
            exact k6 q j (by omega) hz hj
        · rw [b44, bF, if_neg (by omega), if_neg (by omega)]
          exact k7 p (by omega)
      obtain ⟨S', l3', h2, h3⟩ := ih (r + 1) (some (.int (nI 16))) S1 (by omega) hK1
      refine ⟨S', l3', ?_, h3⟩
      rw [ec] at h2
      rw [← h2, e_X3_squeeze_101]
      have hn9 : n < 900 := by omega
      simp only [e_X3_squeeze_102, e_X3_squeeze_103, e_X3_squeeze_106, e_X3_squeeze_109, e_X3_squeeze_110, e_X3_squeeze_113, e_X3_squeeze_114, e_X3_squeeze_115, e_X3_squeeze_118, e_X3_squeeze_119, e_X3_squeeze_122, e_X3_squeeze_123, e_X3_squeeze_124, e_X3_squeeze_125, e_X3_squeeze_126, e_X3_squeeze_129, e_X3_squeeze_130, e_X3_squeeze_131, e_X3_squeeze_134, e_X3_squeeze_135, e_X3_squeeze_136, e_X3_squeeze_137, e_X3_squeeze_138, Option.bind_some, Option.bind_none, Option.toList_some, Option.toList_none, List.cons_append, List.nil_append, I_z, I_i8, I_q8, I_i7, I_q7, I_i6, I_q6, I_i5, I_q5, I_i4, I_q4, I_i3, I_q3, I_i2, I_q2, I_i1, I_q1, I_w8, I_w7, I_w6, I_w5, I_w4, I_w3, I_w2, I_c2n, I_c2i, I_c2q, eq_self, or_true, true_or, and_true, true_and, if_true, if_false, not_false_eq_true, not_true_eq_false, Option.map_none, Option.map_some, reduceCtorEq, isM, gM_0, gM_1, gM_2, gM_3, gM_4, gM_5, gM_6, gM_7, gM_8, gM_9, gM_10, gM_11, gM_12, gM_13, gM_14, gM_15, gM_16, gM_17, gM_18, gM_19, gM_20, lA0, lA1, lA2, lA3, lA4, lA5, lA6, lA7, lA8, lA9, lA10, lA11, lA12, nI_1, nI_add, n12, n16, sI_2, eM, h1, hr9, hn9, er, c, uA6, uA3, e43, f1]
      simp only [e_X3_squeeze_195, e_X3_squeeze_198, e_X3_squeeze_201, Option.bind_some, Option.bind_none, Option.toList_some, Option.toList_none, List.cons_append, List.nil_append, I_z, I_i8, I_q8, I_i7, I_q7, I_i6, I_q6, I_i5, I_q5, I_i4, I_q4, I_i3, I_q3, I_i2, I_q2, I_i1, I_q1, I_w8, I_w7, I_w6, I_w5, I_w4, I_w3, I_w2, I_c2n, I_c2i, I_c2q, eq_self, or_true, true_or, and_true, true_and, if_true, if_false, not_false_eq_true, not_true_eq_false, Option.map_none, Option.map_some, reduceCtorEq, isM, gM_0, gM_1, gM_2, gM_3, gM_4, gM_5, gM_6, gM_7, gM_8, gM_9, gM_10, gM_11, gM_12, gM_13, gM_14, gM_15, gM_16, gM_17, gM_18, gM_19, gM_20, lA0, lA1, lA2, lA3, lA4, lA5, lA6, lA7, lA8, lA9, lA10, lA11, lA12, nI_1, nI_add, n12, n16, sI_2]
    · have ec : cntZ f0 (r + 1) = cntZ f0 r := by show cntZ f0 r + (if f0 r = 0 then 1 else 0) = _; rw [if_neg c]; omega
      have hK1 : K3 S0 S f0 (r + 1) := by
        refine ⟨k1, k2, fun q => ?_, fun q hq hz => ?_, fun q hq => k5 q (by omega), fun q j hq hz hj => ?_, fun p hp => k7 p (by omega)⟩
        · rw [k3 q]
          by_cases z : q = r
          · subst z; rw [if_neg (by omega), if_pos (by omega), if_neg c]
          · by_cases z2 : q < r
            · rw [if_pos z2, if_pos (show q < r + 1 by omega)]
            · rw [if_neg z2, if_neg (show ¬ q < r + 1 by omega)]
        · have : q ≠ r := fun z => c (by rw [← z]; exact hz)
          exact k4 q (by omega) hz
        · have : q ≠ r := fun z => c (by rw [← z]; exact hz)
          exact k6 q j (by omega) hz hj
      obtain ⟨S', l3', h2, h3⟩ := ih (r + 1) l3 S (by omega) hK1
      refine ⟨S', l3', ?_, h3⟩
      rw [ec] at h2
      rw [← h2, e_X3_squeeze_101]
      simp only [e_X3_squeeze_102, e_X3_squeeze_103, e_X3_squeeze_106, e_X3_squeeze_109, e_X3_squeeze_110, e_X3_squeeze_113, e_X3_squeeze_114, e_X3_squeeze_115, e_X3_squeeze_118, e_X3_squeeze_119, e_X3_squeeze_122, e_X3_squeeze_123, e_X3_squeeze_124, e_X3_squeeze_125, e_X3_squeeze_126, e_X3_squeeze_129, e_X3_squeeze_130, e_X3_squeeze_131, e_X3_squeeze_134, e_X3_squeeze_135, e_X3_squeeze_136, e_X3_squeeze_137, e_X3_squeeze_138, e_X3_squeeze_195, e_X3_squeeze_198, e_X3_squeeze_201, Option.bind_some, Option.bind_none, Option.toList_some, Option.toList_none, List.cons_append, List.nil_append, I_z, I_i8, I_q8, I_i7, I_q7, I_i6, I_q6, I_i5, I_q5, I_i4, I_q4, I_i3, I_q3, I_i2, I_q2, I_i1, I_q1, I_w8, I_w7, I_w6, I_w5, I_w4, I_w3, I_w2, I_c2n, I_c2i, I_c2q, eq_self, or_true, true_or, and_true, true_and, if_true, if_false, not_false_eq_true, not_true_eq_false, Option.map_none, Option.map_some, reduceCtorEq, isM, gM_0, gM_1, gM_2, gM_3, gM_4, gM_5, gM_6, gM_7, gM_8, gM_9, gM_10, gM_11, gM_12, gM_13, gM_14, gM_15, gM_16, gM_17, gM_18, gM_19, gM_20, lA0, lA1, lA2, lA3, lA4, lA5, lA6, lA7, lA8, lA9, lA10, lA11, lA12, nI_1, nI_add, n12, n16, sI_2, eM, h1, hr9, er, c]
/-- the places, p of them renamed -/
def K4 (A S0 S : St) (nu nu' : Nat → Nat) (p : Nat) : Prop := cEq S S0 ∧ (∀ g, g ≠ 42 → S.1 g = S0.1 g) ∧ S.2.2.2 0 = S0.2.2.2 0 ∧ ∀ q, q < 192 → vp A q → S.1 42 q = plN (if q < p then nu' else nu) (A.2.2.1 (q / 12) (q % 12))
theorem q_sq4 {nu' : Nat → Nat} {l1 : Int32} {l3 : Option Value} (h16 : A.2.1 0 0 ≤ 16) (hM : S0.1 20 0 = nI (A.2.1 0 0)) (hh : ∀ t, t < A.2.1 0 0 → S0.1 41 t = nI (A.2.1 1 t) ∧ A.2.1 1 t ≤ 12) (hn : ∀ q r, vp A q → A.2.2.1 (q / 12) (q % 12) = some r → nu r < 900 ∧ S0.1 46 (nu r) = nI (nu' r)) : ∀ m p (S : St), p + m = 192 → K4 A S0 S nu nu' p → ∃ S', ev X d m_X3_squeeze 211 [some (va_rf (some (aM X))), some (.int l1), some (.int (nI p)), l3] [] (rp X S) = some (none, rp X S') ∧ K4 A S0 S' nu nu' 192 := by
  intro m
  induction m with
  | zero =>
    intro p S hp hK
    have e : p = 192 := by omega
    subst e
    have h1 : (192 : Int32) ≤ nI 192 := by decide
    refine ⟨S, ?_, hK⟩
    rw [e_X3_squeeze_211]
    simp only [e_X3_squeeze_212, e_X3_squeeze_215, e_X3_squeeze_218, e_X3_squeeze_219, e_X3_squeeze_221, e_X3_squeeze_222, e_X3_squeeze_223, e_X3_squeeze_226, e_X3_squeeze_229, e_X3_squeeze_230, e_X3_squeeze_232, e_X3_squeeze_233, e_X3_squeeze_234, e_X3_squeeze_237, e_X3_squeeze_238, e_X3_squeeze_240, e_X3_squeeze_241, e_X3_squeeze_242, e_X3_squeeze_245, e_X3_squeeze_246, e_X3_squeeze_249, e_X3_squeeze_250, e_X3_squeeze_251, e_X3_squeeze_254, e_X3_squeeze_255, e_X3_squeeze_258, e_X3_squeeze_259, e_X3_squeeze_260, e_X3_squeeze_263, e_X3_squeeze_264, e_X3_squeeze_267, e_X3_squeeze_268, e_X3_squeeze_269, e_X3_squeeze_270, e_X3_squeeze_271, e_X3_squeeze_274, e_X3_squeeze_277, Option.bind_some, Option.bind_none, Option.toList_some, Option.toList_none, List.cons_append, List.nil_append, I_z, I_i8, I_q8, I_i7, I_q7, I_i6, I_q6, I_i5, I_q5, I_i4, I_q4, I_i3, I_q3, I_i2, I_q2, I_i1, I_q1, I_w8, I_w7, I_w6, I_w5, I_w4, I_w3, I_w2, I_c2n, I_c2i, I_c2q, eq_self, or_true, true_or, and_true, true_and, if_true, if_false, not_false_eq_true, not_true_eq_false, Option.map_none, Option.map_some, reduceCtorEq, isM, gM_0, gM_1, gM_2, gM_3, gM_4, gM_5, gM_6, gM_7, gM_8, gM_9, gM_10, gM_11, gM_12, gM_13, gM_14, gM_15, gM_16, gM_17, gM_18, gM_19, gM_20, lA0, lA1, lA2, lA3, lA4, lA5, lA6, lA7, lA8, lA9, lA10, lA11, lA12, nI_1, nI_add, n12, n16, sI_2, h1]
  | succ m ih =>
    intro p S hp hK
    have hb : p < 192 := by omega
    have h1 : ¬ (192 : Int32) ≤ nI p := nI_ge (b := 192) (by omega) (by omega)
    obtain ⟨d1, d2⟩ := p12 hb
    have e12 : ¬ (12 : Int32) = 0 := by decide
    have hp16 : p / 12 < 16 := by omega
    obtain ⟨k1, k2, k3, k4⟩ := hK
    have eM : S.1 20 0 = nI (A.2.1 0 0) := by rw [k2 20 (by omega)]; exact hM
    rw [e_X3_squeeze_211]
    have keep : (∀ r, vp A p → A.2.2.1 (p / 12) (p % 12) = some r → False) → ∃ S', ev X d m_X3_squeeze 211 [some (va_rf (some (aM X))), some (.int l1), some (.int (nI (p + 1))), l3] [] (rp X S) = some (none, rp X S') ∧ K4 A S0 S' nu nu' 192 := by
      intro hno
      refine ih (p + 1) S (by omega) ⟨k1, k2, k3, fun q hq hv => ?_⟩
      rw [k4 q hq hv]
      by_cases z : q = p
      · subst z
        cases hpl : A.2.2.1 (q / 12) (q % 12) with
        | none => rfl
        | some r => exact (hno r hv hpl).elim
      · by_cases z2 : q < p
        · rw [if_pos z2, if_pos (by omega)]
        · rw [if_neg z2, if_neg (by omega)]
    by_cases c1 : p / 12 < A.2.1 0 0
    · have c1' : ¬ nI (A.2.1 0 0) ≤ nI (p / 12) := nI_ge c1 (by omega)
      obtain ⟨eh0, h12⟩ := hh _ c1
      have eh : S.1 41 (p / 12) = nI (A.2.1 1 (p / 12)) := by rw [k2 41 (by omega)]; exact eh0
      by_cases c2 : p % 12 < A.2.1 1 (p / 12)
      · have c2' : ¬ nI (A.2.1 1 (p / 12)) ≤ nI (p % 12) := nI_ge c2 (by omega)
        have hq := k4 p hb ⟨c1, c2⟩
        rw [if_neg (by omega)] at hq
        cases hpl : A.2.2.1 (p / 12) (p % 12) with
        | none =>
          rw [hpl, plN_n] at hq
          obtain ⟨S', f1, f2⟩ := keep (fun r _ z => by rw [hpl] at z; cases z)
          refine ⟨S', ?_, f2⟩
          rw [← f1]
          simp only [e_X3_squeeze_212, e_X3_squeeze_215, e_X3_squeeze_218, e_X3_squeeze_219, e_X3_squeeze_221, e_X3_squeeze_222, e_X3_squeeze_223, e_X3_squeeze_226, e_X3_squeeze_229, e_X3_squeeze_230, e_X3_squeeze_232, e_X3_squeeze_233, e_X3_squeeze_234, e_X3_squeeze_237, e_X3_squeeze_238, e_X3_squeeze_240, e_X3_squeeze_241, e_X3_squeeze_242, e_X3_squeeze_245, e_X3_squeeze_246, e_X3_squeeze_249, e_X3_squeeze_250, e_X3_squeeze_251, e_X3_squeeze_254, e_X3_squeeze_255, e_X3_squeeze_258, e_X3_squeeze_259, e_X3_squeeze_260, e_X3_squeeze_263, e_X3_squeeze_264, e_X3_squeeze_267, e_X3_squeeze_268, e_X3_squeeze_269, e_X3_squeeze_270, e_X3_squeeze_271, e_X3_squeeze_274, e_X3_squeeze_277, Option.bind_some, Option.bind_none, Option.toList_some, Option.toList_none, List.cons_append, List.nil_append, I_z, I_i8, I_q8, I_i7, I_q7, I_i6, I_q6, I_i5, I_q5, I_i4, I_q4, I_i3, I_q3, I_i2, I_q2, I_i1, I_q1, I_w8, I_w7, I_w6, I_w5, I_w4, I_w3, I_w2, I_c2n, I_c2i, I_c2q, eq_self, or_true, true_or, and_true, true_and, if_true, if_false, not_false_eq_true, not_true_eq_false, Option.map_none, Option.map_some, reduceCtorEq, isM, gM_0, gM_1, gM_2, gM_3, gM_4, gM_5, gM_6, gM_7, gM_8, gM_9, gM_10, gM_11, gM_12, gM_13, gM_14, gM_15, gM_16, gM_17, gM_18, gM_19, gM_20, lA0, lA1, lA2, lA3, lA4, lA5, lA6, lA7, lA8, lA9, lA10, lA11, lA12, nI_1, nI_add, n12, n16, sI_2, h1, d1, d2, e12, eM, c1', hp16, eh, c2', hb, hq, neg1_lt]
        | some r =>
          rw [hpl, plN_s] at hq
          obtain ⟨g9, g6⟩ := hn p r ⟨c1, c2⟩ hpl
          have g6' : S.1 46 (nu r) = nI (nu' r) := by rw [k2 46 (by omega)]; exact g6
          have gg : ¬ nI (nu r) < 0 := nI_pos (by omega)
          obtain ⟨S', f1, f2⟩ := ih (p + 1) (sI S 42 (upd (S.1 42) p (nI (nu' r)))) (by omega) ⟨(cEq_sI (by omega) (by omega)).trans k1, fun g hg => by rw [sI_ne hg]; exact k2 g hg, k3, fun q hq' hv => by
            rw [sI_g]
            by_cases z : q = p
            · subst z; rw [pk_us, if_pos (by omega), hpl]; rfl
            · rw [pk_un z, k4 q hq' hv]
              by_cases z2 : q < p
              · rw [if_pos z2, if_pos (by omega)]
              · rw [if_neg z2, if_neg (by omega)]⟩
          refine ⟨S', ?_, f2⟩
          rw [← f1]
          simp only [e_X3_squeeze_212, e_X3_squeeze_215, e_X3_squeeze_218, e_X3_squeeze_219, e_X3_squeeze_221, e_X3_squeeze_222, e_X3_squeeze_223, e_X3_squeeze_226, e_X3_squeeze_229, e_X3_squeeze_230, e_X3_squeeze_232, e_X3_squeeze_233, e_X3_squeeze_234, e_X3_squeeze_237, e_X3_squeeze_238, e_X3_squeeze_240, e_X3_squeeze_241, e_X3_squeeze_242, e_X3_squeeze_245, e_X3_squeeze_246, e_X3_squeeze_249, e_X3_squeeze_250, e_X3_squeeze_251, e_X3_squeeze_254, e_X3_squeeze_255, e_X3_squeeze_258, e_X3_squeeze_259, e_X3_squeeze_260, e_X3_squeeze_263, e_X3_squeeze_264, e_X3_squeeze_267, e_X3_squeeze_268, e_X3_squeeze_269, e_X3_squeeze_270, e_X3_squeeze_271, e_X3_squeeze_274, e_X3_squeeze_277, Option.bind_some, Option.bind_none, Option.toList_some, Option.toList_none, List.cons_append, List.nil_append, I_z, I_i8, I_q8, I_i7, I_q7, I_i6, I_q6, I_i5, I_q5, I_i4, I_q4, I_i3, I_q3, I_i2, I_q2, I_i1, I_q1, I_w8, I_w7, I_w6, I_w5, I_w4, I_w3, I_w2, I_c2n, I_c2i, I_c2q, eq_self, or_true, true_or, and_true, true_and, if_true, if_false, not_false_eq_true, not_true_eq_false, Option.map_none, Option.map_some, reduceCtorEq, isM, gM_0, gM_1, gM_2, gM_3, gM_4, gM_5, gM_6, gM_7, gM_8, gM_9, gM_10, gM_11, gM_12, gM_13, gM_14, gM_15, gM_16, gM_17, gM_18, gM_19, gM_20, lA0, lA1, lA2, lA3, lA4, lA5, lA6, lA7, lA8, lA9, lA10, lA11, lA12, nI_1, nI_add, n12, n16, sI_2, h1, d1, d2, e12, eM, c1', hp16, eh, c2', hb, hq, gg, g9, g6', uA2]
      · have c2' : nI (A.2.1 1 (p / 12)) ≤ nI (p % 12) := nI_le (by omega) (by omega)
        obtain ⟨S', f1, f2⟩ := keep (fun r z _ => c2 z.2)
        refine ⟨S', ?_, f2⟩
        rw [← f1]
        simp only [e_X3_squeeze_212, e_X3_squeeze_215, e_X3_squeeze_218, e_X3_squeeze_219, e_X3_squeeze_221, e_X3_squeeze_222, e_X3_squeeze_223, e_X3_squeeze_226, e_X3_squeeze_229, e_X3_squeeze_230, e_X3_squeeze_232, e_X3_squeeze_233, e_X3_squeeze_234, e_X3_squeeze_237, e_X3_squeeze_238, e_X3_squeeze_240, e_X3_squeeze_241, e_X3_squeeze_242, e_X3_squeeze_245, e_X3_squeeze_246, e_X3_squeeze_249, e_X3_squeeze_250, e_X3_squeeze_251, e_X3_squeeze_254, e_X3_squeeze_255, e_X3_squeeze_258, e_X3_squeeze_259, e_X3_squeeze_260, e_X3_squeeze_263, e_X3_squeeze_264, e_X3_squeeze_267, e_X3_squeeze_268, e_X3_squeeze_269, e_X3_squeeze_270, e_X3_squeeze_271, e_X3_squeeze_274, e_X3_squeeze_277, Option.bind_some, Option.bind_none, Option.toList_some, Option.toList_none, List.cons_append, List.nil_append, I_z, I_i8, I_q8, I_i7, I_q7, I_i6, I_q6, I_i5, I_q5, I_i4, I_q4, I_i3, I_q3, I_i2, I_q2, I_i1, I_q1, I_w8, I_w7, I_w6, I_w5, I_w4, I_w3, I_w2, I_c2n, I_c2i, I_c2q, eq_self, or_true, true_or, and_true, true_and, if_true, if_false, not_false_eq_true, not_true_eq_false, Option.map_none, Option.map_some, reduceCtorEq, isM, gM_0, gM_1, gM_2, gM_3, gM_4, gM_5, gM_6, gM_7, gM_8, gM_9, gM_10, gM_11, gM_12, gM_13, gM_14, gM_15, gM_16, gM_17, gM_18, gM_19, gM_20, lA0, lA1, lA2, lA3, lA4, lA5, lA6, lA7, lA8, lA9, lA10, lA11, lA12, nI_1, nI_add, n12, n16, sI_2, h1, d1, d2, e12, eM, c1', hp16, eh, c2']
    · have c1' : nI (A.2.1 0 0) ≤ nI (p / 12) := nI_le (by omega) (by omega)
      obtain ⟨S', f1, f2⟩ := keep (fun r z _ => c1 z.1)
      refine ⟨S', ?_, f2⟩
      rw [← f1]
      simp only [e_X3_squeeze_212, e_X3_squeeze_215, e_X3_squeeze_218, e_X3_squeeze_219, e_X3_squeeze_221, e_X3_squeeze_222, e_X3_squeeze_223, e_X3_squeeze_226, e_X3_squeeze_229, e_X3_squeeze_230, e_X3_squeeze_232, e_X3_squeeze_233, e_X3_squeeze_234, e_X3_squeeze_237, e_X3_squeeze_238, e_X3_squeeze_240, e_X3_squeeze_241, e_X3_squeeze_242, e_X3_squeeze_245, e_X3_squeeze_246, e_X3_squeeze_249, e_X3_squeeze_250, e_X3_squeeze_251, e_X3_squeeze_254, e_X3_squeeze_255, e_X3_squeeze_258, e_X3_squeeze_259, e_X3_squeeze_260, e_X3_squeeze_263, e_X3_squeeze_264, e_X3_squeeze_267, e_X3_squeeze_268, e_X3_squeeze_269, e_X3_squeeze_270, e_X3_squeeze_271, e_X3_squeeze_274, e_X3_squeeze_277, Option.bind_some, Option.bind_none, Option.toList_some, Option.toList_none, List.cons_append, List.nil_append, I_z, I_i8, I_q8, I_i7, I_q7, I_i6, I_q6, I_i5, I_q5, I_i4, I_q4, I_i3, I_q3, I_i2, I_q2, I_i1, I_q1, I_w8, I_w7, I_w6, I_w5, I_w4, I_w3, I_w2, I_c2n, I_c2i, I_c2q, eq_self, or_true, true_or, and_true, true_and, if_true, if_false, not_false_eq_true, not_true_eq_false, Option.map_none, Option.map_some, reduceCtorEq, isM, gM_0, gM_1, gM_2, gM_3, gM_4, gM_5, gM_6, gM_7, gM_8, gM_9, gM_10, gM_11, gM_12, gM_13, gM_14, gM_15, gM_16, gM_17, gM_18, gM_19, gM_20, lA0, lA1, lA2, lA3, lA4, lA5, lA6, lA7, lA8, lA9, lA10, lA11, lA12, nI_1, nI_add, n12, n16, sI_2, h1, d1, d2, e12, eM, c1']
theorem vp_of (h12 : i < 12) (ht : t < A.2.1 0 0) (hi : i < A.2.1 1 t) : vp A (12 * t + i) ∧ (12 * t + i) / 12 = t ∧ (12 * t + i) % 12 = i := by
  have e1 : (12 * t + i) / 12 = t := by omega
  have e2 : (12 * t + i) % 12 = i := by omega
  exact ⟨⟨by rw [e1]; exact ht, by rw [e1, e2]; exact hi⟩, e1, e2⟩
theorem q_squeeze (hW : WB A) (hs : Sim S A nu) : ∃ S' nu' R', ev X d m_X3_squeeze 0 [some (va_rf (some (aM X))), none, none, none] [] (rp X S) = some (none, rp X S') ∧ cEq S' S ∧ Sim S' A nu' ∧ S'.1 20 4 = nI R' ∧ R' ≤ 499 ∧ ∀ r, std A r → nu' r < R' := by
  have hs0 := hs
  obtain ⟨h0, h1, h2, ⟨R, hR1, hR2, hR3⟩, h4, h5, h6, h7, h8, h9⟩ := hs
  have h16 := hW.1
  by_cases c : R < 500
  · have c1 : ¬ (500 : Int32) ≤ nI R := nI_ge (b := 500) c (by omega)
    refine ⟨S, nu, R, ?_, cEq.refl, hs0, hR2, by omega, hR3⟩
    simp only [e_X3_squeeze_0, e_X3_squeeze_1, e_X3_squeeze_4, e_X3_squeeze_7, e_X3_squeeze_10, e_X3_squeeze_11, e_X3_squeeze_12, Option.bind_some, Option.bind_none, Option.toList_some, Option.toList_none, List.cons_append, List.nil_append, I_z, I_i8, I_q8, I_i7, I_q7, I_i6, I_q6, I_i5, I_q5, I_i4, I_q4, I_i3, I_q3, I_i2, I_q2, I_i1, I_q1, I_w8, I_w7, I_w6, I_w5, I_w4, I_w3, I_w2, I_c2n, I_c2i, I_c2q, eq_self, or_true, true_or, and_true, true_and, if_true, if_false, not_false_eq_true, not_true_eq_false, Option.map_none, Option.map_some, reduceCtorEq, isM, gM_0, gM_1, gM_2, gM_3, gM_4, gM_5, gM_6, gM_7, gM_8, gM_9, gM_10, gM_11, gM_12, gM_13, gM_14, gM_15, gM_16, gM_17, gM_18, gM_19, gM_20, lA0, lA1, lA2, lA3, lA4, lA5, lA6, lA7, lA8, lA9, lA10, lA11, lA12, nI_1, nI_add, n12, n16, sI_2, hR2, c1]
  · have c1 : (500 : Int32) ≤ nI R := nI_le (a := 500) (by omega) (by omega)
    have l1 := q_sq1 (X := X) (d := d) hR1 (S.1 46) R 0 S (by omega) hR2 (by rw [blk_0])
    generalize hB : blk (S.1 46) 0 (-1) R = f1 at *
    have l2 := q_sq2 (X := X) (d := d) hW hs0 f1 192 0 (sI S 46 f1) (by omega) (fun g hg => sI_ne hg) (by rw [sI_g]; rfl)
    rw [sI_sI] at l2
    generalize hf0 : mrkA A nu f1 192 = f0 at *
    have z0 : cntZ f1 R = 0 := cntZ_0 (fun r hr => by rw [← hB]; unfold blk; rw [if_pos (by omega)]; decide)
    have zn : cntZ f0 R ≤ 192 := by have := mrkA_n (A := A) (nu := nu) (f := f1) 192 R; rw [hf0, z0] at this; omega
    have mk0 : ∀ r, std A r → f0 (nu r) = 0 := by
      rintro r ⟨t, i, ht, hi, hp⟩
      have hi12 : i < 12 := by have := hW.2.1 t (by omega); omega
      obtain ⟨v1, v2, v3⟩ := vp_of hi12 ht hi
      rw [← hf0]
      exact mrkA_0 192 (12 * t + i) (by omega) v1 r (by rw [v2, v3]; exact hp)
    obtain ⟨S3, l3', e3, k3⟩ := q_sq3 (X := X) (d := d) (S0 := sI S 46 f0) (f0 := f0) hR1 (by rw [sI_ne (by omega)]; exact hR2) R 0 none (sI S 46 f0) (by omega) ⟨cEq.refl, fun _ _ _ _ => rfl, fun q => by rw [sI_g, if_neg (by omega)], fun q hq => by omega, fun _ _ => rfl, fun q j hq => by omega, fun _ _ => ⟨rfl, rfl⟩⟩
    obtain ⟨a1, a2, a3, a4, a5, a6, a7⟩ := k3
    have stdp : ∀ q r, vp A q → A.2.2.1 (q / 12) (q % 12) = some r → std A r := fun q r hv hp => ⟨q / 12, q % 12, hv.1, hv.2, hp⟩
    obtain ⟨S4, e4, k4⟩ := q_sq4 (X := X) (d := d) (A := A) (nu := nu) (nu' := fun r => cntZ f0 (nu r)) (S0 := sI S3 20 (upd (S3.1 20) 4 (nI (cntZ f0 R)))) (l1 := nI (cntZ f0 R)) (l3 := l3') h16 (by
        rw [sI_g, pk_un (by omega), a2 20 (by omega) (by omega) (by omega), sI_ne (by omega)]; exact h0) (fun t ht => by
        rw [sI_ne (by omega), a2 41 (by omega) (by omega) (by omega), sI_ne (by omega)]
        exact ⟨(h1 t ht).2, hW.2.1 t (by omega)⟩) (fun q r hv hp => by
        have hst := stdp q r hv hp
        have := hR3 r hst
        refine ⟨by omega, ?_⟩
        rw [sI_ne (by omega), a3, if_pos (by omega), if_pos (mk0 r hst)]) 192 0 (sI S3 20 (upd (S3.1 20) 4 (nI (cntZ f0 R)))) (by omega) ⟨cEq.refl, fun _ _ => rfl, rfl, fun q hq hv => by
        rw [if_neg (by omega), sI_ne (by omega), a2 42 (by omega) (by omega) (by omega), sI_ne (by omega)]
        have := h2 (q / 12) (q % 12) hv.1 hv.2
        rw [show 12 * (q / 12) + q % 12 = q by omega] at this
        exact this⟩
    obtain ⟨b1, b2, b3, b4⟩ := k4
    rw [nI_0] at l1 l2 e3 e4
    have ez : cntZ f0 0 = 0 := rfl
    rw [ez, nI_0] at e3
    have gen : ∀ g, g ≠ 42 → g ≠ 20 → g ≠ 43 → g ≠ 44 → g ≠ 46 → S4.1 g = S.1 g := fun g g1 g2 g3 g4 g5 => by
      rw [b2 g g1, sI_ne g2, a2 g g3 g4 g5, sI_ne g5]
    have g20 : ∀ q, q ≠ 4 → S4.1 20 q = S.1 20 q := fun q hq => by
      rw [b2 20 (by omega), sI_g, pk_un hq, a2 20 (by omega) (by omega) (by omega), sI_ne (by omega)]
    refine ⟨S4, fun r => cntZ f0 (nu r), cntZ f0 R, ?_, ?_, ⟨?_, ?_, ?_, ⟨cntZ f0 R, by omega, ?_, ?_⟩, ?_, ?_, ?_, ?_, ?_, ?_⟩, ?_, by omega, ?_⟩
    · simp only [e_X3_squeeze_0, e_X3_squeeze_1, e_X3_squeeze_4, e_X3_squeeze_7, e_X3_squeeze_10, e_X3_squeeze_11, e_X3_squeeze_12, Option.bind_some, Option.bind_none, Option.toList_some, Option.toList_none, List.cons_append, List.nil_append, I_z, I_i8, I_q8, I_i7, I_q7, I_i6, I_q6, I_i5, I_q5, I_i4, I_q4, I_i3, I_q3, I_i2, I_q2, I_i1, I_q1, I_w8, I_w7, I_w6, I_w5, I_w4, I_w3, I_w2, I_c2n, I_c2i, I_c2q, eq_self, or_true, true_or, and_true, true_and, if_true, if_false, not_false_eq_true, not_true_eq_false, Option.map_none, Option.map_some, reduceCtorEq, isM, gM_0, gM_1, gM_2, gM_3, gM_4, gM_5, gM_6, gM_7, gM_8, gM_9, gM_10, gM_11, gM_12, gM_13, gM_14, gM_15, gM_16, gM_17, gM_18, gM_19, gM_20, lA0, lA1, lA2, lA3, lA4, lA5, lA6, lA7, lA8, lA9, lA10, lA11, lA12, nI_1, nI_add, n12, n16, sI_2, hR2, c1, l1]
      simp only [e_X3_squeeze_34, e_X3_squeeze_35, Option.bind_some, Option.bind_none, Option.toList_some, Option.toList_none, List.cons_append, List.nil_append, I_z, I_i8, I_q8, I_i7, I_q7, I_i6, I_q6, I_i5, I_q5, I_i4, I_q4, I_i3, I_q3, I_i2, I_q2, I_i1, I_q1, I_w8, I_w7, I_w6, I_w5, I_w4, I_w3, I_w2, I_c2n, I_c2i, I_c2q, eq_self, or_true, true_or, and_true, true_and, if_true, if_false, not_false_eq_true, not_true_eq_false, Option.map_none, Option.map_some, reduceCtorEq, isM, gM_0, gM_1, gM_2, gM_3, gM_4, gM_5, gM_6, gM_7, gM_8, gM_9, gM_10, gM_11, gM_12, gM_13, gM_14, gM_15, gM_16, gM_17, gM_18, gM_19, gM_20, lA0, lA1, lA2, lA3, lA4, lA5, lA6, lA7, lA8, lA9, lA10, lA11, lA12, nI_1, nI_add, n12, n16, sI_2, l2]
      simp only [e_X3_squeeze_97, e_X3_squeeze_98, e_X3_squeeze_99, e_X3_squeeze_100, Option.bind_some, Option.bind_none, Option.toList_some, Option.toList_none, List.cons_append, List.nil_append, I_z, I_i8, I_q8, I_i7, I_q7, I_i6, I_q6, I_i5, I_q5, I_i4, I_q4, I_i3, I_q3, I_i2, I_q2, I_i1, I_q1, I_w8, I_w7, I_w6, I_w5, I_w4, I_w3, I_w2, I_c2n, I_c2i, I_c2q, eq_self, or_true, true_or, and_true, true_and, if_true, if_false, not_false_eq_true, not_true_eq_false, Option.map_none, Option.map_some, reduceCtorEq, isM, gM_0, gM_1, gM_2, gM_3, gM_4, gM_5, gM_6, gM_7, gM_8, gM_9, gM_10, gM_11, gM_12, gM_13, gM_14, gM_15, gM_16, gM_17, gM_18, gM_19, gM_20, lA0, lA1, lA2, lA3, lA4, lA5, lA6, lA7, lA8, lA9, lA10, lA11, lA12, nI_1, nI_add, n12, n16, sI_2, e3]
      simp only [e_X3_squeeze_204, e_X3_squeeze_205, e_X3_squeeze_206, e_X3_squeeze_209, e_X3_squeeze_210, Option.bind_some, Option.bind_none, Option.toList_some, Option.toList_none, List.cons_append, List.nil_append, I_z, I_i8, I_q8, I_i7, I_q7, I_i6, I_q6, I_i5, I_q5, I_i4, I_q4, I_i3, I_q3, I_i2, I_q2, I_i1, I_q1, I_w8, I_w7, I_w6, I_w5, I_w4, I_w3, I_w2, I_c2n, I_c2i, I_c2q, eq_self, or_true, true_or, and_true, true_and, if_true, if_false, not_false_eq_true, not_true_eq_false, Option.map_none, Option.map_some, reduceCtorEq, isM, gM_0, gM_1, gM_2, gM_3, gM_4, gM_5, gM_6, gM_7, gM_8, gM_9, gM_10, gM_11, gM_12, gM_13, gM_14, gM_15, gM_16, gM_17, gM_18, gM_19, gM_20, lA0, lA1, lA2, lA3, lA4, lA5, lA6, lA7, lA8, lA9, lA10, lA11, lA12, nI_1, nI_add, n12, n16, sI_2, pM_4, e4]
    · exact b1.trans ((cEq_sI (by omega) (by omega)).trans (a1.trans (cEq_sI (by omega) (by omega))))
    · rw [g20 0 (by omega)]; exact h0
    · intro t ht
      rw [gen 40 (by omega) (by omega) (by omega) (by omega) (by omega), gen 41 (by omega) (by omega) (by omega) (by omega) (by omega)]
      exact h1 t ht
    · intro t i ht hi
      have hi12 : i < 12 := by have := hW.2.1 t (by omega); omega
      obtain ⟨v1, v2, v3⟩ := vp_of hi12 ht hi
      rw [b4 (12 * t + i) (by omega) v1, if_pos (by omega), v2, v3]
    · rw [b2 20 (by omega), sI_g, pk_us]
    · intro r hr; exact cntZ_lt (mk0 r hr) (hR3 r hr)
    · intro r r2 hr hr2 he
      refine h4 r r2 hr hr2 ?_
      rcases Nat.lt_trichotomy (nu r) (nu r2) with z | z | z
      · have := cntZ_lt (mk0 r hr) z
        have he' : cntZ f0 (nu r) = cntZ f0 (nu r2) := he
        omega
      · exact z
      · have := cntZ_lt (mk0 r2 hr2) z
        have he' : cntZ f0 (nu r) = cntZ f0 (nu r2) := he
        omega
    · intro r hr
      show S4.1 43 (cntZ f0 (nu r)) = _
      rw [b2 43 (by omega), sI_ne (by omega), a4 (nu r) (hR3 r hr) (mk0 r hr), sI_ne (by omega)]
      exact h5 r hr
    · intro r j hr hj
      have hl : A.2.1 2 r ≤ 16 := by
        obtain ⟨t, i, ht, hi, hp⟩ := hr
        exact (hW.2.2.2 r (hW.2.2.1 t i r (by omega) hp)).1
      obtain ⟨q1, q2⟩ := a6 (nu r) j (hR3 r hr) (mk0 r hr) (by omega)
      have hc := h6 r j hr hj
      unfold celR at hc ⊢
      have w1 : S4.1 44 (16 * cntZ f0 (nu r) + j) = S.1 44 (16 * nu r + j) := by rw [b2 44 (by omega), sI_ne (by omega), q1, sI_ne (by omega)]
      have w2 : S4.2.2.2 0 (16 * cntZ f0 (nu r) + j) = S.2.2.2 0 (16 * nu r + j) := by rw [b3]; exact q2
      show (if _ then (_ ∧ S4.2.2.2 0 (16 * cntZ f0 (nu r) + j) = _ ∧ FP.Core.val64 (S4.2.2.2 0 (16 * cntZ f0 (nu r) + j)) ≠ _) ∨ (_ ∧ _ ∧ FP.Core.val64 (S4.2.2.2 0 (16 * cntZ f0 (nu r) + j)) = _) else S4.1 44 (16 * cntZ f0 (nu r) + j) = _)
      rw [w1, w2]
      exact hc
    · rw [g20 8 (by omega)]; exact h7
    · rw [g20 12 (by omega)]; exact h8
    · obtain ⟨w, w1, w2, w3, w4⟩ := h9
      refine ⟨w, w1, w2, ?_, fun i hi => ?_⟩
      · rw [g20 10 (by omega)]; exact w3
      · rw [gen 47 (by omega) (by omega) (by omega) (by omega) (by omega)]; exact w4 i hi
    · rw [b2 20 (by omega), sI_g, pk_us]
    · intro r hr; exact cntZ_lt (mk0 r hr) (hR3 r hr)
end Q30
