/-! The reference's search: goOn and find. -/
section FI
variable {X : I_X} {S A : St} {nu : Nat → Nat} {D d dd t r i j n m p q z g : Nat} {a b c en jd v dep a2 : Int32} {pl pa st fo eb : Nat → Int32} {l3 l4 l5 l6 l7 l8 : Option Value}
theorem d2i_nan {x : UInt64} (h : FP.Core.val64 x = .nan) : FP.d2i x = 0 := by
  show FP.Core.toI (FP.Core.val64 x) = 0
  rw [h]
  decide
theorem d2i_0 : FP.d2i 0 = 0 := by decide +kernel
/-- what both tell of a cell -/
theorem told_eq (h : celR S A r j p) : (if A.1 5 r = 2 then FP.d2i (S.2.2.2 0 p) else S.1 44 p) = cutS A r j := by
  unfold celR at h
  unfold cutS
  by_cases c : A.1 5 r = 2
  · rw [if_pos c] at h ⊢
    rw [if_pos c]
    rcases h with ⟨_, h, _⟩ | ⟨_, h1, h2⟩
    · rw [h]
    · rw [h1, d2i_nan h2, d2i_0]
  · rw [if_neg c] at h ⊢
    rw [if_neg c]
    exact h
/-- S while the reference searches -/
def fS (S : St) (pl pa st fo eb : Nat → Int32) (c en jd : Int32) : St := sI (sI (sI (sI (sI (sI S 20 (upd (upd (upd (S.1 20) 18 c) 19 en) 20 jd)) 48 pl) 49 pa) 50 st) 51 fo) 52 eb
theorem fS_2 : (fS S pl pa st fo eb c en jd).2 = S.2 := by simp only [fS, sI_2]
theorem fS_g (h : g ≠ 20 ∧ (g < 48 ∨ 52 < g)) : (fS S pl pa st fo eb c en jd).1 g = S.1 g := by unfold fS; rw [sI_ne (by omega), sI_ne (by omega), sI_ne (by omega), sI_ne (by omega), sI_ne (by omega), sI_ne h.1]
theorem fS_40 : (fS S pl pa st fo eb c en jd).1 40 = S.1 40 := fS_g (by omega)
theorem fS_41 : (fS S pl pa st fo eb c en jd).1 41 = S.1 41 := fS_g (by omega)
theorem fS_42 : (fS S pl pa st fo eb c en jd).1 42 = S.1 42 := fS_g (by omega)
theorem fS_43 : (fS S pl pa st fo eb c en jd).1 43 = S.1 43 := fS_g (by omega)
theorem fS_44 : (fS S pl pa st fo eb c en jd).1 44 = S.1 44 := fS_g (by omega)
theorem fS_48 : (fS S pl pa st fo eb c en jd).1 48 = pl := by unfold fS; rw [sI_ne (by omega), sI_ne (by omega), sI_ne (by omega), sI_ne (by omega), sI_g]
theorem fS_49 : (fS S pl pa st fo eb c en jd).1 49 = pa := by unfold fS; rw [sI_ne (by omega), sI_ne (by omega), sI_ne (by omega), sI_g]
theorem fS_50 : (fS S pl pa st fo eb c en jd).1 50 = st := by unfold fS; rw [sI_ne (by omega), sI_ne (by omega), sI_g]
theorem fS_51 : (fS S pl pa st fo eb c en jd).1 51 = fo := by unfold fS; rw [sI_ne (by omega), sI_g]
theorem fS_52 : (fS S pl pa st fo eb c en jd).1 52 = eb := by unfold fS; rw [sI_g]
theorem fS_20 : (fS S pl pa st fo eb c en jd).1 20 = upd (upd (upd (S.1 20) 18 c) 19 en) 20 jd := by unfold fS; rw [sI_ne (by omega), sI_ne (by omega), sI_ne (by omega), sI_ne (by omega), sI_ne (by omega), sI_g]
theorem fS_c : (fS S pl pa st fo eb c en jd).1 20 18 = c := by rw [fS_20, pk_un (by omega), pk_un (by omega), pk_us]
theorem fS_e : (fS S pl pa st fo eb c en jd).1 20 19 = en := by rw [fS_20, pk_un (by omega), pk_us]
theorem fS_j : (fS S pl pa st fo eb c en jd).1 20 20 = jd := by rw [fS_20, pk_us]
theorem fS_k (h : n < 18) : (fS S pl pa st fo eb c en jd).1 20 n = S.1 20 n := by rw [fS_20, pk_un (by omega), pk_un (by omega), pk_un (by omega)]
theorem fS_p18 : sI (fS S pl pa st fo eb c en jd) 20 (upd ((fS S pl pa st fo eb c en jd).1 20) 18 v) = fS S pl pa st fo eb v en jd := by
  rw [fS_20]
  refine Prod.ext ?_ rfl
  funext g
  unfold fS
  simp only [sI_1]
  unfold va_up
  by_cases h : g = 20
  · subst h
    funext q
    show upd _ 18 v q = upd (upd (upd (S.1 20) 18 v) 19 en) 20 jd q
    unfold upd
    by_cases h2 : q = 18
    · subst h2; rfl
    · simp only [if_neg h2]
  · simp only [if_neg h]
theorem fS_p19 : sI (fS S pl pa st fo eb c en jd) 20 (upd ((fS S pl pa st fo eb c en jd).1 20) 19 v) = fS S pl pa st fo eb c v jd := by
  rw [fS_20]
  refine Prod.ext ?_ rfl
  funext g
  unfold fS
  simp only [sI_1]
  unfold va_up
  by_cases h : g = 20
  · subst h
    funext q
    show upd _ 19 v q = upd (upd (upd (S.1 20) 18 c) 19 v) 20 jd q
    unfold upd
    by_cases h2 : q = 19
    · subst h2; rfl
    · simp only [if_neg h2]
  · simp only [if_neg h]
theorem fS_p20 : sI (fS S pl pa st fo eb c en jd) 20 (upd ((fS S pl pa st fo eb c en jd).1 20) 20 v) = fS S pl pa st fo eb c en v := by
  rw [fS_20]
  refine Prod.ext ?_ rfl
  funext g
  unfold fS
  simp only [sI_1]
  unfold va_up
  by_cases h : g = 20
  · subst h
    funext q
    show upd _ 20 v q = upd (upd (upd (S.1 20) 18 c) 19 en) 20 v q
    unfold upd
    by_cases h2 : q = 20
    · subst h2; rfl
    · simp only [if_neg h2]
  · simp only [if_neg h]
theorem fS_u48 {f : Nat → Int32} : sI (fS S pl pa st fo eb c en jd) 48 f = fS S f pa st fo eb c en jd := by
  refine Prod.ext ?_ rfl
  funext g
  unfold fS
  simp only [sI_1]
  unfold va_up
  by_cases h : g = 48
  · subst h; rfl
  · simp only [if_neg h]
theorem fS_u49 {f : Nat → Int32} : sI (fS S pl pa st fo eb c en jd) 49 f = fS S pl f st fo eb c en jd := by
  refine Prod.ext ?_ rfl
  funext g
  unfold fS
  simp only [sI_1]
  unfold va_up
  by_cases h : g = 49
  · subst h; rfl
  · simp only [if_neg h]
theorem fS_u50 {f : Nat → Int32} : sI (fS S pl pa st fo eb c en jd) 50 f = fS S pl pa f fo eb c en jd := by
  refine Prod.ext ?_ rfl
  funext g
  unfold fS
  simp only [sI_1]
  unfold va_up
  by_cases h : g = 50
  · subst h; rfl
  · simp only [if_neg h]
theorem fS_u51 {f : Nat → Int32} : sI (fS S pl pa st fo eb c en jd) 51 f = fS S pl pa st f eb c en jd := by
  refine Prod.ext ?_ rfl
  funext g
  unfold fS
  simp only [sI_1]
  unfold va_up
  by_cases h : g = 51
  · subst h; rfl
  · simp only [if_neg h]
theorem fS_u52 {f : Nat → Int32} : sI (fS S pl pa st fo eb c en jd) 52 f = fS S pl pa st fo f c en jd := by
  refine Prod.ext ?_ rfl
  funext g
  unfold fS
  simp only [sI_1]
  unfold va_up
  by_cases h : g = 52
  · subst h; rfl
  · simp only [if_neg h]
theorem fp18 : I_putf X (rp X (fS S pl pa st fo eb c en jd)) (aM X) 3 18 (.int v) = some (rp X (fS S pl pa st fo eb v en jd)) := by rw [pM_18, fS_p18]
theorem fp19 : I_putf X (rp X (fS S pl pa st fo eb c en jd)) (aM X) 3 19 (.int v) = some (rp X (fS S pl pa st fo eb c v jd)) := by rw [pM_19, fS_p19]
theorem fp20 : I_putf X (rp X (fS S pl pa st fo eb c en jd)) (aM X) 3 20 (.int v) = some (rp X (fS S pl pa st fo eb c en v)) := by rw [pM_20, fS_p20]
theorem fu8 (h : i < 17) : I_asti X (rp X (fS S pl pa st fo eb c en jd)) 0 (aA X 8) (nI i) v = some (rp X (fS S (upd pl i v) pa st fo eb c en jd)) := by rw [uA8 h, fS_48, fS_u48]
theorem fu9 (h : i < 17) : I_asti X (rp X (fS S pl pa st fo eb c en jd)) 0 (aA X 9) (nI i) v = some (rp X (fS S pl (upd pa i v) st fo eb c en jd)) := by rw [uA9 h, fS_49, fS_u49]
theorem fu10 (h : i < 16) : I_asti X (rp X (fS S pl pa st fo eb c en jd)) 0 (aA X 10) (nI i) v = some (rp X (fS S pl pa (upd st i v) fo eb c en jd)) := by rw [uA10 h, fS_50, fS_u50]
theorem fu11 (h : i < 16) : I_asti X (rp X (fS S pl pa st fo eb c en jd)) 0 (aA X 11) (nI i) v = some (rp X (fS S pl pa st (upd fo i v) eb c en jd)) := by rw [uA11 h, fS_51, fS_u51]
theorem fu12 (h : i < 16) : I_asti X (rp X (fS S pl pa st fo eb c en jd)) 0 (aA X 12) (nI i) v = some (rp X (fS S pl pa st fo (upd eb i v) c en jd)) := by rw [uA12 h, fS_52, fS_u52]
/-- goOn from state T answers a in state T2, whatever its locals were -/
def GO (X : I_X) (D dd : Nat) (dep : Int32) (q : Nat) (T : St) (a : Int32) (T2 : St) : Prop := ∀ l4 l5 l6 l7 l8 : Option Value, I_c2 l4 = false → I_c2 l5 = false → I_c2 l6 = false → I_c2 l7 = false → ev X D m_X3_goOn 7 [some (va_rf (some (aM X))), some (.int (nI dd)), some (.int dep), some (.int (nI q)), l4, l5, l6, l7, l8] [] (rp X T) = some (some (.int a), rp X T2)
theorem p16 (h : p < 2000) : nI p / (16 : Int32) = nI (p / 16) ∧ nI p - nI (p / 16) * (16 : Int32) = nI (p % 16) := by
  have h1 : nI p / (16 : Int32) = nI (p / 16) := pk_div (d := 16) (by omega) (by omega) (by omega)
  refine ⟨h1, ?_⟩
  have := pk_rem (a := p) (d := 16) (by omega) (by omega) (by omega)
  rw [← h1]; exact this
theorem c16 : ¬ (16 : Int32) = 0 := by decide
theorem go_end (hd : dd < 17) (v1 : TV S A nu q) (hp : pa dd = nI (16 * A.2.1 1 q)) : GO X D dd dep q (fS S pl pa st fo eb c en jd) (-1) (fS S pl pa st fo eb c en jd) := by
  intro l4 l5 l6 l7 l8 h4 h5 h6 h7
  have h1 : nI (16 * A.2.1 1 q) ≤ nI (16 * A.2.1 1 q) := nI_le (Nat.le_refl _) (by have := v1.2.2.1; omega)
  rw [e_X3_goOn_7]
  simp only [e_X3_goOn_8, e_X3_goOn_11, e_X3_goOn_12, e_X3_goOn_13, e_X3_goOn_15, e_X3_goOn_16, e_X3_goOn_19, e_X3_goOn_20, e_X3_goOn_21, e_X3_goOn_22, e_X3_goOn_402, e_X3_goOn_403, Option.bind_some, Option.bind_none, Option.toList_some, Option.toList_none, List.cons_append, List.nil_append, I_z, I_i8, I_q8, I_i7, I_q7, I_i6, I_q6, I_i5, I_q5, I_i4, I_q4, I_i3, I_q3, I_i2, I_q2, I_i1, I_q1, I_w8, I_w7, I_w6, I_w5, I_w4, I_w3, I_w2, I_c2n, I_c2i, I_c2q, eq_self, or_true, true_or, and_true, true_and, if_true, if_false, not_false_eq_true, not_true_eq_false, Option.map_none, Option.map_some, reduceCtorEq, isM, gM_0, gM_1, gM_2, gM_3, gM_4, gM_5, gM_6, gM_7, gM_8, gM_9, gM_10, gM_11, gM_12, gM_13, gM_14, gM_15, gM_16, gM_17, gM_18, gM_19, gM_20, lA0, lA1, lA2, lA3, lA4, lA5, lA6, lA7, lA8, lA9, lA10, lA11, lA12, nI_1, nI_add, n12, n16, sI_2, hd, v1.1, v1.2.1, fS_49, fS_41, hp, h1]
theorem go_fallen (hd : dd < 17) (v1 : TV S A nu q) (hp : pa dd = nI p) (hp2 : p < 16 * A.2.1 1 q) (hn : A.2.2.1 q (p / 16) = none) : GO X D dd 0 q (fS S pl pa st fo eb c en jd) (-1) (fS S pl pa st fo eb 1 en jd) := by
  intro l4 l5 l6 l7 l8 h4 h5 h6 h7
  have h12 := v1.2.2.1
  have h1 : ¬ nI (16 * A.2.1 1 q) ≤ nI p := nI_ge (by omega) (by omega)
  obtain ⟨d1, d2⟩ := p16 (p := p) (by omega)
  have hb : 12 * q + p / 16 < 192 := by have := v1.1; omega
  have hq := v1.2.2.2.2.1 (p / 16) (by omega)
  rw [hn, plN_n] at hq
  rw [e_X3_goOn_7]
  simp only [e_X3_goOn_8, e_X3_goOn_11, e_X3_goOn_12, e_X3_goOn_13, e_X3_goOn_15, e_X3_goOn_16, e_X3_goOn_19, e_X3_goOn_20, e_X3_goOn_21, e_X3_goOn_22, e_X3_goOn_25, e_X3_goOn_26, e_X3_goOn_29, e_X3_goOn_30, e_X3_goOn_31, e_X3_goOn_33, e_X3_goOn_34, e_X3_goOn_36, e_X3_goOn_37, e_X3_goOn_40, e_X3_goOn_41, e_X3_goOn_42, e_X3_goOn_44, e_X3_goOn_45, e_X3_goOn_47, e_X3_goOn_48, e_X3_goOn_51, e_X3_goOn_53, e_X3_goOn_54, e_X3_goOn_55, e_X3_goOn_57, e_X3_goOn_58, e_X3_goOn_59, e_X3_goOn_61, e_X3_goOn_63, e_X3_goOn_66, e_X3_goOn_67, e_X3_goOn_70, e_X3_goOn_71, e_X3_goOn_72, e_X3_goOn_75, e_X3_goOn_76, Option.bind_some, Option.bind_none, Option.toList_some, Option.toList_none, List.cons_append, List.nil_append, I_z, I_i8, I_q8, I_i7, I_q7, I_i6, I_q6, I_i5, I_q5, I_i4, I_q4, I_i3, I_q3, I_i2, I_q2, I_i1, I_q1, I_w8, I_w7, I_w6, I_w5, I_w4, I_w3, I_w2, I_c2n, I_c2i, I_c2q, eq_self, or_true, true_or, and_true, true_and, if_true, if_false, not_false_eq_true, not_true_eq_false, Option.map_none, Option.map_some, reduceCtorEq, isM, gM_0, gM_1, gM_2, gM_3, gM_4, gM_5, gM_6, gM_7, gM_8, gM_9, gM_10, gM_11, gM_12, gM_13, gM_14, gM_15, gM_16, gM_17, gM_18, gM_19, gM_20, lA0, lA1, lA2, lA3, lA4, lA5, lA6, lA7, lA8, lA9, lA10, lA11, lA12, nI_1, nI_add, n12, n16, sI_2, hd, v1.1, v1.2.1, fS_49, fS_41, fS_42, hp, h1, c16, d1, d2, h4, h5, h6, h7, hb, hq, neg1_lt, neg1_ge, fp18]
theorem go_131 (hW : WB A) (hK : KD A) (hL : lnkOK A) (hs : Sim S A nu) (hq : q < A.2.1 0 0) (hd : dd < 17) (hp : pa dd = nI p) (hp2 : p < 16 * A.2.1 1 q) (hl : lk A q p = some z) : z < A.2.1 0 0 ∧ ∃ r, ∀ l4 l5 l6 l7 l8 : Option Value, I_c2 l4 = false → I_c2 l5 = false → I_c2 l6 = false → I_c2 l7 = false → ev X D m_X3_goOn 7 [some (va_rf (some (aM X))), some (.int (nI dd)), some (.int dep), some (.int (nI q)), l4, l5, l6, l7, l8] [] (rp X (fS S pl pa st fo eb c en jd)) = ev X D m_X3_goOn 131 [some (va_rf (some (aM X))), some (.int (nI dd)), some (.int dep), some (.int (nI q)), some (.int (nI (p / 16))), some (.int (nI (p % 16))), some (.int (nI r)), some (.int (nI z)), l8] [] (rp X (fS S pl pa st fo eb c en jd)) := by
  obtain ⟨r, g1, g2, g3, g4, g5⟩ := lk_tab hW hL hq hp2 hl
  have v1 := hs.tv hW hq
  have h12 := v1.2.2.1
  have hst : std A r := ⟨q, p / 16, hq, by omega, g1⟩
  refine ⟨g4, nu r, fun l4 l5 l6 l7 l8 h4 h5 h6 h7 => ?_⟩
  have h1 : ¬ nI (16 * A.2.1 1 q) ≤ nI p := nI_ge (by omega) (by omega)
  obtain ⟨d1, d2⟩ := p16 (p := p) (by omega)
  have hb : 12 * q + p / 16 < 192 := by have := v1.1; omega
  have hq2 := v1.2.2.2.2.1 (p / 16) (by omega)
  rw [g1, plN_s] at hq2
  obtain ⟨n1, n2, n3⟩ := v1.2.2.2.2.2 (p / 16) r (by omega) g1
  have n9 : nu r < 900 := by omega
  have k1 : (0 : Int32) ≤ nI (nu r) := nI_pos' (by omega)
  have k2 : ¬ nI (nu r) < 0 := nI_pos (by omega)
  have k3 : ¬ nI (A.2.1 2 r) ≤ nI (p % 16) := nI_ge (by omega) (by omega)
  have k4 : A.1 1 q = 3 := by rw [← hK q (p / 16) r hq (by omega) g1]; exact g3
  have k5 : 16 * nu r + p % 16 < 14400 := by omega
  have k6 : S.1 44 (16 * nu r + p % 16) = nI z := by
    have hc := hs.2.2.2.2.2.2.1 r (p % 16) hst g2
    unfold celR at hc
    rw [if_neg (by rw [g3]; decide)] at hc
    rw [hc, g5]
  have k7 : ¬ nI z = -1000009 := fun q => nI_pos (n := z) (by have := hW.1; omega) (by rw [q]; decide)
  rw [e_X3_goOn_7]
  simp only [e_X3_goOn_8, e_X3_goOn_11, e_X3_goOn_12, e_X3_goOn_13, e_X3_goOn_15, e_X3_goOn_16, e_X3_goOn_19, e_X3_goOn_20, e_X3_goOn_21, e_X3_goOn_22, e_X3_goOn_25, e_X3_goOn_26, e_X3_goOn_29, e_X3_goOn_30, e_X3_goOn_31, e_X3_goOn_33, e_X3_goOn_34, e_X3_goOn_36, e_X3_goOn_37, e_X3_goOn_40, e_X3_goOn_41, e_X3_goOn_42, e_X3_goOn_44, e_X3_goOn_45, e_X3_goOn_47, e_X3_goOn_48, e_X3_goOn_51, e_X3_goOn_53, e_X3_goOn_54, e_X3_goOn_55, e_X3_goOn_57, e_X3_goOn_58, e_X3_goOn_59, e_X3_goOn_61, e_X3_goOn_63, e_X3_goOn_66, e_X3_goOn_67, e_X3_goOn_70, e_X3_goOn_71, e_X3_goOn_72, e_X3_goOn_75, e_X3_goOn_76, e_X3_goOn_77, e_X3_goOn_79, e_X3_goOn_82, e_X3_goOn_84, e_X3_goOn_85, e_X3_goOn_88, e_X3_goOn_90, e_X3_goOn_91, e_X3_goOn_94, e_X3_goOn_95, e_X3_goOn_98, e_X3_goOn_99, e_X3_goOn_100, e_X3_goOn_101, e_X3_goOn_104, e_X3_goOn_106, e_X3_goOn_109, e_X3_goOn_110, e_X3_goOn_113, e_X3_goOn_115, e_X3_goOn_117, e_X3_goOn_118, e_X3_goOn_120, e_X3_goOn_121, e_X3_goOn_122, e_X3_goOn_124, e_X3_goOn_126, e_X3_goOn_128, Option.bind_some, Option.bind_none, Option.toList_some, Option.toList_none, List.cons_append, List.nil_append, I_z, I_i8, I_q8, I_i7, I_q7, I_i6, I_q6, I_i5, I_q5, I_i4, I_q4, I_i3, I_q3, I_i2, I_q2, I_i1, I_q1, I_w8, I_w7, I_w6, I_w5, I_w4, I_w3, I_w2, I_c2n, I_c2i, I_c2q, eq_self, or_true, true_or, and_true, true_and, if_true, if_false, not_false_eq_true, not_true_eq_false, Option.map_none, Option.map_some, reduceCtorEq, isM, gM_0, gM_1, gM_2, gM_3, gM_4, gM_5, gM_6, gM_7, gM_8, gM_9, gM_10, gM_11, gM_12, gM_13, gM_14, gM_15, gM_16, gM_17, gM_18, gM_19, gM_20, lA0, lA1, lA2, lA3, lA4, lA5, lA6, lA7, lA8, lA9, lA10, lA11, lA12, nI_1, nI_add, n12, n16, sI_2, hd, v1.1, v1.2.1, v1.2.2.2.1, fS_49, fS_40, fS_41, fS_42, fS_43, fS_44, hp, h1, c16, d1, d2, h4, h5, h6, h7, hb, hq2, n2, n9, k1, k2, k3, k4, k5, k6, k7]
theorem go_331 (hW : WB A) (hK : KD A) (hs : Sim S A nu) (hq : q < A.2.1 0 0) (hd : dd < 17) (hp : pa dd = nI p) (hp2 : p < 16 * A.2.1 1 q) (g1 : A.2.2.1 q (p / 16) = some r) (hl : lk A q p = none) : ∀ l4 l5 l6 l7 l8 : Option Value, I_c2 l4 = false → I_c2 l5 = false → I_c2 l6 = false → I_c2 l7 = false → ev X D m_X3_goOn 7 [some (va_rf (some (aM X))), some (.int (nI dd)), some (.int dep), some (.int (nI q)), l4, l5, l6, l7, l8] [] (rp X (fS S pl pa st fo eb c en jd)) = ev X D m_X3_goOn 331 [some (va_rf (some (aM X))), some (.int (nI dd)), some (.int dep), some (.int (nI q)), some (.int (nI (p / 16))), some (.int (nI (p % 16))), some (.int (nI (nu r))), some (.int (-1000009)), l8] [] (rp X (fS S pl pa st fo eb c en jd)) := by
  have v1 := hs.tv hW hq
  have h12 := v1.2.2.1
  have hst : std A r := ⟨q, p / 16, hq, by omega, g1⟩
  intro l4 l5 l6 l7 l8 h4 h5 h6 h7
  have h1 : ¬ nI (16 * A.2.1 1 q) ≤ nI p := nI_ge (by omega) (by omega)
  obtain ⟨d1, d2⟩ := p16 (p := p) (by omega)
  have hb : 12 * q + p / 16 < 192 := by have := v1.1; omega
  have hq2 := v1.2.2.2.2.1 (p / 16) (by omega)
  rw [g1, plN_s] at hq2
  obtain ⟨n1, n2, n3⟩ := v1.2.2.2.2.2 (p / 16) r (by omega) g1
  have n9 : nu r < 900 := by omega
  have k1 : (0 : Int32) ≤ nI (nu r) := nI_pos' (by omega)
  have k2 : ¬ nI (nu r) < 0 := nI_pos (by omega)
  have hkk := hK q (p / 16) r hq (by omega) g1
  rw [lk_some g1] at hl
  by_cases c1 : p % 16 < A.2.1 2 r
  · have k3 : ¬ nI (A.2.1 2 r) ≤ nI (p % 16) := nI_ge (by omega) (by omega)
    by_cases c2 : A.1 1 q = 3
    · have c3 : A.1 (100 + r) (p % 16) = -1000009 := Classical.byContradiction fun q => by
        rw [if_pos ⟨c1, hkk.trans c2, q⟩] at hl; cases hl
      have k5 : 16 * nu r + p % 16 < 14400 := by omega
      have k6 : S.1 44 (16 * nu r + p % 16) = -1000009 := by
        have hc := hs.2.2.2.2.2.2.1 r (p % 16) hst c1
        unfold celR at hc
        rw [if_neg (by rw [hkk, c2]; decide)] at hc
        rw [hc, c3]
      rw [e_X3_goOn_7]
      simp only [e_X3_goOn_8, e_X3_goOn_11, e_X3_goOn_12, e_X3_goOn_13, e_X3_goOn_15, e_X3_goOn_16, e_X3_goOn_19, e_X3_goOn_20, e_X3_goOn_21, e_X3_goOn_22, e_X3_goOn_25, e_X3_goOn_26, e_X3_goOn_29, e_X3_goOn_30, e_X3_goOn_31, e_X3_goOn_33, e_X3_goOn_34, e_X3_goOn_36, e_X3_goOn_37, e_X3_goOn_40, e_X3_goOn_41, e_X3_goOn_42, e_X3_goOn_44, e_X3_goOn_45, e_X3_goOn_47, e_X3_goOn_48, e_X3_goOn_51, e_X3_goOn_53, e_X3_goOn_54, e_X3_goOn_55, e_X3_goOn_57, e_X3_goOn_58, e_X3_goOn_59, e_X3_goOn_61, e_X3_goOn_63, e_X3_goOn_66, e_X3_goOn_67, e_X3_goOn_70, e_X3_goOn_71, e_X3_goOn_72, e_X3_goOn_75, e_X3_goOn_76, e_X3_goOn_77, e_X3_goOn_79, e_X3_goOn_82, e_X3_goOn_84, e_X3_goOn_85, e_X3_goOn_88, e_X3_goOn_90, e_X3_goOn_91, e_X3_goOn_94, e_X3_goOn_95, e_X3_goOn_98, e_X3_goOn_99, e_X3_goOn_100, e_X3_goOn_101, e_X3_goOn_104, e_X3_goOn_106, e_X3_goOn_109, e_X3_goOn_110, e_X3_goOn_113, e_X3_goOn_115, e_X3_goOn_117, e_X3_goOn_118, e_X3_goOn_120, e_X3_goOn_121, e_X3_goOn_122, e_X3_goOn_124, e_X3_goOn_126, e_X3_goOn_128, Option.bind_some, Option.bind_none, Option.toList_some, Option.toList_none, List.cons_append, List.nil_append, I_z, I_i8, I_q8, I_i7, I_q7, I_i6, I_q6, I_i5, I_q5, I_i4, I_q4, I_i3, I_q3, I_i2, I_q2, I_i1, I_q1, I_w8, I_w7, I_w6, I_w5, I_w4, I_w3, I_w2, I_c2n, I_c2i, I_c2q, eq_self, or_true, true_or, and_true, true_and, if_true, if_false, not_false_eq_true, not_true_eq_false, Option.map_none, Option.map_some, reduceCtorEq, isM, gM_0, gM_1, gM_2, gM_3, gM_4, gM_5, gM_6, gM_7, gM_8, gM_9, gM_10, gM_11, gM_12, gM_13, gM_14, gM_15, gM_16, gM_17, gM_18, gM_19, gM_20, lA0, lA1, lA2, lA3, lA4, lA5, lA6, lA7, lA8, lA9, lA10, lA11, lA12, nI_1, nI_add, n12, n16, sI_2, hd, v1.1, v1.2.1, v1.2.2.2.1, fS_49, fS_40, fS_41, fS_42, fS_43, fS_44, hp, h1, c16, d1, d2, h4, h5, h6, h7, hb, hq2, n2, n9, k1, k2, k3, c2, k5, k6]
    · rw [e_X3_goOn_7]
      simp only [e_X3_goOn_8, e_X3_goOn_11, e_X3_goOn_12, e_X3_goOn_13, e_X3_goOn_15, e_X3_goOn_16, e_X3_goOn_19, e_X3_goOn_20, e_X3_goOn_21, e_X3_goOn_22, e_X3_goOn_25, e_X3_goOn_26, e_X3_goOn_29, e_X3_goOn_30, e_X3_goOn_31, e_X3_goOn_33, e_X3_goOn_34, e_X3_goOn_36, e_X3_goOn_37, e_X3_goOn_40, e_X3_goOn_41, e_X3_goOn_42, e_X3_goOn_44, e_X3_goOn_45, e_X3_goOn_47, e_X3_goOn_48, e_X3_goOn_51, e_X3_goOn_53, e_X3_goOn_54, e_X3_goOn_55, e_X3_goOn_57, e_X3_goOn_58, e_X3_goOn_59, e_X3_goOn_61, e_X3_goOn_63, e_X3_goOn_66, e_X3_goOn_67, e_X3_goOn_70, e_X3_goOn_71, e_X3_goOn_72, e_X3_goOn_75, e_X3_goOn_76, e_X3_goOn_77, e_X3_goOn_79, e_X3_goOn_82, e_X3_goOn_84, e_X3_goOn_85, e_X3_goOn_88, e_X3_goOn_90, e_X3_goOn_91, e_X3_goOn_94, e_X3_goOn_95, e_X3_goOn_98, e_X3_goOn_99, e_X3_goOn_100, e_X3_goOn_101, e_X3_goOn_104, e_X3_goOn_106, e_X3_goOn_109, e_X3_goOn_110, e_X3_goOn_113, e_X3_goOn_115, e_X3_goOn_117, e_X3_goOn_118, e_X3_goOn_120, e_X3_goOn_121, e_X3_goOn_122, e_X3_goOn_124, e_X3_goOn_126, e_X3_goOn_128, Option.bind_some, Option.bind_none, Option.toList_some, Option.toList_none, List.cons_append, List.nil_append, I_z, I_i8, I_q8, I_i7, I_q7, I_i6, I_q6, I_i5, I_q5, I_i4, I_q4, I_i3, I_q3, I_i2, I_q2, I_i1, I_q1, I_w8, I_w7, I_w6, I_w5, I_w4, I_w3, I_w2, I_c2n, I_c2i, I_c2q, eq_self, or_true, true_or, and_true, true_and, if_true, if_false, not_false_eq_true, not_true_eq_false, Option.map_none, Option.map_some, reduceCtorEq, isM, gM_0, gM_1, gM_2, gM_3, gM_4, gM_5, gM_6, gM_7, gM_8, gM_9, gM_10, gM_11, gM_12, gM_13, gM_14, gM_15, gM_16, gM_17, gM_18, gM_19, gM_20, lA0, lA1, lA2, lA3, lA4, lA5, lA6, lA7, lA8, lA9, lA10, lA11, lA12, nI_1, nI_add, n12, n16, sI_2, hd, v1.1, v1.2.1, v1.2.2.2.1, fS_49, fS_40, fS_41, fS_42, fS_43, fS_44, hp, h1, c16, d1, d2, h4, h5, h6, h7, hb, hq2, n2, n9, k1, k2, k3, c2]
  · have k3 : nI (A.2.1 2 r) ≤ nI (p % 16) := nI_le (by omega) (by omega)
    rw [e_X3_goOn_7]
    simp only [e_X3_goOn_8, e_X3_goOn_11, e_X3_goOn_12, e_X3_goOn_13, e_X3_goOn_15, e_X3_goOn_16, e_X3_goOn_19, e_X3_goOn_20, e_X3_goOn_21, e_X3_goOn_22, e_X3_goOn_25, e_X3_goOn_26, e_X3_goOn_29, e_X3_goOn_30, e_X3_goOn_31, e_X3_goOn_33, e_X3_goOn_34, e_X3_goOn_36, e_X3_goOn_37, e_X3_goOn_40, e_X3_goOn_41, e_X3_goOn_42, e_X3_goOn_44, e_X3_goOn_45, e_X3_goOn_47, e_X3_goOn_48, e_X3_goOn_51, e_X3_goOn_53, e_X3_goOn_54, e_X3_goOn_55, e_X3_goOn_57, e_X3_goOn_58, e_X3_goOn_59, e_X3_goOn_61, e_X3_goOn_63, e_X3_goOn_66, e_X3_goOn_67, e_X3_goOn_70, e_X3_goOn_71, e_X3_goOn_72, e_X3_goOn_75, e_X3_goOn_76, e_X3_goOn_77, e_X3_goOn_79, e_X3_goOn_82, e_X3_goOn_84, e_X3_goOn_85, e_X3_goOn_88, e_X3_goOn_90, e_X3_goOn_91, e_X3_goOn_94, e_X3_goOn_95, e_X3_goOn_98, e_X3_goOn_99, e_X3_goOn_100, e_X3_goOn_101, e_X3_goOn_104, e_X3_goOn_106, e_X3_goOn_109, e_X3_goOn_110, e_X3_goOn_113, e_X3_goOn_115, e_X3_goOn_117, e_X3_goOn_118, e_X3_goOn_120, e_X3_goOn_121, e_X3_goOn_122, e_X3_goOn_124, e_X3_goOn_126, e_X3_goOn_128, Option.bind_some, Option.bind_none, Option.toList_some, Option.toList_none, List.cons_append, List.nil_append, I_z, I_i8, I_q8, I_i7, I_q7, I_i6, I_q6, I_i5, I_q5, I_i4, I_q4, I_i3, I_q3, I_i2, I_q2, I_i1, I_q1, I_w8, I_w7, I_w6, I_w5, I_w4, I_w3, I_w2, I_c2n, I_c2i, I_c2q, eq_self, or_true, true_or, and_true, true_and, if_true, if_false, not_false_eq_true, not_true_eq_false, Option.map_none, Option.map_some, reduceCtorEq, isM, gM_0, gM_1, gM_2, gM_3, gM_4, gM_5, gM_6, gM_7, gM_8, gM_9, gM_10, gM_11, gM_12, gM_13, gM_14, gM_15, gM_16, gM_17, gM_18, gM_19, gM_20, lA0, lA1, lA2, lA3, lA4, lA5, lA6, lA7, lA8, lA9, lA10, lA11, lA12, nI_1, nI_add, n12, n16, sI_2, hd, v1.1, v1.2.1, v1.2.2.2.1, fS_49, fS_40, fS_41, fS_42, fS_43, fS_44, hp, h1, c16, d1, d2, h4, h5, h6, h7, hb, hq2, n2, n9, k1, k2, k3]
theorem go_ring (hW : WB A) (hK : KD A) (hL : lnkOK A) (hs : Sim S A nu) (hq : q < A.2.1 0 0) (hd : dd < 17) (hp : pa dd = nI p) (hp2 : p < 16 * A.2.1 1 q) (hl : lk A q p = some z) (h : st z = 1) : GO X D dd dep q (fS S pl pa st fo eb c en jd) (-1) (fS S pl pa st fo eb 5 en jd) := by
  intro l4 l5 l6 l7 l8 h4 h5 h6 h7
  obtain ⟨hz, r, e1⟩ := go_131 (X := X) (D := D) (dep := dep) (pl := pl) (st := st) (fo := fo) (eb := eb) (c := c) (en := en) (jd := jd) hW hK hL hs hq hd hp hp2 hl
  have hz16 : z < 16 := by have := hW.1; omega
  rw [e1 l4 l5 l6 l7 l8 h4 h5 h6 h7]
  simp only [e_X3_goOn_131, e_X3_goOn_132, e_X3_goOn_135, e_X3_goOn_137, e_X3_goOn_138, e_X3_goOn_139, e_X3_goOn_142, e_X3_goOn_143, e_X3_goOn_144, e_X3_goOn_147, e_X3_goOn_148, Option.bind_some, Option.bind_none, Option.toList_some, Option.toList_none, List.cons_append, List.nil_append, I_z, I_i8, I_q8, I_i7, I_q7, I_i6, I_q6, I_i5, I_q5, I_i4, I_q4, I_i3, I_q3, I_i2, I_q2, I_i1, I_q1, I_w8, I_w7, I_w6, I_w5, I_w4, I_w3, I_w2, I_c2n, I_c2i, I_c2q, eq_self, or_true, true_or, and_true, true_and, if_true, if_false, not_false_eq_true, not_true_eq_false, Option.map_none, Option.map_some, reduceCtorEq, isM, gM_0, gM_1, gM_2, gM_3, gM_4, gM_5, gM_6, gM_7, gM_8, gM_9, gM_10, gM_11, gM_12, gM_13, gM_14, gM_15, gM_16, gM_17, gM_18, gM_19, gM_20, lA0, lA1, lA2, lA3, lA4, lA5, lA6, lA7, lA8, lA9, lA10, lA11, lA12, nI_1, nI_add, n12, n16, sI_2, hz16, fS_50, h, fp18]
theorem i23 : ¬ (2 : Int32) = 3 := by decide
theorem i01 : ¬ (0 : Int32) = 1 := by decide
theorem i21 : ¬ (2 : Int32) = 1 := by decide
theorem i20 : ¬ (2 : Int32) = 0 := by decide
theorem i60 : ¬ (6 : Int32) = 0 := by decide
theorem go_new (hW : WB A) (hK : KD A) (hL : lnkOK A) (hs : Sim S A nu) (hq : q < A.2.1 0 0) (hd : dd < 17) (hp : pa dd = nI p) (hp2 : p < 16 * A.2.1 1 q) (hl : lk A q p = some z) (h : st z = 0) (hdep : dep = 1 ∨ dep = 0 ∧ ¬ en = 1000) : GO X D dd dep q (fS S pl pa st fo eb c en jd) (nI z) (fS S pl pa st fo eb 0 en jd) := by
  intro l4 l5 l6 l7 l8 h4 h5 h6 h7
  obtain ⟨hz, r, e1⟩ := go_131 (X := X) (D := D) (dep := dep) (pl := pl) (st := st) (fo := fo) (eb := eb) (c := c) (en := en) (jd := jd) hW hK hL hs hq hd hp hp2 hl
  have hz16 : z < 16 := by have := hW.1; omega
  rw [e1 l4 l5 l6 l7 l8 h4 h5 h6 h7]
  rcases hdep with rfl | ⟨rfl, h2⟩
  · simp only [e_X3_goOn_131, e_X3_goOn_132, e_X3_goOn_135, e_X3_goOn_137, e_X3_goOn_138, e_X3_goOn_139, e_X3_goOn_142, e_X3_goOn_143, e_X3_goOn_144, e_X3_goOn_147, e_X3_goOn_148, e_X3_goOn_149, e_X3_goOn_150, e_X3_goOn_153, e_X3_goOn_155, e_X3_goOn_156, e_X3_goOn_159, e_X3_goOn_160, e_X3_goOn_161, e_X3_goOn_164, e_X3_goOn_165, e_X3_goOn_168, e_X3_goOn_171, e_X3_goOn_174, e_X3_goOn_176, e_X3_goOn_179, e_X3_goOn_180, e_X3_goOn_183, e_X3_goOn_184, e_X3_goOn_187, e_X3_goOn_190, e_X3_goOn_192, e_X3_goOn_195, e_X3_goOn_196, Option.bind_some, Option.bind_none, Option.toList_some, Option.toList_none, List.cons_append, List.nil_append, I_z, I_i8, I_q8, I_i7, I_q7, I_i6, I_q6, I_i5, I_q5, I_i4, I_q4, I_i3, I_q3, I_i2, I_q2, I_i1, I_q1, I_w8, I_w7, I_w6, I_w5, I_w4, I_w3, I_w2, I_c2n, I_c2i, I_c2q, eq_self, or_true, true_or, and_true, true_and, if_true, if_false, not_false_eq_true, not_true_eq_false, Option.map_none, Option.map_some, reduceCtorEq, isM, gM_0, gM_1, gM_2, gM_3, gM_4, gM_5, gM_6, gM_7, gM_8, gM_9, gM_10, gM_11, gM_12, gM_13, gM_14, gM_15, gM_16, gM_17, gM_18, gM_19, gM_20, lA0, lA1, lA2, lA3, lA4, lA5, lA6, lA7, lA8, lA9, lA10, lA11, lA12, nI_1, nI_add, n12, n16, sI_2, hz16, fS_50, fS_c, h, i01, e10, fp18]
  · simp only [e_X3_goOn_131, e_X3_goOn_132, e_X3_goOn_135, e_X3_goOn_137, e_X3_goOn_138, e_X3_goOn_139, e_X3_goOn_142, e_X3_goOn_143, e_X3_goOn_144, e_X3_goOn_147, e_X3_goOn_148, e_X3_goOn_149, e_X3_goOn_150, e_X3_goOn_153, e_X3_goOn_155, e_X3_goOn_156, e_X3_goOn_159, e_X3_goOn_160, e_X3_goOn_161, e_X3_goOn_164, e_X3_goOn_165, e_X3_goOn_168, e_X3_goOn_171, e_X3_goOn_174, e_X3_goOn_176, e_X3_goOn_179, e_X3_goOn_180, e_X3_goOn_183, e_X3_goOn_184, e_X3_goOn_187, e_X3_goOn_190, e_X3_goOn_192, e_X3_goOn_195, e_X3_goOn_196, Option.bind_some, Option.bind_none, Option.toList_some, Option.toList_none, List.cons_append, List.nil_append, I_z, I_i8, I_q8, I_i7, I_q7, I_i6, I_q6, I_i5, I_q5, I_i4, I_q4, I_i3, I_q3, I_i2, I_q2, I_i1, I_q1, I_w8, I_w7, I_w6, I_w5, I_w4, I_w3, I_w2, I_c2n, I_c2i, I_c2q, eq_self, or_true, true_or, and_true, true_and, if_true, if_false, not_false_eq_true, not_true_eq_false, Option.map_none, Option.map_some, reduceCtorEq, isM, gM_0, gM_1, gM_2, gM_3, gM_4, gM_5, gM_6, gM_7, gM_8, gM_9, gM_10, gM_11, gM_12, gM_13, gM_14, gM_15, gM_16, gM_17, gM_18, gM_19, gM_20, lA0, lA1, lA2, lA3, lA4, lA5, lA6, lA7, lA8, lA9, lA10, lA11, lA12, nI_1, nI_add, n12, n16, sI_2, hz16, fS_50, fS_c, fS_e, h, h2, i01, e10, fp18]
theorem go_spent (hW : WB A) (hK : KD A) (hL : lnkOK A) (hs : Sim S A nu) (hq : q < A.2.1 0 0) (hd : dd < 17) (hp : pa dd = nI p) (hp2 : p < 16 * A.2.1 1 q) (hl : lk A q p = some z) (h : st z = 0) (h2 : en = 1000) : GO X D dd 0 q (fS S pl pa st fo eb c en jd) (-1) (fS S pl pa st fo eb 6 en jd) := by
  intro l4 l5 l6 l7 l8 h4 h5 h6 h7
  obtain ⟨hz, r, e1⟩ := go_131 (X := X) (D := D) (dep := 0) (pl := pl) (st := st) (fo := fo) (eb := eb) (c := c) (en := en) (jd := jd) hW hK hL hs hq hd hp hp2 hl
  have hz16 : z < 16 := by have := hW.1; omega
  rw [e1 l4 l5 l6 l7 l8 h4 h5 h6 h7]
  simp only [e_X3_goOn_131, e_X3_goOn_132, e_X3_goOn_135, e_X3_goOn_137, e_X3_goOn_138, e_X3_goOn_139, e_X3_goOn_142, e_X3_goOn_143, e_X3_goOn_144, e_X3_goOn_147, e_X3_goOn_148, e_X3_goOn_149, e_X3_goOn_150, e_X3_goOn_153, e_X3_goOn_155, e_X3_goOn_156, e_X3_goOn_159, e_X3_goOn_160, e_X3_goOn_161, e_X3_goOn_164, e_X3_goOn_165, e_X3_goOn_168, e_X3_goOn_171, e_X3_goOn_174, e_X3_goOn_176, e_X3_goOn_179, e_X3_goOn_180, e_X3_goOn_183, e_X3_goOn_184, e_X3_goOn_187, e_X3_goOn_190, e_X3_goOn_192, e_X3_goOn_195, e_X3_goOn_196, Option.bind_some, Option.bind_none, Option.toList_some, Option.toList_none, List.cons_append, List.nil_append, I_z, I_i8, I_q8, I_i7, I_q7, I_i6, I_q6, I_i5, I_q5, I_i4, I_q4, I_i3, I_q3, I_i2, I_q2, I_i1, I_q1, I_w8, I_w7, I_w6, I_w5, I_w4, I_w3, I_w2, I_c2n, I_c2i, I_c2q, eq_self, or_true, true_or, and_true, true_and, if_true, if_false, not_false_eq_true, not_true_eq_false, Option.map_none, Option.map_some, reduceCtorEq, isM, gM_0, gM_1, gM_2, gM_3, gM_4, gM_5, gM_6, gM_7, gM_8, gM_9, gM_10, gM_11, gM_12, gM_13, gM_14, gM_15, gM_16, gM_17, gM_18, gM_19, gM_20, lA0, lA1, lA2, lA3, lA4, lA5, lA6, lA7, lA8, lA9, lA10, lA11, lA12, nI_1, nI_add, n12, n16, sI_2, hz16, fS_50, fS_c, fS_e, h, h2, i01, i60, fp18]
theorem go_over (hW : WB A) (hK : KD A) (hL : lnkOK A) (hs : Sim S A nu) (hq : q < A.2.1 0 0) (hd : dd < 17) (hp : pa dd = nI p) (hp2 : p < 16 * A.2.1 1 q) (hl : lk A q p = some z) (h : st z = 2) (hj : ¬ nI z = jd) (h2 : ¬ en + eb z ≤ 1000) : GO X D dd 0 q (fS S pl pa st fo eb c en jd) (-1) (fS S pl pa st fo eb 6 1000 jd) := by
  intro l4 l5 l6 l7 l8 h4 h5 h6 h7
  obtain ⟨hz, r, e1⟩ := go_131 (X := X) (D := D) (dep := 0) (pl := pl) (st := st) (fo := fo) (eb := eb) (c := c) (en := en) (jd := jd) hW hK hL hs hq hd hp hp2 hl
  have hz16 : z < 16 := by have := hW.1; omega
  rw [e1 l4 l5 l6 l7 l8 h4 h5 h6 h7]
  simp only [e_X3_goOn_131, e_X3_goOn_132, e_X3_goOn_135, e_X3_goOn_137, e_X3_goOn_138, e_X3_goOn_139, e_X3_goOn_142, e_X3_goOn_143, e_X3_goOn_144, e_X3_goOn_147, e_X3_goOn_148, e_X3_goOn_149, e_X3_goOn_150, e_X3_goOn_153, e_X3_goOn_155, e_X3_goOn_156, e_X3_goOn_197, e_X3_goOn_198, e_X3_goOn_246, e_X3_goOn_248, e_X3_goOn_249, e_X3_goOn_252, e_X3_goOn_255, e_X3_goOn_256, e_X3_goOn_259, e_X3_goOn_260, e_X3_goOn_263, e_X3_goOn_265, e_X3_goOn_266, e_X3_goOn_268, e_X3_goOn_269, e_X3_goOn_272, e_X3_goOn_274, e_X3_goOn_275, e_X3_goOn_278, e_X3_goOn_281, e_X3_goOn_282, e_X3_goOn_284, e_X3_goOn_287, e_X3_goOn_288, e_X3_goOn_291, e_X3_goOn_294, e_X3_goOn_295, Option.bind_some, Option.bind_none, Option.toList_some, Option.toList_none, List.cons_append, List.nil_append, I_z, I_i8, I_q8, I_i7, I_q7, I_i6, I_q6, I_i5, I_q5, I_i4, I_q4, I_i3, I_q3, I_i2, I_q2, I_i1, I_q1, I_w8, I_w7, I_w6, I_w5, I_w4, I_w3, I_w2, I_c2n, I_c2i, I_c2q, eq_self, or_true, true_or, and_true, true_and, if_true, if_false, not_false_eq_true, not_true_eq_false, Option.map_none, Option.map_some, reduceCtorEq, isM, gM_0, gM_1, gM_2, gM_3, gM_4, gM_5, gM_6, gM_7, gM_8, gM_9, gM_10, gM_11, gM_12, gM_13, gM_14, gM_15, gM_16, gM_17, gM_18, gM_19, gM_20, lA0, lA1, lA2, lA3, lA4, lA5, lA6, lA7, lA8, lA9, lA10, lA11, lA12, nI_1, nI_add, n12, n16, sI_2, hz16, fS_50, fS_52, fS_c, fS_e, fS_j, h, h2, hj, i21, i20, fp18, fp19]
theorem go_done (hW : WB A) (hK : KD A) (hL : lnkOK A) (hs : Sim S A nu) (hq : q < A.2.1 0 0) (hd : dd < 17) (hp : pa dd = nI p) (hp2 : p < 16 * A.2.1 1 q) (hl : lk A q p = some z) (h : st z = 2) (hv : v = if nI z = jd then 0 else eb z) (h2 : en + v ≤ 1000) {T2 : St} (hg : GO X D dd 0 q (fS S pl (upd pa dd (nI (p + 1))) st (upd fo q (fo q + fo z)) eb c (en + v) (-1)) a T2) : GO X D dd 0 q (fS S pl pa st fo eb c en jd) a T2 := by
  intro l4 l5 l6 l7 l8 h4 h5 h6 h7
  obtain ⟨hz, r, e1⟩ := go_131 (X := X) (D := D) (dep := 0) (pl := pl) (st := st) (fo := fo) (eb := eb) (c := c) (en := en) (jd := jd) hW hK hL hs hq hd hp hp2 hl
  have hz16 : z < 16 := by have := hW.1; omega
  have hq16 : q < 16 := by have := hW.1; omega
  have h12 := hW.2.1 q hq16
  rw [e1 l4 l5 l6 l7 l8 h4 h5 h6 h7, ← hg (some (.int (nI (p / 16)))) (some (.int (nI (p % 16)))) (some (.int (nI r))) (some (.int (nI z))) (some (.int v)) I_c2_i I_c2_i I_c2_i I_c2_i]
  by_cases c1 : nI z = jd
  · rw [if_pos c1] at hv
    subst hv
    subst c1
    simp only [e_X3_goOn_131, e_X3_goOn_132, e_X3_goOn_135, e_X3_goOn_137, e_X3_goOn_138, e_X3_goOn_139, e_X3_goOn_142, e_X3_goOn_143, e_X3_goOn_144, e_X3_goOn_147, e_X3_goOn_148, e_X3_goOn_149, e_X3_goOn_150, e_X3_goOn_153, e_X3_goOn_155, e_X3_goOn_156, e_X3_goOn_197, e_X3_goOn_198, e_X3_goOn_246, e_X3_goOn_248, e_X3_goOn_249, e_X3_goOn_252, e_X3_goOn_255, e_X3_goOn_256, e_X3_goOn_259, e_X3_goOn_260, e_X3_goOn_263, e_X3_goOn_265, e_X3_goOn_266, e_X3_goOn_268, e_X3_goOn_269, e_X3_goOn_272, e_X3_goOn_274, e_X3_goOn_275, e_X3_goOn_278, e_X3_goOn_281, e_X3_goOn_282, e_X3_goOn_284, e_X3_goOn_287, e_X3_goOn_288, e_X3_goOn_291, e_X3_goOn_294, e_X3_goOn_295, e_X3_goOn_296, e_X3_goOn_297, e_X3_goOn_297i, e_X3_goOn_298, e_X3_goOn_301, e_X3_goOn_303, e_X3_goOn_304, e_X3_goOn_307, e_X3_goOn_308, e_X3_goOn_311, e_X3_goOn_312, e_X3_goOn_313, e_X3_goOn_314, e_X3_goOn_315, e_X3_goOn_318, e_X3_goOn_320, e_X3_goOn_321, e_X3_goOn_322, e_X3_goOn_323, e_X3_goOn_324, e_X3_goOn_325, e_X3_goOn_328, e_X3_goOn_389, e_X3_goOn_390, e_X3_goOn_393, e_X3_goOn_394, e_X3_goOn_395, e_X3_goOn_396, e_X3_goOn_397, e_X3_goOn_398, e_X3_goOn_399, Option.bind_some, Option.bind_none, Option.toList_some, Option.toList_none, List.cons_append, List.nil_append, I_z, I_i8, I_q8, I_i7, I_q7, I_i6, I_q6, I_i5, I_q5, I_i4, I_q4, I_i3, I_q3, I_i2, I_q2, I_i1, I_q1, I_w8, I_w7, I_w6, I_w5, I_w4, I_w3, I_w2, I_c2n, I_c2i, I_c2q, eq_self, or_true, true_or, and_true, true_and, if_true, if_false, not_false_eq_true, not_true_eq_false, Option.map_none, Option.map_some, reduceCtorEq, isM, gM_0, gM_1, gM_2, gM_3, gM_4, gM_5, gM_6, gM_7, gM_8, gM_9, gM_10, gM_11, gM_12, gM_13, gM_14, gM_15, gM_16, gM_17, gM_18, gM_19, gM_20, lA0, lA1, lA2, lA3, lA4, lA5, lA6, lA7, lA8, lA9, lA10, lA11, lA12, nI_1, nI_add, n12, n16, sI_2, hz16, hq16, hd, hp, fS_49, fS_50, fS_51, fS_52, fS_c, fS_e, fS_j, h, h2, i21, i20, fp18, fp19, fp20, fu11, fu9]
  · rw [if_neg c1] at hv
    subst hv
    simp only [e_X3_goOn_131, e_X3_goOn_132, e_X3_goOn_135, e_X3_goOn_137, e_X3_goOn_138, e_X3_goOn_139, e_X3_goOn_142, e_X3_goOn_143, e_X3_goOn_144, e_X3_goOn_147, e_X3_goOn_148, e_X3_goOn_149, e_X3_goOn_150, e_X3_goOn_153, e_X3_goOn_155, e_X3_goOn_156, e_X3_goOn_197, e_X3_goOn_198, e_X3_goOn_246, e_X3_goOn_248, e_X3_goOn_249, e_X3_goOn_252, e_X3_goOn_255, e_X3_goOn_256, e_X3_goOn_259, e_X3_goOn_260, e_X3_goOn_263, e_X3_goOn_265, e_X3_goOn_266, e_X3_goOn_268, e_X3_goOn_269, e_X3_goOn_272, e_X3_goOn_274, e_X3_goOn_275, e_X3_goOn_278, e_X3_goOn_281, e_X3_goOn_282, e_X3_goOn_284, e_X3_goOn_287, e_X3_goOn_288, e_X3_goOn_291, e_X3_goOn_294, e_X3_goOn_295, e_X3_goOn_296, e_X3_goOn_297, e_X3_goOn_297i, e_X3_goOn_298, e_X3_goOn_301, e_X3_goOn_303, e_X3_goOn_304, e_X3_goOn_307, e_X3_goOn_308, e_X3_goOn_311, e_X3_goOn_312, e_X3_goOn_313, e_X3_goOn_314, e_X3_goOn_315, e_X3_goOn_318, e_X3_goOn_320, e_X3_goOn_321, e_X3_goOn_322, e_X3_goOn_323, e_X3_goOn_324, e_X3_goOn_325, e_X3_goOn_328, e_X3_goOn_389, e_X3_goOn_390, e_X3_goOn_393, e_X3_goOn_394, e_X3_goOn_395, e_X3_goOn_396, e_X3_goOn_397, e_X3_goOn_398, e_X3_goOn_399, Option.bind_some, Option.bind_none, Option.toList_some, Option.toList_none, List.cons_append, List.nil_append, I_z, I_i8, I_q8, I_i7, I_q7, I_i6, I_q6, I_i5, I_q5, I_i4, I_q4, I_i3, I_q3, I_i2, I_q2, I_i1, I_q1, I_w8, I_w7, I_w6, I_w5, I_w4, I_w3, I_w2, I_c2n, I_c2i, I_c2q, eq_self, or_true, true_or, and_true, true_and, if_true, if_false, not_false_eq_true, not_true_eq_false, Option.map_none, Option.map_some, reduceCtorEq, isM, gM_0, gM_1, gM_2, gM_3, gM_4, gM_5, gM_6, gM_7, gM_8, gM_9, gM_10, gM_11, gM_12, gM_13, gM_14, gM_15, gM_16, gM_17, gM_18, gM_19, gM_20, lA0, lA1, lA2, lA3, lA4, lA5, lA6, lA7, lA8, lA9, lA10, lA11, lA12, nI_1, nI_add, n12, n16, sI_2, hz16, hq16, hd, hp, fS_49, fS_50, fS_51, fS_52, fS_c, fS_e, fS_j, h, h2, c1, i21, i20, fp18, fp19, fp20, fu11, fu9]
theorem upd_same {f : Nat → Int32} (h : v = f i) : upd f i v = f := by
  funext q
  unfold upd
  by_cases c : q = i
  · rw [if_pos c, c, h]
  · rw [if_neg c]
theorem go_num (hW : WB A) (hK : KD A) (hs : Sim S A nu) (hq : q < A.2.1 0 0) (hd : dd < 17) (hp : pa dd = nI p) (hp2 : p < 16 * A.2.1 1 q) (g1 : A.2.2.1 q (p / 16) = some r) (hl : lk A q p = none) {T2 : St} (hg : GO X (D + 1) dd 0 q (fS S pl (upd pa dd (nI (p + 1))) st (upd fo q (fo q + nmv A q p)) eb c en jd) a T2) : GO X (D + 1) dd 0 q (fS S pl pa st fo eb c en jd) a T2 := by
  intro l4 l5 l6 l7 l8 h4 h5 h6 h7
  have e1 := go_331 (X := X) (D := D + 1) (dep := 0) (pl := pl) (st := st) (fo := fo) (eb := eb) (c := c) (en := en) (jd := jd) hW hK hs hq hd hp hp2 g1 hl
  have v1 := hs.tv hW hq
  have h12 := v1.2.2.1
  have hst : std A r := ⟨q, p / 16, hq, by omega, g1⟩
  obtain ⟨n1, n2, n3⟩ := v1.2.2.2.2.2 (p / 16) r (by omega) g1
  have n9 : nu r < 900 := by omega
  have k2 : ¬ nI (nu r) < 0 := nI_pos (by omega)
  have hkk := hK q (p / 16) r hq (by omega) g1
  rw [e1 l4 l5 l6 l7 l8 h4 h5 h6 h7, ← hg (some (.int (nI (p / 16)))) (some (.int (nI (p % 16)))) (some (.int (nI (nu r)))) (some (.int (-1000009))) l8 I_c2_i I_c2_i I_c2_i I_c2_i, nmv_some g1]
  by_cases c1 : p % 16 < A.2.1 2 r
  · have k3 : ¬ nI (A.2.1 2 r) ≤ nI (p % 16) := nI_ge (by omega) (by omega)
    by_cases c2 : A.1 1 q = 3
    · rw [if_neg (fun z => z.2 (hkk.trans c2)), Int32.add_zero, upd_same rfl]
      simp only [e_X3_goOn_331, e_X3_goOn_332, e_X3_goOn_335, e_X3_goOn_337, e_X3_goOn_340, e_X3_goOn_342, e_X3_goOn_343, e_X3_goOn_346, e_X3_goOn_348, e_X3_goOn_349, e_X3_goOn_352, e_X3_goOn_353, e_X3_goOn_356, e_X3_goOn_357, e_X3_goOn_358, e_X3_goOn_359, e_X3_goOn_362, e_X3_goOn_363, e_X3_goOn_366, e_X3_goOn_367, e_X3_goOn_368, e_X3_goOn_369, e_X3_goOn_370, e_X3_goOn_371, e_X3_goOn_374, e_X3_goOn_375, e_X3_goOn_376, e_X3_goOn_378, e_X3_goOn_380, e_X3_goOn_381, e_X3_goOn_383, e_X3_goOn_384, e_X3_goOn_387, e_X3_goOn_388, e_X3_goOn_389, e_X3_goOn_390, e_X3_goOn_393, e_X3_goOn_394, e_X3_goOn_395, e_X3_goOn_396, e_X3_goOn_397, e_X3_goOn_398, e_X3_goOn_399, Option.bind_some, Option.bind_none, Option.toList_some, Option.toList_none, List.cons_append, List.nil_append, I_z, I_i8, I_q8, I_i7, I_q7, I_i6, I_q6, I_i5, I_q5, I_i4, I_q4, I_i3, I_q3, I_i2, I_q2, I_i1, I_q1, I_w8, I_w7, I_w6, I_w5, I_w4, I_w3, I_w2, I_c2n, I_c2i, I_c2q, eq_self, or_true, true_or, and_true, true_and, if_true, if_false, not_false_eq_true, not_true_eq_false, Option.map_none, Option.map_some, reduceCtorEq, isM, gM_0, gM_1, gM_2, gM_3, gM_4, gM_5, gM_6, gM_7, gM_8, gM_9, gM_10, gM_11, gM_12, gM_13, gM_14, gM_15, gM_16, gM_17, gM_18, gM_19, gM_20, lA0, lA1, lA2, lA3, lA4, lA5, lA6, lA7, lA8, lA9, lA10, lA11, lA12, nI_1, nI_add, n12, n16, sI_2, v1.1, v1.2.2.2.1, hd, hp, fS_40, fS_43, fS_49, n2, n9, k2, k3, c2, fu9]
    · have c3 : ¬ A.1 5 r = 3 := fun z => c2 (hkk.symm.trans z)
      have k5 : 16 * nu r + p % 16 < 14400 := by omega
      have ht := told_eq (hs.2.2.2.2.2.2.1 r (p % 16) hst c1)
      rw [if_pos ⟨c1, c3⟩]
      by_cases c4 : A.1 1 q = 2
      · rw [if_pos (hkk.trans c4)] at ht
        have e2 := q_toldAt2 (X := X) (d := D) (S := fS S pl pa st fo eb c en jd) k5
        rw [fS_2, ht] at e2
        simp only [e_X3_goOn_331, e_X3_goOn_332, e_X3_goOn_335, e_X3_goOn_337, e_X3_goOn_340, e_X3_goOn_342, e_X3_goOn_343, e_X3_goOn_346, e_X3_goOn_348, e_X3_goOn_349, e_X3_goOn_352, e_X3_goOn_353, e_X3_goOn_356, e_X3_goOn_357, e_X3_goOn_358, e_X3_goOn_359, e_X3_goOn_362, e_X3_goOn_363, e_X3_goOn_366, e_X3_goOn_367, e_X3_goOn_368, e_X3_goOn_369, e_X3_goOn_370, e_X3_goOn_371, e_X3_goOn_374, e_X3_goOn_375, e_X3_goOn_376, e_X3_goOn_378, e_X3_goOn_380, e_X3_goOn_381, e_X3_goOn_383, e_X3_goOn_384, e_X3_goOn_387, e_X3_goOn_388, e_X3_goOn_389, e_X3_goOn_390, e_X3_goOn_393, e_X3_goOn_394, e_X3_goOn_395, e_X3_goOn_396, e_X3_goOn_397, e_X3_goOn_398, e_X3_goOn_399, Option.bind_some, Option.bind_none, Option.toList_some, Option.toList_none, List.cons_append, List.nil_append, I_z, I_i8, I_q8, I_i7, I_q7, I_i6, I_q6, I_i5, I_q5, I_i4, I_q4, I_i3, I_q3, I_i2, I_q2, I_i1, I_q1, I_w8, I_w7, I_w6, I_w5, I_w4, I_w3, I_w2, I_c2n, I_c2i, I_c2q, eq_self, or_true, true_or, and_true, true_and, if_true, if_false, not_false_eq_true, not_true_eq_false, Option.map_none, Option.map_some, reduceCtorEq, isM, gM_0, gM_1, gM_2, gM_3, gM_4, gM_5, gM_6, gM_7, gM_8, gM_9, gM_10, gM_11, gM_12, gM_13, gM_14, gM_15, gM_16, gM_17, gM_18, gM_19, gM_20, lA0, lA1, lA2, lA3, lA4, lA5, lA6, lA7, lA8, lA9, lA10, lA11, lA12, nI_1, nI_add, n12, n16, sI_2, v1.1, v1.2.2.2.1, hd, hp, fS_40, fS_43, fS_49, fS_51, n2, n9, k2, k3, c4, i23, e2, fu9, fu11]
      · rw [if_neg (fun z => c4 (hkk.symm.trans z))] at ht
        have e2 := q_toldAtN (X := X) (d := D) (S := fS S pl pa st fo eb c en jd) k5 c4
        rw [fS_44, ht] at e2
        simp only [e_X3_goOn_331, e_X3_goOn_332, e_X3_goOn_335, e_X3_goOn_337, e_X3_goOn_340, e_X3_goOn_342, e_X3_goOn_343, e_X3_goOn_346, e_X3_goOn_348, e_X3_goOn_349, e_X3_goOn_352, e_X3_goOn_353, e_X3_goOn_356, e_X3_goOn_357, e_X3_goOn_358, e_X3_goOn_359, e_X3_goOn_362, e_X3_goOn_363, e_X3_goOn_366, e_X3_goOn_367, e_X3_goOn_368, e_X3_goOn_369, e_X3_goOn_370, e_X3_goOn_371, e_X3_goOn_374, e_X3_goOn_375, e_X3_goOn_376, e_X3_goOn_378, e_X3_goOn_380, e_X3_goOn_381, e_X3_goOn_383, e_X3_goOn_384, e_X3_goOn_387, e_X3_goOn_388, e_X3_goOn_389, e_X3_goOn_390, e_X3_goOn_393, e_X3_goOn_394, e_X3_goOn_395, e_X3_goOn_396, e_X3_goOn_397, e_X3_goOn_398, e_X3_goOn_399, Option.bind_some, Option.bind_none, Option.toList_some, Option.toList_none, List.cons_append, List.nil_append, I_z, I_i8, I_q8, I_i7, I_q7, I_i6, I_q6, I_i5, I_q5, I_i4, I_q4, I_i3, I_q3, I_i2, I_q2, I_i1, I_q1, I_w8, I_w7, I_w6, I_w5, I_w4, I_w3, I_w2, I_c2n, I_c2i, I_c2q, eq_self, or_true, true_or, and_true, true_and, if_true, if_false, not_false_eq_true, not_true_eq_false, Option.map_none, Option.map_some, reduceCtorEq, isM, gM_0, gM_1, gM_2, gM_3, gM_4, gM_5, gM_6, gM_7, gM_8, gM_9, gM_10, gM_11, gM_12, gM_13, gM_14, gM_15, gM_16, gM_17, gM_18, gM_19, gM_20, lA0, lA1, lA2, lA3, lA4, lA5, lA6, lA7, lA8, lA9, lA10, lA11, lA12, nI_1, nI_add, n12, n16, sI_2, v1.1, v1.2.2.2.1, hd, hp, fS_40, fS_43, fS_49, fS_51, n2, n9, k2, k3, c2, e2, fu9, fu11]
  · have k3 : nI (A.2.1 2 r) ≤ nI (p % 16) := nI_le (by omega) (by omega)
    rw [if_neg (fun z => c1 z.1), Int32.add_zero, upd_same rfl]
    simp only [e_X3_goOn_331, e_X3_goOn_332, e_X3_goOn_335, e_X3_goOn_337, e_X3_goOn_340, e_X3_goOn_342, e_X3_goOn_343, e_X3_goOn_346, e_X3_goOn_348, e_X3_goOn_349, e_X3_goOn_352, e_X3_goOn_353, e_X3_goOn_356, e_X3_goOn_357, e_X3_goOn_358, e_X3_goOn_359, e_X3_goOn_362, e_X3_goOn_363, e_X3_goOn_366, e_X3_goOn_367, e_X3_goOn_368, e_X3_goOn_369, e_X3_goOn_370, e_X3_goOn_371, e_X3_goOn_374, e_X3_goOn_375, e_X3_goOn_376, e_X3_goOn_378, e_X3_goOn_380, e_X3_goOn_381, e_X3_goOn_383, e_X3_goOn_384, e_X3_goOn_387, e_X3_goOn_388, e_X3_goOn_389, e_X3_goOn_390, e_X3_goOn_393, e_X3_goOn_394, e_X3_goOn_395, e_X3_goOn_396, e_X3_goOn_397, e_X3_goOn_398, e_X3_goOn_399, Option.bind_some, Option.bind_none, Option.toList_some, Option.toList_none, List.cons_append, List.nil_append, I_z, I_i8, I_q8, I_i7, I_q7, I_i6, I_q6, I_i5, I_q5, I_i4, I_q4, I_i3, I_q3, I_i2, I_q2, I_i1, I_q1, I_w8, I_w7, I_w6, I_w5, I_w4, I_w3, I_w2, I_c2n, I_c2i, I_c2q, eq_self, or_true, true_or, and_true, true_and, if_true, if_false, not_false_eq_true, not_true_eq_false, Option.map_none, Option.map_some, reduceCtorEq, isM, gM_0, gM_1, gM_2, gM_3, gM_4, gM_5, gM_6, gM_7, gM_8, gM_9, gM_10, gM_11, gM_12, gM_13, gM_14, gM_15, gM_16, gM_17, gM_18, gM_19, gM_20, lA0, lA1, lA2, lA3, lA4, lA5, lA6, lA7, lA8, lA9, lA10, lA11, lA12, nI_1, nI_add, n12, n16, sI_2, v1.1, v1.2.2.2.1, hd, hp, fS_40, fS_43, fS_49, n2, n9, k2, k3, fu9]
theorem go_skip (hW : WB A) (hK : KD A) (hs : Sim S A nu) (hq : q < A.2.1 0 0) (hd : dd < 17) (hp : pa dd = nI p) (hp2 : p < 16 * A.2.1 1 q) (hl : lk A q p = none) {T2 : St} (hg : GO X D dd 1 q (fS S pl (upd pa dd (nI (p + 1))) st fo eb c en jd) a T2) : GO X D dd 1 q (fS S pl pa st fo eb c en jd) a T2 := by
  intro l4 l5 l6 l7 l8 h4 h5 h6 h7
  have v1 := hs.tv hW hq
  have h12 := v1.2.2.1
  cases g1 : A.2.2.1 q (p / 16) with
  | some r =>
    have e1 := go_331 (X := X) (D := D) (dep := 1) (pl := pl) (st := st) (fo := fo) (eb := eb) (c := c) (en := en) (jd := jd) hW hK hs hq hd hp hp2 g1 hl
    rw [e1 l4 l5 l6 l7 l8 h4 h5 h6 h7, ← hg (some (.int (nI (p / 16)))) (some (.int (nI (p % 16)))) (some (.int (nI (nu r)))) (some (.int (-1000009))) l8 I_c2_i I_c2_i I_c2_i I_c2_i]
    simp only [e_X3_goOn_331, e_X3_goOn_332, e_X3_goOn_335, e_X3_goOn_337, e_X3_goOn_340, e_X3_goOn_342, e_X3_goOn_343, e_X3_goOn_346, e_X3_goOn_348, e_X3_goOn_349, e_X3_goOn_352, e_X3_goOn_353, e_X3_goOn_356, e_X3_goOn_357, e_X3_goOn_358, e_X3_goOn_359, e_X3_goOn_362, e_X3_goOn_363, e_X3_goOn_366, e_X3_goOn_367, e_X3_goOn_368, e_X3_goOn_369, e_X3_goOn_370, e_X3_goOn_371, e_X3_goOn_374, e_X3_goOn_375, e_X3_goOn_376, e_X3_goOn_378, e_X3_goOn_380, e_X3_goOn_381, e_X3_goOn_383, e_X3_goOn_384, e_X3_goOn_387, e_X3_goOn_388, e_X3_goOn_389, e_X3_goOn_390, e_X3_goOn_393, e_X3_goOn_394, e_X3_goOn_395, e_X3_goOn_396, e_X3_goOn_397, e_X3_goOn_398, e_X3_goOn_399, Option.bind_some, Option.bind_none, Option.toList_some, Option.toList_none, List.cons_append, List.nil_append, I_z, I_i8, I_q8, I_i7, I_q7, I_i6, I_q6, I_i5, I_q5, I_i4, I_q4, I_i3, I_q3, I_i2, I_q2, I_i1, I_q1, I_w8, I_w7, I_w6, I_w5, I_w4, I_w3, I_w2, I_c2n, I_c2i, I_c2q, eq_self, or_true, true_or, and_true, true_and, if_true, if_false, not_false_eq_true, not_true_eq_false, Option.map_none, Option.map_some, reduceCtorEq, isM, gM_0, gM_1, gM_2, gM_3, gM_4, gM_5, gM_6, gM_7, gM_8, gM_9, gM_10, gM_11, gM_12, gM_13, gM_14, gM_15, gM_16, gM_17, gM_18, gM_19, gM_20, lA0, lA1, lA2, lA3, lA4, lA5, lA6, lA7, lA8, lA9, lA10, lA11, lA12, nI_1, nI_add, n12, n16, sI_2, hd, hp, fS_49, e10, fu9]
  | none =>
    rw [← hg (some (.int (nI (p / 16)))) (some (.int (nI (p % 16)))) (some (.int (-1))) (some (.int (-1000009))) l8 I_c2_i I_c2_i I_c2_i I_c2_i]
    have h1 : ¬ nI (16 * A.2.1 1 q) ≤ nI p := nI_ge (by omega) (by omega)
    obtain ⟨d1, d2⟩ := p16 (p := p) (by omega)
    have hb : 12 * q + p / 16 < 192 := by have := v1.1; omega
    have hq2 := v1.2.2.2.2.1 (p / 16) (by omega)
    rw [g1, plN_n] at hq2
    rw [e_X3_goOn_7]
    simp only [e_X3_goOn_8, e_X3_goOn_11, e_X3_goOn_12, e_X3_goOn_13, e_X3_goOn_15, e_X3_goOn_16, e_X3_goOn_19, e_X3_goOn_20, e_X3_goOn_21, e_X3_goOn_22, e_X3_goOn_25, e_X3_goOn_26, e_X3_goOn_29, e_X3_goOn_30, e_X3_goOn_31, e_X3_goOn_33, e_X3_goOn_34, e_X3_goOn_36, e_X3_goOn_37, e_X3_goOn_40, e_X3_goOn_41, e_X3_goOn_42, e_X3_goOn_44, e_X3_goOn_45, e_X3_goOn_47, e_X3_goOn_48, e_X3_goOn_51, e_X3_goOn_53, e_X3_goOn_54, e_X3_goOn_55, e_X3_goOn_57, e_X3_goOn_58, e_X3_goOn_59, e_X3_goOn_61, e_X3_goOn_63, e_X3_goOn_66, e_X3_goOn_67, e_X3_goOn_70, e_X3_goOn_71, e_X3_goOn_72, e_X3_goOn_75, e_X3_goOn_76, e_X3_goOn_77, e_X3_goOn_79, e_X3_goOn_82, e_X3_goOn_84, e_X3_goOn_85, e_X3_goOn_88, e_X3_goOn_90, e_X3_goOn_91, e_X3_goOn_94, e_X3_goOn_95, e_X3_goOn_98, e_X3_goOn_99, e_X3_goOn_100, e_X3_goOn_101, e_X3_goOn_104, e_X3_goOn_106, e_X3_goOn_109, e_X3_goOn_110, e_X3_goOn_113, e_X3_goOn_115, e_X3_goOn_117, e_X3_goOn_118, e_X3_goOn_120, e_X3_goOn_121, e_X3_goOn_122, e_X3_goOn_124, e_X3_goOn_126, e_X3_goOn_128, e_X3_goOn_331, e_X3_goOn_332, e_X3_goOn_335, e_X3_goOn_337, e_X3_goOn_340, e_X3_goOn_342, e_X3_goOn_343, e_X3_goOn_346, e_X3_goOn_348, e_X3_goOn_349, e_X3_goOn_352, e_X3_goOn_353, e_X3_goOn_356, e_X3_goOn_357, e_X3_goOn_358, e_X3_goOn_359, e_X3_goOn_362, e_X3_goOn_363, e_X3_goOn_366, e_X3_goOn_367, e_X3_goOn_368, e_X3_goOn_369, e_X3_goOn_370, e_X3_goOn_371, e_X3_goOn_374, e_X3_goOn_375, e_X3_goOn_376, e_X3_goOn_378, e_X3_goOn_380, e_X3_goOn_381, e_X3_goOn_383, e_X3_goOn_384, e_X3_goOn_387, e_X3_goOn_388, e_X3_goOn_389, e_X3_goOn_390, e_X3_goOn_393, e_X3_goOn_394, e_X3_goOn_395, e_X3_goOn_396, e_X3_goOn_397, e_X3_goOn_398, e_X3_goOn_399, Option.bind_some, Option.bind_none, Option.toList_some, Option.toList_none, List.cons_append, List.nil_append, I_z, I_i8, I_q8, I_i7, I_q7, I_i6, I_q6, I_i5, I_q5, I_i4, I_q4, I_i3, I_q3, I_i2, I_q2, I_i1, I_q1, I_w8, I_w7, I_w6, I_w5, I_w4, I_w3, I_w2, I_c2n, I_c2i, I_c2q, eq_self, or_true, true_or, and_true, true_and, if_true, if_false, not_false_eq_true, not_true_eq_false, Option.map_none, Option.map_some, reduceCtorEq, isM, gM_0, gM_1, gM_2, gM_3, gM_4, gM_5, gM_6, gM_7, gM_8, gM_9, gM_10, gM_11, gM_12, gM_13, gM_14, gM_15, gM_16, gM_17, gM_18, gM_19, gM_20, lA0, lA1, lA2, lA3, lA4, lA5, lA6, lA7, lA8, lA9, lA10, lA11, lA12, nI_1, nI_add, n12, n16, sI_2, hd, v1.1, v1.2.1, fS_49, fS_41, fS_42, hp, h1, c16, d1, d2, h4, h5, h6, h7, hb, hq2, neg1_lt, neg1_ge, e10, fu9]
theorem go_done1 (hW : WB A) (hK : KD A) (hL : lnkOK A) (hs : Sim S A nu) (hq : q < A.2.1 0 0) (hd : dd < 17) (hp : pa dd = nI p) (hp2 : p < 16 * A.2.1 1 q) (hl : lk A q p = some z) (h : st z = 2) {T2 : St} (hg : GO X D dd 1 q (fS S pl (upd pa dd (nI (p + 1))) st (upd fo q (if 1 + fo z ≤ fo q then fo q else 1 + fo z)) eb c en jd) a T2) : GO X D dd 1 q (fS S pl pa st fo eb c en jd) a T2 := by
  intro l4 l5 l6 l7 l8 h4 h5 h6 h7
  obtain ⟨hz, r, e1⟩ := go_131 (X := X) (D := D) (dep := 1) (pl := pl) (st := st) (fo := fo) (eb := eb) (c := c) (en := en) (jd := jd) hW hK hL hs hq hd hp hp2 hl
  have hz16 : z < 16 := by have := hW.1; omega
  have hq16 : q < 16 := by have := hW.1; omega
  rw [e1 l4 l5 l6 l7 l8 h4 h5 h6 h7, ← hg (some (.int (nI (p / 16)))) (some (.int (nI (p % 16)))) (some (.int (nI r))) (some (.int (nI z))) l8 I_c2_i I_c2_i I_c2_i I_c2_i]
  by_cases c1 : 1 + fo z ≤ fo q
  · simp only [e_X3_goOn_131, e_X3_goOn_132, e_X3_goOn_135, e_X3_goOn_137, e_X3_goOn_138, e_X3_goOn_139, e_X3_goOn_142, e_X3_goOn_143, e_X3_goOn_144, e_X3_goOn_147, e_X3_goOn_148, e_X3_goOn_149, e_X3_goOn_150, e_X3_goOn_153, e_X3_goOn_155, e_X3_goOn_156, e_X3_goOn_197, e_X3_goOn_198, e_X3_goOn_201, e_X3_goOn_202, e_X3_goOn_205, e_X3_goOn_206, e_X3_goOn_207, e_X3_goOn_208, e_X3_goOn_211, e_X3_goOn_213, e_X3_goOn_214, e_X3_goOn_215, e_X3_goOn_216, e_X3_goOn_219, e_X3_goOn_220, e_X3_goOn_221, e_X3_goOn_224, e_X3_goOn_225, e_X3_goOn_226, e_X3_goOn_229, e_X3_goOn_231, e_X3_goOn_232, e_X3_goOn_233, e_X3_goOn_236, e_X3_goOn_237, e_X3_goOn_240, e_X3_goOn_241, e_X3_goOn_242, e_X3_goOn_243, e_X3_goOn_389, e_X3_goOn_390, e_X3_goOn_393, e_X3_goOn_394, e_X3_goOn_395, e_X3_goOn_396, e_X3_goOn_397, e_X3_goOn_398, e_X3_goOn_399, Option.bind_some, Option.bind_none, Option.toList_some, Option.toList_none, List.cons_append, List.nil_append, I_z, I_i8, I_q8, I_i7, I_q7, I_i6, I_q6, I_i5, I_q5, I_i4, I_q4, I_i3, I_q3, I_i2, I_q2, I_i1, I_q1, I_w8, I_w7, I_w6, I_w5, I_w4, I_w3, I_w2, I_c2n, I_c2i, I_c2q, eq_self, or_true, true_or, and_true, true_and, if_true, if_false, not_false_eq_true, not_true_eq_false, Option.map_none, Option.map_some, reduceCtorEq, isM, gM_0, gM_1, gM_2, gM_3, gM_4, gM_5, gM_6, gM_7, gM_8, gM_9, gM_10, gM_11, gM_12, gM_13, gM_14, gM_15, gM_16, gM_17, gM_18, gM_19, gM_20, lA0, lA1, lA2, lA3, lA4, lA5, lA6, lA7, lA8, lA9, lA10, lA11, lA12, nI_1, nI_add, n12, n16, sI_2, hz16, hq16, hd, hp, fS_49, fS_50, fS_51, h, c1, i21, i20, e10, fu11, fu9]
  · simp only [e_X3_goOn_131, e_X3_goOn_132, e_X3_goOn_135, e_X3_goOn_137, e_X3_goOn_138, e_X3_goOn_139, e_X3_goOn_142, e_X3_goOn_143, e_X3_goOn_144, e_X3_goOn_147, e_X3_goOn_148, e_X3_goOn_149, e_X3_goOn_150, e_X3_goOn_153, e_X3_goOn_155, e_X3_goOn_156, e_X3_goOn_197, e_X3_goOn_198, e_X3_goOn_201, e_X3_goOn_202, e_X3_goOn_205, e_X3_goOn_206, e_X3_goOn_207, e_X3_goOn_208, e_X3_goOn_211, e_X3_goOn_213, e_X3_goOn_214, e_X3_goOn_215, e_X3_goOn_216, e_X3_goOn_219, e_X3_goOn_220, e_X3_goOn_221, e_X3_goOn_224, e_X3_goOn_225, e_X3_goOn_226, e_X3_goOn_229, e_X3_goOn_231, e_X3_goOn_232, e_X3_goOn_233, e_X3_goOn_236, e_X3_goOn_237, e_X3_goOn_240, e_X3_goOn_241, e_X3_goOn_242, e_X3_goOn_243, e_X3_goOn_389, e_X3_goOn_390, e_X3_goOn_393, e_X3_goOn_394, e_X3_goOn_395, e_X3_goOn_396, e_X3_goOn_397, e_X3_goOn_398, e_X3_goOn_399, Option.bind_some, Option.bind_none, Option.toList_some, Option.toList_none, List.cons_append, List.nil_append, I_z, I_i8, I_q8, I_i7, I_q7, I_i6, I_q6, I_i5, I_q5, I_i4, I_q4, I_i3, I_q3, I_i2, I_q2, I_i1, I_q1, I_w8, I_w7, I_w6, I_w5, I_w4, I_w3, I_w2, I_c2n, I_c2i, I_c2q, eq_self, or_true, true_or, and_true, true_and, if_true, if_false, not_false_eq_true, not_true_eq_false, Option.map_none, Option.map_some, reduceCtorEq, isM, gM_0, gM_1, gM_2, gM_3, gM_4, gM_5, gM_6, gM_7, gM_8, gM_9, gM_10, gM_11, gM_12, gM_13, gM_14, gM_15, gM_16, gM_17, gM_18, gM_19, gM_20, lA0, lA1, lA2, lA3, lA4, lA5, lA6, lA7, lA8, lA9, lA10, lA11, lA12, nI_1, nI_add, n12, n16, sI_2, hz16, hq16, hd, hp, fS_49, fS_50, fS_51, h, c1, i21, i20, e10, fu11, fu9]
theorem q_enter (hd : dd < 17) (hz : z < 16) (hv : v = if dep = 0 then 0 else if S.1 40 z = 3 then 1 else 0) : ev X D m_X3_enter 0 [some (va_rf (some (aM X))), some (.int (nI dd)), some (.int (nI z)), some (.int dep)] [] (rp X (fS S pl pa st fo eb c en jd)) = some (none, rp X (fS S (upd pl dd (nI z)) (upd pa dd 0) (upd st z 1) (upd fo z v) (upd eb z (en + 1 - 1)) c (en + 1) jd)) := by
  by_cases c1 : dep = 0
  · rw [if_pos c1] at hv
    subst hv
    simp only [e_X3_enter_0, e_X3_enter_1, e_X3_enter_4, e_X3_enter_5, e_X3_enter_6, e_X3_enter_7, e_X3_enter_8, e_X3_enter_11, e_X3_enter_12, e_X3_enter_13, e_X3_enter_14, e_X3_enter_15, e_X3_enter_18, e_X3_enter_19, e_X3_enter_20, e_X3_enter_21, e_X3_enter_22, e_X3_enter_25, e_X3_enter_26, e_X3_enter_27, e_X3_enter_30, e_X3_enter_31, e_X3_enter_34, e_X3_enter_35, e_X3_enter_36, e_X3_enter_37, e_X3_enter_40, e_X3_enter_41, e_X3_enter_44, e_X3_enter_45, e_X3_enter_46, e_X3_enter_47, e_X3_enter_47i, e_X3_enter_48, e_X3_enter_51, e_X3_enter_52, e_X3_enter_53, e_X3_enter_56, e_X3_enter_57, e_X3_enter_60, e_X3_enter_61, e_X3_enter_62, e_X3_enter_65, e_X3_enter_66, e_X3_enter_67, e_X3_enter_68, Option.bind_some, Option.bind_none, Option.toList_some, Option.toList_none, List.cons_append, List.nil_append, I_z, I_i8, I_q8, I_i7, I_q7, I_i6, I_q6, I_i5, I_q5, I_i4, I_q4, I_i3, I_q3, I_i2, I_q2, I_i1, I_q1, I_w8, I_w7, I_w6, I_w5, I_w4, I_w3, I_w2, I_c2n, I_c2i, I_c2q, eq_self, or_true, true_or, and_true, true_and, if_true, if_false, not_false_eq_true, not_true_eq_false, Option.map_none, Option.map_some, reduceCtorEq, isM, gM_0, gM_1, gM_2, gM_3, gM_4, gM_5, gM_6, gM_7, gM_8, gM_9, gM_10, gM_11, gM_12, gM_13, gM_14, gM_15, gM_16, gM_17, gM_18, gM_19, gM_20, lA0, lA1, lA2, lA3, lA4, lA5, lA6, lA7, lA8, lA9, lA10, lA11, lA12, nI_1, nI_add, n12, n16, sI_2, hd, hz, c1, fS_e, fu8, fu9, fu10, fu11, fu12, fp19]
  · rw [if_neg c1] at hv
    by_cases c2 : S.1 40 z = 3
    · rw [if_pos c2] at hv
      subst hv
      simp only [e_X3_enter_0, e_X3_enter_1, e_X3_enter_4, e_X3_enter_5, e_X3_enter_6, e_X3_enter_7, e_X3_enter_8, e_X3_enter_11, e_X3_enter_12, e_X3_enter_13, e_X3_enter_14, e_X3_enter_15, e_X3_enter_18, e_X3_enter_19, e_X3_enter_20, e_X3_enter_21, e_X3_enter_22, e_X3_enter_25, e_X3_enter_26, e_X3_enter_27, e_X3_enter_30, e_X3_enter_31, e_X3_enter_34, e_X3_enter_35, e_X3_enter_36, e_X3_enter_37, e_X3_enter_40, e_X3_enter_41, e_X3_enter_44, e_X3_enter_45, e_X3_enter_46, e_X3_enter_47, e_X3_enter_47i, e_X3_enter_48, e_X3_enter_51, e_X3_enter_52, e_X3_enter_53, e_X3_enter_56, e_X3_enter_57, e_X3_enter_60, e_X3_enter_61, e_X3_enter_62, e_X3_enter_65, e_X3_enter_66, e_X3_enter_67, e_X3_enter_68, Option.bind_some, Option.bind_none, Option.toList_some, Option.toList_none, List.cons_append, List.nil_append, I_z, I_i8, I_q8, I_i7, I_q7, I_i6, I_q6, I_i5, I_q5, I_i4, I_q4, I_i3, I_q3, I_i2, I_q2, I_i1, I_q1, I_w8, I_w7, I_w6, I_w5, I_w4, I_w3, I_w2, I_c2n, I_c2i, I_c2q, eq_self, or_true, true_or, and_true, true_and, if_true, if_false, not_false_eq_true, not_true_eq_false, Option.map_none, Option.map_some, reduceCtorEq, isM, gM_0, gM_1, gM_2, gM_3, gM_4, gM_5, gM_6, gM_7, gM_8, gM_9, gM_10, gM_11, gM_12, gM_13, gM_14, gM_15, gM_16, gM_17, gM_18, gM_19, gM_20, lA0, lA1, lA2, lA3, lA4, lA5, lA6, lA7, lA8, lA9, lA10, lA11, lA12, nI_1, nI_add, n12, n16, sI_2, hd, hz, c1, c2, fS_40, fS_e, fu8, fu9, fu10, fu11, fu12, fp19]
    · rw [if_neg c2] at hv
      subst hv
      simp only [e_X3_enter_0, e_X3_enter_1, e_X3_enter_4, e_X3_enter_5, e_X3_enter_6, e_X3_enter_7, e_X3_enter_8, e_X3_enter_11, e_X3_enter_12, e_X3_enter_13, e_X3_enter_14, e_X3_enter_15, e_X3_enter_18, e_X3_enter_19, e_X3_enter_20, e_X3_enter_21, e_X3_enter_22, e_X3_enter_25, e_X3_enter_26, e_X3_enter_27, e_X3_enter_30, e_X3_enter_31, e_X3_enter_34, e_X3_enter_35, e_X3_enter_36, e_X3_enter_37, e_X3_enter_40, e_X3_enter_41, e_X3_enter_44, e_X3_enter_45, e_X3_enter_46, e_X3_enter_47, e_X3_enter_47i, e_X3_enter_48, e_X3_enter_51, e_X3_enter_52, e_X3_enter_53, e_X3_enter_56, e_X3_enter_57, e_X3_enter_60, e_X3_enter_61, e_X3_enter_62, e_X3_enter_65, e_X3_enter_66, e_X3_enter_67, e_X3_enter_68, Option.bind_some, Option.bind_none, Option.toList_some, Option.toList_none, List.cons_append, List.nil_append, I_z, I_i8, I_q8, I_i7, I_q7, I_i6, I_q6, I_i5, I_q5, I_i4, I_q4, I_i3, I_q3, I_i2, I_q2, I_i1, I_q1, I_w8, I_w7, I_w6, I_w5, I_w4, I_w3, I_w2, I_c2n, I_c2i, I_c2q, eq_self, or_true, true_or, and_true, true_and, if_true, if_false, not_false_eq_true, not_true_eq_false, Option.map_none, Option.map_some, reduceCtorEq, isM, gM_0, gM_1, gM_2, gM_3, gM_4, gM_5, gM_6, gM_7, gM_8, gM_9, gM_10, gM_11, gM_12, gM_13, gM_14, gM_15, gM_16, gM_17, gM_18, gM_19, gM_20, lA0, lA1, lA2, lA3, lA4, lA5, lA6, lA7, lA8, lA9, lA10, lA11, lA12, nI_1, nI_add, n12, n16, sI_2, hd, hz, c1, c2, fS_40, fS_e, fu8, fu9, fu10, fu11, fu12, fp19]
/-- find at its head, level dd in hand -/
def FR (X : I_X) (D : Nat) (t dd : Nat) (dep : Int32) (T : St) (R : Option I_R) : Prop := ∀ l4 : Option Value, ev X (D + 1) m_X3_find 45 [some (va_rf (some (aM X))), some (.int (nI t)), some (.int dep), some (.int (nI dd)), l4] [] (rp X T) = R
theorem goOn_0 (hd : dd < 17) (hq : pl dd = nI q) {T2 : St} (hg : GO X D dd dep q (fS S pl pa st fo eb c en jd) a T2) : ev X D m_X3_goOn 0 [some (va_rf (some (aM X))), some (.int (nI dd)), some (.int dep), none, none, none, none, none, none] [] (rp X (fS S pl pa st fo eb c en jd)) = some (some (.int a), rp X T2) := by
  rw [← hg none none none none none I_c2_n I_c2_n I_c2_n I_c2_n]
  simp only [e_X3_goOn_0, e_X3_goOn_1, e_X3_goOn_4, e_X3_goOn_5, e_X3_goOn_6, Option.bind_some, Option.bind_none, Option.toList_some, Option.toList_none, List.cons_append, List.nil_append, I_z, I_i8, I_q8, I_i7, I_q7, I_i6, I_q6, I_i5, I_q5, I_i4, I_q4, I_i3, I_q3, I_i2, I_q2, I_i1, I_q1, I_w8, I_w7, I_w6, I_w5, I_w4, I_w3, I_w2, I_c2n, I_c2i, I_c2q, eq_self, or_true, true_or, and_true, true_and, if_true, if_false, not_false_eq_true, not_true_eq_false, Option.map_none, Option.map_some, reduceCtorEq, isM, gM_0, gM_1, gM_2, gM_3, gM_4, gM_5, gM_6, gM_7, gM_8, gM_9, gM_10, gM_11, gM_12, gM_13, gM_14, gM_15, gM_16, gM_17, gM_18, gM_19, gM_20, lA0, lA1, lA2, lA3, lA4, lA5, lA6, lA7, lA8, lA9, lA10, lA11, lA12, nI_1, nI_add, n12, n16, sI_2, hd, fS_48, hq]
/-- the same, by what goOn answers -/
def FG (X : I_X) (D : Nat) (t dd : Nat) (dep : Int32) (q : Nat) (T : St) (R : Option I_R) : Prop := ∃ a T2, GO X D dd dep q T a T2 ∧ ev X (D + 1) m_X3_find 64 [some (va_rf (some (aM X))), some (.int (nI t)), some (.int dep), some (.int (nI dd)), some (.int a)] [] (rp X T2) = R
theorem fg_fr (hd : dd < 17) (hq : pl dd = nI q) {R : Option I_R} (h : FG X D t dd dep q (fS S pl pa st fo eb 0 en jd) R) : FR X D t dd dep (fS S pl pa st fo eb 0 en jd) R := by
  obtain ⟨a, T2, hg, h⟩ := h
  intro l4
  have h1 : ¬ nI dd < 0 := nI_pos (by omega)
  rw [← h, e_X3_find_45]
  simp only [e_X3_find_46, e_X3_find_49, e_X3_find_50, e_X3_find_53, e_X3_find_56, e_X3_find_57, e_X3_find_58, e_X3_find_59, e_X3_find_62, Option.bind_some, Option.bind_none, Option.toList_some, Option.toList_none, List.cons_append, List.nil_append, I_z, I_i8, I_q8, I_i7, I_q7, I_i6, I_q6, I_i5, I_q5, I_i4, I_q4, I_i3, I_q3, I_i2, I_q2, I_i1, I_q1, I_w8, I_w7, I_w6, I_w5, I_w4, I_w3, I_w2, I_c2n, I_c2i, I_c2q, eq_self, or_true, true_or, and_true, true_and, if_true, if_false, not_false_eq_true, not_true_eq_false, Option.map_none, Option.map_some, reduceCtorEq, isM, gM_0, gM_1, gM_2, gM_3, gM_4, gM_5, gM_6, gM_7, gM_8, gM_9, gM_10, gM_11, gM_12, gM_13, gM_14, gM_15, gM_16, gM_17, gM_18, gM_19, gM_20, lA0, lA1, lA2, lA3, lA4, lA5, lA6, lA7, lA8, lA9, lA10, lA11, lA12, nI_1, nI_add, n12, n16, sI_2, h1, fS_c, goOn_0 hd hq hg]
theorem fg_step {T T1 : St} {R : Option I_R} (h : ∀ a T2, GO X D dd dep q T1 a T2 → GO X D dd dep q T a T2) (h2 : FG X D t dd dep q T1 R) : FG X D t dd dep q T R := by
  obtain ⟨a, T2, hg, h3⟩ := h2
  exact ⟨a, T2, h a T2 hg, h3⟩
/-- goOn ended with a cause -/
theorem fr_cause (hd : dd < 17) (hq : pl dd = nI q) {pl2 pa2 st2 fo2 eb2 : Nat → Int32} {c2 en2 jd2 : Int32} (hc : ¬ c2 = 0) (hg : GO X D dd dep q (fS S pl pa st fo eb 0 en jd) (-1) (fS S pl2 pa2 st2 fo2 eb2 c2 en2 jd2)) : FG X D t dd dep q (fS S pl pa st fo eb 0 en jd) (ev X (D + 1) m_X3_find 139 [some (va_rf (some (aM X))), some (.int (nI t)), some (.int dep), some (.int (nI dd)), some (.int (-1))] [] (rp X (fS S pl2 pa2 st2 fo2 eb2 c2 en2 jd2))) := by
  refine ⟨_, _, hg, ?_⟩
  have h1 : ¬ nI dd < 0 := nI_pos (by omega)
  have h2 : (-1 : Int32) < 0 := by decide
  simp only [e_X3_find_64, e_X3_find_66, e_X3_find_69, e_X3_find_72, e_X3_find_73, e_X3_find_74, e_X3_find_76, e_X3_find_77, e_X3_find_80, e_X3_find_83, e_X3_find_84, e_X3_find_87, e_X3_find_136, Option.bind_some, Option.bind_none, Option.toList_some, Option.toList_none, List.cons_append, List.nil_append, I_z, I_i8, I_q8, I_i7, I_q7, I_i6, I_q6, I_i5, I_q5, I_i4, I_q4, I_i3, I_q3, I_i2, I_q2, I_i1, I_q1, I_w8, I_w7, I_w6, I_w5, I_w4, I_w3, I_w2, I_c2n, I_c2i, I_c2q, eq_self, or_true, true_or, and_true, true_and, if_true, if_false, not_false_eq_true, not_true_eq_false, Option.map_none, Option.map_some, reduceCtorEq, isM, gM_0, gM_1, gM_2, gM_3, gM_4, gM_5, gM_6, gM_7, gM_8, gM_9, gM_10, gM_11, gM_12, gM_13, gM_14, gM_15, gM_16, gM_17, gM_18, gM_19, gM_20, lA0, lA1, lA2, lA3, lA4, lA5, lA6, lA7, lA8, lA9, lA10, lA11, lA12, nI_1, nI_add, n12, n16, sI_2, h2, fS_c, hc]
  rw [e_X3_find_45]
  simp only [e_X3_find_46, e_X3_find_49, e_X3_find_50, e_X3_find_53, e_X3_find_56, e_X3_find_57, e_X3_find_58, Option.bind_some, Option.bind_none, Option.toList_some, Option.toList_none, List.cons_append, List.nil_append, I_z, I_i8, I_q8, I_i7, I_q7, I_i6, I_q6, I_i5, I_q5, I_i4, I_q4, I_i3, I_q3, I_i2, I_q2, I_i1, I_q1, I_w8, I_w7, I_w6, I_w5, I_w4, I_w3, I_w2, I_c2n, I_c2i, I_c2q, eq_self, or_true, true_or, and_true, true_and, if_true, if_false, not_false_eq_true, not_true_eq_false, Option.map_none, Option.map_some, reduceCtorEq, isM, gM_0, gM_1, gM_2, gM_3, gM_4, gM_5, gM_6, gM_7, gM_8, gM_9, gM_10, gM_11, gM_12, gM_13, gM_14, gM_15, gM_16, gM_17, gM_18, gM_19, gM_20, lA0, lA1, lA2, lA3, lA4, lA5, lA6, lA7, lA8, lA9, lA10, lA11, lA12, nI_1, nI_add, n12, n16, sI_2, h1, fS_c, hc]
/-- goOn came to the end -/
theorem fr_end (hd : dd < 17) (hq : pl dd = nI q) (hq16 : q < 16) {pa2 fo2 : Nat → Int32} {en2 jd2 : Int32} (hg : GO X D dd dep q (fS S pl pa st fo eb 0 en jd) (-1) (fS S pl pa2 st fo2 eb 0 en2 jd2)) : FG X D t dd dep q (fS S pl pa st fo eb 0 en jd) (ev X (D + 1) m_X3_find 45 [some (va_rf (some (aM X))), some (.int (nI t)), some (.int dep), some (.int (nI dd + -1)), some (.int (-1))] [] (rp X (fS S pl pa2 (upd st q 2) fo2 (upd eb q (en2 - eb q)) 0 en2 (nI q)))) := by
  refine ⟨_, _, hg, ?_⟩
  have h2 : (-1 : Int32) < 0 := by decide
  simp only [e_X3_find_64, e_X3_find_66, e_X3_find_69, e_X3_find_72, e_X3_find_73, e_X3_find_74, e_X3_find_76, e_X3_find_77, e_X3_find_80, e_X3_find_83, e_X3_find_84, e_X3_find_87, e_X3_find_90, e_X3_find_91, e_X3_find_92, e_X3_find_95, e_X3_find_96, e_X3_find_97, e_X3_find_100, e_X3_find_101, e_X3_find_104, e_X3_find_105, e_X3_find_108, e_X3_find_109, e_X3_find_110, e_X3_find_111, e_X3_find_114, e_X3_find_115, e_X3_find_118, e_X3_find_119, e_X3_find_122, e_X3_find_123, e_X3_find_126, e_X3_find_127, e_X3_find_130, e_X3_find_131, e_X3_find_132, e_X3_find_133, e_X3_find_136, Option.bind_some, Option.bind_none, Option.toList_some, Option.toList_none, List.cons_append, List.nil_append, I_z, I_i8, I_q8, I_i7, I_q7, I_i6, I_q6, I_i5, I_q5, I_i4, I_q4, I_i3, I_q3, I_i2, I_q2, I_i1, I_q1, I_w8, I_w7, I_w6, I_w5, I_w4, I_w3, I_w2, I_c2n, I_c2i, I_c2q, eq_self, or_true, true_or, and_true, true_and, if_true, if_false, not_false_eq_true, not_true_eq_false, Option.map_none, Option.map_some, reduceCtorEq, isM, gM_0, gM_1, gM_2, gM_3, gM_4, gM_5, gM_6, gM_7, gM_8, gM_9, gM_10, gM_11, gM_12, gM_13, gM_14, gM_15, gM_16, gM_17, gM_18, gM_19, gM_20, lA0, lA1, lA2, lA3, lA4, lA5, lA6, lA7, lA8, lA9, lA10, lA11, lA12, nI_1, nI_add, n12, n16, sI_2, h2, hd, hq, hq16, fS_c, fS_e, fS_j, fS_48, fS_52, fp20, fu10, fu12]
/-- goOn wants to enter z -/
theorem fr_new (hd : dd < 16) (hq : pl dd = nI q) (hz : z < 16) {pa2 fo2 : Nat → Int32} {en2 jd2 : Int32} (hv : v = if dep = 0 then 0 else if S.1 40 z = 3 then 1 else 0) (hg : GO X D dd dep q (fS S pl pa st fo eb 0 en jd) (nI z) (fS S pl pa2 st fo2 eb 0 en2 jd2)) {R : Option I_R} (h : FR X D t (dd + 1) dep (fS S (upd pl (dd + 1) (nI z)) (upd pa2 (dd + 1) 0) (upd st z 1) (upd fo2 z v) (upd eb z (en2 + 1 - 1)) 0 (en2 + 1) jd2) R) : FG X D t dd dep q (fS S pl pa st fo eb 0 en jd) R := by
  refine ⟨_, _, hg, ?_⟩
  have h1 : ¬ nI z < 0 := nI_pos (by omega)
  rw [← h (some (.int (nI z)))]
  have he := q_enter (X := X) (D := D) (S := S) (pl := pl) (pa := pa2) (st := st) (fo := fo2) (eb := eb) (c := 0) (en := en2) (jd := jd2) (show dd + 1 < 17 by omega) hz hv
  simp only [e_X3_find_64, e_X3_find_66, e_X3_find_69, e_X3_find_72, e_X3_find_73, e_X3_find_74, e_X3_find_76, e_X3_find_77, e_X3_find_80, e_X3_find_136, Option.bind_some, Option.bind_none, Option.toList_some, Option.toList_none, List.cons_append, List.nil_append, I_z, I_i8, I_q8, I_i7, I_q7, I_i6, I_q6, I_i5, I_q5, I_i4, I_q4, I_i3, I_q3, I_i2, I_q2, I_i1, I_q1, I_w8, I_w7, I_w6, I_w5, I_w4, I_w3, I_w2, I_c2n, I_c2i, I_c2q, eq_self, or_true, true_or, and_true, true_and, if_true, if_false, not_false_eq_true, not_true_eq_false, Option.map_none, Option.map_some, reduceCtorEq, isM, gM_0, gM_1, gM_2, gM_3, gM_4, gM_5, gM_6, gM_7, gM_8, gM_9, gM_10, gM_11, gM_12, gM_13, gM_14, gM_15, gM_16, gM_17, gM_18, gM_19, gM_20, lA0, lA1, lA2, lA3, lA4, lA5, lA6, lA7, lA8, lA9, lA10, lA11, lA12, nI_1, nI_add, n12, n16, sI_2, h1, he]
end FI
