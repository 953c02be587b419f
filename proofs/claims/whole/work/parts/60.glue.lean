/-! Both sides, a call at a time. -/
/-- what stands of the landed code after n calls -/
def Cls (A : St) (n : Nat) : Prop := WB A ∧ KD A ∧ lnkOK A ∧ (∀ t, t < A.2.1 0 0 → ¬ A.1 1 t < 0 ∧ ¬ 3 < A.1 1 t) ∧ (∀ r j, std A r → A.1 5 r = 0 → j < A.2.1 2 r → A.1 (100 + r) j = 0 ∨ A.1 (100 + r) j = 1) ∧ (∀ t, t < 16 → A.1 3 t = 0) ∧ (∃ c, c ≤ n ∧ A.1 0 9 = nI c ∧ ∀ r, std A r → ∃ c2, c2 ≤ c ∧ A.1 6 r = nI c2) ∧ A.2.1 0 1 ≤ 12 * n ∧ A.2.1 0 2 ≤ 100000 + 500 * n
/-- what stands of both after n calls -/
def GS (S : St) (n : Nat) : Prop := Cls S n ∧ ∃ nu, Sim S S nu
/-- a call of each: the same answer, and both stand -/
def StI (X : I_X) (S : St) (n mc : Nat) (Lc : I_L) (mm : Nat) (Lm : I_L) : Prop := ∃ v S1 S2, ev X 199 mc 0 Lc [] (rp X S) = some (some (.int v), rp X S1) ∧ ev X 199 mm 0 Lm [] (rp X S1) = some (some (.int v), rp X S2) ∧ GS S2 (n + 1)
section GL
variable {X : I_X} {S S1 S2 A A2 : St} {nu : Nat → Nat} {d t t2 r r2 i j n m g w mc mm : Nat} {a b c e v x y z k : Int32} {Lc Lm : I_L}
theorem Cls.mono (h : Cls A n) : Cls A (n + 1) := by
  obtain ⟨h1, h2, h3, h4, h5, h6, ⟨c, hc, h7⟩, h8, h9⟩ := h
  exact ⟨h1, h2, h3, h4, h5, h6, ⟨c, by omega, h7⟩, by omega, by omega⟩
theorem GS.mono (h : GS S n) : GS S (n + 1) := ⟨h.1.mono, h.2⟩
theorem Sim_congr (hm : mEq S2 S) (hc : cEq A2 A) (h : Sim S A nu) : Sim S2 A2 nu := by
  have e20 := hm.1 20 (by omega) (by omega)
  have e40 := hm.1 40 (by omega) (by omega)
  have e41 := hm.1 41 (by omega) (by omega)
  have e42 := hm.1 42 (by omega) (by omega)
  have e43 := hm.1 43 (by omega) (by omega)
  have e44 := hm.1 44 (by omega) (by omega)
  have e47 := hm.1 47 (by omega) (by omega)
  have c0 := hc.1 0 (by omega)
  have c1 := hc.1 1 (by omega)
  have c2 := hc.1 2 (by omega)
  have c5 := hc.1 5 (by omega)
  have cr : ∀ r, A2.1 (100 + r) = A.1 (100 + r) := fun r => hc.1 (100 + r) (by omega)
  unfold Sim std celR at h ⊢
  simp only [e20, e40, e41, e42, e43, e44, e47, c0, c1, c2, c5, cr, hm.2, hc.2.1, hc.2.2.1, hc.2.2.2]
  exact h
theorem Cls_congr (hc : cEq A2 A) (h : Cls A n) : Cls A2 n := by
  have c0 := hc.1 0 (by omega)
  have c1 := hc.1 1 (by omega)
  have c3 := hc.1 3 (by omega)
  have c5 := hc.1 5 (by omega)
  have c6 := hc.1 6 (by omega)
  have cr : ∀ r, A2.1 (100 + r) = A.1 (100 + r) := fun r => hc.1 (100 + r) (by omega)
  unfold Cls WB KD lnkOK std at h ⊢
  simp only [c0, c1, c3, c5, c6, cr, hc.2.1, hc.2.2.1]
  exact h
/-- only marks and counts changed -/
theorem GS_marks (h : GS S n) (hN : S2.2 = S.2) (hI : ∀ g, g = 1 ∨ g = 5 ∨ (40 ≤ g ∧ g < 45) ∨ 100 ≤ g → S2.1 g = S.1 g) (h3 : ∀ t, t < 16 → S2.1 3 t = 0) (h200 : S2.1 20 0 = S.1 20 0) (h204 : S2.1 20 4 = S.1 20 4) (h8 : S2.1 20 8 = S2.1 0 2) (h12 : S2.1 20 12 = S2.1 0 6) (hw : ∃ w, w ≤ 6 ∧ S2.1 0 4 = nI w ∧ S2.1 20 10 = nI w ∧ ∀ i, i < w → S2.1 47 i = S2.1 2 i) (hcn : ∃ c, c ≤ n + 1 ∧ S2.1 0 9 = nI c ∧ ∀ r, std S r → ∃ c2, c2 ≤ c ∧ S2.1 6 r = nI c2) : GS S2 (n + 1) := by
  obtain ⟨⟨k1, k2, k3, k4, k5, k6, k7, k8, k9⟩, nu, hs⟩ := h
  have e1 := hI 1 (by omega)
  have e5 := hI 5 (by omega)
  have e40 := hI 40 (by omega)
  have e41 := hI 41 (by omega)
  have e42 := hI 42 (by omega)
  have e43 := hI 43 (by omega)
  have e44 := hI 44 (by omega)
  have er : ∀ r, S2.1 (100 + r) = S.1 (100 + r) := fun r => hI (100 + r) (by omega)
  obtain ⟨s0, s1, s2, s3, s4, s5, s6, s7, s8, s9⟩ := hs
  refine ⟨⟨?_, ?_, ?_, ?_, ?_, h3, ?_, ?_, ?_⟩, nu, ?_, ?_, ?_, ?_, ?_, ?_, ?_, h8, h12, hw⟩
  · unfold WB at k1 ⊢; simp only [hN, e5]; exact k1
  · unfold KD at k2 ⊢; simp only [hN, e5, e1]; exact k2
  · unfold lnkOK std at k3 ⊢; simp only [hN, e5, er]; exact k3
  · simp only [hN, e1]; exact k4
  · unfold std at k5 ⊢; simp only [hN, e5, er]; exact k5
  · unfold std at hcn ⊢; simp only [hN]; exact hcn
  · rw [hN]; omega
  · rw [hN]; omega
  · rw [h200, hN]; exact s0
  · simp only [hN, e40, e41, e1]; exact s1
  · simp only [hN, e42]; exact s2
  · unfold std at s3 ⊢; simp only [hN, h204]; exact s3
  · unfold std at s4 ⊢; simp only [hN]; exact s4
  · unfold std at s5 ⊢; simp only [hN, e43]; exact s5
  · unfold std celR at s6 ⊢; simp only [hN, e5, er, e44]; exact s6
theorem mEq_fail : mEq (sFail S) S := mEq_sI (Or.inl (by omega))
theorem sFail_0 : (sFail S).1 0 = upd (S.1 0) 2 (S.1 0 2 + 1) := sI_g
theorem sFail_n (h : g ≠ 0) : (sFail S).1 g = S.1 g := sI_ne h
theorem qFail_20 : (qFail S).1 20 = upd (S.1 20) 8 (S.1 20 8 + 1) := sI_g
theorem qFail_n (h : g ≠ 20) : (qFail S).1 g = S.1 g := sI_ne h
theorem GS_fail (h : GS S n) : GS (qFail (sFail S)) (n + 1) := by
  have h' := h
  obtain ⟨⟨k1, k2, k3, k4, k5, k6, ⟨c, hc, hc2⟩, k8, k9⟩, nu, hs⟩ := h
  obtain ⟨s0, s1, s2, s3, s4, s5, s6, s7, s8, w, hw1, hw2, hw3, hw4⟩ := hs
  have e20 : (qFail (sFail S)).1 20 = upd (S.1 20) 8 (S.1 20 8 + 1) := by rw [qFail_20, sFail_n (by omega)]
  have e0 : (qFail (sFail S)).1 0 = upd (S.1 0) 2 (S.1 0 2 + 1) := by rw [qFail_n (by omega), sFail_0]
  have eg : ∀ g, g ≠ 0 → g ≠ 20 → (qFail (sFail S)).1 g = S.1 g := fun g h1 h2 => by rw [qFail_n h2, sFail_n h1]
  refine GS_marks h' rfl (fun g hg => eg g (by omega) (by omega)) (fun t ht => by rw [eg 3 (by omega) (by omega)]; exact k6 t ht) ?_ ?_ ?_ ?_ ⟨w, hw1, ?_, ?_, ?_⟩ ⟨c, by omega, ?_, ?_⟩
  · rw [e20, pk_un (by omega)]
  · rw [e20, pk_un (by omega)]
  · rw [e20, e0, pk_us, pk_us, s7]
  · rw [e20, e0, pk_un (by omega), pk_un (by omega)]; exact s8
  · rw [e0, pk_un (by omega)]; exact hw2
  · rw [e20, pk_un (by omega)]; exact hw3
  · rw [eg 47 (by omega) (by omega), eg 2 (by omega) (by omega)]; exact hw4
  · rw [e0, pk_un (by omega)]; exact hc2.1
  · rw [eg 6 (by omega) (by omega)]; exact hc2.2
theorem st_same (h : GS S n) (h1 : ev X 199 mc 0 Lc [] (rp X S) = some (some (.int v), rp X S)) (h2 : ev X 199 mm 0 Lm [] (rp X S) = some (some (.int v), rp X S)) : StI X S n mc Lc mm Lm := ⟨v, S, S, h1, h2, h.mono⟩
theorem st_fail (h : GS S n) (h1 : ev X 199 mc 0 Lc [] (rp X S) = some (some (.int v), rp X (sFail S))) (h2 : ev X 199 mm 0 Lm [] (rp X (sFail S)) = some (some (.int v), rp X (qFail (sFail S)))) : StI X S n mc Lc mm Lm := ⟨v, _, _, h1, h2, GS_fail h⟩
theorem fSm (hs : Sim S S nu) : Sim (sFail S) S nu := Sim_congr mEq_fail cEq.refl hs
theorem st_get (h : GS S n) : StI X S n m_X2_get [some (va_rf (some (aO X))), some (.int a), some (.int b), some (.int c), none, none] m_X3_get [some (va_rf (some (aM X))), some (.int a), some (.int b), some (.int c), none] := by
  have h' := h
  obtain ⟨⟨hW, hK, _⟩, nu, hs⟩ := h
  have h16 := hW.1
  rcases unk_or h16 a with h1 | ⟨t, ht, rfl⟩
  · exact st_same h' (k_get_unk (d := 196) h1) (q_get_unk (d := 196) hs.1 h16 h1)
  · have v1 := (fSm hs).tv hW ht
    rcases cell_or (X := X) hW v1 b c with ⟨e, he, g1, g2⟩ | ⟨i, j, r, hi, hp, hj, rfl, rfl⟩
    · exact st_fail h' (k_get_fail (d := 196) hW ht g1 (e12_0 he).2.2) (q_get_fail (d := 196) (fSm hs).1 h16 ht g2 he)
    · have hst : std S r := ⟨t, i, ht, hi, hp⟩
      have e1 := told_eq (hs.2.2.2.2.2.2.1 r j hst hj)
      have e2 := q_get_ok (X := X) (d := 196) hs.1 h16 ht (hs.tv hW ht) hi hp hj
      rw [← hK t i r ht hi hp, e1] at e2
      exact st_same h' (k_get_ok (d := 196) hW ht hi hp hj) e2
theorem st_told (h : GS S n) : StI X S n m_X2_told [some (va_rf (some (aO X))), some (.int a), some (.int b), some (.int c), none, none] m_X3_told [some (va_rf (some (aM X))), some (.int a), some (.int b), some (.int c), none] := by
  have h' := h
  obtain ⟨⟨hW, hK, _⟩, nu, hs⟩ := h
  have h16 := hW.1
  rcases unk_or h16 a with h1 | ⟨t, ht, rfl⟩
  · exact st_same h' (k_told_unk (d := 197) h1) (q_told_unk (d := 197) hs.1 h16 h1)
  · have v0 := hs.tv hW ht
    have v1 := (fSm hs).tv hW ht
    by_cases c0 : c = 0
    · subst c0; exact st_same h' (k_told_0 (d := 197) hW ht) (q_told_0 (d := 197) hs.1 h16 ht v0)
    by_cases c1 : c = 1
    · subst c1; exact st_same h' (k_told_1 (d := 197) hW ht) (q_told_1 (d := 197) hs.1 h16 ht v0)
    by_cases c2 : c = 2
    · subst c2
      rcases unp_or v0.2.2.1 b with hp | ⟨i, hi, rfl⟩
      · exact st_fail h' (k_told_2p (d := 197) hW ht hp) (q_told_2p (d := 197) (fSm hs).1 h16 ht v1 hp)
      · cases hp : S.2.2.1 t i with
        | none => exact st_fail h' (k_told_2n (d := 197) hW ht hi hp) (q_told_2n (d := 197) (fSm hs).1 h16 ht v1 hi hp)
        | some r => exact st_same h' (k_told_2 (d := 197) hW ht hi hp) (q_told_2 (d := 197) hs.1 h16 ht v0 hi hp)
    · have hc : c.toInt < 0 ∨ 2 < c.toInt := by
        have n0 : ¬ c.toInt = 0 := fun q => c0 (Int32.toInt_inj.mp q)
        have n1 : ¬ c.toInt = 1 := fun q => c1 (Int32.toInt_inj.mp q)
        have n2 : ¬ c.toInt = 2 := fun q => c2 (Int32.toInt_inj.mp q)
        omega
      exact st_same h' (k_told_d (d := 197) hW ht hc) (q_told_d (d := 197) hs.1 h16 ht (hc.imp (fun q => i_lt.mpr q) (fun q => i_lt.mpr q)))
theorem st_odd (h : GS S n) : StI X S n m_X2_odd [some (va_rf (some (aO X))), some (.int a)] m_X3_odd [some (va_rf (some (aM X))), some (.int a)] := by
  have h' := h
  obtain ⟨⟨hW, hK, _⟩, nu, hs⟩ := h
  have h16 := hW.1
  rcases unk_or h16 a with h1 | ⟨t, ht, rfl⟩
  · exact st_same h' (k_odd_unk (d := 197) h1) (q_odd_unk (d := 197) hs.1 h16 h1)
  · exact st_same h' (k_odd (d := 197) hW ht) (q_odd (d := 197) hs.1 h16 ht (hs.tv hW ht))
theorem st_word (h : GS S n) : StI X S n m_X2_word [some (va_rf (some (aO X))), some (.int a)] m_X3_word [some (va_rf (some (aM X))), some (.int a)] := by
  have h' := h
  obtain ⟨⟨hW, hK, _⟩, nu, hs⟩ := h
  obtain ⟨w, hw1, hw2, hw3, hw4⟩ := hs.2.2.2.2.2.2.2.2.2
  by_cases c1 : a < 0
  · exact st_same h' (k_word_no (d := 199) (Or.inl c1)) (q_word_no (d := 198) (Or.inl c1) hw3 hw1)
  · by_cases c2 : a < nI w
    · obtain ⟨q, hq, rfl⟩ := nI_of c1
      have hq2 := (nI_ltI hq (by omega)).mp c2
      have e := q_word (X := X) (d := 198) hq2 hw3 hw1
      rw [hw4 q hq2] at e
      exact st_same h' (k_word (d := 199) hw2 hw1 hq2) e
    · exact st_same h' (k_word_no (d := 199) (Or.inr (by rw [hw2]; exact c2))) (q_word_no (d := 198) (Or.inr c2) hw3 hw1)
theorem st_entered (h : GS S n) : StI X S n m_X2_entered [some (va_rf (some (aO X)))] m_X3_entered [some (va_rf (some (aM X)))] := by
  have h' := h
  obtain ⟨⟨hW, hK, _⟩, nu, hs⟩ := h
  have e := q_entered (X := X) (S := S) (d := 199)
  rw [hs.2.2.2.2.2.2.2.2.1] at e
  exact st_same h' k_entered e
theorem st_s (h : GS S n) : StI X S n m_X2_same [some (va_rf (some (aO X))), some (.int a), some (.int b), some (.int c), some (.int x), none, none] m_X3_same [some (va_rf (some (aM X))), some (.int a), some (.int b), some (.int c), some (.int x), none] := by
  have h' := h
  obtain ⟨⟨hW, hK, _⟩, nu, hs⟩ := h
  have h16 := hW.1
  rcases unk_or h16 a with h1 | ⟨t, ht, rfl⟩
  · exact st_same h' (k_same_unk (d := 197) h16 (Or.inl h1)) (q_same_unk (d := 197) hs.1 h16 (Or.inl h1))
  rcases unk_or h16 c with h1 | ⟨t2, ht2, rfl⟩
  · exact st_same h' (k_same_unk (d := 197) h16 (Or.inr h1)) (q_same_unk (d := 197) hs.1 h16 (Or.inr h1))
  have v1 := (fSm hs).tv hW ht
  have v2 := (fSm hs).tv hW ht2
  rcases unp_or v1.2.2.1 b with hp | ⟨i, hi, rfl⟩
  · exact st_fail h' (k_same_ind (d := 197) hW ht ht2 (Or.inl hp)) (q_same_ind (d := 197) (fSm hs).1 h16 ht ht2 v1 v2 (Or.inl hp))
  rcases unp_or v2.2.2.1 x with hp | ⟨j, hj, rfl⟩
  · exact st_fail h' (k_same_ind (d := 197) hW ht ht2 (Or.inr hp)) (q_same_ind (d := 197) (fSm hs).1 h16 ht ht2 v1 v2 (Or.inr hp))
  exact st_same h' (k_same (d := 197) hW ht ht2 hi hj) (q_same (d := 197) hs.1 h16 ht ht2 (hs.tv hW ht) (hs.tv hW ht2) hi hj (fun r r2 g1 g2 g3 => hs.2.2.2.2.1 r r2 ⟨t, i, ht, hi, g1⟩ ⟨t2, j, ht2, hj, g2⟩ g3))
end GL
