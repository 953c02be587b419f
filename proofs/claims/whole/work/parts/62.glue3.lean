/-! Both sides: tables, totals, words, counts. -/
section GL3
variable {X : I_X} {S S1 S2 A A2 B : St} {nu : Nat → Nat} {d t t2 r r2 i j n m g w mc mm p tc : Nat} {a b c e v x y z k s : Int32} {Lc Lm : I_L} {o : Option Nat} {f h f2 : Nat → Int32}
theorem qTab_c : cEq (qTab S k n tc) S := (cEq_sI (by omega) (by omega)).trans ((cEq_sI (by omega) (by omega)).trans ((cEq_sI (by omega) (by omega)).trans (cEq_sI (by omega) (by omega))))
theorem sBegun_m : mEq (sBegun S k n) S := by
  refine ⟨fun g h1 h2 => sBegun_I (by omega), ?_⟩
  rw [sBegun_F]
/-- a new table without rows -/
theorem sBegun_P2 (hm : m ≤ 12) {t' i' : Nat} (hi : i' < (sBegun S k m).2.1 1 t') : (sBegun S k m).2.2.1 t' i' = if t' = S.2.1 0 0 then none else S.2.2.1 t' i' := by
  rw [sBegun_P]
  by_cases c : t' = S.2.1 0 0
  · rw [sBegun_N1, c, up_eq] at hi
    rw [if_pos c, c, up_eq]
    exact if_pos (by omega)
  · rw [if_neg c, up_ne c]
theorem sBegun_std (hm : m ≤ 12) : std (sBegun S k m) r → std S r := fun ⟨t', i', h1, h2, h3⟩ => by
  rw [sBegun_P2 hm h2] at h3
  by_cases c : t' = S.2.1 0 0
  · rw [if_pos c] at h3; cases h3
  · rw [if_neg c] at h3
    rw [sBegun_N0, up_eq] at h1
    rw [sBegun_N1, up_ne c] at h2
    exact ⟨t', i', by omega, h2, h3⟩
theorem Cls_begun (hc : Cls S n) (h16 : S.2.1 0 0 < 16) (hm : m ≤ 12) (h1 : ¬ k < 0) (h2 : ¬ 3 < k) : Cls (sBegun S k m) (n + 1) := by
  obtain ⟨k1, k2, k3, k4, k5, k6, ⟨c, hc1, hc2, hc3⟩, k8, k9⟩ := hc
  have e00 : (sBegun S k m).2.1 0 0 = S.2.1 0 0 + 1 := by rw [sBegun_N0, up_eq]
  have e5 : (sBegun S k m).1 5 = S.1 5 := sBegun_I (by omega)
  have e2 : (sBegun S k m).2.1 2 = S.2.1 2 := sBegun_N (by omega) (by omega)
  refine ⟨sBegun_WB k1 h16 hm, fun t i r g1 g2 g3 => ?_, fun r j g1 g2 g3 => ?_, fun t g1 => ?_, fun r j g1 g2 g3 => ?_, fun t g1 => ?_, ⟨c, by omega, ?_, fun r g1 => ?_⟩, ?_, ?_⟩
  · rw [sBegun_P2 hm g2] at g3
    by_cases q : t = S.2.1 0 0
    · rw [if_pos q] at g3; cases g3
    · rw [if_neg q] at g3
      rw [e00] at g1
      rw [sBegun_N1, up_ne q] at g2
      rw [e5, sBegun_1, pk_un q]
      exact k2 t i r (by omega) g2 g3
  · rw [e5] at g2
    rw [e2] at g3
    rw [sBegun_I (by omega), e00]
    rcases k3 r j (sBegun_std hm g1) g2 g3 with q | ⟨q, q1, q2⟩
    · exact Or.inl q
    · exact Or.inr ⟨q, by omega, q2⟩
  · rw [e00] at g1
    rw [sBegun_1]
    by_cases q : t = S.2.1 0 0
    · rw [q, pk_us]; exact ⟨h1, h2⟩
    · rw [pk_un q]; exact k4 t (by omega)
  · rw [e5] at g2
    rw [e2] at g3
    rw [sBegun_I (by omega)]
    exact k5 r j (sBegun_std hm g1) g2 g3
  · rw [sBegun_I (by omega)]; exact k6 t g1
  · rw [sBegun_I (by omega)]; exact hc2
  · rw [sBegun_I (by omega)]; exact hc3 r (sBegun_std hm g1)
  · rw [sBegun_N0, up_ne (by omega)]; omega
  · rw [sBegun_N0, up_ne (by omega)]; omega
theorem GS_table (hc : Cls S n) (hs : Sim S S nu) (h16 : S.2.1 0 0 < 16) (hm : m ≤ 12) (h1 : ¬ k < 0) (h2 : ¬ 3 < k) : GS (qTab (sBegun S k m) k m (S.2.1 0 0)) (n + 1) := by
  refine ⟨Cls_congr qTab_c (Cls_begun hc h16 hm h1 h2), nu, Sim_congr mEq.refl qTab_c ?_⟩
  have hW := hc.1
  obtain ⟨s0, s1, s2, ⟨R, hR1, hR2, hR3⟩, s4, s5, s6, s7, s8, w, hw1, hw2, hw3, hw4⟩ := hs
  generalize hS2 : qTab (sBegun S k m) k m (S.2.1 0 0) = S2
  have e20 : S2.1 20 = upd (S.1 20) 0 (nI (S.2.1 0 0 + 1)) := by rw [← hS2]; unfold qTab; rw [sI_g, sBegun_I (by omega)]
  have e42 : S2.1 42 = blk (S.1 42) (12 * S.2.1 0 0) (-1) m := by rw [← hS2]; unfold qTab; rw [sI_ne (by omega), sI_g, sBegun_I (by omega)]
  have e41 : S2.1 41 = upd (S.1 41) (S.2.1 0 0) (nI m) := by rw [← hS2]; unfold qTab; rw [sI_ne (by omega), sI_ne (by omega), sI_g, sBegun_I (by omega)]
  have e40 : S2.1 40 = upd (S.1 40) (S.2.1 0 0) k := by rw [← hS2]; unfold qTab; rw [sI_ne (by omega), sI_ne (by omega), sI_ne (by omega), sI_g, sBegun_I (by omega)]
  have eg : ∀ g, g ≠ 20 → g ≠ 42 → g ≠ 41 → g ≠ 40 → g ≠ 1 → S2.1 g = S.1 g := fun g q1 q2 q3 q4 q5 => by
    rw [← hS2]; unfold qTab; rw [sI_ne q1, sI_ne q2, sI_ne q3, sI_ne q4, sBegun_I q5]
  have eF : S2.2.2.2 = S.2.2.2 := by rw [← hS2]; exact sBegun_F
  have e00 : (sBegun S k m).2.1 0 0 = S.2.1 0 0 + 1 := by rw [sBegun_N0, up_eq]
  have b5 : (sBegun S k m).1 5 = S.1 5 := sBegun_I (by omega)
  have b2 : (sBegun S k m).2.1 2 = S.2.1 2 := sBegun_N (by omega) (by omega)
  have b0 : (sBegun S k m).1 0 = S.1 0 := sBegun_I (by omega)
  refine ⟨by rw [e20, pk_us, e00], fun t ht => ?_, fun t i ht hi => ?_, ⟨R, hR1, by rw [e20, pk_un (by omega)]; exact hR2, fun r hr => hR3 r (sBegun_std hm hr)⟩, fun r r2 g1 g2 => s4 r r2 (sBegun_std hm g1) (sBegun_std hm g2), fun r hr => by rw [eg 43 (by omega) (by omega) (by omega) (by omega) (by omega), b2]; exact s5 r (sBegun_std hm hr), fun r j hr hj => ?_, by rw [e20, pk_un (by omega), b0]; exact s7, by rw [e20, pk_un (by omega), b0]; exact s8, w, hw1, by rw [b0]; exact hw2, by rw [e20, pk_un (by omega)]; exact hw3, by rw [eg 47 (by omega) (by omega) (by omega) (by omega) (by omega), sBegun_I (by omega)]; exact hw4⟩
  · rw [e00] at ht
    rw [e40, e41, sBegun_1, sBegun_N1]
    by_cases q : t = S.2.1 0 0
    · rw [q, pk_us, pk_us, pk_us, up_eq]; exact ⟨rfl, rfl⟩
    · rw [pk_un q, pk_un q, pk_un q, up_ne q]; exact s1 t (by omega)
  · rw [e00] at ht
    rw [sBegun_P2 hm hi, e42]
    unfold blk
    by_cases q : t = S.2.1 0 0
    · rw [sBegun_N1, q, up_eq] at hi
      rw [if_pos q, q, if_pos (by omega)]
      rfl
    · rw [sBegun_N1, up_ne q] at hi
      have h12 := hW.2.1 t (by omega)
      rw [if_neg q, if_neg (by omega)]
      exact s2 t i (by omega) hi
  · rw [b2] at hj
    have := s6 r j (sBegun_std hm hr) hj
    unfold celR at this ⊢
    rw [b5, sBegun_I (g := 100 + r) (by omega), sBegun_F, eF, eg 44 (by omega) (by omega) (by omega) (by omega) (by omega)]
    exact this
theorem st_table (h : GS S n) : StI X S n m_X2_table [some (va_rf (some (aO X))), some (.int a), some (.int b)] m_X3_table [some (va_rf (some (aM X))), some (.int a), some (.int b)] := by
  have h' := h
  obtain ⟨hc, nu, hs⟩ := h
  have hW := hc.1
  have h16 := hW.1
  by_cases c1 : a < 0
  · exact st_same h' (k_table_out (d := 197) (Or.inl c1)) (q_table_out (d := 197) (Or.inl c1))
  by_cases c2 : 3 < a
  · exact st_same h' (k_table_out (d := 197) (Or.inr (Or.inl c2))) (q_table_out (d := 197) (Or.inr (Or.inl c2)))
  by_cases c3 : b ≤ 12
  · by_cases c4 : S.2.1 0 0 = 16
    · exact st_same h' (k_table_room (d := 197) c1 c2 c3 c4) (q_table_room (d := 197) c1 c2 c3 (by rw [hs.1, c4]; rfl))
    · have h15 : S.2.1 0 0 < 16 := by omega
      by_cases c5 : b < 0
      · exact st_fail h' (k_table_size (d := 197) c1 c2 c3 h15 c5) (q_table_size (d := 197) c1 c2 c3 h15 (fSm hs).1 c5)
      · obtain ⟨m, hm, rfl⟩ := nI_of c5
        have hm12 : m ≤ 12 := by
          by_cases q : m ≤ 12
          · exact q
          · exact absurd c3 (nI_ge (a := 12) (by omega) (by omega))
        have hs2 : Sim (sBegun S a m) S nu := Sim_congr sBegun_m cEq.refl hs
        exact ⟨_, _, _, k_table_ok (d := 197) c1 c2 hm12 h15, q_table_ok (d := 197) c1 c2 hm12 h15 hs2.1, GS_table hc hs h15 hm12 c1 c2⟩
  · exact st_same h' (k_table_out (d := 197) (Or.inr (Or.inr c3))) (q_table_out (d := 197) (Or.inr (Or.inr c3)))
theorem st_clear (h : GS S n) : StI X S n m_X2_clear [some (va_rf (some (aO X))), none] m_X3_clear [some (va_rf (some (aM X))), none] := by
  obtain ⟨hc, nu, hs⟩ := h
  have hW := hc.1
  obtain ⟨k1, k2, k3, k4, k5, k6, ⟨c, hc1, hc2, hc3⟩, k8, k9⟩ := hc
  have e : (sClear S).1 20 0 = nI (S.2.1 0 0) := by unfold sClear; rw [sI_ne (by omega)]; exact hs.1
  refine ⟨_, _, _, k_clear, (q_clear (S := sClear S)).trans (by rw [e]), ?_⟩
  generalize hS2 : qClear (sClear S) = S2
  have e20 : S2.1 20 = upd (upd (upd (upd (upd (S.1 20) 0 0) 4 0) 8 0) 10 0) 12 0 := by rw [← hS2]; unfold qClear sClear; rw [sI_g, sI_ne (by omega)]; rfl
  have e0 : S2.1 0 = upd (upd (upd (S.1 0) 2 0) 4 0) 6 0 := by rw [← hS2]; unfold qClear sClear; rw [sI_ne (by omega), sI_g]
  have eg : ∀ g, g ≠ 0 → g ≠ 20 → S2.1 g = S.1 g := fun g q1 q2 => by rw [← hS2]; unfold qClear sClear; rw [sI_ne q2, sI_ne q1]; rfl
  have eN0 : S2.2.1 0 = va_up (S.2.1 0) 0 0 := by rw [← hS2]; unfold qClear sClear; show va_up S.2.1 0 (va_up (S.2.1 0) 0 0) 0 = _; exact up_eq
  have eN : ∀ g, g ≠ 0 → S2.2.1 g = S.2.1 g := fun g q => by rw [← hS2]; unfold qClear sClear; show va_up S.2.1 0 _ g = _; rw [up_ne q]
  have eP : S2.2.2.1 = S.2.2.1 := by rw [← hS2]; rfl
  have e00 : S2.2.1 0 0 = 0 := by rw [eN0, up_eq]
  have e01 : S2.2.1 0 1 = S.2.1 0 1 := by rw [eN0, up_ne (by omega)]
  have e02 : S2.2.1 0 2 = S.2.1 0 2 := by rw [eN0, up_ne (by omega)]
  have nst : ∀ r, ¬ std S2 r := fun r ⟨t, i, q1, _⟩ => by rw [e00] at q1; omega
  refine ⟨⟨⟨by omega, by rw [eN 1 (by omega)]; exact k1.2.1, by rw [eP, e01]; exact k1.2.2.1, by rw [e01, eN 2 (by omega), eN 3 (by omega), eg 5 (by omega) (by omega)]; exact k1.2.2.2⟩, fun t i r q1 => by omega, fun r j q1 => absurd q1 (nst r), fun t q1 => by omega, fun r j q1 => absurd q1 (nst r), by rw [eg 3 (by omega) (by omega)]; exact k6, ⟨c, by omega, by rw [e0, pk_un (by omega), pk_un (by omega), pk_un (by omega)]; exact hc2, fun r q1 => absurd q1 (nst r)⟩, by omega, by omega⟩, nu, ?_, fun t q1 => by omega, fun t i q1 => by omega, ⟨0, by omega, ?_, fun r q1 => absurd q1 (nst r)⟩, fun r r2 q1 => absurd q1 (nst r), fun r q1 => absurd q1 (nst r), fun r j q1 => absurd q1 (nst r), ?_, ?_, 0, by omega, ?_, ?_, fun i hi => by omega⟩
  · rw [e20, e00, pk_un (by omega), pk_un (by omega), pk_un (by omega), pk_un (by omega), pk_us]; rfl
  · rw [e20, pk_un (by omega), pk_un (by omega), pk_un (by omega), pk_us]; rfl
  · rw [e20, e0, pk_un (by omega), pk_un (by omega), pk_us, pk_un (by omega), pk_un (by omega), pk_us]
  · rw [e20, e0, pk_us, pk_us]
  · rw [e0, pk_un (by omega), pk_us]; rfl
  · rw [e20, pk_un (by omega), pk_us]; rfl
theorem st_total (h : GS S n) : StI X S n m_X2_total [some (va_rf (some (aO X))), some (.int a), none] m_X3_total [some (va_rf (some (aM X))), some (.int a)] := by
  have h' := h
  obtain ⟨hc, nu, hs⟩ := h
  have hW := hc.1
  have h16 := hW.1
  obtain ⟨k1, k2, k3, k4, k5, k6, ⟨c, hc1, hc2, hc3⟩, k8, k9⟩ := hc
  rcases unk_or h16 a with h1 | ⟨t, ht, rfl⟩
  · exact st_same h' (k_total_unk (d := 198) h1) (q_total_unk (d := 197) hs.1 h16 h1)
  have hk := k_total (X := X) (d := 146) hW k3 ht
  have hq := fun (S1 : St) (hs1 : Sim S1 S nu) => q_total (X := X) (d := 196) hW k2 k3 hs1 ht (op := S.1 3) k6
  generalize totT S 16 (S.1 3) t 0 = Q at hk hq
  obtain ⟨s0, s1, s2, s3, s4, s5, s6, s7, s8, w, hw1, hw2, hw3, hw4⟩ := hs
  by_cases c1 : Q.1 = 0
  · rw [if_pos c1, if_pos c1] at hk
    have hm : mEq (tS S Q.2.1 0 (S.1 3)) S := (mEq_sI (by omega)).trans (mEq_sI (by omega))
    obtain ⟨S2, f1, f2, f3, f4, f5, f6⟩ := hq _ (Sim_congr hm cEq.refl ⟨s0, s1, s2, s3, s4, s5, s6, s7, s8, w, hw1, hw2, hw3, hw4⟩)
    rw [if_pos c1] at f1 f6
    have eg : ∀ g, g ≠ 0 → g ≠ 3 → g ≠ 20 → (g < 48 ∨ 52 < g) → S2.1 g = S.1 g := fun g q1 q2 q3 q4 => by rw [f2 g q3 q4, tS_g q1 q2]
    have e0 : S2.1 0 = upd (upd (S.1 0) 6 (nI Q.2.1)) 7 0 := by rw [f2 0 (by omega) (by omega), tS_0]
    have e20 : ∀ q, q < 18 → q ≠ 8 → q ≠ 12 → S2.1 20 q = S.1 20 q := fun q q1 q2 q3 => by rw [f4 q q1 q2 q3, tS_g (by omega) (by omega)]
    refine ⟨_, _, S2, hk, f1, GS_marks h' (f3.trans tS_2) (fun g hg => eg g (by omega) (by omega) (by omega) (by omega)) (by rw [f2 3 (by omega) (by omega), tS_3]; exact k6) (e20 0 (by omega) (by omega) (by omega)) (e20 4 (by omega) (by omega) (by omega)) ?_ ?_ ⟨w, hw1, ?_, ?_, ?_⟩ ⟨c, by omega, ?_, ?_⟩⟩
    · rw [f6, tS_g (by omega) (by omega), e0, pk_un (by omega), pk_un (by omega), Int32.add_zero]; exact s7
    · rw [f5, e0, pk_un (by omega), pk_us]
    · rw [e0, pk_un (by omega), pk_un (by omega)]; exact hw2
    · rw [e20 10 (by omega) (by omega) (by omega)]; exact hw3
    · rw [eg 47 (by omega) (by omega) (by omega) (by omega), eg 2 (by omega) (by omega) (by omega) (by omega)]; exact hw4
    · rw [e0, pk_un (by omega), pk_un (by omega)]; exact hc2
    · rw [eg 6 (by omega) (by omega) (by omega) (by omega)]; exact hc3
  · rw [if_neg c1, if_neg c1] at hk
    have hm : mEq (sFail (tS S Q.2.1 Q.1 (S.1 3))) S := mEq_fail.trans ((mEq_sI (by omega)).trans (mEq_sI (by omega)))
    obtain ⟨S2, f1, f2, f3, f4, f5, f6⟩ := hq _ (Sim_congr hm cEq.refl ⟨s0, s1, s2, s3, s4, s5, s6, s7, s8, w, hw1, hw2, hw3, hw4⟩)
    rw [if_neg c1] at f1 f6
    have eg : ∀ g, g ≠ 0 → g ≠ 3 → g ≠ 20 → (g < 48 ∨ 52 < g) → S2.1 g = S.1 g := fun g q1 q2 q3 q4 => by rw [f2 g q3 q4, sFail_n q1, tS_g q1 q2]
    have e0 : S2.1 0 = upd (upd (upd (S.1 0) 6 (nI Q.2.1)) 7 Q.1) 2 (S.1 0 2 + 1) := by rw [f2 0 (by omega) (by omega), sFail_0, tS_0, pk_un (by omega), pk_un (by omega)]
    have e20 : ∀ q, q < 18 → q ≠ 8 → q ≠ 12 → S2.1 20 q = S.1 20 q := fun q q1 q2 q3 => by rw [f4 q q1 q2 q3, sFail_n (by omega), tS_g (by omega) (by omega)]
    refine ⟨_, _, S2, hk, f1, GS_marks h' (f3.trans rfl) (fun g hg => eg g (by omega) (by omega) (by omega) (by omega)) (by rw [f2 3 (by omega) (by omega), sFail_n (by omega), tS_3]; exact k6) (e20 0 (by omega) (by omega) (by omega)) (e20 4 (by omega) (by omega) (by omega)) ?_ ?_ ⟨w, hw1, ?_, ?_, ?_⟩ ⟨c, by omega, ?_, ?_⟩⟩
    · rw [f6, sFail_n (by omega), tS_g (by omega) (by omega), e0, pk_us, s7]
    · rw [f5, e0, pk_un (by omega), pk_un (by omega), pk_us]
    · rw [e0, pk_un (by omega), pk_un (by omega), pk_un (by omega)]; exact hw2
    · rw [e20 10 (by omega) (by omega) (by omega)]; exact hw3
    · rw [eg 47 (by omega) (by omega) (by omega) (by omega), eg 2 (by omega) (by omega) (by omega) (by omega)]; exact hw4
    · rw [e0, pk_un (by omega), pk_un (by omega), pk_un (by omega)]; exact hc2
    · rw [eg 6 (by omega) (by omega) (by omega) (by omega)]; exact hc3
theorem st_deep (h : GS S n) : StI X S n m_X2_deep [some (va_rf (some (aO X))), some (.int a), none] m_X3_deep [some (va_rf (some (aM X))), some (.int a)] := by
  have h' := h
  obtain ⟨hc, nu, hs⟩ := h
  have hW := hc.1
  have h16 := hW.1
  obtain ⟨k1, k2, k3, k4, k5, k6, ⟨c, hc1, hc2, hc3⟩, k8, k9⟩ := hc
  rcases unk_or h16 a with h1 | ⟨t, ht, rfl⟩
  · exact st_same h' (k_deep_unk (d := 198) h1) (q_deep_unk (d := 197) hs.1 h16 h1)
  have hk := k_deep (X := X) (d := 163) hW k2 k3 ht
  have hq := fun (S1 : St) (hs1 : Sim S1 S nu) => q_deep (X := X) (d := 196) hW k2 k3 hs1 ht (dp := fillF (S.1 4) (-2) 16) (fun z hz => if_pos hz)
  generalize depT S 16 (fillF (S.1 4) (-2) 16) t = Q at hk hq
  obtain ⟨s0, s1, s2, s3, s4, s5, s6, s7, s8, w, hw1, hw2, hw3, hw4⟩ := hs
  by_cases c1 : Q.1 = -1
  · rw [if_pos c1, if_pos c1] at hk
    have hm : mEq (sFail (sI S 4 Q.2)) S := mEq_fail.trans (mEq_sI (by omega))
    obtain ⟨S2, f1, f2, f3, f4, f5, f6⟩ := hq _ (Sim_congr hm cEq.refl ⟨s0, s1, s2, s3, s4, s5, s6, s7, s8, w, hw1, hw2, hw3, hw4⟩)
    rw [if_pos c1] at f1 f6
    have eg : ∀ g, g ≠ 0 → g ≠ 4 → g ≠ 20 → (g < 48 ∨ 52 < g) → S2.1 g = S.1 g := fun g q1 q2 q3 q4 => by rw [f2 g q3 q4, sFail_n q1, sI_ne q2]
    have e0 : S2.1 0 = upd (S.1 0) 2 (S.1 0 2 + 1) := by rw [f2 0 (by omega) (by omega), sFail_0, sI_ne (by omega)]
    have e20 : ∀ q, q < 18 → q ≠ 8 → q ≠ 12 → S2.1 20 q = S.1 20 q := fun q q1 q2 q3 => by rw [f4 q q1 q2 q3, sFail_n (by omega), sI_ne (by omega)]
    refine ⟨_, _, S2, hk, f1, GS_marks h' (f3.trans rfl) (fun g hg => eg g (by omega) (by omega) (by omega) (by omega)) (by rw [eg 3 (by omega) (by omega) (by omega) (by omega)]; exact k6) (e20 0 (by omega) (by omega) (by omega)) (e20 4 (by omega) (by omega) (by omega)) ?_ ?_ ⟨w, hw1, ?_, ?_, ?_⟩ ⟨c, by omega, ?_, ?_⟩⟩
    · rw [f6, sFail_n (by omega), sI_ne (by omega), e0, pk_us, s7]
    · rw [f5, sFail_n (by omega), sI_ne (by omega), e0, pk_un (by omega)]; exact s8
    · rw [e0, pk_un (by omega)]; exact hw2
    · rw [e20 10 (by omega) (by omega) (by omega)]; exact hw3
    · rw [eg 47 (by omega) (by omega) (by omega) (by omega), eg 2 (by omega) (by omega) (by omega) (by omega)]; exact hw4
    · rw [e0, pk_un (by omega)]; exact hc2
    · rw [eg 6 (by omega) (by omega) (by omega) (by omega)]; exact hc3
  · rw [if_neg c1, if_neg c1] at hk
    have hm : mEq (sI S 4 Q.2) S := mEq_sI (by omega)
    obtain ⟨S2, f1, f2, f3, f4, f5, f6⟩ := hq _ (Sim_congr hm cEq.refl ⟨s0, s1, s2, s3, s4, s5, s6, s7, s8, w, hw1, hw2, hw3, hw4⟩)
    rw [if_neg c1] at f1 f6
    have eg : ∀ g, g ≠ 4 → g ≠ 20 → (g < 48 ∨ 52 < g) → S2.1 g = S.1 g := fun g q2 q3 q4 => by rw [f2 g q3 q4, sI_ne q2]
    have e20 : ∀ q, q < 18 → q ≠ 8 → q ≠ 12 → S2.1 20 q = S.1 20 q := fun q q1 q2 q3 => by rw [f4 q q1 q2 q3, sI_ne (by omega)]
    refine ⟨_, _, S2, hk, f1, GS_marks h' (f3.trans rfl) (fun g hg => eg g (by omega) (by omega) (by omega)) (by rw [eg 3 (by omega) (by omega) (by omega)]; exact k6) (e20 0 (by omega) (by omega) (by omega)) (e20 4 (by omega) (by omega) (by omega)) ?_ ?_ ⟨w, hw1, ?_, ?_, ?_⟩ ⟨c, by omega, ?_, ?_⟩⟩
    · rw [f6, sI_ne (by omega), eg 0 (by omega) (by omega) (by omega), Int32.add_zero]; exact s7
    · rw [f5, sI_ne (by omega), eg 0 (by omega) (by omega) (by omega)]; exact s8
    · rw [eg 0 (by omega) (by omega) (by omega)]; exact hw2
    · rw [e20 10 (by omega) (by omega) (by omega)]; exact hw3
    · rw [eg 47 (by omega) (by omega) (by omega), eg 2 (by omega) (by omega) (by omega)]; exact hw4
    · rw [eg 0 (by omega) (by omega) (by omega)]; exact hc2
    · rw [eg 6 (by omega) (by omega) (by omega)]; exact hc3
end GL3
