/-! The law's run. -/
theorem GS_0 : GS S0 0 := by
  have e00 : S0.2.1 0 0 = 0 := rfl
  have e01 : S0.2.1 0 1 = 0 := rfl
  have nst : ∀ r, ¬ std S0 r := fun r ⟨t, i, q1, _⟩ => by rw [e00] at q1; omega
  refine ⟨⟨⟨by rw [e00]; omega, fun t _ => ?_, fun t i r _ h => (by cases h), fun r hr => by rw [e01] at hr; omega⟩, fun t i r q => by rw [e00] at q; omega, fun r j q => absurd q (nst r), fun t q => by rw [e00] at q; omega, fun r j q => absurd q (nst r), fun t _ => rfl, ⟨0, by omega, rfl, fun r q => absurd q (nst r)⟩, by rw [e01]; omega, ?_⟩, fun _ => 0, rfl, fun t q => by rw [e00] at q; omega, fun t i q => by rw [e00] at q; omega, ⟨0, by omega, rfl, fun r q => absurd q (nst r)⟩, fun r r2 q => absurd q (nst r), fun r q => absurd q (nst r), fun r j q => absurd q (nst r), rfl, rfl, 0, by omega, rfl, rfl, fun i q => by omega⟩
  · have : S0.2.1 1 t = 0 := by
      show (if 1 = 0 ∧ t = 2 then 31239 else 0) = 0
      exact if_neg (by omega)
    rw [this]; omega
  · have : S0.2.1 0 2 = 31239 := rfl
    rw [this]; omega
theorem law_ev (X : I_X) (hL : X.2.2.1 ≤ 4096) : ∃ h2 : I_H, ev X 200 m_L_law 0 [some (va_rf (some X.2.1)), none, none, none, none, none, none, none] [] (h0 X) = some (some (.int 1), h2) ∧ h2.1 ≤ X.1 + 100000 ∧ h2.2.1 ≤ 1000000 := by
  obtain ⟨S2, n2, k1, k2, k3⟩ := lw_loop (X := X) hL 513 0 0 none none none none S0 (by omega) rfl (by omega) GS_0 (by omega)
  rw [nI_0] at k3
  have r1 := k2.1.2.2.2.2.2.2.2.1
  have r2 := k2.1.2.2.2.2.2.2.2.2
  refine ⟨rp X S2, ?_, ?_, ?_⟩
  · rw [← k3]
    simp only [e_L_law_0, e_L_law_3, e_L_law_3i, e_L_law_4, e_L_law_7, e_L_law_8, e_L_law_11, e_L_law_11i, e_L_law_12, e_L_law_15, e_L_law_16, e_L_law_17, Option.bind_some, Option.bind_none, Option.toList_some, Option.toList_none, List.cons_append, List.nil_append, I_z, I_i8, I_q8, I_i7, I_q7, I_i6, I_q6, I_i5, I_q5, I_i4, I_q4, I_i3, I_q3, I_i2, I_q2, I_i1, I_q1, I_w8, I_w7, I_w6, I_w5, I_w4, I_w3, I_w2, I_c2n, I_c2i, I_c2q, eq_self, or_true, true_or, and_true, true_and, if_true, if_false, not_false_eq_true, not_true_eq_false, Option.map_none, Option.map_some, reduceCtorEq, I_N2, I_N3, I_def2, I_def3, h0_1, c_init (X := X) (d := 197), hO_37, hO_m, m_init]
  · show X.1 + 51 + 3 * S2.2.1 0 1 ≤ X.1 + 100000
    omega
  · show S2.2.1 0 2 ≤ 1000000
    omega
