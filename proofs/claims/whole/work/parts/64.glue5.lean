/-! Both sides: new rows, copies. -/
section GL5
variable {X : I_X} {S S1 S2 S3 A A2 B : St} {nu nu1 : Nat → Nat} {d t t2 r r2 i j n m g w p q R : Nat} {a b c e v x y z k s : Int32}
theorem sRow_m : mEq (sRow S t i k m) S := by
  refine ⟨fun g h1 h2 => sRow_I (by omega) (by omega) (by omega), ?_⟩
  rw [sRow_F, up_ne (by omega)]
theorem sRow_P2 {t' i' : Nat} : (sRow S t i k m).2.2.1 t' i' = if t' = t ∧ i' = i then some (S.2.1 0 1) else S.2.2.1 t' i' := by
  rw [sRow_P]
  by_cases c1 : t' = t
  · subst c1
    rw [up_eq]
    by_cases c2 : i' = i
    · subst c2; rw [up_eq, if_pos ⟨rfl, rfl⟩]
    · rw [up_ne c2, if_neg (fun q => c2 q.2)]
  · rw [up_ne c1, if_neg (fun q => c1 q.1)]
theorem sRow_std (h : std (sRow S t i k m) r) : r = S.2.1 0 1 ∨ std S r := by
  obtain ⟨t', i', h1, h2, h3⟩ := h
  rw [sRow_P2] at h3
  rw [sRow_N00] at h1
  rw [sRow_N1] at h2
  by_cases c : t' = t ∧ i' = i
  · rw [if_pos c] at h3; cases h3; exact Or.inl rfl
  · rw [if_neg c] at h3; exact Or.inr ⟨t', i', h1, h2, h3⟩
theorem std_lt (hW : WB S) (h : std S r) : r < S.2.1 0 1 := by
  obtain ⟨t, i, h1, _, h3⟩ := h
  exact hW.2.2.1 t i r (by have := hW.1; omega) h3
theorem newC_0 (h : ¬ k = 3) : newC k m j = 0 := if_neg h
theorem newC_3 (h : k = 3) (hj : j < m) : newC k m j = -1000009 := (if_pos h).trans (if_pos hj)
theorem Cls_row (hc : Cls S n) (ht : t < S.2.1 0 0) (hi : i < S.2.1 1 t) (hm : m ≤ 16) : Cls (sRow S t i (S.1 1 t) m) (n + 1) := by
  obtain ⟨k1, k2, k3, k4, k5, k6, ⟨c, hc1, hc2, hc3⟩, k8, k9⟩ := hc
  have h16 := k1.1
  have e0 : (sRow S t i (S.1 1 t) m).1 0 = S.1 0 := sRow_I (by omega) (by omega) (by omega)
  have e1 : (sRow S t i (S.1 1 t) m).1 1 = S.1 1 := sRow_I (by omega) (by omega) (by omega)
  have e3 : (sRow S t i (S.1 1 t) m).1 3 = S.1 3 := sRow_I (by omega) (by omega) (by omega)
  have hcell : ∀ r, r ≠ S.2.1 0 1 → (sRow S t i (S.1 1 t) m).1 (100 + r) = S.1 (100 + r) := fun r hr => sRow_I (by omega) (by omega) (by omega)
  refine ⟨sRow_WB k1 hm (by omega), fun t' i' r g1 g2 g3 => ?_, fun r j g1 g2 g3 => ?_, by rw [sRow_N00, e1]; exact k4, fun r j g1 g2 g3 => ?_, by rw [e3]; exact k6, ⟨c, by omega, by rw [e0]; exact hc2, fun r g1 => ?_⟩, by rw [sRow_N01]; omega, by rw [sRow_N02]; split <;> omega⟩
  · rw [sRow_P2] at g3
    rw [sRow_N00] at g1
    rw [sRow_N1] at g2
    rw [sRow_5, e1]
    by_cases q : t' = t ∧ i' = i
    · rw [if_pos q] at g3; cases g3
      rw [pk_us, q.1]
    · rw [if_neg q] at g3
      have := k1.2.2.1 t' i' r (by omega) g3
      rw [pk_un (by omega)]
      exact k2 t' i' r g1 g2 g3
  · rw [sRow_N00]
    rw [sRow_5] at g2
    rw [sRow_N2] at g3
    rcases sRow_std g1 with q | q
    · subst q
      rw [pk_us] at g2
      rw [up_eq] at g3
      rw [sRow_w]
      exact Or.inl (newC_3 g2 g3)
    · have hlt := std_lt k1 q
      rw [pk_un (by omega)] at g2
      rw [up_ne (by omega)] at g3
      rw [hcell r (by omega)]
      exact k3 r j q g2 g3
  · rw [sRow_5] at g2
    rw [sRow_N2] at g3
    rcases sRow_std g1 with q | q
    · subst q
      rw [pk_us] at g2
      rw [sRow_w]
      exact Or.inl (newC_0 (by rw [g2]; decide))
    · have hlt := std_lt k1 q
      rw [pk_un (by omega)] at g2
      rw [up_ne (by omega)] at g3
      rw [hcell r (by omega)]
      exact k5 r j q g2 g3
  · rw [sRow_6]
    rcases sRow_std g1 with q | q
    · subst q; rw [pk_us]; exact ⟨0, by omega, rfl⟩
    · have hlt := std_lt k1 q
      rw [pk_un (by omega)]
      exact hc3 r q
theorem vz : FP.Core.val64 0 ≠ .nan := fun q => fNil.1 ((fN_nan 0).mpr q)
theorem Sim_row (hW : WB S) (hs : Sim S1 S nu1) (ht : t < S.2.1 0 0) (hi : i < S.2.1 1 t) (hm : m ≤ 16) (hR : S1.1 20 4 = nI R) (hR2 : R ≤ 499) (hR3 : ∀ r, std S r → nu1 r < R) : Sim (sI (qRow S1 (S.1 1 t) m R) 42 (upd (S1.1 42) (12 * t + i) (nI R))) (sRow S t i (S.1 1 t) m) (upN nu1 (S.2.1 0 1) R) := by
  have h16 := hW.1
  obtain ⟨s0, s1, s2, _, s4, s5, s6, s7, s8, w, hw1, hw2, hw3, hw4⟩ := hs
  generalize hS2 : sI (qRow S1 (S.1 1 t) m R) 42 (upd (S1.1 42) (12 * t + i) (nI R)) = S2
  have e42 : S2.1 42 = upd (S1.1 42) (12 * t + i) (nI R) := by rw [← hS2, sI_g]
  have e20 : S2.1 20 = upd (S1.1 20) 4 (nI (R + 1)) := by rw [← hS2, sI_ne (by omega), qRow_20]
  have e43 : S2.1 43 = upd (S1.1 43) R (nI m) := by rw [← hS2, sI_ne (by omega), qRow_43]
  have e44 : S2.1 44 = blk (S1.1 44) (16 * R) (fil (S.1 1 t)) 16 := by rw [← hS2, sI_ne (by omega), qRow_44]
  have eF : S2.2.2.2 0 = blk (S1.2.2.2 0) (16 * R) 0 16 := by rw [← hS2]; exact qRow_F
  have eg : ∀ g, g ≠ 42 → g ≠ 20 → g ≠ 43 → g ≠ 44 → S2.1 g = S1.1 g := fun g q1 q2 q3 q4 => by rw [← hS2, sI_ne q1, qRow_g q2 q3 q4]
  have a0 : (sRow S t i (S.1 1 t) m).1 0 = S.1 0 := sRow_I (by omega) (by omega) (by omega)
  have a1 : (sRow S t i (S.1 1 t) m).1 1 = S.1 1 := sRow_I (by omega) (by omega) (by omega)
  have a2 : (sRow S t i (S.1 1 t) m).1 2 = S.1 2 := sRow_I (by omega) (by omega) (by omega)
  have hcell : ∀ r, r ≠ S.2.1 0 1 → (sRow S t i (S.1 1 t) m).1 (100 + r) = S.1 (100 + r) := fun r hr => sRow_I (by omega) (by omega) (by omega)
  have nuo : ∀ r, std S r → upN nu1 (S.2.1 0 1) R r = nu1 r := fun r hr => upN_n (by have := std_lt hW hr; omega)
  refine ⟨by rw [e20, pk_un (by omega), sRow_N00]; exact s0, by rw [sRow_N00, sRow_N1, eg 40 (by omega) (by omega) (by omega) (by omega), eg 41 (by omega) (by omega) (by omega) (by omega), a1]; exact s1, fun t' i' g1 g2 => ?_, ⟨R + 1, by omega, by rw [e20, pk_us], fun r g1 => ?_⟩, fun r r2 g1 g2 g3 => ?_, fun r g1 => ?_, fun r j g1 g2 => ?_, by rw [e20, pk_un (by omega), a0]; exact s7, by rw [e20, pk_un (by omega), a0]; exact s8, w, hw1, by rw [a0]; exact hw2, by rw [e20, pk_un (by omega)]; exact hw3, by rw [eg 47 (by omega) (by omega) (by omega) (by omega), a2]; exact hw4⟩
  · rw [sRow_N00] at g1
    rw [sRow_N1] at g2
    have h12 := hW.2.1 t' (by omega)
    have h12' := hW.2.1 t (by omega)
    rw [sRow_P2, e42]
    by_cases q : t' = t ∧ i' = i
    · rw [if_pos q, q.1, q.2, pk_us]
      show _ = nI (upN nu1 (S.2.1 0 1) R (S.2.1 0 1))
      rw [upN_s]
    · rw [if_neg q, pk_un (by omega), s2 t' i' g1 g2]
      cases hp : S.2.2.1 t' i' with
      | none => rfl
      | some r =>
        show nI (nu1 r) = nI (upN nu1 (S.2.1 0 1) R r)
        rw [nuo r ⟨t', i', g1, g2, hp⟩]
  · rcases sRow_std g1 with q | q
    · rw [q, upN_s]; omega
    · rw [nuo r q]; have := hR3 r q; omega
  · rcases sRow_std g1 with q | q
    · rcases sRow_std g2 with q2 | q2
      · rw [q, q2]
      · rw [q, upN_s, nuo r2 q2] at g3
        have := hR3 r2 q2
        omega
    · rcases sRow_std g2 with q2 | q2
      · rw [q2, upN_s, nuo r q] at g3
        have := hR3 r q
        omega
      · rw [nuo r q, nuo r2 q2] at g3
        exact s4 r r2 q q2 g3
  · rw [e43, sRow_N2]
    rcases sRow_std g1 with q | q
    · rw [q, upN_s, pk_us, up_eq]
    · have h1 := hR3 r q
      have h2 := std_lt hW q
      rw [nuo r q, pk_un (by omega), up_ne (by omega)]
      exact s5 r q
  · rw [sRow_N2] at g2
    unfold celR
    rw [sRow_5, sRow_F, e44, eF]
    rcases sRow_std g1 with q | q
    · subst q
      rw [up_eq] at g2
      rw [pk_us, sRow_w, upN_s]
      have hb : 16 * R ≤ 16 * R + j ∧ 16 * R + j < 16 * R + 16 := by omega
      unfold blk
      rw [if_pos hb, if_pos hb, up_eq]
      by_cases c2 : S.1 1 t = 2
      · rw [if_pos c2]
        exact Or.inl ⟨newC_0 (by rw [c2]; decide), rfl, vz⟩
      · rw [if_neg c2]
        unfold fil
        by_cases c3 : S.1 1 t = 3
        · rw [if_pos c3, newC_3 c3 g2]
        · rw [if_neg c3, newC_0 c3]
    · have h1 := hR3 r q
      have h2 := std_lt hW q
      rw [up_ne (by omega)] at g2
      have hl := (hW.2.2.2 r h2).1
      have hb : ¬ (16 * R ≤ 16 * nu1 r + j ∧ 16 * nu1 r + j < 16 * R + 16) := by omega
      rw [pk_un (by omega), nuo r q, hcell r (by omega)]
      unfold blk
      rw [if_neg hb, if_neg hb, up_ne (by omega)]
      exact s6 r j q g2
theorem st_row (h : GS S n) : StI X S n m_X2_row [some (va_rf (some (aO X))), some (.int a), some (.int b), some (.int c), none] m_X3_row [some (va_rf (some (aM X))), some (.int a), some (.int b), some (.int c)] := by
  have h' := h
  obtain ⟨hc, nu, hs⟩ := h
  have hW := hc.1
  have h16 := hW.1
  rcases unk_or h16 a with h1 | ⟨t, ht, rfl⟩
  · exact st_same h' (k_row_unk (d := 197) h1) (q_row_unk (d := 197) hs.1 h16 h1)
  by_cases c1 : c ≤ 16
  · by_cases c2 : c < 0
    · exact st_fail h' (k_row_size (d := 197) h16 ht c1 c2) (q_row_size (d := 197) (fSm hs).1 h16 ht c1 c2)
    · have v1 := (fSm hs).tv hW ht
      rcases unp_or v1.2.2.1 b with hp | ⟨i, hi, rfl⟩
      · exact st_fail h' (k_row_ind (d := 197) h16 ht c1 c2 hp) (q_row_ind (d := 197) (fSm hs).1 h16 ht v1 c1 c2 hp)
      · obtain ⟨m, hm, rfl⟩ := nI_of c2
        have hm16 : m ≤ 16 := by
          by_cases q : m ≤ 16
          · exact q
          · exact absurd c1 (nI_ge (a := 16) (by omega) (by omega))
        have hs2 : Sim (sRow S t i (S.1 1 t) m) S nu := Sim_congr sRow_m cEq.refl hs
        obtain ⟨S3, nu1, R, f1, f2, f3, f4, f5, f6⟩ := q_row_ok (X := X) (d := 197) hW hs2 ht hm16 hi
        have hce : cEq (sI (qRow S3 (S.1 1 t) m R) 42 (upd (S3.1 42) (12 * t + i) (nI R))) (sRow S t i (S.1 1 t) m) := (cEq_sI (by omega) (by omega)).trans (qRow_c.trans f2)
        exact ⟨_, _, _, k_row_ok (d := 197) hW ht hm16 hi, f1, Cls_congr hce (Cls_row hc ht hi hm16), _, Sim_congr mEq.refl hce (Sim_row hW f3 ht hi hm16 f4 f5 f6)⟩
  · exact st_same h' (k_row_out (d := 197) h16 ht c1) (q_row_out (d := 197) hs.1 h16 ht c1)
theorem sTake_m : mEq (sTake S r2 q r p m) S := by
  refine ⟨fun g h1 h2 => by rw [sTake_I, up_ne (by omega)], ?_⟩
  by_cases c : S.1 5 r2 = 2
  · rw [sTake_F c, up_ne (by omega)]
  · rw [sTake_F0 c]
theorem sTake_N : (sTake S r2 q r p m).2.1 = S.2.1 ∧ (sTake S r2 q r p m).2.2.1 = S.2.2.1 := by
  unfold sTake
  split
  · exact ⟨rfl, rfl⟩
  · exact ⟨rfl, rfl⟩
theorem GS_copy (hc : Cls S n) (hs : Sim S S nu) (hr : std S r) (hr2 : std S r2) (hk : S.1 5 r = S.1 5 r2) (h1 : p + m ≤ S.2.1 2 r) (h2 : q + m ≤ S.2.1 2 r2) (hC : cpP (sTake S r2 q r p m) S2 (16 * nu r2 + q) (16 * nu r + p) (fun o => o < m)) : GS S2 (n + 1) := by
  have hW := hc.1
  obtain ⟨c1, c2, c3, c4⟩ := hC
  have hl := (hW.2.2.2 r (std_lt hW hr)).1
  have hl2 := (hW.2.2.2 r2 (std_lt hW hr2)).1
  have eN : S2.2.1 = S.2.1 := c1.2.1.trans sTake_N.1
  have eP : S2.2.2.1 = S.2.2.1 := c1.2.2.1.trans sTake_N.2
  have eI : ∀ g, g ≠ 44 → g ≠ 100 + r2 → S2.1 g = S.1 g := fun g z1 z2 => by rw [c2 g z1, sTake_I, up_ne z2]
  have er : S2.1 (100 + r2) = va_cpy (S.1 (100 + r)) (S.1 (100 + r2)) p q m := by rw [c2 _ (by omega), sTake_I, up_eq]
  have e44 : (sTake S r2 q r p m).1 44 = S.1 44 := sTake_m.1 44 (by omega) (by omega)
  have eF0 : (sTake S r2 q r p m).2.2.2 0 = S.2.2.2 0 := sTake_m.2
  rw [e44, eF0] at c3 c4
  have hst : ∀ r, std S2 r ↔ std S r := fun r => by unfold std; rw [eN, eP]
  have e5 := eI 5 (by omega) (by omega)
  -- where a cell comes from
  have src : ∀ r' j', std S r' → j' < S.2.1 2 r' → ∃ r0 j0, std S r0 ∧ j0 < S.2.1 2 r0 ∧ S.1 5 r0 = S.1 5 r' ∧ S2.1 (100 + r') j' = S.1 (100 + r0) j0 ∧ (S.1 5 r' = 2 → S2.2.2.2 (1 + r') j' = S.2.2.2 (1 + r0) j0) ∧ S2.1 44 (16 * nu r' + j') = S.1 44 (16 * nu r0 + j0) ∧ S2.2.2.2 0 (16 * nu r' + j') = S.2.2.2 0 (16 * nu r0 + j0) := fun r' j' z1 z2 => by
    have hl' := (hW.2.2.2 r' (std_lt hW z1)).1
    by_cases z3 : r' = r2 ∧ q ≤ j' ∧ j' < q + m
    · obtain ⟨z4, z5, z6⟩ := z3
      subst z4
      obtain ⟨w1, w2⟩ := c3 (j' - q) (by omega)
      rw [show 16 * nu r' + q + (j' - q) = 16 * nu r' + j' by omega, show 16 * nu r + p + (j' - q) = 16 * nu r + (p + (j' - q)) by omega] at w1 w2
      refine ⟨r, p + (j' - q), hr, by omega, hk, ?_, fun z7 => ?_, w1, w2⟩
      · rw [er]; exact if_pos ⟨z5, z6⟩
      · rw [c1.2.2.2, sTake_F z7, up_eq]; exact if_pos ⟨z5, z6⟩
    · obtain ⟨w1, w2⟩ := c4 (16 * nu r' + j') (fun o ho z4 => by
        have z5 : nu r' = nu r2 := by omega
        exact z3 ⟨hs.2.2.2.2.1 r' r2 z1 hr2 z5, by omega⟩)
      refine ⟨r', j', z1, z2, rfl, ?_, fun z7 => ?_, w1, w2⟩
      · by_cases z4 : r' = r2
        · subst z4; rw [er]; exact if_neg (fun z => z3 ⟨rfl, z⟩)
        · rw [eI _ (by omega) (by omega)]
      · rw [c1.2.2.2]
        by_cases z4 : r' = r2
        · subst z4; rw [sTake_F z7, up_eq]; exact if_neg (fun z => z3 ⟨rfl, z⟩)
        · by_cases z8 : S.1 5 r2 = 2
          · rw [sTake_F z8, up_ne (by omega)]
          · rw [sTake_F0 z8]
  refine GS_in hc hs eN (fun g hg => eI g (by omega) (by omega)) (fun r => (hst r).mp) (by rw [eP]; exact hW.2.2.1) (fun t' i' r' z1 z2 z3 => ?_) (fun r' j' z1 z2 z3 => ?_) (fun r' j' z1 z2 z3 => ?_) (fun t' i' z1 z2 => ?_) (fun r' j' z1 z2 => ?_)
  · rw [eN] at z1 z2
    rw [eP] at z3
    rw [e5, eI 1 (by omega) (by omega)]
    exact hc.2.1 t' i' r' z1 z2 z3
  · rw [hst] at z1
    rw [e5] at z2
    rw [eN] at z3 ⊢
    obtain ⟨r0, j0, y1, y2, y3, y4, _⟩ := src r' j' z1 z3
    rw [y4]
    exact hc.2.2.1 r0 j0 y1 (y3.trans z2) y2
  · rw [hst] at z1
    rw [e5] at z2
    rw [eN] at z3
    obtain ⟨r0, j0, y1, y2, y3, y4, _⟩ := src r' j' z1 z3
    rw [y4]
    exact hc.2.2.2.2.1 r0 j0 y1 (y3.trans z2) y2
  · rw [eI 42 (by omega) (by omega), eP]
    exact hs.2.2.1 t' i' z1 z2
  · rw [hst] at z1
    rw [eN] at z2
    obtain ⟨r0, j0, y1, y2, y3, y4, y5, y6, y7⟩ := src r' j' z1 z2
    have h0 := hs.2.2.2.2.2.2.1 r0 j0 y1 y2
    unfold celR at h0 ⊢
    rw [e5, y4, y6, y7]
    rw [y3] at h0
    by_cases z3 : S.1 5 r' = 2
    · rw [y5 z3]; exact h0
    · rw [if_neg z3] at h0 ⊢; exact h0
theorem st_copy (h : GS S n) : StI X S n m_X2_copy [some (va_rf (some (aO X))), some (.int a), some (.int b), some (.int c), some (.int e), some (.int v), some (.int x), some (.int y), none, none, none, none] m_X3_copy [some (va_rf (some (aM X))), some (.int a), some (.int b), some (.int c), some (.int e), some (.int v), some (.int x), some (.int y), none, none, none, none] := by
  have h' := h
  obtain ⟨hc, nu, hs⟩ := h
  have hW := hc.1
  have h16 := hW.1
  have hK := hc.2.1
  rcases unk_or h16 a with h1 | ⟨t, ht, rfl⟩
  · exact st_same h' (k_copy_unk (d := 197) h16 (Or.inl h1)) (q_copy_unk (d := 197) hs.1 h16 (Or.inl h1))
  rcases unk_or h16 e with h1 | ⟨t2, ht2, rfl⟩
  · exact st_same h' (k_copy_unk (d := 197) h16 (Or.inr h1)) (q_copy_unk (d := 197) hs.1 h16 (Or.inr h1))
  have w1 := (fSm hs).tv hW ht
  have w2 := (fSm hs).tv hW ht2
  rcases unp_or w1.2.2.1 b with hp | ⟨i, hi, rfl⟩
  · exact st_fail h' (k_copy_ind (d := 197) hW ht ht2 (Or.inl hp)) (q_copy_ind (d := 197) (fSm hs).1 h16 ht ht2 w1 w2 (Or.inl hp))
  rcases unp_or w2.2.2.1 v with hp | ⟨j, hj, rfl⟩
  · exact st_fail h' (k_copy_ind (d := 197) hW ht ht2 (Or.inr hp)) (q_copy_ind (d := 197) (fSm hs).1 h16 ht ht2 w1 w2 (Or.inr hp))
  cases hp1 : S.2.2.1 t i with
  | none => exact st_fail h' (k_copy_null (d := 197) hW ht ht2 hi hj (Or.inl hp1)) (q_copy_null (d := 197) (fSm hs).1 h16 ht ht2 w1 w2 hi hj (Or.inl hp1))
  | some r =>
    cases hp2 : S.2.2.1 t2 j with
    | none => exact st_fail h' (k_copy_null (d := 197) hW ht ht2 hi hj (Or.inr hp2)) (q_copy_null (d := 197) (fSm hs).1 h16 ht ht2 w1 w2 hi hj (Or.inr hp2))
    | some r2 =>
      by_cases hk : S.1 1 t = S.1 1 t2
      · have hr : std S r := ⟨t, i, ht, hi, hp1⟩
        have hr2 : std S r2 := ⟨t2, j, ht2, hj, hp2⟩
        have hl := (hW.2.2.2 r (std_lt hW hr)).1
        have hl2 := (hW.2.2.2 r2 (std_lt hW hr2)).1
        have hkr : S.1 5 r = S.1 5 r2 := by rw [hK t i r ht hi hp1, hK t2 j r2 ht2 hj hp2, hk]
        by_cases hcc : hasC (S.2.1 2 r) c y ∧ hasC (S.2.1 2 r2) x y
        · obtain ⟨p, m, rfl, rfl, hpm⟩ := hasC_n hl hcc.1
          obtain ⟨q, m', rfl, em, hqm⟩ := hasC_n hl2 hcc.2
          have em' : m = m' := (nI_eq (by omega) (by omega)).mp em
          subst em'
          have hs2 : Sim (sTake S r2 q r p m) S nu := Sim_congr sTake_m cEq.refl hs
          obtain ⟨S2, f1, f2⟩ := q_copy_ok (X := X) (d := 197) hs2.1 h16 ht ht2 (hs2.tv hW ht) (hs2.tv hW ht2) hi hj hp1 hp2 hk hpm hqm
          exact ⟨_, _, _, k_copy_ok (d := 197) hW ht ht2 hi hj hp1 hp2 hk hkr hpm hqm, f1, GS_copy hc hs hr hr2 hkr hpm hqm f2⟩
        · exact st_fail h' (k_copy_len (d := 197) hW ht ht2 hi hj hp1 hp2 hk hcc) (q_copy_len (d := 197) (fSm hs).1 h16 ht ht2 w1 w2 hi hj hp1 hp2 hk hcc)
      · exact st_fail h' (k_copy_store (d := 197) hW ht ht2 hi hj hp1 hp2 hk) (q_copy_store (d := 197) (fSm hs).1 h16 ht ht2 w1 w2 hi hj hp1 hp2 hk)
end GL5
