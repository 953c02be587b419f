/-! Both sides: places, cells, tables. -/
section GL2
variable {X : I_X} {S S1 S2 A A2 : St} {nu : Nat → Nat} {d t t2 r r2 i j n m g w mc mm p : Nat} {a b c e v x y z k : Int32} {Lc Lm : I_L} {o : Option Nat}
/-- places and cells changed, no new rows -/
theorem GS_in (hc : Cls S n) (hs : Sim S S nu) (hN : S2.2.1 = S.2.1) (hI : ∀ g, g < 7 ∨ g = 20 ∨ g = 40 ∨ g = 41 ∨ g = 43 ∨ g = 47 → S2.1 g = S.1 g) (hst : ∀ r, std S2 r → std S r) (hP : ∀ t i r, t < 16 → S2.2.2.1 t i = some r → r < S.2.1 0 1) (hK : KD S2) (hL : lnkOK S2) (hB : ∀ r j, std S2 r → S2.1 5 r = 0 → j < S2.2.1 2 r → S2.1 (100 + r) j = 0 ∨ S2.1 (100 + r) j = 1) (h42 : ∀ t i, t < S.2.1 0 0 → i < S.2.1 1 t → S2.1 42 (12 * t + i) = plN nu (S2.2.2.1 t i)) (hC : ∀ r j, std S2 r → j < S2.2.1 2 r → celR S2 S2 r j (16 * nu r + j)) : GS S2 (n + 1) := by
  obtain ⟨k1, k2, k3, k4, k5, k6, ⟨c, hc1, hc2, hc3⟩, k8, k9⟩ := hc
  obtain ⟨s0, s1, s2, ⟨R, hR1, hR2, hR3⟩, s4, s5, s6, s7, s8, s9⟩ := hs
  have e0 := hI 0 (by omega)
  have e1 := hI 1 (by omega)
  have e2 := hI 2 (by omega)
  have e3 := hI 3 (by omega)
  have e5 := hI 5 (by omega)
  have e6 := hI 6 (by omega)
  have e20 := hI 20 (by omega)
  have e40 := hI 40 (by omega)
  have e41 := hI 41 (by omega)
  have e43 := hI 43 (by omega)
  have e47 := hI 47 (by omega)
  refine ⟨⟨⟨by rw [hN]; exact k1.1, by rw [hN]; exact k1.2.1, by rw [hN]; exact hP, by rw [hN, e5]; exact k1.2.2.2⟩, hK, hL, by rw [hN, e1]; exact k4, hB, by rw [e3]; exact k6, ⟨c, by omega, by rw [e0]; exact hc2, fun r hr => by rw [e6]; exact hc3 r (hst r hr)⟩, by rw [hN]; omega, by rw [hN]; omega⟩, nu, by rw [e20, hN]; exact s0, by rw [hN, e40, e41, e1]; exact s1, by rw [hN]; exact h42, ⟨R, hR1, by rw [e20]; exact hR2, fun r hr => hR3 r (hst r hr)⟩, fun r r2 h1 h2 => s4 r r2 (hst r h1) (hst r2 h2), fun r hr => by rw [e43, hN]; exact s5 r (hst r hr), hC, by rw [e20, e0]; exact s7, by rw [e20, e0]; exact s8, ?_⟩
  rw [e0, e20, e2, e47]
  exact s9
theorem GS_place (hc : Cls S n) (hs : Sim S S nu) (ht : t < S.2.1 0 0) (hi : i < S.2.1 1 t) (ho : ∀ r, o = some r → std S r ∧ S.1 5 r = S.1 1 t) (hv : v = plN nu o) : GS (sI (sP S t (va_up (S.2.2.1 t) i o)) 42 (upd (S.1 42) (12 * t + i) v)) (n + 1) := by
  have hW := hc.1
  have hp : ∀ t' i', (sI (sP S t (va_up (S.2.2.1 t) i o)) 42 (upd (S.1 42) (12 * t + i) v)).2.2.1 t' i' = if t' = t ∧ i' = i then o else S.2.2.1 t' i' := fun t' i' => by
    show va_up S.2.2.1 t (va_up (S.2.2.1 t) i o) t' i' = _
    by_cases c1 : t' = t
    · subst c1
      rw [up_eq]
      by_cases c2 : i' = i
      · subst c2; rw [up_eq, if_pos ⟨rfl, rfl⟩]
      · rw [up_ne c2, if_neg (fun q => c2 q.2)]
    · rw [up_ne c1, if_neg (fun q => c1 q.1)]
  have hI : ∀ g, g ≠ 42 → (sI (sP S t (va_up (S.2.2.1 t) i o)) 42 (upd (S.1 42) (12 * t + i) v)).1 g = S.1 g := fun g hg => by rw [sI_ne hg, sP_1]
  have hst : ∀ r, std (sI (sP S t (va_up (S.2.2.1 t) i o)) 42 (upd (S.1 42) (12 * t + i) v)) r → std S r := fun r ⟨t', i', h1, h2, h3⟩ => by
    rw [hp] at h3
    by_cases c : t' = t ∧ i' = i
    · rw [if_pos c] at h3; exact (ho r h3).1
    · rw [if_neg c] at h3; exact ⟨t', i', h1, h2, h3⟩
  have hcel : ∀ r j p, celR (sI (sP S t (va_up (S.2.2.1 t) i o)) 42 (upd (S.1 42) (12 * t + i) v)) (sI (sP S t (va_up (S.2.2.1 t) i o)) 42 (upd (S.1 42) (12 * t + i) v)) r j p ↔ celR S S r j p := fun r j p => by
    unfold celR
    rw [hI 5 (by omega), hI (100 + r) (by omega), hI 44 (by omega)]
    exact Iff.rfl
  refine GS_in hc hs rfl (fun g hg => hI g (by omega)) hst (fun t' i' r h1 h2 => ?_) (fun t' i' r h1 h2 h3 => ?_) (fun r j h1 h2 h3 => ?_) (fun r j h1 h2 h3 => ?_) (fun t' i' h1 h2 => ?_) (fun r j h1 h2 => ?_)
  · rw [hp] at h2
    by_cases c : t' = t ∧ i' = i
    · rw [if_pos c] at h2
      obtain ⟨⟨t3, i3, q1, q2, q3⟩, _⟩ := ho r h2
      exact hW.2.2.1 t3 i3 r (by have := hW.1; omega) q3
    · rw [if_neg c] at h2; exact hW.2.2.1 t' i' r h1 h2
  · rw [hp] at h3
    rw [hI 5 (by omega), hI 1 (by omega)]
    by_cases c : t' = t ∧ i' = i
    · rw [if_pos c] at h3
      rw [c.1]
      exact (ho r h3).2
    · rw [if_neg c] at h3; exact hc.2.1 t' i' r h1 h2 h3
  · rw [hI 5 (by omega)] at h2
    rw [hI (100 + r) (by omega)]
    exact hc.2.2.1 r j (hst r h1) h2 h3
  · rw [hI 5 (by omega)] at h2
    rw [hI (100 + r) (by omega)]
    exact hc.2.2.2.2.1 r j (hst r h1) h2 h3
  · rw [hp, sI_g]
    have h12 := hW.2.1 t' (by have := hW.1; omega)
    have h12' := hW.2.1 t (by have := hW.1; omega)
    by_cases c : t' = t ∧ i' = i
    · rw [if_pos c, c.1, c.2, pk_us, hv]
    · rw [if_neg c, pk_un (by omega)]
      exact hs.2.2.1 t' i' h1 h2
  · rw [hcel]
    exact hs.2.2.2.2.2.2.1 r j (hst r h1) h2
theorem mEq_P {f : Nat → Option Nat} : Sim S S nu → Sim (sP S t f) S nu := fun hs => Sim_congr mEq_sP cEq.refl hs
theorem st_fall (h : GS S n) : StI X S n m_X2_fall [some (va_rf (some (aO X))), some (.int a), some (.int b), none, none] m_X3_fall [some (va_rf (some (aM X))), some (.int a), some (.int b), none] := by
  have h' := h
  obtain ⟨hc, nu, hs⟩ := h
  have hW := hc.1
  have h16 := hW.1
  rcases unk_or h16 a with h1 | ⟨t, ht, rfl⟩
  · exact st_same h' (k_fall_unk (d := 197) h1) (q_fall_unk (d := 197) hs.1 h16 h1)
  rcases unp_or (hs.tv hW ht).2.2.1 b with hp | ⟨i, hi, rfl⟩
  · exact st_fail h' (k_fall_ind (d := 197) hW ht hp) (q_fall_ind (d := 197) (fSm hs).1 h16 ht ((fSm hs).tv hW ht) hp)
  have hs2 : Sim (sP S t (va_up (S.2.2.1 t) i none)) S nu := mEq_P hs
  exact ⟨_, _, _, k_fall_ok (d := 197) hW ht hi, q_fall_ok (d := 197) hs2.1 h16 ht (hs2.tv hW ht) hi, GS_place hc hs ht hi (fun r q => by cases q) rfl⟩
theorem st_share (h : GS S n) : StI X S n m_X2_share [some (va_rf (some (aO X))), some (.int a), some (.int b), some (.int c), some (.int x), none, none] m_X3_share [some (va_rf (some (aM X))), some (.int a), some (.int b), some (.int c), some (.int x), none] := by
  have h' := h
  obtain ⟨hc, nu, hs⟩ := h
  have hW := hc.1
  have h16 := hW.1
  rcases unk_or h16 a with h1 | ⟨t, ht, rfl⟩
  · exact st_same h' (k_share_unk (d := 197) (Or.inl h1) h16) (q_share_unk (d := 197) hs.1 h16 (Or.inl h1))
  rcases unk_or h16 c with h1 | ⟨t2, ht2, rfl⟩
  · exact st_same h' (k_share_unk (d := 197) (Or.inr h1) h16) (q_share_unk (d := 197) hs.1 h16 (Or.inr h1))
  have w1 := (fSm hs).tv hW ht
  have w2 := (fSm hs).tv hW ht2
  rcases unp_or w2.2.2.1 x with hp | ⟨j, hj, rfl⟩
  · exact st_fail h' (k_share_ind (d := 197) hW ht ht2 (Or.inl hp)) (q_share_ind (d := 197) (fSm hs).1 h16 ht ht2 w1 w2 (Or.inl hp))
  rcases unp_or w1.2.2.1 b with hp | ⟨i, hi, rfl⟩
  · exact st_fail h' (k_share_ind (d := 197) hW ht ht2 (Or.inr hp)) (q_share_ind (d := 197) (fSm hs).1 h16 ht ht2 w1 w2 (Or.inr hp))
  cases hp : S.2.2.1 t2 j with
  | none => exact st_fail h' (k_share_null (d := 197) hW ht ht2 hi hj hp) (q_share_null (d := 197) (fSm hs).1 h16 ht ht2 w1 w2 hi hj hp)
  | some r =>
    by_cases hk : S.1 1 t2 = S.1 1 t
    · have hs2 : Sim (sP S t (va_up (S.2.2.1 t) i (some r))) S nu := mEq_P hs
      refine ⟨_, _, _, k_share_ok (d := 197) hW ht ht2 hi hj hp hk, q_share_ok (d := 197) hs2.1 h16 ht ht2 (hs2.tv hW ht) (hs2.tv hW ht2) hi hj hp hk, GS_place hc hs ht hi (fun r' q => ?_) rfl⟩
      cases q
      exact ⟨⟨t2, j, ht2, hj, hp⟩, (hc.2.1 t2 j r ht2 hj hp).trans hk⟩
    · exact st_fail h' (k_share_store (d := 197) hW ht ht2 hi hj hp hk) (q_share_store (d := 197) (fSm hs).1 h16 ht ht2 w1 w2 hi hj hp hk)
def wv (k v : Int32) : Int32 := if k = 0 then (if v = 0 then 0 else 1) else if k = 2 then 0 else v
theorem sW_I : (sWrite S r j v).1 = va_up S.1 (100 + r) (upd (S.1 (100 + r)) j (wv (S.1 5 r) v)) := by
  unfold sWrite wv
  by_cases c : S.1 5 r = 0
  · rw [if_pos c, if_pos c, sI_1]
  · rw [if_neg c, if_neg c]
    by_cases c2 : S.1 5 r = 2
    · rw [if_pos c2, if_pos c2, sF_1, sI_1]
    · rw [if_neg c2, if_neg c2, sI_1]
theorem sW_N : (sWrite S r j v).2.1 = S.2.1 ∧ (sWrite S r j v).2.2.1 = S.2.2.1 := by
  unfold sWrite
  by_cases c : S.1 5 r = 0
  · rw [if_pos c]; exact ⟨rfl, rfl⟩
  · rw [if_neg c]
    by_cases c2 : S.1 5 r = 2
    · rw [if_pos c2]; exact ⟨rfl, rfl⟩
    · rw [if_neg c2]; exact ⟨rfl, rfl⟩
theorem sW_F2 (c2 : S.1 5 r = 2) : (sWrite S r j v).2.2.2 = va_up S.2.2.2 (1 + r) (vf_upd (S.2.2.2 (1 + r)) j (FP.ddiv (FP.i2d v) 4652007308841189376)) := by
  have c : ¬ S.1 5 r = 0 := by rw [c2]; decide
  unfold sWrite
  rw [if_neg c, if_pos c2, sF_4]
  rfl
theorem sW_F0 (c2 : ¬ S.1 5 r = 2) : (sWrite S r j v).2.2.2 = S.2.2.2 := by
  unfold sWrite
  by_cases c : S.1 5 r = 0
  · rw [if_pos c]; rfl
  · rw [if_neg c, if_neg c2]; rfl
theorem sW_m : mEq (sWrite S r j v) S := by
  refine ⟨fun g h1 h2 => by rw [sW_I, up_ne (by omega)], ?_⟩
  by_cases c2 : S.1 5 r = 2
  · rw [sW_F2 c2, up_ne (by omega)]
  · rw [sW_F0 c2]
theorem GS_put (hc : Cls S n) (hs : Sim S S nu) (ht : t < S.2.1 0 0) (hi : i < S.2.1 1 t) (hp : S.2.2.1 t i = some r) (hj : j < S.2.1 2 r) (hv : okV S t v) : GS (qWrite (sWrite S r j v) (S.1 1 t) (16 * nu r + j) v) (n + 1) := by
  have hW := hc.1
  have h16 := hW.1
  have hkr := hc.2.1 t i r ht hi hp
  have hr := hW.2.2.1 t i r (by omega) hp
  have hstr : std S r := ⟨t, i, ht, hi, hp⟩
  have hlr := (hW.2.2.2 r hr).1
  generalize hS2 : qWrite (sWrite S r j v) (S.1 1 t) (16 * nu r + j) v = S2
  have eI : ∀ g, g ≠ 44 → g ≠ 100 + r → S2.1 g = S.1 g := fun g h1 h2 => by
    rw [← hS2]; unfold qWrite; rw [sF_1, sI_ne h1, sW_I, up_ne h2]
  have er : S2.1 (100 + r) = upd (S.1 (100 + r)) j (wv (S.1 5 r) v) := by
    rw [← hS2]; unfold qWrite; rw [sF_1, sI_ne (by omega), sW_I, up_eq]
  have e44 : S2.1 44 = upd (S.1 44) (16 * nu r + j) (if S.1 1 t = 0 then (if v = 0 then 0 else 1) else v) := by
    rw [← hS2]; unfold qWrite; rw [sF_1, sI_g, sW_I, up_ne (by omega)]
  have eF0 : S2.2.2.2 0 = vf_upd (S.2.2.2 0) (16 * nu r + j) (FP.ddiv (FP.i2d v) 4652007308841189376) := by
    rw [← hS2]; unfold qWrite; rw [sF_0, sW_m.2]
  have eN : S2.2.1 = S.2.1 := by rw [← hS2]; exact sW_N.1
  have eP : S2.2.2.1 = S.2.2.1 := by rw [← hS2]; exact sW_N.2
  have eF : ∀ r', S2.2.2.2 (1 + r') = (sWrite S r j v).2.2.2 (1 + r') := fun r' => by
    rw [← hS2]; unfold qWrite; rw [sF_4, up_ne (by omega)]; rfl
  have hst : ∀ r, std S2 r ↔ std S r := fun r => by unfold std; rw [eN, eP]
  have e5 := eI 5 (by omega) (by omega)
  have ecell : ∀ r' j', std S r' → ¬ (r' = r ∧ j' = j) → S2.1 (100 + r') j' = S.1 (100 + r') j' := fun r' j' _ hn => by
    by_cases c : r' = r
    · subst c; rw [er, pk_un (fun q => hn ⟨rfl, q⟩)]
    · rw [eI (100 + r') (by omega) (by omega)]
  refine GS_in hc hs eN (fun g hg => eI g (by omega) (by omega)) (fun r => (hst r).mp) (by rw [eP]; exact hW.2.2.1) (fun t' i' r' h1 h2 h3 => ?_) (fun r' j' h1 h2 h3 => ?_) (fun r' j' h1 h2 h3 => ?_) (fun t' i' h1 h2 => ?_) (fun r' j' h1 h2 => ?_)
  · rw [eN] at h1 h2
    rw [eP] at h3
    rw [e5, eI 1 (by omega) (by omega)]
    exact hc.2.1 t' i' r' h1 h2 h3
  · rw [hst] at h1
    rw [e5] at h2
    rw [eN] at h3 ⊢
    by_cases c : r' = r ∧ j' = j
    · rw [c.1, c.2, er, pk_us]
      rw [c.1] at h2
      have e1 : wv (S.1 5 r) v = v := by unfold wv; rw [h2]; rfl
      rw [e1]
      exact hv (by rw [← hkr]; exact h2)
    · rw [ecell r' j' h1 c]
      exact hc.2.2.1 r' j' h1 h2 h3
  · rw [hst] at h1
    rw [e5] at h2
    rw [eN] at h3
    by_cases c : r' = r ∧ j' = j
    · rw [c.1, c.2, er, pk_us]
      rw [c.1] at h2
      unfold wv
      rw [if_pos h2]
      by_cases c3 : v = 0
      · rw [if_pos c3]; exact Or.inl rfl
      · rw [if_neg c3]; exact Or.inr rfl
    · rw [ecell r' j' h1 c]
      exact hc.2.2.2.2.1 r' j' h1 h2 h3
  · rw [eI 42 (by omega) (by omega), eP]
    exact hs.2.2.1 t' i' h1 h2
  · rw [hst] at h1
    rw [eN] at h2
    have h0 := hs.2.2.2.2.2.2.1 r' j' h1 h2
    obtain ⟨t3, i3, q1, q2, q3⟩ := h1
    have hr' := hW.2.2.1 t3 i3 r' (by omega) q3
    have hlr' := (hW.2.2.2 r' hr').1
    by_cases c : r' = r ∧ j' = j
    · obtain ⟨c1, c2⟩ := c
      subst c1; subst c2
      unfold celR
      rw [e5, er, e44, eF0, eF, pk_us, pk_us]
      by_cases c3 : S.1 5 r' = 2
      · rw [if_pos c3]
        left
        rw [sW_F2 c3, up_eq]
        refine ⟨by unfold wv; rw [c3]; rfl, ?_, ?_⟩
        · show (if _ then _ else _) = (if _ then _ else _)
          rw [if_pos rfl, if_pos rfl]
        · show FP.Core.val64 (if _ then _ else _) ≠ _
          rw [if_pos rfl]
          exact (fp_nan _).mp (fp_div v)
      · rw [if_neg c3, ← hkr]
        unfold wv
        by_cases c4 : S.1 5 r' = 0
        · rw [if_pos c4, if_pos c4]
        · rw [if_neg c4, if_neg c4, if_neg c3]
    · have hne : 16 * nu r' + j' ≠ 16 * nu r + j := fun q => by
        have q4 : nu r' = nu r := by omega
        have q5 : r' = r := hs.2.2.2.2.1 r' r ⟨t3, i3, q1, q2, q3⟩ hstr q4
        exact c ⟨q5, by omega⟩
      have f0 : S2.2.2.2 0 (16 * nu r' + j') = S.2.2.2 0 (16 * nu r' + j') := by
        rw [eF0]
        show (if _ then _ else _) = _
        rw [if_neg hne]
      have f1 : S2.2.2.2 (1 + r') j' = S.2.2.2 (1 + r') j' := by
        rw [eF]
        by_cases c3 : S.1 5 r = 2
        · rw [sW_F2 c3]
          by_cases c4 : r' = r
          · subst c4
            rw [up_eq]
            show (if _ then _ else _) = _
            rw [if_neg (fun q => c ⟨rfl, q⟩)]
          · rw [up_ne (by omega)]
        · rw [sW_F0 c3]
      unfold celR
      rw [e5, ecell r' j' ⟨t3, i3, q1, q2, q3⟩ c, e44, pk_un hne, f0, f1]
      exact h0
theorem okV_or (h16 : S.2.1 0 0 ≤ 16) (t : Nat) (v : Int32) : okV S t v ∨ (S.1 1 t = 3 ∧ ¬ v = -1000009 ∧ unk S v) := by
  by_cases c1 : S.1 1 t = 3
  · by_cases c2 : v = -1000009
    · exact Or.inl (fun _ => Or.inl c2)
    · rcases unk_or h16 v with h | ⟨q, hq, rfl⟩
      · exact Or.inr ⟨c1, c2, h⟩
      · exact Or.inl (fun _ => Or.inr ⟨q, hq, rfl⟩)
  · exact Or.inl (fun q => absurd q c1)
theorem st_put (h : GS S n) : StI X S n m_X2_put [some (va_rf (some (aO X))), some (.int a), some (.int b), some (.int c), some (.int v), none, none] m_X3_put [some (va_rf (some (aM X))), some (.int a), some (.int b), some (.int c), some (.int v), none, none] := by
  have h' := h
  obtain ⟨hc, nu, hs⟩ := h
  have hW := hc.1
  have h16 := hW.1
  rcases unk_or h16 a with h1 | ⟨t, ht, rfl⟩
  · exact st_same h' (k_put_unk (d := 196) h1) (q_put_unk (d := 196) hs.1 h16 h1)
  rcases okV_or h16 t v with hv | ⟨q1, q2, q3⟩
  · have v1 := (fSm hs).tv hW ht
    rcases cell_or (X := X) hW v1 b c with ⟨e, he, g1, g2⟩ | ⟨i, j, r, hi, hp, hj, rfl, rfl⟩
    · exact st_fail h' (k_put_fail (d := 196) hW ht hv g1 (e12_0 he).2.2) (q_put_fail (d := 196) (fSm hs).1 h16 ht v1 hv g2 he)
    · have hs2 : Sim (sWrite S r j v) S nu := Sim_congr sW_m cEq.refl hs
      exact ⟨_, _, _, k_put_ok (d := 196) hW ht hv hi hp hj, q_put_ok (d := 196) hs2.1 h16 ht (hs2.tv hW ht) hv hi hp hj, GS_put hc hs ht hi hp hj hv⟩
  · exact st_same h' (k_put_unk2 (d := 196) hW ht q1 q2 q3) (q_put_unk2 (d := 196) hs.1 h16 ht (hs.tv hW ht) q1 q2 q3)
end GL2
