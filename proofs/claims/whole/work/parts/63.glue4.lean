/-! Both sides: words, counts, what is alike, reals. -/
section GL4
variable {X : I_X} {S S1 S2 A A2 B : St} {nu : Nat → Nat} {d t t2 r r2 i j n m g w mc mm p tc b0 : Nat} {a b c e v x y z k s : Int32} {Lc Lm : I_L} {o : Option Nat} {f h f2 w1 w2 : Nat → Int32}
theorem pkW_ag (hw : ∀ i, i < 6 → w1 i = w2 i) : ∀ i, i < 6 → pkW w1 n v i = pkW w2 n v i := fun i hi => by
  unfold pkW
  by_cases c : i = n / 32
  · rw [c, pk_us, pk_us, hw (n / 32) (by omega)]
  · rw [pk_un c, pk_un c]; exact hw i hi
theorem pkR_ag : ∀ m j (w1 w2 : Nat → Int32), (∀ i, i < 6 → w1 i = w2 i) → ∀ i, i < 6 → pkR f b0 m j w1 i = pkR f b0 m j w2 i := by
  intro m
  induction m with
  | zero => intro j w1 w2 hw; exact hw
  | succ m ih =>
    intro j w1 w2 hw
    exact ih (j + 1) _ _ (pkW_ag hw)
theorem pkT_ag : ∀ m i b (w1 w2 : Nat → Int32), (∀ i, i < 6 → w1 i = w2 i) → (pkT S t m i b w1).2 = (pkT S t m i b w2).2 ∧ ∀ q, q < 6 → (pkT S t m i b w1).1 q = (pkT S t m i b w2).1 q := by
  intro m
  induction m with
  | zero => intro i b w1 w2 hw; exact ⟨rfl, hw⟩
  | succ m ih =>
    intro i b w1 w2 hw
    exact ih (i + 1) _ _ _ (pkR_ag _ _ _ _ hw)
theorem st_pack (h : GS S n) : StI X S n m_X2_pack [some (va_rf (some (aO X))), some (.int a), none, none, none] m_X3_pack [some (va_rf (some (aM X))), some (.int a), none, none, none] := by
  have h' := h
  obtain ⟨hc, nu, hs⟩ := h
  have hW := hc.1
  have h16 := hW.1
  obtain ⟨k1, k2, k3, k4, k5, k6, ⟨c, hc1, hc2, hc3⟩, k8, k9⟩ := hc
  rcases unk_or h16 a with h1 | ⟨t, ht, rfl⟩
  · exact st_same h' (k_pack_unk (d := 197) h1) (q_pack_unk (d := 197) hs.1 h16 h1)
  by_cases hk : S.1 1 t = 0
  · by_cases hN : ∃ i, i < S.2.1 1 t ∧ S.2.2.1 t i = none
    · obtain ⟨i, hi, hp⟩ := hN
      exact st_fail h' (k_pack_null (d := 197) hW ht hk hi hp) (q_pack_null (d := 197) (fSm hs).1 h16 ht ((fSm hs).tv hW ht) hk hi hp)
    · have hB : bitT S t := fun i hi => by
        cases hp : S.2.2.1 t i with
        | none => exact absurd ⟨i, hi, hp⟩ hN
        | some r => exact ⟨r, rfl, fun j hj => k5 r j ⟨t, i, ht, hi, hp⟩ ((k2 t i r ht hi hp).trans hk) hj⟩
      have hm : mEq (sPack S t) S := (mEq_sI (by omega)).trans (mEq_sI (by omega))
      have hs2 : Sim (sPack S t) S nu := Sim_congr hm cEq.refl hs
      have e1 := k_pack_ok (X := X) (d := 197) hW ht hk hB
      have e2 := q_pack_ok (X := X) (d := 197) hW hs2.1 h16 ht (hs2.tv hW ht) hk hB (fun i r j hi hp hj => by
        have := hs2.2.2.2.2.2.2.1 r j ⟨t, i, ht, hi, hp⟩ hj
        unfold celR at this
        rw [if_neg (by rw [k2 t i r ht hi hp, hk]; decide)] at this
        exact this)
      obtain ⟨p1, p2⟩ := pkT_ag (S := S) (t := t) (S.2.1 1 t) 0 0 (fillF (S.1 2) 0 6) (fillF ((sPack S t).1 47) 0 8) (fun i hi => by unfold fillF; rw [if_pos hi, if_pos (by omega)])
      have pb := pkT_b hW (show t < 16 by omega) hB (S.2.1 1 t) 0 0 (fillF (S.1 2) 0 6) (by omega) (by omega)
      have h12 := hW.2.1 t (by omega)
      rw [← p1] at e2
      obtain ⟨s0, s1, s2, s3, s4, s5, s6, s7, s8, w, hw1, hw2, hw3, hw4⟩ := hs
      refine ⟨_, _, _, e1, e2, ?_⟩
      have f47 : (qPack (sPack S t) S t).1 47 = (pkT S t (S.2.1 1 t) 0 0 (fillF ((sPack S t).1 47) 0 8)).1 := by
        unfold qPack; rw [sI_ne (by omega), sI_g]
      have f20 : (qPack (sPack S t) S t).1 20 = upd (S.1 20) 10 (nI (((pkT S t (S.2.1 1 t) 0 0 (fillF (S.1 2) 0 6)).2 + 31) / 32)) := by
        unfold qPack; rw [sI_g, ← p1, hm.1 20 (by omega) (by omega)]
      have f2 : (qPack (sPack S t) S t).1 2 = (pkT S t (S.2.1 1 t) 0 0 (fillF (S.1 2) 0 6)).1 := by
        unfold qPack; rw [sI_ne (by omega), sI_ne (by omega)]; unfold sPack; rw [sI_ne (by omega), sI_g]
      have f0 : (qPack (sPack S t) S t).1 0 = upd (S.1 0) 4 (nI (((pkT S t (S.2.1 1 t) 0 0 (fillF (S.1 2) 0 6)).2 + 31) / 32)) := by
        unfold qPack; rw [sI_ne (by omega), sI_ne (by omega)]; unfold sPack; rw [sI_g]
      have fg : ∀ g, g ≠ 47 → g ≠ 20 → g ≠ 2 → g ≠ 0 → (qPack (sPack S t) S t).1 g = S.1 g := fun g q1 q2 q3 q4 => by
        unfold qPack; rw [sI_ne q2, sI_ne q1]; unfold sPack; rw [sI_ne q4, sI_ne q3]
      refine GS_marks h' rfl (fun g hg => fg g (by omega) (by omega) (by omega) (by omega)) (by rw [fg 3 (by omega) (by omega) (by omega) (by omega)]; exact k6) (by rw [f20, pk_un (by omega)]) (by rw [f20, pk_un (by omega)]) ?_ ?_ ⟨((pkT S t (S.2.1 1 t) 0 0 (fillF (S.1 2) 0 6)).2 + 31) / 32, by omega, by rw [f0, pk_us], by rw [f20, pk_us], fun i hi => ?_⟩ ⟨c, by omega, ?_, ?_⟩
      · rw [f20, f0, pk_un (by omega), pk_un (by omega)]; exact s7
      · rw [f20, f0, pk_un (by omega), pk_un (by omega)]; exact s8
      · rw [f47, f2]; exact (p2 i (by omega)).symm
      · rw [f0, pk_un (by omega)]; exact hc2
      · rw [fg 6 (by omega) (by omega) (by omega) (by omega)]; exact hc3
  · exact st_same h' (k_pack_state (d := 197) hW ht hk) (q_pack_state (d := 197) hs.1 h16 ht (hs.tv hW ht) hk)
theorem markA_add : ∀ m i f s, markA S t c m i f (a + s) = ((markA S t c m i f s).1, a + (markA S t c m i f s).2) := by
  intro m
  induction m with
  | zero => intro i f s; rfl
  | succ m ih =>
    intro i f s
    unfold markA
    split
    · exact ih _ _ _
    · split
      · exact ih _ _ _
      · rw [Int32.add_assoc]; exact ih _ _ _
theorem fallA_add : ∀ m i s, fallA S t m i (a + s) = a + fallA S t m i s := by
  intro m
  induction m with
  | zero => intro i s; rfl
  | succ m ih =>
    intro i s
    unfold fallA
    split
    · rw [Int32.add_assoc]; exact ih _ _
    · exact ih _ _
theorem mark_rel (hB : B.2 = A.2) (ht : t < A.2.1 0 0) : ∀ m i f g s, i + m ≤ A.2.1 1 t → (∀ r, std A r → (f r = c ↔ g r = 1)) → (markA B t c m i f s).2 = (markA A t 1 m i g s).2 ∧ ∀ r, std A r → ((markA B t c m i f s).1 r = c ↔ (markA A t 1 m i g s).1 r = 1) := by
  intro m
  induction m with
  | zero => intro i f g s _ h; exact ⟨rfl, h⟩
  | succ m ih =>
    intro i f g s hi h
    cases hp : A.2.2.1 t i with
    | none =>
      have eB : markA B t c (m + 1) i f s = markA B t c m (i + 1) f s := by
        show (match B.2.2.1 t i with | none => _ | some r => _) = _
        rw [hB, hp]
      have eA : markA A t 1 (m + 1) i g s = markA A t 1 m (i + 1) g s := by
        show (match A.2.2.1 t i with | none => _ | some r => _) = _
        rw [hp]
      rw [eB, eA]
      exact ih (i + 1) f g s (by omega) h
    | some r =>
      have hr : std A r := ⟨t, i, ht, by omega, hp⟩
      have eB : markA B t c (m + 1) i f s = if f r = c then markA B t c m (i + 1) f s else markA B t c m (i + 1) (upd f r c) (s + 1) := by
        show (match B.2.2.1 t i with | none => _ | some r => _) = _
        rw [hB, hp]
      have eA : markA A t 1 (m + 1) i g s = if g r = 1 then markA A t 1 m (i + 1) g s else markA A t 1 m (i + 1) (upd g r 1) (s + 1) := by
        show (match A.2.2.1 t i with | none => _ | some r => _) = _
        rw [hp]
      rw [eB, eA]
      by_cases q : f r = c
      · rw [if_pos q, if_pos ((h r hr).mp q)]
        exact ih (i + 1) f g s (by omega) h
      · rw [if_neg q, if_neg (fun z => q ((h r hr).mpr z))]
        refine ih (i + 1) _ _ _ (by omega) (fun r' hr' => ?_)
        by_cases q2 : r' = r
        · rw [q2, pk_us, pk_us]; exact ⟨fun _ => rfl, fun _ => rfl⟩
        · rw [pk_un q2, pk_un q2]; exact h r' hr'
theorem mark_v : ∀ m i f s r, (markA S t c m i f s).1 r = f r ∨ (markA S t c m i f s).1 r = c := by
  intro m
  induction m with
  | zero => intro i f s r; exact Or.inl rfl
  | succ m ih =>
    intro i f s r
    unfold markA
    split
    · exact ih _ _ _ _
    · rename_i r' _
      split
      · exact ih _ _ _ _
      · rcases ih (i + 1) (upd f r' c) (s + 1) r with q | q
        · by_cases q2 : r = r'
          · right; rw [q, q2, pk_us]
          · left; rw [q, pk_un q2]
        · exact Or.inr q
theorem cnt_v : ∀ m t f s r, (cntC S c m t f s).1 r = f r ∨ (cntC S c m t f s).1 r = c := by
  intro m
  induction m with
  | zero => intro t f s r; exact Or.inl rfl
  | succ m ih =>
    intro t f s r
    unfold cntC
    rcases ih (t + 1) (markA S t c (S.2.1 1 t) 0 f 0).1 (s + (markA S t c (S.2.1 1 t) 0 f 0).2) r with q | q
    · rcases mark_v (S := S) (t := t) (c := c) (S.2.1 1 t) 0 f 0 r with q2 | q2
      · exact Or.inl (q.trans q2)
      · exact Or.inr (q.trans q2)
    · exact Or.inr q
theorem cnt_rel (hB : B.2 = A.2) : ∀ m t f g s x, t + m = A.2.1 0 0 → (∀ r, std A r → (f r = c ↔ g r = 1)) → (cntC B c m t f s).2 = (cntM A m t g s x).2.1 := by
  intro m
  induction m with
  | zero => intro t f g s x _ _; rfl
  | succ m ih =>
    intro t f g s x ht h
    obtain ⟨q1, q2⟩ := mark_rel (c := c) hB (show t < A.2.1 0 0 by omega) (A.2.1 1 t) 0 f g 0 (by omega) h
    have e1 := markA_add (S := A) (t := t) (c := 1) (a := s) (A.2.1 1 t) 0 g 0
    rw [Int32.add_zero] at e1
    show (cntC B c m (t + 1) (markA B t c (B.2.1 1 t) 0 f 0).1 (s + (markA B t c (B.2.1 1 t) 0 f 0).2)).2 = (cntM A m (t + 1) (markA A t 1 (A.2.1 1 t) 0 g s).1 (markA A t 1 (A.2.1 1 t) 0 g s).2 (fallA A t (A.2.1 1 t) 0 x)).2.1
    rw [hB, e1, q1]
    exact ih (t + 1) _ _ _ _ (by omega) q2
theorem fal_rel : ∀ m t g s x, falC A m t x = (cntM A m t g s x).2.2 := by
  intro m
  induction m with
  | zero => intro t g s x; rfl
  | succ m ih =>
    intro t g s x
    have e1 := fallA_add (S := A) (t := t) (a := x) (A.2.1 1 t) 0 0
    rw [Int32.add_zero] at e1
    show falC A m (t + 1) (x + fallA A t (A.2.1 1 t) 0 0) = (cntM A m (t + 1) _ _ (fallA A t (A.2.1 1 t) 0 x)).2.2
    rw [e1]
    exact ih _ _ _ _
theorem st_count (h : GS S n) (hn : n < 100000) : StI X S n m_X2_count [some (va_rf (some (aO X))), some (.int a)] m_X3_count [some (va_rf (some (aM X))), some (.int a), none, none, none, none, none] := by
  have h' := h
  obtain ⟨hc, nu, hs⟩ := h
  have hW := hc.1
  have h16 := hW.1
  obtain ⟨k1, k2, k3, k4, k5, k6, ⟨c, hc1, hc2, hc3⟩, k8, k9⟩ := hc
  obtain ⟨w, hw1, hw2, hw3, hw4⟩ := hs.2.2.2.2.2.2.2.2.2
  have s7 := hs.2.2.2.2.2.2.2.1
  have s8 := hs.2.2.2.2.2.2.2.2.1
  have fin : ∀ S1 S2 : St, S1.2 = S.2 → (∀ g, g ≠ 0 → g ≠ 6 → S1.1 g = S.1 g) → (∀ q, q ≠ 9 → S1.1 0 q = S.1 0 q) → (∃ c, c ≤ n + 1 ∧ S1.1 0 9 = nI c ∧ ∀ r, std S r → ∃ c2, c2 ≤ c ∧ S1.1 6 r = nI c2) → cEq S2 S1 → (∀ q, q ≠ 46 → S2.1 q = S1.1 q) → S2.2.2.2 0 = S1.2.2.2 0 → GS S2 (n + 1) := fun S1 S2 q1 q2 q3 q4 q5 q6 q7 => by
    have hF : S2.2.2.2 = S1.2.2.2 := by
      funext g
      cases g with
      | zero => exact q7
      | succ g => have := q5.2.2.2 g; rw [Nat.add_comm] at this; exact this
    have hN : S2.2 = S.2 := (Prod.ext q5.2.1 (Prod.ext q5.2.2.1 hF)).trans q1
    have eg : ∀ g, g ≠ 0 → g ≠ 6 → g ≠ 46 → S2.1 g = S.1 g := fun g z1 z2 z3 => (q6 g z3).trans (q2 g z1 z2)
    have e0 : S2.1 0 = S1.1 0 := q6 0 (by omega)
    refine GS_marks h' hN (fun g hg => eg g (by omega) (by omega) (by omega)) (by rw [eg 3 (by omega) (by omega) (by omega)]; exact k6) (by rw [eg 20 (by omega) (by omega) (by omega)]) (by rw [eg 20 (by omega) (by omega) (by omega)]) ?_ ?_ ⟨w, hw1, ?_, ?_, ?_⟩ ?_
    · rw [eg 20 (by omega) (by omega) (by omega), e0, q3 2 (by omega)]; exact s7
    · rw [eg 20 (by omega) (by omega) (by omega), e0, q3 6 (by omega)]; exact s8
    · rw [e0, q3 4 (by omega)]; exact hw2
    · rw [eg 20 (by omega) (by omega) (by omega)]; exact hw3
    · rw [eg 47 (by omega) (by omega) (by omega), eg 2 (by omega) (by omega) (by omega)]; exact hw4
    · rw [e0, q6 6 (by omega)]; exact q4
  have cS : ∃ c, c ≤ n + 1 ∧ S.1 0 9 = nI c ∧ ∀ r, std S r → ∃ c2, c2 ≤ c ∧ S.1 6 r = nI c2 := ⟨c, by omega, hc2, hc3⟩
  by_cases c1 : a = 1
  · subst c1
    have hm : mEq (sI (sC9 S) 6 (cntC (sC9 S) (S.1 0 9 + 1) (S.2.1 0 0) 0 (S.1 6) 0).1) S := (mEq_sI (by omega)).trans (mEq_sI (by omega))
    obtain ⟨S2, g1, g2, g3, _, g5, _⟩ := q_count (X := X) (d := 199) (a := 1) (Sim_congr hm cEq.refl hs) hW
    have g6 := g5 rfl
    have er : (cntC (sC9 S) (S.1 0 9 + 1) (S.2.1 0 0) 0 (S.1 6) 0).2 = (cntM S (S.2.1 0 0) 0 (fun _ => 0) 0 0).2.1 := by
      refine cnt_rel (A := S) (B := sC9 S) rfl (S.2.1 0 0) 0 (S.1 6) (fun _ => 0) 0 0 (by omega) (fun r hr => ⟨fun z => ?_, fun z => absurd z (by decide)⟩)
      obtain ⟨c2, z1, z2⟩ := hc3 r hr
      rw [z2, hc2, nI_1] at z
      have := (nI_eq (by omega) (by omega)).mp z
      omega
    have hk := k_count_1 (X := X) (d := 197) hW
    rw [er] at hk
    have e0 : (sI (sC9 S) 6 (cntC (sC9 S) (S.1 0 9 + 1) (S.2.1 0 0) 0 (S.1 6) 0).1).1 0 = upd (S.1 0) 9 (nI (c + 1)) := by
      rw [sI_ne (by omega)]; unfold sC9; rw [sI_g, hc2, nI_1]
    refine ⟨_, _, S2, hk, g6, fin (sI (sC9 S) 6 (cntC (sC9 S) (S.1 0 9 + 1) (S.2.1 0 0) 0 (S.1 6) 0).1) S2 rfl (fun g z1 z2 => ?_) (fun q z => ?_) ⟨c + 1, by omega, ?_, fun r hr => ?_⟩ g1 g2 g3⟩
    · rw [sI_ne z2]; unfold sC9; rw [sI_ne z1]
    · rw [e0, pk_un z]
    · rw [e0, pk_us]
    · rw [sI_g]
      obtain ⟨c2, z1, z2⟩ := hc3 r hr
      rcases cnt_v (S := sC9 S) (c := S.1 0 9 + 1) (S.2.1 0 0) 0 (S.1 6) 0 r with z | z
      · exact ⟨c2, by omega, z.trans z2⟩
      · exact ⟨c + 1, Nat.le_refl _, by rw [z, hc2, nI_1]⟩
  · obtain ⟨S2, g1, g2, g3, g4, g5, g6, g7, g8⟩ := q_count (X := X) (d := 199) (a := a) hs hW
    have hG : GS S2 (n + 1) := fin S S2 rfl (fun _ _ _ => rfl) (fun _ _ => rfl) cS g1 g2 g3
    by_cases c0 : a = 0
    · subst c0
      exact ⟨_, _, S2, k_count_0 (d := 197), g4 rfl, hG⟩
    by_cases c2 : a = 2
    · subst c2
      have hk := k_count_2 (X := X) (d := 197) hW
      rw [fal_rel (S.2.1 0 0) 0 (fun _ => 0) 0 0] at hk
      exact ⟨_, _, S2, hk, g6 rfl, hG⟩
    by_cases c3 : a = 3
    · subst c3
      exact ⟨_, _, S2, k_count_3 (d := 197), g7 rfl, hG⟩
    · have hd : a.toInt < 0 ∨ 3 < a.toInt := by
        have n0 : ¬ a.toInt = 0 := fun q => c0 (Int32.toInt_inj.mp q)
        have n1 : ¬ a.toInt = 1 := fun q => c1 (Int32.toInt_inj.mp q)
        have n2 : ¬ a.toInt = 2 := fun q => c2 (Int32.toInt_inj.mp q)
        have n3 : ¬ a.toInt = 3 := fun q => c3 (Int32.toInt_inj.mp q)
        omega
      exact ⟨_, _, S2, k_count_d (d := 197) hd, g8 hd, hG⟩
theorem cmp_n : ¬ Op.cmpValue none .l = 0 := by decide
/-- a cell is the same in both -/
theorem same_rel (hk : S.1 5 r = S.1 5 r2) {p2 : Nat} (h1 : celR S S r j p) (h2 : celR S S r2 j p2) : sameC S r r2 j ↔ mSame S (S.1 5 r) p p2 := by
  unfold sameC mSame nn
  unfold celR at h1 h2
  by_cases c : S.1 5 r = 2
  · have c2 : S.1 5 r2 = 2 := hk ▸ c
    rw [if_pos c] at h1 ⊢
    rw [if_pos c2] at h2
    rw [if_pos c]
    rcases h1 with ⟨a1, a2, a3⟩ | ⟨a1, a2, a3⟩
    · rcases h2 with ⟨b1, b2, b3⟩ | ⟨b1, b2, b3⟩
      · rw [a2, b2]
        exact ⟨fun q => q.2.2, fun q => ⟨fun z => z.2 a1, fun z => z.2 b1, q⟩⟩
      · refine ⟨fun q => absurd ⟨c2, by rw [b1]; exact e10⟩ q.2.1, fun q => ?_⟩
        rw [dc_nan (Or.inr ((fN_nan _).mpr b3))] at q
        exact absurd q cmp_n
    · refine ⟨fun q => absurd ⟨c, by rw [a1]; exact e10⟩ q.1, fun q => ?_⟩
      rw [dc_nan (Or.inl ((fN_nan _).mpr a3))] at q
      exact absurd q cmp_n
  · have c2 : ¬ S.1 5 r2 = 2 := hk ▸ c
    rw [if_neg c] at h1 ⊢
    rw [if_neg c2] at h2
    rw [if_neg c, h1, h2]
theorem st_alike (h : GS S n) : StI X S n m_X2_alike [some (va_rf (some (aO X))), some (.int a), some (.int b)] m_X3_alike [some (va_rf (some (aM X))), some (.int a), some (.int b), none, none] := by
  have h' := h
  obtain ⟨hc, nu, hs⟩ := h
  have hW := hc.1
  have h16 := hW.1
  have hK := hc.2.1
  rcases unk_or h16 a with h1 | ⟨t, ht, rfl⟩
  · exact st_same h' (k_alike_unk (d := 195) h16 (Or.inl h1)) (q_alike_unk (d := 197) hs.1 h16 (Or.inl h1))
  rcases unk_or h16 b with h1 | ⟨t2, ht2, rfl⟩
  · exact st_same h' (k_alike_unk (d := 195) h16 (Or.inr h1)) (q_alike_unk (d := 197) hs.1 h16 (Or.inr h1))
  have e2 := q_alike (X := X) (d := 197) hs.1 h16 ht ht2 (hs.tv hW ht) (hs.tv hW ht2)
  have e : b01 (S.1 1 t = S.1 1 t2 ∧ S.2.1 1 t = S.2.1 1 t2 ∧ ∀ k, 0 ≤ k → k < S.2.1 1 t → magr S S nu (S.1 1 t) t t2 k) = b01 (agrT S t t2) := by
    refine b01_c ?_
    unfold agrT
    refine and_congr_right fun q1 => and_congr_right fun q2 => forall_congr' fun i => imp_congr_right fun _ => imp_congr_right fun hi => ?_
    unfold magr agr
    cases hp : S.2.2.1 t i with
    | none => cases hp2 : S.2.2.1 t2 i <;> exact Iff.rfl
    | some r =>
      cases hp2 : S.2.2.1 t2 i with
      | none => exact Iff.rfl
      | some r2 =>
        show (S.2.1 2 r = S.2.1 2 r2 ∧ _) ↔ sameR S r r2
        unfold sameR
        refine and_congr_right fun q3 => forall_congr' fun j => imp_congr_right fun _ => imp_congr_right fun hj => ?_
        have kr := hK t i r ht hi hp
        have kr2 := hK t2 i r2 ht2 (by omega) hp2
        have := same_rel (S := S) (by rw [kr, kr2, q1]) (hs.2.2.2.2.2.2.1 r j ⟨t, i, ht, hi, hp⟩ hj) (hs.2.2.2.2.2.2.1 r2 j ⟨t2, i, ht2, by omega, hp2⟩ (by omega))
        rw [kr] at this
        exact this.symm
  rw [e] at e2
  exact st_same h' (k_alike (d := 195) hW hK ht ht2) e2
/-- what both answer where a real is asked for -/
theorem st_real (h : GS S n) : ∃ v : UInt64, ¬ fN v ∧ ev X 199 m_X2_real 0 [some (va_rf (some (aO X))), some (.int a), some (.int b), some (.int c), none] [] (rp X S) = some (some (.double v), rp X S) ∧ ev X 199 m_X3_real 0 [some (va_rf (some (aM X))), some (.int a), some (.int b), some (.int c), none, none, none] [] (rp X S) = some (some (.double v), rp X S) := by
  obtain ⟨hc, nu, hs⟩ := h
  have hW := hc.1
  have h16 := hW.1
  have hK := hc.2.1
  have z0 := fNil.1
  rcases unk_or h16 a with h1 | ⟨t, ht, rfl⟩
  · exact ⟨0, z0, k_real_unk (d := 196) h1, q_real_unk (d := 196) hs.1 h16 h1⟩
  have v1 := hs.tv hW ht
  rcases cell_or (X := X) hW v1 b c with ⟨e, he, g1, g2⟩ | ⟨i, j, r, hi, hp, hj, rfl, rfl⟩
  · exact ⟨0, z0, k_real_fail (d := 196) hW ht g1 (e12_0 he).2.2, q_real_fail (d := 196) hs.1 h16 ht g2 he⟩
  by_cases hk : S.1 1 t = 2
  · have hr := hW.2.2.1 t i r (by omega) hp
    have kr := (hK t i r ht hi hp).trans hk
    have h3 := (hW.2.2.2 r hr).2
    rw [if_pos kr] at h3
    have e1 := k_real_ok (X := X) (d := 196) hW ht hk hi hp hj (by omega)
    have hcel := hs.2.2.2.2.2.2.1 r j ⟨t, i, ht, hi, hp⟩ hj
    unfold celR at hcel
    rw [if_pos kr] at hcel
    rcases hcel with ⟨a1, a2, a3⟩ | ⟨a1, a2, a3⟩
    · have e2 := q_real_ok (X := X) (d := 196) hs.1 h16 ht v1 hi hp hj hk a3
      rw [a2] at e2 a3
      exact ⟨_, fun q => a3 ((fN_nan _).mp q), e1, e2⟩
    · have e2 := q_real_nan (X := X) (d := 196) hs.1 h16 ht v1 hi hp hj hk a3
      rw [a2] at e1
      exact ⟨0, z0, e1, e2⟩
  · exact ⟨0, z0, k_real_kind (d := 196) hW ht hk, q_real_kind (d := 196) hs.1 h16 ht v1 hi hp hj hk⟩
end GL4
