/-! Both sides: new tables with rows. -/
section GL6
variable {X : I_X} {S S1 S2 S3 A A2 B C M M2 : St} {nu nu1 : Nat → Nat} {d t t2 r r2 i j n m g w p q R hi l xx yy : Nat} {a b c e v x y z k s : Int32}
theorem new_5 (hh : hi ≤ 12) (hC : NW (bwS S k hi w) C (S.2.1 0 1)) (hx : xx < hi) : C.1 5 (S.2.1 0 1 + xx) = k := by
  obtain ⟨b0, b1, b2, b3, b4, b5, b6, b7, b8, b9, c0, c1, c2, c3, c4⟩ := bwS_all (S := S) (k := k) (w := w) hh
  rw [hC.2.2.1 5 (by omega), b9, if_pos (by omega)]
/-- what the reference held of a standing row, it holds beside the new table too -/
theorem NewM.old (hW : WB S) (h : NewM S C M2 nu1 R k hi w) (hr : std S r) (hj : j < S.2.1 2 r) : celR M2 S r j (16 * nu1 r + j) ∧ 16 * nu1 r + j < 16 * R := by
  obtain ⟨S1, c1, c2, c3, c4, c5, c6⟩ := h
  obtain ⟨h1, h2, h3, h4, h5, h6, h7, h8, h9, h10, h11⟩ := c6
  have hl := (hW.2.2.2 r (std_lt hW hr)).1
  have hR := c5 r hr
  have h0 := c2.2.2.2.2.2.2.1 r j hr hj
  refine ⟨?_, by omega⟩
  have q1 : M2.1 44 (16 * nu1 r + j) = S1.1 44 (16 * nu1 r + j) := by rw [h9, if_neg (by omega)]
  have q2 : M2.2.2.2 0 (16 * nu1 r + j) = S1.2.2.2 0 (16 * nu1 r + j) := by rw [h10, if_neg (by omega)]
  unfold celR at h0 ⊢
  rw [q1, q2]
  exact h0
theorem slot_step (n : Nat) : 100000 + 500 * n + 432 ≤ 100000 + 500 * (n + 1) := by omega
theorem GS_new (hc : Cls S n) (hf : S.2.1 0 0 < 16) (hh : hi ≤ 12) (hw : w ≤ 16) (hk1 : ¬ k < 0) (hk2 : ¬ 3 < k) (hC : NW (bwS S k hi w) C (S.2.1 0 1)) (hNew : NewM S C M2 nu1 R k hi w) (hM : NM M2 M R) (hcel : ∀ x y, x < hi → y < w → celR M C (S.2.1 0 1 + x) y (16 * (R + x) + y)) (hbit : k = 0 → ∀ x y, x < hi → y < w → C.1 (100 + (S.2.1 0 1 + x)) y = 0 ∨ C.1 (100 + (S.2.1 0 1 + x)) y = 1) (hlnk : k = 3 → ∀ x y, x < hi → y < w → C.1 (100 + (S.2.1 0 1 + x)) y = -1000009 ∨ ∃ q, q < S.2.1 0 0 ∧ C.1 (100 + (S.2.1 0 1 + x)) y = nI q) : GS M (n + 1) := by
  have hWC : WB C := hC.wb (bwS_WB hc.1 hf hh hw)
  obtain ⟨b0, b1, b2, b3, b4, b5, b6, b7, b8, b9, c0, c1, c2, c3, c4⟩ := bwS_all (S := S) (k := k) (w := w) hh
  obtain ⟨n1, n2, n3, n4⟩ := hC
  obtain ⟨k1, k2, k3, k4, k5, k6, ⟨cc, hc1, hc2, hc3⟩, k8, k9⟩ := hc
  have h16 := k1.1
  -- the landed code's state
  have f00 : C.2.1 0 0 = S.2.1 0 0 + 1 := by rw [n1]; exact b0
  have f01 : C.2.1 0 1 = S.2.1 0 1 + hi := by rw [n1]; exact b1
  have f02 : C.2.1 0 2 ≤ S.2.1 0 2 + 432 := by
    rw [n1]
    have : hi * (4 + 2 * w) ≤ 12 * 36 := Nat.mul_le_mul hh (by omega)
    omega
  have f1 : ∀ t', C.2.1 1 t' = if t' = S.2.1 0 0 then hi else S.2.1 1 t' := by rw [n1]; exact b3
  have f2 : ∀ r, C.2.1 2 r = if S.2.1 0 1 ≤ r ∧ r < S.2.1 0 1 + hi then w else S.2.1 2 r := by rw [n1]; exact b4
  have fP : ∀ t' i', t' ≠ S.2.1 0 0 → C.2.2.1 t' i' = S.2.2.1 t' i' := by rw [n2]; exact b6
  have fP2 : ∀ i', i' < hi → C.2.2.1 (S.2.1 0 0) i' = some (S.2.1 0 1 + i') := by rw [n2]; exact b7
  have g1 : ∀ t', C.1 1 t' = if t' = S.2.1 0 0 then k else S.1 1 t' := by rw [n3 1 (by omega)]; exact b8
  have g5 : ∀ r, C.1 5 r = if S.2.1 0 1 ≤ r ∧ r < S.2.1 0 1 + hi then k else S.1 5 r := by rw [n3 5 (by omega)]; exact b9
  have g6 : ∀ r, C.1 6 r = if S.2.1 0 1 ≤ r ∧ r < S.2.1 0 1 + hi then 0 else S.1 6 r := by rw [n3 6 (by omega)]; exact c0
  have gg : ∀ g, g < 100 → g ≠ 1 → g ≠ 5 → g ≠ 6 → C.1 g = S.1 g := fun g z1 z2 z3 z4 => by rw [n3 g (by omega)]; exact c2 g z1 z2 z3 z4
  have gr : ∀ r, r < S.2.1 0 1 → C.1 (100 + r) = S.1 (100 + r) := fun r hr => by rw [n3 _ (by omega), c1, if_neg (by omega)]
  have gF : ∀ r, r < S.2.1 0 1 → C.2.2.2 (1 + r) = S.2.2.2 (1 + r) := fun r hr => by rw [n4 _ (by omega), c3, if_neg (by omega)]
  have hst : ∀ r, std C r → (∃ x, x < hi ∧ r = S.2.1 0 1 + x) ∨ (std S r ∧ r < S.2.1 0 1) := fun r ⟨t', i', z1, z2, z3⟩ => by
    rw [f00] at z1
    rw [f1] at z2
    by_cases z4 : t' = S.2.1 0 0
    · rw [if_pos z4] at z2
      rw [z4, fP2 i' z2] at z3
      cases z3
      exact Or.inl ⟨i', z2, rfl⟩
    · rw [if_neg z4] at z2
      rw [fP t' i' z4] at z3
      have : std S r := ⟨t', i', by omega, z2, z3⟩
      exact Or.inr ⟨this, std_lt k1 this⟩
  have r1 : C.2.1 0 1 ≤ 12 * (n + 1) := by rw [f01]; clear b0 b1 b2 b3 b4 b5 b6 b7 b8 b9 c0 c1 c2 c3 c4 n1 n2 n3 n4; omega
  have r9 := slot_step n
  have r2 : C.2.1 0 2 ≤ 100000 + 500 * (n + 1) := Nat.le_trans f02 (Nat.le_trans (Nat.add_le_add_right k9 432) r9)
  have hCls : Cls C (n + 1) := by
    refine ⟨hWC, fun t' i' r z1 z2 z3 => ?_, fun r j z1 z2 z3 => ?_, fun t' z1 => ?_, fun r j z1 z2 z3 => ?_, by rw [gg 3 (by omega) (by omega) (by omega) (by omega)]; exact k6, ⟨cc, by omega, by rw [gg 0 (by omega) (by omega) (by omega) (by omega)]; exact hc2, fun r z1 => ?_⟩, r1, r2⟩
    · rw [f00] at z1
      rw [f1] at z2
      rw [g5, g1]
      by_cases z4 : t' = S.2.1 0 0
      · rw [if_pos z4] at z2
        rw [z4, fP2 i' z2] at z3
        cases z3
        rw [if_pos (by omega), if_pos z4]
      · rw [if_neg z4] at z2
        rw [fP t' i' z4] at z3
        have := k1.2.2.1 t' i' r (by omega) z3
        rw [if_neg (by omega), if_neg z4]
        exact k2 t' i' r (by omega) z2 z3
    · rw [g5] at z2
      rw [f2] at z3
      rw [f00]
      rcases hst r z1 with ⟨x, z4, z5⟩ | ⟨z4, z5⟩
      · subst z5
        rw [if_pos (by omega)] at z2 z3
        rcases hlnk z2 x j z4 z3 with z6 | ⟨q, z6, z7⟩
        · exact Or.inl z6
        · exact Or.inr ⟨q, by omega, z7⟩
      · rw [if_neg (by omega)] at z2 z3
        rw [gr r z5]
        rcases k3 r j z4 z2 z3 with z6 | ⟨q, z6, z7⟩
        · exact Or.inl z6
        · exact Or.inr ⟨q, by omega, z7⟩
    · rw [f00] at z1
      rw [g1]
      by_cases z4 : t' = S.2.1 0 0
      · rw [if_pos z4]; exact ⟨hk1, hk2⟩
      · rw [if_neg z4]; exact k4 t' (by omega)
    · rw [g5] at z2
      rw [f2] at z3
      rcases hst r z1 with ⟨x, z4, z5⟩ | ⟨z4, z5⟩
      · subst z5
        rw [if_pos (by omega)] at z2 z3
        exact hbit z2 x j z4 z3
      · rw [if_neg (by omega)] at z2 z3
        rw [gr r z5]
        exact k5 r j z4 z2 z3
    · rw [g6]
      rcases hst r z1 with ⟨x, z4, z5⟩ | ⟨z4, z5⟩
      · rw [if_pos (by omega)]; exact ⟨0, by omega, rfl⟩
      · rw [if_neg (by omega)]; exact hc3 r z4
  have hNew' := hNew
  obtain ⟨S1, e1, e2, e3, e4, e5, e6⟩ := hNew
  obtain ⟨h1, h2, h3, h4, h5, h6, h7, h8, h9, h10, h11⟩ := e6
  obtain ⟨m1, m2, m3⟩ := hM
  have hcE : cEq M C := m1.trans (h1.trans e1)
  refine ⟨Cls_congr hcE hCls, fun r => if r < S.2.1 0 1 then nu1 r else R + (r - S.2.1 0 1), Sim_congr mEq.refl hcE ?_⟩
  have nuo : ∀ r, r < S.2.1 0 1 → (if r < S.2.1 0 1 then nu1 r else R + (r - S.2.1 0 1)) = nu1 r := fun r hr => if_pos hr
  have nun : ∀ x, (if S.2.1 0 1 + x < S.2.1 0 1 then nu1 (S.2.1 0 1 + x) else R + (S.2.1 0 1 + x - S.2.1 0 1)) = R + x := fun x => by rw [if_neg (by omega), show S.2.1 0 1 + x - S.2.1 0 1 = x by omega]
  have a0 := gg 0 (by omega) (by omega) (by omega) (by omega)
  obtain ⟨s0, s1, s2, _, s4, s5, s6, s7, s8, ww, hw1, hw2, hw3, hw4⟩ := e2
  have M20 : ∀ q, q ≠ 0 → q ≠ 4 → M.1 20 q = S1.1 20 q := fun q z1 z2 => by rw [m2 20 (by omega)]; exact h4 q z1 z2
  refine ⟨by rw [m2 20 (by omega), h2, f00], fun t' z1 => ?_, fun t' i' z1 z2 => ?_, ⟨R + hi, by omega, by rw [m2 20 (by omega)]; exact h3, fun r z1 => ?_⟩, fun r r2 z1 z2 z3 => ?_, fun r z1 => ?_, fun r j z1 z2 => ?_, by rw [M20 8 (by omega) (by omega), a0]; exact s7, by rw [M20 12 (by omega) (by omega), a0]; exact s8, ww, hw1, by rw [a0]; exact hw2, by rw [M20 10 (by omega) (by omega)]; exact hw3, by rw [m2 47 (by omega), h11 47 (by omega) (by omega), gg 2 (by omega) (by omega) (by omega) (by omega)]; exact hw4⟩
  · rw [f00] at z1
    rw [m2 40 (by omega), m2 41 (by omega), h5, h6, g1, f1]
    by_cases z4 : t' = S.2.1 0 0
    · rw [if_pos z4, if_pos z4, z4, pk_us, pk_us]; exact ⟨rfl, rfl⟩
    · rw [if_neg z4, if_neg z4, pk_un z4, pk_un z4]; exact s1 t' (by omega)
  · rw [f00] at z1
    rw [f1] at z2
    rw [m2 42 (by omega), h7]
    by_cases z4 : t' = S.2.1 0 0
    · rw [if_pos z4] at z2
      rw [z4, fP2 i' z2, if_pos (by omega), show 12 * S.2.1 0 0 + i' - 12 * S.2.1 0 0 = i' by omega]
      show _ = nI (if S.2.1 0 1 + i' < S.2.1 0 1 then nu1 (S.2.1 0 1 + i') else R + (S.2.1 0 1 + i' - S.2.1 0 1))
      rw [nun]
    · rw [if_neg z4] at z2
      have h12 := k1.2.1 t' (by omega)
      rw [fP t' i' z4, if_neg (by omega), if_neg (by omega), s2 t' i' (by omega) z2]
      cases hp : S.2.2.1 t' i' with
      | none => rfl
      | some r =>
        show nI (nu1 r) = nI (if r < S.2.1 0 1 then nu1 r else R + (r - S.2.1 0 1))
        rw [nuo r (k1.2.2.1 t' i' r (by omega) hp)]
  · rcases hst r z1 with ⟨x, z4, z5⟩ | ⟨z4, z5⟩
    · subst z5; show (if _ then _ else _) < _; rw [nun]; omega
    · show (if _ then _ else _) < _; rw [nuo r z5]; have := e5 r z4; omega
  · have z3' : (if r < S.2.1 0 1 then nu1 r else R + (r - S.2.1 0 1)) = (if r2 < S.2.1 0 1 then nu1 r2 else R + (r2 - S.2.1 0 1)) := z3
    rcases hst r z1 with ⟨x, z4, z5⟩ | ⟨z4, z5⟩
    · rcases hst r2 z2 with ⟨x2, y4, y5⟩ | ⟨y4, y5⟩
      · subst z5; subst y5
        rw [nun, nun] at z3'
        omega
      · subst z5
        rw [nun, nuo r2 y5] at z3'
        have := e5 r2 y4
        omega
    · rcases hst r2 z2 with ⟨x2, y4, y5⟩ | ⟨y4, y5⟩
      · subst y5
        rw [nun, nuo r z5] at z3'
        have := e5 r z4
        omega
      · rw [nuo r z5, nuo r2 y5] at z3'
        exact s4 r r2 z4 y4 z3'
  · show M.1 43 (if r < S.2.1 0 1 then nu1 r else R + (r - S.2.1 0 1)) = _
    rw [m2 43 (by omega), h8, f2]
    rcases hst r z1 with ⟨x, z4, z5⟩ | ⟨z4, z5⟩
    · subst z5; rw [nun, if_pos (by omega), if_pos (by omega)]
    · have := e5 r z4
      rw [nuo r z5, if_neg (by omega), if_neg (by omega)]
      exact s5 r z4
  · show celR M C r j (16 * (if r < S.2.1 0 1 then nu1 r else R + (r - S.2.1 0 1)) + j)
    rw [f2] at z2
    rcases hst r z1 with ⟨x, z4, z5⟩ | ⟨z4, z5⟩
    · subst z5
      rw [if_pos (by omega)] at z2
      rw [nun]
      exact hcel x j z4 z2
    · rw [if_neg (by omega)] at z2
      obtain ⟨o1, o2⟩ := hNew'.old k1 z4 z2
      obtain ⟨q1, q2⟩ := m3 _ o2
      rw [nuo r z5]
      unfold celR at o1 ⊢
      rw [g5, if_neg (show ¬ (S.2.1 0 1 ≤ r ∧ r < S.2.1 0 1 + hi) by omega), gr r z5, gF r z5, q1, q2]
      exact o1
theorem st_turned (h : GS S n) : StI X S n m_X2_turned [some (va_rf (some (aO X))), some (.int a), none, none, none, none, none] m_X3_turned [some (va_rf (some (aM X))), some (.int a), none, none, none] := by
  have h' := h
  obtain ⟨hc, nu, hs⟩ := h
  have hW := hc.1
  have h16 := hW.1
  have hK := hc.2.1
  rcases unk_or h16 a with h1 | ⟨t, ht, rfl⟩
  · exact st_same h' (k_turned_unk (d := 196) h1) (q_turned_unk (d := 197) hs.1 h16 h1)
  have v1 := hs.tv hW ht
  by_cases c1 : evn S t ∧ wid S t ≤ 12
  · by_cases hf : S.2.1 0 0 = 16
    · exact st_same h' (k_turned_room (d := 196) hW ht c1.1 c1.2 hf) (q_turned_room (d := 197) hs.1 hf ht v1 c1.1 c1.2)
    · have hf' : S.2.1 0 0 < 16 := by omega
      have h12 := hW.2.1 t (by omega)
      obtain ⟨C, e1, e2, e3⟩ := k_turned_ok (X := X) (d := 195) hW hK ht c1.1 c1.2 hf'
      have hmC : mEq C S := by
        obtain ⟨b0, b1, b2, b3, b4, b5, b6, b7, b8, b9, c0, c1', c2, c3, c4⟩ := bwS_all (S := S) (k := S.1 1 t) (hi := wid S t) (w := S.2.1 1 t) c1.2
        exact ⟨fun g z1 z2 => by rw [e2.2.2.1 g (by omega)]; exact c2 g (by omega) (by omega) (by omega) (by omega), by rw [e2.2.2.2 0 (by omega)]; exact c4⟩
      obtain ⟨nu1, R, M2, M, f1, f2, f3, f4⟩ := q_turned_ok (X := X) (d := 197) hW (Sim_congr hmC cEq.refl hs) ht c1.1 c1.2 hf'
      have hrow : ∀ y, y < S.2.1 1 t → ∃ r, S.2.2.1 t y = some r ∧ S.2.1 2 r = wid S t := fun y hy => evn_row c1.1 hy
      refine ⟨_, _, _, e1, f1, GS_new hc hf' c1.2 (by omega) (hc.2.2.2.1 t ht).1 (hc.2.2.2.1 t ht).2 e2 f2 f3 (fun x y hx hy => ?_) (fun hk x y hx hy => ?_) (fun hk x y hx hy => ?_)⟩
      · obtain ⟨r, hp, hlen⟩ := hrow y hy
        have hst : std S r := ⟨t, y, ht, hy, hp⟩
        obtain ⟨o1, o2⟩ := f2.old hW hst (j := x) (by omega)
        obtain ⟨q1, q2⟩ := f4 x y hx hy
        obtain ⟨p1, p2⟩ := e3 x y r hx hy hp
        have kr := hK t y r ht hy hp
        have q1' : M.1 44 (16 * (R + x) + y) = M2.1 44 (16 * nu1 (rowAt S t y) + x) := q1
        have q2' : M.2.2.2 0 (16 * (R + x) + y) = M2.2.2.2 0 (16 * nu1 (rowAt S t y) + x) := q2
        rw [rowAt_s hp] at q1' q2'
        unfold celR at o1 ⊢
        rw [new_5 c1.2 e2 hx, q1', q2', p1]
        rw [kr] at o1
        by_cases c2 : S.1 1 t = 2
        · rw [p2 c2]; exact o1
        · rw [if_neg c2] at o1 ⊢; exact o1
      · obtain ⟨r, hp, hlen⟩ := hrow y hy
        obtain ⟨p1, p2⟩ := e3 x y r hx hy hp
        rw [p1]
        exact hc.2.2.2.2.1 r x ⟨t, y, ht, hy, hp⟩ ((hK t y r ht hy hp).trans hk) (by omega)
      · obtain ⟨r, hp, hlen⟩ := hrow y hy
        obtain ⟨p1, p2⟩ := e3 x y r hx hy hp
        rw [p1]
        exact hc.2.2.1 r x ⟨t, y, ht, hy, hp⟩ ((hK t y r ht hy hp).trans hk) (by omega)
  · exact st_same h' (k_turned_state (d := 196) hW ht c1) (q_turned_state (d := 197) hs.1 h16 ht v1 c1)
theorem Dst_one {E : Nat → Nat → Prop} {k : Nat} {u v : Int32} {x y : Nat} (h1 : Dst E k x y u) (h2 : Dst E k x y v) : u = v := by
  rcases h1 with ⟨a1, a2⟩ | ⟨d, a1, a2, a3, a4⟩
  · rcases h2 with ⟨b1, b2⟩ | ⟨d2, b1, b2, b3, b4⟩
    · rw [a1, b1]
    · exact absurd b3 (a2 d2)
  · rcases h2 with ⟨b1, b2⟩ | ⟨d2, b1, b2, b3, b4⟩
    · exact absurd a3 (b2 d)
    · have q1 := a4 d2 b3
      have q2 := b4 d a3
      have : d = d2 := by omega
      rw [a2, b2, this]
theorem st_dist (h : GS S n) : StI X S n m_X2_distances [some (va_rf (some (aO X))), some (.int a), none, none, none, none, none] m_X3_distances [some (va_rf (some (aM X))), some (.int a), none, none, none, none, none, none, none] := by
  have h' := h
  obtain ⟨hc, nu, hs⟩ := h
  have hW := hc.1
  have h16 := hW.1
  have hK := hc.2.1
  rcases unk_or h16 a with h1 | ⟨t, ht, rfl⟩
  · exact st_same h' (k_dist_unk (d := 195) h1) (q_dist_unk (d := 197) hs.1 h16 h1)
  have v1 := hs.tv hW ht
  by_cases c1 : S.1 1 t = 0 ∧ sqr S t
  · by_cases hf : S.2.1 0 0 = 16
    · exact st_same h' (k_dist_room (d := 195) hW ht c1.1 c1.2 hf) (q_dist_room (d := 197) hs.1 hf ht v1 c1.1 c1.2)
    · have hf' : S.2.1 0 0 < 16 := by omega
      have h12 := hW.2.1 t (by omega)
      obtain ⟨C, e1, e2, e3⟩ := k_dist_ok (X := X) (d := 195) hW ht c1.1 c1.2 hf'
      have hmC : mEq C S := by
        obtain ⟨b0, b1, b2, b3, b4, b5, b6, b7, b8, b9, c0, c1', c2, c3, c4⟩ := bwS_all (S := S) (k := 1) (hi := S.2.1 1 t) (w := S.2.1 1 t) h12
        exact ⟨fun g z1 z2 => by rw [e2.2.2.1 g (by omega)]; exact c2 g (by omega) (by omega) (by omega) (by omega), by rw [e2.2.2.2 0 (by omega)]; exact c4⟩
      obtain ⟨nu1, R, M2, M, f1, f2, f3, f4⟩ := q_dist_ok (X := X) (d := 197) hW (Sim_congr hmC cEq.refl hs) ht c1.1 c1.2 hf'
      have hE : mE M2 (S.2.1 1 t) (fun y => nu1 (rowAt S t y)) = stE S t (S.2.1 1 t) := by
        funext x y
        refine propext (and_congr_right fun hx => and_congr_right fun hy => ?_)
        obtain ⟨r, hp, hlen⟩ := c1.2 x hx
        have hst : std S r := ⟨t, x, ht, hx, hp⟩
        have kr := (hK t x r ht hx hp).trans c1.1
        obtain ⟨o1, o2⟩ := f2.old hW hst (j := y) (by omega)
        unfold celR at o1
        rw [if_neg (by rw [kr]; decide)] at o1
        show M2.1 44 (16 * nu1 (rowAt S t x) + y) = 1 ↔ ¬ S.1 (100 + rowAt S t x) y = 0
        rw [rowAt_s hp, o1]
        rcases hc.2.2.2.2.1 r y hst kr (by omega) with q | q
        · rw [q]; exact ⟨fun z => absurd z (by decide), fun z => absurd rfl z⟩
        · rw [q]; exact ⟨fun _ => by decide, fun _ => rfl⟩
      refine ⟨_, _, _, e1, f1, GS_new hc hf' h12 (by omega) (by decide) (by decide) e2 f2 f3.1 (fun x y hx hy => ?_) (fun hk => absurd hk (by decide)) (fun hk => absurd hk (by decide))⟩
      have g1 := e3 x y hx hy
      have g2 := f4 x y hx hy
      rw [hE] at g2
      unfold celR
      rw [new_5 h12 e2 hx, if_neg (by decide)]
      exact Dst_one g2 g1
  · exact st_same h' (k_dist_state (d := 195) hW ht c1) (q_dist_state (d := 197) hs.1 h16 ht v1 c1)
end GL6
