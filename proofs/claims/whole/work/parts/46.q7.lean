/-! The reference: distances, level by level. -/
theorem pigeon : ∀ (n : Nat) (g : Nat → Nat), (∀ i, i ≤ n → g i < n) → ∃ i j, i < j ∧ j ≤ n ∧ g i = g j := by
  intro n
  induction n with
  | zero => intro g h; have := h 0 (Nat.le_refl _); omega
  | succ n ih =>
    intro g h
    by_cases hc : ∃ i, i ≤ n ∧ g i = g (n + 1)
    · obtain ⟨i, h1, h2⟩ := hc
      exact ⟨i, n + 1, by omega, Nat.le_refl _, h2⟩
    · have hne : ∀ i, i ≤ n → g i ≠ g (n + 1) := fun i h1 h2 => hc ⟨i, h1, h2⟩
      obtain ⟨i, j, h1, h2, h3⟩ := ih (fun i => if g i < g (n + 1) then g i else g i - 1) (fun i hi => by
        have a1 := hne i hi
        have a2 := h i (by omega)
        have a3 := h (n + 1) (Nat.le_refl _)
        show (if g i < g (n + 1) then g i else g i - 1) < n
        split <;> omega)
      refine ⟨i, j, h1, by omega, ?_⟩
      have a1 := hne i (by omega)
      have a2 := hne j h2
      have h3' : (if g i < g (n + 1) then g i else g i - 1) = (if g j < g (n + 1) then g j else g j - 1) := h3
      split at h3' <;> split at h3' <;> omega
section Q70
variable {X : I_X} {S B S0 S1 A S2 S3 : St} {nu nu1 ro ro2 : Nat → Nat} {d t t2 u r r2 i j n m g R tc hi w p q l l2 b0 xx dd kk : Nat} {a b c e v x y z k : Int32} {f f0 wd V V2 : Nat → Int32} {E : Nat → Nat → Prop}
/-- the ways of source x: what stands in level dd when (z, y') before (k, y) are done -/
def BF (E : Nat → Nat → Prop) (n x : Nat) (V : Nat → Int32) (dd k y : Nat) : Prop := V x = 0 ∧ (∀ y', y' < n → V y' = -1 ∨ ∃ e, e ≤ dd + 1 ∧ V y' = nI e ∧ Wk E n e x y') ∧ (∀ y' e, y' < n → e < 100 → V y' = nI (e + 1) → ∃ z, z < n ∧ V z = nI e) ∧ ∀ z y' e, z < n → y' < n → e ≤ dd → V z = nI e → (e < dd ∨ z < k ∨ (z = k ∧ y' < y)) → E z y' → ∃ e', e' ≤ e + 1 ∧ V y' = nI e'
theorem BF_set (hn : n ≤ 12) (hdd : dd < n) (hk : kk < n) (hj : j < n) (h : BF E n xx V dd kk j) (hV : V kk = nI dd) (hE : E kk j) (hm : V j = -1) (hV2 : ∀ q, q < n → V2 q = if q = j then nI (dd + 1) else V q) (hx : xx < n) : BF E n xx V2 dd kk (j + 1) := by
  obtain ⟨h1, h2, h3, h4⟩ := h
  have hjx : j ≠ xx := fun z => by rw [z, h1] at hm; exact absurd hm (by decide)
  have hjk : j ≠ kk := fun z => by rw [z, hV] at hm; exact nI_m1 (by omega) hm
  have keep : ∀ q e, q < n → V q = nI e → e < 100 → V2 q = nI e := fun q e hq he h100 => by
    rw [hV2 q hq, if_neg (fun z => by rw [z, hm] at he; exact nI_m1 (n := e) (by omega) he.symm)]; exact he
  have wk : Wk E n dd xx kk := by
    rcases h2 kk hk with z | ⟨e, e1, e2, e3⟩
    · rw [hV] at z; exact absurd z (nI_m1 (by omega))
    · rw [hV] at e2
      have := (nI_eq (by omega) (by omega)).mp e2
      rw [this]; exact e3
  refine ⟨by rw [hV2 xx hx, if_neg (fun z => hjx z.symm)]; exact h1, fun y' hy' => ?_, fun y' e hy' he hv => ?_, fun z y' e hz hy' he hv hp hE' => ?_⟩
  · rw [hV2 y' hy']
    by_cases z : y' = j
    · subst z; rw [if_pos rfl]; exact Or.inr ⟨dd + 1, Nat.le_refl _, rfl, kk, wk, Or.inr hk, hE⟩
    · rw [if_neg z]; exact h2 y' hy'
  · rw [hV2 y' hy'] at hv
    by_cases z : y' = j
    · rw [if_pos z] at hv
      have : dd + 1 = e + 1 := (nI_eq (by omega) (by omega)).mp hv
      exact ⟨kk, hk, keep kk e hk (by rw [hV]; congr 1; omega) he⟩
    · rw [if_neg z] at hv
      obtain ⟨q, q1, q2⟩ := h3 y' e hy' he hv
      exact ⟨q, q1, keep q e q1 q2 he⟩
  · rw [hV2 z hz] at hv
    by_cases zj : z = j
    · rw [if_pos zj] at hv
      have := (nI_eq (by omega) (by omega)).mp hv
      omega
    · rw [if_neg zj] at hv
      by_cases yj : y' = j
      · have hb : dd ≤ e ∨ e < dd := by omega
        rcases Nat.lt_or_ge e dd with c | c
        · obtain ⟨e', q1, q2⟩ := h4 z y' e hz hy' he hv (Or.inl c) hE'
          rw [yj, hm] at q2
          exact absurd q2.symm (nI_m1 (by omega))
        · exact ⟨dd + 1, by omega, by rw [hV2 y' hy', if_pos yj]⟩
      · obtain ⟨e', q1, q2⟩ := h4 z y' e hz hy' he hv (by omega) hE'
        exact ⟨e', q1, keep y' e' hy' q2 (by omega)⟩
theorem BF_skip (h : BF E n xx V dd kk j) (hs : V kk = nI dd → E kk j → V j ≠ -1) (hn : n ≤ 12) (hdd : dd < n) (hj : j < n) : BF E n xx V dd kk (j + 1) := by
  obtain ⟨h1, h2, h3, h4⟩ := h
  refine ⟨h1, h2, h3, fun z y' e hz hy' he hv hp hE' => ?_⟩
  by_cases c : z = kk ∧ y' = j ∧ e = dd
  · obtain ⟨c1, c2, c3⟩ := c
    subst c1; subst c2; subst c3
    rcases h2 y' hy' with w | ⟨e', q1, q2, _⟩
    · exact absurd w (hs hv hE')
    · exact ⟨e', q1, q2⟩
  · exact h4 z y' e hz hy' he hv (by omega) hE'
theorem BF_row (h : BF E n xx V dd kk n) : BF E n xx V dd (kk + 1) 0 := by
  obtain ⟨h1, h2, h3, h4⟩ := h
  exact ⟨h1, h2, h3, fun z y' e hz hy' he hv hp hE' => h4 z y' e hz hy' he hv (by omega) hE'⟩
theorem BF_none (h : BF E n xx V dd kk j) (hv : V kk ≠ nI dd) : BF E n xx V dd (kk + 1) 0 := by
  obtain ⟨h1, h2, h3, h4⟩ := h
  refine ⟨h1, h2, h3, fun z y' e hz hy' he hv' hp hE' => ?_⟩
  by_cases c : z = kk ∧ e = dd
  · obtain ⟨c1, c2⟩ := c
    subst c1; subst c2
    exact absurd hv' hv
  · exact h4 z y' e hz hy' he hv' (by omega) hE'
theorem BF_lev (h : BF E n xx V dd n 0) : BF E n xx V (dd + 1) 0 0 := by
  obtain ⟨h1, h2, h3, h4⟩ := h
  refine ⟨h1, fun y' hy' => (h2 y' hy').imp id (fun ⟨e, q1, q2, q3⟩ => ⟨e, by omega, q2, q3⟩), h3, fun z y' e hz hy' he hv hp hE' => ?_⟩
  exact h4 z y' e hz hy' (by omega) hv (by omega) hE'
/-- all levels done: these are the least numbers of steps -/
theorem BF_end (hn : n ≤ 12) (hx : xx < n) (hE : ∀ z y, E z y → z < n ∧ y < n) (h1 : V xx = 0) (h2 : ∀ y', y' < n → V y' = -1 ∨ ∃ e, e ≤ n ∧ V y' = nI e ∧ Wk E n e xx y') (h3 : ∀ y' e, y' < n → e < 100 → V y' = nI (e + 1) → ∃ z, z < n ∧ V z = nI e) (h4 : ∀ z y' e, z < n → y' < n → e < n → V z = nI e → E z y' → ∃ e', e' ≤ e + 1 ∧ V y' = nI e') : ∀ y, y < n → Dst E n xx y (V y) := by
  have no : ∀ y, y < n → V y ≠ nI n := by
    intro y hy hv
    have down : ∀ m e, e + m = n → ∃ z, z < n ∧ V z = nI e := by
      intro m
      induction m with
      | zero => intro e he; exact ⟨y, hy, by rw [hv]; congr 1; omega⟩
      | succ m ih =>
        intro e he
        obtain ⟨z, q1, q2⟩ := ih (e + 1) (by omega)
        exact h3 z e q1 (by omega) q2
    have ch : ∀ e, ∃ z, e ≤ n → z < n ∧ V z = nI e := fun e => by
      by_cases c : e ≤ n
      · obtain ⟨z, q⟩ := down (n - e) e (by omega)
        exact ⟨z, fun _ => q⟩
      · exact ⟨0, fun q => absurd q c⟩
    obtain ⟨i, j, a1, a2, a3⟩ := pigeon n (fun e => (ch e).choose) (fun e he => ((ch e).choose_spec he).1)
    have e1 := ((ch i).choose_spec (by omega)).2
    have e2 := ((ch j).choose_spec a2).2
    have a3' : (ch i).choose = (ch j).choose := a3
    rw [a3', e2] at e1
    have := (nI_eq (by omega) (by omega)).mp e1
    omega
  have comp : ∀ L y, Wk E n L xx y → y < n ∧ ∃ e, e ≤ L ∧ e ≤ n ∧ V y = nI e := by
    intro L
    induction L with
    | zero =>
      intro y h
      have : xx = y := h
      subst this
      exact ⟨hx, 0, Nat.le_refl _, Nat.zero_le _, by rw [h1]; rfl⟩
    | succ L ih =>
      rintro y ⟨z, q1, q2, q3⟩
      obtain ⟨hz, e, e1, e0, e2⟩ := ih z q1
      have hy := (hE z y q3).2
      have : e < n := by
        rcases Nat.lt_or_ge e n with c | c
        · exact c
        · exact absurd (by rw [e2]; congr 1; omega) (no z hz)
      obtain ⟨e', p1, p2⟩ := h4 z y e hz hy this e2 q3
      exact ⟨hy, e', by omega, by omega, p2⟩
  intro y hy
  rcases h2 y hy with w | ⟨e, w1, w2, w3⟩
  · refine Or.inl ⟨w, fun L hL => ?_⟩
    obtain ⟨_, e, e1, e0, e2⟩ := comp L y hL
    rw [w] at e2
    exact nI_m1 (n := e) (by omega) e2.symm
  · refine Or.inr ⟨e, ?_, w2, w3, fun L hL => ?_⟩
    · have : n < 2 ^ n := Nat.lt_two_pow_self
      omega
    · obtain ⟨_, e', e1, e0, e2⟩ := comp L y hL
      rw [w2] at e2
      have := (nI_eq (by omega) (by omega)).mp e2
      omega
/-- the reference's cell (x, y) of the new table -/
def cellV (S : St) (R x y : Nat) : Int32 := S.1 44 (16 * (R + x) + y)
/-- only whole cells from row R on have changed -/
def ND (B S : St) (R : Nat) : Prop := NM B S R ∧ S.2.2.2 0 = B.2.2.2 0
theorem ND_set (h : ND B S R) (hp : 16 * R ≤ p) : ND B (sI S 44 (upd (S.1 44) p v)) R := by
  obtain ⟨⟨c1, c2, c3⟩, c4⟩ := h
  refine ⟨⟨(cEq_sI (by omega) (by omega)).trans c1, fun g hg => by rw [sI_ne hg]; exact c2 g hg, fun q hq => ?_⟩, c4⟩
  rw [sI_g, pk_un (by omega)]
  exact ⟨(c3 q hq).1, by rw [sI_2]; exact (c3 q hq).2⟩
theorem cellV_set {x2 y2 : Nat} (hy : j < 16) (hy2 : y2 < 16) : cellV (sI S 44 (upd (S.1 44) (16 * (R + i) + j) v)) R x2 y2 = if x2 = i ∧ y2 = j then v else cellV S R x2 y2 := by
  unfold cellV
  rw [sI_g]
  by_cases c : x2 = i ∧ y2 = j
  · rw [if_pos c, c.1, c.2, pk_us]
  · rw [if_neg c, pk_un (by omega)]
theorem q_d1 (hB : Mok B R t u n n ro) (hx : i < n) : ∀ m y l6 l7 l8 (S : St), y + m = n → ND B S R → (∀ y', y' < y → cellV S R i y' = if i = y' then 0 else -1) → ∃ S', ev X (d + 1) m_X3_distances 76 [some (va_rf (some (aM X))), some (.int (nI t)), some (.int (nI n)), some (.int (nI u)), some (.int (nI i)), some (.int (nI y)), l6, l7, l8] [] (rp X S) = ev X (d + 1) m_X3_distances 114 [some (va_rf (some (aM X))), some (.int (nI t)), some (.int (nI n)), some (.int (nI u)), some (.int (nI i)), some (.int (nI n)), l6, l7, l8] [] (rp X S') ∧ ND B S' R ∧ (∀ y', y' < n → cellV S' R i y' = if i = y' then 0 else -1) ∧ ∀ x' y', x' ≠ i → y' < n → cellV S' R x' y' = cellV S R x' y' := by
  obtain ⟨ht, hu, hh, hn, hR, b1, b2, b3, b4⟩ := hB
  intro m
  induction m with
  | zero =>
    intro y l6 l7 l8 S hy hN hV
    have e : y = n := by omega
    subst e
    have h1 : nI y ≤ nI y := nI_le (Nat.le_refl _) (by omega)
    refine ⟨S, ?_, hN, hV, fun _ _ _ _ => rfl⟩
    rw [e_X3_distances_76]
    simp only [e_X3_distances_78, e_X3_distances_79, e_X3_distances_82, e_X3_distances_83, e_X3_distances_86, e_X3_distances_87, e_X3_distances_88, e_X3_distances_90, e_X3_distances_92, e_X3_distances_95, e_X3_distances_97, e_X3_distances_99, e_X3_distances_102, e_X3_distances_103, e_X3_distances_106, e_X3_distances_107, e_X3_distances_108, e_X3_distances_111, Option.bind_some, Option.bind_none, Option.toList_some, Option.toList_none, List.cons_append, List.nil_append, I_z, I_i8, I_q8, I_i7, I_q7, I_i6, I_q6, I_i5, I_q5, I_i4, I_q4, I_i3, I_q3, I_i2, I_q2, I_i1, I_q1, I_w8, I_w7, I_w6, I_w5, I_w4, I_w3, I_w2, I_c2n, I_c2i, I_c2q, eq_self, or_true, true_or, and_true, true_and, if_true, if_false, not_false_eq_true, not_true_eq_false, Option.map_none, Option.map_some, reduceCtorEq, isM, gM_0, gM_1, gM_2, gM_3, gM_4, gM_5, gM_6, gM_7, gM_8, gM_9, gM_10, gM_11, gM_12, gM_13, gM_14, gM_15, gM_16, gM_17, gM_18, gM_19, gM_20, lA0, lA1, lA2, lA3, lA4, lA5, lA6, lA7, lA8, lA9, lA10, lA11, lA12, nI_1, nI_add, n12, n16, sI_2, h1]
  | succ m ih =>
    intro y l6 l7 l8 S hy hN hV
    have h1 : ¬ nI n ≤ nI y := nI_ge (by omega) (by omega)
    have p1 : S.1 42 (12 * u + i) = nI (R + i) := by rw [hN.1.2.1 42 (by omega)]; exact b3 i hx
    have i12 : i < 12 := by omega
    have hb1 : 16 * (R + i) + y < 14400 := by omega
    have go : ∀ v, (v = if i = y then 0 else -1) → ev X (d + 1) m_X3_distances 76 [some (va_rf (some (aM X))), some (.int (nI t)), some (.int (nI n)), some (.int (nI u)), some (.int (nI i)), some (.int (nI y)), l6, l7, l8] [] (rp X S) = ev X (d + 1) m_X3_distances 76 [some (va_rf (some (aM X))), some (.int (nI t)), some (.int (nI n)), some (.int (nI u)), some (.int (nI i)), some (.int (nI (y + 1))), l6, l7, l8] [] (rp X (sI S 44 (upd (S.1 44) (16 * (R + i) + y) v))) := by
      intro v hv
      by_cases c : i = y
      · rw [if_pos c] at hv
        subst hv; subst c
        rw [e_X3_distances_76]
        simp only [e_X3_distances_78, e_X3_distances_79, e_X3_distances_82, e_X3_distances_83, e_X3_distances_86, e_X3_distances_87, e_X3_distances_88, e_X3_distances_90, e_X3_distances_92, e_X3_distances_95, e_X3_distances_97, e_X3_distances_99, e_X3_distances_102, e_X3_distances_103, e_X3_distances_106, e_X3_distances_107, e_X3_distances_108, e_X3_distances_111, Option.bind_some, Option.bind_none, Option.toList_some, Option.toList_none, List.cons_append, List.nil_append, I_z, I_i8, I_q8, I_i7, I_q7, I_i6, I_q6, I_i5, I_q5, I_i4, I_q4, I_i3, I_q3, I_i2, I_q2, I_i1, I_q1, I_w8, I_w7, I_w6, I_w5, I_w4, I_w3, I_w2, I_c2n, I_c2i, I_c2q, eq_self, or_true, true_or, and_true, true_and, if_true, if_false, not_false_eq_true, not_true_eq_false, Option.map_none, Option.map_some, reduceCtorEq, isM, gM_0, gM_1, gM_2, gM_3, gM_4, gM_5, gM_6, gM_7, gM_8, gM_9, gM_10, gM_11, gM_12, gM_13, gM_14, gM_15, gM_16, gM_17, gM_18, gM_19, gM_20, lA0, lA1, lA2, lA3, lA4, lA5, lA6, lA7, lA8, lA9, lA10, lA11, lA12, nI_1, nI_add, n12, n16, sI_2, h1, q_cellOf hu i12 p1, hb1, uA4]
      · rw [if_neg c] at hv
        have c2 : ¬ nI i = nI y := fun q => c ((nI_eq (by omega) (by omega)).mp q)
        subst hv
        rw [e_X3_distances_76]
        simp only [e_X3_distances_78, e_X3_distances_79, e_X3_distances_82, e_X3_distances_83, e_X3_distances_86, e_X3_distances_87, e_X3_distances_88, e_X3_distances_90, e_X3_distances_92, e_X3_distances_95, e_X3_distances_97, e_X3_distances_99, e_X3_distances_102, e_X3_distances_103, e_X3_distances_106, e_X3_distances_107, e_X3_distances_108, e_X3_distances_111, Option.bind_some, Option.bind_none, Option.toList_some, Option.toList_none, List.cons_append, List.nil_append, I_z, I_i8, I_q8, I_i7, I_q7, I_i6, I_q6, I_i5, I_q5, I_i4, I_q4, I_i3, I_q3, I_i2, I_q2, I_i1, I_q1, I_w8, I_w7, I_w6, I_w5, I_w4, I_w3, I_w2, I_c2n, I_c2i, I_c2q, eq_self, or_true, true_or, and_true, true_and, if_true, if_false, not_false_eq_true, not_true_eq_false, Option.map_none, Option.map_some, reduceCtorEq, isM, gM_0, gM_1, gM_2, gM_3, gM_4, gM_5, gM_6, gM_7, gM_8, gM_9, gM_10, gM_11, gM_12, gM_13, gM_14, gM_15, gM_16, gM_17, gM_18, gM_19, gM_20, lA0, lA1, lA2, lA3, lA4, lA5, lA6, lA7, lA8, lA9, lA10, lA11, lA12, nI_1, nI_add, n12, n16, sI_2, h1, q_cellOf hu i12 p1, hb1, c2, uA4]
    obtain ⟨S', f1, f2, f3, f4⟩ := ih (y + 1) l6 l7 l8 _ (by omega) (ND_set (v := if i = y then 0 else -1) (p := 16 * (R + i) + y) hN (by omega)) (fun y' hy' => by
      rw [cellV_set (by omega) (by omega)]
      by_cases c : y' = y
      · rw [if_pos ⟨rfl, c⟩, c]
      · rw [if_neg (fun q => c q.2)]; exact hV y' (by omega))
    refine ⟨S', (go _ rfl).trans f1, f2, f3, fun x' y' hx' hy' => ?_⟩
    rw [f4 x' y' hx' hy', cellV_set (by omega) (by omega), if_neg (fun q => hx' q.1)]
/-- the steps in the reference -/
def mE (B : St) (n : Nat) (ro : Nat → Nat) (z y : Nat) : Prop := z < n ∧ y < n ∧ B.1 44 (16 * ro z + y) = 1
theorem q_d5 (hB : Mok B R t u n n ro) (hx : i < n) (hdd : dd < n) (hk : kk < n) : ∀ m y l8 (S : St), y + m = n → ND B S R → cellV S R i kk = nI dd → BF (mE B n ro) n i (cellV S R i) dd kk y → ∃ S' l8', ev X (d + 1) m_X3_distances 135 [some (va_rf (some (aM X))), some (.int (nI t)), some (.int (nI n)), some (.int (nI u)), some (.int (nI i)), some (.int (nI dd)), some (.int (nI kk)), some (.int (nI y)), l8] [] (rp X S) = ev X (d + 1) m_X3_distances 249 [some (va_rf (some (aM X))), some (.int (nI t)), some (.int (nI n)), some (.int (nI u)), some (.int (nI i)), some (.int (nI dd)), some (.int (nI kk)), some (.int (nI n)), l8'] [] (rp X S') ∧ ND B S' R ∧ BF (mE B n ro) n i (cellV S' R i) dd kk n ∧ ∀ x' y', x' ≠ i → y' < n → cellV S' R x' y' = cellV S R x' y' := by
  obtain ⟨ht, hu, hh, hn, hR, b1, b2, b3, b4⟩ := hB
  intro m
  induction m with
  | zero =>
    intro y l8 S hy hN _ hF
    have e : y = n := by omega
    subst e
    have h1 : nI y ≤ nI y := nI_le (Nat.le_refl _) (by omega)
    refine ⟨S, l8, ?_, hN, hF, fun _ _ _ _ => rfl⟩
    rw [e_X3_distances_135]
    simp only [e_X3_distances_137, e_X3_distances_138, e_X3_distances_141, e_X3_distances_142, e_X3_distances_145, e_X3_distances_146, e_X3_distances_147, e_X3_distances_149, e_X3_distances_151, e_X3_distances_154, e_X3_distances_155, e_X3_distances_157, e_X3_distances_160, e_X3_distances_161, e_X3_distances_164, e_X3_distances_165, e_X3_distances_166, e_X3_distances_168, e_X3_distances_170, e_X3_distances_173, e_X3_distances_174, e_X3_distances_175, e_X3_distances_178, e_X3_distances_179, e_X3_distances_182, e_X3_distances_183, e_X3_distances_184, e_X3_distances_186, e_X3_distances_188, e_X3_distances_191, e_X3_distances_192, e_X3_distances_193, e_X3_distances_196, e_X3_distances_197, e_X3_distances_200, e_X3_distances_201, e_X3_distances_203, e_X3_distances_204, e_X3_distances_207, e_X3_distances_208, e_X3_distances_209, e_X3_distances_211, e_X3_distances_213, e_X3_distances_216, e_X3_distances_218, e_X3_distances_221, e_X3_distances_223, e_X3_distances_224, e_X3_distances_225, e_X3_distances_228, e_X3_distances_229, e_X3_distances_232, e_X3_distances_233, e_X3_distances_234, e_X3_distances_236, e_X3_distances_238, e_X3_distances_241, e_X3_distances_242, e_X3_distances_243, e_X3_distances_246, Option.bind_some, Option.bind_none, Option.toList_some, Option.toList_none, List.cons_append, List.nil_append, I_z, I_i8, I_q8, I_i7, I_q7, I_i6, I_q6, I_i5, I_q5, I_i4, I_q4, I_i3, I_q3, I_i2, I_q2, I_i1, I_q1, I_w8, I_w7, I_w6, I_w5, I_w4, I_w3, I_w2, I_c2n, I_c2i, I_c2q, eq_self, or_true, true_or, and_true, true_and, if_true, if_false, not_false_eq_true, not_true_eq_false, Option.map_none, Option.map_some, reduceCtorEq, isM, gM_0, gM_1, gM_2, gM_3, gM_4, gM_5, gM_6, gM_7, gM_8, gM_9, gM_10, gM_11, gM_12, gM_13, gM_14, gM_15, gM_16, gM_17, gM_18, gM_19, gM_20, lA0, lA1, lA2, lA3, lA4, lA5, lA6, lA7, lA8, lA9, lA10, lA11, lA12, nI_1, nI_add, n12, n16, sI_2, h1]
  | succ m ih =>
    intro y l8 S hy hN hV hF
    have h1 : ¬ nI n ≤ nI y := nI_ge (by omega) (by omega)
    obtain ⟨w1, w2⟩ := b4 kk hk
    have p1 : S.1 42 (12 * u + i) = nI (R + i) := by rw [hN.1.2.1 42 (by omega)]; exact b3 i hx
    have p2 : S.1 42 (12 * t + kk) = nI (ro kk) := by rw [hN.1.2.1 42 (by omega)]; exact w1
    have i12 : i < 12 := by omega
    have k12 : kk < 12 := by omega
    have hb1 : 16 * (R + i) + y < 14400 := by omega
    have hb2 : 16 * (R + i) + kk < 14400 := by omega
    have hb3 : 16 * ro kk + y < 14400 := by omega
    have q1 : S.1 44 (16 * (R + i) + kk) = nI dd := hV
    have q2 : S.1 44 (16 * ro kk + y) = B.1 44 (16 * ro kk + y) := (hN.1.2.2 _ (by omega)).1
    have same : sI S 44 (upd (S.1 44) (16 * (R + i) + y) (S.1 44 (16 * (R + i) + y))) = S := by
      have : upd (S.1 44) (16 * (R + i) + y) (S.1 44 (16 * (R + i) + y)) = S.1 44 := by
        funext q
        unfold upd
        by_cases c : q = 16 * (R + i) + y
        · rw [if_pos c, c]
        · rw [if_neg c]
      rw [this, sI_self]
    by_cases c1 : B.1 44 (16 * ro kk + y) = 1
    · by_cases c2 : S.1 44 (16 * (R + i) + y) = -1
      · have hF2 := BF_set (V2 := cellV (sI S 44 (upd (S.1 44) (16 * (R + i) + y) (nI (dd + 1)))) R i) (j := y) hn hdd hk (by omega) hF hV (show mE B n ro kk y from ⟨hk, by omega, c1⟩) c2 (fun q hq => by
          rw [cellV_set (by omega) (by omega)]
          by_cases c : q = y
          · rw [if_pos ⟨rfl, c⟩, if_pos c]
          · rw [if_neg (fun z => c z.2), if_neg c]) hx
        have hyk : y ≠ kk := fun z => by rw [z, q1] at c2; exact nI_m1 (by omega) c2
        obtain ⟨S', l8', f1, f2, f3, f4⟩ := ih (y + 1) (some (.int 1)) _ (by omega) (ND_set (v := nI (dd + 1)) (p := 16 * (R + i) + y) hN (by omega)) (by rw [cellV_set (by omega) (by omega), if_neg (fun z => hyk z.2.symm)]; exact hV) hF2
        refine ⟨S', l8', ?_, f2, f3, fun x' y' hx' hy' => by rw [f4 x' y' hx' hy', cellV_set (by omega) (by omega), if_neg (fun z => hx' z.1)]⟩
        rw [← f1, e_X3_distances_135]
        simp only [e_X3_distances_137, e_X3_distances_138, e_X3_distances_141, e_X3_distances_142, e_X3_distances_145, e_X3_distances_146, e_X3_distances_147, e_X3_distances_149, e_X3_distances_151, e_X3_distances_154, e_X3_distances_155, e_X3_distances_157, e_X3_distances_160, e_X3_distances_161, e_X3_distances_164, e_X3_distances_165, e_X3_distances_166, e_X3_distances_168, e_X3_distances_170, e_X3_distances_173, e_X3_distances_174, e_X3_distances_175, e_X3_distances_178, e_X3_distances_179, e_X3_distances_182, e_X3_distances_183, e_X3_distances_184, e_X3_distances_186, e_X3_distances_188, e_X3_distances_191, e_X3_distances_192, e_X3_distances_193, e_X3_distances_196, e_X3_distances_197, e_X3_distances_200, e_X3_distances_201, e_X3_distances_203, e_X3_distances_204, e_X3_distances_207, e_X3_distances_208, e_X3_distances_209, e_X3_distances_211, e_X3_distances_213, e_X3_distances_216, e_X3_distances_218, e_X3_distances_221, e_X3_distances_223, e_X3_distances_224, e_X3_distances_225, e_X3_distances_228, e_X3_distances_229, e_X3_distances_232, e_X3_distances_233, e_X3_distances_234, e_X3_distances_236, e_X3_distances_238, e_X3_distances_241, e_X3_distances_242, e_X3_distances_243, e_X3_distances_246, Option.bind_some, Option.bind_none, Option.toList_some, Option.toList_none, List.cons_append, List.nil_append, I_z, I_i8, I_q8, I_i7, I_q7, I_i6, I_q6, I_i5, I_q5, I_i4, I_q4, I_i3, I_q3, I_i2, I_q2, I_i1, I_q1, I_w8, I_w7, I_w6, I_w5, I_w4, I_w3, I_w2, I_c2n, I_c2i, I_c2q, eq_self, or_true, true_or, and_true, true_and, if_true, if_false, not_false_eq_true, not_true_eq_false, Option.map_none, Option.map_some, reduceCtorEq, isM, gM_0, gM_1, gM_2, gM_3, gM_4, gM_5, gM_6, gM_7, gM_8, gM_9, gM_10, gM_11, gM_12, gM_13, gM_14, gM_15, gM_16, gM_17, gM_18, gM_19, gM_20, lA0, lA1, lA2, lA3, lA4, lA5, lA6, lA7, lA8, lA9, lA10, lA11, lA12, nI_1, nI_add, n12, n16, sI_2, h1, q_cellOf hu i12 p1, q_cellOf ht k12 p2, hb1, hb2, hb3, q1, q2, c1, c2, e10, uA4]
      · have hF2 := BF_skip (j := y) hF (fun _ _ => c2) hn hdd (by omega)
        obtain ⟨S', l8', f1, f2, f3, f4⟩ := ih (y + 1) (some (.int 0)) S (by omega) hN hV hF2
        refine ⟨S', l8', ?_, f2, f3, f4⟩
        rw [← f1, e_X3_distances_135]
        simp only [e_X3_distances_137, e_X3_distances_138, e_X3_distances_141, e_X3_distances_142, e_X3_distances_145, e_X3_distances_146, e_X3_distances_147, e_X3_distances_149, e_X3_distances_151, e_X3_distances_154, e_X3_distances_155, e_X3_distances_157, e_X3_distances_160, e_X3_distances_161, e_X3_distances_164, e_X3_distances_165, e_X3_distances_166, e_X3_distances_168, e_X3_distances_170, e_X3_distances_173, e_X3_distances_174, e_X3_distances_175, e_X3_distances_178, e_X3_distances_179, e_X3_distances_182, e_X3_distances_183, e_X3_distances_184, e_X3_distances_186, e_X3_distances_188, e_X3_distances_191, e_X3_distances_192, e_X3_distances_193, e_X3_distances_196, e_X3_distances_197, e_X3_distances_200, e_X3_distances_201, e_X3_distances_203, e_X3_distances_204, e_X3_distances_207, e_X3_distances_208, e_X3_distances_209, e_X3_distances_211, e_X3_distances_213, e_X3_distances_216, e_X3_distances_218, e_X3_distances_221, e_X3_distances_223, e_X3_distances_224, e_X3_distances_225, e_X3_distances_228, e_X3_distances_229, e_X3_distances_232, e_X3_distances_233, e_X3_distances_234, e_X3_distances_236, e_X3_distances_238, e_X3_distances_241, e_X3_distances_242, e_X3_distances_243, e_X3_distances_246, Option.bind_some, Option.bind_none, Option.toList_some, Option.toList_none, List.cons_append, List.nil_append, I_z, I_i8, I_q8, I_i7, I_q7, I_i6, I_q6, I_i5, I_q5, I_i4, I_q4, I_i3, I_q3, I_i2, I_q2, I_i1, I_q1, I_w8, I_w7, I_w6, I_w5, I_w4, I_w3, I_w2, I_c2n, I_c2i, I_c2q, eq_self, or_true, true_or, and_true, true_and, if_true, if_false, not_false_eq_true, not_true_eq_false, Option.map_none, Option.map_some, reduceCtorEq, isM, gM_0, gM_1, gM_2, gM_3, gM_4, gM_5, gM_6, gM_7, gM_8, gM_9, gM_10, gM_11, gM_12, gM_13, gM_14, gM_15, gM_16, gM_17, gM_18, gM_19, gM_20, lA0, lA1, lA2, lA3, lA4, lA5, lA6, lA7, lA8, lA9, lA10, lA11, lA12, nI_1, nI_add, n12, n16, sI_2, h1, q_cellOf hu i12 p1, q_cellOf ht k12 p2, hb1, hb2, hb3, q1, q2, c1, c2, uA4, same]
    · have hF2 := BF_skip (j := y) hF (fun _ z => absurd z.2.2 c1) hn hdd (by omega)
      obtain ⟨S', l8', f1, f2, f3, f4⟩ := ih (y + 1) (some (.int 0)) S (by omega) hN hV hF2
      refine ⟨S', l8', ?_, f2, f3, f4⟩
      rw [← f1, e_X3_distances_135]
      simp only [e_X3_distances_137, e_X3_distances_138, e_X3_distances_141, e_X3_distances_142, e_X3_distances_145, e_X3_distances_146, e_X3_distances_147, e_X3_distances_149, e_X3_distances_151, e_X3_distances_154, e_X3_distances_155, e_X3_distances_157, e_X3_distances_160, e_X3_distances_161, e_X3_distances_164, e_X3_distances_165, e_X3_distances_166, e_X3_distances_168, e_X3_distances_170, e_X3_distances_173, e_X3_distances_174, e_X3_distances_175, e_X3_distances_178, e_X3_distances_179, e_X3_distances_182, e_X3_distances_183, e_X3_distances_184, e_X3_distances_186, e_X3_distances_188, e_X3_distances_191, e_X3_distances_192, e_X3_distances_193, e_X3_distances_196, e_X3_distances_197, e_X3_distances_200, e_X3_distances_201, e_X3_distances_203, e_X3_distances_204, e_X3_distances_207, e_X3_distances_208, e_X3_distances_209, e_X3_distances_211, e_X3_distances_213, e_X3_distances_216, e_X3_distances_218, e_X3_distances_221, e_X3_distances_223, e_X3_distances_224, e_X3_distances_225, e_X3_distances_228, e_X3_distances_229, e_X3_distances_232, e_X3_distances_233, e_X3_distances_234, e_X3_distances_236, e_X3_distances_238, e_X3_distances_241, e_X3_distances_242, e_X3_distances_243, e_X3_distances_246, Option.bind_some, Option.bind_none, Option.toList_some, Option.toList_none, List.cons_append, List.nil_append, I_z, I_i8, I_q8, I_i7, I_q7, I_i6, I_q6, I_i5, I_q5, I_i4, I_q4, I_i3, I_q3, I_i2, I_q2, I_i1, I_q1, I_w8, I_w7, I_w6, I_w5, I_w4, I_w3, I_w2, I_c2n, I_c2i, I_c2q, eq_self, or_true, true_or, and_true, true_and, if_true, if_false, not_false_eq_true, not_true_eq_false, Option.map_none, Option.map_some, reduceCtorEq, isM, gM_0, gM_1, gM_2, gM_3, gM_4, gM_5, gM_6, gM_7, gM_8, gM_9, gM_10, gM_11, gM_12, gM_13, gM_14, gM_15, gM_16, gM_17, gM_18, gM_19, gM_20, lA0, lA1, lA2, lA3, lA4, lA5, lA6, lA7, lA8, lA9, lA10, lA11, lA12, nI_1, nI_add, n12, n16, sI_2, h1, q_cellOf hu i12 p1, q_cellOf ht k12 p2, hb1, hb2, hb3, q1, q2, c1, uA4, same]
theorem q_d4 (hB : Mok B R t u n n ro) (hx : i < n) (hdd : dd < n) : ∀ m kk l7 l8 (S : St), kk + m = n → ND B S R → BF (mE B n ro) n i (cellV S R i) dd kk 0 → ∃ S' l7' l8', ev X (d + 1) m_X3_distances 126 [some (va_rf (some (aM X))), some (.int (nI t)), some (.int (nI n)), some (.int (nI u)), some (.int (nI i)), some (.int (nI dd)), some (.int (nI kk)), l7, l8] [] (rp X S) = ev X (d + 1) m_X3_distances 255 [some (va_rf (some (aM X))), some (.int (nI t)), some (.int (nI n)), some (.int (nI u)), some (.int (nI i)), some (.int (nI dd)), some (.int (nI n)), l7', l8'] [] (rp X S') ∧ ND B S' R ∧ BF (mE B n ro) n i (cellV S' R i) dd n 0 ∧ ∀ x' y', x' ≠ i → y' < n → cellV S' R x' y' = cellV S R x' y' := by
  have hB0 := hB
  obtain ⟨ht, hu, hh, hn, hR, b1, b2, b3, b4⟩ := hB
  intro m
  induction m with
  | zero =>
    intro kk l7 l8 S hk hN hF
    have e : kk = n := by omega
    subst e
    have h1 : nI kk ≤ nI kk := nI_le (Nat.le_refl _) (by omega)
    refine ⟨S, l7, l8, ?_, hN, hF, fun _ _ _ _ => rfl⟩
    rw [e_X3_distances_126]
    simp only [e_X3_distances_128, e_X3_distances_129, e_X3_distances_132, e_X3_distances_133, Option.bind_some, Option.bind_none, Option.toList_some, Option.toList_none, List.cons_append, List.nil_append, I_z, I_i8, I_q8, I_i7, I_q7, I_i6, I_q6, I_i5, I_q5, I_i4, I_q4, I_i3, I_q3, I_i2, I_q2, I_i1, I_q1, I_w8, I_w7, I_w6, I_w5, I_w4, I_w3, I_w2, I_c2n, I_c2i, I_c2q, eq_self, or_true, true_or, and_true, true_and, if_true, if_false, not_false_eq_true, not_true_eq_false, Option.map_none, Option.map_some, reduceCtorEq, isM, gM_0, gM_1, gM_2, gM_3, gM_4, gM_5, gM_6, gM_7, gM_8, gM_9, gM_10, gM_11, gM_12, gM_13, gM_14, gM_15, gM_16, gM_17, gM_18, gM_19, gM_20, lA0, lA1, lA2, lA3, lA4, lA5, lA6, lA7, lA8, lA9, lA10, lA11, lA12, nI_1, nI_add, n12, n16, sI_2, h1]
  | succ m ih =>
    intro kk l7 l8 S hk hN hF
    have h1 : ¬ nI n ≤ nI kk := nI_ge (by omega) (by omega)
    by_cases c : cellV S R i kk = nI dd
    · obtain ⟨S1, l8', e1, e2, e3, e4⟩ := q_d5 (X := X) (d := d) hB0 hx hdd (show kk < n by omega) n 0 l8 S (by omega) hN c hF
      rw [nI_0] at e1
      obtain ⟨S2, l7'', l8'', f1, f2, f3, f4⟩ := ih (kk + 1) (some (.int (nI n))) l8' S1 (by omega) e2 (BF_row e3)
      refine ⟨S2, l7'', l8'', ?_, f2, f3, fun x' y' hx' hy' => by rw [f4 x' y' hx' hy', e4 x' y' hx' hy']⟩
      rw [← f1, e_X3_distances_126]
      simp only [e_X3_distances_128, e_X3_distances_129, e_X3_distances_132, e_X3_distances_133, Option.bind_some, Option.bind_none, Option.toList_some, Option.toList_none, List.cons_append, List.nil_append, I_z, I_i8, I_q8, I_i7, I_q7, I_i6, I_q6, I_i5, I_q5, I_i4, I_q4, I_i3, I_q3, I_i2, I_q2, I_i1, I_q1, I_w8, I_w7, I_w6, I_w5, I_w4, I_w3, I_w2, I_c2n, I_c2i, I_c2q, eq_self, or_true, true_or, and_true, true_and, if_true, if_false, not_false_eq_true, not_true_eq_false, Option.map_none, Option.map_some, reduceCtorEq, isM, gM_0, gM_1, gM_2, gM_3, gM_4, gM_5, gM_6, gM_7, gM_8, gM_9, gM_10, gM_11, gM_12, gM_13, gM_14, gM_15, gM_16, gM_17, gM_18, gM_19, gM_20, lA0, lA1, lA2, lA3, lA4, lA5, lA6, lA7, lA8, lA9, lA10, lA11, lA12, nI_1, nI_add, n12, n16, sI_2, h1, e1]
      simp only [e_X3_distances_249, e_X3_distances_252, Option.bind_some, Option.bind_none, Option.toList_some, Option.toList_none, List.cons_append, List.nil_append, I_z, I_i8, I_q8, I_i7, I_q7, I_i6, I_q6, I_i5, I_q5, I_i4, I_q4, I_i3, I_q3, I_i2, I_q2, I_i1, I_q1, I_w8, I_w7, I_w6, I_w5, I_w4, I_w3, I_w2, I_c2n, I_c2i, I_c2q, eq_self, or_true, true_or, and_true, true_and, if_true, if_false, not_false_eq_true, not_true_eq_false, Option.map_none, Option.map_some, reduceCtorEq, isM, gM_0, gM_1, gM_2, gM_3, gM_4, gM_5, gM_6, gM_7, gM_8, gM_9, gM_10, gM_11, gM_12, gM_13, gM_14, gM_15, gM_16, gM_17, gM_18, gM_19, gM_20, lA0, lA1, lA2, lA3, lA4, lA5, lA6, lA7, lA8, lA9, lA10, lA11, lA12, nI_1, nI_add, n12, n16, sI_2]
    · have p1 : S.1 42 (12 * u + i) = nI (R + i) := by rw [hN.1.2.1 42 (by omega)]; exact b3 i hx
      have i12 : i < 12 := by omega
      have hb2 : 16 * (R + i) + kk < 14400 := by omega
      have h0 : ¬ nI n ≤ 0 := by have := nI_ge (a := 0) (b := n) (by omega) (by omega); exact this
      have q1 : ¬ S.1 44 (16 * (R + i) + kk) = nI dd := c
      obtain ⟨S2, l7'', l8'', f1, f2, f3, f4⟩ := ih (kk + 1) (some (.int 0)) l8 S (by omega) hN (BF_none hF c)
      refine ⟨S2, l7'', l8'', ?_, f2, f3, f4⟩
      rw [← f1, e_X3_distances_126]
      simp only [e_X3_distances_128, e_X3_distances_129, e_X3_distances_132, e_X3_distances_133, e_X3_distances_135, e_X3_distances_137, e_X3_distances_138, e_X3_distances_141, e_X3_distances_142, e_X3_distances_145, e_X3_distances_146, e_X3_distances_147, e_X3_distances_149, e_X3_distances_151, e_X3_distances_154, e_X3_distances_155, e_X3_distances_157, e_X3_distances_249, e_X3_distances_252, Option.bind_some, Option.bind_none, Option.toList_some, Option.toList_none, List.cons_append, List.nil_append, I_z, I_i8, I_q8, I_i7, I_q7, I_i6, I_q6, I_i5, I_q5, I_i4, I_q4, I_i3, I_q3, I_i2, I_q2, I_i1, I_q1, I_w8, I_w7, I_w6, I_w5, I_w4, I_w3, I_w2, I_c2n, I_c2i, I_c2q, eq_self, or_true, true_or, and_true, true_and, if_true, if_false, not_false_eq_true, not_true_eq_false, Option.map_none, Option.map_some, reduceCtorEq, isM, gM_0, gM_1, gM_2, gM_3, gM_4, gM_5, gM_6, gM_7, gM_8, gM_9, gM_10, gM_11, gM_12, gM_13, gM_14, gM_15, gM_16, gM_17, gM_18, gM_19, gM_20, lA0, lA1, lA2, lA3, lA4, lA5, lA6, lA7, lA8, lA9, lA10, lA11, lA12, nI_1, nI_add, n12, n16, sI_2, h1, h0, q_cellOf hu i12 p1, hb2, q1]
theorem q_d3 (hB : Mok B R t u n n ro) (hx : i < n) : ∀ m dd l6 l7 l8 (S : St), dd + m = n → ND B S R → BF (mE B n ro) n i (cellV S R i) dd 0 0 → (∀ y', y' < n → cellV S R i y' = -1 ∨ ∃ e, e ≤ dd ∧ cellV S R i y' = nI e ∧ Wk (mE B n ro) n e i y') → ∃ S' l6' l7' l8', ev X (d + 1) m_X3_distances 117 [some (va_rf (some (aM X))), some (.int (nI t)), some (.int (nI n)), some (.int (nI u)), some (.int (nI i)), some (.int (nI dd)), l6, l7, l8] [] (rp X S) = ev X (d + 1) m_X3_distances 261 [some (va_rf (some (aM X))), some (.int (nI t)), some (.int (nI n)), some (.int (nI u)), some (.int (nI i)), some (.int (nI n)), l6', l7', l8'] [] (rp X S') ∧ ND B S' R ∧ BF (mE B n ro) n i (cellV S' R i) n 0 0 ∧ (∀ y', y' < n → cellV S' R i y' = -1 ∨ ∃ e, e ≤ n ∧ cellV S' R i y' = nI e ∧ Wk (mE B n ro) n e i y') ∧ ∀ x' y', x' ≠ i → y' < n → cellV S' R x' y' = cellV S R x' y' := by
  have hB0 := hB
  obtain ⟨ht, hu, hh, hn, hR, b1, b2, b3, b4⟩ := hB
  intro m
  induction m with
  | zero =>
    intro dd l6 l7 l8 S hd hN hF hB2
    have e : dd = n := by omega
    subst e
    have h1 : nI dd ≤ nI dd := nI_le (Nat.le_refl _) (by omega)
    refine ⟨S, l6, l7, l8, ?_, hN, hF, hB2, fun _ _ _ _ => rfl⟩
    rw [e_X3_distances_117]
    simp only [e_X3_distances_119, e_X3_distances_120, e_X3_distances_123, e_X3_distances_124, Option.bind_some, Option.bind_none, Option.toList_some, Option.toList_none, List.cons_append, List.nil_append, I_z, I_i8, I_q8, I_i7, I_q7, I_i6, I_q6, I_i5, I_q5, I_i4, I_q4, I_i3, I_q3, I_i2, I_q2, I_i1, I_q1, I_w8, I_w7, I_w6, I_w5, I_w4, I_w3, I_w2, I_c2n, I_c2i, I_c2q, eq_self, or_true, true_or, and_true, true_and, if_true, if_false, not_false_eq_true, not_true_eq_false, Option.map_none, Option.map_some, reduceCtorEq, isM, gM_0, gM_1, gM_2, gM_3, gM_4, gM_5, gM_6, gM_7, gM_8, gM_9, gM_10, gM_11, gM_12, gM_13, gM_14, gM_15, gM_16, gM_17, gM_18, gM_19, gM_20, lA0, lA1, lA2, lA3, lA4, lA5, lA6, lA7, lA8, lA9, lA10, lA11, lA12, nI_1, nI_add, n12, n16, sI_2, h1]
  | succ m ih =>
    intro dd l6 l7 l8 S hd hN hF hB2
    have h1 : ¬ nI n ≤ nI dd := nI_ge (by omega) (by omega)
    obtain ⟨S1, l7', l8', e1, e2, e3, e4⟩ := q_d4 (X := X) (d := d) hB0 hx (show dd < n by omega) n 0 l7 l8 S (by omega) hN hF
    rw [nI_0] at e1
    obtain ⟨S2, l6'', l7'', l8'', f1, f2, f3, f4, f5⟩ := ih (dd + 1) (some (.int (nI n))) l7' l8' S1 (by omega) e2 (BF_lev e3) e3.2.1
    refine ⟨S2, l6'', l7'', l8'', ?_, f2, f3, f4, fun x' y' hx' hy' => by rw [f5 x' y' hx' hy', e4 x' y' hx' hy']⟩
    rw [← f1, e_X3_distances_117]
    simp only [e_X3_distances_119, e_X3_distances_120, e_X3_distances_123, e_X3_distances_124, Option.bind_some, Option.bind_none, Option.toList_some, Option.toList_none, List.cons_append, List.nil_append, I_z, I_i8, I_q8, I_i7, I_q7, I_i6, I_q6, I_i5, I_q5, I_i4, I_q4, I_i3, I_q3, I_i2, I_q2, I_i1, I_q1, I_w8, I_w7, I_w6, I_w5, I_w4, I_w3, I_w2, I_c2n, I_c2i, I_c2q, eq_self, or_true, true_or, and_true, true_and, if_true, if_false, not_false_eq_true, not_true_eq_false, Option.map_none, Option.map_some, reduceCtorEq, isM, gM_0, gM_1, gM_2, gM_3, gM_4, gM_5, gM_6, gM_7, gM_8, gM_9, gM_10, gM_11, gM_12, gM_13, gM_14, gM_15, gM_16, gM_17, gM_18, gM_19, gM_20, lA0, lA1, lA2, lA3, lA4, lA5, lA6, lA7, lA8, lA9, lA10, lA11, lA12, nI_1, nI_add, n12, n16, sI_2, h1, e1]
    simp only [e_X3_distances_255, e_X3_distances_258, Option.bind_some, Option.bind_none, Option.toList_some, Option.toList_none, List.cons_append, List.nil_append, I_z, I_i8, I_q8, I_i7, I_q7, I_i6, I_q6, I_i5, I_q5, I_i4, I_q4, I_i3, I_q3, I_i2, I_q2, I_i1, I_q1, I_w8, I_w7, I_w6, I_w5, I_w4, I_w3, I_w2, I_c2n, I_c2i, I_c2q, eq_self, or_true, true_or, and_true, true_and, if_true, if_false, not_false_eq_true, not_true_eq_false, Option.map_none, Option.map_some, reduceCtorEq, isM, gM_0, gM_1, gM_2, gM_3, gM_4, gM_5, gM_6, gM_7, gM_8, gM_9, gM_10, gM_11, gM_12, gM_13, gM_14, gM_15, gM_16, gM_17, gM_18, gM_19, gM_20, lA0, lA1, lA2, lA3, lA4, lA5, lA6, lA7, lA8, lA9, lA10, lA11, lA12, nI_1, nI_add, n12, n16, sI_2]
theorem q_d2 (hB : Mok B R t u n n ro) : ∀ m x l5 l6 l7 l8 (S : St), x + m = n → ND B S R → (∀ x' y', x' < x → y' < n → Dst (mE B n ro) n x' y' (cellV S R x' y')) → ∃ S', ev X (d + 1) m_X3_distances 67 [some (va_rf (some (aM X))), some (.int (nI t)), some (.int (nI n)), some (.int (nI u)), some (.int (nI x)), l5, l6, l7, l8] [] (rp X S) = some (some (.int (nI u)), rp X S') ∧ ND B S' R ∧ ∀ x' y', x' < n → y' < n → Dst (mE B n ro) n x' y' (cellV S' R x' y') := by
  have hB0 := hB
  obtain ⟨ht, hu, hh, hn, hR, b1, b2, b3, b4⟩ := hB
  intro m
  induction m with
  | zero =>
    intro x l5 l6 l7 l8 S hx hN hD
    have e : x = n := by omega
    subst e
    have h1 : nI x ≤ nI x := nI_le (Nat.le_refl _) (by omega)
    refine ⟨S, ?_, hN, hD⟩
    rw [e_X3_distances_67]
    simp only [e_X3_distances_69, e_X3_distances_70, e_X3_distances_73, e_X3_distances_74, e_X3_distances_267, e_X3_distances_268, Option.bind_some, Option.bind_none, Option.toList_some, Option.toList_none, List.cons_append, List.nil_append, I_z, I_i8, I_q8, I_i7, I_q7, I_i6, I_q6, I_i5, I_q5, I_i4, I_q4, I_i3, I_q3, I_i2, I_q2, I_i1, I_q1, I_w8, I_w7, I_w6, I_w5, I_w4, I_w3, I_w2, I_c2n, I_c2i, I_c2q, eq_self, or_true, true_or, and_true, true_and, if_true, if_false, not_false_eq_true, not_true_eq_false, Option.map_none, Option.map_some, reduceCtorEq, isM, gM_0, gM_1, gM_2, gM_3, gM_4, gM_5, gM_6, gM_7, gM_8, gM_9, gM_10, gM_11, gM_12, gM_13, gM_14, gM_15, gM_16, gM_17, gM_18, gM_19, gM_20, lA0, lA1, lA2, lA3, lA4, lA5, lA6, lA7, lA8, lA9, lA10, lA11, lA12, nI_1, nI_add, n12, n16, sI_2, h1]
  | succ m ih =>
    intro x l5 l6 l7 l8 S hx hN hD
    have h1 : ¬ nI n ≤ nI x := nI_ge (by omega) (by omega)
    have hxn : x < n := by omega
    obtain ⟨S1, e1, e2, e3, e4⟩ := q_d1 (X := X) (d := d) hB0 hxn n 0 l6 l7 l8 S (by omega) hN (fun y' q => by omega)
    rw [nI_0] at e1
    have hV0 : ∀ y', y' < n → cellV S1 R x y' = -1 ∨ ∃ e, e ≤ 0 ∧ cellV S1 R x y' = nI e ∧ Wk (mE B n ro) n e x y' := fun y' hy' => by
      rw [e3 y' hy']
      by_cases c : x = y'
      · rw [if_pos c]; exact Or.inr ⟨0, Nat.le_refl _, rfl, c⟩
      · rw [if_neg c]; exact Or.inl rfl
    have hF0 : BF (mE B n ro) n x (cellV S1 R x) 0 0 0 := by
      refine ⟨by rw [e3 x hxn, if_pos rfl], fun y' hy' => (hV0 y' hy').imp id (fun ⟨e, q1, q2, q3⟩ => ⟨e, by omega, q2, q3⟩), fun y' e hy' he hv => ?_, fun z y' e hz hy' he hv hp _ => by omega⟩
      rw [e3 y' hy'] at hv
      by_cases c : x = y'
      · rw [if_pos c] at hv
        have := (nI_eq (a := 0) (b := e + 1) (by omega) (by omega)).mp hv
        omega
      · rw [if_neg c] at hv
        exact absurd hv.symm (nI_m1 (by omega))
    obtain ⟨S2, l6', l7', l8', f1, f2, f3, f4, f5⟩ := q_d3 (X := X) (d := d) hB0 hxn n 0 l6 l7 l8 S1 (by omega) e2 hF0 hV0
    rw [nI_0] at f1
    have hDx := BF_end hn hxn (fun z y q => ⟨q.1, q.2.1⟩) f3.1 f4 f3.2.2.1 (fun z y' e hz hy' he hv hE => f3.2.2.2 z y' e hz hy' (by omega) hv (Or.inl he) hE)
    obtain ⟨S3, g1, g2, g3⟩ := ih (x + 1) (some (.int (nI n))) l6' l7' l8' S2 (by omega) f2 (fun x' y' hx' hy' => by
      by_cases c : x' = x
      · rw [c]; exact hDx y' hy'
      · rw [f5 x' y' c hy', e4 x' y' c hy']; exact hD x' y' (by omega) hy')
    refine ⟨S3, ?_, g2, g3⟩
    rw [← g1, e_X3_distances_67]
    simp only [e_X3_distances_69, e_X3_distances_70, e_X3_distances_73, e_X3_distances_74, Option.bind_some, Option.bind_none, Option.toList_some, Option.toList_none, List.cons_append, List.nil_append, I_z, I_i8, I_q8, I_i7, I_q7, I_i6, I_q6, I_i5, I_q5, I_i4, I_q4, I_i3, I_q3, I_i2, I_q2, I_i1, I_q1, I_w8, I_w7, I_w6, I_w5, I_w4, I_w3, I_w2, I_c2n, I_c2i, I_c2q, eq_self, or_true, true_or, and_true, true_and, if_true, if_false, not_false_eq_true, not_true_eq_false, Option.map_none, Option.map_some, reduceCtorEq, isM, gM_0, gM_1, gM_2, gM_3, gM_4, gM_5, gM_6, gM_7, gM_8, gM_9, gM_10, gM_11, gM_12, gM_13, gM_14, gM_15, gM_16, gM_17, gM_18, gM_19, gM_20, lA0, lA1, lA2, lA3, lA4, lA5, lA6, lA7, lA8, lA9, lA10, lA11, lA12, nI_1, nI_add, n12, n16, sI_2, h1, e1]
    simp only [e_X3_distances_114, e_X3_distances_115, Option.bind_some, Option.bind_none, Option.toList_some, Option.toList_none, List.cons_append, List.nil_append, I_z, I_i8, I_q8, I_i7, I_q7, I_i6, I_q6, I_i5, I_q5, I_i4, I_q4, I_i3, I_q3, I_i2, I_q2, I_i1, I_q1, I_w8, I_w7, I_w6, I_w5, I_w4, I_w3, I_w2, I_c2n, I_c2i, I_c2q, eq_self, or_true, true_or, and_true, true_and, if_true, if_false, not_false_eq_true, not_true_eq_false, Option.map_none, Option.map_some, reduceCtorEq, isM, gM_0, gM_1, gM_2, gM_3, gM_4, gM_5, gM_6, gM_7, gM_8, gM_9, gM_10, gM_11, gM_12, gM_13, gM_14, gM_15, gM_16, gM_17, gM_18, gM_19, gM_20, lA0, lA1, lA2, lA3, lA4, lA5, lA6, lA7, lA8, lA9, lA10, lA11, lA12, nI_1, nI_add, n12, n16, sI_2, f1]
    simp only [e_X3_distances_261, e_X3_distances_264, Option.bind_some, Option.bind_none, Option.toList_some, Option.toList_none, List.cons_append, List.nil_append, I_z, I_i8, I_q8, I_i7, I_q7, I_i6, I_q6, I_i5, I_q5, I_i4, I_q4, I_i3, I_q3, I_i2, I_q2, I_i1, I_q1, I_w8, I_w7, I_w6, I_w5, I_w4, I_w3, I_w2, I_c2n, I_c2i, I_c2q, eq_self, or_true, true_or, and_true, true_and, if_true, if_false, not_false_eq_true, not_true_eq_false, Option.map_none, Option.map_some, reduceCtorEq, isM, gM_0, gM_1, gM_2, gM_3, gM_4, gM_5, gM_6, gM_7, gM_8, gM_9, gM_10, gM_11, gM_12, gM_13, gM_14, gM_15, gM_16, gM_17, gM_18, gM_19, gM_20, lA0, lA1, lA2, lA3, lA4, lA5, lA6, lA7, lA8, lA9, lA10, lA11, lA12, nI_1, nI_add, n12, n16, sI_2]
theorem q_dist_unk (hM : S.1 20 0 = nI (A.2.1 0 0)) (h16 : A.2.1 0 0 ≤ 16) (h : unk A a) : ev X (d + 2) m_X3_distances 0 [some (va_rf (some (aM X))), some (.int a), none, none, none, none, none, none, none] [] (rp X S) = some (some (.int (-1000001)), rp X S) := by
  simp only [e_X3_distances_0, e_X3_distances_1, e_X3_distances_2, e_X3_distances_5, e_X3_distances_8, e_X3_distances_10, e_X3_distances_11, e_X3_distances_12, e_X3_distances_15, e_X3_distances_16, e_X3_distances_17, e_X3_distances_20, e_X3_distances_21, e_X3_distances_22, e_X3_distances_25, e_X3_distances_27, e_X3_distances_30, e_X3_distances_32, e_X3_distances_33, e_X3_distances_34, e_X3_distances_37, e_X3_distances_39, e_X3_distances_42, e_X3_distances_44, e_X3_distances_45, e_X3_distances_46, e_X3_distances_49, e_X3_distances_50, e_X3_distances_53, e_X3_distances_54, e_X3_distances_55, e_X3_distances_56, e_X3_distances_57, e_X3_distances_58, e_X3_distances_59, e_X3_distances_60, e_X3_distances_63, e_X3_distances_64, e_X3_distances_65, Option.bind_some, Option.bind_none, Option.toList_some, Option.toList_none, List.cons_append, List.nil_append, I_z, I_i8, I_q8, I_i7, I_q7, I_i6, I_q6, I_i5, I_q5, I_i4, I_q4, I_i3, I_q3, I_i2, I_q2, I_i1, I_q1, I_w8, I_w7, I_w6, I_w5, I_w4, I_w3, I_w2, I_c2n, I_c2i, I_c2q, eq_self, or_true, true_or, and_true, true_and, if_true, if_false, not_false_eq_true, not_true_eq_false, Option.map_none, Option.map_some, reduceCtorEq, isM, gM_0, gM_1, gM_2, gM_3, gM_4, gM_5, gM_6, gM_7, gM_8, gM_9, gM_10, gM_11, gM_12, gM_13, gM_14, gM_15, gM_16, gM_17, gM_18, gM_19, gM_20, lA0, lA1, lA2, lA3, lA4, lA5, lA6, lA7, lA8, lA9, lA10, lA11, lA12, nI_1, nI_add, n12, n16, sI_2, q_isTable0 hM h16 h]
theorem q_dist_state (hM : S.1 20 0 = nI (A.2.1 0 0)) (h16 : A.2.1 0 0 ≤ 16) (h1 : t < A.2.1 0 0) (v1 : TV S A nu t) (h : ¬ (A.1 1 t = 0 ∧ sqr A t)) : ev X (d + 2) m_X3_distances 0 [some (va_rf (some (aM X))), some (.int (nI t)), none, none, none, none, none, none, none] [] (rp X S) = some (some (.int (-1000003)), rp X S) := by
  by_cases c1 : A.1 1 t = 0
  · have c2 : ¬ oddF A t (A.2.1 1 t) 0 = -1000009 := fun q => h ⟨c1, (sqr_odd v1.2.2.1).mp q⟩
    simp only [e_X3_distances_0, e_X3_distances_1, e_X3_distances_2, e_X3_distances_5, e_X3_distances_8, e_X3_distances_10, e_X3_distances_11, e_X3_distances_12, e_X3_distances_15, e_X3_distances_16, e_X3_distances_17, e_X3_distances_20, e_X3_distances_21, e_X3_distances_22, e_X3_distances_25, e_X3_distances_27, e_X3_distances_30, e_X3_distances_32, e_X3_distances_33, e_X3_distances_34, e_X3_distances_37, e_X3_distances_39, e_X3_distances_42, e_X3_distances_44, e_X3_distances_45, e_X3_distances_46, e_X3_distances_49, e_X3_distances_50, e_X3_distances_53, e_X3_distances_54, e_X3_distances_55, e_X3_distances_56, e_X3_distances_57, e_X3_distances_58, e_X3_distances_59, e_X3_distances_60, e_X3_distances_63, e_X3_distances_64, e_X3_distances_65, Option.bind_some, Option.bind_none, Option.toList_some, Option.toList_none, List.cons_append, List.nil_append, I_z, I_i8, I_q8, I_i7, I_q7, I_i6, I_q6, I_i5, I_q5, I_i4, I_q4, I_i3, I_q3, I_i2, I_q2, I_i1, I_q1, I_w8, I_w7, I_w6, I_w5, I_w4, I_w3, I_w2, I_c2n, I_c2i, I_c2q, eq_self, or_true, true_or, and_true, true_and, if_true, if_false, not_false_eq_true, not_true_eq_false, Option.map_none, Option.map_some, reduceCtorEq, isM, gM_0, gM_1, gM_2, gM_3, gM_4, gM_5, gM_6, gM_7, gM_8, gM_9, gM_10, gM_11, gM_12, gM_13, gM_14, gM_15, gM_16, gM_17, gM_18, gM_19, gM_20, lA0, lA1, lA2, lA3, lA4, lA5, lA6, lA7, lA8, lA9, lA10, lA11, lA12, nI_1, nI_add, n12, n16, sI_2, q_isTable1 hM h16 h1, e10, v1.1, v1.2.2.2.1, c1, q_fo v1, c2]
  · simp only [e_X3_distances_0, e_X3_distances_1, e_X3_distances_2, e_X3_distances_5, e_X3_distances_8, e_X3_distances_10, e_X3_distances_11, e_X3_distances_12, e_X3_distances_15, e_X3_distances_16, e_X3_distances_17, e_X3_distances_20, e_X3_distances_21, e_X3_distances_22, e_X3_distances_25, e_X3_distances_27, e_X3_distances_30, e_X3_distances_32, e_X3_distances_33, e_X3_distances_34, e_X3_distances_37, e_X3_distances_39, e_X3_distances_42, e_X3_distances_44, e_X3_distances_45, e_X3_distances_46, e_X3_distances_49, e_X3_distances_50, e_X3_distances_53, e_X3_distances_54, e_X3_distances_55, e_X3_distances_56, e_X3_distances_57, e_X3_distances_58, e_X3_distances_59, e_X3_distances_60, e_X3_distances_63, e_X3_distances_64, e_X3_distances_65, Option.bind_some, Option.bind_none, Option.toList_some, Option.toList_none, List.cons_append, List.nil_append, I_z, I_i8, I_q8, I_i7, I_q7, I_i6, I_q6, I_i5, I_q5, I_i4, I_q4, I_i3, I_q3, I_i2, I_q2, I_i1, I_q1, I_w8, I_w7, I_w6, I_w5, I_w4, I_w3, I_w2, I_c2n, I_c2i, I_c2q, eq_self, or_true, true_or, and_true, true_and, if_true, if_false, not_false_eq_true, not_true_eq_false, Option.map_none, Option.map_some, reduceCtorEq, isM, gM_0, gM_1, gM_2, gM_3, gM_4, gM_5, gM_6, gM_7, gM_8, gM_9, gM_10, gM_11, gM_12, gM_13, gM_14, gM_15, gM_16, gM_17, gM_18, gM_19, gM_20, lA0, lA1, lA2, lA3, lA4, lA5, lA6, lA7, lA8, lA9, lA10, lA11, lA12, nI_1, nI_add, n12, n16, sI_2, q_isTable1 hM h16 h1, e10, v1.1, v1.2.2.2.1, c1]
theorem q_dist_room (hM : S.1 20 0 = nI (A.2.1 0 0)) (hf : A.2.1 0 0 = 16) (h1 : t < A.2.1 0 0) (v1 : TV S A nu t) (c1 : A.1 1 t = 0) (c2 : sqr A t) : ev X (d + 2) m_X3_distances 0 [some (va_rf (some (aM X))), some (.int (nI t)), none, none, none, none, none, none, none] [] (rp X S) = some (some (.int (-1000004)), rp X S) := by
  have eM : S.1 20 0 = 16 := by rw [hM, hf]; rfl
  have c3 := (sqr_odd v1.2.2.1).mpr c2
  simp only [e_X3_distances_0, e_X3_distances_1, e_X3_distances_2, e_X3_distances_5, e_X3_distances_8, e_X3_distances_10, e_X3_distances_11, e_X3_distances_12, e_X3_distances_15, e_X3_distances_16, e_X3_distances_17, e_X3_distances_20, e_X3_distances_21, e_X3_distances_22, e_X3_distances_25, e_X3_distances_27, e_X3_distances_30, e_X3_distances_32, e_X3_distances_33, e_X3_distances_34, e_X3_distances_37, e_X3_distances_39, e_X3_distances_42, e_X3_distances_44, e_X3_distances_45, e_X3_distances_46, e_X3_distances_49, e_X3_distances_50, e_X3_distances_53, e_X3_distances_54, e_X3_distances_55, e_X3_distances_56, e_X3_distances_57, e_X3_distances_58, e_X3_distances_59, e_X3_distances_60, e_X3_distances_63, e_X3_distances_64, e_X3_distances_65, Option.bind_some, Option.bind_none, Option.toList_some, Option.toList_none, List.cons_append, List.nil_append, I_z, I_i8, I_q8, I_i7, I_q7, I_i6, I_q6, I_i5, I_q5, I_i4, I_q4, I_i3, I_q3, I_i2, I_q2, I_i1, I_q1, I_w8, I_w7, I_w6, I_w5, I_w4, I_w3, I_w2, I_c2n, I_c2i, I_c2q, eq_self, or_true, true_or, and_true, true_and, if_true, if_false, not_false_eq_true, not_true_eq_false, Option.map_none, Option.map_some, reduceCtorEq, isM, gM_0, gM_1, gM_2, gM_3, gM_4, gM_5, gM_6, gM_7, gM_8, gM_9, gM_10, gM_11, gM_12, gM_13, gM_14, gM_15, gM_16, gM_17, gM_18, gM_19, gM_20, lA0, lA1, lA2, lA3, lA4, lA5, lA6, lA7, lA8, lA9, lA10, lA11, lA12, nI_1, nI_add, n12, n16, sI_2, q_isTable1 hM (by omega) h1, e10, v1.1, v1.2.2.2.1, c1, q_fo v1, c3, eM]
theorem q_dist_ok (hW : WB A) (hs : Sim S A nu) (h1 : t < A.2.1 0 0) (c1 : A.1 1 t = 0) (c2 : sqr A t) (hf : A.2.1 0 0 < 16) : ∃ nu1 R S2 S', ev X (d + 2) m_X3_distances 0 [some (va_rf (some (aM X))), some (.int (nI t)), none, none, none, none, none, none, none] [] (rp X S) = some (some (.int (nI (A.2.1 0 0))), rp X S') ∧ NewM A S S2 nu1 R 1 (A.2.1 1 t) (A.2.1 1 t) ∧ ND S2 S' R ∧ ∀ x y, x < A.2.1 1 t → y < A.2.1 1 t → Dst (mE S2 (A.2.1 1 t) (fun y => nu1 (rowAt A t y))) (A.2.1 1 t) x y (cellV S' R x y) := by
  have h16 := hW.1
  have v1 := hs.tv hW h1
  have hh := v1.2.2.1
  have c3 := (sqr_odd hh).mpr c2
  obtain ⟨S1, nu1, R, e1, e2, e3, e4, e5, e6⟩ := q_squeeze (X := X) (d := d + 1) hW hs
  have v2 := e3.tv hW h1
  obtain ⟨S2, f1, f2⟩ := q_newEven (X := X) (d := d) (S := S1) (k := 1) (hi := A.2.1 1 t) (w := A.2.1 1 t) (R := R) hf hh (by omega) e3.1 e4
  have hN : NewM A S S2 nu1 R 1 (A.2.1 1 t) (A.2.1 1 t) := ⟨S1, e2, e3, e4, e5, e6, f2⟩
  have hm := hN.mok hW hf hh h1 (fun y hy => by obtain ⟨r, hr, _⟩ := c2 y hy; exact ⟨r, hr⟩)
  obtain ⟨S', g1, g2, g3⟩ := q_d2 (X := X) (d := d + 1) hm (A.2.1 1 t) 0 none none none none S2 (by omega) ⟨NM.refl, rfl⟩ (fun x' y' q _ => by omega)
  rw [nI_0] at g1
  refine ⟨nu1, R, S2, S', ?_, hN, g2, g3⟩
  simp only [e_X3_distances_0, e_X3_distances_1, e_X3_distances_2, e_X3_distances_5, e_X3_distances_8, e_X3_distances_10, e_X3_distances_11, e_X3_distances_12, e_X3_distances_15, e_X3_distances_16, e_X3_distances_17, e_X3_distances_20, e_X3_distances_21, e_X3_distances_22, e_X3_distances_25, e_X3_distances_27, e_X3_distances_30, e_X3_distances_32, e_X3_distances_33, e_X3_distances_34, e_X3_distances_37, e_X3_distances_39, e_X3_distances_42, e_X3_distances_44, e_X3_distances_45, e_X3_distances_46, e_X3_distances_49, e_X3_distances_50, e_X3_distances_53, e_X3_distances_54, e_X3_distances_55, e_X3_distances_56, e_X3_distances_57, e_X3_distances_58, e_X3_distances_59, e_X3_distances_60, e_X3_distances_63, e_X3_distances_64, e_X3_distances_65, Option.bind_some, Option.bind_none, Option.toList_some, Option.toList_none, List.cons_append, List.nil_append, I_z, I_i8, I_q8, I_i7, I_q7, I_i6, I_q6, I_i5, I_q5, I_i4, I_q4, I_i3, I_q3, I_i2, I_q2, I_i1, I_q1, I_w8, I_w7, I_w6, I_w5, I_w4, I_w3, I_w2, I_c2n, I_c2i, I_c2q, eq_self, or_true, true_or, and_true, true_and, if_true, if_false, not_false_eq_true, not_true_eq_false, Option.map_none, Option.map_some, reduceCtorEq, isM, gM_0, gM_1, gM_2, gM_3, gM_4, gM_5, gM_6, gM_7, gM_8, gM_9, gM_10, gM_11, gM_12, gM_13, gM_14, gM_15, gM_16, gM_17, gM_18, gM_19, gM_20, lA0, lA1, lA2, lA3, lA4, lA5, lA6, lA7, lA8, lA9, lA10, lA11, lA12, nI_1, nI_add, n12, n16, sI_2, q_isTable1 hs.1 h16 h1, e10, v1.1, v1.2.2.2.1, c1, q_fo v1, c3, hs.1, tc_ne hf, e1, v2.2.1, f1, g1]
end Q70
