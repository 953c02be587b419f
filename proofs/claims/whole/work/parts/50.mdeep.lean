/-! The reference's deep. -/
section MD
variable {X : I_X} {S A : St} {nu : Nat → Nat} {G : (Nat → Int32) → Nat → dR} {D d dd t r i j n m p q z g u k f : Nat} {a b c en jd v s : Int32} {pl pa st fo eb op op2 dp : Nat → Int32}
def dW (A : St) (G : (Nat → Int32) → Nat → dR) (q : Nat) : Nat → Nat → (Nat → Int32) → Int32 → dR
  | 0, _, dp, s => (s, dp)
  | m + 1, p, dp, s => match lk A q p with
    | none => dW A G q m (p + 1) dp s
    | some z => if (G dp z).1 = -1 then (-1, (G dp z).2) else dW A G q m (p + 1) (G dp z).2 (imx s (G dp z).1)
theorem dW_n (h : lk A q p = none) : dW A G q (m + 1) p dp s = dW A G q m (p + 1) dp s := by
  show (match lk A q p with | none => _ | some z => _) = _
  rw [h]
theorem dW_l (h : lk A q p = some z) : dW A G q (m + 1) p dp s = if (G dp z).1 = -1 then (-1, (G dp z).2) else dW A G q m (p + 1) (G dp z).2 (imx s (G dp z).1) := by
  show (match lk A q p with | none => _ | some z => _) = _
  rw [h]
theorem i_lt {a b : Int32} : a < b ↔ a.toInt < b.toInt := Int32.lt_iff_toInt_lt
theorem imx_0 (h : 0 ≤ s) : imx s 0 = s := if_neg (by rw [i_lt]; rw [Int32.le_iff_toInt_le] at h; omega)
theorem imx_ge (h : 0 ≤ s) : 0 ≤ imx s v := by
  unfold imx
  by_cases c : s < v
  · rw [if_pos c]
    rw [i_lt] at c
    rw [Int32.le_iff_toInt_le] at h ⊢
    omega
  · rw [if_neg c]; exact h
theorem imx_as : imx (imx a b) c = imx a (imx b c) := by
  unfold imx
  by_cases h1 : a < b
  · rw [if_pos h1]
    by_cases h2 : b < c
    · rw [if_pos h2, if_pos (by rw [i_lt] at *; omega)]
    · rw [if_neg h2, if_pos h1]
  · rw [if_neg h1]
    by_cases h2 : b < c
    · rw [if_pos h2]
    · rw [if_neg h2, if_neg h1, if_neg (by rw [i_lt] at *; omega)]
theorem pos_m1 (h : 0 ≤ s) : ¬ s = -1 := fun q => by rw [q] at h; exact absurd h (by decide)
theorem lin_dL (hr : A.2.2.1 q i = some r) (hl : A.2.1 2 r ≤ 16) (hk : A.1 5 r = 3) : ∀ n j dp w, j + n = 16 → 0 ≤ w → dW A G q (n + k) (16 * i + j) dp (imx s w) = if (depL A G r (A.2.1 2 r - j) j dp w).1 = -1 then (-1, (depL A G r (A.2.1 2 r - j) j dp w).2) else dW A G q k (16 * (i + 1)) (depL A G r (A.2.1 2 r - j) j dp w).2 (imx s (depL A G r (A.2.1 2 r - j) j dp w).1) := by
  intro n
  induction n with
  | zero =>
    intro j dp w hj hw
    have e1 : j = 16 := by omega
    subst e1
    have e2 : A.2.1 2 r - 16 = 0 := by omega
    rw [e2, Nat.zero_add, show 16 * i + 16 = 16 * (i + 1) by omega]
    show _ = if w = -1 then _ else dW A G q k (16 * (i + 1)) dp (imx s w)
    rw [if_neg (pos_m1 hw)]
  | succ n ih =>
    intro j dp w hj hw
    have hj1 : j < 16 := by omega
    have hp : A.2.2.1 q ((16 * i + j) / 16) = some r := by rw [pdiv hj1]; exact hr
    have hlk := lk_some hp
    rw [pmod hj1] at hlk
    rw [show n + 1 + k = (n + k) + 1 by omega]
    by_cases c : j < A.2.1 2 r
    · obtain ⟨l, hl2⟩ : ∃ l, A.2.1 2 r - j = l + 1 := ⟨A.2.1 2 r - j - 1, by omega⟩
      have hl3 : A.2.1 2 r - (j + 1) = l := by omega
      by_cases c2 : A.1 (100 + r) j = -1000009
      · rw [if_neg (fun q => q.2.2 c2)] at hlk
        have eL : depL A G r (l + 1) j dp w = depL A G r l (j + 1) dp (imx w 0) := if_pos c2
        rw [dW_n hlk, hl2, eL, imx_0 hw, ← hl3, ← ih (j + 1) dp w (by omega) hw, show 16 * i + j + 1 = 16 * i + (j + 1) by omega]
      · rw [if_pos ⟨c, hk, c2⟩] at hlk
        have eL : depL A G r (l + 1) j dp w = if (G dp (A.1 (100 + r) j).toNatClampNeg).1 = -1 then (-1, (G dp (A.1 (100 + r) j).toNatClampNeg).2) else depL A G r l (j + 1) (G dp (A.1 (100 + r) j).toNatClampNeg).2 (imx w (G dp (A.1 (100 + r) j).toNatClampNeg).1) := if_neg c2
        rw [dW_l hlk, hl2, eL]
        generalize G dp (A.1 (100 + r) j).toNatClampNeg = Q
        by_cases c3 : Q.1 = -1
        · rw [if_pos c3, if_pos c3]
          show _ = if (-1 : Int32) = -1 then (-1, Q.2) else _
          rw [if_pos rfl]
        · rw [if_neg c3, if_neg c3, ← hl3, ← ih (j + 1) Q.2 (imx w Q.1) (by omega) (imx_ge hw), imx_as, show 16 * i + j + 1 = 16 * i + (j + 1) by omega]
    · have hl2 : A.2.1 2 r - j = 0 := by omega
      have hl3 : A.2.1 2 r - (j + 1) = 0 := by omega
      rw [if_neg (fun q => c q.1)] at hlk
      rw [dW_n hlk, hl2, ← hl3, show depL A G r (A.2.1 2 r - (j + 1)) j dp w = depL A G r (A.2.1 2 r - (j + 1)) (j + 1) dp w by rw [hl3]; rfl, ← ih (j + 1) dp w (by omega) hw, show 16 * i + j + 1 = 16 * i + (j + 1) by omega]
theorem dW_skip : ∀ n p, (∀ p', p ≤ p' → p' < p + n → lk A q p' = none) → dW A G q (n + k) p dp s = dW A G q k (p + n) dp s := by
  intro n
  induction n with
  | zero => intro p _; rw [Nat.zero_add, Nat.add_zero]
  | succ n ih =>
    intro p h
    rw [show n + 1 + k = (n + k) + 1 by omega, dW_n (h p (Nat.le_refl _) (by omega)), ih (p + 1) (fun p' h1 h2 => h p' (by omega) (by omega)), show p + 1 + n = p + (n + 1) by omega]
theorem lin_dP (hl : ∀ i r, A.2.2.1 q i = some r → A.2.1 2 r ≤ 16) (hk : ∀ i r, i < A.2.1 1 q → A.2.2.1 q i = some r → A.1 5 r = 3) : ∀ m i dp s, i + m = A.2.1 1 q → 0 ≤ s → depP A (some G) q m i dp s = if (dW A G q (16 * m) (16 * i) dp s).1 = -1 then (-1, (dW A G q (16 * m) (16 * i) dp s).2) else ((dW A G q (16 * m) (16 * i) dp s).1 + 1, upd (dW A G q (16 * m) (16 * i) dp s).2 q ((dW A G q (16 * m) (16 * i) dp s).1 + 1)) := by
  intro m
  induction m with
  | zero =>
    intro i dp s hi hs
    show _ = if s = -1 then _ else (s + 1, upd dp q (s + 1))
    rw [if_neg (pos_m1 hs)]
    rfl
  | succ m ih =>
    intro i dp s hi hs
    have eP : depP A (some G) q (m + 1) i dp s = if (depR A (some G) (A.2.2.1 q i) dp).1 = -1 then (-1, (depR A (some G) (A.2.2.1 q i) dp).2) else depP A (some G) q m (i + 1) (depR A (some G) (A.2.2.1 q i) dp).2 (imx s (depR A (some G) (A.2.2.1 q i) dp).1) := rfl
    rw [eP, show 16 * (m + 1) = 16 + 16 * m by omega]
    cases hp : A.2.2.1 q i with
    | none =>
      have e1 : depR A (some G) none dp = (0, dp) := rfl
      rw [e1, dW_skip 16 (16 * i) (fun p' h1 h2 => lk_none (by rw [show p' / 16 = i by omega]; exact hp)), show 16 * i + 16 = 16 * (i + 1) by omega, ← ih (i + 1) dp s (by omega) hs]
      show (if (0 : Int32) = -1 then _ else depP A (some G) q m (i + 1) dp (imx s 0)) = _
      rw [if_neg (by decide), imx_0 hs]
    | some r =>
      have e1 : depR A (some G) (some r) dp = depL A G r (A.2.1 2 r) 0 dp 0 := rfl
      have h := lin_dL (G := G) (k := 16 * m) (s := s) hp (hl i r hp) (hk i r (by omega) hp) 16 0 dp 0 (by omega) (by decide)
      rw [Nat.add_zero (16 * i), Nat.sub_zero, imx_0 hs] at h
      rw [h, e1]
      generalize depL A G r (A.2.1 2 r) 0 dp 0 = Q
      by_cases c : Q.1 = -1
      · rw [if_pos c, if_pos c]
        show _ = if (-1 : Int32) = -1 then (-1, Q.2) else _
        rw [if_pos rfl]
      · rw [if_neg c, if_neg c]
        exact ih (i + 1) Q.2 (imx s Q.1) (by omega) (imx_ge hs)
/-- the landed code's depths and the reference's states -/
def REL (A : St) (op op2 st fo dp : Nat → Int32) : Prop := ∀ z, z < A.2.1 0 0 → (st z = 0 ∧ dp z = -2 ∧ op z = 0 ∧ op2 z = 0) ∨ (st z = 1 ∧ dp z = -1 ∧ ¬ op z = 0 ∧ op2 z = 0) ∨ (st z = 2 ∧ op z = 0 ∧ ¬ op2 z = 0 ∧ ∃ v, v ≤ cnt op2 16 ∧ dp z = nI v ∧ fo z = nI v)
/-- a table z entered at level dd; Q is what the landed code finds -/
def RED (X : I_X) (S A : St) (t D : Nat) (Q : dR) (z dd : Nat) (op op2 pl pa st fo : Nat → Int32) (W : Option I_R → Prop) : Prop :=
  (Q.1 = -1 → ∃ l3 l4 pl2 pa2 st2 fo2 eb2 en2 jd2, W (ev X (D + 1) m_X3_find 139 [some (va_rf (some (aM X))), some (.int (nI t)), some (.int 1), l3, l4] [] (rp X (fS S pl2 pa2 st2 fo2 eb2 5 en2 jd2)))) ∧
  (¬ Q.1 = -1 → ∃ l4 pl2 pa2 st2 fo2 eb2 en2 jd2 op3, W (ev X (D + 1) m_X3_find 45 [some (va_rf (some (aM X))), some (.int (nI t)), some (.int 1), some (.int (nI dd + -1)), l4] [] (rp X (fS S pl2 pa2 st2 fo2 eb2 0 en2 jd2))) ∧ (∀ y, y < dd → pl2 y = pl y ∧ pa2 y = pa y) ∧ (∀ y, y < A.2.1 0 0 → st y = 1 → y ≠ z → fo2 y = fo y) ∧ cnt op2 16 ≤ cnt op3 16 ∧ st2 z = 2 ∧ fo2 z = Q.1 ∧ REL A (upd op z 0) op3 st2 fo2 Q.2)
/-- the finding of a table not seen yet, f levels left -/
def ENT (X : I_X) (S A : St) (t D f : Nat) : Prop := ∀ (op op2 dp pl pa st fo eb : Nat → Int32) (z dd : Nat) (en jd v x : Int32), f + cnt op 16 = 16 → z < A.2.1 0 0 → REL A op op2 st fo dp → st z = 0 → dd + f = 16 → (v = if A.1 1 z = 3 then 1 else 0) → RED X S A t D (depT A f dp z) z dd op op2 pl pa st fo (FR X D t dd 1 (fS S (upd pl dd (nI z)) (upd pa dd 0) (upd st z 1) (upd fo z v) (upd eb z x) 0 en jd))
/-- the finding of an entered table of links -/
def MDc (X : I_X) (S A : St) (t D f : Nat) : Prop := ∀ (m q dd p u : Nat) (op op2 dp pl pa st fo eb : Nat → Int32) (en jd : Int32), f + cnt op 16 = 16 → q < A.2.1 0 0 → REL A op op2 st fo dp → st q = 1 → dd + 1 + f = 16 → pl dd = nI q → pa dd = nI p → p + m = 16 * A.2.1 1 q → fo q = nI (u + 1) → u ≤ cnt op2 16 → RED X S A t D (if (dW A (depT A f) q m p dp (nI u)).1 = -1 then (-1, (dW A (depT A f) q m p dp (nI u)).2) else ((dW A (depT A f) q m p dp (nI u)).1 + 1, upd (dW A (depT A f) q m p dp (nI u)).2 q ((dW A (depT A f) q m p dp (nI u)).1 + 1))) q dd op op2 pl pa st fo (FG X D t dd 1 q (fS S pl pa st fo eb 0 en jd))
theorem REL_done (h : REL A op op2 st fo dp) (hq : st q = 1) (hq2 : q < A.2.1 0 0) (h16 : A.2.1 0 0 ≤ 16) (hf : fo q = nI u) (hu : u ≤ cnt op2 16 + 1) : cnt op2 16 ≤ cnt (upd op2 q 1) 16 ∧ REL A (upd op q 0) (upd op2 q 1) (upd st q 2) fo (upd dp q (nI u)) := by
  have o2 : op2 q = 0 := by
    rcases h q hq2 with h | h | h
    · exact h.2.2.2
    · exact h.2.2.2
    · rw [hq] at h; exact absurd h.1 (by decide)
  have hcn := cnt_in (op := op2) (v := 1) o2 (by decide) 16 (show q < 16 by omega)
  refine ⟨by omega, fun z hz => ?_⟩
  by_cases c : z = q
  · subst c
    rw [pk_us, pk_us, pk_us, pk_us]
    exact Or.inr (Or.inr ⟨rfl, rfl, by decide, u, by omega, rfl, hf⟩)
  · rw [pk_un c, pk_un c, pk_un c, pk_un c, hcn]
    rcases h z hz with h | h | ⟨h1, h2, h3, v, h4, h5⟩
    · exact Or.inl h
    · exact Or.inr (Or.inl h)
    · exact Or.inr (Or.inr ⟨h1, h2, h3, v, by omega, h5⟩)
theorem imx_n (hu : u < 2 ^ 31) (hn : n < 2 ^ 31) : imx (nI u) (nI n) = nI (if u < n then n else u) := by
  unfold imx
  by_cases c : u < n
  · rw [if_pos c, if_pos ((nI_ltI hu hn).mpr c)]
  · rw [if_neg c, if_neg (fun q => c ((nI_ltI hu hn).mp q))]
theorem md_step (hW : WB A) (hK : KD A) (hL : lnkOK A) (hs : Sim S A nu) (hE : ENT X S A t D f) : MDc X S A t D f := by
  have h16 := hW.1
  intro m
  induction m with
  | zero =>
    intro q dd p u op op2 dp pl pa st fo eb en jd hc hq hR hsq hdf hpl hpa hpm hfo hu
    have hp : p = 16 * A.2.1 1 q := by omega
    subst hp
    have hd : dd < 17 := by omega
    have hq16 : q < 16 := by omega
    have v1 := hs.tv hW hq
    have c16' := cnt_le (op := op2) 16
    show RED X S A t D (if nI u = -1 then _ else (nI u + 1, upd dp q (nI u + 1))) q dd op op2 pl pa st fo _
    rw [if_neg (nI_m1 (by omega)), nI_1]
    obtain ⟨k1, k2⟩ := REL_done hR hsq hq h16 hfo (by omega)
    refine ⟨fun h => absurd h (nI_m1 (by omega)), fun _ => ⟨_, pl, pa, upd st q 2, fo, _, _, _, upd op2 q 1, fr_end hd hpl hq16 (go_end hd v1 hpa), fun y _ => ⟨rfl, rfl⟩, fun y _ _ _ => rfl, k1, pk_us, hfo, k2⟩⟩
  | succ m ih =>
    intro q dd p u op op2 dp pl pa st fo eb en jd hc hq hR hsq hdf hpl hpa hpm hfo hu
    have hp : p < 16 * A.2.1 1 q := by omega
    have hd : dd < 17 := by omega
    have hq16 : q < 16 := by omega
    have v1 := hs.tv hW hq
    have c16' := cnt_le (op := op2) 16
    cases hl : lk A q p with
    | none =>
      rw [dW_n hl]
      have h2 := ih q dd (p + 1) u op op2 dp pl (upd pa dd (nI (p + 1))) st fo eb en jd hc hq hR hsq hdf hpl pk_us (by omega) hfo hu
      refine ⟨fun h => ?_, fun h => ?_⟩
      · obtain ⟨l3, l4, pl2, pa2, st2, fo2, eb2, en2, jd2, f1⟩ := h2.1 h
        exact ⟨l3, l4, pl2, pa2, st2, fo2, eb2, en2, jd2, fg_step (fun a T2 hg => go_skip hW hK hs hq hd hpa hp hl hg) f1⟩
      · obtain ⟨l4, pl2, pa2, st2, fo2, eb2, en2, jd2, op3, f1, f2, f3⟩ := h2.2 h
        exact ⟨l4, pl2, pa2, st2, fo2, eb2, en2, jd2, op3, fg_step (fun a T2 hg => go_skip hW hK hs hq hd hpa hp hl hg) f1, fun y hy => ⟨(f2 y hy).1, by rw [(f2 y hy).2, pk_un (by omega)]⟩, f3⟩
    | some z =>
      obtain ⟨r2, _, _, _, hz, _⟩ := lk_tab hW hL hq hp hl
      have hz16 : z < 16 := by omega
      rw [dW_l hl]
      -- a link that is done
      have hdone : ∀ (op2 dp pl pa st fo eb : Nat → Int32) (en jd : Int32) (x : Nat), REL A op op2 st fo dp → st q = 1 → pl dd = nI q → pa dd = nI p → fo q = nI (u + 1) → u ≤ cnt op2 16 → st z = 2 → x ≤ cnt op2 16 → fo z = nI x → RED X S A t D (if (dW A (depT A f) q m (p + 1) dp (imx (nI u) (nI x))).1 = -1 then (-1, (dW A (depT A f) q m (p + 1) dp (imx (nI u) (nI x))).2) else ((dW A (depT A f) q m (p + 1) dp (imx (nI u) (nI x))).1 + 1, upd (dW A (depT A f) q m (p + 1) dp (imx (nI u) (nI x))).2 q ((dW A (depT A f) q m (p + 1) dp (imx (nI u) (nI x))).1 + 1))) q dd op op2 pl pa st fo (FG X D t dd 1 q (fS S pl pa st fo eb 0 en jd)) := by
        intro op2 dp pl pa st fo eb en jd x hR hsq hpl hpa hfo hu hsz hx hfz
        have c16' := cnt_le (op := op2) 16
        have ev : (if 1 + fo z ≤ fo q then fo q else 1 + fo z) = nI ((if u < x then x else u) + 1) := by
          rw [hfz, hfo, show (1 : Int32) + nI x = nI (x + 1) by rw [Int32.add_comm, nI_1]]
          by_cases c : u < x
          · rw [if_pos c, if_neg (nI_ge (by omega) (by omega))]
          · rw [if_neg c, if_pos (nI_le (by omega) (by omega))]
        rw [imx_n (by omega) (by omega)]
        have hR2 : REL A op op2 st (upd fo q (nI ((if u < x then x else u) + 1))) dp := fun y hy => by
          by_cases c : y = q
          · subst c
            rcases hR y hy with h | h | h
            · exact Or.inl h
            · exact Or.inr (Or.inl h)
            · rw [hsq] at h; exact absurd h.1 (by decide)
          · rw [pk_un c]; exact hR y hy
        have h2 := ih q dd (p + 1) (if u < x then x else u) op op2 dp pl (upd pa dd (nI (p + 1))) st (upd fo q (nI ((if u < x then x else u) + 1))) eb en jd hc hq hR2 hsq hdf hpl pk_us (by omega) pk_us (by split <;> omega)
        have hst : ∀ a T2, GO X D dd 1 q (fS S pl (upd pa dd (nI (p + 1))) st (upd fo q (nI ((if u < x then x else u) + 1))) eb 0 en jd) a T2 → GO X D dd 1 q (fS S pl pa st fo eb 0 en jd) a T2 := fun a T2 hg => by
          refine go_done1 hW hK hL hs hq hd hpa hp hl hsz ?_
          rw [ev]; exact hg
        refine ⟨fun h => ?_, fun h => ?_⟩
        · obtain ⟨l3, l4, pl2, pa2, st2, fo2, eb2, en2, jd2, f1⟩ := h2.1 h
          exact ⟨l3, l4, pl2, pa2, st2, fo2, eb2, en2, jd2, fg_step hst f1⟩
        · obtain ⟨l4, pl2, pa2, st2, fo2, eb2, en2, jd2, op3, f1, f2, f3, f4⟩ := h2.2 h
          exact ⟨l4, pl2, pa2, st2, fo2, eb2, en2, jd2, op3, fg_step hst f1, fun y hy => ⟨(f2 y hy).1, by rw [(f2 y hy).2, pk_un (by omega)]⟩, fun y h1 h2 h3 => by rw [f3 y h1 h2 h3, pk_un h3], f4⟩
      rcases hR z hz with ⟨s1, s2, s3, s4⟩ | ⟨s1, s2, s3, s4⟩ | ⟨s1, s2, s3, x, s4, s5, s6⟩
      · have zq : z ≠ q := fun w => by rw [w, hsq] at s1; exact absurd s1 (by decide)
        have hnew := go_new (X := X) (D := D) (dep := 1) (pl := pl) (st := st) (fo := fo) (eb := eb) (c := 0) (en := en) (jd := jd) hW hK hL hs hq hd hpa hp hl s1 (Or.inl rfl)
        have f0 : ¬ f = 0 := fun w => absurd s3 (cnt_all 16 (by omega) z hz16)
        have k40 : S.1 40 z = A.1 1 z := (hs.2.1 z hz).1
        have hEz := hE op op2 dp pl pa st fo eb z (dd + 1) (en + 1) jd (if A.1 1 z = 3 then 1 else 0) (en + 1 - 1) hc hz hR s1 (by omega) rfl
        have go : ∀ R, FR X D t (dd + 1) 1 (fS S (upd pl (dd + 1) (nI z)) (upd pa (dd + 1) 0) (upd st z 1) (upd fo z (if A.1 1 z = 3 then 1 else 0)) (upd eb z (en + 1 - 1)) 0 (en + 1) jd) R → FG X D t dd 1 q (fS S pl pa st fo eb 0 en jd) R := fun R h =>
          fr_new (by omega) hpl hz16 (by rw [k40, if_neg e10]) hnew h
        generalize depT A f dp z = Q at *
        by_cases c2 : Q.1 = -1
        · rw [if_pos c2]
          show RED X S A t D (if (-1 : Int32) = -1 then (-1, Q.2) else _) q dd op op2 pl pa st fo _
          rw [if_pos rfl]
          obtain ⟨l3, l4, pl2, pa2, st2, fo2, eb2, en2, jd2, f1⟩ := hEz.1 c2
          exact ⟨fun _ => ⟨l3, l4, pl2, pa2, st2, fo2, eb2, en2, jd2, go _ f1⟩, fun h => absurd rfl h⟩
        · rw [if_neg c2]
          obtain ⟨l4, pl2, pa2, st2, fo2, eb2, en2, jd2, op3, f1, f2, f3, f4, f5, f6, f7⟩ := hEz.2 c2
          have eop : upd op z 0 = op := upd_same s3.symm
          rw [eop] at f7
          obtain ⟨x, hx, hx2⟩ : ∃ x, x ≤ cnt op3 16 ∧ Q.1 = nI x := by
            rcases f7 z hz with h | h | ⟨_, _, _, x, h1, h2, h3⟩
            · rw [f5] at h; exact absurd h.1 (by decide)
            · rw [f5] at h; exact absurd h.1 (by decide)
            · exact ⟨x, h1, by rw [← f6]; exact h3⟩
          have hsq2 : st2 q = 1 := by
            have oq : ¬ op q = 0 := by
              rcases hR q hq with h | h | h
              · rw [hsq] at h; exact absurd h.1 (by decide)
              · exact h.2.2.1
              · rw [hsq] at h; exact absurd h.1 (by decide)
            rcases f7 q hq with h | h | h
            · exact absurd h.2.2.1 oq
            · exact h.1
            · exact absurd h.2.1 oq
          have hpl2 : pl2 dd = nI q := by rw [(f2 dd (by omega)).1]; exact hpl
          have hpa2 : pa2 dd = nI p := by rw [(f2 dd (by omega)).2]; exact hpa
          rw [hx2]
          have h2 := hdone op3 Q.2 pl2 pa2 st2 fo2 eb2 en2 jd2 x f7 hsq2 hpl2 hpa2 (by rw [f3 q hq hsq (fun w => zq w.symm)]; exact hfo) (by omega) f5 hx (by rw [f6, hx2])
          have tr : ∀ R, FG X D t dd 1 q (fS S pl2 pa2 st2 fo2 eb2 0 en2 jd2) R → FG X D t dd 1 q (fS S pl pa st fo eb 0 en jd) R := fun R h => by
            have h3 := fg_fr hd hpl2 h l4
            rw [nI_m, h3] at f1
            exact go R f1
          refine ⟨fun h => ?_, fun h => ?_⟩
          · obtain ⟨l3, l4', pl3, pa3, st3, fo3, eb3, en3, jd3, g1⟩ := h2.1 h
            exact ⟨l3, l4', pl3, pa3, st3, fo3, eb3, en3, jd3, tr _ g1⟩
          · obtain ⟨l4', pl3, pa3, st3, fo3, eb3, en3, jd3, op4, g1, g2, g3, g4, g5⟩ := h2.2 h
            refine ⟨l4', pl3, pa3, st3, fo3, eb3, en3, jd3, op4, tr _ g1, fun y hy => ⟨by rw [(g2 y hy).1, (f2 y (by omega)).1], by rw [(g2 y hy).2, (f2 y (by omega)).2]⟩, fun y h1 h2 h3 => ?_, by omega, g5⟩
            have yz : y ≠ z := fun w => by rw [w, s1] at h2; exact absurd h2 (by decide)
            have oy : ¬ op y = 0 := by
              rcases hR y h1 with h | h | h
              · rw [h2] at h; exact absurd h.1 (by decide)
              · exact h.2.2.1
              · rw [h2] at h; exact absurd h.1 (by decide)
            have sy : st2 y = 1 := by
              rcases f7 y h1 with h | h | h
              · exact absurd h.2.2.1 oy
              · exact h.1
              · exact absurd h.2.1 oy
            rw [g3 y h1 sy h3, f3 y h1 h2 yz]
      · have eG : depT A f dp z = (-1, dp) := by
          have : ¬ dp z = -2 := by rw [s2]; decide
          cases f with
          | zero => exact (if_neg this).trans (by rw [s2])
          | succ f => exact (if_neg this).trans (by rw [s2])
        rw [eG]
        show RED X S A t D (if (if (-1 : Int32) = -1 then (-1, dp) else _).1 = -1 then _ else _) q dd op op2 pl pa st fo _
        rw [if_pos (rfl : (-1 : Int32) = -1)]
        show RED X S A t D (if (-1 : Int32) = -1 then (-1, dp) else _) q dd op op2 pl pa st fo _
        rw [if_pos (rfl : (-1 : Int32) = -1)]
        exact ⟨fun _ => ⟨_, _, _, _, _, _, _, _, _, fr_cause hd hpl (by decide) (go_ring hW hK hL hs hq hd hpa hp hl s1)⟩, fun h => absurd rfl h⟩
      · have eG : depT A f dp z = (nI x, dp) := by
          have : ¬ dp z = -2 := by rw [s5]; exact fun w => nI_pos (n := x) (by omega) (by rw [w]; decide)
          cases f with
          | zero => exact (if_neg this).trans (by rw [s5])
          | succ f => exact (if_neg this).trans (by rw [s5])
        rw [eG]
        have nx : ¬ nI x = -1 := nI_m1 (by omega)
        have e3 : (if (nI x, dp).1 = -1 then ((-1 : Int32), (nI x, dp).2) else dW A (depT A f) q m (p + 1) (nI x, dp).2 (imx (nI u) (nI x, dp).1)) = dW A (depT A f) q m (p + 1) dp (imx (nI u) (nI x)) := if_neg nx
        rw [e3]
        exact hdone op2 dp pl pa st fo eb en jd x hR hsq hpl hpa hfo hu s1 s4 s6
theorem md_walk (hW : WB A) (hK : KD A) (hs : Sim S A nu) (hq : q < A.2.1 0 0) (hk : ¬ A.1 1 q = 3) (hd : dd < 17) (hpl : pl dd = nI q) : ∀ m p pa, p + m = 16 * A.2.1 1 q → pa dd = nI p → ∃ pa2 l4, (∀ y, y < dd → pa2 y = pa y) ∧ FG X D t dd 1 q (fS S pl pa st fo eb 0 en jd) (ev X (D + 1) m_X3_find 45 [some (va_rf (some (aM X))), some (.int (nI t)), some (.int 1), some (.int (nI dd + -1)), l4] [] (rp X (fS S pl pa2 (upd st q 2) fo (upd eb q (en - eb q)) 0 en (nI q)))) := by
  have v1 := hs.tv hW hq
  have h16 := hW.1
  intro m
  induction m with
  | zero =>
    intro p pa hp hpa
    have hp2 : p = 16 * A.2.1 1 q := by omega
    subst hp2
    exact ⟨pa, _, fun _ _ => rfl, fr_end hd hpl (by omega) (go_end hd v1 hpa)⟩
  | succ m ih =>
    intro p pa hp hpa
    have hl : lk A q p = none := by
      cases g1 : A.2.2.1 q (p / 16) with
      | none => exact lk_none g1
      | some r =>
        rw [lk_some g1]
        exact if_neg (fun h => hk (by rw [← hK q (p / 16) r hq (by omega) g1]; exact h.2.1))
    obtain ⟨pa2, l4, f1, f2⟩ := ih (p + 1) (upd pa dd (nI (p + 1))) (by omega) pk_us
    exact ⟨pa2, l4, fun y hy => by rw [f1 y hy, pk_un (by omega)], fg_step (fun a T2 hg => go_skip hW hK hs hq hd hpa (by omega) hl hg) f2⟩
theorem REL_in (hR : REL A op op2 st fo dp) (hz : z < A.2.1 0 0) (hs : st z = 0) : REL A (upd op z 1) op2 (upd st z 1) (upd fo z v) (upd dp z (-1)) := by
  intro y hy
  by_cases c : y = z
  · subst c
    rw [pk_us, pk_us, pk_us, pk_us]
    rcases hR y hy with h | h | h
    · exact Or.inr (Or.inl ⟨rfl, rfl, by decide, h.2.2.2⟩)
    · rw [hs] at h; exact absurd h.1 (by decide)
    · rw [hs] at h; exact absurd h.1 (by decide)
  · rw [pk_un c, pk_un c, pk_un c, pk_un c]; exact hR y hy
theorem upd_upd {f : Nat → Int32} {a b : Int32} : upd (upd f i a) i b = upd f i b := by
  funext q
  unfold upd
  by_cases c : q = i
  · rw [if_pos c, if_pos c]
  · rw [if_neg c, if_neg c, if_neg c]
theorem ent_step (hW : WB A) (hK : KD A) (hs : Sim S A nu) (hM : MDc X S A t D f) : ENT X S A t D (f + 1) := by
  have h16 := hW.1
  intro op op2 dp pl pa st fo eb z dd en jd v x hc hz hR hsz hdf hv
  have hz16 : z < 16 := by omega
  obtain ⟨s2, s3, s4⟩ : dp z = -2 ∧ op z = 0 ∧ op2 z = 0 := by
    rcases hR z hz with h | h | h
    · exact h.2
    · rw [hsz] at h; exact absurd h.1 (by decide)
    · rw [hsz] at h; exact absurd h.1 (by decide)
  have hR2 := REL_in (v := v) hR hz hsz
  have eop : upd (upd op z 1) z 0 = upd op z 0 := upd_upd
  have hcn := cnt_in (op := op) (v := 1) s3 (by decide) 16 hz16
  by_cases c : A.1 1 z = 3
  · rw [if_pos c] at hv
    subst hv
    have eT : depT A (f + 1) dp z = depP A (some (depT A f)) z (A.2.1 1 z) 0 (upd dp z (-1)) 0 := (if_pos s2).trans (if_pos c)
    rw [eT, lin_dP (fun i r h => (hW.2.2.2 r (hW.2.2.1 z i r hz16 h)).1) (fun i r hi h => (hK z i r hz hi h).trans c) _ _ _ _ (by omega) (by decide)]
    have h2 := hM (16 * A.2.1 1 z) z dd 0 0 (upd op z 1) op2 (upd dp z (-1)) (upd pl dd (nI z)) (upd pa dd 0) (upd st z 1) (upd fo z 1) (upd eb z x) en jd (by omega) hz hR2 pk_us (by omega) pk_us (by rw [pk_us]; rfl) (by omega) (by rw [pk_us]; rfl) (by omega)
    rw [nI_0] at h2
    refine ⟨fun h => ?_, fun h => ?_⟩
    · obtain ⟨l3, l4, pl2, pa2, st2, fo2, eb2, en2, jd2, f1⟩ := h2.1 h
      exact ⟨l3, l4, pl2, pa2, st2, fo2, eb2, en2, jd2, fg_fr (by omega) pk_us f1⟩
    · obtain ⟨l4, pl2, pa2, st2, fo2, eb2, en2, jd2, op3, f1, f2, f3, f4, f5, f6, f7⟩ := h2.2 h
      rw [eop] at f7
      exact ⟨l4, pl2, pa2, st2, fo2, eb2, en2, jd2, op3, fg_fr (by omega) pk_us f1, fun y hy => ⟨by rw [(f2 y hy).1, pk_un (by omega)], by rw [(f2 y hy).2, pk_un (by omega)]⟩, fun y h1 h2 h3 => by rw [f3 y h1 (by rw [pk_un h3]; exact h2) h3, pk_un h3], f4, f5, f6, f7⟩
  · rw [if_neg c] at hv
    subst hv
    have eT : depT A (f + 1) dp z = (0, upd dp z 0) := (if_pos s2).trans (if_neg c)
    rw [eT]
    refine ⟨fun h => absurd h (show ¬ (0 : Int32) = -1 by decide), fun _ => ?_⟩
    obtain ⟨pa2, l4, f1, f2⟩ := md_walk (X := X) (D := D) (t := t) (dd := dd) (pl := upd pl dd (nI z)) (st := upd st z 1) (fo := upd fo z 0) (eb := upd eb z x) (en := en) (jd := jd) hW hK hs hz c (by omega) pk_us (16 * A.2.1 1 z) 0 (upd pa dd 0) (by omega) (by rw [pk_us]; rfl)
    obtain ⟨k1, k2⟩ := REL_done (u := 0) hR2 pk_us hz h16 pk_us (by omega)
    rw [eop, upd_upd (f := dp)] at k2
    exact ⟨l4, upd pl dd (nI z), pa2, upd (upd st z 1) z 2, upd fo z 0, _, _, _, upd op2 z 1, fg_fr (by omega) pk_us f2, fun y hy => ⟨pk_un (by omega), by rw [f1 y hy, pk_un (by omega)]⟩, fun y h1 h2 h3 => pk_un h3, k1, pk_us, pk_us, k2⟩
theorem ent (hW : WB A) (hK : KD A) (hL : lnkOK A) (hs : Sim S A nu) : ∀ f, ENT X S A t D f := by
  intro f
  induction f with
  | zero =>
    intro op op2 dp pl pa st fo eb z dd en jd v x hc hz hR hsz hdf hv
    have s3 : op z = 0 := by
      rcases hR z hz with h | h | h
      · exact h.2.2.1
      · rw [hsz] at h; exact absurd h.1 (by decide)
      · rw [hsz] at h; exact absurd h.1 (by decide)
    exact absurd s3 (cnt_all 16 (by omega) z (by have := hW.1; omega))
  | succ f ih => exact ent_step hW hK hs (md_step hW hK hL hs ih)
end MD
