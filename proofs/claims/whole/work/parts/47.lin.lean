/-! Totals in the order of positions; what is done. -/
section LN
variable {S A : St} {G G2 : Nat → Nat → tR} {d t r i j n m p k q z N e : Nat} {a b c v s : Int32} {st fo eb op : Nat → Int32} {E rk : Nat → Nat}
/-- the told number at position p of table t -/
def nmv (A : St) (t p : Nat) : Int32 := match A.2.2.1 t (p / 16) with
  | none => 0
  | some r => if p % 16 < A.2.1 2 r ∧ ¬ A.1 5 r = 3 then cutS A r (p % 16) else 0
/-- the link at position p of table t -/
def lk (A : St) (t p : Nat) : Option Nat := match A.2.2.1 t (p / 16) with
  | none => none
  | some r => if p % 16 < A.2.1 2 r ∧ A.1 5 r = 3 ∧ ¬ A.1 (100 + r) (p % 16) = -1000009 then some (A.1 (100 + r) (p % 16)).toNatClampNeg else none
def stW (A : St) (G : Nat → Nat → tR) (t p e : Nat) (s : Int32) : tR := match A.2.2.1 t (p / 16) with
  | none => (1, e, s)
  | some _ => match lk A t p with
    | some q => ((G q e).1, (G q e).2.1, s + (G q e).2.2)
    | none => (0, e, s + nmv A t p)
def totW (A : St) (G : Nat → Nat → tR) (t : Nat) : Nat → Nat → Nat → Int32 → tR
  | 0, _, e, s => (0, e, s)
  | m + 1, p, e, s => if (stW A G t p e s).1 = 0 then totW A G t m (p + 1) (stW A G t p e s).2.1 (stW A G t p e s).2.2 else stW A G t p e s
theorem totW_s : totW A G t (m + 1) p e s = if (stW A G t p e s).1 = 0 then totW A G t m (p + 1) (stW A G t p e s).2.1 (stW A G t p e s).2.2 else stW A G t p e s := rfl
theorem stW_n (h : A.2.2.1 t (p / 16) = none) : stW A G t p e s = (1, e, s) := by unfold stW; rw [h]
theorem stW_l (h : A.2.2.1 t (p / 16) = some r) (hl : lk A t p = some q) : stW A G t p e s = ((G q e).1, (G q e).2.1, s + (G q e).2.2) := by unfold stW; rw [h, hl]
theorem stW_0 (h : A.2.2.1 t (p / 16) = some r) (hl : lk A t p = none) : stW A G t p e s = (0, e, s + nmv A t p) := by unfold stW; rw [h, hl]
theorem lk_some (h : A.2.2.1 t (p / 16) = some r) : lk A t p = if p % 16 < A.2.1 2 r ∧ A.1 5 r = 3 ∧ ¬ A.1 (100 + r) (p % 16) = -1000009 then some (A.1 (100 + r) (p % 16)).toNatClampNeg else none := by unfold lk; rw [h]
theorem lk_none (h : A.2.2.1 t (p / 16) = none) : lk A t p = none := by unfold lk; rw [h]
theorem nmv_some (h : A.2.2.1 t (p / 16) = some r) : nmv A t p = if p % 16 < A.2.1 2 r ∧ ¬ A.1 5 r = 3 then cutS A r (p % 16) else 0 := by unfold nmv; rw [h]
theorem pdiv (h : j < 16) : (16 * i + j) / 16 = i := by omega
theorem pmod (h : j < 16) : (16 * i + j) % 16 = j := by omega
theorem lin_L (hr : A.2.2.1 t i = some r) (hl : A.2.1 2 r ≤ 16) (hk : A.1 5 r = 3) : ∀ n j e s, j + n = 16 → totW A G t (n + k) (16 * i + j) e s = if (totL A G r (A.2.1 2 r - j) j e s).1 = 0 then totW A G t k (16 * (i + 1)) (totL A G r (A.2.1 2 r - j) j e s).2.1 (totL A G r (A.2.1 2 r - j) j e s).2.2 else totL A G r (A.2.1 2 r - j) j e s := by
  intro n
  induction n with
  | zero =>
    intro j e s hj
    have e1 : j = 16 := by omega
    subst e1
    have e2 : A.2.1 2 r - 16 = 0 := by omega
    rw [e2, Nat.zero_add, show 16 * i + 16 = 16 * (i + 1) by omega]
    show _ = if (0 : Int32) = 0 then totW A G t k (16 * (i + 1)) e s else _
    rw [if_pos rfl]
  | succ n ih =>
    intro j e s hj
    have hj1 : j < 16 := by omega
    have hp : A.2.2.1 t ((16 * i + j) / 16) = some r := by rw [pdiv hj1]; exact hr
    have hlk := lk_some hp
    have hnm := nmv_some hp
    rw [pmod hj1] at hlk hnm
    rw [if_neg (fun q => q.2 hk)] at hnm
    rw [show n + 1 + k = (n + k) + 1 by omega, totW_s]
    by_cases c : j < A.2.1 2 r
    · obtain ⟨l, hl2⟩ : ∃ l, A.2.1 2 r - j = l + 1 := ⟨A.2.1 2 r - j - 1, by omega⟩
      have hl3 : A.2.1 2 r - (j + 1) = l := by omega
      by_cases c2 : A.1 (100 + r) j = -1000009
      · rw [if_neg (fun q => q.2.2 c2)] at hlk
        rw [stW_0 hp hlk, hnm, Int32.add_zero]
        rw [hl2]
        have eL : totL A G r (l + 1) j e s = totL A G r l (j + 1) e s := if_pos c2
        rw [eL, ← hl3, ← ih (j + 1) e s (by omega)]
        show (if (0 : Int32) = 0 then totW A G t (n + k) (16 * i + j + 1) e s else _) = _
        rw [if_pos rfl, show 16 * i + j + 1 = 16 * i + (j + 1) by omega]
      · rw [if_pos ⟨c, hk, c2⟩] at hlk
        rw [stW_l hp hlk, hl2]
        have eL : totL A G r (l + 1) j e s = if (G (A.1 (100 + r) j).toNatClampNeg e).1 = 0 then totL A G r l (j + 1) (G (A.1 (100 + r) j).toNatClampNeg e).2.1 (s + (G (A.1 (100 + r) j).toNatClampNeg e).2.2) else ((G (A.1 (100 + r) j).toNatClampNeg e).1, (G (A.1 (100 + r) j).toNatClampNeg e).2.1, s + (G (A.1 (100 + r) j).toNatClampNeg e).2.2) := if_neg c2
        rw [eL]
        generalize G (A.1 (100 + r) j).toNatClampNeg e = Q
        by_cases c3 : Q.1 = 0
        · rw [if_pos c3, if_pos c3, ← hl3, ← ih (j + 1) Q.2.1 (s + Q.2.2) (by omega)]
          rw [show 16 * i + j + 1 = 16 * i + (j + 1) by omega]
        · rw [if_neg c3, if_neg c3, if_neg c3]
    · have hl2 : A.2.1 2 r - j = 0 := by omega
      have hl3 : A.2.1 2 r - (j + 1) = 0 := by omega
      rw [if_neg (fun q => c q.1)] at hlk
      rw [stW_0 hp hlk, hnm, Int32.add_zero, hl2, ← hl3, show totL A G r (A.2.1 2 r - (j + 1)) j e s = totL A G r (A.2.1 2 r - (j + 1)) (j + 1) e s by rw [hl3]; rfl, ← ih (j + 1) e s (by omega)]
      show (if (0 : Int32) = 0 then totW A G t (n + k) (16 * i + j + 1) e s else _) = _
      rw [if_pos rfl, show 16 * i + j + 1 = 16 * i + (j + 1) by omega]
theorem lin_N (hr : A.2.2.1 t i = some r) (hl : A.2.1 2 r ≤ 16) (hk : ¬ A.1 5 r = 3) : ∀ n j e s, j + n = 16 → totW A G t (n + k) (16 * i + j) e s = totW A G t k (16 * (i + 1)) e (sumA A r (A.2.1 2 r - j) j s) := by
  intro n
  induction n with
  | zero =>
    intro j e s hj
    have e1 : j = 16 := by omega
    subst e1
    have e2 : A.2.1 2 r - 16 = 0 := by omega
    rw [e2, Nat.zero_add, show 16 * i + 16 = 16 * (i + 1) by omega]
    rfl
  | succ n ih =>
    intro j e s hj
    have hj1 : j < 16 := by omega
    have hp : A.2.2.1 t ((16 * i + j) / 16) = some r := by rw [pdiv hj1]; exact hr
    have hlk := lk_some hp
    have hnm := nmv_some hp
    rw [pmod hj1] at hlk hnm
    rw [if_neg (fun q => hk q.2.1)] at hlk
    rw [show n + 1 + k = (n + k) + 1 by omega, totW_s, stW_0 hp hlk]
    show (if (0 : Int32) = 0 then totW A G t (n + k) (16 * i + j + 1) e (s + nmv A t (16 * i + j)) else _) = _
    rw [if_pos rfl, show 16 * i + j + 1 = 16 * i + (j + 1) by omega, ih (j + 1) e _ (by omega)]
    by_cases c : j < A.2.1 2 r
    · rw [if_pos ⟨c, hk⟩] at hnm
      have hl3 : A.2.1 2 r - j = (A.2.1 2 r - (j + 1)) + 1 := by omega
      rw [hl3, hnm]
      rfl
    · rw [if_neg (fun q => c q.1)] at hnm
      rw [hnm, Int32.add_zero, show A.2.1 2 r - j = 0 by omega, show A.2.1 2 r - (j + 1) = 0 by omega]
      rfl
theorem totL_add : ∀ m j e s, totL A G r m j e (a + s) = ((totL A G r m j e s).1, (totL A G r m j e s).2.1, a + (totL A G r m j e s).2.2) := by
  intro m
  induction m with
  | zero => intro j e s; rfl
  | succ m ih =>
    intro j e s
    unfold totL
    split
    · exact ih _ _ _
    · split
      · rw [Int32.add_assoc]; exact ih _ _ _
      · rw [Int32.add_assoc]
theorem sumA_add : ∀ m j s, sumA A r m j (a + s) = a + sumA A r m j s := by
  intro m
  induction m with
  | zero => intro j s; rfl
  | succ m ih => intro j s; unfold sumA; rw [Int32.add_assoc]; exact ih _ _
theorem lin_P (hl : ∀ i r, A.2.2.1 t i = some r → A.2.1 2 r ≤ 16) : ∀ m i e s, totP A G t m i e s = totW A G t (16 * m) (16 * i) e s := by
  intro m
  induction m with
  | zero => intro i e s; rfl
  | succ m ih =>
    intro i e s
    have eP : totP A G t (m + 1) i e s = if (totR A G (A.2.2.1 t i) e).1 = 0 then totP A G t m (i + 1) (totR A G (A.2.2.1 t i) e).2.1 (s + (totR A G (A.2.2.1 t i) e).2.2) else ((totR A G (A.2.2.1 t i) e).1, (totR A G (A.2.2.1 t i) e).2.1, s + (totR A G (A.2.2.1 t i) e).2.2) := rfl
    rw [eP]
    cases hp : A.2.2.1 t i with
    | none =>
      have e1 : totR A G none e = (1, e, 0) := rfl
      rw [e1, show 16 * (m + 1) = (16 * m + 15) + 1 by omega, totW_s, stW_n (by rw [show 16 * i / 16 = i by omega]; exact hp)]
      show (if (1 : Int32) = 0 then _ else (1, e, s + 0)) = if (1 : Int32) = 0 then _ else (1, e, s)
      rw [if_neg (by decide), if_neg (by decide), Int32.add_zero]
    | some r =>
      rw [show 16 * (m + 1) = 16 + 16 * m by omega]
      by_cases hk : A.1 5 r = 3
      · have h := lin_L (G := G) (k := 16 * m) hp (hl i r hp) hk 16 0 e s (by omega)
        rw [Nat.add_zero (16 * i)] at h
        rw [h, Nat.sub_zero]
        have e1 : totR A G (some r) e = totL A G r (A.2.1 2 r) 0 e 0 := if_pos hk
        have e2 := totL_add (A := A) (G := G) (r := r) (a := s) (A.2.1 2 r) 0 e 0
        rw [Int32.add_zero] at e2
        rw [e1, e2]
        generalize totL A G r (A.2.1 2 r) 0 e 0 = Q
        show (if Q.1 = 0 then _ else _) = if Q.1 = 0 then _ else _
        split
        · exact ih _ _ _
        · rfl
      · have h := lin_N (G := G) (k := 16 * m) hp (hl i r hp) hk 16 0 e s (by omega)
        rw [Nat.add_zero (16 * i)] at h
        rw [h, Nat.sub_zero]
        have e1 : totR A G (some r) e = (0, e, sumA A r (A.2.1 2 r) 0 0) := if_neg hk
        have e2 := sumA_add (A := A) (r := r) (a := s) (A.2.1 2 r) 0 0
        rw [Int32.add_zero] at e2
        rw [e1, e2]
        show (if (0 : Int32) = 0 then _ else _) = _
        rw [if_pos rfl]
        exact ih _ _ _
/-- the same answer; where it ends early the sum doesn't count -/
def eqv (Q Q2 : tR) : Prop := Q.1 = Q2.1 ∧ Q.2.1 = Q2.2.1 ∧ (Q.1 = 0 → Q.2.2 = Q2.2.2)
theorem eqv.refl (Q : tR) : eqv Q Q := ⟨rfl, rfl, fun _ => rfl⟩
theorem eqv.of_eq {Q Q2 : tR} (h : Q = Q2) : eqv Q Q2 := h ▸ eqv.refl Q
theorem eqv.symm {Q Q2 : tR} (h : eqv Q Q2) : eqv Q2 Q := ⟨h.1.symm, h.2.1.symm, fun q => (h.2.2 (h.1.trans q)).symm⟩
theorem eqv.trans {Q Q2 Q3 : tR} (h : eqv Q Q2) (h2 : eqv Q2 Q3) : eqv Q Q3 := ⟨h.1.trans h2.1, h.2.1.trans h2.2.1, fun q => (h.2.2 q).trans (h2.2.2 (h.1 ▸ q))⟩
theorem totW_eqv : ∀ m p e s, (∀ p', p ≤ p' → p' < p + m → ∀ q, lk A t p' = some q → ∀ e, e ≤ 1000 → eqv (G q e) (G2 q e) ∧ (G q e).2.1 ≤ 1000) → e ≤ 1000 → eqv (totW A G t m p e s) (totW A G2 t m p e s) := by
  intro m
  induction m with
  | zero => intro p e s _ _; exact eqv.refl _
  | succ m ih =>
    intro p e s h he
    rw [totW_s, totW_s]
    cases hp : A.2.2.1 t (p / 16) with
    | none => rw [stW_n hp, stW_n hp]; exact eqv.refl _
    | some r =>
      cases hl : lk A t p with
      | none =>
        rw [stW_0 hp hl, stW_0 hp hl]
        show eqv (if (0 : Int32) = 0 then _ else _) (if (0 : Int32) = 0 then _ else _)
        rw [if_pos rfl, if_pos rfl]
        exact ih _ _ _ (fun p' a b => h p' (by omega) (by omega)) he
      | some q =>
        obtain ⟨⟨h1, h2, h3⟩, h4⟩ := h p (Nat.le_refl _) (by omega) q hl e he
        rw [stW_l hp hl, stW_l hp hl]
        by_cases c : (G q e).1 = 0
        · have c2 : (G2 q e).1 = 0 := h1 ▸ c
          show eqv (if (G q e).1 = 0 then _ else _) (if (G2 q e).1 = 0 then _ else _)
          rw [if_pos c, if_pos c2]
          show eqv (totW A G t m (p + 1) (G q e).2.1 (s + (G q e).2.2)) (totW A G2 t m (p + 1) (G2 q e).2.1 (s + (G2 q e).2.2))
          rw [← h2, ← h3 c]
          exact ih _ _ _ (fun p' a b => h p' (by omega) (by omega)) h4
        · have c2 : ¬ (G2 q e).1 = 0 := fun z => c (h1.trans z)
          show eqv (if (G q e).1 = 0 then _ else _) (if (G2 q e).1 = 0 then _ else _)
          rw [if_neg c, if_neg c2]
          exact ⟨h1, h2, fun z => absurd z c⟩
/-- what a done table answers -/
def GD (E : Nat → Nat) (fo : Nat → Int32) (q e : Nat) : tR := if e + E q ≤ 1000 then (0, e + E q, fo q) else (6, 1000, 0)
theorem GD_y (h : e + E q ≤ 1000) : GD E fo q e = (0, e + E q, fo q) := if_pos h
theorem GD_n (h : ¬ e + E q ≤ 1000) : GD E fo q e = (6, 1000, 0) := if_neg h
theorem GD_le : (GD E fo q e).2.1 ≤ 1000 := by
  by_cases h : e + E q ≤ 1000
  · rw [GD_y h]; exact h
  · rw [GD_n h]; exact Nat.le_refl _
/-- how many of the first n are not 0 -/
def cnt (op : Nat → Int32) : Nat → Nat
  | 0 => 0
  | n + 1 => cnt op n + if op n = 0 then 0 else 1
theorem cnt_le : ∀ n, cnt op n ≤ n := by
  intro n
  induction n with
  | zero => exact Nat.le_refl _
  | succ n ih => unfold cnt; split <;> omega
theorem cnt_all : ∀ n, cnt op n = n → ∀ z, z < n → ¬ op z = 0 := by
  intro n
  induction n with
  | zero => intro _ z hz; omega
  | succ n ih =>
    intro h z hz
    have h2 := cnt_le (op := op) n
    unfold cnt at h
    by_cases c : op n = 0
    · rw [if_pos c] at h; omega
    · rw [if_neg c] at h
      by_cases c2 : z = n
      · rw [c2]; exact c
      · exact ih (by omega) z (by omega)
theorem cnt_out (h : n ≤ q) : cnt (upd op q v) n = cnt op n := by
  induction n with
  | zero => rfl
  | succ n ih =>
    unfold cnt
    rw [ih (by omega), pk_un (by omega)]
theorem cnt_in (h0 : op q = 0) (hv : ¬ v = 0) : ∀ n, q < n → cnt (upd op q v) n = cnt op n + 1 := by
  intro n
  induction n with
  | zero => intro h; omega
  | succ n ih =>
    intro h
    unfold cnt
    by_cases c : q = n
    · subst c
      rw [cnt_out (Nat.le_refl _), pk_us, if_neg hv, if_pos h0]
    · rw [ih (by omega), pk_un (fun z => c z.symm)]
      omega
theorem lk_lt (hL : lnkOK A) (ht : t < A.2.1 0 0) (hp : p < 16 * A.2.1 1 t) (h : lk A t p = some q) : q < A.2.1 0 0 ∧ A.2.1 0 0 ≤ 16 → q < A.2.1 0 0 := fun h => h.1
theorem lk_row (h : lk A t p = some q) : ∃ r, A.2.2.1 t (p / 16) = some r ∧ p % 16 < A.2.1 2 r ∧ A.1 5 r = 3 ∧ ¬ A.1 (100 + r) (p % 16) = -1000009 ∧ (A.1 (100 + r) (p % 16)).toNatClampNeg = q := by
  cases hp : A.2.2.1 t (p / 16) with
  | none => rw [lk_none hp] at h; cases h
  | some r =>
    rw [lk_some hp] at h
    by_cases c : p % 16 < A.2.1 2 r ∧ A.1 5 r = 3 ∧ ¬ A.1 (100 + r) (p % 16) = -1000009
    · rw [if_pos c] at h
      exact ⟨r, rfl, c.1, c.2.1, c.2.2, Option.some.inj h⟩
    · rw [if_neg c] at h; cases h
theorem lk_tab (hW : WB A) (hL : lnkOK A) (ht : t < A.2.1 0 0) (hp : p < 16 * A.2.1 1 t) (h : lk A t p = some q) : ∃ r, A.2.2.1 t (p / 16) = some r ∧ p % 16 < A.2.1 2 r ∧ A.1 5 r = 3 ∧ q < A.2.1 0 0 ∧ A.1 (100 + r) (p % 16) = nI q := by
  obtain ⟨r, h1, h2, h3, h4, h5⟩ := lk_row h
  have h16 := hW.1
  obtain ⟨q2, hq2, hc⟩ := (hL r (p % 16) ⟨t, p / 16, ht, by omega, h1⟩ h3 h2).resolve_left h4
  rw [hc, nI_clamp (by omega)] at h5
  subst h5
  exact ⟨r, h1, h2, h3, hq2, hc⟩
/-- what is known of the done tables -/
def TI (A : St) (st fo eb : Nat → Int32) (E rk : Nat → Nat) (N : Nat) : Prop := ∀ z, z < A.2.1 0 0 → st z = 2 → rk z < N ∧ 1 ≤ E z ∧ E z ≤ 1000 ∧ eb z = nI (E z) ∧ (∀ p, p < 16 * A.2.1 1 z → ∀ y, lk A z p = some y → st y = 2 ∧ rk y < rk z) ∧ ∀ G : Nat → Nat → tR, (∀ y, st y = 2 → G y = GD E fo y) → ∀ e, e < 1000 → eqv (totW A G z (16 * A.2.1 1 z) 0 (e + 1) 0) (GD E fo z e)
theorem done_tot (hW : WB A) (hL : lnkOK A) (hT : TI A st fo eb E rk N) : ∀ n z, rk z < n → z < A.2.1 0 0 → st z = 2 → ∀ f op e, (∀ y, y < A.2.1 0 0 → st y = 2 → rk y ≤ rk z → op y = 0) → f + cnt op 16 = 16 → e ≤ 1000 → eqv (totT A f op z e) (GD E fo z e) := by
  have h16 := hW.1
  intro n
  induction n with
  | zero => intro z h; omega
  | succ n ih =>
    intro z hr hz hs f op e ho hf he
    obtain ⟨t1, t2, t3, t4, t5, t6⟩ := hT z hz hs
    have oz := ho z hz hs (Nat.le_refl _)
    cases f with
    | zero => exact absurd oz (cnt_all 16 (by omega) z (by omega))
    | succ f =>
      by_cases c : e < 1000
      · have eT : totT A (f + 1) op z e = totP A (totT A f (upd op z 1)) z (A.2.1 1 z) 0 (e + 1) 0 := (if_pos oz).trans (if_pos c)
        rw [eT, lin_P (fun i r h => (hW.2.2.2 r (hW.2.2.1 z i r (by omega) h)).1)]
        refine eqv.trans (totW_eqv (G2 := GD E fo) _ _ _ _ ?_ (by omega)) (t6 _ (fun _ _ => rfl) e c)
        intro p' h1 h2 q hq e' he'
        obtain ⟨u1, u2⟩ := t5 p' (by omega) q hq
        obtain ⟨r, _, _, _, hq2, _⟩ := lk_tab hW hL hz (by omega) hq
        refine ⟨ih q (by omega) hq2 u1 f _ e' (fun y hy hy2 hy3 => ?_) ?_ he', ent_T f _ q e' he'⟩
        · rw [pk_un (fun h => by rw [h] at hy3; omega)]
          exact ho y hy hy2 (by omega)
        · rw [cnt_in oz (by decide) 16 (by omega)]; omega
      · have e1 : e = 1000 := by omega
        have eT : totT A (f + 1) op z e = (6, e, 0) := (if_pos oz).trans (if_neg c)
        rw [eT, GD_n (by omega), e1]
        exact eqv.refl _
end LN
