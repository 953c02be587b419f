/-! Doubles by their bits. -/
/-- beyond all numbers, nought, no number -/
def fE (a : UInt64) : Prop := a.toNat % 2 ^ 63 = 9218868437227405312
def fZ (a : UInt64) : Prop := a.toNat % 2 ^ 63 = 0
def fN (a : UInt64) : Prop := ¬ a.toNat % 2 ^ 63 ≤ 9218868437227405312
theorem fN_nan (a : UInt64) : fN a ↔ FP.Core.val64 a = .nan := by
  have h := fp_nan a
  have e1 : (a &&& 0x7fffffffffffffff).toNat = a.toNat % 2 ^ 63 := by
    rw [UInt64.toNat_and]
    exact Nat.and_two_pow_sub_one_eq_mod a.toNat 63
  have e2 : I_nan a = true ↔ a.toNat % 2 ^ 63 ≤ 9218868437227405312 := by
    unfold I_nan
    rw [decide_eq_true_eq, UInt64.le_iff_toNat_le, e1]
    rfl
  unfold fN
  rw [← e2, h]
  exact Classical.not_not
theorem fp_dec (a : UInt64) : (fp_inf a → fE a) ∧ (fp_zero a → fZ a) := by
  have t1 : FP.Core.b64.tails = 4503599627370496 := by decide
  have t2 : FP.Core.b64.exps = 2048 := by decide
  have fT : FP.Core.fieldT FP.Core.b64 a.toNat = a.toNat % 4503599627370496 := by unfold FP.Core.fieldT; rw [t1]
  have fE' : FP.Core.fieldE FP.Core.b64 a.toNat = a.toNat / 4503599627370496 % 2048 := by unfold FP.Core.fieldE; rw [t1, t2]
  unfold fp_inf fp_zero fE fZ
  unfold FP.Core.val64 FP.Core.decode
  rw [fT, fE', t2]
  constructor
  · rintro ⟨s, h⟩
    split at h
    · split at h
      · omega
      · cases h
    · split at h <;> cases h
  · rintro ⟨s, q, h⟩
    split at h
    · split at h <;> cases h
    · split at h
      · injection h with _ h2 _
        omega
      · injection h with _ h2 _
        rw [t1] at h2
        omega
theorem dc_key {a b : UInt64} (ha : ¬ fN a) (hb : ¬ fN b) : FP.dcmp a b = some (compare (FP.Core.dkey a) (FP.Core.dkey b)) := FP.Core.dcmp_key (fun q => ha ((fN_nan a).mpr q)) (fun q => hb ((fN_nan b).mpr q))
theorem dc_nan {a b : UInt64} (h : fN a ∨ fN b) : FP.dcmp a b = none := (FP.Core.dcmp_none a b).mpr (h.imp (fN_nan a).mp (fN_nan b).mp)
theorem i_cmp {x y : Int} {op : CmpOp} : Op.cmpValue (some (compare x y)) op = if x < y then -1 else if x = y then 0 else 1 := by
  rcases Int.lt_trichotomy x y with h | h | h
  · rw [if_pos h, show compare x y = .lt from Int.compare_eq_lt.mpr h]; rfl
  · rw [if_neg (by omega), if_pos h, show compare x y = .eq from Int.compare_eq_eq.mpr h]; rfl
  · rw [if_neg (by omega), if_neg (by omega), show compare x y = .gt from Int.compare_eq_gt.mpr h]; rfl
/-- the two bounds -/
theorem fMax : ¬ fN 9218868437227405311 ∧ FP.Core.dkey 9218868437227405311 = 9218868437227405311 := by
  constructor
  · unfold fN; decide
  · decide
theorem fMin : ¬ fN 18442240474082181119 ∧ FP.Core.dkey 18442240474082181119 = -9218868437227405311 := by
  constructor
  · unfold fN; decide
  · decide
theorem fNil : ¬ fN 0 ∧ FP.Core.dkey 0 = 0 := by
  constructor
  · unfold fN; decide
  · decide
theorem dkey_def (a : UInt64) : (a.toNat < 2 ^ 63 ∧ FP.Core.dkey a = (a.toNat % 2 ^ 63 : Nat)) ∨ (2 ^ 63 ≤ a.toNat ∧ FP.Core.dkey a = -((a.toNat % 2 ^ 63 : Nat) : Int)) := by
  have := a.toNat_lt
  unfold FP.Core.dkey
  by_cases h : 2 ^ 63 ≤ a.toNat
  · right; rw [if_pos h]; omega
  · left; rw [if_neg h]; omega
/-- beyond, above; beyond, below -/
def fU (a : UInt64) : Prop := fE a ∧ a.toNat < 2 ^ 63
def fD (a : UInt64) : Prop := fE a ∧ 2 ^ 63 ≤ a.toNat
theorem fE_N {a : UInt64} (h : fE a) : ¬ fN a := by unfold fE at h; unfold fN; omega
theorem fZ_N {a : UInt64} (h : fZ a) : ¬ fN a := by unfold fZ at h; unfold fN; omega
theorem c_max (a : UInt64) : 0 < Op.cmpValue (FP.dcmp a 9218868437227405311) .l ↔ fU a := by
  by_cases hn : fN a
  · rw [dc_nan (Or.inl hn)]
    constructor
    · intro h; exact absurd h (by decide)
    · intro h; exact absurd hn (fE_N h.1)
  · rw [dc_key hn fMax.1, i_cmp, fMax.2]
    unfold fU fE
    have hn' : a.toNat % 2 ^ 63 ≤ 9218868437227405312 := Classical.not_not.mp hn
    rcases dkey_def a with ⟨h1, h2⟩ | ⟨h1, h2⟩
    · rw [h2]
      constructor
      · intro h
        by_cases q : a.toNat % 2 ^ 63 = 9218868437227405312
        · exact ⟨q, h1⟩
        · exfalso
          split at h
          · exact absurd h (by decide)
          · split at h
            · exact absurd h (by decide)
            · omega
      · rintro ⟨q, _⟩
        rw [if_neg (by omega), if_neg (by omega)]; decide
    · rw [h2]
      constructor
      · intro h
        rw [if_pos (by omega)] at h
        exact absurd h (by decide)
      · rintro ⟨_, q⟩; omega
theorem c_min (a : UInt64) : ¬ 0 ≤ Op.cmpValue (FP.dcmp a 18442240474082181119) .g ↔ fD a := by
  by_cases hn : fN a
  · rw [dc_nan (Or.inl hn)]
    constructor
    · intro h; exact absurd (by decide) h
    · intro h; exact absurd hn (fE_N h.1)
  · rw [dc_key hn fMin.1, i_cmp, fMin.2]
    unfold fD fE
    have hn' : a.toNat % 2 ^ 63 ≤ 9218868437227405312 := Classical.not_not.mp hn
    rcases dkey_def a with ⟨h1, h2⟩ | ⟨h1, h2⟩
    · rw [h2]
      constructor
      · intro h
        exfalso; apply h
        rw [if_neg (by omega), if_neg (by omega)]; decide
      · rintro ⟨_, q⟩; omega
    · rw [h2]
      constructor
      · intro h
        refine ⟨?_, h1⟩
        by_cases q : a.toNat % 2 ^ 63 = 9218868437227405312
        · exact q
        · exfalso; apply h
          rw [if_neg (by omega)]
          split <;> decide
      · rintro ⟨q, _⟩
        rw [if_pos (by omega)]; decide
theorem c_zero (a : UInt64) : Op.cmpValue (FP.dcmp a 0) .l = 0 ↔ fZ a := by
  by_cases hn : fN a
  · rw [dc_nan (Or.inl hn)]
    constructor
    · intro h; exact absurd h (by decide)
    · intro h; exact absurd hn (fZ_N h)
  · rw [dc_key hn fNil.1, i_cmp, fNil.2]
    unfold fZ
    rcases dkey_def a with ⟨h1, h2⟩ | ⟨h1, h2⟩
    · rw [h2]
      constructor
      · intro h
        split at h
        · exact absurd h (by decide)
        · split at h
          · omega
          · exact absurd h (by decide)
      · intro q; rw [if_neg (by omega), if_pos (by omega)]
    · rw [h2]
      constructor
      · intro h
        split at h
        · exact absurd h (by decide)
        · split at h
          · omega
          · exact absurd h (by decide)
      · intro q; rw [if_neg (by omega), if_pos (by omega)]
theorem c_pos (a : UInt64) (h : fE a) : 0 < Op.cmpValue (FP.dcmp a 0) .l ↔ a.toNat < 2 ^ 63 := by
  rw [dc_key (fE_N h) fNil.1, i_cmp, fNil.2]
  unfold fE at h
  rcases dkey_def a with ⟨h1, h2⟩ | ⟨h1, h2⟩
  · rw [h2, if_neg (by omega), if_neg (by omega)]
    exact ⟨fun _ => h1, fun _ => by decide⟩
  · rw [h2, if_pos (by omega)]
    exact ⟨fun q => absurd q (by decide), fun q => by omega⟩
theorem c_eq {a b : UInt64} (ha : fE a) (hb : fE b) : Op.cmpValue (FP.dcmp a b) .l = 0 ↔ (a.toNat < 2 ^ 63 ↔ b.toNat < 2 ^ 63) := by
  rw [dc_key (fE_N ha) (fE_N hb), i_cmp]
  unfold fE at ha hb
  rcases dkey_def a with ⟨h1, h2⟩ | ⟨h1, h2⟩ <;> rcases dkey_def b with ⟨g1, g2⟩ | ⟨g1, g2⟩ <;> rw [h2, g2]
  · rw [if_neg (by omega), if_pos (by omega)]; exact ⟨fun _ => ⟨fun _ => g1, fun _ => h1⟩, fun _ => rfl⟩
  · rw [if_neg (by omega), if_neg (by omega)]; exact ⟨fun q => absurd q (by decide), fun q => by omega⟩
  · rw [if_pos (by omega)]; exact ⟨fun q => absurd q (by decide), fun q => by omega⟩
  · rw [if_neg (by omega), if_pos (by omega)]; exact ⟨fun _ => ⟨fun _ => by omega, fun _ => by omega⟩, fun _ => rfl⟩
/-- the product, the sum that is no number -/
def noP (a b : UInt64) : Prop := (fZ a ∧ fE b) ∨ (fZ b ∧ fE a)
def noS (a b : UInt64) : Prop := fE a ∧ fE b ∧ ¬ (a.toNat < 2 ^ 63 ↔ b.toNat < 2 ^ 63)
theorem fE_inf {a : UInt64} {s : Bool} (h : FP.Core.val64 a = .inf s) : fE a := (fp_dec a).1 ⟨s, h⟩
theorem mul_ok {a b : UInt64} (ha : ¬ fN a) (hb : ¬ fN b) (h : ¬ noP a b) : I_nan (FP.dmul a b) = true :=
  fp_mul (fun q => ha ((fN_nan a).mpr q)) (fun q => hb ((fN_nan b).mpr q)) (fun q => h (Or.inr ⟨(fp_dec b).2 q.2, (fp_dec a).1 q.1⟩)) (fun q => h (Or.inl ⟨(fp_dec a).2 q.1, (fp_dec b).1 q.2⟩))
theorem I_nan_N {a : UInt64} : I_nan a = true ↔ ¬ fN a := by rw [fp_nan, fN_nan]
theorem mul_N {a b : UInt64} (ha : ¬ fN a) (hb : ¬ fN b) (h : ¬ noP a b) : ¬ fN (FP.dmul a b) := I_nan_N.mp (mul_ok ha hb h)
theorem sgn_inf {a b : UInt64} {s : Bool} (ha : FP.Core.val64 a = .inf s) (hb : FP.Core.val64 b = .inf (!s)) : ¬ (a.toNat < 2 ^ 63 ↔ b.toNat < 2 ^ 63) := by
  intro h
  have ea := fE_inf ha
  have eb := fE_inf hb
  have : a = b := by
    apply UInt64.toNat.inj
    unfold fE at ea eb
    have := a.toNat_lt
    have := b.toNat_lt
    by_cases q : a.toNat < 2 ^ 63
    · have := h.mp q; omega
    · have : ¬ b.toNat < 2 ^ 63 := fun z => q (h.mpr z)
      omega
  rw [this, hb] at ha
  injection ha with h2
  cases s <;> cases h2
theorem add_ok {a b : UInt64} (ha : ¬ fN a) (hb : ¬ fN b) (h : ¬ noS a b) : I_nan (FP.dadd a b) = true :=
  fp_add (fun q => ha ((fN_nan a).mpr q)) (fun q => hb ((fN_nan b).mpr q)) (fun ⟨s, q1, q2⟩ => h ⟨fE_inf q1, fE_inf q2, sgn_inf q1 q2⟩)
theorem add_N {a b : UInt64} (ha : ¬ fN a) (hb : ¬ fN b) (h : ¬ noS a b) : ¬ fN (FP.dadd a b) := I_nan_N.mp (add_ok ha hb h)
