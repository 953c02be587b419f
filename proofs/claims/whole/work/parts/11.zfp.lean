/-! Doubles: which results are numbers. -/
theorem fp_nan (a : UInt64) : I_nan a = true ↔ FP.Core.val64 a ≠ .nan := by
  have e1 : (a &&& 0x7fffffffffffffff).toNat = a.toNat % 2 ^ 63 := by
    rw [UInt64.toNat_and]
    exact Nat.and_two_pow_sub_one_eq_mod a.toNat 63
  have e2 : I_nan a = true ↔ a.toNat % 2 ^ 63 ≤ 9218868437227405312 := by
    unfold I_nan
    rw [decide_eq_true_eq, UInt64.le_iff_toNat_le, e1]
    rfl
  rw [e2]
  have t1 : FP.Core.b64.tails = 4503599627370496 := by decide
  have t2 : FP.Core.b64.exps = 2048 := by decide
  have fT : FP.Core.fieldT FP.Core.b64 a.toNat = a.toNat % 4503599627370496 := by unfold FP.Core.fieldT; rw [t1]
  have fE : FP.Core.fieldE FP.Core.b64 a.toNat = a.toNat / 4503599627370496 % 2048 := by unfold FP.Core.fieldE; rw [t1, t2]
  unfold FP.Core.val64 FP.Core.decode
  rw [fT, fE, t2]
  constructor
  · intro h
    split
    · split
      · intro q; cases q
      · omega
    · split <;> (intro q; cases q)
  · intro h
    by_cases c1 : a.toNat / 4503599627370496 % 2048 = 2048 - 1
    · rw [if_pos c1] at h
      by_cases c2 : a.toNat % 4503599627370496 = 0
      · omega
      · rw [if_neg c2] at h; exact absurd rfl h
    · omega
theorem fp_rr {f : FP.Core.Fmt} {s : Bool} {a b : Nat} {e : Int} : FP.Core.roundRatio f s a b e ≠ .nan := by
  unfold FP.Core.roundRatio FP.Core.roundAt FP.Core.settle FP.Core.bound
  repeat' split
  all_goals (intro q; cases q)
theorem fp_round {f : FP.Core.Fmt} {d : FP.Core.Datum} (h : d ≠ .nan) : FP.Core.round f d ≠ .nan := by
  cases d with
  | nan => exact absurd rfl h
  | inf s => intro q; cases q
  | fin s c q => exact fp_rr
theorem fp_1000 : FP.Core.val64 4652007308841189376 = .fin false 8796093022208000 (-43) := by decide +kernel
theorem fp_i2d (v : Int32) : FP.Core.val64 (FP.i2d v) ≠ .nan := by
  rw [show FP.i2d v = FP.Core.i2d v from rfl, FP.Core.val64_i2d]
  exact fp_round (by unfold FP.Core.ofInt; intro q; cases q)
theorem fp_div (v : Int32) : I_nan (FP.ddiv (FP.i2d v) 4652007308841189376) = true := by
  rw [fp_nan, show FP.ddiv (FP.i2d v) 4652007308841189376 = FP.Core.ddiv (FP.i2d v) 4652007308841189376 from rfl, FP.Core.val64_ddiv, fp_1000]
  have h := fp_i2d v
  cases hd : FP.Core.val64 (FP.i2d v) with
  | nan => exact absurd hd h
  | inf s => intro q; cases q
  | fin s c q =>
    simp only [FP.Core.quotient, if_neg (show ¬ (8796093022208000 : Nat) = 0 by decide)]
    exact fp_rr
/-- beyond all numbers -/
def fp_inf (a : UInt64) : Prop := ∃ s, FP.Core.val64 a = .inf s
theorem fp_add {a b : UInt64} (ha : FP.Core.val64 a ≠ .nan) (hb : FP.Core.val64 b ≠ .nan) (h : ¬ ∃ s, FP.Core.val64 a = .inf s ∧ FP.Core.val64 b = .inf (!s)) : I_nan (FP.dadd a b) = true := by
  rw [fp_nan, show FP.dadd a b = FP.Core.dadd a b from rfl, FP.Core.val64_dadd]
  apply fp_round
  cases hA : FP.Core.val64 a with
  | nan => exact absurd hA ha
  | inf s =>
    cases hB : FP.Core.val64 b with
    | nan => exact absurd hB hb
    | inf t =>
      unfold FP.Core.exactSum
      by_cases q : s = t
      · simp [q]
      · exact absurd ⟨s, hA, by rw [hB]; cases s <;> cases t <;> simp_all⟩ h
    | fin t c q => intro z; cases z
  | fin s c q =>
    cases hB : FP.Core.val64 b with
    | nan => exact absurd hB hb
    | inf t => intro z; cases z
    | fin t c q => intro z; cases z
/-- nought, of either sign -/
def fp_zero (a : UInt64) : Prop := ∃ s q, FP.Core.val64 a = .fin s 0 q
theorem fp_mul {a b : UInt64} (ha : FP.Core.val64 a ≠ .nan) (hb : FP.Core.val64 b ≠ .nan) (h1 : ¬ (fp_inf a ∧ fp_zero b)) (h2 : ¬ (fp_zero a ∧ fp_inf b)) : I_nan (FP.dmul a b) = true := by
  rw [fp_nan, show FP.dmul a b = FP.Core.dmul a b from rfl, FP.Core.val64_dmul]
  apply fp_round
  cases hA : FP.Core.val64 a with
  | nan => exact absurd hA ha
  | inf s =>
    cases hB : FP.Core.val64 b with
    | nan => exact absurd hB hb
    | inf t => intro z; cases z
    | fin t c q =>
      by_cases z : c = 0
      · subst z; exact absurd ⟨⟨s, hA⟩, ⟨t, q, hB⟩⟩ h1
      · simp only [FP.Core.exactProduct, if_neg z]; intro w; cases w
  | fin s c q =>
    cases hB : FP.Core.val64 b with
    | nan => exact absurd hB hb
    | inf t =>
      by_cases z : c = 0
      · subst z; exact absurd ⟨⟨s, q, hA⟩, ⟨t, hB⟩⟩ h2
      · simp only [FP.Core.exactProduct, if_neg z]; intro w; cases w
    | fin t c q => intro z; cases z
