/-! The two objects at their beginning. -/
/-- nothing yet -/
def S0 : St := (fun _ _ => 0, fun a b => if a = 0 ∧ b = 2 then 31239 else 0, fun _ _ => none, fun _ _ => 0)
section IN
variable {X : I_X} {d t a hi sl n : Nat} {o : List Value} {f : Nat → Option Nat} {e : I_Ce} {v : Value} {F : Nat → I_Ce}
/-- cells behind a cell that is being filled -/
def oM (X : I_X) (o : List Value) : Nat → I_Ce := fun q => if q = aM X then .inr (3, o) else rp_f X S0 q
def oO (X : I_X) (o : List Value) (f : Nat → Option Nat) : Nat → I_Ce := fun q => if q = aTs X then .inl (3, 16, .inr (.inr (.inr (.inr f)))) else if q = aO X then .inr (2, o) else rp_f X S0 q
def hM (X : I_X) (j sl : Nat) (o : List Value) : I_H := (X.1 + 38 + j, sl, oM X o)
def hO (X : I_X) (hi sl : Nat) (o : List Value) (f : Nat → Option Nat) : I_H := (X.1 + hi, sl, oO X o f)
theorem hM_1 {j : Nat} : (hM X j sl o).1 = aA X j := rfl
theorem hM_new {j : Nat} (hj : j < 13) (he : e = rp_f X S0 (aA X j)) : I_new (hM X j sl o) n e = hM X (j + 1) (sl + n) o := by
  unfold I_new hM
  refine Prod.ext rfl (Prod.ext rfl ?_)
  funext q
  show (if q = X.1 + 38 + j then e else oM X o q) = oM X o q
  by_cases c : q = X.1 + 38 + j
  · rw [if_pos c, c, he]
    unfold oM
    rw [if_neg (by unfold aM; omega)]
    rfl
  · rw [if_neg c]
theorem hM_cel {j : Nat} : I_cel X (hM X j sl o) (aM X) = some (.inr (3, o)) := by
  unfold I_cel hM
  rw [if_pos (show X.1 ≤ aM X ∧ aM X < X.1 + 38 + j by unfold aM; omega)]
  show some (oM X o (aM X)) = _
  unfold oM
  rw [if_pos rfl]
theorem hM_put {j k : Nat} (hk : k < o.length) : I_putf X (hM X j sl o) (aM X) 3 k v = some (hM X j sl (o.set k v)) := by
  unfold I_putf
  rw [hM_cel]
  show (if 3 = 3 ∧ k < o.length then some (I_set (hM X j sl o) (aM X) (.inr (3, o.set k v))) else none) = _
  rw [if_pos ⟨rfl, hk⟩]
  unfold I_set hM
  refine congrArg some (Prod.ext rfl (Prod.ext rfl ?_))
  funext q
  show (if q = aM X then _ else oM X o q) = oM X (o.set k v) q
  unfold oM
  by_cases c : q = aM X
  · rw [if_pos c, if_pos c]
  · rw [if_neg c, if_neg c, if_neg c]
theorem hMn0 : I_new (hM X 0 325 [.int 0, .null, .null, .null, .int 0, .null, .null, .null, .int 0, .null, .int 0, .null, .int 0, .null, .null, .null, .null, .null, .int 0, .int 0, .int 0]) 16 (.inl (0, 16, .inl (fun _ => 0))) = hM X 1 341 [.int 0, .null, .null, .null, .int 0, .null, .null, .null, .int 0, .null, .int 0, .null, .int 0, .null, .null, .null, .null, .null, .int 0, .int 0, .int 0] := hM_new (by omega) (rf_A (S := S0) (k := 0) (by omega) (by omega)).symm
theorem hMp0 : I_putf X (hM X 1 341 [.int 0, .null, .null, .null, .int 0, .null, .null, .null, .int 0, .null, .int 0, .null, .int 0, .null, .null, .null, .null, .null, .int 0, .int 0, .int 0]) (aM X) 3 1 (va_rf (some (aA X 0))) = some (hM X 1 341 [.int 0, va_rf (some (aA X 0)), .null, .null, .int 0, .null, .null, .null, .int 0, .null, .int 0, .null, .int 0, .null, .null, .null, .null, .null, .int 0, .int 0, .int 0]) := hM_put (k := 1) (by show 1 < 21; omega)
theorem hMn1 : I_new (hM X 1 341 [.int 0, va_rf (some (aA X 0)), .null, .null, .int 0, .null, .null, .null, .int 0, .null, .int 0, .null, .int 0, .null, .null, .null, .null, .null, .int 0, .int 0, .int 0]) 16 (.inl (0, 16, .inl (fun _ => 0))) = hM X 2 357 [.int 0, va_rf (some (aA X 0)), .null, .null, .int 0, .null, .null, .null, .int 0, .null, .int 0, .null, .int 0, .null, .null, .null, .null, .null, .int 0, .int 0, .int 0] := hM_new (by omega) (rf_A (S := S0) (k := 1) (by omega) (by omega)).symm
theorem hMp1 : I_putf X (hM X 2 357 [.int 0, va_rf (some (aA X 0)), .null, .null, .int 0, .null, .null, .null, .int 0, .null, .int 0, .null, .int 0, .null, .null, .null, .null, .null, .int 0, .int 0, .int 0]) (aM X) 3 2 (va_rf (some (aA X 1))) = some (hM X 2 357 [.int 0, va_rf (some (aA X 0)), va_rf (some (aA X 1)), .null, .int 0, .null, .null, .null, .int 0, .null, .int 0, .null, .int 0, .null, .null, .null, .null, .null, .int 0, .int 0, .int 0]) := hM_put (k := 2) (by show 2 < 21; omega)
theorem hMn2 : I_new (hM X 2 357 [.int 0, va_rf (some (aA X 0)), va_rf (some (aA X 1)), .null, .int 0, .null, .null, .null, .int 0, .null, .int 0, .null, .int 0, .null, .null, .null, .null, .null, .int 0, .int 0, .int 0]) 192 (.inl (0, 192, .inl (fun _ => 0))) = hM X 3 549 [.int 0, va_rf (some (aA X 0)), va_rf (some (aA X 1)), .null, .int 0, .null, .null, .null, .int 0, .null, .int 0, .null, .int 0, .null, .null, .null, .null, .null, .int 0, .int 0, .int 0] := hM_new (by omega) (rf_A (S := S0) (k := 2) (by omega) (by omega)).symm
theorem hMp2 : I_putf X (hM X 3 549 [.int 0, va_rf (some (aA X 0)), va_rf (some (aA X 1)), .null, .int 0, .null, .null, .null, .int 0, .null, .int 0, .null, .int 0, .null, .null, .null, .null, .null, .int 0, .int 0, .int 0]) (aM X) 3 3 (va_rf (some (aA X 2))) = some (hM X 3 549 [.int 0, va_rf (some (aA X 0)), va_rf (some (aA X 1)), va_rf (some (aA X 2)), .int 0, .null, .null, .null, .int 0, .null, .int 0, .null, .int 0, .null, .null, .null, .null, .null, .int 0, .int 0, .int 0]) := hM_put (k := 3) (by show 3 < 21; omega)
theorem hMn3 : I_new (hM X 3 549 [.int 0, va_rf (some (aA X 0)), va_rf (some (aA X 1)), va_rf (some (aA X 2)), .int 0, .null, .null, .null, .int 0, .null, .int 0, .null, .int 0, .null, .null, .null, .null, .null, .int 0, .int 0, .int 0]) 900 (.inl (0, 900, .inl (fun _ => 0))) = hM X 4 1449 [.int 0, va_rf (some (aA X 0)), va_rf (some (aA X 1)), va_rf (some (aA X 2)), .int 0, .null, .null, .null, .int 0, .null, .int 0, .null, .int 0, .null, .null, .null, .null, .null, .int 0, .int 0, .int 0] := hM_new (by omega) (rf_A (S := S0) (k := 3) (by omega) (by omega)).symm
theorem hMp3 : I_putf X (hM X 4 1449 [.int 0, va_rf (some (aA X 0)), va_rf (some (aA X 1)), va_rf (some (aA X 2)), .int 0, .null, .null, .null, .int 0, .null, .int 0, .null, .int 0, .null, .null, .null, .null, .null, .int 0, .int 0, .int 0]) (aM X) 3 5 (va_rf (some (aA X 3))) = some (hM X 4 1449 [.int 0, va_rf (some (aA X 0)), va_rf (some (aA X 1)), va_rf (some (aA X 2)), .int 0, va_rf (some (aA X 3)), .null, .null, .int 0, .null, .int 0, .null, .int 0, .null, .null, .null, .null, .null, .int 0, .int 0, .int 0]) := hM_put (k := 5) (by show 5 < 21; omega)
theorem hMn4 : I_new (hM X 4 1449 [.int 0, va_rf (some (aA X 0)), va_rf (some (aA X 1)), va_rf (some (aA X 2)), .int 0, va_rf (some (aA X 3)), .null, .null, .int 0, .null, .int 0, .null, .int 0, .null, .null, .null, .null, .null, .int 0, .int 0, .int 0]) 14400 (.inl (0, 14400, .inl (fun _ => 0))) = hM X 5 15849 [.int 0, va_rf (some (aA X 0)), va_rf (some (aA X 1)), va_rf (some (aA X 2)), .int 0, va_rf (some (aA X 3)), .null, .null, .int 0, .null, .int 0, .null, .int 0, .null, .null, .null, .null, .null, .int 0, .int 0, .int 0] := hM_new (by omega) (rf_A (S := S0) (k := 4) (by omega) (by omega)).symm
theorem hMp4 : I_putf X (hM X 5 15849 [.int 0, va_rf (some (aA X 0)), va_rf (some (aA X 1)), va_rf (some (aA X 2)), .int 0, va_rf (some (aA X 3)), .null, .null, .int 0, .null, .int 0, .null, .int 0, .null, .null, .null, .null, .null, .int 0, .int 0, .int 0]) (aM X) 3 6 (va_rf (some (aA X 4))) = some (hM X 5 15849 [.int 0, va_rf (some (aA X 0)), va_rf (some (aA X 1)), va_rf (some (aA X 2)), .int 0, va_rf (some (aA X 3)), va_rf (some (aA X 4)), .null, .int 0, .null, .int 0, .null, .int 0, .null, .null, .null, .null, .null, .int 0, .int 0, .int 0]) := hM_put (k := 6) (by show 6 < 21; omega)
theorem hMn5 : I_new (hM X 5 15849 [.int 0, va_rf (some (aA X 0)), va_rf (some (aA X 1)), va_rf (some (aA X 2)), .int 0, va_rf (some (aA X 3)), va_rf (some (aA X 4)), .null, .int 0, .null, .int 0, .null, .int 0, .null, .null, .null, .null, .null, .int 0, .int 0, .int 0]) 14400 (.inl (1, 14400, .inr (.inr (.inr (.inl (fun _ => 0)))))) = hM X 6 30249 [.int 0, va_rf (some (aA X 0)), va_rf (some (aA X 1)), va_rf (some (aA X 2)), .int 0, va_rf (some (aA X 3)), va_rf (some (aA X 4)), .null, .int 0, .null, .int 0, .null, .int 0, .null, .null, .null, .null, .null, .int 0, .int 0, .int 0] := hM_new (by omega) (rf_A5 (S := S0)).symm
theorem hMp5 : I_putf X (hM X 6 30249 [.int 0, va_rf (some (aA X 0)), va_rf (some (aA X 1)), va_rf (some (aA X 2)), .int 0, va_rf (some (aA X 3)), va_rf (some (aA X 4)), .null, .int 0, .null, .int 0, .null, .int 0, .null, .null, .null, .null, .null, .int 0, .int 0, .int 0]) (aM X) 3 7 (va_rf (some (aA X 5))) = some (hM X 6 30249 [.int 0, va_rf (some (aA X 0)), va_rf (some (aA X 1)), va_rf (some (aA X 2)), .int 0, va_rf (some (aA X 3)), va_rf (some (aA X 4)), va_rf (some (aA X 5)), .int 0, .null, .int 0, .null, .int 0, .null, .null, .null, .null, .null, .int 0, .int 0, .int 0]) := hM_put (k := 7) (by show 7 < 21; omega)
theorem hMn6 : I_new (hM X 6 30249 [.int 0, va_rf (some (aA X 0)), va_rf (some (aA X 1)), va_rf (some (aA X 2)), .int 0, va_rf (some (aA X 3)), va_rf (some (aA X 4)), va_rf (some (aA X 5)), .int 0, .null, .int 0, .null, .int 0, .null, .null, .null, .null, .null, .int 0, .int 0, .int 0]) 900 (.inl (0, 900, .inl (fun _ => 0))) = hM X 7 31149 [.int 0, va_rf (some (aA X 0)), va_rf (some (aA X 1)), va_rf (some (aA X 2)), .int 0, va_rf (some (aA X 3)), va_rf (some (aA X 4)), va_rf (some (aA X 5)), .int 0, .null, .int 0, .null, .int 0, .null, .null, .null, .null, .null, .int 0, .int 0, .int 0] := hM_new (by omega) (rf_A (S := S0) (k := 6) (by omega) (by omega)).symm
theorem hMp6 : I_putf X (hM X 7 31149 [.int 0, va_rf (some (aA X 0)), va_rf (some (aA X 1)), va_rf (some (aA X 2)), .int 0, va_rf (some (aA X 3)), va_rf (some (aA X 4)), va_rf (some (aA X 5)), .int 0, .null, .int 0, .null, .int 0, .null, .null, .null, .null, .null, .int 0, .int 0, .int 0]) (aM X) 3 9 (va_rf (some (aA X 6))) = some (hM X 7 31149 [.int 0, va_rf (some (aA X 0)), va_rf (some (aA X 1)), va_rf (some (aA X 2)), .int 0, va_rf (some (aA X 3)), va_rf (some (aA X 4)), va_rf (some (aA X 5)), .int 0, va_rf (some (aA X 6)), .int 0, .null, .int 0, .null, .null, .null, .null, .null, .int 0, .int 0, .int 0]) := hM_put (k := 9) (by show 9 < 21; omega)
theorem hMn7 : I_new (hM X 7 31149 [.int 0, va_rf (some (aA X 0)), va_rf (some (aA X 1)), va_rf (some (aA X 2)), .int 0, va_rf (some (aA X 3)), va_rf (some (aA X 4)), va_rf (some (aA X 5)), .int 0, va_rf (some (aA X 6)), .int 0, .null, .int 0, .null, .null, .null, .null, .null, .int 0, .int 0, .int 0]) 8 (.inl (0, 8, .inl (fun _ => 0))) = hM X 8 31157 [.int 0, va_rf (some (aA X 0)), va_rf (some (aA X 1)), va_rf (some (aA X 2)), .int 0, va_rf (some (aA X 3)), va_rf (some (aA X 4)), va_rf (some (aA X 5)), .int 0, va_rf (some (aA X 6)), .int 0, .null, .int 0, .null, .null, .null, .null, .null, .int 0, .int 0, .int 0] := hM_new (by omega) (rf_A (S := S0) (k := 7) (by omega) (by omega)).symm
theorem hMp7 : I_putf X (hM X 8 31157 [.int 0, va_rf (some (aA X 0)), va_rf (some (aA X 1)), va_rf (some (aA X 2)), .int 0, va_rf (some (aA X 3)), va_rf (some (aA X 4)), va_rf (some (aA X 5)), .int 0, va_rf (some (aA X 6)), .int 0, .null, .int 0, .null, .null, .null, .null, .null, .int 0, .int 0, .int 0]) (aM X) 3 11 (va_rf (some (aA X 7))) = some (hM X 8 31157 [.int 0, va_rf (some (aA X 0)), va_rf (some (aA X 1)), va_rf (some (aA X 2)), .int 0, va_rf (some (aA X 3)), va_rf (some (aA X 4)), va_rf (some (aA X 5)), .int 0, va_rf (some (aA X 6)), .int 0, va_rf (some (aA X 7)), .int 0, .null, .null, .null, .null, .null, .int 0, .int 0, .int 0]) := hM_put (k := 11) (by show 11 < 21; omega)
theorem hMn8 : I_new (hM X 8 31157 [.int 0, va_rf (some (aA X 0)), va_rf (some (aA X 1)), va_rf (some (aA X 2)), .int 0, va_rf (some (aA X 3)), va_rf (some (aA X 4)), va_rf (some (aA X 5)), .int 0, va_rf (some (aA X 6)), .int 0, va_rf (some (aA X 7)), .int 0, .null, .null, .null, .null, .null, .int 0, .int 0, .int 0]) 17 (.inl (0, 17, .inl (fun _ => 0))) = hM X 9 31174 [.int 0, va_rf (some (aA X 0)), va_rf (some (aA X 1)), va_rf (some (aA X 2)), .int 0, va_rf (some (aA X 3)), va_rf (some (aA X 4)), va_rf (some (aA X 5)), .int 0, va_rf (some (aA X 6)), .int 0, va_rf (some (aA X 7)), .int 0, .null, .null, .null, .null, .null, .int 0, .int 0, .int 0] := hM_new (by omega) (rf_A (S := S0) (k := 8) (by omega) (by omega)).symm
theorem hMp8 : I_putf X (hM X 9 31174 [.int 0, va_rf (some (aA X 0)), va_rf (some (aA X 1)), va_rf (some (aA X 2)), .int 0, va_rf (some (aA X 3)), va_rf (some (aA X 4)), va_rf (some (aA X 5)), .int 0, va_rf (some (aA X 6)), .int 0, va_rf (some (aA X 7)), .int 0, .null, .null, .null, .null, .null, .int 0, .int 0, .int 0]) (aM X) 3 13 (va_rf (some (aA X 8))) = some (hM X 9 31174 [.int 0, va_rf (some (aA X 0)), va_rf (some (aA X 1)), va_rf (some (aA X 2)), .int 0, va_rf (some (aA X 3)), va_rf (some (aA X 4)), va_rf (some (aA X 5)), .int 0, va_rf (some (aA X 6)), .int 0, va_rf (some (aA X 7)), .int 0, va_rf (some (aA X 8)), .null, .null, .null, .null, .int 0, .int 0, .int 0]) := hM_put (k := 13) (by show 13 < 21; omega)
theorem hMn9 : I_new (hM X 9 31174 [.int 0, va_rf (some (aA X 0)), va_rf (some (aA X 1)), va_rf (some (aA X 2)), .int 0, va_rf (some (aA X 3)), va_rf (some (aA X 4)), va_rf (some (aA X 5)), .int 0, va_rf (some (aA X 6)), .int 0, va_rf (some (aA X 7)), .int 0, va_rf (some (aA X 8)), .null, .null, .null, .null, .int 0, .int 0, .int 0]) 17 (.inl (0, 17, .inl (fun _ => 0))) = hM X 10 31191 [.int 0, va_rf (some (aA X 0)), va_rf (some (aA X 1)), va_rf (some (aA X 2)), .int 0, va_rf (some (aA X 3)), va_rf (some (aA X 4)), va_rf (some (aA X 5)), .int 0, va_rf (some (aA X 6)), .int 0, va_rf (some (aA X 7)), .int 0, va_rf (some (aA X 8)), .null, .null, .null, .null, .int 0, .int 0, .int 0] := hM_new (by omega) (rf_A (S := S0) (k := 9) (by omega) (by omega)).symm
theorem hMp9 : I_putf X (hM X 10 31191 [.int 0, va_rf (some (aA X 0)), va_rf (some (aA X 1)), va_rf (some (aA X 2)), .int 0, va_rf (some (aA X 3)), va_rf (some (aA X 4)), va_rf (some (aA X 5)), .int 0, va_rf (some (aA X 6)), .int 0, va_rf (some (aA X 7)), .int 0, va_rf (some (aA X 8)), .null, .null, .null, .null, .int 0, .int 0, .int 0]) (aM X) 3 14 (va_rf (some (aA X 9))) = some (hM X 10 31191 [.int 0, va_rf (some (aA X 0)), va_rf (some (aA X 1)), va_rf (some (aA X 2)), .int 0, va_rf (some (aA X 3)), va_rf (some (aA X 4)), va_rf (some (aA X 5)), .int 0, va_rf (some (aA X 6)), .int 0, va_rf (some (aA X 7)), .int 0, va_rf (some (aA X 8)), va_rf (some (aA X 9)), .null, .null, .null, .int 0, .int 0, .int 0]) := hM_put (k := 14) (by show 14 < 21; omega)
theorem hMn10 : I_new (hM X 10 31191 [.int 0, va_rf (some (aA X 0)), va_rf (some (aA X 1)), va_rf (some (aA X 2)), .int 0, va_rf (some (aA X 3)), va_rf (some (aA X 4)), va_rf (some (aA X 5)), .int 0, va_rf (some (aA X 6)), .int 0, va_rf (some (aA X 7)), .int 0, va_rf (some (aA X 8)), va_rf (some (aA X 9)), .null, .null, .null, .int 0, .int 0, .int 0]) 16 (.inl (0, 16, .inl (fun _ => 0))) = hM X 11 31207 [.int 0, va_rf (some (aA X 0)), va_rf (some (aA X 1)), va_rf (some (aA X 2)), .int 0, va_rf (some (aA X 3)), va_rf (some (aA X 4)), va_rf (some (aA X 5)), .int 0, va_rf (some (aA X 6)), .int 0, va_rf (some (aA X 7)), .int 0, va_rf (some (aA X 8)), va_rf (some (aA X 9)), .null, .null, .null, .int 0, .int 0, .int 0] := hM_new (by omega) (rf_A (S := S0) (k := 10) (by omega) (by omega)).symm
theorem hMp10 : I_putf X (hM X 11 31207 [.int 0, va_rf (some (aA X 0)), va_rf (some (aA X 1)), va_rf (some (aA X 2)), .int 0, va_rf (some (aA X 3)), va_rf (some (aA X 4)), va_rf (some (aA X 5)), .int 0, va_rf (some (aA X 6)), .int 0, va_rf (some (aA X 7)), .int 0, va_rf (some (aA X 8)), va_rf (some (aA X 9)), .null, .null, .null, .int 0, .int 0, .int 0]) (aM X) 3 15 (va_rf (some (aA X 10))) = some (hM X 11 31207 [.int 0, va_rf (some (aA X 0)), va_rf (some (aA X 1)), va_rf (some (aA X 2)), .int 0, va_rf (some (aA X 3)), va_rf (some (aA X 4)), va_rf (some (aA X 5)), .int 0, va_rf (some (aA X 6)), .int 0, va_rf (some (aA X 7)), .int 0, va_rf (some (aA X 8)), va_rf (some (aA X 9)), va_rf (some (aA X 10)), .null, .null, .int 0, .int 0, .int 0]) := hM_put (k := 15) (by show 15 < 21; omega)
theorem hMn11 : I_new (hM X 11 31207 [.int 0, va_rf (some (aA X 0)), va_rf (some (aA X 1)), va_rf (some (aA X 2)), .int 0, va_rf (some (aA X 3)), va_rf (some (aA X 4)), va_rf (some (aA X 5)), .int 0, va_rf (some (aA X 6)), .int 0, va_rf (some (aA X 7)), .int 0, va_rf (some (aA X 8)), va_rf (some (aA X 9)), va_rf (some (aA X 10)), .null, .null, .int 0, .int 0, .int 0]) 16 (.inl (0, 16, .inl (fun _ => 0))) = hM X 12 31223 [.int 0, va_rf (some (aA X 0)), va_rf (some (aA X 1)), va_rf (some (aA X 2)), .int 0, va_rf (some (aA X 3)), va_rf (some (aA X 4)), va_rf (some (aA X 5)), .int 0, va_rf (some (aA X 6)), .int 0, va_rf (some (aA X 7)), .int 0, va_rf (some (aA X 8)), va_rf (some (aA X 9)), va_rf (some (aA X 10)), .null, .null, .int 0, .int 0, .int 0] := hM_new (by omega) (rf_A (S := S0) (k := 11) (by omega) (by omega)).symm
theorem hMp11 : I_putf X (hM X 12 31223 [.int 0, va_rf (some (aA X 0)), va_rf (some (aA X 1)), va_rf (some (aA X 2)), .int 0, va_rf (some (aA X 3)), va_rf (some (aA X 4)), va_rf (some (aA X 5)), .int 0, va_rf (some (aA X 6)), .int 0, va_rf (some (aA X 7)), .int 0, va_rf (some (aA X 8)), va_rf (some (aA X 9)), va_rf (some (aA X 10)), .null, .null, .int 0, .int 0, .int 0]) (aM X) 3 16 (va_rf (some (aA X 11))) = some (hM X 12 31223 [.int 0, va_rf (some (aA X 0)), va_rf (some (aA X 1)), va_rf (some (aA X 2)), .int 0, va_rf (some (aA X 3)), va_rf (some (aA X 4)), va_rf (some (aA X 5)), .int 0, va_rf (some (aA X 6)), .int 0, va_rf (some (aA X 7)), .int 0, va_rf (some (aA X 8)), va_rf (some (aA X 9)), va_rf (some (aA X 10)), va_rf (some (aA X 11)), .null, .int 0, .int 0, .int 0]) := hM_put (k := 16) (by show 16 < 21; omega)
theorem hMn12 : I_new (hM X 12 31223 [.int 0, va_rf (some (aA X 0)), va_rf (some (aA X 1)), va_rf (some (aA X 2)), .int 0, va_rf (some (aA X 3)), va_rf (some (aA X 4)), va_rf (some (aA X 5)), .int 0, va_rf (some (aA X 6)), .int 0, va_rf (some (aA X 7)), .int 0, va_rf (some (aA X 8)), va_rf (some (aA X 9)), va_rf (some (aA X 10)), va_rf (some (aA X 11)), .null, .int 0, .int 0, .int 0]) 16 (.inl (0, 16, .inl (fun _ => 0))) = hM X 13 31239 [.int 0, va_rf (some (aA X 0)), va_rf (some (aA X 1)), va_rf (some (aA X 2)), .int 0, va_rf (some (aA X 3)), va_rf (some (aA X 4)), va_rf (some (aA X 5)), .int 0, va_rf (some (aA X 6)), .int 0, va_rf (some (aA X 7)), .int 0, va_rf (some (aA X 8)), va_rf (some (aA X 9)), va_rf (some (aA X 10)), va_rf (some (aA X 11)), .null, .int 0, .int 0, .int 0] := hM_new (by omega) (rf_A (S := S0) (k := 12) (by omega) (by omega)).symm
theorem hMp12 : I_putf X (hM X 13 31239 [.int 0, va_rf (some (aA X 0)), va_rf (some (aA X 1)), va_rf (some (aA X 2)), .int 0, va_rf (some (aA X 3)), va_rf (some (aA X 4)), va_rf (some (aA X 5)), .int 0, va_rf (some (aA X 6)), .int 0, va_rf (some (aA X 7)), .int 0, va_rf (some (aA X 8)), va_rf (some (aA X 9)), va_rf (some (aA X 10)), va_rf (some (aA X 11)), .null, .int 0, .int 0, .int 0]) (aM X) 3 17 (va_rf (some (aA X 12))) = some (hM X 13 31239 [.int 0, va_rf (some (aA X 0)), va_rf (some (aA X 1)), va_rf (some (aA X 2)), .int 0, va_rf (some (aA X 3)), va_rf (some (aA X 4)), va_rf (some (aA X 5)), .int 0, va_rf (some (aA X 6)), .int 0, va_rf (some (aA X 7)), .int 0, va_rf (some (aA X 8)), va_rf (some (aA X 9)), va_rf (some (aA X 10)), va_rf (some (aA X 11)), va_rf (some (aA X 12)), .int 0, .int 0, .int 0]) := hM_put (k := 17) (by show 17 < 21; omega)
theorem hM_end : hM X 13 31239 [.int 0, va_rf (some (aA X 0)), va_rf (some (aA X 1)), va_rf (some (aA X 2)), .int 0, va_rf (some (aA X 3)), va_rf (some (aA X 4)), va_rf (some (aA X 5)), .int 0, va_rf (some (aA X 6)), .int 0, va_rf (some (aA X 7)), .int 0, va_rf (some (aA X 8)), va_rf (some (aA X 9)), va_rf (some (aA X 10)), va_rf (some (aA X 11)), va_rf (some (aA X 12)), .int 0, .int 0, .int 0] = rp X S0 := by
  unfold hM rp
  refine Prod.ext rfl (Prod.ext rfl ?_)
  funext q
  show oM X _ q = rp_f X S0 q
  unfold oM
  by_cases c : q = aM X
  · rw [if_pos c, c, rf_M]; rfl
  · rw [if_neg c]
theorem tcn6 : (6 : Int32).toNatClampNeg = 6 := by decide
theorem mk6 : I_mk 6 = true := by decide
theorem tcn8 : (8 : Int32).toNatClampNeg = 8 := by decide
theorem mk8 : I_mk 8 = true := by decide
theorem tcn12 : (12 : Int32).toNatClampNeg = 12 := by decide
theorem mk12 : I_mk 12 = true := by decide
theorem tcn16 : (16 : Int32).toNatClampNeg = 16 := by decide
theorem mk16 : I_mk 16 = true := by decide
theorem tcn17 : (17 : Int32).toNatClampNeg = 17 := by decide
theorem mk17 : I_mk 17 = true := by decide
theorem tcn192 : (192 : Int32).toNatClampNeg = 192 := by decide
theorem mk192 : I_mk 192 = true := by decide
theorem tcn900 : (900 : Int32).toNatClampNeg = 900 := by decide
theorem mk900 : I_mk 900 = true := by decide
theorem tcn14400 : (14400 : Int32).toNatClampNeg = 14400 := by decide
theorem mk14400 : I_mk 14400 = true := by decide
theorem m_init : ev X d m_X3_init 0 [some (va_rf (some (aM X)))] [] (hM X 0 325 [.int 0, .null, .null, .null, .int 0, .null, .null, .null, .int 0, .null, .int 0, .null, .int 0, .null, .null, .null, .null, .null, .int 0, .int 0, .int 0]) = some (none, rp X S0) := by
  rw [← hM_end]
  simp only [e_X3_init_0, e_X3_init_1, e_X3_init_4, e_X3_init_5, e_X3_init_7, e_X3_init_9, e_X3_init_12, e_X3_init_13, e_X3_init_15, e_X3_init_17, e_X3_init_20, e_X3_init_21, e_X3_init_24, e_X3_init_26, e_X3_init_29, e_X3_init_30, e_X3_init_33, e_X3_init_35, e_X3_init_38, e_X3_init_39, e_X3_init_42, e_X3_init_44, e_X3_init_47, e_X3_init_48, e_X3_init_51, e_X3_init_53, e_X3_init_56, e_X3_init_57, e_X3_init_60, e_X3_init_62, e_X3_init_65, e_X3_init_66, e_X3_init_68, e_X3_init_70, e_X3_init_73, e_X3_init_74, e_X3_init_76, e_X3_init_78, e_X3_init_81, e_X3_init_82, e_X3_init_84, e_X3_init_86, e_X3_init_89, e_X3_init_90, e_X3_init_92, e_X3_init_94, e_X3_init_97, e_X3_init_98, e_X3_init_100, e_X3_init_102, e_X3_init_105, e_X3_init_106, e_X3_init_108, e_X3_init_110, e_X3_init_113, Option.bind_some, Option.bind_none, Option.toList_some, Option.toList_none, List.cons_append, List.nil_append, I_z, I_i8, I_q8, I_i7, I_q7, I_i6, I_q6, I_i5, I_q5, I_i4, I_q4, I_i3, I_q3, I_i2, I_q2, I_i1, I_q1, I_w8, I_w7, I_w6, I_w5, I_w4, I_w3, I_w2, I_c2n, I_c2i, I_c2q, eq_self, or_true, true_or, and_true, true_and, if_true, if_false, not_false_eq_true, not_true_eq_false, Option.map_none, Option.map_some, reduceCtorEq, tcn6, mk6, tcn8, mk8, tcn12, mk12, tcn16, mk16, tcn17, mk17, tcn192, mk192, tcn900, mk900, tcn14400, mk14400, hM_1, hMn0, hMp0, hMn1, hMp1, hMn2, hMp2, hMn3, hMp3, hMn4, hMp4, hMn5, hMp5, hMn6, hMp6, hMn7, hMp7, hMn8, hMp8, hMn9, hMp9, hMn10, hMp10, hMn11, hMp11, hMn12, hMp12]
theorem t_init (h1 : X.1 ≤ a) (h2 : a < hi) (hF : F a = .inr (1, [.null, .int 0, .int 0])) : ev X d m_X1_init 0 [some (va_rf (some a))] [] (hi, sl, F) = some (none, hi + 1, sl + 12, fun q => if q = a then .inr (1, [va_rf (some hi), .int 0, .int 0]) else if q = hi then .inl (4, 12, .inr (.inr (.inr (.inr (fun _ => none))))) else F q) := by
  have e1 : I_putf X (I_new (hi, sl, F) 12 (.inl (4, 12, .inr (.inr (.inr (.inr (fun _ => none))))))) a 1 0 (va_rf (some hi)) = some (hi + 1, sl + 12, fun q => if q = a then .inr (1, [va_rf (some hi), .int 0, .int 0]) else if q = hi then .inl (4, 12, .inr (.inr (.inr (.inr (fun _ => none))))) else F q) := by
    have e2 : I_cel X (I_new (hi, sl, F) 12 (.inl (4, 12, .inr (.inr (.inr (.inr (fun _ => none))))))) a = some (.inr (1, [.null, .int 0, .int 0])) := by
      unfold I_cel I_new
      rw [if_pos (show X.1 ≤ a ∧ a < hi + 1 by omega)]
      show some (if a = hi then _ else F a) = _
      rw [if_neg (by omega), hF]
    unfold I_putf
    rw [e2]
    rfl
  simp only [e_X1_init_0, e_X1_init_1, e_X1_init_4, e_X1_init_5, e_X1_init_7, e_X1_init_10, e_X1_init_13, Option.bind_some, Option.bind_none, Option.toList_some, Option.toList_none, List.cons_append, List.nil_append, I_z, I_i8, I_q8, I_i7, I_q7, I_i6, I_q6, I_i5, I_q5, I_i4, I_q4, I_i3, I_q3, I_i2, I_q2, I_i1, I_q1, I_w8, I_w7, I_w6, I_w5, I_w4, I_w3, I_w2, I_c2n, I_c2i, I_c2q, eq_self, or_true, true_or, and_true, true_and, if_true, if_false, not_false_eq_true, not_true_eq_false, Option.map_none, Option.map_some, reduceCtorEq, tcn12, mk12, e1]
def fT (X : I_X) (t : Nat) : Nat → Option Nat := fun j => if j < t then some (aT X j) else none
theorem hO_new (h2 : 2 ≤ hi) (h37 : hi < 37) (he : e = rp_f X S0 (X.1 + hi)) : I_new (hO X hi sl o f) n e = hO X (hi + 1) (sl + n) o f := by
  unfold I_new hO
  refine Prod.ext rfl (Prod.ext rfl ?_)
  funext q
  show (if q = X.1 + hi then e else oO X o f q) = oO X o f q
  by_cases c : q = X.1 + hi
  · rw [if_pos c, c, he]
    unfold oO
    rw [if_neg (by unfold aTs; omega), if_neg (by unfold aO; omega)]
  · rw [if_neg c]
theorem hO_cel (h2 : 2 ≤ hi) : I_cel X (hO X hi sl o f) (aO X) = some (.inr (2, o)) := by
  unfold I_cel hO
  rw [if_pos (show X.1 ≤ aO X ∧ aO X < X.1 + hi by unfold aO; omega)]
  show some (oO X o f (aO X)) = _
  unfold oO
  rw [if_neg (by unfold aO aTs; omega), if_pos rfl]
theorem hO_celT (h2 : 2 ≤ hi) : I_cel X (hO X hi sl o f) (aTs X) = some (.inl (3, 16, .inr (.inr (.inr (.inr f))))) := by
  unfold I_cel hO
  rw [if_pos (show X.1 ≤ aTs X ∧ aTs X < X.1 + hi by unfold aTs; omega)]
  show some (oO X o f (aTs X)) = _
  unfold oO
  rw [if_pos rfl]
theorem hO_put {k : Nat} (h2 : 2 ≤ hi) (hk : k < o.length) : I_putf X (hO X hi sl o f) (aO X) 2 k v = some (hO X hi sl (o.set k v) f) := by
  unfold I_putf
  rw [hO_cel h2]
  show (if 2 = 2 ∧ k < o.length then some (I_set (hO X hi sl o f) (aO X) (.inr (2, o.set k v))) else none) = _
  rw [if_pos ⟨rfl, hk⟩]
  unfold I_set hO
  refine congrArg some (Prod.ext rfl (Prod.ext rfl ?_))
  funext q
  show (if q = aO X then _ else oO X o f q) = oO X (o.set k v) f q
  unfold oO
  by_cases c : q = aO X
  · rw [if_pos c, if_neg (show ¬ q = aTs X by rw [c]; unfold aO aTs; omega), if_pos c]
  · rw [if_neg c, if_neg c, if_neg c]
theorem hO_table (ht : t < 16) : ev X (d + 1) m_X1_init 0 [some (va_rf (some (aT X t)))] [] (I_new (hO X (2 + 2 * t) sl o f) 3 (.inr (1, [.null, .int 0, .int 0]))) = some (none, hO X (2 + 2 * (t + 1)) (sl + 15) o f) := by
  have e1 : I_new (hO X (2 + 2 * t) sl o f) 3 (.inr (1, [.null, .int 0, .int 0])) = (X.1 + (2 + 2 * t) + 1, sl + 3, fun q => if q = X.1 + (2 + 2 * t) then .inr (1, [.null, .int 0, .int 0]) else oO X o f q) := rfl
  rw [e1, t_init (by unfold aT; omega) (by unfold aT; omega) (by rw [if_pos (by unfold aT; omega)])]
  unfold hO
  refine congrArg (fun z => some (none, z)) (Prod.ext (by show X.1 + (2 + 2 * t) + 1 + 1 = X.1 + (2 + 2 * (t + 1)); omega) (Prod.ext rfl ?_))
  funext q
  show (if q = aT X t then _ else if q = X.1 + (2 + 2 * t) + 1 then _ else if q = X.1 + (2 + 2 * t) then _ else oO X o f q) = oO X o f q
  by_cases c : q = aT X t
  · rw [if_pos c]
    unfold oO
    rw [if_neg (by rw [c]; unfold aT aTs; omega), if_neg (by rw [c]; unfold aT aO; omega), c, rf_T ht]
    have e2 : X.1 + (2 + 2 * t) + 1 = aTr X t := by unfold aTr; omega
    rw [e2]
    rfl
  · rw [if_neg c]
    by_cases c2 : q = X.1 + (2 + 2 * t) + 1
    · have e2 : q = aTr X t := by unfold aTr; omega
      rw [if_pos c2]
      unfold oO
      rw [if_neg (by rw [e2]; unfold aTr aTs; omega), if_neg (by rw [e2]; unfold aTr aO; omega), e2, rf_Tr ht]
      rfl
    · rw [if_neg c2, if_neg (fun z => c (by rw [z]; unfold aT; omega))]
theorem hO_ast (ht : t < 16) : I_astq X (hO X (2 + 2 * (t + 1)) sl o (fT X t)) (aTs X) (nI t) (some (aT X t)) = some (hO X (2 + 2 * (t + 1)) sl o (fT X (t + 1))) := by
  have hC : I_isC X (hO X (2 + 2 * (t + 1)) sl o (fT X t)) (aT X t) 1 = true := by
    have : I_cel X (hO X (2 + 2 * (t + 1)) sl o (fT X t)) (aT X t) = some (rp_f X S0 (aT X t)) := by
      unfold I_cel hO
      rw [if_pos (show X.1 ≤ aT X t ∧ aT X t < X.1 + (2 + 2 * (t + 1)) by unfold aT; omega)]
      show some (oO X o (fT X t) (aT X t)) = _
      unfold oO
      rw [if_neg (by unfold aT aTs; omega), if_neg (by unfold aT aO; omega)]
    unfold I_isC
    rw [this, rf_T ht]
    rfl
  unfold I_astq
  rw [arr_of (hO_celT (by omega))]
  simp only [I_in_nI ht (by omega), nI_clamp (show t < 2 ^ 31 by omega), hC, and_self, and_true, true_or, if_true]
  unfold I_set hO
  refine congrArg some (Prod.ext rfl (Prod.ext rfl ?_))
  funext q
  show (if q = aTs X then _ else oO X o (fT X t) q) = oO X o (fT X (t + 1)) q
  unfold oO
  by_cases c : q = aTs X
  · rw [if_pos c, if_pos c]
    have e2 : va_up (fT X t) t (some (aT X t)) = fT X (t + 1) := by
      funext j
      unfold va_up fT
      by_cases c2 : j = t
      · subst c2; rw [if_pos rfl, if_pos (by omega)]
      · rw [if_neg c2]
        by_cases c3 : j < t
        · rw [if_pos c3, if_pos (by omega)]
        · rw [if_neg c3, if_neg (by omega)]
    rw [e2]
  · rw [if_neg c, if_neg c, if_neg c]
theorem I_def1 : I_def 1 = [.null, .int 0, .int 0] := rfl
theorem I_N1 : I_N 1 = 3 := rfl
theorem hO_1 : (hO X (2 + 2 * t) sl o f).1 = aT X t := by unfold hO aT; omega
/-- the fields while they are being filled -/
def o1 (X : I_X) : List Value := [va_rf (some (aTs X)), .int 0, .int 0, .null, .int 0, .null, .int 0, .int 0, .null, .int 0]
theorem c_loop : ∀ m t sl, t + m = 16 → ev X (d + 2) m_X2_init 15 [some (va_rf (some (aO X))), some (.int (nI t))] [] (hO X (2 + 2 * t) sl (o1 X) (fT X t)) = ev X (d + 2) m_X2_init 40 [some (va_rf (some (aO X))), some (.int (nI 16))] [] (hO X 34 (sl + 15 * m) (o1 X) (fT X 16)) := by
  intro m
  induction m with
  | zero =>
    intro t sl ht
    have e : t = 16 := by omega
    subst e
    have h1 : (16 : Int32) ≤ nI 16 := by decide
    rw [e_X2_init_15]
    simp only [e_X2_init_16, e_X2_init_18, e_X2_init_21, e_X2_init_22, e_X2_init_25, e_X2_init_26, e_X2_init_29, e_X2_init_29i, e_X2_init_30, e_X2_init_33, e_X2_init_34, e_X2_init_37, Option.bind_some, Option.bind_none, Option.toList_some, Option.toList_none, List.cons_append, List.nil_append, I_z, I_i8, I_q8, I_i7, I_q7, I_i6, I_q6, I_i5, I_q5, I_i4, I_q4, I_i3, I_q3, I_i2, I_q2, I_i1, I_q1, I_w8, I_w7, I_w6, I_w5, I_w4, I_w3, I_w2, I_c2n, I_c2i, I_c2q, eq_self, or_true, true_or, and_true, true_and, if_true, if_false, not_false_eq_true, not_true_eq_false, Option.map_none, Option.map_some, reduceCtorEq, h1]
    rfl
  | succ m ih =>
    intro t sl ht
    have h1 : ¬ (16 : Int32) ≤ nI t := nI_ge (b := 16) (by omega) (by omega)
    have ht16 : t < 16 := by omega
    have g0 : I_getf X (hO X (2 + 2 * t) sl (o1 X) (fT X t)) (aO X) 2 0 = some (va_rf (some (aTs X))) := by
      unfold I_getf
      rw [hO_cel (by omega)]
      rfl
    rw [e_X2_init_15]
    simp only [e_X2_init_16, e_X2_init_18, e_X2_init_21, e_X2_init_22, e_X2_init_25, e_X2_init_26, e_X2_init_29, e_X2_init_29i, e_X2_init_30, e_X2_init_33, e_X2_init_34, e_X2_init_37, Option.bind_some, Option.bind_none, Option.toList_some, Option.toList_none, List.cons_append, List.nil_append, I_z, I_i8, I_q8, I_i7, I_q7, I_i6, I_q6, I_i5, I_q5, I_i4, I_q4, I_i3, I_q3, I_i2, I_q2, I_i1, I_q1, I_w8, I_w7, I_w6, I_w5, I_w4, I_w3, I_w2, I_c2n, I_c2i, I_c2q, eq_self, or_true, true_or, and_true, true_and, if_true, if_false, not_false_eq_true, not_true_eq_false, Option.map_none, Option.map_some, reduceCtorEq, h1, g0, I_def1, I_N1, hO_1, hO_table ht16, hO_ast ht16, nI_1]
    rw [ih (t + 1) (sl + 15) (by omega), show sl + 15 + 15 * m = sl + 15 * (m + 1) by omega]
/-- the heap at the beginning: what is not made yet counts for nothing -/
def h0 (X : I_X) : I_H := (X.1, 0, rp_f X S0)
theorem h0_1 : (h0 X).1 = aO X := rfl
theorem h0_n1 {e : I_Ce} : (I_new (h0 X) n e).1 = aTs X := rfl
theorem I_def2 : I_def 2 = [.null, .int 0, .int 0, .null, .int 0, .null, .int 0, .int 0, .null, .int 0] := rfl
theorem I_def3 : I_def 3 = [.int 0, .null, .null, .null, .int 0, .null, .null, .null, .int 0, .null, .int 0, .null, .int 0, .null, .null, .null, .null, .null, .int 0, .int 0, .int 0] := rfl
theorem I_N2 : I_N 2 = 10 := rfl
theorem I_N3 : I_N 3 = 21 := rfl
theorem h0_n : I_new (I_new (h0 X) 10 (.inr (2, [.null, .int 0, .int 0, .null, .int 0, .null, .int 0, .int 0, .null, .int 0]))) 16 (.inl (3, 16, .inr (.inr (.inr (.inr (fun _ => none)))))) = hO X 2 26 [.null, .int 0, .int 0, .null, .int 0, .null, .int 0, .int 0, .null, .int 0] (fT X 0) := rfl
theorem h0_p : I_putf X (hO X 2 26 [.null, .int 0, .int 0, .null, .int 0, .null, .int 0, .int 0, .null, .int 0] (fT X 0)) (aO X) 2 0 (va_rf (some (aTs X))) = some (hO X 2 26 (o1 X) (fT X 0)) := hO_put (k := 0) (by omega) (by decide)
def o2 (X : I_X) : List Value := [va_rf (some (aTs X)), .int 0, .int 0, va_rf (some (aWd X)), .int 0, .null, .int 0, .int 0, .null, .int 0]
def o3 (X : I_X) : List Value := [va_rf (some (aTs X)), .int 0, .int 0, va_rf (some (aWd X)), .int 0, va_rf (some (aOp X)), .int 0, .int 0, .null, .int 0]
theorem hOn1 : I_new (hO X 34 266 (o1 X) (fT X 16)) 6 (.inl (0, 6, .inl (fun _ => 0))) = hO X 35 272 (o1 X) (fT X 16) := hO_new (by omega) (by omega) (rf_Wd (S := S0)).symm
theorem hOn2 : I_new (hO X 35 272 (o2 X) (fT X 16)) 16 (.inl (2, 16, .inl (fun _ => 0))) = hO X 36 288 (o2 X) (fT X 16) := hO_new (by omega) (by omega) (rf_Op (S := S0)).symm
theorem hOn3 : I_new (hO X 36 288 (o3 X) (fT X 16)) 16 (.inl (0, 16, .inl (fun _ => 0))) = hO X 37 304 (o3 X) (fT X 16) := hO_new (by omega) (by omega) (rf_Dp (S := S0)).symm
theorem hOp1 : I_putf X (hO X 35 272 (o1 X) (fT X 16)) (aO X) 2 3 (va_rf (some (aWd X))) = some (hO X 35 272 (o2 X) (fT X 16)) := hO_put (k := 3) (by omega) (by show 3 < 10; omega)
theorem hOp2 : I_putf X (hO X 36 288 (o2 X) (fT X 16)) (aO X) 2 5 (va_rf (some (aOp X))) = some (hO X 36 288 (o3 X) (fT X 16)) := hO_put (k := 5) (by omega) (by show 5 < 10; omega)
theorem hOp3 : I_putf X (hO X 37 304 (o3 X) (fT X 16)) (aO X) 2 8 (va_rf (some (aDp X))) = some (hO X 37 304 (fO X S0) (fT X 16)) := hO_put (k := 8) (by omega) (by show 8 < 10; omega)
theorem hO_34 : (hO X 34 sl o f).1 = aWd X := rfl
theorem hO_35 : (hO X 35 sl o f).1 = aOp X := rfl
theorem hO_36 : (hO X 36 sl o f).1 = aDp X := rfl
theorem hO_37 : (hO X 37 sl o f).1 = aM X := rfl
theorem c_init : ev X (d + 2) m_X2_init 0 [some (va_rf (some (aO X))), none] [] (I_new (h0 X) 10 (.inr (2, [.null, .int 0, .int 0, .null, .int 0, .null, .int 0, .int 0, .null, .int 0]))) = some (none, hO X 37 304 (fO X S0) (fT X 16)) := by
  have hl := c_loop (X := X) (d := d) 16 0 26 (by omega)
  rw [nI_0] at hl
  have e1 : hO X (2 + 2 * 0) 26 (o1 X) (fT X 0) = hO X 2 26 (o1 X) (fT X 0) := rfl
  have e2 : hO X 34 (26 + 15 * 16) (o1 X) (fT X 16) = hO X 34 266 (o1 X) (fT X 16) := rfl
  rw [e1, e2] at hl
  simp only [e_X2_init_0, e_X2_init_1, e_X2_init_4, e_X2_init_5, e_X2_init_7, e_X2_init_10, e_X2_init_13, e_X2_init_14, Option.bind_some, Option.bind_none, Option.toList_some, Option.toList_none, List.cons_append, List.nil_append, I_z, I_i8, I_q8, I_i7, I_q7, I_i6, I_q6, I_i5, I_q5, I_i4, I_q4, I_i3, I_q3, I_i2, I_q2, I_i1, I_q1, I_w8, I_w7, I_w6, I_w5, I_w4, I_w3, I_w2, I_c2n, I_c2i, I_c2q, eq_self, or_true, true_or, and_true, true_and, if_true, if_false, not_false_eq_true, not_true_eq_false, Option.map_none, Option.map_some, reduceCtorEq, tcn16, mk16, h0_n1, h0_n, h0_p, hl]
  simp only [e_X2_init_40, e_X2_init_41, e_X2_init_43, e_X2_init_45, e_X2_init_48, e_X2_init_49, e_X2_init_51, e_X2_init_53, e_X2_init_56, e_X2_init_57, e_X2_init_59, e_X2_init_61, e_X2_init_64, Option.bind_some, Option.bind_none, Option.toList_some, Option.toList_none, List.cons_append, List.nil_append, I_z, I_i8, I_q8, I_i7, I_q7, I_i6, I_q6, I_i5, I_q5, I_i4, I_q4, I_i3, I_q3, I_i2, I_q2, I_i1, I_q1, I_w8, I_w7, I_w6, I_w5, I_w4, I_w3, I_w2, I_c2n, I_c2i, I_c2q, eq_self, or_true, true_or, and_true, true_and, if_true, if_false, not_false_eq_true, not_true_eq_false, Option.map_none, Option.map_some, reduceCtorEq, tcn16, mk16, tcn6, mk6, hO_34, hO_35, hO_36, hOn1, hOn2, hOn3, hOp1, hOp2, hOp3]
theorem hO_m : I_new (hO X 37 304 (fO X S0) (fT X 16)) 21 (.inr (3, [.int 0, .null, .null, .null, .int 0, .null, .null, .null, .int 0, .null, .int 0, .null, .int 0, .null, .null, .null, .null, .null, .int 0, .int 0, .int 0])) = hM X 0 325 [.int 0, .null, .null, .null, .int 0, .null, .null, .null, .int 0, .null, .int 0, .null, .int 0, .null, .null, .null, .null, .null, .int 0, .int 0, .int 0] := by
  unfold I_new hM hO
  refine Prod.ext rfl (Prod.ext rfl ?_)
  funext q
  show (if q = aM X then _ else oO X (fO X S0) (fT X 16) q) = oM X _ q
  unfold oM
  by_cases c : q = aM X
  · rw [if_pos c, if_pos c]
  · rw [if_neg c, if_neg c]
    unfold oO
    by_cases c2 : q = aTs X
    · rw [if_pos c2, c2, rf_Ts]; rfl
    · rw [if_neg c2]
      by_cases c3 : q = aO X
      · rw [if_pos c3, c3, rf_O]
      · rw [if_neg c3]
end IN
