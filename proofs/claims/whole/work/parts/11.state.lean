/-! The typed state, and the heap that it is. -/
abbrev St : Type := (Nat → Nat → Int32) × (Nat → Nat → Nat) × (Nat → Nat → Option Nat) × (Nat → Nat → UInt64)
def aO (X : I_X) : Nat := X.1
def aTs (X : I_X) : Nat := X.1 + 1
def aT (X : I_X) (t : Nat) : Nat := X.1 + 2 + 2 * t
def aTr (X : I_X) (t : Nat) : Nat := X.1 + 3 + 2 * t
def fTs (X : I_X) : Nat → Option Nat := fun t => if t < 16 then some (aT X t) else none
def aWd (X : I_X) : Nat := X.1 + 34
def aOp (X : I_X) : Nat := X.1 + 35
def aDp (X : I_X) : Nat := X.1 + 36
def aM (X : I_X) : Nat := X.1 + 37
def aA (X : I_X) (k : Nat) : Nat := X.1 + 38 + k
def aR (X : I_X) (r : Nat) : Nat := X.1 + 51 + 3 * r
def aRw (X : I_X) (r : Nat) : Nat := X.1 + 52 + 3 * r
def aRd (X : I_X) (r : Nat) : Nat := X.1 + 53 + 3 * r
def lnA (k : Nat) : Nat := match k with
  | 0 => 16
  | 1 => 16
  | 2 => 192
  | 3 => 900
  | 4 => 14400
  | 5 => 14400
  | 6 => 900
  | 7 => 8
  | 8 => 17
  | 9 => 17
  | 10 => 16
  | 11 => 16
  | 12 => 16
  | _ => 0
def fO (X : I_X) (S : St) : List Value := [va_rf (some (aTs X)), .int (nI (S.2.1 0 0)), .int (S.1 0 2), va_rf (some (aWd X)), .int (S.1 0 4), va_rf (some (aOp X)), .int (S.1 0 6), .int (S.1 0 7), va_rf (some (aDp X)), .int (S.1 0 9)]
def fM (X : I_X) (S : St) : List Value := [.int (S.1 20 0), va_rf (some (aA X 0)), va_rf (some (aA X 1)), va_rf (some (aA X 2)), .int (S.1 20 4), va_rf (some (aA X 3)), va_rf (some (aA X 4)), va_rf (some (aA X 5)), .int (S.1 20 8), va_rf (some (aA X 6)), .int (S.1 20 10), va_rf (some (aA X 7)), .int (S.1 20 12), va_rf (some (aA X 8)), va_rf (some (aA X 9)), va_rf (some (aA X 10)), va_rf (some (aA X 11)), va_rf (some (aA X 12)), .int (S.1 20 18), .int (S.1 20 19), .int (S.1 20 20)]
def rp_f (X : I_X) (S : St) (q : Nat) : I_Ce :=
  if q < X.1 then .inr (9, [])
  else if q = aO X then .inr (2, fO X S)
  else if q = aTs X then .inl (3, 16, .inr (.inr (.inr (.inr (fTs X)))))
  else if q < X.1 + 34 then (if (q - X.1) % 2 = 0 then .inr (1, [va_rf (some (q + 1)), .int (S.1 1 ((q - X.1 - 2) / 2)), .int (nI (S.2.1 1 ((q - X.1 - 2) / 2)))]) else .inl (4, 12, .inr (.inr (.inr (.inr (fun i => (S.2.2.1 ((q - X.1 - 3) / 2) i).map (aR X)))))))
  else if q = aWd X then .inl (0, 6, .inl (S.1 2))
  else if q = aOp X then .inl (2, 16, .inl (S.1 3))
  else if q = aDp X then .inl (0, 16, .inl (S.1 4))
  else if q = aM X then .inr (3, fM X S)
  else if q = aA X 5 then .inl (1, 14400, .inr (.inr (.inr (.inl (S.2.2.2 0)))))
  else if q < X.1 + 51 then .inl (0, lnA (q - X.1 - 38), .inl (S.1 (40 + (q - X.1 - 38))))
  else if (q - X.1) % 3 = 0 then .inr (0, [.int (S.1 5 ((q - X.1 - 51) / 3)), va_rf (some (q + 1)), va_rf (some (q + 2)), .int (S.1 6 ((q - X.1 - 51) / 3))])
  else if (q - X.1) % 3 = 1 then .inl (0, S.2.1 2 ((q - X.1 - 52) / 3), .inl (S.1 (100 + (q - X.1 - 52) / 3)))
  else .inl (1, S.2.1 3 ((q - X.1 - 53) / 3), .inr (.inr (.inr (.inl (S.2.2.2 (1 + (q - X.1 - 53) / 3))))))
def rp (X : I_X) (S : St) : I_H := (X.1 + 51 + 3 * S.2.1 0 1, S.2.1 0 2, rp_f X S)
section ST1
variable {X : I_X} {S : St} {t r k : Nat}
theorem rf_O : rp_f X S (aO X) = .inr (2, fO X S) := by unfold rp_f; rw [if_neg (by unfold aO; omega), if_pos rfl]
theorem rf_Ts : rp_f X S (aTs X) = .inl (3, 16, .inr (.inr (.inr (.inr (fTs X))))) := by
  unfold rp_f; rw [if_neg (by unfold aTs; omega), if_neg (by unfold aTs aO; omega), if_pos rfl]
theorem rf_T (h : t < 16) : rp_f X S (aT X t) = .inr (1, [va_rf (some (aTr X t)), .int (S.1 1 t), .int (nI (S.2.1 1 t))]) := by
  have e1 : (aT X t - X.1 - 2) / 2 = t := by unfold aT; omega
  have e2 : aT X t + 1 = aTr X t := by unfold aT aTr; omega
  unfold rp_f; rw [if_neg (by unfold aT; omega), if_neg (by unfold aT aO; omega), if_neg (by unfold aT aTs; omega), if_pos (by unfold aT; omega), if_pos (by unfold aT; omega), e1, e2]
theorem rf_Tr (h : t < 16) : rp_f X S (aTr X t) = .inl (4, 12, .inr (.inr (.inr (.inr (fun i => (S.2.2.1 t i).map (aR X)))))) := by
  have e1 : (aTr X t - X.1 - 3) / 2 = t := by unfold aTr; omega
  unfold rp_f; rw [if_neg (by unfold aTr; omega), if_neg (by unfold aTr aO; omega), if_neg (by unfold aTr aTs; omega), if_pos (by unfold aTr; omega), if_neg (by unfold aTr; omega), e1]
theorem rf_Wd : rp_f X S (aWd X) = .inl (0, 6, .inl (S.1 2)) := by
  unfold rp_f; rw [if_neg (by unfold aWd; omega), if_neg (by unfold aWd aO; omega), if_neg (by unfold aWd aTs; omega), if_neg (by unfold aWd; omega), if_pos rfl]
theorem rf_Op : rp_f X S (aOp X) = .inl (2, 16, .inl (S.1 3)) := by
  unfold rp_f; rw [if_neg (by unfold aOp; omega), if_neg (by unfold aOp aO; omega), if_neg (by unfold aOp aTs; omega), if_neg (by unfold aOp; omega), if_neg (by unfold aOp aWd; omega), if_pos rfl]
theorem rf_Dp : rp_f X S (aDp X) = .inl (0, 16, .inl (S.1 4)) := by
  unfold rp_f; rw [if_neg (by unfold aDp; omega), if_neg (by unfold aDp aO; omega), if_neg (by unfold aDp aTs; omega), if_neg (by unfold aDp; omega), if_neg (by unfold aDp aWd; omega), if_neg (by unfold aDp aOp; omega), if_pos rfl]
theorem rf_M : rp_f X S (aM X) = .inr (3, fM X S) := by
  unfold rp_f; rw [if_neg (by unfold aM; omega), if_neg (by unfold aM aO; omega), if_neg (by unfold aM aTs; omega), if_neg (by unfold aM; omega), if_neg (by unfold aM aWd; omega), if_neg (by unfold aM aOp; omega), if_neg (by unfold aM aDp; omega), if_pos rfl]
theorem rf_A5 : rp_f X S (aA X 5) = .inl (1, 14400, .inr (.inr (.inr (.inl (S.2.2.2 0))))) := by
  unfold rp_f; rw [if_neg (by unfold aA; omega), if_neg (by unfold aA aO; omega), if_neg (by unfold aA aTs; omega), if_neg (by unfold aA; omega), if_neg (by unfold aA aWd; omega), if_neg (by unfold aA aOp; omega), if_neg (by unfold aA aDp; omega), if_neg (by unfold aA aM; omega), if_pos rfl]
theorem rf_A (h : k < 13) (h5 : k ≠ 5) : rp_f X S (aA X k) = .inl (0, lnA k, .inl (S.1 (40 + k))) := by
  have e1 : aA X k - X.1 - 38 = k := by unfold aA; omega
  unfold rp_f; rw [if_neg (by unfold aA; omega), if_neg (by unfold aA aO; omega), if_neg (by unfold aA aTs; omega), if_neg (by unfold aA; omega), if_neg (by unfold aA aWd; omega), if_neg (by unfold aA aOp; omega), if_neg (by unfold aA aDp; omega), if_neg (by unfold aA aM; omega), if_neg (by unfold aA; omega), if_pos (by unfold aA; omega), e1]
theorem rf_R : rp_f X S (aR X r) = .inr (0, [.int (S.1 5 r), va_rf (some (aRw X r)), va_rf (some (aRd X r)), .int (S.1 6 r)]) := by
  have e1 : (aR X r - X.1 - 51) / 3 = r := by unfold aR; omega
  have e2 : aR X r + 1 = aRw X r := by unfold aR aRw; omega
  have e3 : aR X r + 2 = aRd X r := by unfold aR aRd; omega
  unfold rp_f; rw [if_neg (by unfold aR; omega), if_neg (by unfold aR aO; omega), if_neg (by unfold aR aTs; omega), if_neg (by unfold aR; omega), if_neg (by unfold aR aWd; omega), if_neg (by unfold aR aOp; omega), if_neg (by unfold aR aDp; omega), if_neg (by unfold aR aM; omega), if_neg (by unfold aR aA; omega), if_neg (by unfold aR; omega), if_pos (by unfold aR; omega), e1, e2, e3]
theorem rf_Rw : rp_f X S (aRw X r) = .inl (0, S.2.1 2 r, .inl (S.1 (100 + r))) := by
  have e1 : (aRw X r - X.1 - 52) / 3 = r := by unfold aRw; omega
  unfold rp_f; rw [if_neg (by unfold aRw; omega), if_neg (by unfold aRw aO; omega), if_neg (by unfold aRw aTs; omega), if_neg (by unfold aRw; omega), if_neg (by unfold aRw aWd; omega), if_neg (by unfold aRw aOp; omega), if_neg (by unfold aRw aDp; omega), if_neg (by unfold aRw aM; omega), if_neg (by unfold aRw aA; omega), if_neg (by unfold aRw; omega), if_neg (by unfold aRw; omega), if_pos (by unfold aRw; omega), e1]
theorem rf_Rd : rp_f X S (aRd X r) = .inl (1, S.2.1 3 r, .inr (.inr (.inr (.inl (S.2.2.2 (1 + r)))))) := by
  have e1 : (aRd X r - X.1 - 53) / 3 = r := by unfold aRd; omega
  unfold rp_f; rw [if_neg (by unfold aRd; omega), if_neg (by unfold aRd aO; omega), if_neg (by unfold aRd aTs; omega), if_neg (by unfold aRd; omega), if_neg (by unfold aRd aWd; omega), if_neg (by unfold aRd aOp; omega), if_neg (by unfold aRd aDp; omega), if_neg (by unfold aRd aM; omega), if_neg (by unfold aRd aA; omega), if_neg (by unfold aRd; omega), if_neg (by unfold aRd; omega), if_neg (by unfold aRd; omega), e1]
theorem rc {q : Nat} {e : I_Ce} (h1 : X.1 ≤ q) (h2 : q < X.1 + 51 + 3 * S.2.1 0 1) (h : rp_f X S q = e) : I_cel X (rp X S) q = some e := by
  unfold I_cel
  rw [if_pos ⟨h1, h2⟩]
  exact congrArg some h
theorem rc_O : I_cel X (rp X S) (aO X) = some (.inr (2, fO X S)) := rc (by unfold aO; omega) (by unfold aO; omega) rf_O
theorem rc_Ts : I_cel X (rp X S) (aTs X) = some (.inl (3, 16, .inr (.inr (.inr (.inr (fTs X)))))) := rc (by unfold aTs; omega) (by unfold aTs; omega) rf_Ts
theorem rc_T (h : t < 16) : I_cel X (rp X S) (aT X t) = some (.inr (1, [va_rf (some (aTr X t)), .int (S.1 1 t), .int (nI (S.2.1 1 t))])) := rc (by unfold aT; omega) (by unfold aT; omega) (rf_T h)
theorem rc_Tr (h : t < 16) : I_cel X (rp X S) (aTr X t) = some (.inl (4, 12, .inr (.inr (.inr (.inr (fun i => (S.2.2.1 t i).map (aR X))))))) := rc (by unfold aTr; omega) (by unfold aTr; omega) (rf_Tr h)
theorem rc_Wd : I_cel X (rp X S) (aWd X) = some (.inl (0, 6, .inl (S.1 2))) := rc (by unfold aWd; omega) (by unfold aWd; omega) rf_Wd
theorem rc_Op : I_cel X (rp X S) (aOp X) = some (.inl (2, 16, .inl (S.1 3))) := rc (by unfold aOp; omega) (by unfold aOp; omega) rf_Op
theorem rc_Dp : I_cel X (rp X S) (aDp X) = some (.inl (0, 16, .inl (S.1 4))) := rc (by unfold aDp; omega) (by unfold aDp; omega) rf_Dp
theorem rc_M : I_cel X (rp X S) (aM X) = some (.inr (3, fM X S)) := rc (by unfold aM; omega) (by unfold aM; omega) rf_M
theorem rc_A5 : I_cel X (rp X S) (aA X 5) = some (.inl (1, 14400, .inr (.inr (.inr (.inl (S.2.2.2 0)))))) := rc (by unfold aA; omega) (by unfold aA; omega) rf_A5
theorem rc_A (h : k < 13) (h5 : k ≠ 5) : I_cel X (rp X S) (aA X k) = some (.inl (0, lnA k, .inl (S.1 (40 + k)))) := rc (by unfold aA; omega) (by unfold aA; omega) (rf_A h h5)
theorem rc_R (h : r < S.2.1 0 1) : I_cel X (rp X S) (aR X r) = some (.inr (0, [.int (S.1 5 r), va_rf (some (aRw X r)), va_rf (some (aRd X r)), .int (S.1 6 r)])) := rc (by unfold aR; omega) (by unfold aR; omega) rf_R
theorem rc_Rw (h : r < S.2.1 0 1) : I_cel X (rp X S) (aRw X r) = some (.inl (0, S.2.1 2 r, .inl (S.1 (100 + r)))) := rc (by unfold aRw; omega) (by unfold aRw; omega) rf_Rw
theorem rc_Rd (h : r < S.2.1 0 1) : I_cel X (rp X S) (aRd X r) = some (.inl (1, S.2.1 3 r, .inr (.inr (.inr (.inl (S.2.2.2 (1 + r))))))) := rc (by unfold aRd; omega) (by unfold aRd; omega) rf_Rd
theorem gO_0 : I_getf X (rp X S) (aO X) 2 0 = some (va_rf (some (aTs X))) := by unfold I_getf; rw [rc_O]; rfl
theorem gO_1 : I_getf X (rp X S) (aO X) 2 1 = some (.int (nI (S.2.1 0 0))) := by unfold I_getf; rw [rc_O]; rfl
theorem gO_2 : I_getf X (rp X S) (aO X) 2 2 = some (.int (S.1 0 2)) := by unfold I_getf; rw [rc_O]; rfl
theorem gO_3 : I_getf X (rp X S) (aO X) 2 3 = some (va_rf (some (aWd X))) := by unfold I_getf; rw [rc_O]; rfl
theorem gO_4 : I_getf X (rp X S) (aO X) 2 4 = some (.int (S.1 0 4)) := by unfold I_getf; rw [rc_O]; rfl
theorem gO_5 : I_getf X (rp X S) (aO X) 2 5 = some (va_rf (some (aOp X))) := by unfold I_getf; rw [rc_O]; rfl
theorem gO_6 : I_getf X (rp X S) (aO X) 2 6 = some (.int (S.1 0 6)) := by unfold I_getf; rw [rc_O]; rfl
theorem gO_7 : I_getf X (rp X S) (aO X) 2 7 = some (.int (S.1 0 7)) := by unfold I_getf; rw [rc_O]; rfl
theorem gO_8 : I_getf X (rp X S) (aO X) 2 8 = some (va_rf (some (aDp X))) := by unfold I_getf; rw [rc_O]; rfl
theorem gO_9 : I_getf X (rp X S) (aO X) 2 9 = some (.int (S.1 0 9)) := by unfold I_getf; rw [rc_O]; rfl
theorem gM_0 : I_getf X (rp X S) (aM X) 3 0 = some (.int (S.1 20 0)) := by unfold I_getf; rw [rc_M]; rfl
theorem gM_1 : I_getf X (rp X S) (aM X) 3 1 = some (va_rf (some (aA X 0))) := by unfold I_getf; rw [rc_M]; rfl
theorem gM_2 : I_getf X (rp X S) (aM X) 3 2 = some (va_rf (some (aA X 1))) := by unfold I_getf; rw [rc_M]; rfl
theorem gM_3 : I_getf X (rp X S) (aM X) 3 3 = some (va_rf (some (aA X 2))) := by unfold I_getf; rw [rc_M]; rfl
theorem gM_4 : I_getf X (rp X S) (aM X) 3 4 = some (.int (S.1 20 4)) := by unfold I_getf; rw [rc_M]; rfl
theorem gM_5 : I_getf X (rp X S) (aM X) 3 5 = some (va_rf (some (aA X 3))) := by unfold I_getf; rw [rc_M]; rfl
theorem gM_6 : I_getf X (rp X S) (aM X) 3 6 = some (va_rf (some (aA X 4))) := by unfold I_getf; rw [rc_M]; rfl
theorem gM_7 : I_getf X (rp X S) (aM X) 3 7 = some (va_rf (some (aA X 5))) := by unfold I_getf; rw [rc_M]; rfl
theorem gM_8 : I_getf X (rp X S) (aM X) 3 8 = some (.int (S.1 20 8)) := by unfold I_getf; rw [rc_M]; rfl
theorem gM_9 : I_getf X (rp X S) (aM X) 3 9 = some (va_rf (some (aA X 6))) := by unfold I_getf; rw [rc_M]; rfl
theorem gM_10 : I_getf X (rp X S) (aM X) 3 10 = some (.int (S.1 20 10)) := by unfold I_getf; rw [rc_M]; rfl
theorem gM_11 : I_getf X (rp X S) (aM X) 3 11 = some (va_rf (some (aA X 7))) := by unfold I_getf; rw [rc_M]; rfl
theorem gM_12 : I_getf X (rp X S) (aM X) 3 12 = some (.int (S.1 20 12)) := by unfold I_getf; rw [rc_M]; rfl
theorem gM_13 : I_getf X (rp X S) (aM X) 3 13 = some (va_rf (some (aA X 8))) := by unfold I_getf; rw [rc_M]; rfl
theorem gM_14 : I_getf X (rp X S) (aM X) 3 14 = some (va_rf (some (aA X 9))) := by unfold I_getf; rw [rc_M]; rfl
theorem gM_15 : I_getf X (rp X S) (aM X) 3 15 = some (va_rf (some (aA X 10))) := by unfold I_getf; rw [rc_M]; rfl
theorem gM_16 : I_getf X (rp X S) (aM X) 3 16 = some (va_rf (some (aA X 11))) := by unfold I_getf; rw [rc_M]; rfl
theorem gM_17 : I_getf X (rp X S) (aM X) 3 17 = some (va_rf (some (aA X 12))) := by unfold I_getf; rw [rc_M]; rfl
theorem gM_18 : I_getf X (rp X S) (aM X) 3 18 = some (.int (S.1 20 18)) := by unfold I_getf; rw [rc_M]; rfl
theorem gM_19 : I_getf X (rp X S) (aM X) 3 19 = some (.int (S.1 20 19)) := by unfold I_getf; rw [rc_M]; rfl
theorem gM_20 : I_getf X (rp X S) (aM X) 3 20 = some (.int (S.1 20 20)) := by unfold I_getf; rw [rc_M]; rfl
theorem gT_0 (h : t < 16) : I_getf X (rp X S) (aT X t) 1 0 = some (va_rf (some (aTr X t))) := by unfold I_getf; rw [rc_T h]; rfl
theorem gT_1 (h : t < 16) : I_getf X (rp X S) (aT X t) 1 1 = some (.int (S.1 1 t)) := by unfold I_getf; rw [rc_T h]; rfl
theorem gT_2 (h : t < 16) : I_getf X (rp X S) (aT X t) 1 2 = some (.int (nI (S.2.1 1 t))) := by unfold I_getf; rw [rc_T h]; rfl
theorem gR_0 (h : r < S.2.1 0 1) : I_getf X (rp X S) (aR X r) 0 0 = some (.int (S.1 5 r)) := by unfold I_getf; rw [rc_R h]; rfl
theorem gR_1 (h : r < S.2.1 0 1) : I_getf X (rp X S) (aR X r) 0 1 = some (va_rf (some (aRw X r))) := by unfold I_getf; rw [rc_R h]; rfl
theorem gR_2 (h : r < S.2.1 0 1) : I_getf X (rp X S) (aR X r) 0 2 = some (va_rf (some (aRd X r))) := by unfold I_getf; rw [rc_R h]; rfl
theorem gR_3 (h : r < S.2.1 0 1) : I_getf X (rp X S) (aR X r) 0 3 = some (.int (S.1 6 r)) := by unfold I_getf; rw [rc_R h]; rfl
theorem isO : I_isC X (rp X S) (aO X) 2 = true := by unfold I_isC; rw [rc_O]; rfl
theorem isM : I_isC X (rp X S) (aM X) 3 = true := by unfold I_isC; rw [rc_M]; rfl
theorem isT (h : t < 16) : I_isC X (rp X S) (aT X t) 1 = true := by unfold I_isC; rw [rc_T h]; rfl
theorem isR (h : r < S.2.1 0 1) : I_isC X (rp X S) (aR X r) 0 = true := by unfold I_isC; rw [rc_R h]; rfl
theorem I_in_nI {i n : Nat} (h : i < n) (hn : n < 2 ^ 31) : I_in (nI i) n = true := by
  unfold I_in
  rw [nI_clamp (by omega)]
  have := nI_pos (n := i) (by omega)
  simp only [this, decide_false, Bool.false_or, Bool.not_eq_true', decide_eq_false_iff_not]
  omega
theorem arr_of {X : I_X} {h : I_H} {a : Nat} {q : Nat × vp_A} (e : I_cel X h a = some (.inl q)) : I_arr X h a = some q := by unfold I_arr; rw [e]
variable {i : Nat} {v : Int32} {w : UInt64}
theorem lTs (h : i < 16) : I_aldq X (rp X S) (aTs X) (nI i) = some (some (aT X i)) := by
  have e : fTs X i = some (aT X i) := if_pos h
  rw [← e]
  unfold I_aldq; rw [arr_of rc_Ts]; simp only [I_in_nI h (by omega), nI_clamp (show i < 2 ^ 31 by omega)]; rfl
theorem lTr (ht : t < 16) (h : i < 12) : I_aldq X (rp X S) (aTr X t) (nI i) = some ((S.2.2.1 t i).map (aR X)) := by
  unfold I_aldq; rw [arr_of (rc_Tr ht)]; simp only [I_in_nI h (by omega), nI_clamp (show i < 2 ^ 31 by omega)]; rfl
theorem lWd (h : i < 6) : I_aldi X (rp X S) 0 (aWd X) (nI i) = some (S.1 2 i) := by
  unfold I_aldi; rw [arr_of rc_Wd]; simp only [I_in_nI h (by omega), nI_clamp (show i < 2 ^ 31 by omega)]; rfl
theorem lOp (h : i < 16) : I_aldi X (rp X S) 2 (aOp X) (nI i) = some (S.1 3 i) := by
  unfold I_aldi; rw [arr_of rc_Op]; simp only [I_in_nI h (by omega), nI_clamp (show i < 2 ^ 31 by omega)]; rfl
theorem lDp (h : i < 16) : I_aldi X (rp X S) 0 (aDp X) (nI i) = some (S.1 4 i) := by
  unfold I_aldi; rw [arr_of rc_Dp]; simp only [I_in_nI h (by omega), nI_clamp (show i < 2 ^ 31 by omega)]; rfl
theorem lnA_le (k : Nat) : lnA k ≤ 14400 := by unfold lnA; repeat' split
                                               all_goals omega
theorem lA (hk : k < 13) (h5 : k ≠ 5) (h : i < lnA k) : I_aldi X (rp X S) 0 (aA X k) (nI i) = some (S.1 (40 + k) i) := by
  have := lnA_le k
  unfold I_aldi; rw [arr_of (rc_A hk h5)]; simp only [I_in_nI h (by omega), nI_clamp (show i < 2 ^ 31 by omega)]; rfl
theorem lA5 (h : i < 14400) : I_aldd X (rp X S) (aA X 5) (nI i) = some (S.2.2.2 0 i) := by
  unfold I_aldd; rw [arr_of rc_A5]; simp only [I_in_nI h (by omega), nI_clamp (show i < 2 ^ 31 by omega)]; rfl
theorem lRw (hr : r < S.2.1 0 1) (h : i < S.2.1 2 r) (hb : S.2.1 2 r < 2 ^ 31) : I_aldi X (rp X S) 0 (aRw X r) (nI i) = some (S.1 (100 + r) i) := by
  unfold I_aldi; rw [arr_of (rc_Rw hr)]; simp only [I_in_nI h hb, nI_clamp (show i < 2 ^ 31 by omega)]; rfl
theorem lRd (hr : r < S.2.1 0 1) (h : i < S.2.1 3 r) (hb : S.2.1 3 r < 2 ^ 31) : I_aldd X (rp X S) (aRd X r) (nI i) = some (S.2.2.2 (1 + r) i) := by
  unfold I_aldd; rw [arr_of (rc_Rd hr)]; simp only [I_in_nI h hb, nI_clamp (show i < 2 ^ 31 by omega)]; rfl
theorem nTr (ht : t < 16) : I_alen X (rp X S) (aTr X t) = some 12 := by unfold I_alen; rw [arr_of (rc_Tr ht)]; rfl
theorem nWd : I_alen X (rp X S) (aWd X) = some 6 := by unfold I_alen; rw [arr_of rc_Wd]; rfl
theorem nDp : I_alen X (rp X S) (aDp X) = some 16 := by unfold I_alen; rw [arr_of rc_Dp]; rfl
theorem nRw (hr : r < S.2.1 0 1) : I_alen X (rp X S) (aRw X r) = some (nI (S.2.1 2 r)) := by unfold I_alen; rw [arr_of (rc_Rw hr)]; rfl
/-! writes -/
def sI (S : St) (g : Nat) (f : Nat → Int32) : St := (va_up S.1 g f, S.2)
def sN (S : St) (g : Nat) (f : Nat → Nat) : St := (S.1, va_up S.2.1 g f, S.2.2)
def sP (S : St) (g : Nat) (f : Nat → Option Nat) : St := (S.1, S.2.1, va_up S.2.2.1 g f, S.2.2.2)
def sF (S : St) (g : Nat) (f : Nat → UInt64) : St := (S.1, S.2.1, S.2.2.1, va_up S.2.2.2 g f)
theorem set_of {S' : St} {a : Nat} {e : I_Ce} (h1 : S'.2.1 0 1 = S.2.1 0 1) (h2 : S'.2.1 0 2 = S.2.1 0 2) (ha : rp_f X S' a = e) (hq : ∀ q, q ≠ a → rp_f X S' q = rp_f X S q) : I_set (rp X S) a e = rp X S' := by
  unfold I_set rp
  rw [h1, h2]
  congr 2
  funext q
  by_cases hqa : q = a
  · rw [if_pos hqa, hqa, ha]
  · rw [if_neg hqa, hq q hqa]
theorem rf_congr {S' : St} {q : Nat} (hO : q = aO X → fO X S' = fO X S) (hT : ∀ t, t < 16 → q = aT X t → S'.1 1 t = S.1 1 t ∧ S'.2.1 1 t = S.2.1 1 t) (hTr : ∀ t, t < 16 → q = aTr X t → S'.2.2.1 t = S.2.2.1 t) (hWd : q = aWd X → S'.1 2 = S.1 2) (hOp : q = aOp X → S'.1 3 = S.1 3) (hDp : q = aDp X → S'.1 4 = S.1 4) (hM : q = aM X → fM X S' = fM X S) (hA5 : q = aA X 5 → S'.2.2.2 0 = S.2.2.2 0) (hA : ∀ k, k < 13 → q = aA X k → S'.1 (40 + k) = S.1 (40 + k)) (hR : ∀ r, q = aR X r → S'.1 5 r = S.1 5 r ∧ S'.1 6 r = S.1 6 r) (hRw : ∀ r, q = aRw X r → S'.2.1 2 r = S.2.1 2 r ∧ S'.1 (100 + r) = S.1 (100 + r)) (hRd : ∀ r, q = aRd X r → S'.2.1 3 r = S.2.1 3 r ∧ S'.2.2.2 (1 + r) = S.2.2.2 (1 + r)) : rp_f X S' q = rp_f X S q := by
  unfold rp_f
  by_cases c0 : q < X.1
  · rw [if_pos c0, if_pos c0]
  rw [if_neg c0, if_neg c0]
  by_cases c1 : q = aO X
  · rw [if_pos c1, if_pos c1, hO c1]
  rw [if_neg c1, if_neg c1]
  by_cases c2 : q = aTs X
  · rw [if_pos c2, if_pos c2]
  rw [if_neg c2, if_neg c2]
  by_cases c3 : q < X.1 + 34
  · rw [if_pos c3, if_pos c3]
    by_cases c4 : (q - X.1) % 2 = 0
    · have z1 : (q - X.1 - 2) / 2 < 16 := by unfold aO at c1; unfold aTs at c2; omega
      have z2 : q = aT X ((q - X.1 - 2) / 2) := by unfold aO at c1; unfold aTs at c2; unfold aT; omega
      obtain ⟨a1, a2⟩ := hT _ z1 z2
      rw [if_pos c4, if_pos c4, a1, a2]
    · have z1 : (q - X.1 - 3) / 2 < 16 := by unfold aO at c1; unfold aTs at c2; omega
      have z2 : q = aTr X ((q - X.1 - 3) / 2) := by unfold aO at c1; unfold aTs at c2; unfold aTr; omega
      rw [if_neg c4, if_neg c4, hTr _ z1 z2]
  rw [if_neg c3, if_neg c3]
  by_cases c5 : q = aWd X
  · rw [if_pos c5, if_pos c5, hWd c5]
  rw [if_neg c5, if_neg c5]
  by_cases c6 : q = aOp X
  · rw [if_pos c6, if_pos c6, hOp c6]
  rw [if_neg c6, if_neg c6]
  by_cases c7 : q = aDp X
  · rw [if_pos c7, if_pos c7, hDp c7]
  rw [if_neg c7, if_neg c7]
  by_cases c8 : q = aM X
  · rw [if_pos c8, if_pos c8, hM c8]
  rw [if_neg c8, if_neg c8]
  by_cases c9 : q = aA X 5
  · rw [if_pos c9, if_pos c9, hA5 c9]
  rw [if_neg c9, if_neg c9]
  by_cases d1 : q < X.1 + 51
  · have z1 : q - X.1 - 38 < 13 := by omega
    have z2 : q = aA X (q - X.1 - 38) := by unfold aWd at c5; unfold aOp at c6; unfold aDp at c7; unfold aM at c8; unfold aA; omega
    rw [if_pos d1, if_pos d1, hA _ z1 z2]
  rw [if_neg d1, if_neg d1]
  by_cases d2 : (q - X.1) % 3 = 0
  · have z2 : q = aR X ((q - X.1 - 51) / 3) := by unfold aR; omega
    obtain ⟨a1, a2⟩ := hR _ z2
    rw [if_pos d2, if_pos d2, a1, a2]
  rw [if_neg d2, if_neg d2]
  by_cases d3 : (q - X.1) % 3 = 1
  · have z2 : q = aRw X ((q - X.1 - 52) / 3) := by unfold aRw; omega
    obtain ⟨a1, a2⟩ := hRw _ z2
    rw [if_pos d3, if_pos d3, a1, a2]
  rw [if_neg d3, if_neg d3]
  have z2 : q = aRd X ((q - X.1 - 53) / 3) := by unfold aRd; omega
  obtain ⟨a1, a2⟩ := hRd _ z2
  rw [a1, a2]
theorem up_ne {α : Type} {f : Nat → α} {k j : Nat} {v : α} (h : j ≠ k) : va_up f k v j = f j := if_neg h
theorem up_eq {α : Type} {f : Nat → α} {k : Nat} {v : α} : va_up f k v k = v := if_pos rfl
theorem w_O0 {f : Nat → Nat} (h1 : f 1 = S.2.1 0 1) (h2 : f 2 = S.2.1 0 2) : I_set (rp X S) (aO X) (.inr (2, [va_rf (some (aTs X)), .int (nI (f 0)), .int (S.1 0 2), va_rf (some (aWd X)), .int (S.1 0 4), va_rf (some (aOp X)), .int (S.1 0 6), .int (S.1 0 7), va_rf (some (aDp X)), .int (S.1 0 9)])) = rp X (sN S 0 f) := set_of h1 h2 rf_O (fun q hq => rf_congr (fun z => absurd z hq) (fun _ _ _ => ⟨rfl, rfl⟩) (fun _ _ _ => rfl) (fun _ => rfl) (fun _ => rfl) (fun _ => rfl) (fun _ => rfl) (fun _ => rfl) (fun _ _ _ => rfl) (fun _ _ => ⟨rfl, rfl⟩) (fun _ _ => ⟨rfl, rfl⟩) (fun _ _ => ⟨rfl, rfl⟩))
theorem w_OI {f : Nat → Int32} : I_set (rp X S) (aO X) (.inr (2, [va_rf (some (aTs X)), .int (nI (S.2.1 0 0)), .int (f 2), va_rf (some (aWd X)), .int (f 4), va_rf (some (aOp X)), .int (f 6), .int (f 7), va_rf (some (aDp X)), .int (f 9)])) = rp X (sI S 0 f) := set_of rfl rfl rf_O (fun q hq => rf_congr (fun z => absurd z hq) (fun _ _ _ => ⟨rfl, rfl⟩) (fun _ _ _ => rfl) (fun _ => rfl) (fun _ => rfl) (fun _ => rfl) (fun _ => rfl) (fun _ => rfl) (fun k hk _ => up_ne (by omega)) (fun _ _ => ⟨rfl, rfl⟩) (fun r _ => ⟨rfl, up_ne (by omega)⟩) (fun _ _ => ⟨rfl, rfl⟩))
theorem w_Tk (h : t < 16) : I_set (rp X S) (aT X t) (.inr (1, [va_rf (some (aTr X t)), .int v, .int (nI (S.2.1 1 t))])) = rp X (sI S 1 (upd (S.1 1) t v)) := set_of rfl rfl (by rw [rf_T h]; show (Sum.inr (1, [va_rf (some (aTr X t)), .int (upd (S.1 1) t v t), .int (nI (S.2.1 1 t))]) : I_Ce) = _; rw [pk_us]) (fun q hq => rf_congr (fun _ => rfl) (fun t2 _ z => ⟨by show upd (S.1 1) t v t2 = S.1 1 t2; exact pk_un (fun y => hq (by rw [z, y])), rfl⟩) (fun _ _ _ => rfl) (fun _ => rfl) (fun _ => rfl) (fun _ => rfl) (fun _ => rfl) (fun _ => rfl) (fun k hk _ => up_ne (by omega)) (fun _ _ => ⟨rfl, rfl⟩) (fun r _ => ⟨rfl, up_ne (by omega)⟩) (fun _ _ => ⟨rfl, rfl⟩))
theorem w_Th {n : Nat} (h : t < 16) : I_set (rp X S) (aT X t) (.inr (1, [va_rf (some (aTr X t)), .int (S.1 1 t), .int (nI n)])) = rp X (sN S 1 (va_up (S.2.1 1) t n)) := set_of rfl rfl (by rw [rf_T h]; show Sum.inr (1, [va_rf (some (aTr X t)), _, .int (nI (va_up (S.2.1 1) t n t))]) = _; rw [up_eq]; rfl) (fun q hq => rf_congr (fun _ => rfl) (fun t2 _ z => ⟨rfl, by show va_up (S.2.1 1) t n t2 = S.2.1 1 t2; exact up_ne (fun y => hq (by rw [z, y]))⟩) (fun _ _ _ => rfl) (fun _ => rfl) (fun _ => rfl) (fun _ => rfl) (fun _ => rfl) (fun _ => rfl) (fun _ _ _ => rfl) (fun _ _ => ⟨rfl, rfl⟩) (fun _ _ => ⟨rfl, rfl⟩) (fun _ _ => ⟨rfl, rfl⟩))
theorem w_Tr {f : Nat → Option Nat} (h : t < 16) : I_set (rp X S) (aTr X t) (.inl (4, 12, .inr (.inr (.inr (.inr (fun i => (f i).map (aR X))))))) = rp X (sP S t f) := set_of rfl rfl (by rw [rf_Tr h]; show (Sum.inl (4, 12, .inr (.inr (.inr (.inr (fun i => (va_up S.2.2.1 t f t i).map (aR X)))))) : I_Ce) = _; rw [up_eq]) (fun q hq => rf_congr (fun _ => rfl) (fun _ _ _ => ⟨rfl, rfl⟩) (fun t2 _ z => up_ne (fun y => hq (by rw [z, y]))) (fun _ => rfl) (fun _ => rfl) (fun _ => rfl) (fun _ => rfl) (fun _ => rfl) (fun _ _ _ => rfl) (fun _ _ => ⟨rfl, rfl⟩) (fun _ _ => ⟨rfl, rfl⟩) (fun _ _ => ⟨rfl, rfl⟩))
theorem w_Wd {f : Nat → Int32} : I_set (rp X S) (aWd X) (.inl (0, 6, .inl f)) = rp X (sI S 2 f) := set_of rfl rfl rf_Wd (fun q hq => rf_congr (fun _ => rfl) (fun _ _ _ => ⟨rfl, rfl⟩) (fun _ _ _ => rfl) (fun z => absurd z hq) (fun _ => rfl) (fun _ => rfl) (fun _ => rfl) (fun _ => rfl) (fun k hk _ => up_ne (by omega)) (fun _ _ => ⟨rfl, rfl⟩) (fun r _ => ⟨rfl, up_ne (by omega)⟩) (fun _ _ => ⟨rfl, rfl⟩))
theorem w_Op {f : Nat → Int32} : I_set (rp X S) (aOp X) (.inl (2, 16, .inl f)) = rp X (sI S 3 f) := set_of rfl rfl rf_Op (fun q hq => rf_congr (fun _ => rfl) (fun _ _ _ => ⟨rfl, rfl⟩) (fun _ _ _ => rfl) (fun _ => rfl) (fun z => absurd z hq) (fun _ => rfl) (fun _ => rfl) (fun _ => rfl) (fun k hk _ => up_ne (by omega)) (fun _ _ => ⟨rfl, rfl⟩) (fun r _ => ⟨rfl, up_ne (by omega)⟩) (fun _ _ => ⟨rfl, rfl⟩))
theorem w_Dp {f : Nat → Int32} : I_set (rp X S) (aDp X) (.inl (0, 16, .inl f)) = rp X (sI S 4 f) := set_of rfl rfl rf_Dp (fun q hq => rf_congr (fun _ => rfl) (fun _ _ _ => ⟨rfl, rfl⟩) (fun _ _ _ => rfl) (fun _ => rfl) (fun _ => rfl) (fun z => absurd z hq) (fun _ => rfl) (fun _ => rfl) (fun k hk _ => up_ne (by omega)) (fun _ _ => ⟨rfl, rfl⟩) (fun r _ => ⟨rfl, up_ne (by omega)⟩) (fun _ _ => ⟨rfl, rfl⟩))
theorem w_MI {f : Nat → Int32} : I_set (rp X S) (aM X) (.inr (3, [.int (f 0), va_rf (some (aA X 0)), va_rf (some (aA X 1)), va_rf (some (aA X 2)), .int (f 4), va_rf (some (aA X 3)), va_rf (some (aA X 4)), va_rf (some (aA X 5)), .int (f 8), va_rf (some (aA X 6)), .int (f 10), va_rf (some (aA X 7)), .int (f 12), va_rf (some (aA X 8)), va_rf (some (aA X 9)), va_rf (some (aA X 10)), va_rf (some (aA X 11)), va_rf (some (aA X 12)), .int (f 18), .int (f 19), .int (f 20)])) = rp X (sI S 20 f) := set_of rfl rfl rf_M (fun q hq => rf_congr (fun _ => rfl) (fun _ _ _ => ⟨rfl, rfl⟩) (fun _ _ _ => rfl) (fun _ => rfl) (fun _ => rfl) (fun _ => rfl) (fun z => absurd z hq) (fun _ => rfl) (fun k hk _ => up_ne (by omega)) (fun _ _ => ⟨rfl, rfl⟩) (fun r _ => ⟨rfl, up_ne (by omega)⟩) (fun _ _ => ⟨rfl, rfl⟩))
theorem up_g {α : Type} {f : Nat → α} {g k : Nat} {v : α} (h : k ≠ g) : va_up f g v k = f k := if_neg h
theorem w_A {f : Nat → Int32} (h : k < 13) (h5 : k ≠ 5) : I_set (rp X S) (aA X k) (.inl (0, lnA k, .inl f)) = rp X (sI S (40 + k) f) := set_of rfl rfl (by rw [rf_A h h5]; show (Sum.inl (0, lnA k, .inl (va_up S.1 (40 + k) f (40 + k))) : I_Ce) = _; rw [up_eq]) (fun q hq => rf_congr (fun _ => by simp only [fO, sI, up_ne (show 0 ≠ 40 + k by omega)]) (fun t2 _ z => ⟨by show va_up S.1 (40 + k) f 1 t2 = S.1 1 t2; rw [up_ne (by omega)], rfl⟩) (fun _ _ _ => rfl) (fun _ => up_ne (by omega)) (fun _ => up_ne (by omega)) (fun _ => up_ne (by omega)) (fun _ => by simp only [fM, sI, up_ne (show 20 ≠ 40 + k by omega)]) (fun _ => rfl) (fun k2 _ z => up_ne (fun y => hq (by rw [z]; congr 1; omega))) (fun r2 _ => ⟨by show va_up S.1 (40 + k) f 5 r2 = S.1 5 r2; rw [up_ne (by omega)], by show va_up S.1 (40 + k) f 6 r2 = S.1 6 r2; rw [up_ne (by omega)]⟩) (fun r2 _ => ⟨rfl, up_ne (by omega)⟩) (fun _ _ => ⟨rfl, rfl⟩))
theorem w_A5 {f : Nat → UInt64} : I_set (rp X S) (aA X 5) (.inl (1, 14400, .inr (.inr (.inr (.inl f))))) = rp X (sF S 0 f) := set_of rfl rfl rf_A5 (fun q hq => rf_congr (fun _ => rfl) (fun _ _ _ => ⟨rfl, rfl⟩) (fun _ _ _ => rfl) (fun _ => rfl) (fun _ => rfl) (fun _ => rfl) (fun _ => rfl) (fun z => absurd z hq) (fun _ _ _ => rfl) (fun _ _ => ⟨rfl, rfl⟩) (fun _ _ => ⟨rfl, rfl⟩) (fun r2 _ => ⟨rfl, up_ne (by omega)⟩))
theorem w_Rc : I_set (rp X S) (aR X r) (.inr (0, [.int (S.1 5 r), va_rf (some (aRw X r)), va_rf (some (aRd X r)), .int v])) = rp X (sI S 6 (upd (S.1 6) r v)) := set_of rfl rfl (by rw [rf_R]; show (Sum.inr (0, [.int (S.1 5 r), va_rf (some (aRw X r)), va_rf (some (aRd X r)), .int (upd (S.1 6) r v r)]) : I_Ce) = _; rw [pk_us]) (fun q hq => rf_congr (fun _ => rfl) (fun _ _ _ => ⟨rfl, rfl⟩) (fun _ _ _ => rfl) (fun _ => rfl) (fun _ => rfl) (fun _ => rfl) (fun _ => rfl) (fun _ => rfl) (fun k hk _ => up_ne (by omega)) (fun r2 z => ⟨rfl, by show upd (S.1 6) r v r2 = S.1 6 r2; exact pk_un (fun y => hq (by rw [z, y]))⟩) (fun r _ => ⟨rfl, up_ne (by omega)⟩) (fun _ _ => ⟨rfl, rfl⟩))
theorem w_Rw {f : Nat → Int32} : I_set (rp X S) (aRw X r) (.inl (0, S.2.1 2 r, .inl f)) = rp X (sI S (100 + r) f) := set_of rfl rfl (by rw [rf_Rw]; show (Sum.inl (0, S.2.1 2 r, .inl (va_up S.1 (100 + r) f (100 + r))) : I_Ce) = _; rw [up_eq]) (fun q hq => rf_congr (fun _ => by simp only [fO, sI, up_ne (show 0 ≠ 100 + r by omega)]) (fun t2 _ z => ⟨by show va_up S.1 (100 + r) f 1 t2 = S.1 1 t2; rw [up_ne (by omega)], rfl⟩) (fun _ _ _ => rfl) (fun _ => up_ne (by omega)) (fun _ => up_ne (by omega)) (fun _ => up_ne (by omega)) (fun _ => by simp only [fM, sI, up_ne (show 20 ≠ 100 + r by omega)]) (fun _ => rfl) (fun k2 _ z => up_ne (by omega)) (fun r2 _ => ⟨by show va_up S.1 (100 + r) f 5 r2 = S.1 5 r2; rw [up_ne (by omega)], by show va_up S.1 (100 + r) f 6 r2 = S.1 6 r2; rw [up_ne (by omega)]⟩) (fun r2 z => ⟨rfl, up_ne (fun y => hq (by rw [z]; congr 1; omega))⟩) (fun _ _ => ⟨rfl, rfl⟩))
theorem w_Rd {f : Nat → UInt64} : I_set (rp X S) (aRd X r) (.inl (1, S.2.1 3 r, .inr (.inr (.inr (.inl f))))) = rp X (sF S (1 + r) f) := set_of rfl rfl (by rw [rf_Rd]; show (Sum.inl (1, S.2.1 3 r, .inr (.inr (.inr (.inl (va_up S.2.2.2 (1 + r) f (1 + r)))))) : I_Ce) = _; rw [up_eq]) (fun q hq => rf_congr (fun _ => rfl) (fun _ _ _ => ⟨rfl, rfl⟩) (fun _ _ _ => rfl) (fun _ => rfl) (fun _ => rfl) (fun _ => rfl) (fun _ => rfl) (fun _ => up_ne (by omega)) (fun _ _ _ => rfl) (fun _ _ => ⟨rfl, rfl⟩) (fun _ _ => ⟨rfl, rfl⟩) (fun r2 z => ⟨rfl, up_ne (fun y => hq (by rw [z]; congr 1; omega))⟩))
end ST1
