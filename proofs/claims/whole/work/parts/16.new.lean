/-! What is made: rows, tables. -/
section NW0
variable {X : I_X} {S : St} {d t r i j n n2 : Nat} {a b v : Int32}
def fillF (f : Nat → Int32) (v : Int32) (n : Nat) : Nat → Int32 := fun j => if j < n then v else f j
theorem fillF_0 {f : Nat → Int32} : fillF f v 0 = f := by funext j; unfold fillF; rw [if_neg (by omega)]
theorem fillF_s {f : Nat → Int32} : upd (fillF f v i) i v = fillF f v (i + 1) := by
  funext j
  unfold upd fillF
  by_cases h : j = i
  · rw [if_pos h, if_pos (by omega)]
  · rw [if_neg h]
    by_cases h2 : j < i
    · rw [if_pos h2, if_pos (by omega)]
    · rw [if_neg h2, if_neg (by omega)]
theorem k_fill_loop {Hf : (Nat → Int32) → I_H} {q : Nat} (hn : n < 2 ^ 31) (hs : ∀ f i, i < n → I_asti X (Hf f) 0 q (nI i) v = some (Hf (upd f i v))) (f : Nat → Int32) : ∀ m i, i + m = n → ev X d m_J7_fill_53178 5 [some (va_rf (some q)), some (.int v), some (.int (nI i)), some (.int (nI n))] [] (Hf (fillF f v i)) = some (none, Hf (fillF f v n)) := by
  intro m
  induction m with
  | zero =>
    intro i hi
    have h1 : nI n ≤ nI i := nI_le (by omega) (by omega)
    have e : i = n := by omega
    subst e
    rw [e_J7_fill_53178_5]
    simp only [e_J7_fill_53178_6, e_J7_fill_53178_7, e_J7_fill_53178_10, e_J7_fill_53178_11, e_J7_fill_53178_12, e_J7_fill_53178_13, e_J7_fill_53178_14, e_J7_fill_53178_17, e_J7_fill_53178_20, Option.bind_some, Option.bind_none, Option.toList_some, Option.toList_none, List.cons_append, List.nil_append, I_z, I_i8, I_q8, I_i7, I_q7, I_i6, I_q6, I_i5, I_q5, I_i4, I_q4, I_i3, I_q3, I_i2, I_q2, I_i1, I_q1, I_w8, I_w7, I_w6, I_w5, I_w4, I_w3, I_w2, I_c2n, I_c2i, I_c2q, eq_self, or_true, true_or, and_true, true_and, if_true, if_false, not_false_eq_true, not_true_eq_false, Option.map_none, Option.map_some, reduceCtorEq, h1]
  | succ m ih =>
    intro i hi
    have h1 : ¬ nI n ≤ nI i := nI_ge (by omega) (by omega)
    have hi1 : i < n := by omega
    have ih1 := ih (i + 1) (by omega)
    rw [e_J7_fill_53178_5]
    simp only [e_J7_fill_53178_6, e_J7_fill_53178_7, e_J7_fill_53178_10, e_J7_fill_53178_11, e_J7_fill_53178_12, e_J7_fill_53178_13, e_J7_fill_53178_14, e_J7_fill_53178_17, e_J7_fill_53178_20, Option.bind_some, Option.bind_none, Option.toList_some, Option.toList_none, List.cons_append, List.nil_append, I_z, I_i8, I_q8, I_i7, I_q7, I_i6, I_q6, I_i5, I_q5, I_i4, I_q4, I_i3, I_q3, I_i2, I_q2, I_i1, I_q1, I_w8, I_w7, I_w6, I_w5, I_w4, I_w3, I_w2, I_c2n, I_c2i, I_c2q, eq_self, or_true, true_or, and_true, true_and, if_true, if_false, not_false_eq_true, not_true_eq_false, Option.map_none, Option.map_some, reduceCtorEq, h1, hs _ _ hi1, fillF_s, nI_1, ih1]
theorem k_fill {Hf : (Nat → Int32) → I_H} {q : Nat} (hn : n < 2 ^ 31) (hl : ∀ f, I_alen X (Hf f) q = some (nI n)) (hs : ∀ f i, i < n → I_asti X (Hf f) 0 q (nI i) v = some (Hf (upd f i v))) (f : Nat → Int32) : ev X d m_J7_fill_53178 0 [some (va_rf (some q)), some (.int v), none, none] [] (Hf f) = some (none, Hf (fillF f v n)) := by
  have h := k_fill_loop (d := d) hn hs f n 0 (by omega)
  rw [nI_0, fillF_0] at h
  simp only [e_J7_fill_53178_0, e_J7_fill_53178_1, e_J7_fill_53178_2, e_J7_fill_53178_3, e_J7_fill_53178_4, Option.bind_some, Option.bind_none, Option.toList_some, Option.toList_none, List.cons_append, List.nil_append, I_z, I_i8, I_q8, I_i7, I_q7, I_i6, I_q6, I_i5, I_q5, I_i4, I_q4, I_i3, I_q3, I_i2, I_q2, I_i1, I_q1, I_w8, I_w7, I_w6, I_w5, I_w4, I_w3, I_w2, I_c2n, I_c2i, I_c2q, eq_self, or_true, true_or, and_true, true_and, if_true, if_false, not_false_eq_true, not_true_eq_false, Option.map_none, Option.map_some, reduceCtorEq, hl, h]
theorem sI_g {g : Nat} {f : Nat → Int32} : (sI S g f).1 g = f := by rw [sI_1, up_eq]
theorem k_fillWd : ev X d m_J7_fill_53178 0 [some (va_rf (some (aWd X))), some (.int v), none, none] [] (rp X S) = some (none, rp X (sI S 2 (fillF (S.1 2) v 6))) := by
  have h := k_fill (X := X) (d := d) (v := v) (n := 6) (q := aWd X) (Hf := fun f => rp X (sI S 2 f)) (by omega) (fun f => nWd) (fun f i hi => by simp only [uWd hi, sI_g, sI_sI]) (S.1 2)
  simp only [sI_self] at h
  exact h
theorem k_fillDp : ev X d m_J7_fill_53178 0 [some (va_rf (some (aDp X))), some (.int v), none, none] [] (rp X S) = some (none, rp X (sI S 4 (fillF (S.1 4) v 16))) := by
  have h := k_fill (X := X) (d := d) (v := v) (n := 16) (q := aDp X) (Hf := fun f => rp X (sI S 4 f)) (by omega) (fun f => nDp) (fun f i hi => by simp only [uDp hi, sI_g, sI_sI]) (S.1 4)
  simp only [sI_self] at h
  exact h
theorem k_fillRw (hr : r < S.2.1 0 1) (hb : S.2.1 2 r < 2 ^ 31) : ev X d m_J7_fill_53178 0 [some (va_rf (some (aRw X r))), some (.int v), none, none] [] (rp X S) = some (none, rp X (sI S (100 + r) (fillF (S.1 (100 + r)) v (S.2.1 2 r)))) := by
  have h := k_fill (X := X) (d := d) (v := v) (n := S.2.1 2 r) (q := aRw X r) (Hf := fun f => rp X (sI S (100 + r) f)) hb (fun f => nRw (by rw [sI_2]; exact hr)) (fun f i hi => by rw [uRw (by rw [sI_2]; exact hr) (by rw [sI_2]; exact hi) (by rw [sI_2]; exact hb), sI_g, sI_sI]) (S.1 (100 + r))
  simp only [sI_self] at h
  exact h
/-- a row more, all nought -/
def nRow (S : St) (k : Int32) (n n2 : Nat) : St := (va_up (va_up (va_up S.1 5 (upd (S.1 5) (S.2.1 0 1) k)) 6 (upd (S.1 6) (S.2.1 0 1) 0)) (100 + S.2.1 0 1) (fun _ => 0), va_up (va_up (va_up S.2.1 0 (va_up (va_up (S.2.1 0) 1 (S.2.1 0 1 + 1)) 2 (S.2.1 0 2 + 4 + n + n2))) 2 (va_up (S.2.1 2) (S.2.1 0 1) n)) 3 (va_up (S.2.1 3) (S.2.1 0 1) n2), S.2.2.1, va_up S.2.2.2 (1 + S.2.1 0 1) (fun _ => 0))
theorem I_cel_new {h : I_H} {e : I_Ce} (hl : X.1 ≤ h.1) : I_cel X (I_new h n e) h.1 = some e := by
  unfold I_cel I_new
  rw [if_pos ⟨hl, Nat.lt_succ_self _⟩]
  simp
theorem I_cel_set {h : I_H} {e : I_Ce} {q : Nat} (hl : X.1 ≤ q) (h2 : q < h.1) : I_cel X (I_set h q e) q = some e := by
  unfold I_cel I_set
  rw [if_pos ⟨hl, h2⟩]
  simp
theorem I_cel_old {h : I_H} {e : I_Ce} {q : Nat} (h2 : q < h.1) : I_cel X (I_new h n e) q = I_cel X h q := by
  unfold I_cel I_new
  by_cases hl : X.1 ≤ q
  · rw [if_pos ⟨hl, Nat.lt_succ_of_lt h2⟩, if_pos ⟨hl, h2⟩]
    simp only
    rw [if_neg (by omega)]
  · rw [if_neg (fun z => hl z.1), if_neg (fun z => hl z.1)]
theorem I_putf_at {h : I_H} {q ci k : Nat} {fs : List Value} {v : Value} (hc : I_cel X h q = some (.inr (ci, fs))) (hk : k < fs.length) : I_putf X h q ci k v = some (I_set h q (.inr (ci, fs.set k v))) := by
  unfold I_putf; rw [hc]; exact if_pos ⟨rfl, hk⟩
def hR0 (X : I_X) (S : St) : I_H := I_new (rp X S) (I_N 0) (.inr (0, I_def 0))
def hR1 (X : I_X) (S : St) (k : Int32) : I_H := I_set (hR0 X S) (aR X (S.2.1 0 1)) (.inr (0, [.int k, .null, .null, .int 0]))
def hR2 (X : I_X) (S : St) (k : Int32) (n : Nat) : I_H := I_new (hR1 X S k) n (.inl (0, n, .inl (fun _ => 0)))
def hR3 (X : I_X) (S : St) (k : Int32) (n : Nat) : I_H := I_set (hR2 X S k n) (aR X (S.2.1 0 1)) (.inr (0, [.int k, va_rf (some (aRw X (S.2.1 0 1))), .null, .int 0]))
def hR4 (X : I_X) (S : St) (k : Int32) (n n2 : Nat) : I_H := I_new (hR3 X S k n) n2 (.inl (1, n2, .inr (.inr (.inr (.inl (fun _ => 0))))))
theorem rp_1 : (rp X S).1 = aR X (S.2.1 0 1) := by simp only [rp, aR]
theorem hR_0 : I_putf X (hR0 X S) (aR X (S.2.1 0 1)) 0 0 (.int a) = some (hR1 X S a) := by
  refine I_putf_at (fs := I_def 0) ?_ (by decide)
  have h := I_cel_new (X := X) (h := rp X S) (n := I_N 0) (e := .inr (0, I_def 0)) (by show X.1 ≤ X.1 + 51 + 3 * S.2.1 0 1; omega)
  rw [rp_1] at h
  exact h
theorem hR_1 : (hR1 X S a).1 = aRw X (S.2.1 0 1) := by
  show X.1 + 51 + 3 * S.2.1 0 1 + 1 = _
  unfold aRw; omega
theorem hR_2 : I_putf X (hR2 X S a n) (aR X (S.2.1 0 1)) 0 1 (va_rf (some (aRw X (S.2.1 0 1)))) = some (hR3 X S a n) := by
  refine I_putf_at (fs := [.int a, .null, .null, .int 0]) ?_ (show 1 < 4 by decide)
  unfold hR2
  rw [I_cel_old (by rw [hR_1]; unfold aR aRw; omega)]
  unfold hR1
  exact I_cel_set (by unfold aR; omega) (by show aR X (S.2.1 0 1) < X.1 + 51 + 3 * S.2.1 0 1 + 1; unfold aR; omega)
theorem hR_3 : (hR3 X S a n).1 = aRd X (S.2.1 0 1) := by
  show X.1 + 51 + 3 * S.2.1 0 1 + 1 + 1 = _
  unfold aRd; omega
theorem hR_4 : I_putf X (hR4 X S a n n2) (aR X (S.2.1 0 1)) 0 2 (va_rf (some (aRd X (S.2.1 0 1)))) = some (rp X (nRow S a n n2)) := by
  have hc : I_cel X (hR4 X S a n n2) (aR X (S.2.1 0 1)) = some (.inr (0, [.int a, va_rf (some (aRw X (S.2.1 0 1))), .null, .int 0])) := by
    unfold hR4
    rw [I_cel_old (by rw [hR_3]; unfold aR aRd; omega)]
    unfold hR3
    exact I_cel_set (by unfold aR; omega) (by show aR X (S.2.1 0 1) < X.1 + 51 + 3 * S.2.1 0 1 + 1 + 1; unfold aR; omega)
  rw [I_putf_at hc (show 2 < 4 by decide)]
  refine congrArg some (Prod.ext ?_ (Prod.ext ?_ ?_))
  · show X.1 + 51 + 3 * S.2.1 0 1 + 1 + 1 + 1 = X.1 + 51 + 3 * (S.2.1 0 1 + 1)
    omega
  · show S.2.1 0 2 + 4 + n + n2 = S.2.1 0 2 + 4 + n + n2
    rfl
  · funext q
    show (if q = aR X (S.2.1 0 1) then _ else (hR4 X S a n n2).2.2 q) = rp_f X (nRow S a n n2) q
    by_cases c1 : q = aR X (S.2.1 0 1)
    · rw [if_pos c1, c1, rf_R]
      have e1 : (nRow S a n n2).1 5 (S.2.1 0 1) = a := by
        show va_up (va_up (va_up S.1 5 _) 6 _) (100 + S.2.1 0 1) _ 5 _ = a
        rw [up_ne (by omega), up_ne (by omega), up_eq, pk_us]
      have e2 : (nRow S a n n2).1 6 (S.2.1 0 1) = 0 := by
        show va_up (va_up (va_up S.1 5 _) 6 _) (100 + S.2.1 0 1) _ 6 _ = 0
        rw [up_ne (by omega), up_eq, pk_us]
      rw [e1, e2]
      rfl
    · rw [if_neg c1]
      show (if q = (hR3 X S a n).1 then _ else (hR3 X S a n).2.2 q) = _
      rw [hR_3]
      by_cases c2 : q = aRd X (S.2.1 0 1)
      · rw [if_pos c2, c2, rf_Rd]
        have e1 : (nRow S a n n2).2.1 3 (S.2.1 0 1) = n2 := by
          have e0 : (nRow S a n n2).2.1 3 = va_up (S.2.1 3) (S.2.1 0 1) n2 := by simp only [nRow]; exact up_eq
          rw [e0, up_eq]
        have e2 : (nRow S a n n2).2.2.2 (1 + S.2.1 0 1) = fun _ => 0 := by
          show va_up S.2.2.2 (1 + S.2.1 0 1) _ (1 + S.2.1 0 1) = _
          rw [up_eq]
        rw [e1, e2]
      · rw [if_neg c2]
        show (if q = aR X (S.2.1 0 1) then _ else (hR2 X S a n).2.2 q) = _
        rw [if_neg c1]
        show (if q = (hR1 X S a).1 then _ else (hR1 X S a).2.2 q) = _
        rw [hR_1]
        by_cases c3 : q = aRw X (S.2.1 0 1)
        · rw [if_pos c3, c3, rf_Rw]
          have e1 : (nRow S a n n2).2.1 2 (S.2.1 0 1) = n := by
            have e0 : (nRow S a n n2).2.1 2 = va_up (S.2.1 2) (S.2.1 0 1) n := by simp only [nRow]; rw [up_ne (by omega), up_eq]
            rw [e0, up_eq]
          have e2 : (nRow S a n n2).1 (100 + S.2.1 0 1) = fun _ => 0 := by
            show va_up (va_up (va_up S.1 5 _) 6 _) (100 + S.2.1 0 1) _ (100 + S.2.1 0 1) = _
            rw [up_eq]
          rw [e1, e2]
        · rw [if_neg c3]
          show (if q = aR X (S.2.1 0 1) then _ else (hR0 X S).2.2 q) = _
          rw [if_neg c1]
          show (if q = (rp X S).1 then _ else (rp X S).2.2 q) = _
          rw [rp_1, if_neg c1]
          show rp_f X S q = rp_f X (nRow S a n n2) q
          refine (rf_congr ?_ ?_ ?_ ?_ ?_ ?_ ?_ ?_ ?_ ?_ ?_ ?_).symm
          · intro _
            have e1 : (nRow S a n n2).1 0 = S.1 0 := by
              show va_up (va_up (va_up S.1 5 _) 6 _) (100 + S.2.1 0 1) _ 0 = _
              rw [up_ne (by omega), up_ne (by omega), up_ne (by omega)]
            unfold fO
            rw [e1]
            rfl
          · intro t _ _
            refine ⟨?_, rfl⟩
            show va_up (va_up (va_up S.1 5 _) 6 _) (100 + S.2.1 0 1) _ 1 t = _
            rw [up_ne (by omega), up_ne (by omega), up_ne (by omega)]
          · intro t _ _; rfl
          · intro _
            show va_up (va_up (va_up S.1 5 _) 6 _) (100 + S.2.1 0 1) _ 2 = _
            rw [up_ne (by omega), up_ne (by omega), up_ne (by omega)]
          · intro _
            show va_up (va_up (va_up S.1 5 _) 6 _) (100 + S.2.1 0 1) _ 3 = _
            rw [up_ne (by omega), up_ne (by omega), up_ne (by omega)]
          · intro _
            show va_up (va_up (va_up S.1 5 _) 6 _) (100 + S.2.1 0 1) _ 4 = _
            rw [up_ne (by omega), up_ne (by omega), up_ne (by omega)]
          · intro _
            have e1 : (nRow S a n n2).1 20 = S.1 20 := by
              show va_up (va_up (va_up S.1 5 _) 6 _) (100 + S.2.1 0 1) _ 20 = _
              rw [up_ne (by omega), up_ne (by omega), up_ne (by omega)]
            unfold fM
            rw [e1]
          · intro _
            show va_up S.2.2.2 (1 + S.2.1 0 1) _ 0 = _
            rw [up_ne (by omega)]
          · intro k hk _
            show va_up (va_up (va_up S.1 5 _) 6 _) (100 + S.2.1 0 1) _ (40 + k) = _
            rw [up_ne (by omega), up_ne (by omega), up_ne (by omega)]
          · intro r hr
            have hne : r ≠ S.2.1 0 1 := fun z => c1 (by rw [hr, z])
            refine ⟨?_, ?_⟩
            · show va_up (va_up (va_up S.1 5 _) 6 _) (100 + S.2.1 0 1) _ 5 r = _
              rw [up_ne (by omega), up_ne (by omega), up_eq, pk_un hne]
            · show va_up (va_up (va_up S.1 5 _) 6 _) (100 + S.2.1 0 1) _ 6 r = _
              rw [up_ne (by omega), up_eq, pk_un hne]
          · intro r hr
            have hne : r ≠ S.2.1 0 1 := fun z => c3 (by rw [hr, z])
            refine ⟨?_, ?_⟩
            · have e0 : (nRow S a n n2).2.1 2 = va_up (S.2.1 2) (S.2.1 0 1) n := by simp only [nRow]; rw [up_ne (by omega), up_eq]
              rw [e0, up_ne hne]
            · show va_up (va_up (va_up S.1 5 _) 6 _) (100 + S.2.1 0 1) _ (100 + r) = _
              rw [up_ne (by omega), up_ne (by omega), up_ne (by omega)]
          · intro r hr
            have hne : r ≠ S.2.1 0 1 := fun z => c2 (by rw [hr, z])
            refine ⟨?_, ?_⟩
            · have e0 : (nRow S a n n2).2.1 3 = va_up (S.2.1 3) (S.2.1 0 1) n2 := by simp only [nRow]; exact up_eq
              rw [e0, up_ne hne]
            · show va_up S.2.2.2 (1 + S.2.1 0 1) _ (1 + r) = _
              rw [up_ne (by omega)]
theorem I_mk_nI (h : n ≤ 20000) : I_mk (nI n) = true := by
  unfold I_mk
  rw [nI_clamp (by omega)]
  have := nI_pos (n := n) (by omega)
  simp [this, h]
/-- a row more, as the landed code makes it -/
def nRowK (S : St) (k : Int32) (n : Nat) : St := if k = 3 then sI (nRow S k n 0) (100 + S.2.1 0 1) (fillF (fun _ => 0) (-1000009) n) else if k = 2 then nRow S k n n else nRow S k n 0
theorem nRow_1 : (nRow S a n n2).2.1 0 1 = S.2.1 0 1 + 1 := by
  have e0 : (nRow S a n n2).2.1 0 = va_up (va_up (S.2.1 0) 1 (S.2.1 0 1 + 1)) 2 (S.2.1 0 2 + 4 + n + n2) := by
    simp only [nRow]; rw [up_ne (by omega), up_ne (by omega), up_eq]
  rw [e0, up_ne (by omega), up_eq]
theorem nRow_2 : (nRow S a n n2).2.1 2 = va_up (S.2.1 2) (S.2.1 0 1) n := by
  simp only [nRow]; rw [up_ne (by omega), up_eq]
theorem nRow_w : (nRow S a n n2).1 (100 + S.2.1 0 1) = fun _ => 0 := by
  simp only [nRow]; exact up_eq
theorem k_Row (hn : n ≤ 16) : ev X (d + 1) m_X0_init 0 [some (va_rf (some (aR X (S.2.1 0 1)))), some (.int a), some (.int (nI n))] [] (hR0 X S) = some (none, rp X (nRowK S a n)) := by
  have hm := I_mk_nI (n := n) (by omega)
  have hm0 : I_mk 0 = true := by decide
  have hc : (nI n).toNatClampNeg = n := nI_clamp (by omega)
  have hc0 : (0 : Int32).toNatClampNeg = 0 := by decide
  have e2 : ∀ k, I_new (hR1 X S a) k (.inl (0, k, .inl (fun _ => 0))) = hR2 X S a k := fun _ => rfl
  have e4 : ∀ k, I_new (hR3 X S a n) k (.inl (1, k, .inr (.inr (.inr (.inl (fun _ => 0)))))) = hR4 X S a n k := fun _ => rfl
  by_cases h2 : a = 2
  · subst h2
    have h3 : ¬ (2 : Int32) = 3 := by decide
    simp only [e_X0_init_0, e_X0_init_1, e_X0_init_4, e_X0_init_5, e_X0_init_6, e_X0_init_9, e_X0_init_10, e_X0_init_11, e_X0_init_13, e_X0_init_16, e_X0_init_17, e_X0_init_18, e_X0_init_19, e_X0_init_22, e_X0_init_23, e_X0_init_26, e_X0_init_27, e_X0_init_29, e_X0_init_32, e_X0_init_33, e_X0_init_34, e_X0_init_37, e_X0_init_38, e_X0_init_41, e_X0_init_43, e_X0_init_46, Option.bind_some, Option.bind_none, Option.toList_some, Option.toList_none, List.cons_append, List.nil_append, I_z, I_i8, I_q8, I_i7, I_q7, I_i6, I_q6, I_i5, I_q5, I_i4, I_q4, I_i3, I_q3, I_i2, I_q2, I_i1, I_q1, I_w8, I_w7, I_w6, I_w5, I_w4, I_w3, I_w2, I_c2n, I_c2i, I_c2q, eq_self, or_true, true_or, and_true, true_and, if_true, if_false, not_false_eq_true, not_true_eq_false, Option.map_none, Option.map_some, reduceCtorEq, hR_0, hm, hc, hR_1, e2, hR_2, hR_3, e4, hR_4, h3, nRowK]
  · simp only [e_X0_init_0, e_X0_init_1, e_X0_init_4, e_X0_init_5, e_X0_init_6, e_X0_init_9, e_X0_init_10, e_X0_init_11, e_X0_init_13, e_X0_init_16, e_X0_init_17, e_X0_init_18, e_X0_init_19, e_X0_init_22, e_X0_init_23, e_X0_init_26, e_X0_init_27, e_X0_init_29, e_X0_init_32, e_X0_init_33, e_X0_init_34, e_X0_init_37, e_X0_init_38, e_X0_init_41, e_X0_init_43, e_X0_init_46, Option.bind_some, Option.bind_none, Option.toList_some, Option.toList_none, List.cons_append, List.nil_append, I_z, I_i8, I_q8, I_i7, I_q7, I_i6, I_q6, I_i5, I_q5, I_i4, I_q4, I_i3, I_q3, I_i2, I_q2, I_i1, I_q1, I_w8, I_w7, I_w6, I_w5, I_w4, I_w3, I_w2, I_c2n, I_c2i, I_c2q, eq_self, or_true, true_or, and_true, true_and, if_true, if_false, not_false_eq_true, not_true_eq_false, Option.map_none, Option.map_some, reduceCtorEq, hR_0, hm, hc, hm0, hc0, hR_1, e2, hR_2, hR_3, e4, hR_4, h2]
    by_cases h3 : a = 3
    · have hr : S.2.1 0 1 < (nRow S a n 0).2.1 0 1 := by rw [nRow_1]; omega
      have hl : (nRow S a n 0).2.1 2 (S.2.1 0 1) = n := by rw [nRow_2, up_eq]
      have hf := k_fillRw (X := X) (d := d) (S := nRow S a n 0) (v := -1000009) hr (by rw [hl]; omega)
      rw [hl, nRow_w] at hf
      have ek : nRowK S a n = sI (nRow S a n 0) (100 + S.2.1 0 1) (fillF (fun _ => 0) (-1000009) n) := if_pos h3
      rw [ek]
      simp only [if_pos h3, e_X0_init_0, e_X0_init_1, e_X0_init_4, e_X0_init_5, e_X0_init_6, e_X0_init_9, e_X0_init_10, e_X0_init_11, e_X0_init_13, e_X0_init_16, e_X0_init_17, e_X0_init_18, e_X0_init_19, e_X0_init_22, e_X0_init_23, e_X0_init_26, e_X0_init_27, e_X0_init_29, e_X0_init_32, e_X0_init_33, e_X0_init_34, e_X0_init_37, e_X0_init_38, e_X0_init_41, e_X0_init_43, e_X0_init_46, Option.bind_some, Option.bind_none, Option.toList_some, Option.toList_none, List.cons_append, List.nil_append, I_z, I_i8, I_q8, I_i7, I_q7, I_i6, I_q6, I_i5, I_q5, I_i4, I_q4, I_i3, I_q3, I_i2, I_q2, I_i1, I_q1, I_w8, I_w7, I_w6, I_w5, I_w4, I_w3, I_w2, I_c2n, I_c2i, I_c2q, eq_self, or_true, true_or, and_true, true_and, if_true, if_false, not_false_eq_true, not_true_eq_false, Option.map_none, Option.map_some, reduceCtorEq, gR_1, hr, hf]
    · have ek : nRowK S a n = nRow S a n 0 := by unfold nRowK; rw [if_neg h3, if_neg h2]
      rw [ek]
      simp only [e_X0_init_0, e_X0_init_1, e_X0_init_4, e_X0_init_5, e_X0_init_6, e_X0_init_9, e_X0_init_10, e_X0_init_11, e_X0_init_13, e_X0_init_16, e_X0_init_17, e_X0_init_18, e_X0_init_19, e_X0_init_22, e_X0_init_23, e_X0_init_26, e_X0_init_27, e_X0_init_29, e_X0_init_32, e_X0_init_33, e_X0_init_34, e_X0_init_37, e_X0_init_38, e_X0_init_41, e_X0_init_43, e_X0_init_46, Option.bind_some, Option.bind_none, Option.toList_some, Option.toList_none, List.cons_append, List.nil_append, I_z, I_i8, I_q8, I_i7, I_q7, I_i6, I_q6, I_i5, I_q5, I_i4, I_q4, I_i3, I_q3, I_i2, I_q2, I_i1, I_q1, I_w8, I_w7, I_w6, I_w5, I_w4, I_w3, I_w2, I_c2n, I_c2i, I_c2q, eq_self, or_true, true_or, and_true, true_and, if_true, if_false, not_false_eq_true, not_true_eq_false, Option.map_none, Option.map_some, reduceCtorEq, h3]
end NW0
