/-! What a run answers, without its fuel; one equation an instruction. -/
theorem I_run_succ (X : I_X) : ∀ (n d y pc : Nat) (L : I_L) (st : List Value) (h : I_H) (r : I_R), I_run n X d y pc L st h = some r → I_run (n + 1) X d y pc L st h = some r := by
  intro n
  induction n with
  | zero => intro d y pc L st h r e; simp [I_run] at e
  | succ n ih =>
    intro d y pc L st h r e
    rw [I_run] at e ⊢
    split at e
    · exact e
    · rename_i i len hdec
      by_cases hlk : I_lk i len = true
      case neg => rw [if_neg hlk] at e; cases e
      rw [if_pos hlk] at e ⊢
      split at e
      · rename_i q hq
        cases d with
        | zero => exact e
        | succ d' =>
          simp only at e ⊢
          by_cases hl : (I_slots q.2.1).length ≤ I_maxL q.1
          · rw [if_pos hl] at e ⊢
            cases h1 : I_run n X d' q.1 0 (I_ent q.2.1 (I_maxL q.1)) [] h with
            | none => rw [h1] at e; simp at e
            | some r1 =>
              rw [h1] at e
              rw [ih _ _ _ _ _ _ _ h1]
              simp only [Option.bind_some] at e ⊢
              exact ih _ _ _ _ _ _ _ e
          · rw [if_neg hl] at e
            cases e
      · split at e
        · exact e
        · rename_i hb
          cases h1 : I_step X y i pc len L st h with
          | none => rw [h1] at e; simp at e
          | some c =>
            rw [h1] at e
            simp only [Option.bind_some] at e ⊢
            exact ih _ _ _ _ _ _ _ e
theorem I_run_le (X : I_X) {n m d y pc : Nat} {L : I_L} {st : List Value} {h : I_H} {r : I_R} (hm : n ≤ m) (e : I_run n X d y pc L st h = some r) : I_run m X d y pc L st h = some r := by
  induction hm with
  | refl => exact e
  | step _ ih => exact I_run_succ X _ _ _ _ _ _ _ _ ih
noncomputable def ev (X : I_X) (d y pc : Nat) (L : I_L) (st : List Value) (h : I_H) : Option I_R :=
  @dite (Option I_R) (∃ r, ∃ n, I_run n X d y pc L st h = some r) (Classical.propDecidable _) (fun w => some w.choose) (fun _ => none)
theorem ev_some {X : I_X} {d y pc : Nat} {L : I_L} {st : List Value} {h : I_H} {r : I_R} : ev X d y pc L st h = some r ↔ ∃ n, I_run n X d y pc L st h = some r := by
  unfold ev
  constructor
  · intro e
    split at e
    · rename_i w
      have := w.choose_spec
      rw [Option.some.inj e] at this
      exact this
    · cases e
  · rintro ⟨n, e⟩
    have w : ∃ r, ∃ n, I_run n X d y pc L st h = some r := ⟨r, n, e⟩
    rw [dif_pos w]
    obtain ⟨m, e2⟩ := w.choose_spec
    have a := I_run_le X (Nat.le_max_left n m) e
    have b := I_run_le X (Nat.le_max_right n m) e2
    rw [a] at b
    exact congrArg some (Option.some.inj b).symm
theorem ev_ext {X : I_X} {d y pc : Nat} {L : I_L} {st : List Value} {h : I_H} {o : Option I_R} (k : ∀ r, (∃ n, I_run n X d y pc L st h = some r) ↔ o = some r) : ev X d y pc L st h = o := by
  cases ho : o with
  | some r => rw [ev_some, k r]; exact ho
  | none =>
    cases he : ev X d y pc L st h with
    | none => rfl
    | some r =>
      have := (k r).mp (ev_some.mp he)
      rw [ho] at this
      cases this
theorem ev_step {X : I_X} {d y pc len : Nat} {i : Instr} {L : I_L} {st : List Value} {h : I_H} (hd : decode (I_code y) pc = .ok (i, len)) (hk : I_lk i len = true) (hc : I_call X y i st h = none) (hb : I_back y i st = none) :
    ev X d y pc L st h = (I_step X y i pc len L st h).bind (fun c => ev X d y c.1 c.2.1 c.2.2.1 c.2.2.2) := by
  refine ev_ext fun r => ?_
  cases hs : I_step X y i pc len L st h with
  | none =>
    simp only [Option.bind_none]
    constructor
    · rintro ⟨n, e⟩
      cases n with
      | zero => simp [I_run] at e
      | succ n => rw [I_run, hd] at e; simp only [hk, if_true, hc, hb, hs, Option.bind_none] at e; cases e
    · intro e; cases e
  | some c =>
    simp only [Option.bind_some]
    rw [ev_some]
    constructor
    · rintro ⟨n, e⟩
      cases n with
      | zero => simp [I_run] at e
      | succ n => rw [I_run, hd] at e; simp only [hk, if_true, hc, hb, hs, Option.bind_some] at e; exact ⟨n, e⟩
    · rintro ⟨n, e⟩
      exact ⟨n + 1, by rw [I_run, hd]; simp only [hk, if_true, hc, hb, hs, Option.bind_some]; exact e⟩
theorem ev_ret {X : I_X} {d y pc len : Nat} {i : Instr} {L : I_L} {st : List Value} {h : I_H} {r : Option Value} (hd : decode (I_code y) pc = .ok (i, len)) (hk : I_lk i len = true) (hc : I_call X y i st h = none) (hb : I_back y i st = some r) : ev X d y pc L st h = some (r, h) := by
  rw [ev_some]
  exact ⟨1, by rw [I_run, hd]; simp only [hk, if_true, hc, hb]⟩
theorem ev_call {X : I_X} {d y pc len : Nat} {i : Instr} {L : I_L} {st : List Value} {h : I_H} {t : Nat} {as rest : List Value} (hd : decode (I_code y) pc = .ok (i, len)) (hk : I_lk i len = true) (hc : I_call X y i st h = some (t, as, rest)) (hl : (I_slots as).length ≤ I_maxL t) :
    ev X (d + 1) y pc L st h = (ev X d t 0 (I_ent as (I_maxL t)) [] h).bind (fun r => ev X (d + 1) y (pc + 3) L (r.1.toList ++ rest) r.2) := by
  refine ev_ext fun r => ?_
  constructor
  · rintro ⟨n, e⟩
    cases n with
    | zero => simp [I_run] at e
    | succ n =>
      rw [I_run, hd] at e
      simp only [hk, if_true, hc, if_pos hl] at e
      cases h1 : I_run n X d t 0 (I_ent as (I_maxL t)) [] h with
      | none => rw [h1] at e; simp at e
      | some r1 =>
        rw [h1] at e
        simp only [Option.bind_some] at e
        rw [ev_some.mpr ⟨n, h1⟩]
        simp only [Option.bind_some]
        exact ev_some.mpr ⟨n, e⟩
  · intro e
    cases h1 : ev X d t 0 (I_ent as (I_maxL t)) [] h with
    | none => rw [h1] at e; simp at e
    | some r1 =>
      rw [h1] at e
      simp only [Option.bind_some] at e
      obtain ⟨n1, e1⟩ := ev_some.mp h1
      obtain ⟨n2, e2⟩ := ev_some.mp e
      refine ⟨max n1 n2 + 1, ?_⟩
      rw [I_run, hd]
      simp only [hk, if_true, hc, if_pos hl]
      rw [I_run_le X (Nat.le_max_left n1 n2) e1]
      simp only [Option.bind_some]
      exact I_run_le X (Nat.le_max_right n1 n2) e2
