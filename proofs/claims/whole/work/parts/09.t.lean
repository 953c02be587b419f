/-! A run of the interpreter is a run of the machine. -/
theorem I_putf_sz {X : I_X} {h h1 : I_H} {a ci k : Nat} {v : Value} (hg : I_putf X h a ci k v = some h1) : h1.1 = h.1 ∧ h1.2.1 = h.2.1 := by
  unfold I_putf at hg
  repeat' split at hg
  all_goals first | (cases hg; exact ⟨rfl, rfl⟩) | cases hg
theorem I_asti_sz {X : I_X} {h h1 : I_H} {t a : Nat} {i v : Int32} (hg : I_asti X h t a i v = some h1) : h1.1 = h.1 ∧ h1.2.1 = h.2.1 := by
  unfold I_asti at hg
  repeat' split at hg
  all_goals first | (cases hg; exact ⟨rfl, rfl⟩) | cases hg
theorem I_astd_sz {X : I_X} {h h1 : I_H} {a : Nat} {i : Int32} {v : UInt64} (hg : I_astd X h a i v = some h1) : h1.1 = h.1 ∧ h1.2.1 = h.2.1 := by
  unfold I_astd at hg
  repeat' split at hg
  all_goals first | (cases hg; exact ⟨rfl, rfl⟩) | cases hg
theorem I_astq_sz {X : I_X} {h h1 : I_H} {a : Nat} {i : Int32} {v : Option Nat} (hg : I_astq X h a i v = some h1) : h1.1 = h.1 ∧ h1.2.1 = h.2.1 := by
  unfold I_astq at hg
  cases v <;> dsimp only at hg <;> split at hg
  · split at hg
    · cases hg; exact ⟨rfl, rfl⟩
    · cases hg
  · cases hg
  · split at hg
    · cases hg; exact ⟨rfl, rfl⟩
    · cases hg
  · cases hg
theorem I_copy_sz {X : I_X} {h h1 : I_H} {a0 a : Nat} {sp dp n : Int32} (hg : I_copy X h a0 sp a dp n = some h1) : h1.1 = h.1 ∧ h1.2.1 = h.2.1 := by
  unfold I_copy at hg
  repeat' split at hg
  all_goals first | (cases hg; exact ⟨rfl, rfl⟩) | cases hg
theorem I_sz_le {h h1 : I_H} (e : h1.1 = h.1 ∧ h1.2.1 = h.2.1) : h.1 ≤ h1.1 ∧ h.2.1 ≤ h1.2.1 := ⟨Nat.le_of_eq e.1.symm, Nat.le_of_eq e.2.symm⟩
set_option maxHeartbeats 4000000 in
theorem I_step_grow {X : I_X} {y pc len : Nat} {i : Instr} {L : I_L} {st : List Value} {h : I_H} {k : I_C} (hs : I_step X y i pc len L st h = some k) : h.1 ≤ k.2.2.2.1 ∧ h.2.1 ≤ k.2.2.2.2.1 := by
  cases i
  case ifCond cc off => cases cc <;> (simp only [I_step, I_if, I_br] at hs; repeat' split at hs) <;> first | (cases hs; exact ⟨Nat.le_refl _, Nat.le_refl _⟩) | cases hs
  case if_icmp cc off => cases cc <;> (simp only [I_step, I_icmp, I_br] at hs; repeat' split at hs) <;> first | (cases hs; exact ⟨Nat.le_refl _, Nat.le_refl _⟩) | cases hs
  case if_acmp cc off => cases cc <;> (simp only [I_step, I_acmp, I_br] at hs; repeat' split at hs) <;> first | (cases hs; exact ⟨Nat.le_refl _, Nat.le_refl _⟩) | cases hs
  all_goals first
    | (cases hs; done)
    | (cases hs; exact ⟨Nat.le_refl _, Nat.le_refl _⟩)
    | skip
  all_goals (simp only [I_step, I_b2, I_d2, I_isnull, I_ldi, I_ldd, I_lda, I_sti, I_sta, I_std, I_br, I_jmp, I_hp] at hs)
  all_goals (repeat' split at hs)
  all_goals first
    | (cases hs; exact ⟨Nat.le_refl _, Nat.le_refl _⟩)
    | (cases hs; exact ⟨Nat.le_succ _, Nat.le_add_right _ _⟩)
    | (cases hs; done)
    | (obtain ⟨a, ha, rfl⟩ := Option.map_eq_some_iff.mp hs; exact ⟨Nat.le_refl _, Nat.le_refl _⟩)
    | (obtain ⟨a, ha, rfl⟩ := Option.map_eq_some_iff.mp hs; exact ⟨Nat.le_succ _, Nat.le_add_right _ _⟩)
    | (obtain ⟨a, ha, rfl⟩ := Option.map_eq_some_iff.mp hs; exact I_sz_le (I_putf_sz ha))
    | (obtain ⟨a, ha, rfl⟩ := Option.map_eq_some_iff.mp hs; exact I_sz_le (I_asti_sz ha))
    | (obtain ⟨a, ha, rfl⟩ := Option.map_eq_some_iff.mp hs; exact I_sz_le (I_astd_sz ha))
    | (obtain ⟨a, ha, rfl⟩ := Option.map_eq_some_iff.mp hs; exact I_sz_le (I_astq_sz ha))
    | (obtain ⟨a, ha, rfl⟩ := Option.map_eq_some_iff.mp hs; exact I_sz_le (I_copy_sz ha))
theorem I_run_grow {X : I_X} : ∀ (n d y pc : Nat) (L : I_L) (st : List Value) (h : I_H) (r : I_R), I_run n X d y pc L st h = some r → h.1 ≤ r.2.1 ∧ h.2.1 ≤ r.2.2.1 := by
  intro n
  induction n with
  | zero => intro d y pc L st h r e; simp [I_run] at e
  | succ n ih =>
    intro d y pc L st h r e
    rw [I_run] at e
    split at e
    · cases e
    · rename_i i len hdec
      split at e
      · split at e
        · rename_i q hq
          cases d with
          | zero => cases e
          | succ d' =>
            simp only at e
            split at e
            · cases h1 : I_run n X d' q.1 0 (I_ent q.2.1 (I_maxL q.1)) [] h with
              | none => rw [h1] at e; simp at e
              | some r1 =>
                rw [h1] at e
                simp only [Option.bind_some] at e
                have a1 := ih _ _ _ _ _ _ _ h1
                have a2 := ih _ _ _ _ _ _ _ e
                exact ⟨Nat.le_trans a1.1 a2.1, Nat.le_trans a1.2 a2.2⟩
            · cases e
        · split at e
          · cases e; exact ⟨Nat.le_refl _, Nat.le_refl _⟩
          · cases h1 : I_step X y i pc len L st h with
            | none => rw [h1] at e; simp at e
            | some k =>
              rw [h1] at e
              simp only [Option.bind_some] at e
              have a1 := I_step_grow h1
              have a2 := ih _ _ _ _ _ _ _ e
              exact ⟨Nat.le_trans a1.1 a2.1, Nat.le_trans a1.2 a2.2⟩
      · cases e
def I_Pc (D : va_G) (T : Nat → ClassId) (X : I_X) (vs : List Value) (h : I_H) : Array Value → State → Prop := va_Pc vs (fun U => va_P D vwCl (I_ws T X.1 h) U.heap ∧ va_K D vwCl (I_tys T) U ∧ (va_AO RX1 U ∧ va_AO RX0 U) ∧ U.heap.size = h.1 ∧ X.1 ≤ h.1)
def I_Qc (D : va_G) (T : Nat → ClassId) (X : I_X) (r : Option Value) (h : I_H) : Array Value → State → Outcome → State → Prop := fun _ st o t => o = .returned r ∧ va_P D vwCl (I_ws T X.1 h) t.heap ∧ va_F (fun q => X.1 ≤ q) st t ∧ t.heap.size = h.1
theorem I_Pc_blind {D : va_G} {T : Nat → ClassId} {X : I_X} {vs : List Value} {h : I_H} : FrameBlind (I_Pc D T X vs h) := by
  intro a U g mk q
  obtain ⟨q0, q1, q2, q3, q4, q5⟩ := q
  exact ⟨q0, q1, va_K.moved (u := U) (U := U.calling g mk a) (Vm.Alike.refl U.vm) q2, ⟨va_AO.moved (u := U) (U := U.calling g mk a) (Vm.Alike.refl U.vm) q3.1, va_AO.moved (u := U) (U := U.calling g mk a) (Vm.Alike.refl U.vm) q3.2⟩, q4, q5⟩
theorem I_size_eq {D : va_G} {T : Nat → ClassId} {X : I_X} {s : State} {h : I_H} {H : Heap} {locs : List Loc} {cells : Nat} (hok : I_ok D T X s h H locs) (hlo : X.1 ≤ s.heap.size) (hsz : s.heap.size + cells = h.1) (hz : H.size ≤ s.heap.size + cells) : H.size = h.1 := by
  have h1 := hok.2.1.1
  have h2 := hok.2.2
  rcases Nat.lt_or_ge X.1 h.1 with hlt | hge
  · have e1 := I_ws_get (T := T) (lo := X.1) (a := h.1 - 1) (h := h) (by omega) (by omega)
    have e2 : h.1 - 1 < H.size := (hok.1 _ _ e1).lt
    omega
  · omega
theorem I_GoodIn (t : Nat) (ht : t < 113) : GoodIn I_wl (Cond.code (I_name t) (I_code t) (I_maxL t) (I_ret t) :: I_wl) := by
  intro w hw
  rcases List.mem_cons.mp hw with rfl | hw
  · exact ⟨f_in (f_code t ht) rfl, Or.inl rfl⟩
  · exact ⟨hw, (f_good w hw).2⟩
theorem I_slots_at {vs : List Value} : ∀ {k : Nat} {v : Value}, (I_slots vs)[k]? = some (some v) → (lg_sl vs)[k]? = some (.val v) := by
  induction vs with
  | nil => intro k v h; simp [I_slots] at h
  | cons x vs ih =>
    intro k v h
    by_cases hx : x.category = 2
    · have e1 : I_slots (x :: vs) = some x :: none :: I_slots vs := by simp [I_slots, hx]
      have e2 : lg_sl (x :: vs) = .val x :: .second :: lg_sl vs := by simp [lg_sl, hx]
      rw [e1] at h
      rw [e2]
      match k, h with
      | 0, h => simp at h; simp [h]
      | 1, h => simp at h
      | k + 2, h => simp at h ⊢; exact ih h
    · have e1 : I_slots (x :: vs) = some x :: I_slots vs := by simp [I_slots, hx]
      have e2 : lg_sl (x :: vs) = .val x :: lg_sl vs := by simp [lg_sl, hx]
      rw [e1] at h
      rw [e2]
      match k, h with
      | 0, h => simp at h; simp [h]
      | k + 1, h => simp at h ⊢; exact ih h
theorem I_slots_len (vs : List Value) : (lg_sl vs).length = (I_slots vs).length := by
  induction vs with
  | nil => rfl
  | cons x vs ih =>
    by_cases hx : x.category = 2
    · have e1 : I_slots (x :: vs) = some x :: none :: I_slots vs := by simp [I_slots, hx]
      have e2 : lg_sl (x :: vs) = .val x :: .second :: lg_sl vs := by simp [lg_sl, hx]
      rw [e1, e2]; simp [ih]
    · have e1 : I_slots (x :: vs) = some x :: I_slots vs := by simp [I_slots, hx]
      have e2 : lg_sl (x :: vs) = .val x :: lg_sl vs := by simp [lg_sl, hx]
      rw [e1, e2]; simp [ih]
theorem I_ent_ok {vs : List Value} {n : Nat} (hl : (I_slots vs).length ≤ n) : I_lok ((lg_sl vs ++ List.replicate (n - (lg_sl vs).length) Slot.unset).toArray) n (I_ent vs n) := by
  have h0 := lv_entry vs (n := n) (by rw [I_slots_len]; exact hl)
  refine ⟨by simp [I_ent]; omega, h0.1, h0.2.1, fun q hq => ?_⟩
  obtain ⟨k, v⟩ := q
  rw [I_al_mem, I_lv_iff] at hq
  unfold I_ent at hq
  by_cases hk : k < (I_slots vs).length
  · rw [List.getElem?_append_left hk] at hq
    have h2 := I_slots_at hq
    show ((lg_sl vs ++ List.replicate (n - (lg_sl vs).length) Slot.unset).toArray)[k]? = some (.val v)
    rw [List.getElem?_toArray, List.getElem?_append_left (by rw [I_slots_len]; exact hk)]
    exact h2
  · rw [List.getElem?_append_right (by omega)] at hq
    have := List.mem_of_getElem? hq
    rw [List.mem_replicate] at this
    cases this.2
section RUN
variable {p : Program} {l : Launch} {e : Env} {R : Room} {s : State} {m : MethodId} {args : Array Value} {below : List Frame} {meth : Method} {c : Code} {H : Heap} {locs : List Loc} {cells slots : Nat} {Q : State → Prop}
variable {D : va_G} {T : Nat → ClassId} {X : I_X} {y pc len : Nat} {L : I_L} {st : List Value} {h : I_H} {ls : Array Slot} {sl0 : Nat}
theorem I_callR {mc ms : Nat} {st0 rest : List Value} {r : Option Value} {h1 : I_H} {a : Array Value} (hr : va_Run p l e R s m args below meth c H locs cells slots mc ms (F0 m pc ls st0) rest (I_Qc D T X r h1 a) (fun q => X.1 ≤ q)) (hok : I_ok D T X s h H locs) (hlo : X.1 ≤ h1.1)
    (kk : ∀ (H1 : Heap) (locs1 : List Loc), I_ok D T X s h1 H1 locs1 → W p l e R s m args below meth c H1 locs1 (cells + mc) (slots + ms) Q (F0 m (pc + 3) ls (r.toList ++ rest))) : W p l e R s m args below meth c H locs cells slots Q (F0 m pc ls st0) := by
  intro U hU hX
  obtain ⟨v, st₀, t, U', LL, h0, X', hLL, e1, e2, ⟨hv, hP, ⟨hz, hk⟩, hsz⟩, stp⟩ := hr U hU hX
  cases hv
  rw [h0] at hz hk
  have hS := hok.2.1
  obtain ⟨t2, a1, b1⟩ := kk U'.heap (locs ++ LL) ⟨by rw [e1]; exact hP, ⟨Nat.le_trans hS.1 (by rw [e1]; exact hz), fun q q1 q2 => by rw [e1, hk q (Nat.lt_of_lt_of_le q1 hS.1) q2]; exact hS.2.1 q q1 q2, fun q hq => by
      rcases List.mem_append.mp hq with z | z
      · exact hS.2.2 q z
      · exact hLL q z⟩, hlo⟩ U' rfl X'
  exact ⟨t2, stp t2 a1, b1⟩
def I_end (p : Program) (l : Launch) (e : Env) (R : Room) (s : State) (m : MethodId) (args : Array Value) (below : List Frame) (meth : Method) (c : Code) (Q : State → Prop) (D : va_G) (T : Nat → ClassId) (X : I_X) (y sl0 : Nat) (r : I_R) : Prop :=
  ∀ (pc len : Nat) (i : Instr) (st : List Value) (ls : Array Slot) (H : Heap) (locs : List Loc) (cells slots : Nat), decode (I_code y) pc = .ok (i, len) → I_lk i len = true → I_back y i st = some r.1 → I_ok D T X s r.2 H locs → s.heap.size + cells = r.2.1 → sl0 + slots = r.2.2.1 → W p l e R s m args below meth c H locs cells slots Q (F0 m pc ls st)
/-- what a run of n steps says -/
def I_snd (n : Nat) (D : va_G) (T : Nat → ClassId) (X : I_X) : Prop := ∀ (d y pc : Nat) (L : I_L) (st : List Value) (h : I_H) (r : I_R), I_run n X d y pc L st h = some r →
  ∀ {p : Program} {l : Launch} {e : Env} {R : Room} {s : State} {m : MethodId} {args : Array Value} {below : List Frame} {meth : Method} {c : Code} {H : Heap} {locs : List Loc} {cells slots : Nat} {Q : State → Prop} {ls : Array Slot} {sl0 : Nat}, I_cx D T X y p s m args meth c → X.1 ≤ s.heap.size → d + 1 ≤ R.frames → 40 * (d + 1) ≤ R.locals → I_lok ls (I_maxL y) L → I_ok D T X s h H locs → s.heap.size + cells = h.1 → sl0 + slots = h.2.1 → r.2.1 ≤ s.heap.size + R.cells → r.2.2.1 ≤ sl0 + R.slots → I_end p l e R s m args below meth c Q D T X y sl0 r → W p l e R s m args below meth c H locs cells slots Q (F0 m pc ls st)
theorem I_back_end {rv : Option Value} {h1 : I_H} (C : I_cx D T X y p s m args meth c) (hlo : X.1 ≤ s.heap.size) (hret : meth.sig.returnType = I_ret y) (hlocks : meth.locks = false) (h0 : I_H) (hs0 : s.heap.size = h0.1) : I_end p l e R s m args below meth c (MQ below (I_Qc D T X rv h1) args s (h1.1 - h0.1) (h1.2.1 - h0.2.1) (fun q => X.1 ≤ q)) D T X y h0.2.1 (rv, h1) := by
  intro pc len i st ls H locs cells slots hdec hlk hbk hok hsz hsl
  obtain ⟨hx, hb, hml, hown, hts, hK, hAO, hin, hscr⟩ := C
  have e1 : h1.1 - h0.1 = cells := by
    have hsz2 : s.heap.size + cells = h1.1 := hsz
    omega
  have e2 : h1.2.1 - h0.2.1 = slots := by
    have hsl2 : h0.2.1 + slots = h1.2.1 := hsl
    omega
  rw [e1, e2]
  refine I_Wsize fun hz => ?_
  have hH := I_size_eq hok hlo hsz hz
  have fin : ∀ t : State, t.heap = H → s.WarmedH t.vm → I_Qc D T X rv h1 args s (.returned rv) t := fun t ht _ => ⟨rfl, by rw [ht]; exact hok.1, hok.2.1.F ht, by rw [ht]; exact hH⟩
  have hf : ∀ q ∈ locs, X.1 ≤ q.base := hok.2.1.2.2
  unfold I_back at hbk
  split at hbk
  · simp only [I_lk, beq_iff_eq] at hlk
    subst hlk
    split at hbk
    · rename_i v
      split at hbk
      · rename_i hc
        cases hbk
        rcases hc with hc | ⟨hc, hv⟩
        · rw [hc] at hret
          exact W.zret hx hb hret rfl fin hf hdec hlocks
        · rw [hc] at hret
          exact W.zret hx hb hret (by rcases hv with rfl | rfl <;> decide) fin hf hdec hlocks
      · cases hbk
    · cases hbk
  · simp only [I_lk, beq_iff_eq] at hlk
    subst hlk
    split at hbk
    · rename_i v
      split at hbk
      · rename_i hc
        cases hbk
        rw [hc] at hret
        exact W.dret hx hb hret fin hf hdec hlocks
      · cases hbk
    · cases hbk
  · simp only [I_lk, beq_iff_eq] at hlk
    subst hlk
    split at hbk
    · split at hbk
      · rename_i hc
        cases hbk
        rw [hc] at hret
        exact W.vret hx hb hret fin hf hdec hlocks
      · cases hbk
    · cases hbk
  · cases hbk
theorem I_met {n d t : Nat} {vs : List Value} {h h1 : I_H} {rv : Option Value} (ih : I_snd n D T X) (ht : t < 113) (e1 : I_run n X d t 0 (I_ent vs (I_maxL t)) [] h = some (rv, h1)) (hl : (I_slots vs).length ≤ I_maxL t) : Met l (I_name t) (Cond.code (I_name t) (I_code t) (I_maxL t) (I_ret t) :: I_wl) ({ frames := d + 1, cells := h1.1 - h.1, slots := h1.2.1 - h.2.1, locals := 40 * (d + 1) }) (I_Pc D T X vs h) (I_Qc D T X rv h1) (h1.1 - h.1) (h1.2.1 - h.2.1) (fun q => X.1 ≤ q) := by
  obtain ⟨g1, g2⟩ := I_run_grow _ _ _ _ _ _ _ _ e1
  have g1 : h.1 ≤ h1.1 := g1
  have g2 : h.2.1 ≤ h1.2.1 := g2
  refine Met.ofW (cc := I_code t) (maxL := I_maxL t) (ret := I_ret t) (f_mi t ht).2.1 rfl ?_
  intro p e s m args below meth c s₁ B hml hv
  obtain ⟨rfl, hP, hK, hAO, hsz, hlo⟩ := hv
  have hts0 := atoms_spec (ws := Cond.code (I_name t) (I_code t) (I_maxL t) (I_ret t) :: I_wl) B.pre
  have hown : s.vm.findClass (I_name t).cls = some m.cls := findClass_of_methodNamed B.named
  rw [(f_mi t ht).2.2.2.2.2.2.1] at hown
  have C : I_cx D T X t p s m vs.toArray meth c := ⟨B.exec, B.bytes, hml, hown, fun w hw => hts0 w (List.mem_cons_of_mem _ hw), hK, hAO, fun hi => by
    have := (name_of_methodNamed B.named B.method).1
    rw [this]
    unfold I_init at hi
    exact beq_iff_eq.mp hi, fun ho => absurd ho (by have := (f_mi t ht).2.2.2.2.2.2.2; omega)⟩
  have hlo2 : X.1 ≤ s.heap.size := by omega
  rw [lg_entry_eq]
  refine ih d t 0 _ _ h (rv, h1) e1 (sl0 := h.2.1) C hlo2 (Nat.le_refl _) (Nat.le_refl _) (I_ent_ok hl) ⟨hP, va_S.rf, hlo⟩ (by omega) rfl ?_ ?_ (I_back_end C hlo2 B.returns B.notSynchronized h hsz)
  · show h1.1 ≤ s.heap.size + (h1.1 - h.1)
    omega
  · show h1.2.1 ≤ h.2.1 + (h1.2.1 - h.2.1)
    omega
end RUN
