section RUN2
variable {p : Program} {l : Launch} {e : Env} {R : Room} {s : State} {m : MethodId} {args : Array Value} {below : List Frame} {meth : Method} {c : Code} {H : Heap} {locs : List Loc} {cells slots : Nat} {Q : State → Prop}
variable {D : va_G} {T : Nat → ClassId} {X : I_X} {y pc len : Nat} {L : I_L} {st : List Value} {h : I_H} {ls : Array Slot} {sl0 : Nat}
theorem I_cB {idx t d mc ms : Nat} {rm : Room} (C : I_cx D T X y p s m args meth c) (hk : I_look I_ml (I_own y) idx = some t) (ht : t < 113) (hrc : rm.cells = mc) (hrs : rm.slots = ms) (hrf : rm.frames = d + 1) (hrl : rm.locals = 40 * (d + 1)) (hf : d + 1 + 1 ≤ R.frames) (hl : 40 * (d + 1 + 1) ≤ R.locals) :
    CallB R s args (I_cn (I_own y)) idx (I_name t) (I_code t) (I_maxL t) (I_ret t) (Cond.code (I_name t) (I_code t) (I_maxL t) (I_ret t) :: I_wl) rm mc ms (I_np t) := by
  obtain ⟨hx, hb, hml, hown, hts, hK, hAO, hin, hscr⟩ := C
  obtain ⟨a1, a2, a3, a4, a5, a6, a7, a8⟩ := f_mi t ht
  have hlink := hts _ (f_in (f_ml _ (I_look_mem hk)).2 rfl)
  have e1 : I_sp t = I_name t := by unfold I_sp; rw [if_pos (by omega)]
  rw [show (I_own y, idx, t).2.2 = t from rfl, e1] at hlink
  refine callB_of (I_np t) hts (I_GoodIn t ht) rfl hrc hrs (hts _ (f_in a1 rfl)) hlink ⟨a3, a4, a5⟩ ⟨by omega, by omega⟩
theorem I_PreP {vs : List Value} {U : State} (C : I_cx D T X y p s m args meth c) (hok : I_ok D T X s h H locs) (hH : H.size = h.1) (hU : U.heap = H) (hW : s.WarmedH U.vm) : I_Pc D T X vs h vs.toArray U := by
  obtain ⟨hx, hb, hml, hown, hts, hK, hAO, hin, hscr⟩ := C
  exact ⟨rfl, by rw [hU]; exact hok.1, va_K.moved hW.alike hK, ⟨va_AO.moved hW.alike hAO.1, va_AO.moved hW.alike hAO.2⟩, by rw [hU]; exact hH, hok.2.2⟩
set_option maxHeartbeats 2000000 in
theorem I_call_sound {n d t : Nat} {i : Instr} {as rest : List Value} {rv : Option Value} {h1 : I_H} (ih : I_snd n D T X) (C : I_cx D T X y p s m args meth c) (hlo : X.1 ≤ s.heap.size) (hfr : d + 1 + 1 ≤ R.frames) (hlc : 40 * (d + 1 + 1) ≤ R.locals) (hdec : decode (I_code y) pc = .ok (i, len)) (hlk : I_lk i len = true) (hc : I_call X y i st h = some (t, as, rest)) (e1 : I_run n X d t 0 (I_ent as (I_maxL t)) [] h = some (rv, h1)) (hl : (I_slots as).length ≤ I_maxL t) (hL : I_lok ls (I_maxL y) L) (hok : I_ok D T X s h H locs) (hsz : s.heap.size + cells = h.1) (hsl : sl0 + slots = h.2.1) (hr1 : h1.1 ≤ s.heap.size + R.cells) (hr2 : h1.2.1 ≤ sl0 + R.slots)
    (kk : I_kk p l e R s m args below meth c Q D T X y sl0 (pc + 3, L, rv.toList ++ rest, h1)) : W p l e R s m args below meth c H locs cells slots Q (F0 m pc ls st) := by
  obtain ⟨g1, g2⟩ := I_run_grow _ _ _ _ _ _ _ _ e1
  have g1 : h.1 ≤ h1.1 := g1
  have g2 : h.2.1 ≤ h1.2.1 := g2
  refine I_Wsize fun hz => ?_
  have hH := I_size_eq hok hlo hsz hz
  have C1 := C
  obtain ⟨hx, hb, hml, hown, hts, hK, hAO, hin, hscr⟩ := C
  have hfit : cells + (h1.1 - h.1) ≤ R.cells ∧ slots + (h1.2.1 - h.2.1) ≤ R.slots := ⟨by omega, by omega⟩
  have fin : ∀ (H1 : Heap) (locs1 : List Loc), I_ok D T X s h1 H1 locs1 → W p l e R s m args below meth c H1 locs1 (cells + (h1.1 - h.1)) (slots + (h1.2.1 - h.2.1)) Q (F0 m (pc + 3) ls (rv.toList ++ rest)) := fun H1 locs1 hok1 => kk ls H1 locs1 _ _ hL hok1 (by show s.heap.size + (cells + (h1.1 - h.1)) = h1.1; omega) (by show sl0 + (slots + (h1.2.1 - h.2.1)) = h1.2.1; omega)
  have hlo1 : X.1 ≤ h1.1 := Nat.le_trans hok.2.2 g1
  have hroom : ∀ rest : List Value, I_cat rest ≤ 8 → 2 * (F0 m pc ls st).monitorRoom + (rest.map fun v => v.category).sum ≤ 8 := fun rest hq => lv_room (by rw [I_cat_sum]; exact hq)
  unfold I_call at hc
  split at hc
  · rename_i idx
    simp only [I_lk, beq_iff_eq] at hlk
    subst hlk
    split at hc
    · rename_i t1 hk
      split at hc
      · rename_i ht1
        split at hc
        · rename_i b rest1 hdrop
          split at hc
          · rename_i hq
            cases hc
            obtain ⟨q1, q2, q3, q4⟩ := hq
            have ht : t < 113 := by rcases (f_ml _ (I_look_mem hk)).1 with z | z; exact z; simp only at z; omega
            obtain ⟨k1, k2, k3⟩ := f_k0 t ht q1
            obtain ⟨fs, hbt⟩ := I_isC_at hok q3
            have hmet := I_met (l := l) ih ht e1 hl
            have hrecv := va_recv hK hok.1 (f_cl4 (I_own t) k3) hbt
            have hst : st = (st.take (I_np t)).reverse.reverse ++ Value.ref b :: rest := by rw [List.reverse_reverse, ← hdrop, List.take_append_drop]
            have hn : ((st.take (I_np t)).reverse).length = I_np t := by rw [List.length_reverse, List.length_take]; omega
            refine I_callR (va_runV (C := I_cn (I_own t)) (As := (st.take (I_np t)).reverse) (rest := rest) ⟨hx, hb, hml, hown, hts⟩ hmet ⟨I_cB (d := d) C1 hk ht rfl rfl rfl rfl hfr hlc, hts _ (f_in k1 rfl), by rw [← (f_mi t ht).2.2.2.2.2.2.1]; exact hts _ (f_in k2 rfl)⟩ ⟨I_Pc_blind, hrecv, fun U hU hW => I_PreP C1 hok hH hU hW⟩ rfl hn hL.2.1 hst (hroom _ q4) hdec hfit) hok hlo1 fin
          · cases hc
        · cases hc
      · cases hc
    · cases hc
  · rename_i idx
    simp only [I_lk, beq_iff_eq] at hlk
    subst hlk
    split at hc
    · rename_i t1 hk
      split at hc
      · rename_i ht1
        split at hc
        · rename_i b rest1 hdrop
          split at hc
          · rename_i hq
            cases hc
            obtain ⟨q1, q2, q4⟩ := hq
            have ht : t < 113 := by rcases (f_ml _ (I_look_mem hk)).1 with z | z; exact z; simp only at z; omega
            obtain ⟨k1, k2, k3⟩ := f_k2 t ht q1
            have hmet := I_met (l := l) ih ht e1 hl
            have hcb := I_cB (R := R) (d := d) (rm := { frames := d + 1, cells := h1.1 - h.1, slots := h1.2.1 - h.2.1, locals := 40 * (d + 1) }) C1 hk ht rfl rfl rfl rfl hfr hlc
            rw [k3] at hmet hcb
            have hst : st = (st.take (I_np t)).reverse.reverse ++ Value.ref b :: rest := by rw [List.reverse_reverse, ← hdrop, List.take_append_drop]
            have hn : ((st.take (I_np t)).reverse).length = I_np t := by rw [List.length_reverse, List.length_take]; omega
            refine I_callR (va_runI (As := (st.take (I_np t)).reverse) (rest := rest) (b := b) ⟨hx, hb, hml, hown, hts⟩ hmet ⟨hcb, k2, hts _ (f_in k1 rfl)⟩ ⟨I_Pc_blind, fun U hU hW => I_PreP C1 hok hH hU hW⟩ rfl hn hL.2.1 hst (hroom _ q4) hdec hfit) hok hlo1 fin
          · cases hc
        · cases hc
      · cases hc
    · cases hc
  · rename_i idx
    simp only [I_lk, beq_iff_eq] at hlk
    subst hlk
    split at hc
    · rename_i t1 hk
      split at hc
      · rename_i ht1
        split at hc
        · rename_i hq
          cases hc
          obtain ⟨q1, q2, q4⟩ := hq
          have ht : t < 113 := by rcases (f_ml _ (I_look_mem hk)).1 with z | z; exact z; simp only at z; omega
          have k1 := f_k1 t ht q1
          have hmet := I_met (l := l) ih ht e1 hl
          have hst : st = (st.take (I_np t)).reverse.reverse ++ st.drop (I_np t) := by rw [List.reverse_reverse, List.take_append_drop]
          have hn : ((st.take (I_np t)).reverse).length = I_np t := by rw [List.length_reverse, List.length_take]; omega
          refine I_callR (va_runS (As := (st.take (I_np t)).reverse) (rest := st.drop (I_np t)) ⟨hx, hb, hml, hown, hts⟩ hmet ⟨I_cB (d := d) C1 hk ht rfl rfl rfl rfl hfr hlc, hts _ (f_in k1 rfl)⟩ ⟨I_Pc_blind, fun U hU hW => I_PreP C1 hok hH hU hW⟩ rfl hn hL.2.1 hst (hroom _ q4) hdec hfit) hok hlo1 fin
        · cases hc
      · cases hc
    · cases hc
  · cases hc
theorem I_sound : ∀ n, I_snd n D T X := by
  intro n
  induction n with
  | zero => intro d y pc L st h r hrun; simp [I_run] at hrun
  | succ n ih =>
    intro d y pc L st h r hrun p l e R s m args below meth c H locs cells slots Q ls sl0 C hlo hfr hlc hL hok hsz hsl hr1 hr2 hend
    rw [I_run] at hrun
    split at hrun
    · cases hrun
    · rename_i i len hdec
      split at hrun
      · rename_i hlk
        split at hrun
        · rename_i q hq
          cases d with
          | zero => cases hrun
          | succ d' =>
            simp only at hrun
            split at hrun
            · rename_i hl
              cases h1 : I_run n X d' q.1 0 (I_ent q.2.1 (I_maxL q.1)) [] h with
              | none => rw [h1] at hrun; simp at hrun
              | some r1 =>
                rw [h1] at hrun
                simp only [Option.bind_some] at hrun
                obtain ⟨t, as, rest⟩ := q
                obtain ⟨rv, hh⟩ := r1
                have g := I_run_grow _ _ _ _ _ _ _ _ hrun
                refine I_call_sound ih C hlo hfr hlc hdec hlk hq h1 hl hL hok hsz hsl (Nat.le_trans g.1 hr1) (Nat.le_trans g.2 hr2) ?_
                intro ls1 H1 locs1 cells1 slots1 hL1 hok1 hsz1 hsl1
                exact ih _ _ _ _ _ _ _ hrun C hlo hfr hlc hL1 hok1 hsz1 hsl1 hr1 hr2 hend
            · cases hrun
        · rename_i hcn
          split at hrun
          · rename_i rv hb
            cases hrun
            exact hend _ _ _ _ _ _ _ _ _ hdec hlk hb hok hsz hsl
          · cases h1 : I_step X y i pc len L st h with
            | none => rw [h1] at hrun; simp at hrun
            | some k =>
              rw [h1] at hrun
              simp only [Option.bind_some] at hrun
              have g := I_run_grow _ _ _ _ _ _ _ _ hrun
              have g0 := I_step_grow h1
              refine I_step_sound C hlo ⟨by omega, by omega⟩ hdec hlk h1 hL hok hsz hsl ⟨Nat.le_trans g.1 hr1, Nat.le_trans g.2 hr2, ?_, ?_⟩ ?_
              · have a1 := Nat.le_trans g0.1 (Nat.le_trans g.1 hr1); omega
              · have a1 := Nat.le_trans g0.2 (Nat.le_trans g.2 hr2); omega
              intro ls1 H1 locs1 cells1 slots1 hL1 hok1 hsz1 hsl1
              exact ih _ _ _ _ _ _ _ hrun C hlo hfr hlc hL1 hok1 hsz1 hsl1 hr1 hr2 hend
      · cases hrun
end RUN2
