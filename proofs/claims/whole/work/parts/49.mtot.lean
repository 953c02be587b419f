/-! The reference's total. -/
section MT
variable {X : I_X} {S A : St} {nu : Nat → Nat} {D d dd t r i j n m p q z g de b e N f : Nat} {a c en jd v s : Int32} {pl pa st fo eb op st2 fo2 eb2 : Nat → Int32} {E rk E2 rk2 : Nat → Nat}
/-- the part of table q before position p is gone through: de entered in it, s its sum -/
def PI (A : St) (st fo : Nat → Int32) (E : Nat → Nat) (q p de : Nat) (s : Int32) : Prop := (∀ p', p' < p → ∀ y, lk A q p' = some y → st y = 2) ∧ ∀ G : Nat → Nat → tR, (∀ z, st z = 2 → G z = GD E fo z) → ∀ e, e < 1000 → eqv (totW A G q (16 * A.2.1 1 q) 0 (e + 1) 0) (if e + de ≤ 1000 then totW A G q (16 * A.2.1 1 q - p) p (e + de) s else (6, 1000, 0))
theorem PI_0 : PI A st fo E q 0 1 0 := ⟨fun p' h => by omega, fun G _ e he => by rw [if_pos (by omega), Nat.sub_zero]; exact eqv.refl _⟩
theorem PI_num (h : PI A st fo E q p de s) (hp : p < 16 * A.2.1 1 q) (g1 : A.2.2.1 q (p / 16) = some r) (hl : lk A q p = none) : PI A st fo E q (p + 1) de (s + nmv A q p) := by
  refine ⟨fun p' h1 y h2 => ?_, fun G hG e he => ?_⟩
  · by_cases c : p' = p
    · rw [c, hl] at h2; cases h2
    · exact h.1 p' (by omega) y h2
  · have h2 := h.2 G hG e he
    rw [show 16 * A.2.1 1 q - p = (16 * A.2.1 1 q - (p + 1)) + 1 by omega, totW_s, stW_0 g1 hl] at h2
    exact h2
theorem PI_lnk (h : PI A st fo E q p de s) (hp : p < 16 * A.2.1 1 q) (hl : lk A q p = some z) (hz : st z = 2) : PI A st fo E q (p + 1) (de + E z) (s + fo z) := by
  refine ⟨fun p' h1 y h2 => ?_, fun G hG e he => ?_⟩
  · by_cases c : p' = p
    · rw [c, hl] at h2; cases h2; exact hz
    · exact h.1 p' (by omega) y h2
  · obtain ⟨r, g1, _⟩ := lk_row hl
    have h2 := h.2 G hG e he
    rw [show 16 * A.2.1 1 q - p = (16 * A.2.1 1 q - (p + 1)) + 1 by omega, totW_s, stW_l g1 hl, hG z hz] at h2
    refine eqv.trans h2 ?_
    by_cases c : e + de ≤ 1000
    · rw [if_pos c]
      by_cases c2 : e + de + E z ≤ 1000
      · rw [if_pos (show e + (de + E z) ≤ 1000 by omega), GD_y c2]
        show eqv (if (0 : Int32) = 0 then totW A G q _ _ (e + de + E z) _ else _) _
        rw [if_pos rfl, Nat.add_assoc]
        exact eqv.refl _
      · rw [if_neg (show ¬ e + (de + E z) ≤ 1000 by omega), GD_n c2]
        show eqv (if (6 : Int32) = 0 then _ else (6, 1000, s + 0)) _
        rw [if_neg (by decide)]
        exact ⟨rfl, rfl, fun q => absurd q i60⟩
    · rw [if_neg c, if_neg (show ¬ e + (de + E z) ≤ 1000 by omega)]
      exact eqv.refl _
theorem PI_ext (hx : ∀ y, st y = 2 → st2 y = 2 ∧ fo2 y = fo y ∧ E2 y = E y) (h : PI A st fo E q p de s) : PI A st2 fo2 E2 q p de s := by
  refine ⟨fun p' h1 y h2 => (hx y (h.1 p' h1 y h2)).1, fun G hG e he => h.2 G (fun z hz => ?_) e he⟩
  obtain ⟨x1, x2, x3⟩ := hx z hz
  rw [hG z x1]
  funext e'
  unfold GD
  rw [x2, x3]
theorem TI_ext (h : TI A st fo eb E rk N) (hx : ∀ y, st y = 2 → st2 y = 2 ∧ fo2 y = fo y ∧ eb2 y = eb y ∧ E2 y = E y ∧ rk2 y = rk y) (hn : ∀ y, st2 y = 2 → st y = 2) : TI A st2 fo2 eb2 E2 rk2 N := by
  intro z hz hs
  have hs1 := hn z hs
  obtain ⟨x1, x2, x3, x4, x5⟩ := hx z hs1
  obtain ⟨t1, t2, t3, t4, t5, t6⟩ := h z hz hs1
  refine ⟨by omega, by omega, by omega, by rw [x3, x4]; exact t4, fun p hp y hy => ?_, fun G hG e he => ?_⟩
  · obtain ⟨u1, u2⟩ := t5 p hp y hy
    obtain ⟨y1, _, _, _, y5⟩ := hx y u1
    exact ⟨y1, by omega⟩
  · have e1 : GD E2 fo2 z e = GD E fo z e := by unfold GD; rw [x2, x4]
    rw [e1]
    refine t6 G (fun y hy => ?_) e he
    obtain ⟨y1, y2, _, y4, _⟩ := hx y hy
    rw [hG y y1]
    funext e'
    unfold GD
    rw [y2, y4]
def upN (f : Nat → Nat) (q v : Nat) : Nat → Nat := fun z => if z = q then v else f z
theorem upN_s : upN E q n q = n := if_pos rfl
theorem upN_n (h : z ≠ q) : upN E q n z = E z := if_neg h
theorem TI_new (hW : WB A) (hL : lnkOK A) (h : TI A st fo eb E rk N) (hP : PI A st fo E q (16 * A.2.1 1 q) de (fo q)) (hq : ¬ st q = 2) (h1 : 1 ≤ de) (h2 : de ≤ 1000) (hv : v = nI de) : TI A (upd st q 2) fo (upd eb q v) (upN E q de) (upN rk q N) (N + 1) := by
  have hx : ∀ y, st y = 2 → upd st q 2 y = 2 ∧ fo y = fo y ∧ upd eb q v y = eb y ∧ upN E q de y = E y ∧ upN rk q N y = rk y := fun y hy => by
    have hn : y ≠ q := fun z => hq (z ▸ hy)
    exact ⟨by rw [pk_un hn]; exact hy, rfl, pk_un hn, upN_n hn, upN_n hn⟩
  intro z hz hs
  by_cases c : z = q
  · subst c
    refine ⟨by rw [upN_s]; omega, by rw [upN_s]; exact h1, by rw [upN_s]; exact h2, by rw [pk_us, upN_s]; exact hv, fun p hp y hy => ?_, fun G hG e he => ?_⟩
    · have hy2 := hP.1 p hp y hy
      have hn : y ≠ z := fun w => hq (w ▸ hy2)
      obtain ⟨r, _⟩ := lk_row hy
      rw [pk_un hn, upN_s, upN_n hn]
      refine ⟨hy2, ?_⟩
      by_cases hyt : y < A.2.1 0 0
      · exact (h y hyt hy2).1
      · obtain ⟨_, _, _, _, h9, _⟩ := lk_tab hW hL hz hp hy
        exact absurd h9 hyt
    · have := hP.2 G (fun y hy => ?_) e he
      · refine eqv.trans this ?_
        unfold GD
        rw [upN_s, Nat.sub_self]
        exact eqv.refl _
      · obtain ⟨x1, _, _, x4, _⟩ := hx y hy
        rw [hG y x1]
        funext e'
        unfold GD
        rw [x4]
  · rw [pk_un c] at hs
    obtain ⟨x1, x2, x3, x4, x5⟩ := hx z hs
    obtain ⟨t1, t2, t3, t4, t5, t6⟩ := h z hz hs
    refine ⟨by omega, by omega, by omega, by rw [x3, x4]; exact t4, fun p hp y hy => ?_, fun G hG e he => ?_⟩
    · obtain ⟨u1, u2⟩ := t5 p hp y hy
      obtain ⟨y1, _, _, _, y5⟩ := hx y u1
      exact ⟨y1, by omega⟩
    · have e1 : GD (upN E q de) fo z e = GD E fo z e := by unfold GD; rw [x4]
      rw [e1]
      refine t6 G (fun y hy => ?_) e he
      obtain ⟨y1, _, _, y4, _⟩ := hx y hy
      rw [hG y y1]
      funext e'
      unfold GD
      rw [y4]
/-- from the finding of q on: what was known stays -/
def XT (q : Nat) (st fo eb : Nat → Int32) (E rk : Nat → Nat) (st2 fo2 eb2 : Nat → Int32) (E2 rk2 : Nat → Nat) : Prop := (∀ z, ¬ st z = 0 → z ≠ q → st2 z = st z ∧ fo2 z = fo z ∧ eb2 z = eb z ∧ E2 z = E z ∧ rk2 z = rk z) ∧ ∀ z, st z = 0 → st2 z = 0 ∨ st2 z = 2
/-- what find comes to from state T -/
def RES (X : I_X) (S A : St) (t D : Nat) (Q : tR) (q dd b : Nat) (pl pa st fo eb : Nat → Int32) (E rk : Nat → Nat) (T : St) : Prop :=
  (Q.1 = 0 → ∃ l4 pl2 pa2 st2 fo2 eb2 E2 rk2 N2, FG X (D + 1) t dd 0 q T (ev X (D + 2) m_X3_find 45 [some (va_rf (some (aM X))), some (.int (nI t)), some (.int 0), some (.int (nI dd + -1)), l4] [] (rp X (fS S pl2 pa2 st2 fo2 eb2 0 (nI Q.2.1) (nI q)))) ∧ (∀ z, z < dd → pl2 z = pl z ∧ pa2 z = pa z) ∧ XT q st fo eb E rk st2 fo2 eb2 E2 rk2 ∧ st2 q = 2 ∧ fo2 q = Q.2.2 ∧ Q.2.1 = b + E2 q ∧ TI A st2 fo2 eb2 E2 rk2 N2) ∧
  (¬ Q.1 = 0 → ∃ l3 l4 pl2 pa2 st2 fo2 eb2 jd2, FG X (D + 1) t dd 0 q T (ev X (D + 2) m_X3_find 139 [some (va_rf (some (aM X))), some (.int (nI t)), some (.int 0), l3, l4] [] (rp X (fS S pl2 pa2 st2 fo2 eb2 Q.1 (nI Q.2.1) jd2))))
theorem RES_eqv {Q Q2 : tR} {T : St} (h : eqv Q Q2) (h2 : RES X S A t D Q2 q dd b pl pa st fo eb E rk T) : RES X S A t D Q q dd b pl pa st fo eb E rk T := by
  obtain ⟨q1, q2, q3⟩ := h
  refine ⟨fun hc => ?_, fun hc => ?_⟩
  · obtain ⟨l4, pl2, pa2, st2, fo2, eb2, E2, rk2, N2, f1, f2, f3, f4, f5, f6, f7⟩ := h2.1 (q1 ▸ hc)
    exact ⟨l4, pl2, pa2, st2, fo2, eb2, E2, rk2, N2, q2 ▸ f1, f2, f3, f4, (q3 hc) ▸ f5, q2 ▸ f6, f7⟩
  · obtain ⟨l3, l4, pl2, pa2, st2, fo2, eb2, jd2, f1⟩ := h2.2 (q1 ▸ hc)
    exact ⟨l3, l4, pl2, pa2, st2, fo2, eb2, jd2, q2 ▸ q1 ▸ f1⟩
theorem RES_step {Q : tR} {T T1 : St} {pa1 fo1 : Nat → Int32} (h : ∀ a T2, GO X (D + 1) dd 0 q T1 a T2 → GO X (D + 1) dd 0 q T a T2) (hpa : ∀ z, z < dd → pa1 z = pa z) (hfo : ∀ z, z ≠ q → fo1 z = fo z) (h2 : RES X S A t D Q q dd b pl pa1 st fo1 eb E rk T1) : RES X S A t D Q q dd b pl pa st fo eb E rk T := by
  refine ⟨fun hc => ?_, fun hc => ?_⟩
  · obtain ⟨l4, pl2, pa2, st2, fo2, eb2, E2, rk2, N2, f1, f2, f3, f4, f5, f6, f7⟩ := h2.1 hc
    refine ⟨l4, pl2, pa2, st2, fo2, eb2, E2, rk2, N2, fg_step h f1, fun z hz => ⟨(f2 z hz).1, by rw [(f2 z hz).2, hpa z hz]⟩, ⟨fun z h1 h2 => ?_, f3.2⟩, f4, f5, f6, f7⟩
    obtain ⟨x1, x2, x3⟩ := f3.1 z h1 h2
    exact ⟨x1, by rw [x2, hfo z h2], x3⟩
  · obtain ⟨l3, l4, pl2, pa2, st2, fo2, eb2, jd2, f1⟩ := h2.2 hc
    exact ⟨l3, l4, pl2, pa2, st2, fo2, eb2, jd2, fg_step h f1⟩
theorem RES_fail {Q : tR} {pa2 fo2 : Nat → Int32} {jd2 : Int32} (hd : dd < 17) (hq : pl dd = nI q) (hc : ¬ Q.1 = 0) (hg : GO X (D + 1) dd 0 q (fS S pl pa st fo eb 0 en jd) (-1) (fS S pl pa2 st fo2 eb Q.1 (nI Q.2.1) jd2)) : RES X S A t D Q q dd b pl pa st fo eb E rk (fS S pl pa st fo eb 0 en jd) :=
  ⟨fun h => absurd h hc, fun _ => ⟨_, _, _, _, _, _, _, _, fr_cause hd hq hc hg⟩⟩
theorem i50 : ¬ (5 : Int32) = 0 := by decide
theorem totT_ring (h : ¬ op z = 0) : totT A f op z e = (5, e, 0) := by
  cases f with
  | zero => rfl
  | succ f => exact if_neg h
/-- the finding of an entered table, f levels left -/
def MTc (X : I_X) (S A : St) (t D : Nat) (f : Nat) : Prop := ∀ (op : Nat → Int32) (m q dd p de b e N : Nat) (pl pa st fo eb : Nat → Int32) (E rk : Nat → Nat), f + cnt op 16 = 16 → q < A.2.1 0 0 → (∀ z, z < A.2.1 0 0 → (¬ op z = 0 ↔ st z = 1) ∧ (st z = 0 ∨ st z = 1 ∨ st z = 2)) → st q = 1 → dd + 1 + f = 16 → pl dd = nI q → pa dd = nI p → p + m = 16 * A.2.1 1 q → TI A st fo eb E rk N → PI A st fo E q p de (fo q) → 1 ≤ de → e = b + de → e ≤ 1000 → eb q = nI b → RES X S A t D (totW A (totT A f op) q m p e (fo q)) q dd b pl pa st fo eb E rk (fS S pl pa st fo eb 0 (nI e) (-1))
theorem nI_m (n : Nat) : nI (n + 1) + -1 = nI n := by
  have h := nI_pred n
  rw [← h, Int32.sub_eq_add_neg]
theorem i_1000 (h : e ≤ 1000) : nI e ≤ 1000 := nI_le (b := 1000) h (by omega)
theorem mt_step (hW : WB A) (hK : KD A) (hL : lnkOK A) (hs : Sim S A nu) (hf : ∀ f2, f = f2 + 1 → MTc X S A t D f2) : MTc X S A t D f := by
  have h16 := hW.1
  intro op m
  induction m with
  | zero =>
    intro q dd p de b e N pl pa st fo eb E rk hc hq ho hsq hdf hpl hpa hpm hT hP hde hed he heb
    have hp : p = 16 * A.2.1 1 q := by omega
    subst hp
    have hd : dd < 17 := by omega
    have hq16 : q < 16 := by omega
    have v1 := hs.tv hW hq
    refine ⟨fun _ => ?_, fun h => absurd rfl h⟩
    have ev : nI e - eb q = nI de := by rw [heb, hed]; rw [show nI (b + de) - nI b = nI (b + de - b) from pk_sub (by omega), show b + de - b = de by omega]
    refine ⟨_, pl, pa, upd st q 2, fo, upd eb q (nI e - eb q), upN E q de, upN rk q N, N + 1, fr_end hd hpl hq16 (go_end hd v1 hpa), fun z _ => ⟨rfl, rfl⟩, ⟨fun z h1 h2 => ⟨pk_un h2, rfl, pk_un h2, upN_n h2, upN_n h2⟩, fun z h1 => ?_⟩, pk_us, rfl, ?_, TI_new hW hL hT hP (by rw [hsq]; decide) hde (by omega) ev⟩
    · left
      rw [pk_un (fun w => by rw [w, hsq] at h1; exact absurd h1 (by decide))]
      exact h1
    · rw [upN_s]; exact hed
  | succ m ih =>
    intro q dd p de b e N pl pa st fo eb E rk hc hq ho hsq hdf hpl hpa hpm hT hP hde hed he heb
    have hp : p < 16 * A.2.1 1 q := by omega
    have hd : dd < 17 := by omega
    have hq16 : q < 16 := by omega
    have v1 := hs.tv hW hq
    rw [totW_s]
    cases g1 : A.2.2.1 q (p / 16) with
    | none =>
      rw [stW_n g1]
      show RES X S A t D (if (1 : Int32) = 0 then _ else (1, e, fo q)) q dd b pl pa st fo eb E rk _
      rw [if_neg (by decide)]
      exact RES_fail hd hpl e10 (go_fallen hd v1 hpa hp g1)
    | some r =>
      cases hl : lk A q p with
      | none =>
        rw [stW_0 g1 hl]
        show RES X S A t D (if (0 : Int32) = 0 then totW A (totT A f op) q m (p + 1) e (fo q + nmv A q p) else _) q dd b pl pa st fo eb E rk _
        rw [if_pos rfl]
        have hsame : ∀ y, st y = 2 → st y = 2 ∧ upd fo q (fo q + nmv A q p) y = fo y ∧ E y = E y := fun y hy => ⟨hy, pk_un (fun w => by rw [w, hsq] at hy; exact absurd hy (by decide)), rfl⟩
        have h2 := ih q dd (p + 1) de b e N pl (upd pa dd (nI (p + 1))) st (upd fo q (fo q + nmv A q p)) eb E rk hc hq ho hsq hdf hpl pk_us (by omega) (TI_ext hT (fun y hy => ⟨hy, (hsame y hy).2.1, rfl, rfl, rfl⟩) (fun y hy => hy)) (by rw [pk_us]; exact PI_ext hsame (PI_num hP hp g1 hl)) hde hed he heb
        rw [pk_us] at h2
        exact RES_step (fun a T2 hg => go_num hW hK hs hq hd hpa hp g1 hl hg) (fun z hz => pk_un (by omega)) (fun z hz => pk_un hz) h2
      | some z =>
        obtain ⟨r2, _, _, _, hz, _⟩ := lk_tab hW hL hq hp hl
        have hz16 : z < 16 := by omega
        rw [stW_l g1 hl]
        obtain ⟨oz, sz⟩ := ho z hz
        rcases sz with sz | sz | sz
        · have oz0 : op z = 0 := Classical.byContradiction fun w => by rw [oz.mp w] at sz; exact absurd sz (by decide)
          cases f with
          | zero => exact absurd oz0 (cnt_all 16 (by omega) z hz16)
          | succ f2 =>
            by_cases c1 : e < 1000
            · have eT : totT A (f2 + 1) op z e = totW A (totT A f2 (upd op z 1)) z (16 * A.2.1 1 z) 0 (e + 1) 0 := by
                refine ((if_pos oz0).trans (if_pos c1)).trans ?_
                exact lin_P (fun i r h => (hW.2.2.2 r (hW.2.2.1 z i r (by omega) h)).1) _ _ _ _
              have zq : z ≠ q := fun w => by rw [w, hsq] at sz; exact absurd sz (by decide)
              have hx : ∀ y, st y = 2 → upd st z 1 y = 2 ∧ upd fo z 0 y = fo y ∧ upd eb z (nI e) y = eb y ∧ E y = E y ∧ rk y = rk y := fun y hy => by
                have hn : y ≠ z := fun w => by rw [w, sz] at hy; exact absurd hy (by decide)
                exact ⟨by rw [pk_un hn]; exact hy, pk_un hn, pk_un hn, rfl, rfl⟩
              have hnx : ∀ y, upd st z 1 y = 2 → st y = 2 := fun y hy => by
                by_cases w : y = z
                · rw [w, pk_us] at hy; exact absurd hy (by decide)
                · rw [pk_un w] at hy; exact hy
              have hT1 := TI_ext hT hx hnx
              have hR := hf f2 rfl (upd op z 1) (16 * A.2.1 1 z) z (dd + 1) 0 1 e (e + 1) N (upd pl (dd + 1) (nI z)) (upd pa (dd + 1) 0) (upd st z 1) (upd fo z 0) (upd eb z (nI e)) E rk (by rw [cnt_in oz0 (by decide) 16 hz16]; omega) hz (fun y hy => by
                by_cases w : y = z
                · subst w; rw [pk_us, pk_us]; exact ⟨⟨fun _ => rfl, fun _ => by decide⟩, Or.inr (Or.inl rfl)⟩
                · rw [pk_un w, pk_un w]; exact ho y hy) pk_us (by omega) pk_us (by rw [pk_us]; rfl) (by omega) hT1 (by rw [pk_us]; exact PI_0) (Nat.le_refl _) rfl (by omega) pk_us
              rw [pk_us, ← eT] at hR
              have hne : ¬ nI e = 1000 := fun w => by
                have := (nI_eq (a := e) (b := 1000) (by omega) (by omega)).mp w
                omega
              have hnew := go_new (X := X) (D := D + 1) (dep := 0) (pl := pl) (st := st) (fo := fo) (eb := eb) (c := 0) (en := nI e) (jd := -1) hW hK hL hs hq hd hpa hp hl sz (Or.inr ⟨rfl, hne⟩)
              have en1 : nI e + 1 - 1 = nI e := by rw [nI_1, nI_pred]
              have go : ∀ R, FG X (D + 1) t (dd + 1) 0 z (fS S (upd pl (dd + 1) (nI z)) (upd pa (dd + 1) 0) (upd st z 1) (upd fo z 0) (upd eb z (nI e)) 0 (nI (e + 1)) (-1)) R → FG X (D + 1) t dd 0 q (fS S pl pa st fo eb 0 (nI e) (-1)) R := fun R h => by
                refine fr_new (v := 0) (by omega) hpl hz16 (if_pos rfl).symm hnew ?_
                rw [en1, nI_1]
                exact fg_fr (by omega) pk_us h
              generalize hQ : totT A (f2 + 1) op z e = Q at *
              by_cases c2 : Q.1 = 0
              · obtain ⟨l4, pl2, pa2, st2, fo2, eb2, E2, rk2, N2, f1, f2', f3, f4, f5, f6, f7⟩ := hR.1 c2
                show RES X S A t D (if Q.1 = 0 then totW A (totT A (f2 + 1) op) q m (p + 1) Q.2.1 (fo q + Q.2.2) else _) q dd b pl pa st fo eb E rk _
                rw [if_pos c2]
                have hsq1 : ¬ upd st z 1 q = 0 := by rw [pk_un (fun w => zq w.symm), hsq]; decide
                obtain ⟨y1, y2, y3, y4, y5⟩ := f3.1 q hsq1 (fun w => zq w.symm)
                rw [pk_un (fun w => zq w.symm)] at y1 y2 y3
                have hpl2 : pl2 dd = nI q := by rw [(f2' dd (by omega)).1, pk_un (by omega)]; exact hpl
                have hpa2 : pa2 dd = nI p := by rw [(f2' dd (by omega)).2, pk_un (by omega)]; exact hpa
                have hle : Q.2.1 ≤ 1000 := by rw [← hQ]; exact ent_T _ _ _ _ he
                have hx2 : ∀ y, st y = 2 → st2 y = 2 ∧ fo2 y = fo y ∧ E2 y = E y := fun y hy => by
                  have hn : y ≠ z := fun w => by rw [w, sz] at hy; exact absurd hy (by decide)
                  obtain ⟨w1, w2, w3, w4, w5⟩ := f3.1 y (by rw [pk_un hn, hy]; decide) hn
                  rw [pk_un hn] at w1 w2
                  exact ⟨w1.trans hy, w2, w4⟩
                have hsame : ∀ y, st2 y = 2 → st2 y = 2 ∧ upd fo2 q (fo q + Q.2.2) y = fo2 y ∧ E2 y = E2 y := fun y hy => ⟨hy, pk_un (fun w => by rw [w, y1, hsq] at hy; exact absurd hy (by decide)), rfl⟩
                have h2 := ih q dd (p + 1) (de + E2 z) b Q.2.1 N2 pl2 (upd pa2 dd (nI (p + 1))) st2 (upd fo2 q (fo q + Q.2.2)) eb2 E2 rk2 hc hq (fun y hy => by
                  by_cases w : y = z
                  · subst w; rw [f4]; exact ⟨⟨fun h => absurd oz0 h, fun h => absurd h (by decide)⟩, Or.inr (Or.inr rfl)⟩
                  · obtain ⟨o1, o2⟩ := ho y hy
                    by_cases w2 : st y = 0
                    · have o3 : op y = 0 := Classical.byContradiction fun h => by rw [o1.mp h] at w2; exact absurd w2 (by decide)
                      rcases f3.2 y (by rw [pk_un w]; exact w2) with w3 | w3
                      · rw [w3]; exact ⟨⟨fun h => absurd o3 h, fun h => absurd h (by decide)⟩, Or.inl rfl⟩
                      · rw [w3]; exact ⟨⟨fun h => absurd o3 h, fun h => absurd h (by decide)⟩, Or.inr (Or.inr rfl)⟩
                    · obtain ⟨w3, _⟩ := f3.1 y (by rw [pk_un w]; exact w2) w
                      rw [pk_un w] at w3
                      rw [w3]; exact ⟨o1, o2⟩) (y1.trans hsq) hdf hpl2 pk_us (by omega) (TI_ext f7 (fun y hy => ⟨hy, (hsame y hy).2.1, rfl, rfl, rfl⟩) (fun y hy => hy)) (by
                  have := PI_lnk (PI_ext hx2 hP) hp hl f4
                  rw [f5] at this
                  rw [pk_us]
                  exact PI_ext hsame this) (by omega) (by omega) hle (y3.trans heb)
                rw [pk_us] at h2
                have hv : (0 : Int32) = if nI z = nI z then 0 else eb2 z := (if_pos rfl).symm
                have hgo : ∀ a T2, GO X (D + 1) dd 0 q (fS S pl2 (upd pa2 dd (nI (p + 1))) st2 (upd fo2 q (fo q + Q.2.2)) eb2 0 (nI Q.2.1) (-1)) a T2 → GO X (D + 1) dd 0 q (fS S pl2 pa2 st2 fo2 eb2 0 (nI Q.2.1) (nI z)) a T2 := fun a T2 hg => by
                  refine go_done hW hK hL hs hq hd hpa2 hp hl f4 hv (by rw [Int32.add_zero]; exact i_1000 hle) ?_
                  rw [Int32.add_zero, f5, y2]
                  exact hg
                have tr : ∀ R, FG X (D + 1) t dd 0 q (fS S pl2 (upd pa2 dd (nI (p + 1))) st2 (upd fo2 q (fo q + Q.2.2)) eb2 0 (nI Q.2.1) (-1)) R → FG X (D + 1) t dd 0 q (fS S pl pa st fo eb 0 (nI e) (-1)) R := fun R h => by
                  have h3 := fg_fr hd hpl2 (fg_step hgo h) l4
                  rw [nI_m, h3] at f1
                  exact go R f1
                refine ⟨fun hc2 => ?_, fun hc2 => ?_⟩
                · obtain ⟨l4', pl3, pa3, st3, fo3, eb3, E3, rk3, N3, k1, k2, k3, k4, k5, k6, k7⟩ := h2.1 hc2
                  refine ⟨l4', pl3, pa3, st3, fo3, eb3, E3, rk3, N3, tr _ k1, fun y hy => ?_, ⟨fun y h1 h2 => ?_, fun y h1 => ?_⟩, k4, k5, k6, k7⟩
                  · rw [(k2 y hy).1, (k2 y hy).2, pk_un (by omega), (f2' y (by omega)).1, (f2' y (by omega)).2, pk_un (by omega), pk_un (by omega)]
                    exact ⟨rfl, rfl⟩
                  · have hn : y ≠ z := fun w => h1 (w ▸ sz)
                    obtain ⟨w1, w2, w3, w4, w5⟩ := f3.1 y (by rw [pk_un hn]; exact h1) hn
                    rw [pk_un hn] at w1 w2 w3
                    obtain ⟨u1, u2, u3, u4, u5⟩ := k3.1 y (by rw [w1]; exact h1) h2
                    rw [pk_un h2] at u2
                    exact ⟨u1.trans w1, u2.trans w2, u3.trans w3, u4.trans w4, u5.trans w5⟩
                  · by_cases w : y = z
                    · subst w
                      right
                      rw [(k3.1 y (by rw [f4]; decide) zq).1]
                      exact f4
                    · rcases f3.2 y (by rw [pk_un w]; exact h1) with w3 | w3
                      · exact k3.2 y w3
                      · right
                        have yq : y ≠ q := fun u => by rw [u, hsq] at h1; exact absurd h1 (by decide)
                        rw [(k3.1 y (by rw [w3]; decide) yq).1]
                        exact w3
                · obtain ⟨l3, l4', pl3, pa3, st3, fo3, eb3, jd3, k1⟩ := h2.2 hc2
                  exact ⟨l3, l4', pl3, pa3, st3, fo3, eb3, jd3, tr _ k1⟩
              · obtain ⟨l3, l4, pl2, pa2, st2, fo2, eb2, jd2, f1⟩ := hR.2 c2
                show RES X S A t D (if Q.1 = 0 then _ else (Q.1, Q.2.1, fo q + Q.2.2)) q dd b pl pa st fo eb E rk _
                rw [if_neg c2]
                exact ⟨fun h => absurd h c2, fun _ => ⟨l3, l4, pl2, pa2, st2, fo2, eb2, jd2, go _ f1⟩⟩
            · have e1 : e = 1000 := by omega
              have eT : totT A (f2 + 1) op z e = (6, e, 0) := (if_pos oz0).trans (if_neg c1)
              rw [eT]
              show RES X S A t D (if (6 : Int32) = 0 then _ else (6, e, fo q + 0)) q dd b pl pa st fo eb E rk _
              rw [if_neg (by decide)]
              exact RES_fail hd hpl i60 (go_spent hW hK hL hs hq hd hpa hp hl sz (by rw [e1]; rfl))
        · rw [totT_ring (oz.mpr sz)]
          show RES X S A t D (if (5 : Int32) = 0 then _ else (5, e, fo q + 0)) q dd b pl pa st fo eb E rk _
          rw [if_neg (by decide)]
          exact RES_fail hd hpl i50 (go_ring hW hK hL hs hq hd hpa hp hl sz)
        · have hdn := done_tot hW hL hT (rk z + 1) z (by omega) hz sz f op e (fun y hy hy2 _ => Classical.byContradiction fun h => by
            rw [(ho y hy).1.mp h] at hy2; exact absurd hy2 (by decide)) hc he
          obtain ⟨t1, t2, t3, t4, t5, t6⟩ := hT z hz sz
          have zj : ¬ nI z = -1 := nI_m1 (by omega)
          generalize totT A f op z e = Q at *
          by_cases c1 : e + E z ≤ 1000
          · rw [GD_y c1] at hdn
            obtain ⟨d1, d2, d3⟩ := hdn
            have d4 := d3 d1
            show RES X S A t D (if Q.1 = 0 then totW A (totT A f op) q m (p + 1) Q.2.1 (fo q + Q.2.2) else _) q dd b pl pa st fo eb E rk _
            rw [if_pos d1, d2, d4]
            have hsame : ∀ y, st y = 2 → st y = 2 ∧ upd fo q (fo q + fo z) y = fo y ∧ E y = E y := fun y hy => ⟨hy, pk_un (fun w => by rw [w, hsq] at hy; exact absurd hy (by decide)), rfl⟩
            have h2 := ih q dd (p + 1) (de + E z) b (e + E z) N pl (upd pa dd (nI (p + 1))) st (upd fo q (fo q + fo z)) eb E rk hc hq ho hsq hdf hpl pk_us (by omega) (TI_ext hT (fun y hy => ⟨hy, (hsame y hy).2.1, rfl, rfl, rfl⟩) (fun y hy => hy)) (by rw [pk_us]; exact PI_ext hsame (PI_lnk hP hp hl sz)) (by omega) (by omega) c1 heb
            rw [pk_us] at h2
            refine RES_step (fun a T2 hg => ?_) (fun y hy => pk_un (by omega)) (fun y hy => pk_un hy) h2
            refine go_done hW hK hL hs hq hd hpa hp hl sz (if_neg zj).symm (by rw [t4, nI_add]; exact i_1000 c1) ?_
            rw [t4, nI_add]
            exact hg
          · rw [GD_n c1] at hdn
            obtain ⟨d1, d2, d3⟩ := hdn
            have d1' : Q.1 = 6 := d1
            have d2' : Q.2.1 = 1000 := d2
            have c6 : ¬ Q.1 = 0 := by rw [d1']; decide
            show RES X S A t D (if Q.1 = 0 then _ else (Q.1, Q.2.1, fo q + Q.2.2)) q dd b pl pa st fo eb E rk _
            rw [if_neg c6, d1', d2']
            refine RES_fail hd hpl i60 (go_over hW hK hL hs hq hd hpa hp hl sz zj ?_)
            rw [t4, nI_add]
            exact nI_ge (a := 1000) (by omega) (by omega)
theorem mt (hW : WB A) (hK : KD A) (hL : lnkOK A) (hs : Sim S A nu) : ∀ f, MTc X S A t D f := by
  intro f
  induction f with
  | zero => exact mt_step hW hK hL hs (fun f2 h => by omega)
  | succ f ih =>
    refine mt_step hW hK hL hs (fun f2 h => ?_)
    have h2 : f = f2 := by omega
    rw [← h2]
    exact ih
end MT
