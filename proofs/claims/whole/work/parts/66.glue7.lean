/-! Both sides: products. -/
section GL7
variable {X : I_X} {S S1 S2 C M M2 : St} {nu nu1 ro2 : Nat → Nat} {d t t2 r r2 i j n m g w p q R hi l mx yy kk cc : Nat} {a b c e v x y z k s : Int32} {u : UInt64}
theorem fNaN : fN 9221120237041090560 := by unfold fN; decide
theorem pr_num : ∀ m kk s u, (∀ k', kk ≤ k' → k' < kk + m → M2.1 44 (16 * mx + k') = S.1 (100 + l) k' ∧ M2.1 44 (16 * ro2 k' + yy) = S.1 (100 + rowAt S t2 k') yy) → fM' S l t2 yy m kk s = (mFold M2 mx ro2 yy m kk s u).1 := by
  intro m
  induction m with
  | zero => intro kk s u _; rfl
  | succ m ih =>
    intro kk s u h
    obtain ⟨h1, h2⟩ := h kk (Nat.le_refl _) (by omega)
    show fM' S l t2 yy m (kk + 1) (s + S.1 (100 + l) kk * S.1 (100 + rowAt S t2 kk) yy) = (mFold M2 mx ro2 yy m (kk + 1) (s + M2.1 44 (16 * mx + kk) * M2.1 44 (16 * ro2 kk + yy)) _).1
    rw [h1, h2]
    exact ih (kk + 1) _ _ (fun k' q1 q2 => h k' (by omega) (by omega))
theorem pr_bit : ∀ m kk cc u, (∀ k', kk ≤ k' → k' < kk + m → (M2.1 44 (16 * mx + k') = S.1 (100 + l) k' ∧ M2.1 44 (16 * ro2 k' + yy) = S.1 (100 + rowAt S t2 k') yy) ∧ (S.1 (100 + l) k' = 0 ∨ S.1 (100 + l) k' = 1) ∧ (S.1 (100 + rowAt S t2 k') yy = 0 ∨ S.1 (100 + rowAt S t2 k') yy = 1)) → cc + m ≤ 1000 → fB S l t2 yy m kk (if cc = 0 then 0 else 1) = if 0 < (mFold M2 mx ro2 yy m kk (nI cc) u).1 then 1 else 0 := by
  intro m
  induction m with
  | zero =>
    intro kk cc u _ hc
    show (if cc = 0 then (0 : Int32) else 1) = if 0 < nI cc then 1 else 0
    by_cases q : cc = 0
    · subst q; decide
    · rw [if_neg q, if_pos (show (0 : Int32) < nI cc from (nI_ltI (a := 0) (b := cc) (by omega) (by omega)).mpr (by omega))]
  | succ m ih =>
    intro kk cc u h hc
    obtain ⟨⟨h1, h2⟩, h3, h4⟩ := h kk (Nat.le_refl _) (by omega)
    show fB S l t2 yy m (kk + 1) ((if cc = 0 then 0 else 1) ||| (S.1 (100 + l) kk &&& S.1 (100 + rowAt S t2 kk) yy)) = if 0 < (mFold M2 mx ro2 yy m (kk + 1) (nI cc + M2.1 44 (16 * mx + kk) * M2.1 44 (16 * ro2 kk + yy)) (rS u (rP (M2.2.2.2 0 (16 * mx + kk)) (M2.2.2.2 0 (16 * ro2 kk + yy))))).1 then 1 else 0
    rw [h1, h2]
    have hrec := fun cc' (hc' : cc' + m ≤ 1000) => ih (kk + 1) cc' (rS u (rP (M2.2.2.2 0 (16 * mx + kk)) (M2.2.2.2 0 (16 * ro2 kk + yy)))) (fun k' q1 q2 => h k' (by omega) (by omega)) hc'
    have o0 : ∀ z : Int32, z = 0 ∨ z = 1 → (0 : Int32) &&& z = 0 := fun z hz => by rcases hz with rfl | rfl <;> decide
    have z0 : ((if cc = 0 then (0 : Int32) else 1) ||| 0) = if cc = 0 then 0 else 1 := by split <;> decide
    have z1 : ((if cc = 0 then (0 : Int32) else 1) ||| 1) = 1 := by split <;> decide
    rcases h3 with h3 | h3
    · rw [h3, o0 _ h4, z0, Int32.zero_mul, Int32.add_zero]
      exact hrec cc (by omega)
    · rcases h4 with h4 | h4
      · rw [h3, h4, show (1 : Int32) &&& 0 = 0 by decide, z0, Int32.mul_zero, Int32.add_zero]
        exact hrec cc (by omega)
      · rw [h3, h4, show (1 : Int32) &&& 1 = 1 by decide, z1, show (1 : Int32) * 1 = 1 by decide, nI_1]
        have := hrec (cc + 1) (by omega)
        rw [if_neg (show ¬ cc + 1 = 0 by omega)] at this
        exact this
theorem rS_n {a b : UInt64} (h : fN a ∨ fN b ∨ noS a b) : fN (rS a b) := by unfold rS; rw [if_pos h]; exact fNaN
theorem rS_y {a b : UInt64} (h : ¬ (fN a ∨ fN b ∨ noS a b)) : rS a b = FP.dadd a b := by unfold rS; rw [if_neg h]
theorem rP_n {a b : UInt64} (h : fN a ∨ fN b ∨ noP a b) : fN (rP a b) := by unfold rP; rw [if_pos h]; exact fNaN
theorem rP_y {a b : UInt64} (h : ¬ (fN a ∨ fN b ∨ noP a b)) : rP a b = FP.dmul a b := by unfold rP; rw [if_neg h]
theorem nan_stay : ∀ m kk s u, fN u → fN (mFold M2 mx ro2 yy m kk s u).2 := by
  intro m
  induction m with
  | zero => intro kk s u h; exact h
  | succ m ih => intro kk s u h; exact ih _ _ _ (rS_n (Or.inl h))
theorem pr_real : ∀ m kk s u, (∀ k', kk ≤ k' → k' < kk + m → S.1 5 l = 2 ∧ S.1 5 (rowAt S t2 k') = 2 ∧ celR M2 S l k' (16 * mx + k') ∧ celR M2 S (rowAt S t2 k') yy (16 * ro2 k' + yy)) → ¬ fN u → match fR S l t2 yy m kk u with
    | none => fN (mFold M2 mx ro2 yy m kk s u).2
    | some v => (mFold M2 mx ro2 yy m kk s u).2 = v ∧ ¬ fN v := by
  intro m
  induction m with
  | zero => intro kk s u _ hu; exact ⟨rfl, hu⟩
  | succ m ih =>
    intro kk s u h hu
    obtain ⟨h1, h2, h3, h4⟩ := h kk (Nat.le_refl _) (by omega)
    unfold celR at h3 h4
    rw [if_pos h1] at h3
    rw [if_pos h2] at h4
    have eM : mFold M2 mx ro2 yy (m + 1) kk s u = mFold M2 mx ro2 yy m (kk + 1) (s + M2.1 44 (16 * mx + kk) * M2.1 44 (16 * ro2 kk + yy)) (rS u (rP (M2.2.2.2 0 (16 * mx + kk)) (M2.2.2.2 0 (16 * ro2 kk + yy)))) := rfl
    rw [eM]
    by_cases c : nn S l kk ∨ nn S (rowAt S t2 kk) yy ∨ noP (S.2.2.2 (1 + l) kk) (S.2.2.2 (1 + rowAt S t2 kk) yy) ∨ noS u (FP.dmul (S.2.2.2 (1 + l) kk) (S.2.2.2 (1 + rowAt S t2 kk) yy))
    · have eR : fR S l t2 yy (m + 1) kk u = none := if_pos c
      rw [eR]
      show fN _
      refine nan_stay _ _ _ _ ?_
      rcases h3 with ⟨a1, a2, a3⟩ | ⟨a1, a2, a3⟩
      · rcases h4 with ⟨b1, b2, b3⟩ | ⟨b1, b2, b3⟩
        · rw [a2, b2]
          rcases c with c | c | c | c
          · exact absurd a1 c.2
          · exact absurd b1 c.2
          · exact rS_n (Or.inr (Or.inl (rP_n (Or.inr (Or.inr c)))))
          · by_cases c2 : fN (S.2.2.2 (1 + l) kk) ∨ fN (S.2.2.2 (1 + rowAt S t2 kk) yy) ∨ noP (S.2.2.2 (1 + l) kk) (S.2.2.2 (1 + rowAt S t2 kk) yy)
            · exact rS_n (Or.inr (Or.inl (rP_n c2)))
            · rw [rP_y c2]
              exact rS_n (Or.inr (Or.inr c))
        · exact rS_n (Or.inr (Or.inl (rP_n (Or.inr (Or.inl ((fN_nan _).mpr b3))))))
      · exact rS_n (Or.inr (Or.inl (rP_n (Or.inl ((fN_nan _).mpr a3)))))
    · have eR : fR S l t2 yy (m + 1) kk u = fR S l t2 yy m (kk + 1) (FP.dadd u (FP.dmul (S.2.2.2 (1 + l) kk) (S.2.2.2 (1 + rowAt S t2 kk) yy))) := if_neg c
      rw [eR]
      have a1 : S.1 (100 + l) kk = 0 := Classical.byContradiction fun q => c (Or.inl ⟨h1, q⟩)
      have b1 : S.1 (100 + rowAt S t2 kk) yy = 0 := Classical.byContradiction fun q => c (Or.inr (Or.inl ⟨h2, q⟩))
      obtain ⟨_, a2, a3⟩ : S.1 (100 + l) kk = 0 ∧ _ := h3.resolve_right (fun q => by rw [a1] at q; exact absurd q.1 (by decide))
      obtain ⟨_, b2, b3⟩ : S.1 (100 + rowAt S t2 kk) yy = 0 ∧ _ := h4.resolve_right (fun q => by rw [b1] at q; exact absurd q.1 (by decide))
      rw [a2] at a3 ⊢
      rw [b2] at b3 ⊢
      have a4 : ¬ fN (S.2.2.2 (1 + l) kk) := fun q => a3 ((fN_nan _).mp q)
      have b4 : ¬ fN (S.2.2.2 (1 + rowAt S t2 kk) yy) := fun q => b3 ((fN_nan _).mp q)
      have c3 : ¬ noP (S.2.2.2 (1 + l) kk) (S.2.2.2 (1 + rowAt S t2 kk) yy) := fun q => c (Or.inr (Or.inr (Or.inl q)))
      have c4 : ¬ noS u (FP.dmul (S.2.2.2 (1 + l) kk) (S.2.2.2 (1 + rowAt S t2 kk) yy)) := fun q => c (Or.inr (Or.inr (Or.inr q)))
      have mN := mul_N a4 b4 c3
      rw [rP_y (fun q => q.elim a4 (fun q => q.elim b4 c3)), rS_y (fun q => q.elim hu (fun q => q.elim mN c4))]
      exact ih (kk + 1) _ _ (fun k' q1 q2 => h k' (by omega) (by omega)) (add_N hu mN c4)
theorem kind_or (h1 : ¬ k < 0) (h2 : ¬ 3 < k) : k = 0 ∨ k = 1 ∨ k = 2 ∨ k = 3 := by
  rw [i_lt] at h1 h2
  have e0 : (0 : Int32).toInt = 0 := rfl
  have e3 : (3 : Int32).toInt = 3 := rfl
  rw [e0] at h1
  rw [e3] at h2
  have : k.toInt = 0 ∨ k.toInt = 1 ∨ k.toInt = 2 ∨ k.toInt = 3 := by omega
  rcases this with q | q | q | q
  · exact Or.inl (Int32.toInt_inj.mp q)
  · exact Or.inr (Or.inl (Int32.toInt_inj.mp q))
  · exact Or.inr (Or.inr (Or.inl (Int32.toInt_inj.mp q)))
  · exact Or.inr (Or.inr (Or.inr (Int32.toInt_inj.mp q)))
theorem RN_of (hs : Sim S S nu) : RN S := fun r j h1 h2 h3 => by
  have h := hs.2.2.2.2.2.2.1 r j h1 h3
  unfold celR at h
  rw [if_pos h2] at h
  rcases h with ⟨_, a2, a3⟩ | ⟨_, a2, _⟩
  · rw [a2] at a3; exact fun q => a3 ((fN_nan _).mp q)
  · rw [a2]; exact fNil.1
theorem st_prod (h : GS S n) : StI X S n m_X2_product [some (va_rf (some (aO X))), some (.int a), some (.int b), none, none, none, none, none, none] m_X3_product [some (va_rf (some (aM X))), some (.int a), some (.int b), none, none, none, none, none, none, none] := by
  have h' := h
  obtain ⟨hc, nu, hs⟩ := h
  have hW := hc.1
  have h16 := hW.1
  have hK := hc.2.1
  rcases unk_or h16 a with h1 | ⟨t, ht, rfl⟩
  · exact st_same h' (k_prod_unk (d := 195) h16 (Or.inl h1)) (q_prod_unk (d := 197) hs.1 h16 (Or.inl h1))
  rcases unk_or h16 b with h1 | ⟨t2, ht2, rfl⟩
  · exact st_same h' (k_prod_unk (d := 195) h16 (Or.inr h1)) (q_prod_unk (d := 197) hs.1 h16 (Or.inr h1))
  have v1 := hs.tv hW ht
  have v2 := hs.tv hW ht2
  by_cases cM : canM S t t2
  · by_cases hf : S.2.1 0 0 = 16
    · exact st_same h' (k_prod_room (d := 195) hW ht ht2 cM hf) (q_prod_room (d := 197) hs.1 hf ht ht2 v1 v2 cM)
    · have hf' : S.2.1 0 0 < 16 := by omega
      have h12 := hW.2.1 t (by omega)
      have h122 := hW.2.1 t2 (by omega)
      have hw16 := wid_le hW (show t2 < 16 by omega)
      obtain ⟨m1, m2, m3, m4, m5⟩ := cM
      have hk4 := hc.2.2.2.1 t ht
      have hk : S.1 1 t = 0 ∨ S.1 1 t = 1 ∨ S.1 1 t = 2 := by
        rcases kind_or hk4.1 hk4.2 with q | q | q | q
        · exact Or.inl q
        · exact Or.inr (Or.inl q)
        · exact Or.inr (Or.inr q)
        · exact absurd q m1
      obtain ⟨C, e1, e2, e3⟩ := k_prod_ok (X := X) (d := 194) hW hK (RN_of hs) hk ht ht2 ⟨m1, m2, m3, m4, m5⟩ hf'
      have hmC : mEq C S := by
        obtain ⟨b0, b1, b2, b3, b4, b5, b6, b7, b8, b9, c0, c1', c2, c3, c4⟩ := bwS_all (S := S) (k := S.1 1 t) (hi := S.2.1 1 t) (w := wid S t2) h12
        exact ⟨fun g z1 z2 => by rw [e2.2.2.1 g (by omega)]; exact c2 g (by omega) (by omega) (by omega) (by omega), by rw [e2.2.2.2 0 (by omega)]; exact c4⟩
      obtain ⟨nu1, R, M2, M, f1, f2, f3, f4⟩ := q_prod_ok (X := X) (d := 196) hW (Sim_congr hmC cEq.refl hs) ht ht2 ⟨m1, m2, m3, m4, m5⟩ hf'
      -- rows and columns
      have rowX : ∀ x, x < S.2.1 1 t → ∃ l, rowAt S t x = l ∧ std S l ∧ S.1 5 l = S.1 1 t ∧ S.2.1 2 l = S.2.1 1 t2 := fun x hx => by
        obtain ⟨l, hp, hlen⟩ := evn_row m3 hx
        exact ⟨l, rowAt_s hp, ⟨t, x, ht, hx, hp⟩, hK t x l ht hx hp, hlen.trans m5⟩
      have colY : ∀ k', k' < S.2.1 1 t2 → std S (rowAt S t2 k') ∧ S.1 5 (rowAt S t2 k') = S.1 1 t ∧ S.2.1 2 (rowAt S t2 k') = wid S t2 := fun k' hk' => by
        obtain ⟨l, hp, hlen⟩ := evn_row m4 hk'
        rw [rowAt_s hp]
        exact ⟨⟨t2, k', ht2, hk', hp⟩, (hK t2 k' l ht2 hk' hp).trans m2.symm, hlen⟩
      have cells : ∀ l y, std S l → S.1 5 l = S.1 1 t → S.2.1 2 l = S.2.1 1 t2 → y < wid S t2 → ∀ k', k' < S.2.1 1 t2 → celR M2 S l k' (16 * nu1 l + k') ∧ celR M2 S (rowAt S t2 k') y (16 * nu1 (rowAt S t2 k') + y) := fun l y z1 z2 z3 z4 k' z5 => by
        obtain ⟨y1, y2, y3⟩ := colY k' z5
        exact ⟨(f2.old hW z1 (by omega)).1, (f2.old hW y1 (by omega)).1⟩
      have bits : ∀ r, S.1 1 t = 0 → std S r → S.1 5 r = S.1 1 t → ∀ j, j < S.2.1 2 r → S.1 (100 + r) j = 0 ∨ S.1 (100 + r) j = 1 := fun r z0 z1 z2 j z3 => hc.2.2.2.2.1 r j z1 (z2.trans z0) z3
      have bitC : S.1 1 t = 0 → ∀ x y, x < S.2.1 1 t → y < wid S t2 → M.1 44 (16 * (R + x) + y) = C.1 (100 + (S.2.1 0 1 + x)) y ∧ (C.1 (100 + (S.2.1 0 1 + x)) y = 0 ∨ C.1 (100 + (S.2.1 0 1 + x)) y = 1) := fun z0 x y hx hy => by
        obtain ⟨l, hl, z1, z2, z3⟩ := rowX x hx
        have g1 := e3 x y hx hy
        have g2 := (f4 x y hx hy).1
        unfold prdC at g1
        rw [hl, if_pos z0, z3] at g1
        have g2' : M.1 44 (16 * (R + x) + y) = if S.1 1 t = 0 then (if 0 < (mFold M2 (nu1 (rowAt S t x)) (fun y => nu1 (rowAt S t2 y)) y (S.2.1 1 t2) 0 0 0).1 then 1 else 0) else (mFold M2 (nu1 (rowAt S t x)) (fun y => nu1 (rowAt S t2 y)) y (S.2.1 1 t2) 0 0 0).1 := g2
        rw [hl, if_pos z0] at g2'
        have hb := pr_bit (M2 := M2) (S := S) (mx := nu1 l) (l := l) (t2 := t2) (yy := y) (ro2 := fun y => nu1 (rowAt S t2 y)) (S.2.1 1 t2) 0 0 0 (fun k' _ q2 => by
          obtain ⟨y1, y2, y3⟩ := colY k' (by omega)
          obtain ⟨w1, w2⟩ := cells l y z1 z2 z3 hy k' (by omega)
          unfold celR at w1 w2
          rw [if_neg (by rw [z2, z0]; decide)] at w1
          rw [if_neg (by rw [y2, z0]; decide)] at w2
          exact ⟨⟨w1, w2⟩, bits l z0 z1 z2 k' (by omega), bits _ z0 y1 y2 y (by omega)⟩) (by omega)
        rw [nI_0, if_pos rfl] at hb
        rw [g1, g2', hb]
        refine ⟨rfl, ?_⟩
        split
        · exact Or.inr rfl
        · exact Or.inl rfl
      refine ⟨_, _, _, e1, f1, GS_new hc hf' h12 hw16 hk4.1 hk4.2 e2 f2 f3 (fun x y hx hy => ?_) (fun z0 x y hx hy => (bitC z0 x y hx hy).2) (fun z0 => absurd z0 m1)⟩
      unfold celR
      rw [new_5 h12 e2 hx]
      rcases hk with z0 | z0 | z0
      · rw [if_neg (by rw [z0]; decide)]
        exact (bitC z0 x y hx hy).1
      · obtain ⟨l, hl, z1, z2, z3⟩ := rowX x hx
        have g1 := e3 x y hx hy
        have g2 := (f4 x y hx hy).1
        have n0 : ¬ S.1 1 t = 0 := by rw [z0]; decide
        unfold prdC at g1
        rw [hl, if_neg n0, if_pos z0, z3] at g1
        have g2' : M.1 44 (16 * (R + x) + y) = if S.1 1 t = 0 then (if 0 < (mFold M2 (nu1 (rowAt S t x)) (fun y => nu1 (rowAt S t2 y)) y (S.2.1 1 t2) 0 0 0).1 then 1 else 0) else (mFold M2 (nu1 (rowAt S t x)) (fun y => nu1 (rowAt S t2 y)) y (S.2.1 1 t2) 0 0 0).1 := g2
        rw [hl, if_neg n0] at g2'
        rw [if_neg (by rw [z0]; decide), g1, g2']
        refine (pr_num _ _ _ _ (fun k' _ q2 => ?_)).symm
        obtain ⟨y1, y2, y3⟩ := colY k' (by omega)
        obtain ⟨w1, w2⟩ := cells l y z1 z2 z3 hy k' (by omega)
        unfold celR at w1 w2
        rw [if_neg (by rw [z2, z0]; decide)] at w1
        rw [if_neg (by rw [y2, z0]; decide)] at w2
        exact ⟨w1, w2⟩
      · obtain ⟨l, hl, z1, z2, z3⟩ := rowX x hx
        have g1 := e3 x y hx hy
        have g2 := (f4 x y hx hy).2
        have n0 : ¬ S.1 1 t = 0 := by rw [z0]; decide
        have n1 : ¬ S.1 1 t = 1 := by rw [z0]; decide
        unfold prdC at g1
        rw [hl, if_neg n0, if_neg n1, z3] at g1
        have g2' : M.2.2.2 0 (16 * (R + x) + y) = (mFold M2 (nu1 (rowAt S t x)) (fun y => nu1 (rowAt S t2 y)) y (S.2.1 1 t2) 0 0 0).2 := g2
        rw [hl] at g2'
        rw [if_pos z0, g2']
        have hr := pr_real (M2 := M2) (S := S) (mx := nu1 l) (l := l) (t2 := t2) (yy := y) (ro2 := fun y => nu1 (rowAt S t2 y)) (S.2.1 1 t2) 0 0 0 (fun k' _ q2 => by
          obtain ⟨y1, y2, y3⟩ := colY k' (by omega)
          obtain ⟨w1, w2⟩ := cells l y z1 z2 z3 hy k' (by omega)
          exact ⟨z2.trans z0, y2.trans z0, w1, w2⟩) fNil.1
        cases hfr : fR S l t2 y (S.2.1 1 t2) 0 0 with
        | none =>
          rw [hfr] at hr g1
          have hr' : fN (mFold M2 (nu1 l) (fun y => nu1 (rowAt S t2 y)) y (S.2.1 1 t2) 0 0 0).2 := hr
          have g1' : C.1 (100 + (S.2.1 0 1 + x)) y = 1 ∧ C.2.2.2 (1 + (S.2.1 0 1 + x)) y = 0 := g1
          exact Or.inr ⟨g1'.1, g1'.2, (fN_nan _).mp hr'⟩
        | some u =>
          rw [hfr] at hr g1
          have hr' : (mFold M2 (nu1 l) (fun y => nu1 (rowAt S t2 y)) y (S.2.1 1 t2) 0 0 0).2 = u ∧ ¬ fN u := hr
          have g1' : C.1 (100 + (S.2.1 0 1 + x)) y = 0 ∧ C.2.2.2 (1 + (S.2.1 0 1 + x)) y = u := g1
          exact Or.inl ⟨g1'.1, by rw [hr'.1, g1'.2], by rw [hr'.1]; exact fun q => hr'.2 ((fN_nan _).mpr q)⟩
  · exact st_same h' (k_prod_state (d := 195) hW ht ht2 cM) (q_prod_state (d := 197) hs.1 h16 ht ht2 v1 v2 cM)
end GL7
