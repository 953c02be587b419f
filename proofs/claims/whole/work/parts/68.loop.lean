/-! The law's loop. -/
section LO
variable {X : I_X} {S : St} {d i n j : Nat} {a : Int32} {l4 l5 l6 l7 : Option Value}
theorem sld (h : j < X.2.2.1) (hL : X.2.2.1 ≤ 4096) : I_sld X X.2.1 (nI j) = some (X.2.2.2 j) := by
  unfold I_sld
  rw [if_pos ⟨rfl, I_in_nI h (by omega)⟩, nI_clamp (by omega)]
theorem slen : I_slen X X.2.1 = some (nI X.2.2.1) := if_pos rfl
theorem nI_k1 : nI n + 1 = nI (n + 1) := nI_1 n
theorem nI_k2 : nI n + 2 = nI (n + 2) := nI_add (a := n) (b := 2)
theorem nI_k3 : nI n + 3 = nI (n + 3) := nI_add (a := n) (b := 3)
theorem nI_k4 : nI n + 4 = nI (n + 4) := nI_add (a := n) (b := 4)
theorem nI_k5 : nI n + 5 = nI (n + 5) := nI_add (a := n) (b := 5)
theorem nI_k6 : nI n + 6 = nI (n + 6) := nI_add (a := n) (b := 6)
theorem nI_k7 : nI n + 7 = nI (n + 7) := nI_add (a := n) (b := 7)
theorem nI_k8 : nI n + 8 = nI (n + 8) := nI_add (a := n) (b := 8)
theorem lw_table (h : GS S n) (hL : X.2.2.1 ≤ 4096) (hi : i + 8 ≤ X.2.2.1) : ∃ S2, GS S2 (n + 1) ∧ ev X 200 m_L_law 136 [some (va_rf (some X.2.1)), some (va_rf (some (aO X))), some (va_rf (some (aM X))), some (.int (nI i)), l4, l5, l6, l7] [] (rp X S) = ev X 200 m_L_law 924 [some (va_rf (some X.2.1)), some (va_rf (some (aO X))), some (va_rf (some (aM X))), some (.int (nI i)), l4, l5, l6, l7] [] (rp X S2) := by
  obtain ⟨v, S1, S2, e1, e2, e3⟩ := st_table (X := X) (a := X.2.2.2 (i + 1)) (b := X.2.2.2 (i + 2)) h
  refine ⟨S2, e3, ?_⟩
  simp only [e_L_law_136, e_L_law_137, e_L_law_138, e_L_law_139, e_L_law_140, e_L_law_141, e_L_law_142, e_L_law_143, e_L_law_144, e_L_law_145, e_L_law_146, e_L_law_147, e_L_law_150, e_L_law_151, e_L_law_152, e_L_law_153, e_L_law_154, e_L_law_155, e_L_law_156, e_L_law_157, e_L_law_158, e_L_law_159, e_L_law_160, e_L_law_161, e_L_law_164, e_L_law_167, e_L_law_168, Option.bind_some, Option.bind_none, Option.toList_some, Option.toList_none, List.cons_append, List.nil_append, I_z, I_i8, I_q8, I_i7, I_q7, I_i6, I_q6, I_i5, I_q5, I_i4, I_q4, I_i3, I_q3, I_i2, I_q2, I_i1, I_q1, I_w8, I_w7, I_w6, I_w5, I_w4, I_w3, I_w2, I_c2n, I_c2i, I_c2q, eq_self, or_true, true_or, and_true, true_and, if_true, if_false, not_false_eq_true, not_true_eq_false, Option.map_none, Option.map_some, reduceCtorEq, isO, isM, sld (X := X) (j := i + 1) (by omega) hL, sld (X := X) (j := i + 2) (by omega) hL, nI_k1, nI_k2, e1, e2]
theorem lw_row (h : GS S n) (hL : X.2.2.1 ≤ 4096) (hi : i + 8 ≤ X.2.2.1) : ∃ S2, GS S2 (n + 1) ∧ ev X 200 m_L_law 169 [some (va_rf (some X.2.1)), some (va_rf (some (aO X))), some (va_rf (some (aM X))), some (.int (nI i)), l4, l5, l6, l7] [] (rp X S) = ev X 200 m_L_law 924 [some (va_rf (some X.2.1)), some (va_rf (some (aO X))), some (va_rf (some (aM X))), some (.int (nI i)), l4, l5, l6, l7] [] (rp X S2) := by
  obtain ⟨v, S1, S2, e1, e2, e3⟩ := st_row (X := X) (a := X.2.2.2 (i + 1)) (b := X.2.2.2 (i + 2)) (c := X.2.2.2 (i + 3)) h
  refine ⟨S2, e3, ?_⟩
  simp only [e_L_law_169, e_L_law_170, e_L_law_171, e_L_law_172, e_L_law_173, e_L_law_174, e_L_law_175, e_L_law_176, e_L_law_177, e_L_law_178, e_L_law_179, e_L_law_180, e_L_law_181, e_L_law_182, e_L_law_183, e_L_law_184, e_L_law_185, e_L_law_188, e_L_law_189, e_L_law_190, e_L_law_191, e_L_law_192, e_L_law_193, e_L_law_194, e_L_law_195, e_L_law_196, e_L_law_197, e_L_law_198, e_L_law_199, e_L_law_200, e_L_law_201, e_L_law_202, e_L_law_203, e_L_law_204, e_L_law_207, e_L_law_210, e_L_law_211, Option.bind_some, Option.bind_none, Option.toList_some, Option.toList_none, List.cons_append, List.nil_append, I_z, I_i8, I_q8, I_i7, I_q7, I_i6, I_q6, I_i5, I_q5, I_i4, I_q4, I_i3, I_q3, I_i2, I_q2, I_i1, I_q1, I_w8, I_w7, I_w6, I_w5, I_w4, I_w3, I_w2, I_c2n, I_c2i, I_c2q, eq_self, or_true, true_or, and_true, true_and, if_true, if_false, not_false_eq_true, not_true_eq_false, Option.map_none, Option.map_some, reduceCtorEq, isO, isM, sld (X := X) (j := i + 1) (by omega) hL, sld (X := X) (j := i + 2) (by omega) hL, sld (X := X) (j := i + 3) (by omega) hL, nI_k1, nI_k2, nI_k3, e1, e2]
theorem lw_share (h : GS S n) (hL : X.2.2.1 ≤ 4096) (hi : i + 8 ≤ X.2.2.1) : ∃ S2, GS S2 (n + 1) ∧ ev X 200 m_L_law 212 [some (va_rf (some X.2.1)), some (va_rf (some (aO X))), some (va_rf (some (aM X))), some (.int (nI i)), l4, l5, l6, l7] [] (rp X S) = ev X 200 m_L_law 924 [some (va_rf (some X.2.1)), some (va_rf (some (aO X))), some (va_rf (some (aM X))), some (.int (nI i)), l4, l5, l6, l7] [] (rp X S2) := by
  obtain ⟨v, S1, S2, e1, e2, e3⟩ := st_share (X := X) (a := X.2.2.2 (i + 1)) (b := X.2.2.2 (i + 2)) (c := X.2.2.2 (i + 3)) (x := X.2.2.2 (i + 4)) h
  refine ⟨S2, e3, ?_⟩
  simp only [e_L_law_212, e_L_law_213, e_L_law_214, e_L_law_215, e_L_law_216, e_L_law_217, e_L_law_218, e_L_law_219, e_L_law_220, e_L_law_221, e_L_law_222, e_L_law_223, e_L_law_224, e_L_law_225, e_L_law_226, e_L_law_227, e_L_law_228, e_L_law_229, e_L_law_230, e_L_law_231, e_L_law_232, e_L_law_233, e_L_law_236, e_L_law_237, e_L_law_238, e_L_law_239, e_L_law_240, e_L_law_241, e_L_law_242, e_L_law_243, e_L_law_244, e_L_law_245, e_L_law_246, e_L_law_247, e_L_law_248, e_L_law_249, e_L_law_250, e_L_law_251, e_L_law_252, e_L_law_253, e_L_law_254, e_L_law_255, e_L_law_256, e_L_law_257, e_L_law_260, e_L_law_263, e_L_law_264, Option.bind_some, Option.bind_none, Option.toList_some, Option.toList_none, List.cons_append, List.nil_append, I_z, I_i8, I_q8, I_i7, I_q7, I_i6, I_q6, I_i5, I_q5, I_i4, I_q4, I_i3, I_q3, I_i2, I_q2, I_i1, I_q1, I_w8, I_w7, I_w6, I_w5, I_w4, I_w3, I_w2, I_c2n, I_c2i, I_c2q, eq_self, or_true, true_or, and_true, true_and, if_true, if_false, not_false_eq_true, not_true_eq_false, Option.map_none, Option.map_some, reduceCtorEq, isO, isM, sld (X := X) (j := i + 1) (by omega) hL, sld (X := X) (j := i + 2) (by omega) hL, sld (X := X) (j := i + 3) (by omega) hL, sld (X := X) (j := i + 4) (by omega) hL, nI_k1, nI_k2, nI_k3, nI_k4, e1, e2]
theorem lw_fall (h : GS S n) (hL : X.2.2.1 ≤ 4096) (hi : i + 8 ≤ X.2.2.1) : ∃ S2, GS S2 (n + 1) ∧ ev X 200 m_L_law 265 [some (va_rf (some X.2.1)), some (va_rf (some (aO X))), some (va_rf (some (aM X))), some (.int (nI i)), l4, l5, l6, l7] [] (rp X S) = ev X 200 m_L_law 924 [some (va_rf (some X.2.1)), some (va_rf (some (aO X))), some (va_rf (some (aM X))), some (.int (nI i)), l4, l5, l6, l7] [] (rp X S2) := by
  obtain ⟨v, S1, S2, e1, e2, e3⟩ := st_fall (X := X) (a := X.2.2.2 (i + 1)) (b := X.2.2.2 (i + 2)) h
  refine ⟨S2, e3, ?_⟩
  simp only [e_L_law_265, e_L_law_266, e_L_law_267, e_L_law_268, e_L_law_269, e_L_law_270, e_L_law_271, e_L_law_272, e_L_law_273, e_L_law_274, e_L_law_275, e_L_law_276, e_L_law_279, e_L_law_280, e_L_law_281, e_L_law_282, e_L_law_283, e_L_law_284, e_L_law_285, e_L_law_286, e_L_law_287, e_L_law_288, e_L_law_289, e_L_law_290, e_L_law_293, e_L_law_296, e_L_law_297, Option.bind_some, Option.bind_none, Option.toList_some, Option.toList_none, List.cons_append, List.nil_append, I_z, I_i8, I_q8, I_i7, I_q7, I_i6, I_q6, I_i5, I_q5, I_i4, I_q4, I_i3, I_q3, I_i2, I_q2, I_i1, I_q1, I_w8, I_w7, I_w6, I_w5, I_w4, I_w3, I_w2, I_c2n, I_c2i, I_c2q, eq_self, or_true, true_or, and_true, true_and, if_true, if_false, not_false_eq_true, not_true_eq_false, Option.map_none, Option.map_some, reduceCtorEq, isO, isM, sld (X := X) (j := i + 1) (by omega) hL, sld (X := X) (j := i + 2) (by omega) hL, nI_k1, nI_k2, e1, e2]
theorem lw_put (h : GS S n) (hL : X.2.2.1 ≤ 4096) (hi : i + 8 ≤ X.2.2.1) : ∃ S2, GS S2 (n + 1) ∧ ev X 200 m_L_law 298 [some (va_rf (some X.2.1)), some (va_rf (some (aO X))), some (va_rf (some (aM X))), some (.int (nI i)), l4, l5, l6, l7] [] (rp X S) = ev X 200 m_L_law 924 [some (va_rf (some X.2.1)), some (va_rf (some (aO X))), some (va_rf (some (aM X))), some (.int (nI i)), l4, l5, l6, l7] [] (rp X S2) := by
  obtain ⟨v, S1, S2, e1, e2, e3⟩ := st_put (X := X) (a := X.2.2.2 (i + 1)) (b := X.2.2.2 (i + 2)) (c := X.2.2.2 (i + 3)) (v := X.2.2.2 (i + 4)) h
  refine ⟨S2, e3, ?_⟩
  simp only [e_L_law_298, e_L_law_299, e_L_law_300, e_L_law_301, e_L_law_302, e_L_law_303, e_L_law_304, e_L_law_305, e_L_law_306, e_L_law_307, e_L_law_308, e_L_law_309, e_L_law_310, e_L_law_311, e_L_law_312, e_L_law_313, e_L_law_314, e_L_law_315, e_L_law_316, e_L_law_317, e_L_law_318, e_L_law_319, e_L_law_322, e_L_law_323, e_L_law_324, e_L_law_325, e_L_law_326, e_L_law_327, e_L_law_328, e_L_law_329, e_L_law_330, e_L_law_331, e_L_law_332, e_L_law_333, e_L_law_334, e_L_law_335, e_L_law_336, e_L_law_337, e_L_law_338, e_L_law_339, e_L_law_340, e_L_law_341, e_L_law_342, e_L_law_343, e_L_law_346, e_L_law_349, e_L_law_350, Option.bind_some, Option.bind_none, Option.toList_some, Option.toList_none, List.cons_append, List.nil_append, I_z, I_i8, I_q8, I_i7, I_q7, I_i6, I_q6, I_i5, I_q5, I_i4, I_q4, I_i3, I_q3, I_i2, I_q2, I_i1, I_q1, I_w8, I_w7, I_w6, I_w5, I_w4, I_w3, I_w2, I_c2n, I_c2i, I_c2q, eq_self, or_true, true_or, and_true, true_and, if_true, if_false, not_false_eq_true, not_true_eq_false, Option.map_none, Option.map_some, reduceCtorEq, isO, isM, sld (X := X) (j := i + 1) (by omega) hL, sld (X := X) (j := i + 2) (by omega) hL, sld (X := X) (j := i + 3) (by omega) hL, sld (X := X) (j := i + 4) (by omega) hL, nI_k1, nI_k2, nI_k3, nI_k4, e1, e2]
theorem lw_get (h : GS S n) (hL : X.2.2.1 ≤ 4096) (hi : i + 8 ≤ X.2.2.1) : ∃ S2, GS S2 (n + 1) ∧ ev X 200 m_L_law 351 [some (va_rf (some X.2.1)), some (va_rf (some (aO X))), some (va_rf (some (aM X))), some (.int (nI i)), l4, l5, l6, l7] [] (rp X S) = ev X 200 m_L_law 924 [some (va_rf (some X.2.1)), some (va_rf (some (aO X))), some (va_rf (some (aM X))), some (.int (nI i)), l4, l5, l6, l7] [] (rp X S2) := by
  obtain ⟨v, S1, S2, e1, e2, e3⟩ := st_get (X := X) (a := X.2.2.2 (i + 1)) (b := X.2.2.2 (i + 2)) (c := X.2.2.2 (i + 3)) h
  refine ⟨S2, e3, ?_⟩
  simp only [e_L_law_351, e_L_law_352, e_L_law_353, e_L_law_354, e_L_law_355, e_L_law_356, e_L_law_357, e_L_law_358, e_L_law_359, e_L_law_360, e_L_law_361, e_L_law_362, e_L_law_363, e_L_law_364, e_L_law_365, e_L_law_366, e_L_law_367, e_L_law_370, e_L_law_371, e_L_law_372, e_L_law_373, e_L_law_374, e_L_law_375, e_L_law_376, e_L_law_377, e_L_law_378, e_L_law_379, e_L_law_380, e_L_law_381, e_L_law_382, e_L_law_383, e_L_law_384, e_L_law_385, e_L_law_386, e_L_law_389, e_L_law_392, e_L_law_393, Option.bind_some, Option.bind_none, Option.toList_some, Option.toList_none, List.cons_append, List.nil_append, I_z, I_i8, I_q8, I_i7, I_q7, I_i6, I_q6, I_i5, I_q5, I_i4, I_q4, I_i3, I_q3, I_i2, I_q2, I_i1, I_q1, I_w8, I_w7, I_w6, I_w5, I_w4, I_w3, I_w2, I_c2n, I_c2i, I_c2q, eq_self, or_true, true_or, and_true, true_and, if_true, if_false, not_false_eq_true, not_true_eq_false, Option.map_none, Option.map_some, reduceCtorEq, isO, isM, sld (X := X) (j := i + 1) (by omega) hL, sld (X := X) (j := i + 2) (by omega) hL, sld (X := X) (j := i + 3) (by omega) hL, nI_k1, nI_k2, nI_k3, e1, e2]
theorem lw_told (h : GS S n) (hL : X.2.2.1 ≤ 4096) (hi : i + 8 ≤ X.2.2.1) : ∃ S2, GS S2 (n + 1) ∧ ev X 200 m_L_law 465 [some (va_rf (some X.2.1)), some (va_rf (some (aO X))), some (va_rf (some (aM X))), some (.int (nI i)), l4, l5, l6, l7] [] (rp X S) = ev X 200 m_L_law 924 [some (va_rf (some X.2.1)), some (va_rf (some (aO X))), some (va_rf (some (aM X))), some (.int (nI i)), l4, l5, l6, l7] [] (rp X S2) := by
  obtain ⟨v, S1, S2, e1, e2, e3⟩ := st_told (X := X) (a := X.2.2.2 (i + 1)) (b := X.2.2.2 (i + 2)) (c := X.2.2.2 (i + 3)) h
  refine ⟨S2, e3, ?_⟩
  simp only [e_L_law_465, e_L_law_466, e_L_law_467, e_L_law_468, e_L_law_469, e_L_law_470, e_L_law_471, e_L_law_472, e_L_law_473, e_L_law_474, e_L_law_475, e_L_law_476, e_L_law_477, e_L_law_478, e_L_law_479, e_L_law_480, e_L_law_481, e_L_law_484, e_L_law_485, e_L_law_486, e_L_law_487, e_L_law_488, e_L_law_489, e_L_law_490, e_L_law_491, e_L_law_492, e_L_law_493, e_L_law_494, e_L_law_495, e_L_law_496, e_L_law_497, e_L_law_498, e_L_law_499, e_L_law_500, e_L_law_503, e_L_law_506, e_L_law_507, Option.bind_some, Option.bind_none, Option.toList_some, Option.toList_none, List.cons_append, List.nil_append, I_z, I_i8, I_q8, I_i7, I_q7, I_i6, I_q6, I_i5, I_q5, I_i4, I_q4, I_i3, I_q3, I_i2, I_q2, I_i1, I_q1, I_w8, I_w7, I_w6, I_w5, I_w4, I_w3, I_w2, I_c2n, I_c2i, I_c2q, eq_self, or_true, true_or, and_true, true_and, if_true, if_false, not_false_eq_true, not_true_eq_false, Option.map_none, Option.map_some, reduceCtorEq, isO, isM, sld (X := X) (j := i + 1) (by omega) hL, sld (X := X) (j := i + 2) (by omega) hL, sld (X := X) (j := i + 3) (by omega) hL, nI_k1, nI_k2, nI_k3, e1, e2]
theorem lw_odd (h : GS S n) (hL : X.2.2.1 ≤ 4096) (hi : i + 8 ≤ X.2.2.1) : ∃ S2, GS S2 (n + 1) ∧ ev X 200 m_L_law 508 [some (va_rf (some X.2.1)), some (va_rf (some (aO X))), some (va_rf (some (aM X))), some (.int (nI i)), l4, l5, l6, l7] [] (rp X S) = ev X 200 m_L_law 924 [some (va_rf (some X.2.1)), some (va_rf (some (aO X))), some (va_rf (some (aM X))), some (.int (nI i)), l4, l5, l6, l7] [] (rp X S2) := by
  obtain ⟨v, S1, S2, e1, e2, e3⟩ := st_odd (X := X) (a := X.2.2.2 (i + 1)) h
  refine ⟨S2, e3, ?_⟩
  simp only [e_L_law_508, e_L_law_509, e_L_law_510, e_L_law_511, e_L_law_512, e_L_law_513, e_L_law_514, e_L_law_517, e_L_law_518, e_L_law_519, e_L_law_520, e_L_law_521, e_L_law_522, e_L_law_523, e_L_law_526, e_L_law_529, e_L_law_530, Option.bind_some, Option.bind_none, Option.toList_some, Option.toList_none, List.cons_append, List.nil_append, I_z, I_i8, I_q8, I_i7, I_q7, I_i6, I_q6, I_i5, I_q5, I_i4, I_q4, I_i3, I_q3, I_i2, I_q2, I_i1, I_q1, I_w8, I_w7, I_w6, I_w5, I_w4, I_w3, I_w2, I_c2n, I_c2i, I_c2q, eq_self, or_true, true_or, and_true, true_and, if_true, if_false, not_false_eq_true, not_true_eq_false, Option.map_none, Option.map_some, reduceCtorEq, isO, isM, sld (X := X) (j := i + 1) (by omega) hL, nI_k1, e1, e2]
theorem lw_copy (h : GS S n) (hL : X.2.2.1 ≤ 4096) (hi : i + 8 ≤ X.2.2.1) : ∃ S2, GS S2 (n + 1) ∧ ev X 200 m_L_law 531 [some (va_rf (some X.2.1)), some (va_rf (some (aO X))), some (va_rf (some (aM X))), some (.int (nI i)), l4, l5, l6, l7] [] (rp X S) = ev X 200 m_L_law 924 [some (va_rf (some X.2.1)), some (va_rf (some (aO X))), some (va_rf (some (aM X))), some (.int (nI i)), l4, l5, l6, l7] [] (rp X S2) := by
  obtain ⟨v, S1, S2, e1, e2, e3⟩ := st_copy (X := X) (a := X.2.2.2 (i + 1)) (b := X.2.2.2 (i + 2)) (c := X.2.2.2 (i + 3)) (e := X.2.2.2 (i + 4)) (v := X.2.2.2 (i + 5)) (x := X.2.2.2 (i + 6)) (y := X.2.2.2 (i + 7)) h
  refine ⟨S2, e3, ?_⟩
  simp only [e_L_law_531, e_L_law_532, e_L_law_533, e_L_law_534, e_L_law_535, e_L_law_536, e_L_law_537, e_L_law_538, e_L_law_539, e_L_law_540, e_L_law_541, e_L_law_542, e_L_law_543, e_L_law_544, e_L_law_545, e_L_law_546, e_L_law_547, e_L_law_548, e_L_law_549, e_L_law_550, e_L_law_551, e_L_law_552, e_L_law_553, e_L_law_554, e_L_law_555, e_L_law_556, e_L_law_557, e_L_law_558, e_L_law_559, e_L_law_561, e_L_law_562, e_L_law_563, e_L_law_564, e_L_law_565, e_L_law_567, e_L_law_568, e_L_law_569, e_L_law_572, e_L_law_573, e_L_law_574, e_L_law_575, e_L_law_576, e_L_law_577, e_L_law_578, e_L_law_579, e_L_law_580, e_L_law_581, e_L_law_582, e_L_law_583, e_L_law_584, e_L_law_585, e_L_law_586, e_L_law_587, e_L_law_588, e_L_law_589, e_L_law_590, e_L_law_591, e_L_law_592, e_L_law_593, e_L_law_594, e_L_law_595, e_L_law_596, e_L_law_597, e_L_law_598, e_L_law_599, e_L_law_600, e_L_law_602, e_L_law_603, e_L_law_604, e_L_law_605, e_L_law_606, e_L_law_608, e_L_law_609, e_L_law_610, e_L_law_613, e_L_law_616, e_L_law_617, Option.bind_some, Option.bind_none, Option.toList_some, Option.toList_none, List.cons_append, List.nil_append, I_z, I_i8, I_q8, I_i7, I_q7, I_i6, I_q6, I_i5, I_q5, I_i4, I_q4, I_i3, I_q3, I_i2, I_q2, I_i1, I_q1, I_w8, I_w7, I_w6, I_w5, I_w4, I_w3, I_w2, I_c2n, I_c2i, I_c2q, eq_self, or_true, true_or, and_true, true_and, if_true, if_false, not_false_eq_true, not_true_eq_false, Option.map_none, Option.map_some, reduceCtorEq, isO, isM, sld (X := X) (j := i + 1) (by omega) hL, sld (X := X) (j := i + 2) (by omega) hL, sld (X := X) (j := i + 3) (by omega) hL, sld (X := X) (j := i + 4) (by omega) hL, sld (X := X) (j := i + 5) (by omega) hL, sld (X := X) (j := i + 6) (by omega) hL, sld (X := X) (j := i + 7) (by omega) hL, nI_k1, nI_k2, nI_k3, nI_k4, nI_k5, nI_k6, nI_k7, e1, e2]
theorem lw_turned (h : GS S n) (hL : X.2.2.1 ≤ 4096) (hi : i + 8 ≤ X.2.2.1) : ∃ S2, GS S2 (n + 1) ∧ ev X 200 m_L_law 618 [some (va_rf (some X.2.1)), some (va_rf (some (aO X))), some (va_rf (some (aM X))), some (.int (nI i)), l4, l5, l6, l7] [] (rp X S) = ev X 200 m_L_law 924 [some (va_rf (some X.2.1)), some (va_rf (some (aO X))), some (va_rf (some (aM X))), some (.int (nI i)), l4, l5, l6, l7] [] (rp X S2) := by
  obtain ⟨v, S1, S2, e1, e2, e3⟩ := st_turned (X := X) (a := X.2.2.2 (i + 1)) h
  refine ⟨S2, e3, ?_⟩
  simp only [e_L_law_618, e_L_law_619, e_L_law_620, e_L_law_621, e_L_law_622, e_L_law_623, e_L_law_624, e_L_law_627, e_L_law_628, e_L_law_629, e_L_law_630, e_L_law_631, e_L_law_632, e_L_law_633, e_L_law_636, e_L_law_639, e_L_law_640, Option.bind_some, Option.bind_none, Option.toList_some, Option.toList_none, List.cons_append, List.nil_append, I_z, I_i8, I_q8, I_i7, I_q7, I_i6, I_q6, I_i5, I_q5, I_i4, I_q4, I_i3, I_q3, I_i2, I_q2, I_i1, I_q1, I_w8, I_w7, I_w6, I_w5, I_w4, I_w3, I_w2, I_c2n, I_c2i, I_c2q, eq_self, or_true, true_or, and_true, true_and, if_true, if_false, not_false_eq_true, not_true_eq_false, Option.map_none, Option.map_some, reduceCtorEq, isO, isM, sld (X := X) (j := i + 1) (by omega) hL, nI_k1, e1, e2]
theorem lw_product (h : GS S n) (hL : X.2.2.1 ≤ 4096) (hi : i + 8 ≤ X.2.2.1) : ∃ S2, GS S2 (n + 1) ∧ ev X 200 m_L_law 641 [some (va_rf (some X.2.1)), some (va_rf (some (aO X))), some (va_rf (some (aM X))), some (.int (nI i)), l4, l5, l6, l7] [] (rp X S) = ev X 200 m_L_law 924 [some (va_rf (some X.2.1)), some (va_rf (some (aO X))), some (va_rf (some (aM X))), some (.int (nI i)), l4, l5, l6, l7] [] (rp X S2) := by
  obtain ⟨v, S1, S2, e1, e2, e3⟩ := st_prod (X := X) (a := X.2.2.2 (i + 1)) (b := X.2.2.2 (i + 2)) h
  refine ⟨S2, e3, ?_⟩
  simp only [e_L_law_641, e_L_law_642, e_L_law_643, e_L_law_644, e_L_law_645, e_L_law_646, e_L_law_647, e_L_law_648, e_L_law_649, e_L_law_650, e_L_law_651, e_L_law_652, e_L_law_655, e_L_law_656, e_L_law_657, e_L_law_658, e_L_law_659, e_L_law_660, e_L_law_661, e_L_law_662, e_L_law_663, e_L_law_664, e_L_law_665, e_L_law_666, e_L_law_669, e_L_law_672, e_L_law_673, Option.bind_some, Option.bind_none, Option.toList_some, Option.toList_none, List.cons_append, List.nil_append, I_z, I_i8, I_q8, I_i7, I_q7, I_i6, I_q6, I_i5, I_q5, I_i4, I_q4, I_i3, I_q3, I_i2, I_q2, I_i1, I_q1, I_w8, I_w7, I_w6, I_w5, I_w4, I_w3, I_w2, I_c2n, I_c2i, I_c2q, eq_self, or_true, true_or, and_true, true_and, if_true, if_false, not_false_eq_true, not_true_eq_false, Option.map_none, Option.map_some, reduceCtorEq, isO, isM, sld (X := X) (j := i + 1) (by omega) hL, sld (X := X) (j := i + 2) (by omega) hL, nI_k1, nI_k2, e1, e2]
theorem lw_distances (h : GS S n) (hL : X.2.2.1 ≤ 4096) (hi : i + 8 ≤ X.2.2.1) : ∃ S2, GS S2 (n + 1) ∧ ev X 200 m_L_law 674 [some (va_rf (some X.2.1)), some (va_rf (some (aO X))), some (va_rf (some (aM X))), some (.int (nI i)), l4, l5, l6, l7] [] (rp X S) = ev X 200 m_L_law 924 [some (va_rf (some X.2.1)), some (va_rf (some (aO X))), some (va_rf (some (aM X))), some (.int (nI i)), l4, l5, l6, l7] [] (rp X S2) := by
  obtain ⟨v, S1, S2, e1, e2, e3⟩ := st_dist (X := X) (a := X.2.2.2 (i + 1)) h
  refine ⟨S2, e3, ?_⟩
  simp only [e_L_law_674, e_L_law_675, e_L_law_676, e_L_law_677, e_L_law_678, e_L_law_679, e_L_law_680, e_L_law_683, e_L_law_684, e_L_law_685, e_L_law_686, e_L_law_687, e_L_law_688, e_L_law_689, e_L_law_692, e_L_law_695, e_L_law_696, Option.bind_some, Option.bind_none, Option.toList_some, Option.toList_none, List.cons_append, List.nil_append, I_z, I_i8, I_q8, I_i7, I_q7, I_i6, I_q6, I_i5, I_q5, I_i4, I_q4, I_i3, I_q3, I_i2, I_q2, I_i1, I_q1, I_w8, I_w7, I_w6, I_w5, I_w4, I_w3, I_w2, I_c2n, I_c2i, I_c2q, eq_self, or_true, true_or, and_true, true_and, if_true, if_false, not_false_eq_true, not_true_eq_false, Option.map_none, Option.map_some, reduceCtorEq, isO, isM, sld (X := X) (j := i + 1) (by omega) hL, nI_k1, e1, e2]
theorem lw_pack (h : GS S n) (hL : X.2.2.1 ≤ 4096) (hi : i + 8 ≤ X.2.2.1) : ∃ S2, GS S2 (n + 1) ∧ ev X 200 m_L_law 697 [some (va_rf (some X.2.1)), some (va_rf (some (aO X))), some (va_rf (some (aM X))), some (.int (nI i)), l4, l5, l6, l7] [] (rp X S) = ev X 200 m_L_law 924 [some (va_rf (some X.2.1)), some (va_rf (some (aO X))), some (va_rf (some (aM X))), some (.int (nI i)), l4, l5, l6, l7] [] (rp X S2) := by
  obtain ⟨v, S1, S2, e1, e2, e3⟩ := st_pack (X := X) (a := X.2.2.2 (i + 1)) h
  refine ⟨S2, e3, ?_⟩
  simp only [e_L_law_697, e_L_law_698, e_L_law_699, e_L_law_700, e_L_law_701, e_L_law_702, e_L_law_703, e_L_law_706, e_L_law_707, e_L_law_708, e_L_law_709, e_L_law_710, e_L_law_711, e_L_law_712, e_L_law_715, e_L_law_718, e_L_law_719, Option.bind_some, Option.bind_none, Option.toList_some, Option.toList_none, List.cons_append, List.nil_append, I_z, I_i8, I_q8, I_i7, I_q7, I_i6, I_q6, I_i5, I_q5, I_i4, I_q4, I_i3, I_q3, I_i2, I_q2, I_i1, I_q1, I_w8, I_w7, I_w6, I_w5, I_w4, I_w3, I_w2, I_c2n, I_c2i, I_c2q, eq_self, or_true, true_or, and_true, true_and, if_true, if_false, not_false_eq_true, not_true_eq_false, Option.map_none, Option.map_some, reduceCtorEq, isO, isM, sld (X := X) (j := i + 1) (by omega) hL, nI_k1, e1, e2]
theorem lw_word (h : GS S n) (hL : X.2.2.1 ≤ 4096) (hi : i + 8 ≤ X.2.2.1) : ∃ S2, GS S2 (n + 1) ∧ ev X 200 m_L_law 720 [some (va_rf (some X.2.1)), some (va_rf (some (aO X))), some (va_rf (some (aM X))), some (.int (nI i)), l4, l5, l6, l7] [] (rp X S) = ev X 200 m_L_law 924 [some (va_rf (some X.2.1)), some (va_rf (some (aO X))), some (va_rf (some (aM X))), some (.int (nI i)), l4, l5, l6, l7] [] (rp X S2) := by
  obtain ⟨v, S1, S2, e1, e2, e3⟩ := st_word (X := X) (a := X.2.2.2 (i + 1)) h
  refine ⟨S2, e3, ?_⟩
  simp only [e_L_law_720, e_L_law_721, e_L_law_722, e_L_law_723, e_L_law_724, e_L_law_725, e_L_law_726, e_L_law_729, e_L_law_730, e_L_law_731, e_L_law_732, e_L_law_733, e_L_law_734, e_L_law_735, e_L_law_738, e_L_law_741, e_L_law_742, Option.bind_some, Option.bind_none, Option.toList_some, Option.toList_none, List.cons_append, List.nil_append, I_z, I_i8, I_q8, I_i7, I_q7, I_i6, I_q6, I_i5, I_q5, I_i4, I_q4, I_i3, I_q3, I_i2, I_q2, I_i1, I_q1, I_w8, I_w7, I_w6, I_w5, I_w4, I_w3, I_w2, I_c2n, I_c2i, I_c2q, eq_self, or_true, true_or, and_true, true_and, if_true, if_false, not_false_eq_true, not_true_eq_false, Option.map_none, Option.map_some, reduceCtorEq, isO, isM, sld (X := X) (j := i + 1) (by omega) hL, nI_k1, e1, e2]
theorem lw_alike (h : GS S n) (hL : X.2.2.1 ≤ 4096) (hi : i + 8 ≤ X.2.2.1) : ∃ S2, GS S2 (n + 1) ∧ ev X 200 m_L_law 743 [some (va_rf (some X.2.1)), some (va_rf (some (aO X))), some (va_rf (some (aM X))), some (.int (nI i)), l4, l5, l6, l7] [] (rp X S) = ev X 200 m_L_law 924 [some (va_rf (some X.2.1)), some (va_rf (some (aO X))), some (va_rf (some (aM X))), some (.int (nI i)), l4, l5, l6, l7] [] (rp X S2) := by
  obtain ⟨v, S1, S2, e1, e2, e3⟩ := st_alike (X := X) (a := X.2.2.2 (i + 1)) (b := X.2.2.2 (i + 2)) h
  refine ⟨S2, e3, ?_⟩
  simp only [e_L_law_743, e_L_law_744, e_L_law_745, e_L_law_746, e_L_law_747, e_L_law_748, e_L_law_749, e_L_law_750, e_L_law_751, e_L_law_752, e_L_law_753, e_L_law_754, e_L_law_757, e_L_law_758, e_L_law_759, e_L_law_760, e_L_law_761, e_L_law_762, e_L_law_763, e_L_law_764, e_L_law_765, e_L_law_766, e_L_law_767, e_L_law_768, e_L_law_771, e_L_law_774, e_L_law_775, Option.bind_some, Option.bind_none, Option.toList_some, Option.toList_none, List.cons_append, List.nil_append, I_z, I_i8, I_q8, I_i7, I_q7, I_i6, I_q6, I_i5, I_q5, I_i4, I_q4, I_i3, I_q3, I_i2, I_q2, I_i1, I_q1, I_w8, I_w7, I_w6, I_w5, I_w4, I_w3, I_w2, I_c2n, I_c2i, I_c2q, eq_self, or_true, true_or, and_true, true_and, if_true, if_false, not_false_eq_true, not_true_eq_false, Option.map_none, Option.map_some, reduceCtorEq, isO, isM, sld (X := X) (j := i + 1) (by omega) hL, sld (X := X) (j := i + 2) (by omega) hL, nI_k1, nI_k2, e1, e2]
theorem lw_same (h : GS S n) (hL : X.2.2.1 ≤ 4096) (hi : i + 8 ≤ X.2.2.1) : ∃ S2, GS S2 (n + 1) ∧ ev X 200 m_L_law 776 [some (va_rf (some X.2.1)), some (va_rf (some (aO X))), some (va_rf (some (aM X))), some (.int (nI i)), l4, l5, l6, l7] [] (rp X S) = ev X 200 m_L_law 924 [some (va_rf (some X.2.1)), some (va_rf (some (aO X))), some (va_rf (some (aM X))), some (.int (nI i)), l4, l5, l6, l7] [] (rp X S2) := by
  obtain ⟨v, S1, S2, e1, e2, e3⟩ := st_s (X := X) (a := X.2.2.2 (i + 1)) (b := X.2.2.2 (i + 2)) (c := X.2.2.2 (i + 3)) (x := X.2.2.2 (i + 4)) h
  refine ⟨S2, e3, ?_⟩
  simp only [e_L_law_776, e_L_law_777, e_L_law_778, e_L_law_779, e_L_law_780, e_L_law_781, e_L_law_782, e_L_law_783, e_L_law_784, e_L_law_785, e_L_law_786, e_L_law_787, e_L_law_788, e_L_law_789, e_L_law_790, e_L_law_791, e_L_law_792, e_L_law_793, e_L_law_794, e_L_law_795, e_L_law_796, e_L_law_797, e_L_law_800, e_L_law_801, e_L_law_802, e_L_law_803, e_L_law_804, e_L_law_805, e_L_law_806, e_L_law_807, e_L_law_808, e_L_law_809, e_L_law_810, e_L_law_811, e_L_law_812, e_L_law_813, e_L_law_814, e_L_law_815, e_L_law_816, e_L_law_817, e_L_law_818, e_L_law_819, e_L_law_820, e_L_law_821, e_L_law_824, e_L_law_827, e_L_law_828, Option.bind_some, Option.bind_none, Option.toList_some, Option.toList_none, List.cons_append, List.nil_append, I_z, I_i8, I_q8, I_i7, I_q7, I_i6, I_q6, I_i5, I_q5, I_i4, I_q4, I_i3, I_q3, I_i2, I_q2, I_i1, I_q1, I_w8, I_w7, I_w6, I_w5, I_w4, I_w3, I_w2, I_c2n, I_c2i, I_c2q, eq_self, or_true, true_or, and_true, true_and, if_true, if_false, not_false_eq_true, not_true_eq_false, Option.map_none, Option.map_some, reduceCtorEq, isO, isM, sld (X := X) (j := i + 1) (by omega) hL, sld (X := X) (j := i + 2) (by omega) hL, sld (X := X) (j := i + 3) (by omega) hL, sld (X := X) (j := i + 4) (by omega) hL, nI_k1, nI_k2, nI_k3, nI_k4, e1, e2]
theorem lw_total (h : GS S n) (hL : X.2.2.1 ≤ 4096) (hi : i + 8 ≤ X.2.2.1) : ∃ S2, GS S2 (n + 1) ∧ ev X 200 m_L_law 829 [some (va_rf (some X.2.1)), some (va_rf (some (aO X))), some (va_rf (some (aM X))), some (.int (nI i)), l4, l5, l6, l7] [] (rp X S) = ev X 200 m_L_law 924 [some (va_rf (some X.2.1)), some (va_rf (some (aO X))), some (va_rf (some (aM X))), some (.int (nI i)), l4, l5, l6, l7] [] (rp X S2) := by
  obtain ⟨v, S1, S2, e1, e2, e3⟩ := st_total (X := X) (a := X.2.2.2 (i + 1)) h
  refine ⟨S2, e3, ?_⟩
  simp only [e_L_law_829, e_L_law_830, e_L_law_831, e_L_law_832, e_L_law_833, e_L_law_834, e_L_law_835, e_L_law_838, e_L_law_839, e_L_law_840, e_L_law_841, e_L_law_842, e_L_law_843, e_L_law_844, e_L_law_847, e_L_law_850, e_L_law_851, Option.bind_some, Option.bind_none, Option.toList_some, Option.toList_none, List.cons_append, List.nil_append, I_z, I_i8, I_q8, I_i7, I_q7, I_i6, I_q6, I_i5, I_q5, I_i4, I_q4, I_i3, I_q3, I_i2, I_q2, I_i1, I_q1, I_w8, I_w7, I_w6, I_w5, I_w4, I_w3, I_w2, I_c2n, I_c2i, I_c2q, eq_self, or_true, true_or, and_true, true_and, if_true, if_false, not_false_eq_true, not_true_eq_false, Option.map_none, Option.map_some, reduceCtorEq, isO, isM, sld (X := X) (j := i + 1) (by omega) hL, nI_k1, e1, e2]
theorem lw_entered (h : GS S n) (hL : X.2.2.1 ≤ 4096) (hi : i + 8 ≤ X.2.2.1) : ∃ S2, GS S2 (n + 1) ∧ ev X 200 m_L_law 852 [some (va_rf (some X.2.1)), some (va_rf (some (aO X))), some (va_rf (some (aM X))), some (.int (nI i)), l4, l5, l6, l7] [] (rp X S) = ev X 200 m_L_law 924 [some (va_rf (some X.2.1)), some (va_rf (some (aO X))), some (va_rf (some (aM X))), some (.int (nI i)), l4, l5, l6, l7] [] (rp X S2) := by
  obtain ⟨v, S1, S2, e1, e2, e3⟩ := st_entered (X := X) h
  refine ⟨S2, e3, ?_⟩
  simp only [e_L_law_852, e_L_law_853, e_L_law_856, e_L_law_857, e_L_law_860, e_L_law_863, e_L_law_864, Option.bind_some, Option.bind_none, Option.toList_some, Option.toList_none, List.cons_append, List.nil_append, I_z, I_i8, I_q8, I_i7, I_q7, I_i6, I_q6, I_i5, I_q5, I_i4, I_q4, I_i3, I_q3, I_i2, I_q2, I_i1, I_q1, I_w8, I_w7, I_w6, I_w5, I_w4, I_w3, I_w2, I_c2n, I_c2i, I_c2q, eq_self, or_true, true_or, and_true, true_and, if_true, if_false, not_false_eq_true, not_true_eq_false, Option.map_none, Option.map_some, reduceCtorEq, isO, isM, e1, e2]
theorem lw_deep (h : GS S n) (hL : X.2.2.1 ≤ 4096) (hi : i + 8 ≤ X.2.2.1) : ∃ S2, GS S2 (n + 1) ∧ ev X 200 m_L_law 865 [some (va_rf (some X.2.1)), some (va_rf (some (aO X))), some (va_rf (some (aM X))), some (.int (nI i)), l4, l5, l6, l7] [] (rp X S) = ev X 200 m_L_law 924 [some (va_rf (some X.2.1)), some (va_rf (some (aO X))), some (va_rf (some (aM X))), some (.int (nI i)), l4, l5, l6, l7] [] (rp X S2) := by
  obtain ⟨v, S1, S2, e1, e2, e3⟩ := st_deep (X := X) (a := X.2.2.2 (i + 1)) h
  refine ⟨S2, e3, ?_⟩
  simp only [e_L_law_865, e_L_law_866, e_L_law_867, e_L_law_868, e_L_law_869, e_L_law_870, e_L_law_871, e_L_law_874, e_L_law_875, e_L_law_876, e_L_law_877, e_L_law_878, e_L_law_879, e_L_law_880, e_L_law_883, e_L_law_886, e_L_law_887, Option.bind_some, Option.bind_none, Option.toList_some, Option.toList_none, List.cons_append, List.nil_append, I_z, I_i8, I_q8, I_i7, I_q7, I_i6, I_q6, I_i5, I_q5, I_i4, I_q4, I_i3, I_q3, I_i2, I_q2, I_i1, I_q1, I_w8, I_w7, I_w6, I_w5, I_w4, I_w3, I_w2, I_c2n, I_c2i, I_c2q, eq_self, or_true, true_or, and_true, true_and, if_true, if_false, not_false_eq_true, not_true_eq_false, Option.map_none, Option.map_some, reduceCtorEq, isO, isM, sld (X := X) (j := i + 1) (by omega) hL, nI_k1, e1, e2]
theorem lw_count (h : GS S n) (hn : n < 100000) (hL : X.2.2.1 ≤ 4096) (hi : i + 8 ≤ X.2.2.1) : ∃ S2, GS S2 (n + 1) ∧ ev X 200 m_L_law 888 [some (va_rf (some X.2.1)), some (va_rf (some (aO X))), some (va_rf (some (aM X))), some (.int (nI i)), l4, l5, l6, l7] [] (rp X S) = ev X 200 m_L_law 924 [some (va_rf (some X.2.1)), some (va_rf (some (aO X))), some (va_rf (some (aM X))), some (.int (nI i)), l4, l5, l6, l7] [] (rp X S2) := by
  obtain ⟨v, S1, S2, e1, e2, e3⟩ := st_count (X := X) (a := X.2.2.2 (i + 1)) h hn
  refine ⟨S2, e3, ?_⟩
  simp only [e_L_law_888, e_L_law_889, e_L_law_890, e_L_law_891, e_L_law_892, e_L_law_893, e_L_law_894, e_L_law_897, e_L_law_898, e_L_law_899, e_L_law_900, e_L_law_901, e_L_law_902, e_L_law_903, e_L_law_906, e_L_law_909, e_L_law_910, Option.bind_some, Option.bind_none, Option.toList_some, Option.toList_none, List.cons_append, List.nil_append, I_z, I_i8, I_q8, I_i7, I_q7, I_i6, I_q6, I_i5, I_q5, I_i4, I_q4, I_i3, I_q3, I_i2, I_q2, I_i1, I_q1, I_w8, I_w7, I_w6, I_w5, I_w4, I_w3, I_w2, I_c2n, I_c2i, I_c2q, eq_self, or_true, true_or, and_true, true_and, if_true, if_false, not_false_eq_true, not_true_eq_false, Option.map_none, Option.map_some, reduceCtorEq, isO, isM, sld (X := X) (j := i + 1) (by omega) hL, nI_k1, e1, e2]
theorem lw_clear (h : GS S n) (hL : X.2.2.1 ≤ 4096) (hi : i + 8 ≤ X.2.2.1) : ∃ S2, GS S2 (n + 1) ∧ ev X 200 m_L_law 911 [some (va_rf (some X.2.1)), some (va_rf (some (aO X))), some (va_rf (some (aM X))), some (.int (nI i)), l4, l5, l6, l7] [] (rp X S) = ev X 200 m_L_law 924 [some (va_rf (some X.2.1)), some (va_rf (some (aO X))), some (va_rf (some (aM X))), some (.int (nI i)), l4, l5, l6, l7] [] (rp X S2) := by
  obtain ⟨v, S1, S2, e1, e2, e3⟩ := st_clear (X := X) h
  refine ⟨S2, e3, ?_⟩
  simp only [e_L_law_911, e_L_law_912, e_L_law_915, e_L_law_916, e_L_law_919, e_L_law_922, e_L_law_923, Option.bind_some, Option.bind_none, Option.toList_some, Option.toList_none, List.cons_append, List.nil_append, I_z, I_i8, I_q8, I_i7, I_q7, I_i6, I_q6, I_i5, I_q5, I_i4, I_q4, I_i3, I_q3, I_i2, I_q2, I_i1, I_q1, I_w8, I_w7, I_w6, I_w5, I_w4, I_w3, I_w2, I_c2n, I_c2i, I_c2q, eq_self, or_true, true_or, and_true, true_and, if_true, if_false, not_false_eq_true, not_true_eq_false, Option.map_none, Option.map_some, reduceCtorEq, isO, isM, e1, e2]
theorem cmp_v {v : UInt64} (h : ¬ fN v) : Op.cmpValue (FP.dcmp v v) .l = 0 := by
  rw [dc_key h h, i_cmp, if_neg (by omega), if_pos rfl]
theorem lw_real (h : GS S n) (hL : X.2.2.1 ≤ 4096) (hi : i + 8 ≤ X.2.2.1) : ∃ l4' l5' l6' l7', ev X 200 m_L_law 394 [some (va_rf (some X.2.1)), some (va_rf (some (aO X))), some (va_rf (some (aM X))), some (.int (nI i)), l4, l5, l6, l7] [] (rp X S) = ev X 200 m_L_law 924 [some (va_rf (some X.2.1)), some (va_rf (some (aO X))), some (va_rf (some (aM X))), some (.int (nI i)), l4', l5', l6', l7'] [] (rp X S) := by
  obtain ⟨v, e1, e2, e3⟩ := st_real (X := X) (a := X.2.2.2 (i + 1)) (b := X.2.2.2 (i + 2)) (c := X.2.2.2 (i + 3)) h
  refine ⟨some (.double v), none, some (.double v), none, ?_⟩
  simp only [e_L_law_394, e_L_law_395, e_L_law_396, e_L_law_397, e_L_law_398, e_L_law_399, e_L_law_400, e_L_law_401, e_L_law_402, e_L_law_403, e_L_law_404, e_L_law_405, e_L_law_406, e_L_law_407, e_L_law_408, e_L_law_409, e_L_law_410, e_L_law_413, e_L_law_415, e_L_law_416, e_L_law_417, e_L_law_418, e_L_law_419, e_L_law_420, e_L_law_421, e_L_law_422, e_L_law_423, e_L_law_424, e_L_law_425, e_L_law_426, e_L_law_427, e_L_law_428, e_L_law_429, e_L_law_430, e_L_law_431, e_L_law_434, e_L_law_436, e_L_law_438, e_L_law_440, e_L_law_441, e_L_law_444, e_L_law_446, e_L_law_448, e_L_law_449, e_L_law_452, e_L_law_454, e_L_law_456, e_L_law_457, e_L_law_460, e_L_law_461, e_L_law_462, Option.bind_some, Option.bind_none, Option.toList_some, Option.toList_none, List.cons_append, List.nil_append, I_z, I_i8, I_q8, I_i7, I_q7, I_i6, I_q6, I_i5, I_q5, I_i4, I_q4, I_i3, I_q3, I_i2, I_q2, I_i1, I_q1, I_w8, I_w7, I_w6, I_w5, I_w4, I_w3, I_w2, I_c2n, I_c2i, I_c2q, eq_self, or_true, true_or, and_true, true_and, if_true, if_false, not_false_eq_true, not_true_eq_false, Option.map_none, Option.map_some, reduceCtorEq, isO, isM, sld (X := X) (j := i + 1) (by omega) hL, sld (X := X) (j := i + 2) (by omega) hL, sld (X := X) (j := i + 3) (by omega) hL, nI_k1, nI_k2, nI_k3, e2, e3, cmp_v e1]
theorem lw_case (h : GS S n) (hn : n < 100000) (hL : X.2.2.1 ≤ 4096) (hi : i + 8 ≤ X.2.2.1) (a : Int32) : ∃ S2 l4' l5' l6' l7', GS S2 (n + 1) ∧ ev X 200 m_L_law 33 [some (va_rf (some X.2.1)), some (va_rf (some (aO X))), some (va_rf (some (aM X))), some (.int (nI i)), l4, l5, l6, l7] [.int a] (rp X S) = ev X 200 m_L_law 924 [some (va_rf (some X.2.1)), some (va_rf (some (aO X))), some (va_rf (some (aM X))), some (.int (nI i)), l4', l5', l6', l7'] [] (rp X S2) := by
  by_cases c0 : a = 0
  · obtain ⟨S2, g, e⟩ := lw_table (X := X) (i := i) (l4 := l4) (l5 := l5) (l6 := l6) (l7 := l7) h hL hi
    exact ⟨S2, l4, l5, l6, l7, g, by rw [c0, e_L_law_33_0]; exact e⟩
  by_cases c1 : a = 1
  · obtain ⟨S2, g, e⟩ := lw_row (X := X) (i := i) (l4 := l4) (l5 := l5) (l6 := l6) (l7 := l7) h hL hi
    exact ⟨S2, l4, l5, l6, l7, g, by rw [c1, e_L_law_33_1]; exact e⟩
  by_cases c2 : a = 2
  · obtain ⟨S2, g, e⟩ := lw_share (X := X) (i := i) (l4 := l4) (l5 := l5) (l6 := l6) (l7 := l7) h hL hi
    exact ⟨S2, l4, l5, l6, l7, g, by rw [c2, e_L_law_33_2]; exact e⟩
  by_cases c3 : a = 3
  · obtain ⟨S2, g, e⟩ := lw_fall (X := X) (i := i) (l4 := l4) (l5 := l5) (l6 := l6) (l7 := l7) h hL hi
    exact ⟨S2, l4, l5, l6, l7, g, by rw [c3, e_L_law_33_3]; exact e⟩
  by_cases c4 : a = 4
  · obtain ⟨S2, g, e⟩ := lw_put (X := X) (i := i) (l4 := l4) (l5 := l5) (l6 := l6) (l7 := l7) h hL hi
    exact ⟨S2, l4, l5, l6, l7, g, by rw [c4, e_L_law_33_4]; exact e⟩
  by_cases c5 : a = 5
  · obtain ⟨S2, g, e⟩ := lw_get (X := X) (i := i) (l4 := l4) (l5 := l5) (l6 := l6) (l7 := l7) h hL hi
    exact ⟨S2, l4, l5, l6, l7, g, by rw [c5, e_L_law_33_5]; exact e⟩
  by_cases c6 : a = 6
  · obtain ⟨m4, m5, m6, m7, e⟩ := lw_real (X := X) (i := i) (l4 := l4) (l5 := l5) (l6 := l6) (l7 := l7) h hL hi
    exact ⟨S, m4, m5, m6, m7, h.mono, by rw [c6, e_L_law_33_6]; exact e⟩
  by_cases c7 : a = 7
  · obtain ⟨S2, g, e⟩ := lw_told (X := X) (i := i) (l4 := l4) (l5 := l5) (l6 := l6) (l7 := l7) h hL hi
    exact ⟨S2, l4, l5, l6, l7, g, by rw [c7, e_L_law_33_7]; exact e⟩
  by_cases c8 : a = 8
  · obtain ⟨S2, g, e⟩ := lw_odd (X := X) (i := i) (l4 := l4) (l5 := l5) (l6 := l6) (l7 := l7) h hL hi
    exact ⟨S2, l4, l5, l6, l7, g, by rw [c8, e_L_law_33_8]; exact e⟩
  by_cases c9 : a = 9
  · obtain ⟨S2, g, e⟩ := lw_copy (X := X) (i := i) (l4 := l4) (l5 := l5) (l6 := l6) (l7 := l7) h hL hi
    exact ⟨S2, l4, l5, l6, l7, g, by rw [c9, e_L_law_33_9]; exact e⟩
  by_cases c10 : a = 10
  · obtain ⟨S2, g, e⟩ := lw_turned (X := X) (i := i) (l4 := l4) (l5 := l5) (l6 := l6) (l7 := l7) h hL hi
    exact ⟨S2, l4, l5, l6, l7, g, by rw [c10, e_L_law_33_10]; exact e⟩
  by_cases c11 : a = 11
  · obtain ⟨S2, g, e⟩ := lw_product (X := X) (i := i) (l4 := l4) (l5 := l5) (l6 := l6) (l7 := l7) h hL hi
    exact ⟨S2, l4, l5, l6, l7, g, by rw [c11, e_L_law_33_11]; exact e⟩
  by_cases c12 : a = 12
  · obtain ⟨S2, g, e⟩ := lw_distances (X := X) (i := i) (l4 := l4) (l5 := l5) (l6 := l6) (l7 := l7) h hL hi
    exact ⟨S2, l4, l5, l6, l7, g, by rw [c12, e_L_law_33_12]; exact e⟩
  by_cases c13 : a = 13
  · obtain ⟨S2, g, e⟩ := lw_pack (X := X) (i := i) (l4 := l4) (l5 := l5) (l6 := l6) (l7 := l7) h hL hi
    exact ⟨S2, l4, l5, l6, l7, g, by rw [c13, e_L_law_33_13]; exact e⟩
  by_cases c14 : a = 14
  · obtain ⟨S2, g, e⟩ := lw_word (X := X) (i := i) (l4 := l4) (l5 := l5) (l6 := l6) (l7 := l7) h hL hi
    exact ⟨S2, l4, l5, l6, l7, g, by rw [c14, e_L_law_33_14]; exact e⟩
  by_cases c15 : a = 15
  · obtain ⟨S2, g, e⟩ := lw_alike (X := X) (i := i) (l4 := l4) (l5 := l5) (l6 := l6) (l7 := l7) h hL hi
    exact ⟨S2, l4, l5, l6, l7, g, by rw [c15, e_L_law_33_15]; exact e⟩
  by_cases c16 : a = 16
  · obtain ⟨S2, g, e⟩ := lw_same (X := X) (i := i) (l4 := l4) (l5 := l5) (l6 := l6) (l7 := l7) h hL hi
    exact ⟨S2, l4, l5, l6, l7, g, by rw [c16, e_L_law_33_16]; exact e⟩
  by_cases c17 : a = 17
  · obtain ⟨S2, g, e⟩ := lw_total (X := X) (i := i) (l4 := l4) (l5 := l5) (l6 := l6) (l7 := l7) h hL hi
    exact ⟨S2, l4, l5, l6, l7, g, by rw [c17, e_L_law_33_17]; exact e⟩
  by_cases c18 : a = 18
  · obtain ⟨S2, g, e⟩ := lw_entered (X := X) (i := i) (l4 := l4) (l5 := l5) (l6 := l6) (l7 := l7) h hL hi
    exact ⟨S2, l4, l5, l6, l7, g, by rw [c18, e_L_law_33_18]; exact e⟩
  by_cases c19 : a = 19
  · obtain ⟨S2, g, e⟩ := lw_deep (X := X) (i := i) (l4 := l4) (l5 := l5) (l6 := l6) (l7 := l7) h hL hi
    exact ⟨S2, l4, l5, l6, l7, g, by rw [c19, e_L_law_33_19]; exact e⟩
  by_cases c20 : a = 20
  · obtain ⟨S2, g, e⟩ := lw_count (X := X) (i := i) (l4 := l4) (l5 := l5) (l6 := l6) (l7 := l7) h hn hL hi
    exact ⟨S2, l4, l5, l6, l7, g, by rw [c20, e_L_law_33_20]; exact e⟩
  by_cases c21 : a = 21
  · obtain ⟨S2, g, e⟩ := lw_clear (X := X) (i := i) (l4 := l4) (l5 := l5) (l6 := l6) (l7 := l7) h hL hi
    exact ⟨S2, l4, l5, l6, l7, g, by rw [c21, e_L_law_33_21]; exact e⟩
  refine ⟨S, l4, l5, l6, l7, h.mono, ?_⟩
  have n0 : ¬ a.toInt = 0 := fun q => c0 (Int32.toInt_inj.mp q)
  have n1 : ¬ a.toInt = 1 := fun q => c1 (Int32.toInt_inj.mp q)
  have n2 : ¬ a.toInt = 2 := fun q => c2 (Int32.toInt_inj.mp q)
  have n3 : ¬ a.toInt = 3 := fun q => c3 (Int32.toInt_inj.mp q)
  have n4 : ¬ a.toInt = 4 := fun q => c4 (Int32.toInt_inj.mp q)
  have n5 : ¬ a.toInt = 5 := fun q => c5 (Int32.toInt_inj.mp q)
  have n6 : ¬ a.toInt = 6 := fun q => c6 (Int32.toInt_inj.mp q)
  have n7 : ¬ a.toInt = 7 := fun q => c7 (Int32.toInt_inj.mp q)
  have n8 : ¬ a.toInt = 8 := fun q => c8 (Int32.toInt_inj.mp q)
  have n9 : ¬ a.toInt = 9 := fun q => c9 (Int32.toInt_inj.mp q)
  have n10 : ¬ a.toInt = 10 := fun q => c10 (Int32.toInt_inj.mp q)
  have n11 : ¬ a.toInt = 11 := fun q => c11 (Int32.toInt_inj.mp q)
  have n12 : ¬ a.toInt = 12 := fun q => c12 (Int32.toInt_inj.mp q)
  have n13 : ¬ a.toInt = 13 := fun q => c13 (Int32.toInt_inj.mp q)
  have n14 : ¬ a.toInt = 14 := fun q => c14 (Int32.toInt_inj.mp q)
  have n15 : ¬ a.toInt = 15 := fun q => c15 (Int32.toInt_inj.mp q)
  have n16 : ¬ a.toInt = 16 := fun q => c16 (Int32.toInt_inj.mp q)
  have n17 : ¬ a.toInt = 17 := fun q => c17 (Int32.toInt_inj.mp q)
  have n18 : ¬ a.toInt = 18 := fun q => c18 (Int32.toInt_inj.mp q)
  have n19 : ¬ a.toInt = 19 := fun q => c19 (Int32.toInt_inj.mp q)
  have n20 : ¬ a.toInt = 20 := fun q => c20 (Int32.toInt_inj.mp q)
  have n21 : ¬ a.toInt = 21 := fun q => c21 (Int32.toInt_inj.mp q)
  rw [e_L_law_33_d (by omega)]
theorem lw_loop (hL : X.2.2.1 ≤ 4096) : ∀ m n i l4 l5 l6 l7 (S : St), i + 8 * m + 8 > X.2.2.1 → i = 8 * n → n + m ≤ 600 → GS S n → i ≤ 4096 → ∃ S2 n2, n2 ≤ n + m ∧ GS S2 n2 ∧ ev X 200 m_L_law 18 [some (va_rf (some X.2.1)), some (va_rf (some (aO X))), some (va_rf (some (aM X))), some (.int (nI i)), l4, l5, l6, l7] [] (rp X S) = some (some (.int 1), rp X S2) := by
  have e8 : (nI X.2.2.1 - 8).toInt = (X.2.2.1 : Int) - 8 := by
    rw [Int32.toInt_sub, nI_toInt (by omega), show (8 : Int32).toInt = 8 from rfl]
    apply Int.bmod_eq_of_le <;> omega
  have z1 : ((1 : Int32) = 0 ∨ (1 : Int32) = 1) = True := by decide
  have stop : ∀ i l4 l5 l6 l7 (S : St), X.2.2.1 < i + 8 → i ≤ 4096 → ev X 200 m_L_law 18 [some (va_rf (some X.2.1)), some (va_rf (some (aO X))), some (va_rf (some (aM X))), some (.int (nI i)), l4, l5, l6, l7] [] (rp X S) = some (some (.int 1), rp X S) := fun i l4 l5 l6 l7 S h1 h2 => by
    have h3 : nI X.2.2.1 - 8 < nI i := by rw [Int32.lt_iff_toInt_lt, e8, nI_toInt (by omega)]; omega
    rw [e_L_law_18]
    simp only [e_L_law_19, e_L_law_20, e_L_law_21, e_L_law_23, e_L_law_24, e_L_law_930, e_L_law_931, Option.bind_some, Option.bind_none, Option.toList_some, Option.toList_none, List.cons_append, List.nil_append, I_z, I_i8, I_q8, I_i7, I_q7, I_i6, I_q6, I_i5, I_q5, I_i4, I_q4, I_i3, I_q3, I_i2, I_q2, I_i1, I_q1, I_w8, I_w7, I_w6, I_w5, I_w4, I_w3, I_w2, I_c2n, I_c2i, I_c2q, eq_self, or_true, true_or, and_true, true_and, if_true, if_false, not_false_eq_true, not_true_eq_false, Option.map_none, Option.map_some, reduceCtorEq, slen, h3, z1]
  intro m
  induction m with
  | zero =>
    intro n i l4 l5 l6 l7 S h1 h2 h3 h4 h5
    exact ⟨S, n, Nat.le_refl _, h4, stop i l4 l5 l6 l7 S (by omega) h5⟩
  | succ m ih =>
    intro n i l4 l5 l6 l7 S h1 h2 h3 h4 h5
    by_cases c : X.2.2.1 < i + 8
    · exact ⟨S, n, by omega, h4, stop i l4 l5 l6 l7 S c h5⟩
    · have h6 : ¬ nI X.2.2.1 - 8 < nI i := by rw [Int32.lt_iff_toInt_lt, e8, nI_toInt (by omega)]; omega
      obtain ⟨S2, m4, m5, m6, m7, g, e⟩ := lw_case (X := X) (i := i) (l4 := l4) (l5 := l5) (l6 := l6) (l7 := l7) h4 (by omega) hL (by omega) (X.2.2.2 i &&& 31)
      obtain ⟨S3, n3, k1, k2, k3⟩ := ih (n + 1) (i + 8) m4 m5 m6 m7 S2 (by omega) (by omega) (by omega) g (by omega)
      refine ⟨S3, n3, by omega, k2, ?_⟩
      rw [← k3, e_L_law_18]
      simp only [e_L_law_19, e_L_law_20, e_L_law_21, e_L_law_23, e_L_law_24, e_L_law_27, e_L_law_28, e_L_law_29, e_L_law_30, e_L_law_32, Option.bind_some, Option.bind_none, Option.toList_some, Option.toList_none, List.cons_append, List.nil_append, I_z, I_i8, I_q8, I_i7, I_q7, I_i6, I_q6, I_i5, I_q5, I_i4, I_q4, I_i3, I_q3, I_i2, I_q2, I_i1, I_q1, I_w8, I_w7, I_w6, I_w5, I_w4, I_w3, I_w2, I_c2n, I_c2i, I_c2q, eq_self, or_true, true_or, and_true, true_and, if_true, if_false, not_false_eq_true, not_true_eq_false, Option.map_none, Option.map_some, reduceCtorEq, slen, h6, sld (X := X) (j := i) (by omega) hL]
      rw [e]
      simp only [e_L_law_924, e_L_law_927, Option.bind_some, Option.bind_none, Option.toList_some, Option.toList_none, List.cons_append, List.nil_append, I_z, I_i8, I_q8, I_i7, I_q7, I_i6, I_q6, I_i5, I_q5, I_i4, I_q4, I_i3, I_q3, I_i2, I_q2, I_i1, I_q1, I_w8, I_w7, I_w6, I_w5, I_w4, I_w3, I_w2, I_c2n, I_c2i, I_c2q, eq_self, or_true, true_or, and_true, true_and, if_true, if_false, not_false_eq_true, not_true_eq_false, Option.map_none, Option.map_some, reduceCtorEq, nI_k8]
end LO
