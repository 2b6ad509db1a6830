
/-! The law: its loop. -/
section Q77
variable {d a b f : Nat} {K : Nat → Nat × Nat} {I : Nat → Nat → Int32} {R : Nat → Nat → Option Nat} {n z : Nat} {x y : Int32} {h : qa_H} {m c p w u L : Nat} {xs : Nat → Int32}
theorem qJ_kk (hJ : qJ m (K, I, R, n, z)) : K 1 = (0, 0) ∧ K 189 = (11, 0) := ⟨hJ.1.1.1, hJ.1.2.2.2.2.2.2.2.2.2.2.2.2.1⟩
/-- one round of the law's loop, from the case's first instruction at pc -/
def qL_c (d m pc : Nat) (K : Nat → Nat × Nat) (I : Nat → Nat → Int32) (h : qa_H) : Prop := ∃ h2 : qa_H, (∀ r, qa_run (d + 27) 236 860 [qa_a (some 0), qa_a (some 1), qa_a (some 189), qa_i (nI (5 * m))] [] [] h2 = r → qa_run (d + 27) 236 pc [qa_a (some 0), qa_a (some 1), qa_a (some 189), qa_i (nI (5 * m))] [] [] h = r) ∧ h2.1 0 = K 0 ∧ h2.2.1 0 = I 0 ∧ qJ (m + 1) h2
theorem qL_c0 (hJ : qJ m (K, I, R, n, z)) (hm : m ≤ 512) (h5 : 5 * m + 4 < (K 0).2) : qL_c d m 152 K I (K, I, R, n, z) := by
  obtain ⟨v, ⟨K1, I1, R1, n1, z1⟩, h2, r1, r2, ⟨e1, e2, e3⟩, e4, e5, hJ2⟩ := qJ_append (d := d) (x := I 0 (5 * m + 1)) (y := I 0 (5 * m + 2)) hJ hm
  obtain ⟨kk1, kk2⟩ := qJ_kk hJ
  have e1 : K1 0 = K 0 := e1
  have e2 : I1 0 = I 0 := e2
  have e3 : K1 189 = (11, 0) := e3.trans kk2
  have h6 : 5 * m + 4 < (K1 0).2 := by rw [e1]; exact h5
  have h7 : 5 * m + 4 < 2147483648 := by omega
  refine ⟨h2, fun r hr => ?_, e4, e5, hJ2⟩
  rw [← hr]
  simp (disch := first | assumption | omega | exact Or.inl rfl | exact Or.inr rfl | exact qb_01) only [qr_236_152, qr_236_153, qr_236_154, qr_236_155, qr_236_156, qr_236_157, qr_236_158, qr_236_159, qr_236_160, qr_236_161, qr_236_162, qr_236_163, qr_236_166, qr_236_167, qr_236_168, qr_236_169, qr_236_170, qr_236_171, qr_236_172, qr_236_173, qr_236_174, qr_236_175, qr_236_176, qr_236_177, qr_236_180, qr_236_183, qr_236_184, true_and, and_true, false_and, and_false, Option.bind_some, Option.toList_some, Option.toList_none, List.nil_append, List.cons_append, if_true, if_false, ite_true, ite_false, not_true_eq_false, not_false_eq_true, nI_add, eq_self, e2, r1, r2]
theorem qL_c1 (hJ : qJ m (K, I, R, n, z)) (hm : m ≤ 512) (h5 : 5 * m + 4 < (K 0).2) : qL_c d m 185 K I (K, I, R, n, z) := by
  obtain ⟨v, ⟨K1, I1, R1, n1, z1⟩, h2, r1, r2, ⟨e1, e2, e3⟩, e4, e5, hJ2⟩ := qJ_readCurriculum (d := d)  hJ hm
  obtain ⟨kk1, kk2⟩ := qJ_kk hJ
  have e1 : K1 0 = K 0 := e1
  have e2 : I1 0 = I 0 := e2
  have e3 : K1 189 = (11, 0) := e3.trans kk2
  have h6 : 5 * m + 4 < (K1 0).2 := by rw [e1]; exact h5
  have h7 : 5 * m + 4 < 2147483648 := by omega
  refine ⟨h2, fun r hr => ?_, e4, e5, hJ2⟩
  rw [← hr]
  simp (disch := first | assumption | omega | exact Or.inl rfl | exact Or.inr rfl | exact qb_01) only [qr_236_185, qr_236_186, qr_236_189, qr_236_190, qr_236_193, qr_236_196, qr_236_197, true_and, and_true, false_and, and_false, Option.bind_some, Option.toList_some, Option.toList_none, List.nil_append, List.cons_append, if_true, if_false, ite_true, ite_false, not_true_eq_false, not_false_eq_true, nI_add, eq_self, e2, r1, r2]
theorem qL_c2 (hJ : qJ m (K, I, R, n, z)) (hm : m ≤ 512) (h5 : 5 * m + 4 < (K 0).2) : qL_c d m 198 K I (K, I, R, n, z) := by
  obtain ⟨v, ⟨K1, I1, R1, n1, z1⟩, h2, r1, r2, ⟨e1, e2, e3⟩, e4, e5, hJ2⟩ := qJ_addItem (d := d) (x := I 0 (5 * m + 1)) (y := I 0 (5 * m + 2)) hJ hm
  obtain ⟨kk1, kk2⟩ := qJ_kk hJ
  have e1 : K1 0 = K 0 := e1
  have e2 : I1 0 = I 0 := e2
  have e3 : K1 189 = (11, 0) := e3.trans kk2
  have h6 : 5 * m + 4 < (K1 0).2 := by rw [e1]; exact h5
  have h7 : 5 * m + 4 < 2147483648 := by omega
  refine ⟨h2, fun r hr => ?_, e4, e5, hJ2⟩
  rw [← hr]
  simp (disch := first | assumption | omega | exact Or.inl rfl | exact Or.inr rfl | exact qb_01) only [qr_236_198, qr_236_199, qr_236_200, qr_236_201, qr_236_202, qr_236_203, qr_236_204, qr_236_205, qr_236_206, qr_236_207, qr_236_208, qr_236_209, qr_236_212, qr_236_213, qr_236_214, qr_236_215, qr_236_216, qr_236_217, qr_236_218, qr_236_219, qr_236_220, qr_236_221, qr_236_222, qr_236_223, qr_236_226, qr_236_229, qr_236_230, true_and, and_true, false_and, and_false, Option.bind_some, Option.toList_some, Option.toList_none, List.nil_append, List.cons_append, if_true, if_false, ite_true, ite_false, not_true_eq_false, not_false_eq_true, nI_add, eq_self, e2, r1, r2]
theorem qL_c3 (hJ : qJ m (K, I, R, n, z)) (hm : m ≤ 512) (h5 : 5 * m + 4 < (K 0).2) : qL_c d m 231 K I (K, I, R, n, z) := by
  obtain ⟨v, ⟨K1, I1, R1, n1, z1⟩, h2, r1, r2, ⟨e1, e2, e3⟩, e4, e5, hJ2⟩ := qJ_item (d := d) (x := I 0 (5 * m + 1)) (y := I 0 (5 * m + 2)) hJ hm
  obtain ⟨kk1, kk2⟩ := qJ_kk hJ
  have e1 : K1 0 = K 0 := e1
  have e2 : I1 0 = I 0 := e2
  have e3 : K1 189 = (11, 0) := e3.trans kk2
  have h6 : 5 * m + 4 < (K1 0).2 := by rw [e1]; exact h5
  have h7 : 5 * m + 4 < 2147483648 := by omega
  refine ⟨h2, fun r hr => ?_, e4, e5, hJ2⟩
  rw [← hr]
  simp (disch := first | assumption | omega | exact Or.inl rfl | exact Or.inr rfl | exact qb_01) only [qr_236_231, qr_236_232, qr_236_233, qr_236_234, qr_236_235, qr_236_236, qr_236_237, qr_236_238, qr_236_239, qr_236_240, qr_236_241, qr_236_242, qr_236_245, qr_236_246, qr_236_247, qr_236_248, qr_236_249, qr_236_250, qr_236_251, qr_236_252, qr_236_253, qr_236_254, qr_236_255, qr_236_256, qr_236_259, qr_236_262, qr_236_263, true_and, and_true, false_and, and_false, Option.bind_some, Option.toList_some, Option.toList_none, List.nil_append, List.cons_append, if_true, if_false, ite_true, ite_false, not_true_eq_false, not_false_eq_true, nI_add, eq_self, e2, r1, r2]
theorem qL_c4 (hJ : qJ m (K, I, R, n, z)) (hm : m ≤ 512) (h5 : 5 * m + 4 < (K 0).2) : qL_c d m 264 K I (K, I, R, n, z) := by
  obtain ⟨v, ⟨K1, I1, R1, n1, z1⟩, h2, r1, r2, ⟨e1, e2, e3⟩, e4, e5, hJ2⟩ := qJ_answer (d := d) (x := I 0 (5 * m + 1)) (y := I 0 (5 * m + 2)) hJ hm
  obtain ⟨kk1, kk2⟩ := qJ_kk hJ
  have e1 : K1 0 = K 0 := e1
  have e2 : I1 0 = I 0 := e2
  have e3 : K1 189 = (11, 0) := e3.trans kk2
  have h6 : 5 * m + 4 < (K1 0).2 := by rw [e1]; exact h5
  have h7 : 5 * m + 4 < 2147483648 := by omega
  refine ⟨h2, fun r hr => ?_, e4, e5, hJ2⟩
  rw [← hr]
  simp (disch := first | assumption | omega | exact Or.inl rfl | exact Or.inr rfl | exact qb_01) only [qr_236_264, qr_236_265, qr_236_266, qr_236_267, qr_236_268, qr_236_269, qr_236_270, qr_236_271, qr_236_272, qr_236_273, qr_236_274, qr_236_275, qr_236_278, qr_236_279, qr_236_280, qr_236_281, qr_236_282, qr_236_283, qr_236_284, qr_236_285, qr_236_286, qr_236_287, qr_236_288, qr_236_289, qr_236_292, qr_236_295, qr_236_296, true_and, and_true, false_and, and_false, Option.bind_some, Option.toList_some, Option.toList_none, List.nil_append, List.cons_append, if_true, if_false, ite_true, ite_false, not_true_eq_false, not_false_eq_true, nI_add, eq_self, e2, r1, r2]
theorem qL_c5 (hJ : qJ m (K, I, R, n, z)) (hm : m ≤ 512) (h5 : 5 * m + 4 < (K 0).2) : qL_c d m 297 K I (K, I, R, n, z) := by
  obtain ⟨v, ⟨K1, I1, R1, n1, z1⟩, h2, r1, r2, ⟨e1, e2, e3⟩, e4, e5, hJ2⟩ := qJ_nextDay (d := d) (x := I 0 (5 * m + 1)) hJ hm
  obtain ⟨kk1, kk2⟩ := qJ_kk hJ
  have e1 : K1 0 = K 0 := e1
  have e2 : I1 0 = I 0 := e2
  have e3 : K1 189 = (11, 0) := e3.trans kk2
  have h6 : 5 * m + 4 < (K1 0).2 := by rw [e1]; exact h5
  have h7 : 5 * m + 4 < 2147483648 := by omega
  refine ⟨h2, fun r hr => ?_, e4, e5, hJ2⟩
  rw [← hr]
  simp (disch := first | assumption | omega | exact Or.inl rfl | exact Or.inr rfl | exact qb_01) only [qr_236_297, qr_236_298, qr_236_299, qr_236_300, qr_236_301, qr_236_302, qr_236_303, qr_236_306, qr_236_307, qr_236_308, qr_236_309, qr_236_310, qr_236_311, qr_236_312, qr_236_315, qr_236_318, qr_236_319, true_and, and_true, false_and, and_false, Option.bind_some, Option.toList_some, Option.toList_none, List.nil_append, List.cons_append, if_true, if_false, ite_true, ite_false, not_true_eq_false, not_false_eq_true, nI_add, eq_self, e2, r1, r2]
theorem qL_c6 (hJ : qJ m (K, I, R, n, z)) (hm : m ≤ 512) (h5 : 5 * m + 4 < (K 0).2) : qL_c d m 320 K I (K, I, R, n, z) := by
  obtain ⟨v, ⟨K1, I1, R1, n1, z1⟩, h2, r1, r2, ⟨e1, e2, e3⟩, e4, e5, hJ2⟩ := qJ_mastery (d := d) (x := I 0 (5 * m + 1)) (y := I 0 (5 * m + 2)) hJ hm
  obtain ⟨kk1, kk2⟩ := qJ_kk hJ
  have e1 : K1 0 = K 0 := e1
  have e2 : I1 0 = I 0 := e2
  have e3 : K1 189 = (11, 0) := e3.trans kk2
  have h6 : 5 * m + 4 < (K1 0).2 := by rw [e1]; exact h5
  have h7 : 5 * m + 4 < 2147483648 := by omega
  refine ⟨h2, fun r hr => ?_, e4, e5, hJ2⟩
  rw [← hr]
  simp (disch := first | assumption | omega | exact Or.inl rfl | exact Or.inr rfl | exact qb_01) only [qr_236_320, qr_236_321, qr_236_322, qr_236_323, qr_236_324, qr_236_325, qr_236_326, qr_236_327, qr_236_328, qr_236_329, qr_236_330, qr_236_331, qr_236_334, qr_236_335, qr_236_336, qr_236_337, qr_236_338, qr_236_339, qr_236_340, qr_236_341, qr_236_342, qr_236_343, qr_236_344, qr_236_345, qr_236_348, qr_236_351, qr_236_352, true_and, and_true, false_and, and_false, Option.bind_some, Option.toList_some, Option.toList_none, List.nil_append, List.cons_append, if_true, if_false, ite_true, ite_false, not_true_eq_false, not_false_eq_true, nI_add, eq_self, e2, r1, r2]
theorem qL_c7 (hJ : qJ m (K, I, R, n, z)) (hm : m ≤ 512) (h5 : 5 * m + 4 < (K 0).2) : qL_c d m 353 K I (K, I, R, n, z) := by
  obtain ⟨v, ⟨K1, I1, R1, n1, z1⟩, h2, r1, r2, ⟨e1, e2, e3⟩, e4, e5, hJ2⟩ := qJ_skill (d := d) (x := I 0 (5 * m + 1)) (y := I 0 (5 * m + 2)) hJ hm
  obtain ⟨kk1, kk2⟩ := qJ_kk hJ
  have e1 : K1 0 = K 0 := e1
  have e2 : I1 0 = I 0 := e2
  have e3 : K1 189 = (11, 0) := e3.trans kk2
  have h6 : 5 * m + 4 < (K1 0).2 := by rw [e1]; exact h5
  have h7 : 5 * m + 4 < 2147483648 := by omega
  refine ⟨h2, fun r hr => ?_, e4, e5, hJ2⟩
  rw [← hr]
  simp (disch := first | assumption | omega | exact Or.inl rfl | exact Or.inr rfl | exact qb_01) only [qr_236_353, qr_236_354, qr_236_355, qr_236_356, qr_236_357, qr_236_358, qr_236_359, qr_236_360, qr_236_361, qr_236_362, qr_236_363, qr_236_364, qr_236_367, qr_236_368, qr_236_369, qr_236_370, qr_236_371, qr_236_372, qr_236_373, qr_236_374, qr_236_375, qr_236_376, qr_236_377, qr_236_378, qr_236_381, qr_236_384, qr_236_385, true_and, and_true, false_and, and_false, Option.bind_some, Option.toList_some, Option.toList_none, List.nil_append, List.cons_append, if_true, if_false, ite_true, ite_false, not_true_eq_false, not_false_eq_true, nI_add, eq_self, e2, r1, r2]
theorem qL_c8 (hJ : qJ m (K, I, R, n, z)) (hm : m ≤ 512) (h5 : 5 * m + 4 < (K 0).2) : qL_c d m 386 K I (K, I, R, n, z) := by
  obtain ⟨v, ⟨K1, I1, R1, n1, z1⟩, h2, r1, r2, ⟨e1, e2, e3⟩, e4, e5, hJ2⟩ := qJ_chance (d := d) (x := I 0 (5 * m + 1)) (y := I 0 (5 * m + 2)) hJ hm
  obtain ⟨kk1, kk2⟩ := qJ_kk hJ
  have e1 : K1 0 = K 0 := e1
  have e2 : I1 0 = I 0 := e2
  have e3 : K1 189 = (11, 0) := e3.trans kk2
  have h6 : 5 * m + 4 < (K1 0).2 := by rw [e1]; exact h5
  have h7 : 5 * m + 4 < 2147483648 := by omega
  refine ⟨h2, fun r hr => ?_, e4, e5, hJ2⟩
  rw [← hr]
  simp (disch := first | assumption | omega | exact Or.inl rfl | exact Or.inr rfl | exact qb_01) only [qr_236_386, qr_236_387, qr_236_388, qr_236_389, qr_236_390, qr_236_391, qr_236_392, qr_236_393, qr_236_394, qr_236_395, qr_236_396, qr_236_397, qr_236_400, qr_236_401, qr_236_402, qr_236_403, qr_236_404, qr_236_405, qr_236_406, qr_236_407, qr_236_408, qr_236_409, qr_236_410, qr_236_411, qr_236_414, qr_236_417, qr_236_418, true_and, and_true, false_and, and_false, Option.bind_some, Option.toList_some, Option.toList_none, List.nil_append, List.cons_append, if_true, if_false, ite_true, ite_false, not_true_eq_false, not_false_eq_true, nI_add, eq_self, e2, r1, r2]
theorem qL_c9 (hJ : qJ m (K, I, R, n, z)) (hm : m ≤ 512) (h5 : 5 * m + 4 < (K 0).2) : qL_c d m 419 K I (K, I, R, n, z) := by
  obtain ⟨v, ⟨K1, I1, R1, n1, z1⟩, h2, r1, r2, ⟨e1, e2, e3⟩, e4, e5, hJ2⟩ := qJ_advise (d := d) (x := I 0 (5 * m + 1)) hJ hm
  obtain ⟨kk1, kk2⟩ := qJ_kk hJ
  have e1 : K1 0 = K 0 := e1
  have e2 : I1 0 = I 0 := e2
  have e3 : K1 189 = (11, 0) := e3.trans kk2
  have h6 : 5 * m + 4 < (K1 0).2 := by rw [e1]; exact h5
  have h7 : 5 * m + 4 < 2147483648 := by omega
  refine ⟨h2, fun r hr => ?_, e4, e5, hJ2⟩
  rw [← hr]
  simp (disch := first | assumption | omega | exact Or.inl rfl | exact Or.inr rfl | exact qb_01) only [qr_236_419, qr_236_420, qr_236_421, qr_236_422, qr_236_423, qr_236_424, qr_236_425, qr_236_428, qr_236_429, qr_236_430, qr_236_431, qr_236_432, qr_236_433, qr_236_434, qr_236_437, qr_236_440, qr_236_441, true_and, and_true, false_and, and_false, Option.bind_some, Option.toList_some, Option.toList_none, List.nil_append, List.cons_append, if_true, if_false, ite_true, ite_false, not_true_eq_false, not_false_eq_true, nI_add, eq_self, e2, r1, r2]
theorem qL_c10 (hJ : qJ m (K, I, R, n, z)) (hm : m ≤ 512) (h5 : 5 * m + 4 < (K 0).2) : qL_c d m 442 K I (K, I, R, n, z) := by
  obtain ⟨v, ⟨K1, I1, R1, n1, z1⟩, h2, r1, r2, ⟨e1, e2, e3⟩, e4, e5, hJ2⟩ := qJ_due (d := d) (x := I 0 (5 * m + 1)) hJ hm
  obtain ⟨kk1, kk2⟩ := qJ_kk hJ
  have e1 : K1 0 = K 0 := e1
  have e2 : I1 0 = I 0 := e2
  have e3 : K1 189 = (11, 0) := e3.trans kk2
  have h6 : 5 * m + 4 < (K1 0).2 := by rw [e1]; exact h5
  have h7 : 5 * m + 4 < 2147483648 := by omega
  refine ⟨h2, fun r hr => ?_, e4, e5, hJ2⟩
  rw [← hr]
  simp (disch := first | assumption | omega | exact Or.inl rfl | exact Or.inr rfl | exact qb_01) only [qr_236_442, qr_236_443, qr_236_444, qr_236_445, qr_236_446, qr_236_447, qr_236_448, qr_236_451, qr_236_452, qr_236_453, qr_236_454, qr_236_455, qr_236_456, qr_236_457, qr_236_460, qr_236_463, qr_236_464, true_and, and_true, false_and, and_false, Option.bind_some, Option.toList_some, Option.toList_none, List.nil_append, List.cons_append, if_true, if_false, ite_true, ite_false, not_true_eq_false, not_false_eq_true, nI_add, eq_self, e2, r1, r2]
theorem qL_c11 (hJ : qJ m (K, I, R, n, z)) (hm : m ≤ 512) (h5 : 5 * m + 4 < (K 0).2) : qL_c d m 465 K I (K, I, R, n, z) := by
  obtain ⟨v, ⟨K1, I1, R1, n1, z1⟩, h2, r1, r2, ⟨e1, e2, e3⟩, e4, e5, hJ2⟩ := qJ_path (d := d) (x := I 0 (5 * m + 1)) hJ hm
  obtain ⟨kk1, kk2⟩ := qJ_kk hJ
  have e1 : K1 0 = K 0 := e1
  have e2 : I1 0 = I 0 := e2
  have e3 : K1 189 = (11, 0) := e3.trans kk2
  have h6 : 5 * m + 4 < (K1 0).2 := by rw [e1]; exact h5
  have h7 : 5 * m + 4 < 2147483648 := by omega
  refine ⟨h2, fun r hr => ?_, e4, e5, hJ2⟩
  rw [← hr]
  simp (disch := first | assumption | omega | exact Or.inl rfl | exact Or.inr rfl | exact qb_01) only [qr_236_465, qr_236_466, qr_236_467, qr_236_468, qr_236_469, qr_236_470, qr_236_471, qr_236_474, qr_236_475, qr_236_476, qr_236_477, qr_236_478, qr_236_479, qr_236_480, qr_236_483, qr_236_486, qr_236_487, true_and, and_true, false_and, and_false, Option.bind_some, Option.toList_some, Option.toList_none, List.nil_append, List.cons_append, if_true, if_false, ite_true, ite_false, not_true_eq_false, not_false_eq_true, nI_add, eq_self, e2, r1, r2]
theorem qL_c12 (hJ : qJ m (K, I, R, n, z)) (hm : m ≤ 512) (h5 : 5 * m + 4 < (K 0).2) : qL_c d m 488 K I (K, I, R, n, z) := by
  obtain ⟨v, ⟨K1, I1, R1, n1, z1⟩, h2, r1, r2, ⟨e1, e2, e3⟩, e4, e5, hJ2⟩ := qJ_whatIf (d := d) (x := I 0 (5 * m + 1)) (y := I 0 (5 * m + 2)) (w := I 0 (5 * m + 3)) (v := I 0 (5 * m + 4)) hJ hm
  obtain ⟨kk1, kk2⟩ := qJ_kk hJ
  have e1 : K1 0 = K 0 := e1
  have e2 : I1 0 = I 0 := e2
  have e3 : K1 189 = (11, 0) := e3.trans kk2
  have h6 : 5 * m + 4 < (K1 0).2 := by rw [e1]; exact h5
  have h7 : 5 * m + 4 < 2147483648 := by omega
  refine ⟨h2, fun r hr => ?_, e4, e5, hJ2⟩
  rw [← hr]
  simp (disch := first | assumption | omega | exact Or.inl rfl | exact Or.inr rfl | exact qb_01) only [qr_236_488, qr_236_489, qr_236_490, qr_236_491, qr_236_492, qr_236_493, qr_236_494, qr_236_495, qr_236_496, qr_236_497, qr_236_498, qr_236_499, qr_236_500, qr_236_501, qr_236_502, qr_236_503, qr_236_504, qr_236_505, qr_236_506, qr_236_507, qr_236_508, qr_236_509, qr_236_512, qr_236_513, qr_236_514, qr_236_515, qr_236_516, qr_236_517, qr_236_518, qr_236_519, qr_236_520, qr_236_521, qr_236_522, qr_236_523, qr_236_524, qr_236_525, qr_236_526, qr_236_527, qr_236_528, qr_236_529, qr_236_530, qr_236_531, qr_236_532, qr_236_533, qr_236_536, qr_236_539, qr_236_540, true_and, and_true, false_and, and_false, Option.bind_some, Option.toList_some, Option.toList_none, List.nil_append, List.cons_append, if_true, if_false, ite_true, ite_false, not_true_eq_false, not_false_eq_true, nI_add, eq_self, e2, r1, r2]
theorem qL_c13 (hJ : qJ m (K, I, R, n, z)) (hm : m ≤ 512) (h5 : 5 * m + 4 < (K 0).2) : qL_c d m 541 K I (K, I, R, n, z) := by
  obtain ⟨v, ⟨K1, I1, R1, n1, z1⟩, h2, r1, r2, ⟨e1, e2, e3⟩, e4, e5, hJ2⟩ := qJ_plan (d := d) (x := I 0 (5 * m + 1)) (y := I 0 (5 * m + 2)) (w := I 0 (5 * m + 3)) hJ hm
  obtain ⟨kk1, kk2⟩ := qJ_kk hJ
  have e1 : K1 0 = K 0 := e1
  have e2 : I1 0 = I 0 := e2
  have e3 : K1 189 = (11, 0) := e3.trans kk2
  have h6 : 5 * m + 4 < (K1 0).2 := by rw [e1]; exact h5
  have h7 : 5 * m + 4 < 2147483648 := by omega
  refine ⟨h2, fun r hr => ?_, e4, e5, hJ2⟩
  rw [← hr]
  simp (disch := first | assumption | omega | exact Or.inl rfl | exact Or.inr rfl | exact qb_01) only [qr_236_541, qr_236_542, qr_236_543, qr_236_544, qr_236_545, qr_236_546, qr_236_547, qr_236_548, qr_236_549, qr_236_550, qr_236_551, qr_236_552, qr_236_553, qr_236_554, qr_236_555, qr_236_556, qr_236_557, qr_236_560, qr_236_561, qr_236_562, qr_236_563, qr_236_564, qr_236_565, qr_236_566, qr_236_567, qr_236_568, qr_236_569, qr_236_570, qr_236_571, qr_236_572, qr_236_573, qr_236_574, qr_236_575, qr_236_576, qr_236_579, qr_236_582, qr_236_583, true_and, and_true, false_and, and_false, Option.bind_some, Option.toList_some, Option.toList_none, List.nil_append, List.cons_append, if_true, if_false, ite_true, ite_false, not_true_eq_false, not_false_eq_true, nI_add, eq_self, e2, r1, r2]
theorem qL_c14 (hJ : qJ m (K, I, R, n, z)) (hm : m ≤ 512) (h5 : 5 * m + 4 < (K 0).2) : qL_c d m 584 K I (K, I, R, n, z) := by
  obtain ⟨v, ⟨K1, I1, R1, n1, z1⟩, h2, r1, r2, ⟨e1, e2, e3⟩, e4, e5, hJ2⟩ := qJ_account (d := d) (x := I 0 (5 * m + 1)) (y := I 0 (5 * m + 2)) hJ hm
  obtain ⟨kk1, kk2⟩ := qJ_kk hJ
  have e1 : K1 0 = K 0 := e1
  have e2 : I1 0 = I 0 := e2
  have e3 : K1 189 = (11, 0) := e3.trans kk2
  have h6 : 5 * m + 4 < (K1 0).2 := by rw [e1]; exact h5
  have h7 : 5 * m + 4 < 2147483648 := by omega
  refine ⟨h2, fun r hr => ?_, e4, e5, hJ2⟩
  rw [← hr]
  simp (disch := first | assumption | omega | exact Or.inl rfl | exact Or.inr rfl | exact qb_01) only [qr_236_584, qr_236_585, qr_236_586, qr_236_587, qr_236_588, qr_236_589, qr_236_590, qr_236_591, qr_236_592, qr_236_593, qr_236_594, qr_236_595, qr_236_598, qr_236_599, qr_236_600, qr_236_601, qr_236_602, qr_236_603, qr_236_604, qr_236_605, qr_236_606, qr_236_607, qr_236_608, qr_236_609, qr_236_612, qr_236_615, qr_236_616, true_and, and_true, false_and, and_false, Option.bind_some, Option.toList_some, Option.toList_none, List.nil_append, List.cons_append, if_true, if_false, ite_true, ite_false, not_true_eq_false, not_false_eq_true, nI_add, eq_self, e2, r1, r2]
theorem qL_c15 (hJ : qJ m (K, I, R, n, z)) (hm : m ≤ 512) (h5 : 5 * m + 4 < (K 0).2) : qL_c d m 617 K I (K, I, R, n, z) := by
  obtain ⟨v, ⟨K1, I1, R1, n1, z1⟩, h2, r1, r2, ⟨e1, e2, e3⟩, e4, e5, hJ2⟩ := qJ_lasting (d := d) (x := I 0 (5 * m + 1)) hJ hm
  obtain ⟨kk1, kk2⟩ := qJ_kk hJ
  have e1 : K1 0 = K 0 := e1
  have e2 : I1 0 = I 0 := e2
  have e3 : K1 189 = (11, 0) := e3.trans kk2
  have h6 : 5 * m + 4 < (K1 0).2 := by rw [e1]; exact h5
  have h7 : 5 * m + 4 < 2147483648 := by omega
  refine ⟨h2, fun r hr => ?_, e4, e5, hJ2⟩
  rw [← hr]
  simp (disch := first | assumption | omega | exact Or.inl rfl | exact Or.inr rfl | exact qb_01) only [qr_236_617, qr_236_618, qr_236_619, qr_236_620, qr_236_621, qr_236_622, qr_236_623, qr_236_626, qr_236_627, qr_236_628, qr_236_629, qr_236_630, qr_236_631, qr_236_632, qr_236_635, qr_236_638, qr_236_639, true_and, and_true, false_and, and_false, Option.bind_some, Option.toList_some, Option.toList_none, List.nil_append, List.cons_append, if_true, if_false, ite_true, ite_false, not_true_eq_false, not_false_eq_true, nI_add, eq_self, e2, r1, r2]
theorem qL_c16 (hJ : qJ m (K, I, R, n, z)) (hm : m ≤ 512) (h5 : 5 * m + 4 < (K 0).2) : qL_c d m 640 K I (K, I, R, n, z) := by
  obtain ⟨v, ⟨K1, I1, R1, n1, z1⟩, h2, r1, r2, ⟨e1, e2, e3⟩, e4, e5, hJ2⟩ := qJ_explain (d := d) (x := I 0 (5 * m + 1)) hJ hm
  obtain ⟨kk1, kk2⟩ := qJ_kk hJ
  have e1 : K1 0 = K 0 := e1
  have e2 : I1 0 = I 0 := e2
  have e3 : K1 189 = (11, 0) := e3.trans kk2
  have h6 : 5 * m + 4 < (K1 0).2 := by rw [e1]; exact h5
  have h7 : 5 * m + 4 < 2147483648 := by omega
  refine ⟨h2, fun r hr => ?_, e4, e5, hJ2⟩
  rw [← hr]
  simp (disch := first | assumption | omega | exact Or.inl rfl | exact Or.inr rfl | exact qb_01) only [qr_236_640, qr_236_641, qr_236_642, qr_236_643, qr_236_644, qr_236_645, qr_236_646, qr_236_649, qr_236_650, qr_236_651, qr_236_652, qr_236_653, qr_236_654, qr_236_655, qr_236_658, qr_236_661, qr_236_662, true_and, and_true, false_and, and_false, Option.bind_some, Option.toList_some, Option.toList_none, List.nil_append, List.cons_append, if_true, if_false, ite_true, ite_false, not_true_eq_false, not_false_eq_true, nI_add, eq_self, e2, r1, r2]
theorem qL_c17 (hJ : qJ m (K, I, R, n, z)) (hm : m ≤ 512) (h5 : 5 * m + 4 < (K 0).2) : qL_c d m 663 K I (K, I, R, n, z) := by
  obtain ⟨v, ⟨K1, I1, R1, n1, z1⟩, h2, r1, r2, ⟨e1, e2, e3⟩, e4, e5, hJ2⟩ := qJ_explanation (d := d) (x := I 0 (5 * m + 1)) (y := I 0 (5 * m + 2)) hJ hm
  obtain ⟨kk1, kk2⟩ := qJ_kk hJ
  have e1 : K1 0 = K 0 := e1
  have e2 : I1 0 = I 0 := e2
  have e3 : K1 189 = (11, 0) := e3.trans kk2
  have h6 : 5 * m + 4 < (K1 0).2 := by rw [e1]; exact h5
  have h7 : 5 * m + 4 < 2147483648 := by omega
  refine ⟨h2, fun r hr => ?_, e4, e5, hJ2⟩
  rw [← hr]
  simp (disch := first | assumption | omega | exact Or.inl rfl | exact Or.inr rfl | exact qb_01) only [qr_236_663, qr_236_664, qr_236_665, qr_236_666, qr_236_667, qr_236_668, qr_236_669, qr_236_670, qr_236_671, qr_236_672, qr_236_673, qr_236_674, qr_236_677, qr_236_678, qr_236_679, qr_236_680, qr_236_681, qr_236_682, qr_236_683, qr_236_684, qr_236_685, qr_236_686, qr_236_687, qr_236_688, qr_236_691, qr_236_694, qr_236_695, true_and, and_true, false_and, and_false, Option.bind_some, Option.toList_some, Option.toList_none, List.nil_append, List.cons_append, if_true, if_false, ite_true, ite_false, not_true_eq_false, not_false_eq_true, nI_add, eq_self, e2, r1, r2]
theorem qL_c18 (hJ : qJ m (K, I, R, n, z)) (hm : m ≤ 512) (h5 : 5 * m + 4 < (K 0).2) : qL_c d m 696 K I (K, I, R, n, z) := by
  obtain ⟨v, ⟨K1, I1, R1, n1, z1⟩, h2, r1, r2, ⟨e1, e2, e3⟩, e4, e5, hJ2⟩ := qJ_replayed (d := d) (x := I 0 (5 * m + 1)) (y := I 0 (5 * m + 2)) hJ hm
  obtain ⟨kk1, kk2⟩ := qJ_kk hJ
  have e1 : K1 0 = K 0 := e1
  have e2 : I1 0 = I 0 := e2
  have e3 : K1 189 = (11, 0) := e3.trans kk2
  have h6 : 5 * m + 4 < (K1 0).2 := by rw [e1]; exact h5
  have h7 : 5 * m + 4 < 2147483648 := by omega
  refine ⟨h2, fun r hr => ?_, e4, e5, hJ2⟩
  rw [← hr]
  simp (disch := first | assumption | omega | exact Or.inl rfl | exact Or.inr rfl | exact qb_01) only [qr_236_696, qr_236_697, qr_236_698, qr_236_699, qr_236_700, qr_236_701, qr_236_702, qr_236_703, qr_236_704, qr_236_705, qr_236_706, qr_236_707, qr_236_710, qr_236_711, qr_236_712, qr_236_713, qr_236_714, qr_236_715, qr_236_716, qr_236_717, qr_236_718, qr_236_719, qr_236_720, qr_236_721, qr_236_724, qr_236_727, qr_236_728, true_and, and_true, false_and, and_false, Option.bind_some, Option.toList_some, Option.toList_none, List.nil_append, List.cons_append, if_true, if_false, ite_true, ite_false, not_true_eq_false, not_false_eq_true, nI_add, eq_self, e2, r1, r2]
theorem qL_c19 (hJ : qJ m (K, I, R, n, z)) (hm : m ≤ 512) (h5 : 5 * m + 4 < (K 0).2) : qL_c d m 729 K I (K, I, R, n, z) := by
  obtain ⟨v, ⟨K1, I1, R1, n1, z1⟩, h2, r1, r2, ⟨e1, e2, e3⟩, e4, e5, hJ2⟩ := qJ_logEntry (d := d) (x := I 0 (5 * m + 1)) (y := I 0 (5 * m + 2)) hJ hm
  obtain ⟨kk1, kk2⟩ := qJ_kk hJ
  have e1 : K1 0 = K 0 := e1
  have e2 : I1 0 = I 0 := e2
  have e3 : K1 189 = (11, 0) := e3.trans kk2
  have h6 : 5 * m + 4 < (K1 0).2 := by rw [e1]; exact h5
  have h7 : 5 * m + 4 < 2147483648 := by omega
  refine ⟨h2, fun r hr => ?_, e4, e5, hJ2⟩
  rw [← hr]
  simp (disch := first | assumption | omega | exact Or.inl rfl | exact Or.inr rfl | exact qb_01) only [qr_236_729, qr_236_730, qr_236_731, qr_236_732, qr_236_733, qr_236_734, qr_236_735, qr_236_736, qr_236_737, qr_236_738, qr_236_739, qr_236_740, qr_236_743, qr_236_744, qr_236_745, qr_236_746, qr_236_747, qr_236_748, qr_236_749, qr_236_750, qr_236_751, qr_236_752, qr_236_753, qr_236_754, qr_236_757, qr_236_760, qr_236_761, true_and, and_true, false_and, and_false, Option.bind_some, Option.toList_some, Option.toList_none, List.nil_append, List.cons_append, if_true, if_false, ite_true, ite_false, not_true_eq_false, not_false_eq_true, nI_add, eq_self, e2, r1, r2]
theorem qL_c20 (hJ : qJ m (K, I, R, n, z)) (hm : m ≤ 512) (h5 : 5 * m + 4 < (K 0).2) : qL_c d m 762 K I (K, I, R, n, z) := by
  obtain ⟨v, ⟨K1, I1, R1, n1, z1⟩, h2, r1, r2, ⟨e1, e2, e3⟩, e4, e5, hJ2⟩ := qJ_count (d := d) (x := I 0 (5 * m + 1)) hJ hm
  obtain ⟨kk1, kk2⟩ := qJ_kk hJ
  have e1 : K1 0 = K 0 := e1
  have e2 : I1 0 = I 0 := e2
  have e3 : K1 189 = (11, 0) := e3.trans kk2
  have h6 : 5 * m + 4 < (K1 0).2 := by rw [e1]; exact h5
  have h7 : 5 * m + 4 < 2147483648 := by omega
  refine ⟨h2, fun r hr => ?_, e4, e5, hJ2⟩
  rw [← hr]
  simp (disch := first | assumption | omega | exact Or.inl rfl | exact Or.inr rfl | exact qb_01) only [qr_236_762, qr_236_763, qr_236_764, qr_236_765, qr_236_766, qr_236_767, qr_236_768, qr_236_771, qr_236_772, qr_236_773, qr_236_774, qr_236_775, qr_236_776, qr_236_777, qr_236_780, qr_236_783, qr_236_784, true_and, and_true, false_and, and_false, Option.bind_some, Option.toList_some, Option.toList_none, List.nil_append, List.cons_append, if_true, if_false, ite_true, ite_false, not_true_eq_false, not_false_eq_true, nI_add, eq_self, e2, r1, r2]
theorem qL_c21 (hJ : qJ m (K, I, R, n, z)) (hm : m ≤ 512) (h5 : 5 * m + 4 < (K 0).2) : qL_c d m 785 K I (K, I, R, n, z) := by
  obtain ⟨v, ⟨K1, I1, R1, n1, z1⟩, h2, r1, r2, ⟨e1, e2, e3⟩, e4, e5, hJ2⟩ := qJ_write (d := d)  hJ hm
  obtain ⟨kk1, kk2⟩ := qJ_kk hJ
  have e1 : K1 0 = K 0 := e1
  have e2 : I1 0 = I 0 := e2
  have e3 : K1 189 = (11, 0) := e3.trans kk2
  have h6 : 5 * m + 4 < (K1 0).2 := by rw [e1]; exact h5
  have h7 : 5 * m + 4 < 2147483648 := by omega
  refine ⟨h2, fun r hr => ?_, e4, e5, hJ2⟩
  rw [← hr]
  simp (disch := first | assumption | omega | exact Or.inl rfl | exact Or.inr rfl | exact qb_01) only [qr_236_785, qr_236_786, qr_236_789, qr_236_790, qr_236_793, qr_236_796, qr_236_797, true_and, and_true, false_and, and_false, Option.bind_some, Option.toList_some, Option.toList_none, List.nil_append, List.cons_append, if_true, if_false, ite_true, ite_false, not_true_eq_false, not_false_eq_true, nI_add, eq_self, e2, r1, r2]
theorem qL_c22 (hJ : qJ m (K, I, R, n, z)) (hm : m ≤ 512) (h5 : 5 * m + 4 < (K 0).2) : qL_c d m 798 K I (K, I, R, n, z) := by
  obtain ⟨v, ⟨K1, I1, R1, n1, z1⟩, h2, r1, r2, ⟨e1, e2, e3⟩, e4, e5, hJ2⟩ := qJ_written (d := d) (x := I 0 (5 * m + 1)) hJ hm
  obtain ⟨kk1, kk2⟩ := qJ_kk hJ
  have e1 : K1 0 = K 0 := e1
  have e2 : I1 0 = I 0 := e2
  have e3 : K1 189 = (11, 0) := e3.trans kk2
  have h6 : 5 * m + 4 < (K1 0).2 := by rw [e1]; exact h5
  have h7 : 5 * m + 4 < 2147483648 := by omega
  refine ⟨h2, fun r hr => ?_, e4, e5, hJ2⟩
  rw [← hr]
  simp (disch := first | assumption | omega | exact Or.inl rfl | exact Or.inr rfl | exact qb_01) only [qr_236_798, qr_236_799, qr_236_800, qr_236_801, qr_236_802, qr_236_803, qr_236_804, qr_236_807, qr_236_808, qr_236_809, qr_236_810, qr_236_811, qr_236_812, qr_236_813, qr_236_816, qr_236_819, qr_236_820, true_and, and_true, false_and, and_false, Option.bind_some, Option.toList_some, Option.toList_none, List.nil_append, List.cons_append, if_true, if_false, ite_true, ite_false, not_true_eq_false, not_false_eq_true, nI_add, eq_self, e2, r1, r2]
theorem qL_c23 (hJ : qJ m (K, I, R, n, z)) (hm : m ≤ 512) (h5 : 5 * m + 4 < (K 0).2) : qL_c d m 821 K I (K, I, R, n, z) := by
  obtain ⟨v, ⟨K1, I1, R1, n1, z1⟩, h2, r1, r2, ⟨e1, e2, e3⟩, e4, e5, hJ2⟩ := qJ_undo (d := d)  hJ hm
  obtain ⟨kk1, kk2⟩ := qJ_kk hJ
  have e1 : K1 0 = K 0 := e1
  have e2 : I1 0 = I 0 := e2
  have e3 : K1 189 = (11, 0) := e3.trans kk2
  have h6 : 5 * m + 4 < (K1 0).2 := by rw [e1]; exact h5
  have h7 : 5 * m + 4 < 2147483648 := by omega
  refine ⟨h2, fun r hr => ?_, e4, e5, hJ2⟩
  rw [← hr]
  simp (disch := first | assumption | omega | exact Or.inl rfl | exact Or.inr rfl | exact qb_01) only [qr_236_821, qr_236_822, qr_236_825, qr_236_826, qr_236_829, qr_236_832, qr_236_833, true_and, and_true, false_and, and_false, Option.bind_some, Option.toList_some, Option.toList_none, List.nil_append, List.cons_append, if_true, if_false, ite_true, ite_false, not_true_eq_false, not_false_eq_true, nI_add, eq_self, e2, r1, r2]
theorem qL_c24 (hJ : qJ m (K, I, R, n, z)) (hm : m ≤ 512) (h5 : 5 * m + 4 < (K 0).2) : qL_c d m 834 K I (K, I, R, n, z) := by
  obtain ⟨v, ⟨K1, I1, R1, n1, z1⟩, h2, r1, r2, ⟨e1, e2, e3⟩, e4, e5, hJ2⟩ := qJ_save (d := d)  hJ hm
  obtain ⟨kk1, kk2⟩ := qJ_kk hJ
  have e1 : K1 0 = K 0 := e1
  have e2 : I1 0 = I 0 := e2
  have e3 : K1 189 = (11, 0) := e3.trans kk2
  have h6 : 5 * m + 4 < (K1 0).2 := by rw [e1]; exact h5
  have h7 : 5 * m + 4 < 2147483648 := by omega
  refine ⟨h2, fun r hr => ?_, e4, e5, hJ2⟩
  rw [← hr]
  simp (disch := first | assumption | omega | exact Or.inl rfl | exact Or.inr rfl | exact qb_01) only [qr_236_834, qr_236_835, qr_236_838, qr_236_839, qr_236_842, qr_236_845, qr_236_846, true_and, and_true, false_and, and_false, Option.bind_some, Option.toList_some, Option.toList_none, List.nil_append, List.cons_append, if_true, if_false, ite_true, ite_false, not_true_eq_false, not_false_eq_true, nI_add, eq_self, e2, r1, r2]
theorem qL_c25 (hJ : qJ m (K, I, R, n, z)) (hm : m ≤ 512) (h5 : 5 * m + 4 < (K 0).2) : qL_c d m 847 K I (K, I, R, n, z) := by
  obtain ⟨v, ⟨K1, I1, R1, n1, z1⟩, h2, r1, r2, ⟨e1, e2, e3⟩, e4, e5, hJ2⟩ := qJ_restore (d := d)  hJ hm
  obtain ⟨kk1, kk2⟩ := qJ_kk hJ
  have e1 : K1 0 = K 0 := e1
  have e2 : I1 0 = I 0 := e2
  have e3 : K1 189 = (11, 0) := e3.trans kk2
  have h6 : 5 * m + 4 < (K1 0).2 := by rw [e1]; exact h5
  have h7 : 5 * m + 4 < 2147483648 := by omega
  refine ⟨h2, fun r hr => ?_, e4, e5, hJ2⟩
  rw [← hr]
  simp (disch := first | assumption | omega | exact Or.inl rfl | exact Or.inr rfl | exact qb_01) only [qr_236_847, qr_236_848, qr_236_851, qr_236_852, qr_236_855, qr_236_858, qr_236_859, true_and, and_true, false_and, and_false, Option.bind_some, Option.toList_some, Option.toList_none, List.nil_append, List.cons_append, if_true, if_false, ite_true, ite_false, not_true_eq_false, not_false_eq_true, nI_add, eq_self, e2, r1, r2]
theorem qL_v {x : Int32} : (x.toInt < 0 ∨ 25 < x.toInt) ∨ ∃ k, k ≤ 25 ∧ x = nI k := by
  by_cases h : x.toInt < 0 ∨ 25 < x.toInt
  · exact Or.inl h
  · refine Or.inr ⟨x.toInt.toNat, by omega, Int32.toInt_inj.mp ?_⟩
    rw [nI_toInt (by omega)]
    omega
theorem qL_lt {L j : Nat} (hL : L ≤ 2560) (hj : j ≤ 2560) : (nI L - nI 5 < nI j) = (L < j + 5) := by
  have h1 := pk_sub_toInt (a := L) (b := 5) (by omega) (by omega)
  have h2 := nI_toInt (n := j) (by omega)
  rw [Int32.lt_iff_toInt_lt, h1, h2]
  exact propext (by omega)
theorem qL_loop (hL : L ≤ 2560) : ∀ f m, m + f = 513 → 5 * m ≤ 2560 → ∀ h : qa_H, qJ m h → (h.1 0).2 = L → h.2.1 0 = xs → ∃ h', qa_run (d + 27) 236 18 [qa_a (some 0), qa_a (some 1), qa_a (some 189), qa_i (nI (5 * m))] [] [] h = some (some (qa_i (nI 1)), h') ∧ h'.2.2.2.1 ≤ 600001 ∧ h'.2.2.2.2 ≤ 7302250 := by
  intro f
  induction f with
  | zero => intro m h1 h2; exact absurd h2 (by omega)
  | succ f ih =>
    intro m h1 h2 h hJ hK hI
    obtain ⟨K, I, R, n, z⟩ := h
    have hK : (K 0).2 = L := hK
    have hI : I 0 = xs := hI
    have lt := qL_lt (L := L) (j := 5 * m) hL h2
    by_cases hc : L < 5 * m + 5
    · have j4 : n ≤ 204 + 84 * m := hJ.2.2.2.1
      have j5 : z ≤ 20000 + 354 * m := hJ.2.2.2.2.1
      refine ⟨(K, I, R, n, z), ?_, by show n ≤ 600001; omega, by show z ≤ 7302250; omega⟩
      rw [qr_236_18]
      simp (disch := first | assumption | omega | exact Or.inl rfl | exact Or.inr rfl | exact qb_01) only [qr_236_19, qr_236_20, qr_236_21, qr_236_22, qr_236_23, qr_236_26, qr_236_27, qr_236_28, qr_236_29, qr_236_31, qr_236_866, qr_236_867, true_and, and_true, false_and, and_false, Option.bind_some, Option.toList_some, Option.toList_none, List.nil_append, List.cons_append, if_true, if_false, ite_true, ite_false, not_true_eq_false, not_false_eq_true, hK, lt, hc]
    · have hm5 : m ≤ 511 := by omega
      have hj : 5 * m < (K 0).2 := by omega
      have h31 : 5 * m < 2147483648 := by omega
      have h54 : 5 * m + 4 < (K 0).2 := by omega
      have tail : ∀ pc, qL_c d m pc K I (K, I, R, n, z) → ∃ h', qa_run (d + 27) 236 pc [qa_a (some 0), qa_a (some 1), qa_a (some 189), qa_i (nI (5 * m))] [] [] (K, I, R, n, z) = some (some (qa_i (nI 1)), h') ∧ h'.2.2.2.1 ≤ 600001 ∧ h'.2.2.2.2 ≤ 7302250 := by
        intro pc ⟨h2, q1, q2, q3, q4⟩
        obtain ⟨h', w1, w2, w3⟩ := ih (m + 1) (by omega) (by omega) h2 q4 (by rw [q2]; exact hK) (by rw [q3]; exact hI)
        rw [show 5 * (m + 1) = 5 * m + 5 by omega] at w1
        refine ⟨h', q1 _ ?_, w2, w3⟩
        rw [qr_236_860, qr_236_863, nI_add]
        exact w1
      have pre : ∀ pc, qL_c d m pc K I (K, I, R, n, z) → (∀ S, qa_run (d + 27) 236 32 [qa_a (some 0), qa_a (some 1), qa_a (some 189), qa_i (nI (5 * m))] [] (qa_i (I 0 (5 * m) &&& nI 31) :: S) (K, I, R, n, z) = qa_run (d + 27) 236 pc [qa_a (some 0), qa_a (some 1), qa_a (some 189), qa_i (nI (5 * m))] [] S (K, I, R, n, z)) → ∃ h', qa_run (d + 27) 236 18 [qa_a (some 0), qa_a (some 1), qa_a (some 189), qa_i (nI (5 * m))] [] [] (K, I, R, n, z) = some (some (qa_i (nI 1)), h') ∧ h'.2.2.2.1 ≤ 600001 ∧ h'.2.2.2.2 ≤ 7302250 := by
        intro pc h1 h2
        obtain ⟨h', w1, w2, w3⟩ := tail pc h1
        refine ⟨h', ?_, w2, w3⟩
        rw [qr_236_18]
        simp (disch := first | assumption | omega | exact Or.inl rfl | exact Or.inr rfl | exact qb_01) only [qr_236_19, qr_236_20, qr_236_21, qr_236_22, qr_236_23, qr_236_26, qr_236_27, qr_236_28, qr_236_29, qr_236_31, qr_236_866, qr_236_867, true_and, and_true, false_and, and_false, Option.bind_some, Option.toList_some, Option.toList_none, List.nil_append, List.cons_append, if_true, if_false, ite_true, ite_false, not_true_eq_false, not_false_eq_true, hK, lt, hc]
        rw [h2]
        exact w1
      rcases qL_v (x := I 0 (5 * m) &&& nI 31) with hx | ⟨k, hk, hx⟩
      · refine pre 860 ⟨(K, I, R, n, z), fun r hr => hr, rfl, rfl, ?_⟩ (fun S => qr_236_32_d hx)
        obtain ⟨j1, j2, j3, j4, j5, nk, pm, T, ni, fs, hd, s, b, g, el, er, nh, P, len, tx, wl, wt, lv, ec, en, sn, nk', pm', T', ni', fs', hd', sv, j6, j7, j8⟩ := hJ
        exact ⟨j1, j2, j3, by omega, by omega, nk, pm, T, ni, fs, hd, s, b, g, el, er, nh, P, len, tx, wl, wt, lv, ec, en, sn, nk', pm', T', ni', fs', hd', sv, j6, j7, qZp_mono j8 (by omega)⟩
      · rw [hx] at pre
        match k, hk with
        | 0, _ => exact pre 152 (qL_c0 hJ (by omega) h54) (fun S => qr_236_32_0)
        | 1, _ => exact pre 185 (qL_c1 hJ (by omega) h54) (fun S => qr_236_32_1)
        | 2, _ => exact pre 198 (qL_c2 hJ (by omega) h54) (fun S => qr_236_32_2)
        | 3, _ => exact pre 231 (qL_c3 hJ (by omega) h54) (fun S => qr_236_32_3)
        | 4, _ => exact pre 264 (qL_c4 hJ (by omega) h54) (fun S => qr_236_32_4)
        | 5, _ => exact pre 297 (qL_c5 hJ (by omega) h54) (fun S => qr_236_32_5)
        | 6, _ => exact pre 320 (qL_c6 hJ (by omega) h54) (fun S => qr_236_32_6)
        | 7, _ => exact pre 353 (qL_c7 hJ (by omega) h54) (fun S => qr_236_32_7)
        | 8, _ => exact pre 386 (qL_c8 hJ (by omega) h54) (fun S => qr_236_32_8)
        | 9, _ => exact pre 419 (qL_c9 hJ (by omega) h54) (fun S => qr_236_32_9)
        | 10, _ => exact pre 442 (qL_c10 hJ (by omega) h54) (fun S => qr_236_32_10)
        | 11, _ => exact pre 465 (qL_c11 hJ (by omega) h54) (fun S => qr_236_32_11)
        | 12, _ => exact pre 488 (qL_c12 hJ (by omega) h54) (fun S => qr_236_32_12)
        | 13, _ => exact pre 541 (qL_c13 hJ (by omega) h54) (fun S => qr_236_32_13)
        | 14, _ => exact pre 584 (qL_c14 hJ (by omega) h54) (fun S => qr_236_32_14)
        | 15, _ => exact pre 617 (qL_c15 hJ (by omega) h54) (fun S => qr_236_32_15)
        | 16, _ => exact pre 640 (qL_c16 hJ (by omega) h54) (fun S => qr_236_32_16)
        | 17, _ => exact pre 663 (qL_c17 hJ (by omega) h54) (fun S => qr_236_32_17)
        | 18, _ => exact pre 696 (qL_c18 hJ (by omega) h54) (fun S => qr_236_32_18)
        | 19, _ => exact pre 729 (qL_c19 hJ (by omega) h54) (fun S => qr_236_32_19)
        | 20, _ => exact pre 762 (qL_c20 hJ (by omega) h54) (fun S => qr_236_32_20)
        | 21, _ => exact pre 785 (qL_c21 hJ (by omega) h54) (fun S => qr_236_32_21)
        | 22, _ => exact pre 798 (qL_c22 hJ (by omega) h54) (fun S => qr_236_32_22)
        | 23, _ => exact pre 821 (qL_c23 hJ (by omega) h54) (fun S => qr_236_32_23)
        | 24, _ => exact pre 834 (qL_c24 hJ (by omega) h54) (fun S => qr_236_32_24)
        | 25, _ => exact pre 847 (qL_c25 hJ (by omega) h54) (fun S => qr_236_32_25)
        | k + 26, hk => exact absurd hk (by omega)
theorem qL_init (hK : ∀ a, 1 ≤ a → K a = (77, 0)) : ∃ h2, (∀ r, qa_run (d + 27) 236 18 [qa_a (some 0), qa_a (some 1), qa_a (some 189), qa_i (nI 0)] [] [] h2 = r → qa_ex (d + 28) 236 [qa_a (some 0)] (K, I, R, 1, 0) = r) ∧ h2.1 0 = K 0 ∧ h2.2.1 0 = I 0 ∧ qJ 0 h2 := by
  obtain ⟨K', I', R', z', K2, I2, R2, z2, a1, a2, a3, a4, a5⟩ := qJ_start (d := d) (I := I) (R := R) (z := 12) hK (by omega)
  refine ⟨(K2, I2, R2, 204, z2), fun r hr => ?_, a3, a4, a5⟩
  rw [← hr]
  simp (disch := first | assumption | omega | exact Or.inl rfl | exact Or.inr rfl | exact qb_01) only [qe_236, qr_236_0, qr_236_3, qr_236_4, qr_236_7, qr_236_8, qr_236_11, qr_236_12, qr_236_15, qr_236_16, qr_236_17, true_and, and_true, false_and, and_false, Option.bind_some, Option.toList_some, Option.toList_none, List.nil_append, List.cons_append, if_true, if_false, ite_true, ite_false, not_true_eq_false, not_false_eq_true, Nat.reduceAdd, a1, a2]
theorem qa_law_runs (L : Nat) (xs : Nat → Int32) (hL : L ≤ 2560) : ∃ (d : Nat) (h' : qa_H), d < 1000 ∧ qa_ex (d + 1) qa_law [qa_a (some 0)] (qa_h0 L xs) = some (some (qa_i 1), h') ∧ h'.2.2.2.1 ≤ 600001 ∧ h'.2.2.2.2 ≤ 7302250 := by
  obtain ⟨K, hK⟩ : ∃ K : Nat → Nat × Nat, K = fun a => if a = 0 then (99, L) else (77, 0) := ⟨_, rfl⟩
  obtain ⟨I, hI⟩ : ∃ I : Nat → Nat → Int32, I = fun a => if a = 0 then xs else fun _ => 0 := ⟨_, rfl⟩
  have h0 : qa_h0 L xs = (K, I, fun _ _ => none, 1, 0) := by rw [hK, hI]; rfl
  rw [h0]
  have h77 : ∀ a, 1 ≤ a → K a = (77, 0) := fun a ha => by rw [hK]; exact if_neg (by omega)
  have k0 : K 0 = (99, L) := by rw [hK]; rfl
  have i0 : I 0 = xs := by rw [hI]; rfl
  obtain ⟨h2, q1, q2, q3, q4⟩ := qL_init (d := 0) (I := I) (R := fun _ _ => none) h77
  obtain ⟨h', w1, w2, w3⟩ := qL_loop (d := 0) (xs := xs) hL 513 0 rfl (by omega) h2 q4 (by rw [q2, k0]) (by rw [q3]; exact i0)
  exact ⟨27, h', by omega, q1 _ w1, w2, w3⟩
end Q77
