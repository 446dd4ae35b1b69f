/-! The law: all calls of both. -/
theorem law_1 {X M b E1 E2 i L : Nat} {h : xH} {xs : Nat → Int32} (hI : INV X M b E1 E2 h) (hs : scr h b L xs) (hi : i + 6 < L) (hL : L < 4000) : ∃ h2, xrun 80 203 191 [(1, .ref b), (1, .ref X), (1, .ref M), (1, .int (nI i))] [] h = xrun 80 203 1155 [(1, .ref b), (1, .ref X), (1, .ref M), (1, .int (nI i))] [] h2 ∧ INV X M b (E1 + 200) (E2 + 800) h2 ∧ scr h2 b L xs := by
  by_cases c : xs (i + 6) = nI 0
  · obtain ⟨v, h', h2, e1, e2, hI2, s2, s1, S', HM⟩ := call_member hI (xs (i + 1)) (xs (i + 2)) (lw (xs (i + 3)) (xs (i + 4))) (xs (i + 5)) false
    obtain ⟨y, rfl⟩ := xm_int e1 (Or.inl rfl)
    obtain ⟨SX, HX⟩ := hI.x
    have hs1 : scr h' b L xs := s1.trans hs
    have iX : ∀ {α : Type} (f : Option α), xis h X 8 f = f := fun f => h_is HX f
    have iM : ∀ {α : Type} (f : Option α), xis h' M 11 f = f := fun f => h_is HM f
    have r0 : ∀ {α : Type} {k : Nat} (hk : k < L) (F : Value → Option α), xrd h b (nI k) 0 1 F = F (.int (xs k)) := fun hk F => hs.rd hk hL F
    have r1 : ∀ {α : Type} {k : Nat} (hk : k < L) (F : Value → Option α), xrd h' b (nI k) 0 1 F = F (.int (xs k)) := fun hk F => hs1.rd hk hL F
    refine ⟨h2, ?_, hI2, s2.trans hs⟩
    unfold lw at e1 e2
    rw [bI_f] at e1 e2
    simp (disch := omega) only [q_203_191, q_203_192, q_203_193, q_203_194, q_203_195, q_203_196, q_203_197, q_203_198, q_203_199, q_203_200, q_203_201, q_203_202, q_203_203, q_203_204, q_203_205, q_203_206, q_203_207, q_203_208, q_203_210, q_203_211, q_203_212, q_203_213, q_203_214, q_203_215, q_203_216, q_203_217, q_203_220, q_203_221, q_203_222, q_203_223, q_203_224, q_203_225, q_203_226, q_203_227, q_203_228, q_203_229, q_203_231, q_203_232, q_203_233, q_203_236, q_203_237, q_203_240, q_203_241, q_203_244, q_203_245, q_203_246, q_203_247, q_203_248, q_203_249, q_203_250, q_203_251, q_203_252, q_203_253, q_203_254, q_203_255, q_203_256, q_203_257, q_203_258, q_203_259, q_203_260, q_203_261, q_203_263, q_203_264, q_203_265, q_203_266, q_203_267, q_203_268, q_203_269, q_203_270, q_203_273, q_203_274, q_203_275, q_203_276, q_203_277, q_203_278, q_203_279, q_203_280, q_203_281, q_203_282, q_203_284, q_203_285, q_203_286, q_203_289, q_203_290, q_203_293, q_203_294, q_203_297, ↓reduceIte, k_cr, k_ci, k_oR, k_oN, k_aR, k_aN, and_true, true_and, and_self, eq_self, Nat.reduceLT, Nat.reduceLeDiff, Nat.reduceEqDiff, Nat.reduceAdd, Nat.reduceMul, Bool.true_eq_false, Bool.false_eq_true, Nat.add_sub_cancel, Nat.not_lt_zero, Nat.zero_le, k_sub, k_sb1, k_r, k_n, k_ret, k_t1, k_t0, k_nr, k_nn, k_z0, k_z1, k_zb, x_okI, lit_nI, k_in, k_cl, k_lt, k_le, k_eq, k_neg, nI_add, nI_mul, k_clt, k_cgt, k_cle, k_cge, k_ceq, bI_0, k_sh8, ne_eq, Nat.add_eq_zero_iff, Nat.one_ne_zero, Nat.succ_ne_zero, and_false, false_and, not_false_eq_true, not_true_eq_false, ite_true, ite_false, if_true, if_false, r0, r1, iX, iM, e1, e2, c]
  · obtain ⟨v, h', h2, e1, e2, hI2, s2, s1, S', HM⟩ := call_member hI (xs (i + 1)) (xs (i + 2)) (lw (xs (i + 3)) (xs (i + 4))) (xs (i + 5)) true
    obtain ⟨y, rfl⟩ := xm_int e1 (Or.inl rfl)
    obtain ⟨SX, HX⟩ := hI.x
    have hs1 : scr h' b L xs := s1.trans hs
    have iX : ∀ {α : Type} (f : Option α), xis h X 8 f = f := fun f => h_is HX f
    have iM : ∀ {α : Type} (f : Option α), xis h' M 11 f = f := fun f => h_is HM f
    have r0 : ∀ {α : Type} {k : Nat} (hk : k < L) (F : Value → Option α), xrd h b (nI k) 0 1 F = F (.int (xs k)) := fun hk F => hs.rd hk hL F
    have r1 : ∀ {α : Type} {k : Nat} (hk : k < L) (F : Value → Option α), xrd h' b (nI k) 0 1 F = F (.int (xs k)) := fun hk F => hs1.rd hk hL F
    refine ⟨h2, ?_, hI2, s2.trans hs⟩
    unfold lw at e1 e2
    rw [bI_t] at e1 e2
    simp (disch := omega) only [q_203_191, q_203_192, q_203_193, q_203_194, q_203_195, q_203_196, q_203_197, q_203_198, q_203_199, q_203_200, q_203_201, q_203_202, q_203_203, q_203_204, q_203_205, q_203_206, q_203_207, q_203_208, q_203_210, q_203_211, q_203_212, q_203_213, q_203_214, q_203_215, q_203_216, q_203_217, q_203_220, q_203_221, q_203_222, q_203_223, q_203_224, q_203_225, q_203_226, q_203_227, q_203_228, q_203_229, q_203_231, q_203_232, q_203_233, q_203_236, q_203_237, q_203_240, q_203_241, q_203_244, q_203_245, q_203_246, q_203_247, q_203_248, q_203_249, q_203_250, q_203_251, q_203_252, q_203_253, q_203_254, q_203_255, q_203_256, q_203_257, q_203_258, q_203_259, q_203_260, q_203_261, q_203_263, q_203_264, q_203_265, q_203_266, q_203_267, q_203_268, q_203_269, q_203_270, q_203_273, q_203_274, q_203_275, q_203_276, q_203_277, q_203_278, q_203_279, q_203_280, q_203_281, q_203_282, q_203_284, q_203_285, q_203_286, q_203_289, q_203_290, q_203_293, q_203_294, q_203_297, ↓reduceIte, k_cr, k_ci, k_oR, k_oN, k_aR, k_aN, and_true, true_and, and_self, eq_self, Nat.reduceLT, Nat.reduceLeDiff, Nat.reduceEqDiff, Nat.reduceAdd, Nat.reduceMul, Bool.true_eq_false, Bool.false_eq_true, Nat.add_sub_cancel, Nat.not_lt_zero, Nat.zero_le, k_sub, k_sb1, k_r, k_n, k_ret, k_t1, k_t0, k_nr, k_nn, k_z0, k_z1, k_zb, x_okI, lit_nI, k_in, k_cl, k_lt, k_le, k_eq, k_neg, nI_add, nI_mul, k_clt, k_cgt, k_cle, k_cge, k_ceq, bI_0, k_sh8, ne_eq, Nat.add_eq_zero_iff, Nat.one_ne_zero, Nat.succ_ne_zero, and_false, false_and, not_false_eq_true, not_true_eq_false, ite_true, ite_false, if_true, if_false, r0, r1, iX, iM, e1, e2, c]
theorem law_2 {X M b E1 E2 i L : Nat} {h : xH} {xs : Nat → Int32} (hI : INV X M b E1 E2 h) (hs : scr h b L xs) (hi : i + 6 < L) (hL : L < 4000) : ∃ h2, xrun 80 203 302 [(1, .ref b), (1, .ref X), (1, .ref M), (1, .int (nI i))] [] h = xrun 80 203 1155 [(1, .ref b), (1, .ref X), (1, .ref M), (1, .int (nI i))] [] h2 ∧ INV X M b (E1 + 200) (E2 + 800) h2 ∧ scr h2 b L xs := by
  obtain ⟨v, h', h2, e1, e2, hI2, s2, s1, S', HM⟩ := call_begin hI (xs (i + 1))
  obtain ⟨y, rfl⟩ := xm_int e1 (Or.inl rfl)
  obtain ⟨SX, HX⟩ := hI.x
  have hs1 : scr h' b L xs := s1.trans hs
  have iX : ∀ {α : Type} (f : Option α), xis h X 8 f = f := fun f => h_is HX f
  have iM : ∀ {α : Type} (f : Option α), xis h' M 11 f = f := fun f => h_is HM f
  have r0 : ∀ {α : Type} {k : Nat} (hk : k < L) (F : Value → Option α), xrd h b (nI k) 0 1 F = F (.int (xs k)) := fun hk F => hs.rd hk hL F
  have r1 : ∀ {α : Type} {k : Nat} (hk : k < L) (F : Value → Option α), xrd h' b (nI k) 0 1 F = F (.int (xs k)) := fun hk F => hs1.rd hk hL F
  refine ⟨h2, ?_, hI2, s2.trans hs⟩
  simp (disch := omega) only [q_203_302, q_203_303, q_203_304, q_203_305, q_203_306, q_203_307, q_203_308, q_203_311, q_203_312, q_203_313, q_203_314, q_203_315, q_203_316, q_203_317, q_203_320, ↓reduceIte, k_cr, k_ci, k_oR, k_oN, k_aR, k_aN, and_true, true_and, and_self, eq_self, Nat.reduceLT, Nat.reduceLeDiff, Nat.reduceEqDiff, Nat.reduceAdd, Nat.reduceMul, Bool.true_eq_false, Bool.false_eq_true, Nat.add_sub_cancel, Nat.not_lt_zero, Nat.zero_le, k_sub, k_sb1, k_r, k_n, k_ret, k_t1, k_t0, k_nr, k_nn, k_z0, k_z1, k_zb, x_okI, lit_nI, k_in, k_cl, k_lt, k_le, k_eq, k_neg, nI_add, nI_mul, k_clt, k_cgt, k_cle, k_cge, k_ceq, bI_0, k_sh8, ne_eq, Nat.add_eq_zero_iff, Nat.one_ne_zero, Nat.succ_ne_zero, and_false, false_and, not_false_eq_true, not_true_eq_false, ite_true, ite_false, if_true, if_false, r0, r1, iX, iM, e1, e2]
theorem law_3 {X M b E1 E2 i L : Nat} {h : xH} {xs : Nat → Int32} (hI : INV X M b E1 E2 h) (hs : scr h b L xs) (hi : i + 6 < L) (hL : L < 4000) : ∃ h2, xrun 80 203 325 [(1, .ref b), (1, .ref X), (1, .ref M), (1, .int (nI i))] [] h = xrun 80 203 1155 [(1, .ref b), (1, .ref X), (1, .ref M), (1, .int (nI i))] [] h2 ∧ INV X M b (E1 + 200) (E2 + 800) h2 ∧ scr h2 b L xs := by
  obtain ⟨v, h', h2, e1, e2, hI2, s2, s1, S', HM⟩ := call_value hI (lw (xs (i + 1)) (xs (i + 2))) (xs (i + 3))
  obtain ⟨y, rfl⟩ := xm_int e1 (Or.inl rfl)
  obtain ⟨SX, HX⟩ := hI.x
  have hs1 : scr h' b L xs := s1.trans hs
  have iX : ∀ {α : Type} (f : Option α), xis h X 8 f = f := fun f => h_is HX f
  have iM : ∀ {α : Type} (f : Option α), xis h' M 11 f = f := fun f => h_is HM f
  have r0 : ∀ {α : Type} {k : Nat} (hk : k < L) (F : Value → Option α), xrd h b (nI k) 0 1 F = F (.int (xs k)) := fun hk F => hs.rd hk hL F
  have r1 : ∀ {α : Type} {k : Nat} (hk : k < L) (F : Value → Option α), xrd h' b (nI k) 0 1 F = F (.int (xs k)) := fun hk F => hs1.rd hk hL F
  refine ⟨h2, ?_, hI2, s2.trans hs⟩
  unfold lw at e1 e2
  simp (disch := omega) only [q_203_325, q_203_326, q_203_327, q_203_328, q_203_329, q_203_330, q_203_331, q_203_332, q_203_334, q_203_335, q_203_336, q_203_337, q_203_338, q_203_339, q_203_340, q_203_341, q_203_344, q_203_345, q_203_346, q_203_347, q_203_348, q_203_349, q_203_350, q_203_351, q_203_354, q_203_355, q_203_356, q_203_357, q_203_358, q_203_359, q_203_360, q_203_361, q_203_363, q_203_364, q_203_365, q_203_366, q_203_367, q_203_368, q_203_369, q_203_370, q_203_373, q_203_374, q_203_375, q_203_376, q_203_377, q_203_378, q_203_379, q_203_380, q_203_383, ↓reduceIte, k_cr, k_ci, k_oR, k_oN, k_aR, k_aN, and_true, true_and, and_self, eq_self, Nat.reduceLT, Nat.reduceLeDiff, Nat.reduceEqDiff, Nat.reduceAdd, Nat.reduceMul, Bool.true_eq_false, Bool.false_eq_true, Nat.add_sub_cancel, Nat.not_lt_zero, Nat.zero_le, k_sub, k_sb1, k_r, k_n, k_ret, k_t1, k_t0, k_nr, k_nn, k_z0, k_z1, k_zb, x_okI, lit_nI, k_in, k_cl, k_lt, k_le, k_eq, k_neg, nI_add, nI_mul, k_clt, k_cgt, k_cle, k_cge, k_ceq, bI_0, k_sh8, ne_eq, Nat.add_eq_zero_iff, Nat.one_ne_zero, Nat.succ_ne_zero, and_false, false_and, not_false_eq_true, not_true_eq_false, ite_true, ite_false, if_true, if_false, r0, r1, iX, iM, e1, e2]
theorem law_4 {X M b E1 E2 i L : Nat} {h : xH} {xs : Nat → Int32} (hI : INV X M b E1 E2 h) (hs : scr h b L xs) (hi : i + 6 < L) (hL : L < 4000) : ∃ h2, xrun 80 203 388 [(1, .ref b), (1, .ref X), (1, .ref M), (1, .int (nI i))] [] h = xrun 80 203 1155 [(1, .ref b), (1, .ref X), (1, .ref M), (1, .int (nI i))] [] h2 ∧ INV X M b (E1 + 200) (E2 + 800) h2 ∧ scr h2 b L xs := by
  obtain ⟨v, h', h2, e1, e2, hI2, s2, s1, S', HM⟩ := call_set hI (lw (xs (i + 1)) (xs (i + 2))) (xs (i + 3)) (lw (xs (i + 4)) (xs (i + 5)))
  obtain ⟨y, rfl⟩ := xm_int e1 (Or.inl rfl)
  obtain ⟨SX, HX⟩ := hI.x
  have hs1 : scr h' b L xs := s1.trans hs
  have iX : ∀ {α : Type} (f : Option α), xis h X 8 f = f := fun f => h_is HX f
  have iM : ∀ {α : Type} (f : Option α), xis h' M 11 f = f := fun f => h_is HM f
  have r0 : ∀ {α : Type} {k : Nat} (hk : k < L) (F : Value → Option α), xrd h b (nI k) 0 1 F = F (.int (xs k)) := fun hk F => hs.rd hk hL F
  have r1 : ∀ {α : Type} {k : Nat} (hk : k < L) (F : Value → Option α), xrd h' b (nI k) 0 1 F = F (.int (xs k)) := fun hk F => hs1.rd hk hL F
  refine ⟨h2, ?_, hI2, s2.trans hs⟩
  unfold lw at e1 e2
  simp (disch := omega) only [q_203_388, q_203_389, q_203_390, q_203_391, q_203_392, q_203_393, q_203_394, q_203_395, q_203_397, q_203_398, q_203_399, q_203_400, q_203_401, q_203_402, q_203_403, q_203_404, q_203_407, q_203_408, q_203_409, q_203_410, q_203_411, q_203_412, q_203_413, q_203_414, q_203_415, q_203_416, q_203_417, q_203_418, q_203_419, q_203_420, q_203_422, q_203_423, q_203_424, q_203_425, q_203_426, q_203_427, q_203_428, q_203_429, q_203_432, q_203_433, q_203_434, q_203_437, q_203_438, q_203_439, q_203_440, q_203_441, q_203_442, q_203_443, q_203_444, q_203_446, q_203_447, q_203_448, q_203_449, q_203_450, q_203_451, q_203_452, q_203_453, q_203_456, q_203_457, q_203_458, q_203_459, q_203_460, q_203_461, q_203_462, q_203_463, q_203_464, q_203_465, q_203_466, q_203_467, q_203_468, q_203_469, q_203_471, q_203_472, q_203_473, q_203_474, q_203_475, q_203_476, q_203_477, q_203_478, q_203_481, q_203_482, q_203_483, q_203_486, ↓reduceIte, k_cr, k_ci, k_oR, k_oN, k_aR, k_aN, and_true, true_and, and_self, eq_self, Nat.reduceLT, Nat.reduceLeDiff, Nat.reduceEqDiff, Nat.reduceAdd, Nat.reduceMul, Bool.true_eq_false, Bool.false_eq_true, Nat.add_sub_cancel, Nat.not_lt_zero, Nat.zero_le, k_sub, k_sb1, k_r, k_n, k_ret, k_t1, k_t0, k_nr, k_nn, k_z0, k_z1, k_zb, x_okI, lit_nI, k_in, k_cl, k_lt, k_le, k_eq, k_neg, nI_add, nI_mul, k_clt, k_cgt, k_cle, k_cge, k_ceq, bI_0, k_sh8, ne_eq, Nat.add_eq_zero_iff, Nat.one_ne_zero, Nat.succ_ne_zero, and_false, false_and, not_false_eq_true, not_true_eq_false, ite_true, ite_false, if_true, if_false, r0, r1, iX, iM, e1, e2]
theorem law_5 {X M b E1 E2 i L : Nat} {h : xH} {xs : Nat → Int32} (hI : INV X M b E1 E2 h) (hs : scr h b L xs) (hi : i + 6 < L) (hL : L < 4000) : ∃ h2, xrun 80 203 491 [(1, .ref b), (1, .ref X), (1, .ref M), (1, .int (nI i))] [] h = xrun 80 203 1155 [(1, .ref b), (1, .ref X), (1, .ref M), (1, .int (nI i))] [] h2 ∧ INV X M b (E1 + 200) (E2 + 800) h2 ∧ scr h2 b L xs := by
  obtain ⟨v, h', h2, e1, e2, hI2, s2, s1, S', HM⟩ := call_add hI (lw (xs (i + 1)) (xs (i + 2))) (xs (i + 3)) (lw (xs (i + 4)) (xs (i + 5)))
  obtain ⟨y, rfl⟩ := xm_int e1 (Or.inl rfl)
  obtain ⟨SX, HX⟩ := hI.x
  have hs1 : scr h' b L xs := s1.trans hs
  have iX : ∀ {α : Type} (f : Option α), xis h X 8 f = f := fun f => h_is HX f
  have iM : ∀ {α : Type} (f : Option α), xis h' M 11 f = f := fun f => h_is HM f
  have r0 : ∀ {α : Type} {k : Nat} (hk : k < L) (F : Value → Option α), xrd h b (nI k) 0 1 F = F (.int (xs k)) := fun hk F => hs.rd hk hL F
  have r1 : ∀ {α : Type} {k : Nat} (hk : k < L) (F : Value → Option α), xrd h' b (nI k) 0 1 F = F (.int (xs k)) := fun hk F => hs1.rd hk hL F
  refine ⟨h2, ?_, hI2, s2.trans hs⟩
  unfold lw at e1 e2
  simp (disch := omega) only [q_203_491, q_203_492, q_203_493, q_203_494, q_203_495, q_203_496, q_203_497, q_203_498, q_203_500, q_203_501, q_203_502, q_203_503, q_203_504, q_203_505, q_203_506, q_203_507, q_203_510, q_203_511, q_203_512, q_203_513, q_203_514, q_203_515, q_203_516, q_203_517, q_203_518, q_203_519, q_203_520, q_203_521, q_203_522, q_203_523, q_203_525, q_203_526, q_203_527, q_203_528, q_203_529, q_203_530, q_203_531, q_203_532, q_203_535, q_203_536, q_203_537, q_203_540, q_203_541, q_203_542, q_203_543, q_203_544, q_203_545, q_203_546, q_203_547, q_203_549, q_203_550, q_203_551, q_203_552, q_203_553, q_203_554, q_203_555, q_203_556, q_203_559, q_203_560, q_203_561, q_203_562, q_203_563, q_203_564, q_203_565, q_203_566, q_203_567, q_203_568, q_203_569, q_203_570, q_203_571, q_203_572, q_203_574, q_203_575, q_203_576, q_203_577, q_203_578, q_203_579, q_203_580, q_203_581, q_203_584, q_203_585, q_203_586, q_203_589, ↓reduceIte, k_cr, k_ci, k_oR, k_oN, k_aR, k_aN, and_true, true_and, and_self, eq_self, Nat.reduceLT, Nat.reduceLeDiff, Nat.reduceEqDiff, Nat.reduceAdd, Nat.reduceMul, Bool.true_eq_false, Bool.false_eq_true, Nat.add_sub_cancel, Nat.not_lt_zero, Nat.zero_le, k_sub, k_sb1, k_r, k_n, k_ret, k_t1, k_t0, k_nr, k_nn, k_z0, k_z1, k_zb, x_okI, lit_nI, k_in, k_cl, k_lt, k_le, k_eq, k_neg, nI_add, nI_mul, k_clt, k_cgt, k_cle, k_cge, k_ceq, bI_0, k_sh8, ne_eq, Nat.add_eq_zero_iff, Nat.one_ne_zero, Nat.succ_ne_zero, and_false, false_and, not_false_eq_true, not_true_eq_false, ite_true, ite_false, if_true, if_false, r0, r1, iX, iM, e1, e2]
theorem law_6 {X M b E1 E2 i L : Nat} {h : xH} {xs : Nat → Int32} (hI : INV X M b E1 E2 h) (hs : scr h b L xs) (hi : i + 6 < L) (hL : L < 4000) : ∃ h2, xrun 80 203 594 [(1, .ref b), (1, .ref X), (1, .ref M), (1, .int (nI i))] [] h = xrun 80 203 1155 [(1, .ref b), (1, .ref X), (1, .ref M), (1, .int (nI i))] [] h2 ∧ INV X M b (E1 + 200) (E2 + 800) h2 ∧ scr h2 b L xs := by
  obtain ⟨v, h', h2, e1, e2, hI2, s2, s1, S', HM⟩ := call_feed hI (lw (xs (i + 1)) (xs (i + 2))) (lw (xs (i + 3)) (xs (i + 4))) (xs (i + 5))
  obtain ⟨y, rfl⟩ := xm_int e1 (Or.inl rfl)
  obtain ⟨SX, HX⟩ := hI.x
  have hs1 : scr h' b L xs := s1.trans hs
  have iX : ∀ {α : Type} (f : Option α), xis h X 8 f = f := fun f => h_is HX f
  have iM : ∀ {α : Type} (f : Option α), xis h' M 11 f = f := fun f => h_is HM f
  have r0 : ∀ {α : Type} {k : Nat} (hk : k < L) (F : Value → Option α), xrd h b (nI k) 0 1 F = F (.int (xs k)) := fun hk F => hs.rd hk hL F
  have r1 : ∀ {α : Type} {k : Nat} (hk : k < L) (F : Value → Option α), xrd h' b (nI k) 0 1 F = F (.int (xs k)) := fun hk F => hs1.rd hk hL F
  refine ⟨h2, ?_, hI2, s2.trans hs⟩
  unfold lw at e1 e2
  simp (disch := omega) only [q_203_594, q_203_595, q_203_596, q_203_597, q_203_598, q_203_599, q_203_600, q_203_601, q_203_603, q_203_604, q_203_605, q_203_606, q_203_607, q_203_608, q_203_609, q_203_610, q_203_613, q_203_614, q_203_615, q_203_616, q_203_617, q_203_618, q_203_619, q_203_620, q_203_621, q_203_623, q_203_624, q_203_625, q_203_626, q_203_627, q_203_628, q_203_629, q_203_630, q_203_633, q_203_634, q_203_635, q_203_636, q_203_637, q_203_638, q_203_639, q_203_640, q_203_643, q_203_644, q_203_645, q_203_646, q_203_647, q_203_648, q_203_649, q_203_650, q_203_652, q_203_653, q_203_654, q_203_655, q_203_656, q_203_657, q_203_658, q_203_659, q_203_662, q_203_663, q_203_664, q_203_665, q_203_666, q_203_667, q_203_668, q_203_669, q_203_670, q_203_672, q_203_673, q_203_674, q_203_675, q_203_676, q_203_677, q_203_678, q_203_679, q_203_682, q_203_683, q_203_684, q_203_685, q_203_686, q_203_687, q_203_688, q_203_689, q_203_692, ↓reduceIte, k_cr, k_ci, k_oR, k_oN, k_aR, k_aN, and_true, true_and, and_self, eq_self, Nat.reduceLT, Nat.reduceLeDiff, Nat.reduceEqDiff, Nat.reduceAdd, Nat.reduceMul, Bool.true_eq_false, Bool.false_eq_true, Nat.add_sub_cancel, Nat.not_lt_zero, Nat.zero_le, k_sub, k_sb1, k_r, k_n, k_ret, k_t1, k_t0, k_nr, k_nn, k_z0, k_z1, k_zb, x_okI, lit_nI, k_in, k_cl, k_lt, k_le, k_eq, k_neg, nI_add, nI_mul, k_clt, k_cgt, k_cle, k_cge, k_ceq, bI_0, k_sh8, ne_eq, Nat.add_eq_zero_iff, Nat.one_ne_zero, Nat.succ_ne_zero, and_false, false_and, not_false_eq_true, not_true_eq_false, ite_true, ite_false, if_true, if_false, r0, r1, iX, iM, e1, e2]
theorem law_7 {X M b E1 E2 i L : Nat} {h : xH} {xs : Nat → Int32} (hI : INV X M b E1 E2 h) (hs : scr h b L xs) (hi : i + 6 < L) (hL : L < 4000) : ∃ h2, xrun 80 203 697 [(1, .ref b), (1, .ref X), (1, .ref M), (1, .int (nI i))] [] h = xrun 80 203 1155 [(1, .ref b), (1, .ref X), (1, .ref M), (1, .int (nI i))] [] h2 ∧ INV X M b (E1 + 200) (E2 + 800) h2 ∧ scr h2 b L xs := by
  obtain ⟨v, h', h2, e1, e2, hI2, s2, s1, S', HM⟩ := call_rules hI (xs (i + 1)) (xs (i + 2))
  obtain ⟨y, rfl⟩ := xm_int e1 (Or.inl rfl)
  obtain ⟨SX, HX⟩ := hI.x
  have hs1 : scr h' b L xs := s1.trans hs
  have iX : ∀ {α : Type} (f : Option α), xis h X 8 f = f := fun f => h_is HX f
  have iM : ∀ {α : Type} (f : Option α), xis h' M 11 f = f := fun f => h_is HM f
  have r0 : ∀ {α : Type} {k : Nat} (hk : k < L) (F : Value → Option α), xrd h b (nI k) 0 1 F = F (.int (xs k)) := fun hk F => hs.rd hk hL F
  have r1 : ∀ {α : Type} {k : Nat} (hk : k < L) (F : Value → Option α), xrd h' b (nI k) 0 1 F = F (.int (xs k)) := fun hk F => hs1.rd hk hL F
  refine ⟨h2, ?_, hI2, s2.trans hs⟩
  simp (disch := omega) only [q_203_697, q_203_698, q_203_699, q_203_700, q_203_701, q_203_702, q_203_703, q_203_704, q_203_705, q_203_706, q_203_707, q_203_708, q_203_711, q_203_712, q_203_713, q_203_714, q_203_715, q_203_716, q_203_717, q_203_718, q_203_719, q_203_720, q_203_721, q_203_722, q_203_725, ↓reduceIte, k_cr, k_ci, k_oR, k_oN, k_aR, k_aN, and_true, true_and, and_self, eq_self, Nat.reduceLT, Nat.reduceLeDiff, Nat.reduceEqDiff, Nat.reduceAdd, Nat.reduceMul, Bool.true_eq_false, Bool.false_eq_true, Nat.add_sub_cancel, Nat.not_lt_zero, Nat.zero_le, k_sub, k_sb1, k_r, k_n, k_ret, k_t1, k_t0, k_nr, k_nn, k_z0, k_z1, k_zb, x_okI, lit_nI, k_in, k_cl, k_lt, k_le, k_eq, k_neg, nI_add, nI_mul, k_clt, k_cgt, k_cle, k_cge, k_ceq, bI_0, k_sh8, ne_eq, Nat.add_eq_zero_iff, Nat.one_ne_zero, Nat.succ_ne_zero, and_false, false_and, not_false_eq_true, not_true_eq_false, ite_true, ite_false, if_true, if_false, r0, r1, iX, iM, e1, e2]
theorem law_8 {X M b E1 E2 i L : Nat} {h : xH} {xs : Nat → Int32} (hI : INV X M b E1 E2 h) (hs : scr h b L xs) (hi : i + 6 < L) (hL : L < 4000) : ∃ h2, xrun 80 203 730 [(1, .ref b), (1, .ref X), (1, .ref M), (1, .int (nI i))] [] h = xrun 80 203 1155 [(1, .ref b), (1, .ref X), (1, .ref M), (1, .int (nI i))] [] h2 ∧ INV X M b (E1 + 200) (E2 + 800) h2 ∧ scr h2 b L xs := by
  obtain ⟨v, h', h2, e1, e2, hI2, s2, s1, S', HM⟩ := call_forget hI (xs (i + 1)) (xs (i + 2))
  obtain ⟨y, rfl⟩ := xm_int e1 (Or.inr rfl)
  obtain ⟨SX, HX⟩ := hI.x
  have hs1 : scr h' b L xs := s1.trans hs
  have iX : ∀ {α : Type} (f : Option α), xis h X 8 f = f := fun f => h_is HX f
  have iM : ∀ {α : Type} (f : Option α), xis h' M 11 f = f := fun f => h_is HM f
  have r0 : ∀ {α : Type} {k : Nat} (hk : k < L) (F : Value → Option α), xrd h b (nI k) 0 1 F = F (.int (xs k)) := fun hk F => hs.rd hk hL F
  have r1 : ∀ {α : Type} {k : Nat} (hk : k < L) (F : Value → Option α), xrd h' b (nI k) 0 1 F = F (.int (xs k)) := fun hk F => hs1.rd hk hL F
  refine ⟨h2, ?_, hI2, s2.trans hs⟩
  simp (disch := omega) only [q_203_730, q_203_731, q_203_732, q_203_733, q_203_734, q_203_735, q_203_736, q_203_737, q_203_738, q_203_739, q_203_740, q_203_741, q_203_744, q_203_745, q_203_746, q_203_747, q_203_748, q_203_749, q_203_750, q_203_751, q_203_752, q_203_753, q_203_754, q_203_755, q_203_758, ↓reduceIte, k_cr, k_ci, k_oR, k_oN, k_aR, k_aN, and_true, true_and, and_self, eq_self, Nat.reduceLT, Nat.reduceLeDiff, Nat.reduceEqDiff, Nat.reduceAdd, Nat.reduceMul, Bool.true_eq_false, Bool.false_eq_true, Nat.add_sub_cancel, Nat.not_lt_zero, Nat.zero_le, k_sub, k_sb1, k_r, k_n, k_ret, k_t1, k_t0, k_nr, k_nn, k_z0, k_z1, k_zb, x_okI, lit_nI, k_in, k_cl, k_lt, k_le, k_eq, k_neg, nI_add, nI_mul, k_clt, k_cgt, k_cle, k_cge, k_ceq, bI_0, k_sh8, ne_eq, Nat.add_eq_zero_iff, Nat.one_ne_zero, Nat.succ_ne_zero, and_false, false_and, not_false_eq_true, not_true_eq_false, ite_true, ite_false, if_true, if_false, r0, r1, iX, iM, e1, e2]
theorem law_9 {X M b E1 E2 i L : Nat} {h : xH} {xs : Nat → Int32} (hI : INV X M b E1 E2 h) (hs : scr h b L xs) (hi : i + 6 < L) (hL : L < 4000) : ∃ h2, xrun 80 203 763 [(1, .ref b), (1, .ref X), (1, .ref M), (1, .int (nI i))] [] h = xrun 80 203 1155 [(1, .ref b), (1, .ref X), (1, .ref M), (1, .int (nI i))] [] h2 ∧ INV X M b (E1 + 200) (E2 + 800) h2 ∧ scr h2 b L xs := by
  obtain ⟨v, h', h2, e1, e2, hI2, s2, s1, S', HM⟩ := call_unknown hI (xs (i + 1))
  obtain ⟨y, rfl⟩ := xm_int e1 (Or.inl rfl)
  obtain ⟨SX, HX⟩ := hI.x
  have hs1 : scr h' b L xs := s1.trans hs
  have iX : ∀ {α : Type} (f : Option α), xis h X 8 f = f := fun f => h_is HX f
  have iM : ∀ {α : Type} (f : Option α), xis h' M 11 f = f := fun f => h_is HM f
  have r0 : ∀ {α : Type} {k : Nat} (hk : k < L) (F : Value → Option α), xrd h b (nI k) 0 1 F = F (.int (xs k)) := fun hk F => hs.rd hk hL F
  have r1 : ∀ {α : Type} {k : Nat} (hk : k < L) (F : Value → Option α), xrd h' b (nI k) 0 1 F = F (.int (xs k)) := fun hk F => hs1.rd hk hL F
  refine ⟨h2, ?_, hI2, s2.trans hs⟩
  simp (disch := omega) only [q_203_763, q_203_764, q_203_765, q_203_766, q_203_767, q_203_768, q_203_769, q_203_772, q_203_773, q_203_774, q_203_775, q_203_776, q_203_777, q_203_778, q_203_781, ↓reduceIte, k_cr, k_ci, k_oR, k_oN, k_aR, k_aN, and_true, true_and, and_self, eq_self, Nat.reduceLT, Nat.reduceLeDiff, Nat.reduceEqDiff, Nat.reduceAdd, Nat.reduceMul, Bool.true_eq_false, Bool.false_eq_true, Nat.add_sub_cancel, Nat.not_lt_zero, Nat.zero_le, k_sub, k_sb1, k_r, k_n, k_ret, k_t1, k_t0, k_nr, k_nn, k_z0, k_z1, k_zb, x_okI, lit_nI, k_in, k_cl, k_lt, k_le, k_eq, k_neg, nI_add, nI_mul, k_clt, k_cgt, k_cle, k_cge, k_ceq, bI_0, k_sh8, ne_eq, Nat.add_eq_zero_iff, Nat.one_ne_zero, Nat.succ_ne_zero, and_false, false_and, not_false_eq_true, not_true_eq_false, ite_true, ite_false, if_true, if_false, r0, r1, iX, iM, e1, e2]
theorem law_10 {X M b E1 E2 i L : Nat} {h : xH} {xs : Nat → Int32} (hI : INV X M b E1 E2 h) (hs : scr h b L xs) (hi : i + 6 < L) (hL : L < 4000) : ∃ h2, xrun 80 203 786 [(1, .ref b), (1, .ref X), (1, .ref M), (1, .int (nI i))] [] h = xrun 80 203 1155 [(1, .ref b), (1, .ref X), (1, .ref M), (1, .int (nI i))] [] h2 ∧ INV X M b (E1 + 200) (E2 + 800) h2 ∧ scr h2 b L xs := by
  obtain ⟨v, h', h2, e1, e2, hI2, s2, s1, S', HM⟩ := call_carry hI (xs (i + 1))
  obtain ⟨y, rfl⟩ := xm_int e1 (Or.inl rfl)
  obtain ⟨SX, HX⟩ := hI.x
  have hs1 : scr h' b L xs := s1.trans hs
  have iX : ∀ {α : Type} (f : Option α), xis h X 8 f = f := fun f => h_is HX f
  have iM : ∀ {α : Type} (f : Option α), xis h' M 11 f = f := fun f => h_is HM f
  have r0 : ∀ {α : Type} {k : Nat} (hk : k < L) (F : Value → Option α), xrd h b (nI k) 0 1 F = F (.int (xs k)) := fun hk F => hs.rd hk hL F
  have r1 : ∀ {α : Type} {k : Nat} (hk : k < L) (F : Value → Option α), xrd h' b (nI k) 0 1 F = F (.int (xs k)) := fun hk F => hs1.rd hk hL F
  refine ⟨h2, ?_, hI2, s2.trans hs⟩
  simp (disch := omega) only [q_203_786, q_203_787, q_203_788, q_203_789, q_203_790, q_203_791, q_203_792, q_203_795, q_203_796, q_203_797, q_203_798, q_203_799, q_203_800, q_203_801, q_203_804, ↓reduceIte, k_cr, k_ci, k_oR, k_oN, k_aR, k_aN, and_true, true_and, and_self, eq_self, Nat.reduceLT, Nat.reduceLeDiff, Nat.reduceEqDiff, Nat.reduceAdd, Nat.reduceMul, Bool.true_eq_false, Bool.false_eq_true, Nat.add_sub_cancel, Nat.not_lt_zero, Nat.zero_le, k_sub, k_sb1, k_r, k_n, k_ret, k_t1, k_t0, k_nr, k_nn, k_z0, k_z1, k_zb, x_okI, lit_nI, k_in, k_cl, k_lt, k_le, k_eq, k_neg, nI_add, nI_mul, k_clt, k_cgt, k_cle, k_cge, k_ceq, bI_0, k_sh8, ne_eq, Nat.add_eq_zero_iff, Nat.one_ne_zero, Nat.succ_ne_zero, and_false, false_and, not_false_eq_true, not_true_eq_false, ite_true, ite_false, if_true, if_false, r0, r1, iX, iM, e1, e2]
theorem law_11 {X M b E1 E2 i L : Nat} {h : xH} {xs : Nat → Int32} (hI : INV X M b E1 E2 h) (hs : scr h b L xs) (hi : i + 6 < L) (hL : L < 4000) : ∃ h2, xrun 80 203 809 [(1, .ref b), (1, .ref X), (1, .ref M), (1, .int (nI i))] [] h = xrun 80 203 1155 [(1, .ref b), (1, .ref X), (1, .ref M), (1, .int (nI i))] [] h2 ∧ INV X M b (E1 + 200) (E2 + 800) h2 ∧ scr h2 b L xs := by
  obtain ⟨v, h', h2, e1, e2, hI2, s2, s1, S', HM⟩ := call_dry hI (xs (i + 1))
  obtain ⟨y, rfl⟩ := xm_int e1 (Or.inl rfl)
  obtain ⟨SX, HX⟩ := hI.x
  have hs1 : scr h' b L xs := s1.trans hs
  have iX : ∀ {α : Type} (f : Option α), xis h X 8 f = f := fun f => h_is HX f
  have iM : ∀ {α : Type} (f : Option α), xis h' M 11 f = f := fun f => h_is HM f
  have r0 : ∀ {α : Type} {k : Nat} (hk : k < L) (F : Value → Option α), xrd h b (nI k) 0 1 F = F (.int (xs k)) := fun hk F => hs.rd hk hL F
  have r1 : ∀ {α : Type} {k : Nat} (hk : k < L) (F : Value → Option α), xrd h' b (nI k) 0 1 F = F (.int (xs k)) := fun hk F => hs1.rd hk hL F
  refine ⟨h2, ?_, hI2, s2.trans hs⟩
  simp (disch := omega) only [q_203_809, q_203_810, q_203_811, q_203_812, q_203_813, q_203_814, q_203_815, q_203_818, q_203_819, q_203_820, q_203_821, q_203_822, q_203_823, q_203_824, q_203_827, ↓reduceIte, k_cr, k_ci, k_oR, k_oN, k_aR, k_aN, and_true, true_and, and_self, eq_self, Nat.reduceLT, Nat.reduceLeDiff, Nat.reduceEqDiff, Nat.reduceAdd, Nat.reduceMul, Bool.true_eq_false, Bool.false_eq_true, Nat.add_sub_cancel, Nat.not_lt_zero, Nat.zero_le, k_sub, k_sb1, k_r, k_n, k_ret, k_t1, k_t0, k_nr, k_nn, k_z0, k_z1, k_zb, x_okI, lit_nI, k_in, k_cl, k_lt, k_le, k_eq, k_neg, nI_add, nI_mul, k_clt, k_cgt, k_cle, k_cge, k_ceq, bI_0, k_sh8, ne_eq, Nat.add_eq_zero_iff, Nat.one_ne_zero, Nat.succ_ne_zero, and_false, false_and, not_false_eq_true, not_true_eq_false, ite_true, ite_false, if_true, if_false, r0, r1, iX, iM, e1, e2]
theorem law_12 {X M b E1 E2 i L : Nat} {h : xH} {xs : Nat → Int32} (hI : INV X M b E1 E2 h) (hs : scr h b L xs) (hi : i + 6 < L) (hL : L < 4000) : ∃ h2, xrun 80 203 832 [(1, .ref b), (1, .ref X), (1, .ref M), (1, .int (nI i))] [] h = xrun 80 203 1155 [(1, .ref b), (1, .ref X), (1, .ref M), (1, .int (nI i))] [] h2 ∧ INV X M b (E1 + 200) (E2 + 800) h2 ∧ scr h2 b L xs := by
  obtain ⟨v, h', h2, e1, e2, hI2, s2, s1, S', HM⟩ := call_refused hI (xs (i + 1))
  obtain ⟨y, rfl⟩ := xm_int e1 (Or.inl rfl)
  obtain ⟨SX, HX⟩ := hI.x
  have hs1 : scr h' b L xs := s1.trans hs
  have iX : ∀ {α : Type} (f : Option α), xis h X 8 f = f := fun f => h_is HX f
  have iM : ∀ {α : Type} (f : Option α), xis h' M 11 f = f := fun f => h_is HM f
  have r0 : ∀ {α : Type} {k : Nat} (hk : k < L) (F : Value → Option α), xrd h b (nI k) 0 1 F = F (.int (xs k)) := fun hk F => hs.rd hk hL F
  have r1 : ∀ {α : Type} {k : Nat} (hk : k < L) (F : Value → Option α), xrd h' b (nI k) 0 1 F = F (.int (xs k)) := fun hk F => hs1.rd hk hL F
  refine ⟨h2, ?_, hI2, s2.trans hs⟩
  simp (disch := omega) only [q_203_832, q_203_833, q_203_834, q_203_835, q_203_836, q_203_837, q_203_838, q_203_841, q_203_842, q_203_843, q_203_844, q_203_845, q_203_846, q_203_847, q_203_850, ↓reduceIte, k_cr, k_ci, k_oR, k_oN, k_aR, k_aN, and_true, true_and, and_self, eq_self, Nat.reduceLT, Nat.reduceLeDiff, Nat.reduceEqDiff, Nat.reduceAdd, Nat.reduceMul, Bool.true_eq_false, Bool.false_eq_true, Nat.add_sub_cancel, Nat.not_lt_zero, Nat.zero_le, k_sub, k_sb1, k_r, k_n, k_ret, k_t1, k_t0, k_nr, k_nn, k_z0, k_z1, k_zb, x_okI, lit_nI, k_in, k_cl, k_lt, k_le, k_eq, k_neg, nI_add, nI_mul, k_clt, k_cgt, k_cle, k_cge, k_ceq, bI_0, k_sh8, ne_eq, Nat.add_eq_zero_iff, Nat.one_ne_zero, Nat.succ_ne_zero, and_false, false_and, not_false_eq_true, not_true_eq_false, ite_true, ite_false, if_true, if_false, r0, r1, iX, iM, e1, e2]
theorem law_13 {X M b E1 E2 i L : Nat} {h : xH} {xs : Nat → Int32} (hI : INV X M b E1 E2 h) (hs : scr h b L xs) (hi : i + 6 < L) (hL : L < 4000) : ∃ h2, xrun 80 203 855 [(1, .ref b), (1, .ref X), (1, .ref M), (1, .int (nI i))] [] h = xrun 80 203 1155 [(1, .ref b), (1, .ref X), (1, .ref M), (1, .int (nI i))] [] h2 ∧ INV X M b (E1 + 200) (E2 + 800) h2 ∧ scr h2 b L xs := by
  by_cases c : xs (i + 1) = nI 0
  · obtain ⟨v, h', h2, e1, e2, hI2, s2, s1, S', HM⟩ := call_refusedKey hI false
    obtain ⟨y, rfl⟩ := xm_long e1 rfl
    obtain ⟨SX, HX⟩ := hI.x
    have hs1 : scr h' b L xs := s1.trans hs
    have iX : ∀ {α : Type} (f : Option α), xis h X 8 f = f := fun f => h_is HX f
    have iM : ∀ {α : Type} (f : Option α), xis h' M 11 f = f := fun f => h_is HM f
    have r0 : ∀ {α : Type} {k : Nat} (hk : k < L) (F : Value → Option α), xrd h b (nI k) 0 1 F = F (.int (xs k)) := fun hk F => hs.rd hk hL F
    have r1 : ∀ {α : Type} {k : Nat} (hk : k < L) (F : Value → Option α), xrd h' b (nI k) 0 1 F = F (.int (xs k)) := fun hk F => hs1.rd hk hL F
    refine ⟨h2, ?_, hI2, s2.trans hs⟩
    rw [bI_f] at e1 e2
    simp (disch := omega) only [q_203_855, q_203_856, q_203_857, q_203_858, q_203_859, q_203_860, q_203_861, q_203_864, q_203_865, q_203_868, q_203_869, q_203_872, q_203_873, q_203_874, q_203_875, q_203_876, q_203_877, q_203_878, q_203_881, q_203_882, q_203_885, q_203_886, q_203_889, q_203_890, ↓reduceIte, k_cr, k_ci, k_oR, k_oN, k_aR, k_aN, and_true, true_and, and_self, eq_self, Nat.reduceLT, Nat.reduceLeDiff, Nat.reduceEqDiff, Nat.reduceAdd, Nat.reduceMul, Bool.true_eq_false, Bool.false_eq_true, Nat.add_sub_cancel, Nat.not_lt_zero, Nat.zero_le, k_sub, k_sb1, k_r, k_n, k_ret, k_t1, k_t0, k_nr, k_nn, k_z0, k_z1, k_zb, x_okI, lit_nI, k_in, k_cl, k_lt, k_le, k_eq, k_neg, nI_add, nI_mul, k_clt, k_cgt, k_cle, k_cge, k_ceq, bI_0, k_sh8, ne_eq, Nat.add_eq_zero_iff, Nat.one_ne_zero, Nat.succ_ne_zero, and_false, false_and, not_false_eq_true, not_true_eq_false, ite_true, ite_false, if_true, if_false, r0, r1, iX, iM, e1, e2, c]
  · obtain ⟨v, h', h2, e1, e2, hI2, s2, s1, S', HM⟩ := call_refusedKey hI true
    obtain ⟨y, rfl⟩ := xm_long e1 rfl
    obtain ⟨SX, HX⟩ := hI.x
    have hs1 : scr h' b L xs := s1.trans hs
    have iX : ∀ {α : Type} (f : Option α), xis h X 8 f = f := fun f => h_is HX f
    have iM : ∀ {α : Type} (f : Option α), xis h' M 11 f = f := fun f => h_is HM f
    have r0 : ∀ {α : Type} {k : Nat} (hk : k < L) (F : Value → Option α), xrd h b (nI k) 0 1 F = F (.int (xs k)) := fun hk F => hs.rd hk hL F
    have r1 : ∀ {α : Type} {k : Nat} (hk : k < L) (F : Value → Option α), xrd h' b (nI k) 0 1 F = F (.int (xs k)) := fun hk F => hs1.rd hk hL F
    refine ⟨h2, ?_, hI2, s2.trans hs⟩
    rw [bI_t] at e1 e2
    simp (disch := omega) only [q_203_855, q_203_856, q_203_857, q_203_858, q_203_859, q_203_860, q_203_861, q_203_864, q_203_865, q_203_868, q_203_869, q_203_872, q_203_873, q_203_874, q_203_875, q_203_876, q_203_877, q_203_878, q_203_881, q_203_882, q_203_885, q_203_886, q_203_889, q_203_890, ↓reduceIte, k_cr, k_ci, k_oR, k_oN, k_aR, k_aN, and_true, true_and, and_self, eq_self, Nat.reduceLT, Nat.reduceLeDiff, Nat.reduceEqDiff, Nat.reduceAdd, Nat.reduceMul, Bool.true_eq_false, Bool.false_eq_true, Nat.add_sub_cancel, Nat.not_lt_zero, Nat.zero_le, k_sub, k_sb1, k_r, k_n, k_ret, k_t1, k_t0, k_nr, k_nn, k_z0, k_z1, k_zb, x_okI, lit_nI, k_in, k_cl, k_lt, k_le, k_eq, k_neg, nI_add, nI_mul, k_clt, k_cgt, k_cle, k_cge, k_ceq, bI_0, k_sh8, ne_eq, Nat.add_eq_zero_iff, Nat.one_ne_zero, Nat.succ_ne_zero, and_false, false_and, not_false_eq_true, not_true_eq_false, ite_true, ite_false, if_true, if_false, r0, r1, iX, iM, e1, e2, c]
theorem law_14 {X M b E1 E2 i L : Nat} {h : xH} {xs : Nat → Int32} (hI : INV X M b E1 E2 h) (hs : scr h b L xs) (hi : i + 6 < L) (hL : L < 4000) : ∃ h2, xrun 80 203 895 [(1, .ref b), (1, .ref X), (1, .ref M), (1, .int (nI i))] [] h = xrun 80 203 1155 [(1, .ref b), (1, .ref X), (1, .ref M), (1, .int (nI i))] [] h2 ∧ INV X M b (E1 + 200) (E2 + 800) h2 ∧ scr h2 b L xs := by
  obtain ⟨v, h', h2, e1, e2, hI2, s2, s1, S', HM⟩ := call_lost hI (xs (i + 1))
  obtain ⟨y, rfl⟩ := xm_int e1 (Or.inl rfl)
  obtain ⟨SX, HX⟩ := hI.x
  have hs1 : scr h' b L xs := s1.trans hs
  have iX : ∀ {α : Type} (f : Option α), xis h X 8 f = f := fun f => h_is HX f
  have iM : ∀ {α : Type} (f : Option α), xis h' M 11 f = f := fun f => h_is HM f
  have r0 : ∀ {α : Type} {k : Nat} (hk : k < L) (F : Value → Option α), xrd h b (nI k) 0 1 F = F (.int (xs k)) := fun hk F => hs.rd hk hL F
  have r1 : ∀ {α : Type} {k : Nat} (hk : k < L) (F : Value → Option α), xrd h' b (nI k) 0 1 F = F (.int (xs k)) := fun hk F => hs1.rd hk hL F
  refine ⟨h2, ?_, hI2, s2.trans hs⟩
  simp (disch := omega) only [q_203_895, q_203_896, q_203_897, q_203_898, q_203_899, q_203_900, q_203_901, q_203_904, q_203_905, q_203_906, q_203_907, q_203_908, q_203_909, q_203_910, q_203_913, ↓reduceIte, k_cr, k_ci, k_oR, k_oN, k_aR, k_aN, and_true, true_and, and_self, eq_self, Nat.reduceLT, Nat.reduceLeDiff, Nat.reduceEqDiff, Nat.reduceAdd, Nat.reduceMul, Bool.true_eq_false, Bool.false_eq_true, Nat.add_sub_cancel, Nat.not_lt_zero, Nat.zero_le, k_sub, k_sb1, k_r, k_n, k_ret, k_t1, k_t0, k_nr, k_nn, k_z0, k_z1, k_zb, x_okI, lit_nI, k_in, k_cl, k_lt, k_le, k_eq, k_neg, nI_add, nI_mul, k_clt, k_cgt, k_cle, k_cge, k_ceq, bI_0, k_sh8, ne_eq, Nat.add_eq_zero_iff, Nat.one_ne_zero, Nat.succ_ne_zero, and_false, false_and, not_false_eq_true, not_true_eq_false, ite_true, ite_false, if_true, if_false, r0, r1, iX, iM, e1, e2]
theorem law_15 {X M b E1 E2 i L : Nat} {h : xH} {xs : Nat → Int32} (hI : INV X M b E1 E2 h) (hs : scr h b L xs) (hi : i + 6 < L) (hL : L < 4000) : ∃ h2, xrun 80 203 918 [(1, .ref b), (1, .ref X), (1, .ref M), (1, .int (nI i))] [] h = xrun 80 203 1155 [(1, .ref b), (1, .ref X), (1, .ref M), (1, .int (nI i))] [] h2 ∧ INV X M b (E1 + 200) (E2 + 800) h2 ∧ scr h2 b L xs := by
  obtain ⟨v, h', h2, e1, e2, hI2, s2, s1, S', HM⟩ := call_told hI (xs (i + 1))
  obtain ⟨y, rfl⟩ := xm_int e1 (Or.inl rfl)
  obtain ⟨SX, HX⟩ := hI.x
  have hs1 : scr h' b L xs := s1.trans hs
  have iX : ∀ {α : Type} (f : Option α), xis h X 8 f = f := fun f => h_is HX f
  have iM : ∀ {α : Type} (f : Option α), xis h' M 11 f = f := fun f => h_is HM f
  have r0 : ∀ {α : Type} {k : Nat} (hk : k < L) (F : Value → Option α), xrd h b (nI k) 0 1 F = F (.int (xs k)) := fun hk F => hs.rd hk hL F
  have r1 : ∀ {α : Type} {k : Nat} (hk : k < L) (F : Value → Option α), xrd h' b (nI k) 0 1 F = F (.int (xs k)) := fun hk F => hs1.rd hk hL F
  refine ⟨h2, ?_, hI2, s2.trans hs⟩
  simp (disch := omega) only [q_203_918, q_203_919, q_203_920, q_203_921, q_203_922, q_203_923, q_203_924, q_203_927, q_203_928, q_203_929, q_203_930, q_203_931, q_203_932, q_203_933, q_203_936, ↓reduceIte, k_cr, k_ci, k_oR, k_oN, k_aR, k_aN, and_true, true_and, and_self, eq_self, Nat.reduceLT, Nat.reduceLeDiff, Nat.reduceEqDiff, Nat.reduceAdd, Nat.reduceMul, Bool.true_eq_false, Bool.false_eq_true, Nat.add_sub_cancel, Nat.not_lt_zero, Nat.zero_le, k_sub, k_sb1, k_r, k_n, k_ret, k_t1, k_t0, k_nr, k_nn, k_z0, k_z1, k_zb, x_okI, lit_nI, k_in, k_cl, k_lt, k_le, k_eq, k_neg, nI_add, nI_mul, k_clt, k_cgt, k_cle, k_cge, k_ceq, bI_0, k_sh8, ne_eq, Nat.add_eq_zero_iff, Nat.one_ne_zero, Nat.succ_ne_zero, and_false, false_and, not_false_eq_true, not_true_eq_false, ite_true, ite_false, if_true, if_false, r0, r1, iX, iM, e1, e2]
theorem law_16 {X M b E1 E2 i L : Nat} {h : xH} {xs : Nat → Int32} (hI : INV X M b E1 E2 h) (hs : scr h b L xs) (hi : i + 6 < L) (hL : L < 4000) : ∃ h2, xrun 80 203 941 [(1, .ref b), (1, .ref X), (1, .ref M), (1, .int (nI i))] [] h = xrun 80 203 1155 [(1, .ref b), (1, .ref X), (1, .ref M), (1, .int (nI i))] [] h2 ∧ INV X M b (E1 + 200) (E2 + 800) h2 ∧ scr h2 b L xs := by
  obtain ⟨v, h', h2, e1, e2, hI2, s2, s1, S', HM⟩ := call_key hI (xs (i + 1))
  obtain ⟨y, rfl⟩ := xm_long e1 rfl
  obtain ⟨SX, HX⟩ := hI.x
  have hs1 : scr h' b L xs := s1.trans hs
  have iX : ∀ {α : Type} (f : Option α), xis h X 8 f = f := fun f => h_is HX f
  have iM : ∀ {α : Type} (f : Option α), xis h' M 11 f = f := fun f => h_is HM f
  have r0 : ∀ {α : Type} {k : Nat} (hk : k < L) (F : Value → Option α), xrd h b (nI k) 0 1 F = F (.int (xs k)) := fun hk F => hs.rd hk hL F
  have r1 : ∀ {α : Type} {k : Nat} (hk : k < L) (F : Value → Option α), xrd h' b (nI k) 0 1 F = F (.int (xs k)) := fun hk F => hs1.rd hk hL F
  refine ⟨h2, ?_, hI2, s2.trans hs⟩
  simp (disch := omega) only [q_203_941, q_203_942, q_203_943, q_203_944, q_203_945, q_203_946, q_203_947, q_203_950, q_203_951, q_203_952, q_203_953, q_203_954, q_203_955, q_203_956, q_203_959, q_203_960, ↓reduceIte, k_cr, k_ci, k_oR, k_oN, k_aR, k_aN, and_true, true_and, and_self, eq_self, Nat.reduceLT, Nat.reduceLeDiff, Nat.reduceEqDiff, Nat.reduceAdd, Nat.reduceMul, Bool.true_eq_false, Bool.false_eq_true, Nat.add_sub_cancel, Nat.not_lt_zero, Nat.zero_le, k_sub, k_sb1, k_r, k_n, k_ret, k_t1, k_t0, k_nr, k_nn, k_z0, k_z1, k_zb, x_okI, lit_nI, k_in, k_cl, k_lt, k_le, k_eq, k_neg, nI_add, nI_mul, k_clt, k_cgt, k_cle, k_cge, k_ceq, bI_0, k_sh8, ne_eq, Nat.add_eq_zero_iff, Nat.one_ne_zero, Nat.succ_ne_zero, and_false, false_and, not_false_eq_true, not_true_eq_false, ite_true, ite_false, if_true, if_false, r0, r1, iX, iM, e1, e2]
theorem law_17 {X M b E1 E2 i L : Nat} {h : xH} {xs : Nat → Int32} (hI : INV X M b E1 E2 h) (hs : scr h b L xs) (hi : i + 6 < L) (hL : L < 4000) : ∃ h2, xrun 80 203 965 [(1, .ref b), (1, .ref X), (1, .ref M), (1, .int (nI i))] [] h = xrun 80 203 1155 [(1, .ref b), (1, .ref X), (1, .ref M), (1, .int (nI i))] [] h2 ∧ INV X M b (E1 + 200) (E2 + 800) h2 ∧ scr h2 b L xs := by
  obtain ⟨v, h', h2, e1, e2, hI2, s2, s1, S', HM⟩ := call_classOf hI (lw (xs (i + 1)) (xs (i + 2)))
  obtain ⟨y, rfl⟩ := xm_int e1 (Or.inl rfl)
  obtain ⟨SX, HX⟩ := hI.x
  have hs1 : scr h' b L xs := s1.trans hs
  have iX : ∀ {α : Type} (f : Option α), xis h X 8 f = f := fun f => h_is HX f
  have iM : ∀ {α : Type} (f : Option α), xis h' M 11 f = f := fun f => h_is HM f
  have r0 : ∀ {α : Type} {k : Nat} (hk : k < L) (F : Value → Option α), xrd h b (nI k) 0 1 F = F (.int (xs k)) := fun hk F => hs.rd hk hL F
  have r1 : ∀ {α : Type} {k : Nat} (hk : k < L) (F : Value → Option α), xrd h' b (nI k) 0 1 F = F (.int (xs k)) := fun hk F => hs1.rd hk hL F
  refine ⟨h2, ?_, hI2, s2.trans hs⟩
  unfold lw at e1 e2
  simp (disch := omega) only [q_203_965, q_203_966, q_203_967, q_203_968, q_203_969, q_203_970, q_203_971, q_203_972, q_203_974, q_203_975, q_203_976, q_203_977, q_203_978, q_203_979, q_203_980, q_203_981, q_203_984, q_203_985, q_203_986, q_203_989, q_203_990, q_203_991, q_203_992, q_203_993, q_203_994, q_203_995, q_203_996, q_203_998, q_203_999, q_203_1000, q_203_1001, q_203_1002, q_203_1003, q_203_1004, q_203_1005, q_203_1008, q_203_1009, q_203_1010, q_203_1013, ↓reduceIte, k_cr, k_ci, k_oR, k_oN, k_aR, k_aN, and_true, true_and, and_self, eq_self, Nat.reduceLT, Nat.reduceLeDiff, Nat.reduceEqDiff, Nat.reduceAdd, Nat.reduceMul, Bool.true_eq_false, Bool.false_eq_true, Nat.add_sub_cancel, Nat.not_lt_zero, Nat.zero_le, k_sub, k_sb1, k_r, k_n, k_ret, k_t1, k_t0, k_nr, k_nn, k_z0, k_z1, k_zb, x_okI, lit_nI, k_in, k_cl, k_lt, k_le, k_eq, k_neg, nI_add, nI_mul, k_clt, k_cgt, k_cle, k_cge, k_ceq, bI_0, k_sh8, ne_eq, Nat.add_eq_zero_iff, Nat.one_ne_zero, Nat.succ_ne_zero, and_false, false_and, not_false_eq_true, not_true_eq_false, ite_true, ite_false, if_true, if_false, r0, r1, iX, iM, e1, e2]
theorem law_18 {X M b E1 E2 i L : Nat} {h : xH} {xs : Nat → Int32} (hI : INV X M b E1 E2 h) (hs : scr h b L xs) (hi : i + 6 < L) (hL : L < 4000) : ∃ h2, xrun 80 203 1018 [(1, .ref b), (1, .ref X), (1, .ref M), (1, .int (nI i))] [] h = xrun 80 203 1155 [(1, .ref b), (1, .ref X), (1, .ref M), (1, .int (nI i))] [] h2 ∧ INV X M b (E1 + 200) (E2 + 800) h2 ∧ scr h2 b L xs := by
  obtain ⟨v, h', h2, e1, e2, hI2, s2, s1, S', HM⟩ := call_many hI (lw (xs (i + 1)) (xs (i + 2))) (xs (i + 3))
  obtain ⟨y, rfl⟩ := xm_int e1 (Or.inl rfl)
  obtain ⟨SX, HX⟩ := hI.x
  have hs1 : scr h' b L xs := s1.trans hs
  have iX : ∀ {α : Type} (f : Option α), xis h X 8 f = f := fun f => h_is HX f
  have iM : ∀ {α : Type} (f : Option α), xis h' M 11 f = f := fun f => h_is HM f
  have r0 : ∀ {α : Type} {k : Nat} (hk : k < L) (F : Value → Option α), xrd h b (nI k) 0 1 F = F (.int (xs k)) := fun hk F => hs.rd hk hL F
  have r1 : ∀ {α : Type} {k : Nat} (hk : k < L) (F : Value → Option α), xrd h' b (nI k) 0 1 F = F (.int (xs k)) := fun hk F => hs1.rd hk hL F
  refine ⟨h2, ?_, hI2, s2.trans hs⟩
  unfold lw at e1 e2
  simp (disch := omega) only [q_203_1018, q_203_1019, q_203_1020, q_203_1021, q_203_1022, q_203_1023, q_203_1024, q_203_1025, q_203_1027, q_203_1028, q_203_1029, q_203_1030, q_203_1031, q_203_1032, q_203_1033, q_203_1034, q_203_1037, q_203_1038, q_203_1039, q_203_1040, q_203_1041, q_203_1042, q_203_1043, q_203_1044, q_203_1047, q_203_1048, q_203_1049, q_203_1050, q_203_1051, q_203_1052, q_203_1053, q_203_1054, q_203_1056, q_203_1057, q_203_1058, q_203_1059, q_203_1060, q_203_1061, q_203_1062, q_203_1063, q_203_1066, q_203_1067, q_203_1068, q_203_1069, q_203_1070, q_203_1071, q_203_1072, q_203_1073, q_203_1076, ↓reduceIte, k_cr, k_ci, k_oR, k_oN, k_aR, k_aN, and_true, true_and, and_self, eq_self, Nat.reduceLT, Nat.reduceLeDiff, Nat.reduceEqDiff, Nat.reduceAdd, Nat.reduceMul, Bool.true_eq_false, Bool.false_eq_true, Nat.add_sub_cancel, Nat.not_lt_zero, Nat.zero_le, k_sub, k_sb1, k_r, k_n, k_ret, k_t1, k_t0, k_nr, k_nn, k_z0, k_z1, k_zb, x_okI, lit_nI, k_in, k_cl, k_lt, k_le, k_eq, k_neg, nI_add, nI_mul, k_clt, k_cgt, k_cle, k_cge, k_ceq, bI_0, k_sh8, ne_eq, Nat.add_eq_zero_iff, Nat.one_ne_zero, Nat.succ_ne_zero, and_false, false_and, not_false_eq_true, not_true_eq_false, ite_true, ite_false, if_true, if_false, r0, r1, iX, iM, e1, e2]
theorem law_19 {X M b E1 E2 i L : Nat} {h : xH} {xs : Nat → Int32} (hI : INV X M b E1 E2 h) (hs : scr h b L xs) (hi : i + 6 < L) (hL : L < 4000) : ∃ h2, xrun 80 203 1081 [(1, .ref b), (1, .ref X), (1, .ref M), (1, .int (nI i))] [] h = xrun 80 203 1155 [(1, .ref b), (1, .ref X), (1, .ref M), (1, .int (nI i))] [] h2 ∧ INV X M b (E1 + 200) (E2 + 800) h2 ∧ scr h2 b L xs := by
  obtain ⟨v, h', h2, e1, e2, hI2, s2, s1, S', HM⟩ := call_bits hI (lw (xs (i + 1)) (xs (i + 2))) (xs (i + 3)) (xs (i + 4))
  obtain ⟨y, rfl⟩ := xm_long e1 rfl
  obtain ⟨SX, HX⟩ := hI.x
  have hs1 : scr h' b L xs := s1.trans hs
  have iX : ∀ {α : Type} (f : Option α), xis h X 8 f = f := fun f => h_is HX f
  have iM : ∀ {α : Type} (f : Option α), xis h' M 11 f = f := fun f => h_is HM f
  have r0 : ∀ {α : Type} {k : Nat} (hk : k < L) (F : Value → Option α), xrd h b (nI k) 0 1 F = F (.int (xs k)) := fun hk F => hs.rd hk hL F
  have r1 : ∀ {α : Type} {k : Nat} (hk : k < L) (F : Value → Option α), xrd h' b (nI k) 0 1 F = F (.int (xs k)) := fun hk F => hs1.rd hk hL F
  refine ⟨h2, ?_, hI2, s2.trans hs⟩
  unfold lw at e1 e2
  simp (disch := omega) only [q_203_1081, q_203_1082, q_203_1083, q_203_1084, q_203_1085, q_203_1086, q_203_1087, q_203_1088, q_203_1090, q_203_1091, q_203_1092, q_203_1093, q_203_1094, q_203_1095, q_203_1096, q_203_1097, q_203_1100, q_203_1101, q_203_1102, q_203_1103, q_203_1104, q_203_1105, q_203_1106, q_203_1107, q_203_1108, q_203_1109, q_203_1110, q_203_1111, q_203_1112, q_203_1115, q_203_1116, q_203_1117, q_203_1118, q_203_1119, q_203_1120, q_203_1121, q_203_1122, q_203_1124, q_203_1125, q_203_1126, q_203_1127, q_203_1128, q_203_1129, q_203_1130, q_203_1131, q_203_1134, q_203_1135, q_203_1136, q_203_1137, q_203_1138, q_203_1139, q_203_1140, q_203_1141, q_203_1142, q_203_1143, q_203_1144, q_203_1145, q_203_1146, q_203_1149, q_203_1150, ↓reduceIte, k_cr, k_ci, k_oR, k_oN, k_aR, k_aN, and_true, true_and, and_self, eq_self, Nat.reduceLT, Nat.reduceLeDiff, Nat.reduceEqDiff, Nat.reduceAdd, Nat.reduceMul, Bool.true_eq_false, Bool.false_eq_true, Nat.add_sub_cancel, Nat.not_lt_zero, Nat.zero_le, k_sub, k_sb1, k_r, k_n, k_ret, k_t1, k_t0, k_nr, k_nn, k_z0, k_z1, k_zb, x_okI, lit_nI, k_in, k_cl, k_lt, k_le, k_eq, k_neg, nI_add, nI_mul, k_clt, k_cgt, k_cle, k_cge, k_ceq, bI_0, k_sh8, ne_eq, Nat.add_eq_zero_iff, Nat.one_ne_zero, Nat.succ_ne_zero, and_false, false_and, not_false_eq_true, not_true_eq_false, ite_true, ite_false, if_true, if_false, r0, r1, iX, iM, e1, e2]
theorem INV.le {X M b E1 E2 F1 F2 : Nat} {h : xH} (H : INV X M b E1 E2 h) (h1 : E1 ≤ F1) (h2 : E2 ≤ F2) : INV X M b F1 F2 h := by
  obtain ⟨G, S, cN, mN, ty, Lf, bd, V, z, dr, C, r, B, s1, s2⟩ := H
  exact ⟨G, S, cN, mN, ty, Lf, bd, V, z, dr, C.le h1 h2, r, B, s1, s2⟩
theorem INV.room {X M b E1 E2 : Nat} {h : xH} (H : INV X M b E1 E2 h) : h.2.2.1 ≤ E1 + 540 ∧ h.2.2.2 ≤ E2 + 14040 := by
  obtain ⟨G, S, cN, mN, ty, Lf, bd, V, z, dr, C, r, B, s1, s2⟩ := H
  obtain ⟨SX, Kc, R, Q, P, κ0, SC, T, SQ, SP, SK0, β, SB, κ, SK, mt, W, h3, hC, hP, hT, hE, hR⟩ := C
  unfold rmW at hR
  omega
theorem scr.ar {α : Type} {h : xH} {b L : Nat} {xs : Nat → Int32} (H : scr h b L xs) (F : Nat → Nat → (Nat → Value) → Option α) : xar h b F = F x_tS L (fun k => .int (xs k)) := by
  unfold xar
  rw [H]
theorem law_loop {X M b L F1 F2 : Nat} {xs : Nat → Int32} (hL : L < 4000) : ∀ (n i E1 E2 : Nat) (h : xH), L ≤ i + 7 * n + 6 → i ≤ L + 7 → INV X M b E1 E2 h → scr h b L xs → E1 + 200 * n ≤ F1 → E2 + 800 * n ≤ F2 → ∃ h1, xrun 80 203 18 [(1, .ref b), (1, .ref X), (1, .ref M), (1, .int (nI i))] [] h = some (some (.int (nI 1)), h1) ∧ h1.2.2.1 ≤ F1 + 540 ∧ h1.2.2.2 ≤ F2 + 14040 := by
  intro n
  have tS : (x_tS < x_an) = True := eq_true (by decide)
  have eN : Int32.ofNat L = nI L := rfl
  have done : ∀ (i E1 E2 : Nat) (h : xH), L < 7 + i → i ≤ L + 7 → INV X M b E1 E2 h → scr h b L xs → xrun 80 203 18 [(1, .ref b), (1, .ref X), (1, .ref M), (1, .int (nI i))] [] h = some (some (.int (nI 1)), h) := by
    intro i E1 E2 h hl hi7 hI hs
    have ar : ∀ {α : Type} (F : Nat → Nat → (Nat → Value) → Option α), xar h b F = F x_tS L (fun k => .int (xs k)) := fun F => hs.ar F
    have lt : (nI L - nI 7 < nI i) = True := by
      rw [sb_lt (by omega) (by omega) (by omega)]
      exact eq_true hl
    rw [q_203_18]
    simp (disch := omega) only [q_203_19, q_203_20, q_203_21, q_203_23, q_203_24, q_203_1161, q_203_1162, ar, tS, eN, ↓reduceIte, k_r, k_n, k_ci, k_cr, lit_nI, lt, k_z1, if_true]
  induction n with
  | zero =>
    intro i E1 E2 h hl hi7 hI hs h1 h2
    obtain ⟨q1, q2⟩ := hI.room
    exact ⟨h, done i E1 E2 h (by omega) hi7 hI hs, by omega, by omega⟩
  | succ n ih =>
    intro i E1 E2 h hl hi7 hI hs h1 h2
    by_cases c : L < 7 + i
    · obtain ⟨q1, q2⟩ := hI.room
      exact ⟨h, done i E1 E2 h c hi7 hI hs, by omega, by omega⟩
    · have nxt : ∀ h2, INV X M b (E1 + 200) (E2 + 800) h2 → scr h2 b L xs → ∃ h1, xrun 80 203 1155 [(1, .ref b), (1, .ref X), (1, .ref M), (1, .int (nI i))] [] h2 = some (some (.int (nI 1)), h1) ∧ h1.2.2.1 ≤ F1 + 540 ∧ h1.2.2.2 ≤ F2 + 14040 := by
        intro h2 hI2 hs2
        obtain ⟨h3, a1, a2, a3⟩ := ih (i + 7) (E1 + 200) (E2 + 800) h2 (by omega) (by omega) hI2 hs2 (by omega) (by omega)
        refine ⟨h3, ?_, a2, a3⟩
        rw [← a1]
        simp (disch := omega) only [q_203_1155, q_203_1158, ↓reduceIte, k_cr, k_ci, k_oR, k_oN, k_aR, k_aN, and_true, true_and, and_self, eq_self, Nat.reduceLT, Nat.reduceLeDiff, Nat.reduceEqDiff, Nat.reduceAdd, Nat.reduceMul, Bool.true_eq_false, Bool.false_eq_true, Nat.add_sub_cancel, Nat.not_lt_zero, Nat.zero_le, k_sub, k_sb1, k_r, k_n, k_ret, k_t1, k_t0, k_nr, k_nn, k_z0, k_z1, k_zb, x_okI, lit_nI, k_in, k_cl, k_lt, k_le, k_eq, k_neg, nI_add, nI_mul, k_clt, k_cgt, k_cle, k_cge, k_ceq, bI_0, k_sh8, ne_eq, Nat.add_eq_zero_iff, Nat.one_ne_zero, Nat.succ_ne_zero, and_false, false_and, not_false_eq_true, not_true_eq_false, ite_true, ite_false, if_true, if_false]
      have go : ∀ pc, (∃ h2, xrun 80 203 pc [(1, .ref b), (1, .ref X), (1, .ref M), (1, .int (nI i))] [] h = xrun 80 203 1155 [(1, .ref b), (1, .ref X), (1, .ref M), (1, .int (nI i))] [] h2 ∧ INV X M b (E1 + 200) (E2 + 800) h2 ∧ scr h2 b L xs) → ∃ h1, xrun 80 203 pc [(1, .ref b), (1, .ref X), (1, .ref M), (1, .int (nI i))] [] h = some (some (.int (nI 1)), h1) ∧ h1.2.2.1 ≤ F1 + 540 ∧ h1.2.2.2 ≤ F2 + 14040 := by
        rintro pc ⟨h2, a1, a2, a3⟩
        obtain ⟨h3, b1, b2, b3⟩ := nxt h2 a2 a3
        exact ⟨h3, a1.trans b1, b2, b3⟩
      have ar : ∀ {α : Type} (F : Nat → Nat → (Nat → Value) → Option α), xar h b F = F x_tS L (fun k => .int (xs k)) := fun F => hs.ar F
      have rd : ∀ {α : Type} (F : Value → Option α), xrd h b (nI i) 0 1 F = F (.int (xs i)) := fun F => hs.rd (by omega) hL F
      have lt : (nI L - nI 7 < nI i) = False := by
        rw [sb_lt (by omega) (by omega) (by omega)]
        exact eq_false c
      have pre : xrun 80 203 18 [(1, .ref b), (1, .ref X), (1, .ref M), (1, .int (nI i))] [] h = xrun 80 203 33 [(1, .ref b), (1, .ref X), (1, .ref M), (1, .int (nI i))] [.int (xs i &&& nI 31)] h := by
        rw [q_203_18]
        simp (disch := omega) only [q_203_19, q_203_20, q_203_21, q_203_23, q_203_24, q_203_27, q_203_28, q_203_29, q_203_30, q_203_32, ar, tS, eN, ↓reduceIte, k_r, k_n, k_ci, k_cr, lit_nI, lt, rd, if_true, if_false]
      rw [pre, q_203_33]
      have hi6 : i + 6 < L := by omega
      by_cases c0 : xs i &&& nI 31 = (0 : Int32)
      · rw [if_pos c0]
        exact go 128 (law_0 hI hs hi6 hL)
      rw [if_neg c0]
      by_cases c1 : xs i &&& nI 31 = (1 : Int32)
      · rw [if_pos c1]
        exact go 191 (law_1 hI hs hi6 hL)
      rw [if_neg c1]
      by_cases c2 : xs i &&& nI 31 = (2 : Int32)
      · rw [if_pos c2]
        exact go 302 (law_2 hI hs hi6 hL)
      rw [if_neg c2]
      by_cases c3 : xs i &&& nI 31 = (3 : Int32)
      · rw [if_pos c3]
        exact go 325 (law_3 hI hs hi6 hL)
      rw [if_neg c3]
      by_cases c4 : xs i &&& nI 31 = (4 : Int32)
      · rw [if_pos c4]
        exact go 388 (law_4 hI hs hi6 hL)
      rw [if_neg c4]
      by_cases c5 : xs i &&& nI 31 = (5 : Int32)
      · rw [if_pos c5]
        exact go 491 (law_5 hI hs hi6 hL)
      rw [if_neg c5]
      by_cases c6 : xs i &&& nI 31 = (6 : Int32)
      · rw [if_pos c6]
        exact go 594 (law_6 hI hs hi6 hL)
      rw [if_neg c6]
      by_cases c7 : xs i &&& nI 31 = (7 : Int32)
      · rw [if_pos c7]
        exact go 697 (law_7 hI hs hi6 hL)
      rw [if_neg c7]
      by_cases c8 : xs i &&& nI 31 = (8 : Int32)
      · rw [if_pos c8]
        exact go 730 (law_8 hI hs hi6 hL)
      rw [if_neg c8]
      by_cases c9 : xs i &&& nI 31 = (9 : Int32)
      · rw [if_pos c9]
        exact go 763 (law_9 hI hs hi6 hL)
      rw [if_neg c9]
      by_cases c10 : xs i &&& nI 31 = (10 : Int32)
      · rw [if_pos c10]
        exact go 786 (law_10 hI hs hi6 hL)
      rw [if_neg c10]
      by_cases c11 : xs i &&& nI 31 = (11 : Int32)
      · rw [if_pos c11]
        exact go 809 (law_11 hI hs hi6 hL)
      rw [if_neg c11]
      by_cases c12 : xs i &&& nI 31 = (12 : Int32)
      · rw [if_pos c12]
        exact go 832 (law_12 hI hs hi6 hL)
      rw [if_neg c12]
      by_cases c13 : xs i &&& nI 31 = (13 : Int32)
      · rw [if_pos c13]
        exact go 855 (law_13 hI hs hi6 hL)
      rw [if_neg c13]
      by_cases c14 : xs i &&& nI 31 = (14 : Int32)
      · rw [if_pos c14]
        exact go 895 (law_14 hI hs hi6 hL)
      rw [if_neg c14]
      by_cases c15 : xs i &&& nI 31 = (15 : Int32)
      · rw [if_pos c15]
        exact go 918 (law_15 hI hs hi6 hL)
      rw [if_neg c15]
      by_cases c16 : xs i &&& nI 31 = (16 : Int32)
      · rw [if_pos c16]
        exact go 941 (law_16 hI hs hi6 hL)
      rw [if_neg c16]
      by_cases c17 : xs i &&& nI 31 = (17 : Int32)
      · rw [if_pos c17]
        exact go 965 (law_17 hI hs hi6 hL)
      rw [if_neg c17]
      by_cases c18 : xs i &&& nI 31 = (18 : Int32)
      · rw [if_pos c18]
        exact go 1018 (law_18 hI hs hi6 hL)
      rw [if_neg c18]
      by_cases c19 : xs i &&& nI 31 = (19 : Int32)
      · rw [if_pos c19]
        exact go 1081 (law_19 hI hs hi6 hL)
      rw [if_neg c19]
      exact go 1155 ⟨h, rfl, hI.le (by omega) (by omega), hs⟩
