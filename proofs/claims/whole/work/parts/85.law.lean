/-! the law's loop over the calls -/
theorem law_n1 (i : Nat) : nI i + 1 = nI (i + 1) := nI_add i 1
theorem law_n2 (i : Nat) : nI i + 2 = nI (i + 2) := nI_add i 2
theorem law_n3 (i : Nat) : nI i + 3 = nI (i + 3) := nI_add i 3
theorem law_n4 (i : Nat) : nI i + 4 = nI (i + 4) := nI_add i 4
theorem law_n5 (i : Nat) : nI i + 5 = nI (i + 5) := nI_add i 5
theorem law_n6 (i : Nat) : nI i + 6 = nI (i + 6) := nI_add i 6
theorem law_cmp (x : Int64) : (lg_cmp x x = 0) = True := by
  unfold lg_cmp
  simp
theorem law_len {L : Nat} {xs : Nat → Int32} {I : mx_I} {J : mx_J} (hL : L ≤ 3072) (hs : StatR L xs I) : mx_alen (mk I J) 1004 = L := by
  unfold mx_alen
  rw [if_pos rfl, mk_I, hs 1005 0 (by omega)]
  exact nI_clamp (by omega)
theorem law_ok {L i : Nat} {xs : Nat → Int32} {I : mx_I} {J : mx_J} (hL : L ≤ 3072) (hi : i + 6 ≤ L) (hs : StatR L xs I) : ∀ k, k ≤ 5 → (mx_okr 103 1004 (mk I J) (nI (i + k)) = true) = True := by
  intro k hk
  unfold mx_okr
  rw [law_len hL hs]
  have h1 := nI_rng (k := i + k) (n := L) (by omega) (by omega)
  rw [← mk_inb] at h1
  rw [h1]
  exact eq_true rfl
theorem law_at {L i : Nat} {xs : Nat → Int32} {I : mx_I} (hL : L ≤ 3072) (hi : i + 6 ≤ L) (hs : StatR L xs I) : ∀ k, k ≤ 5 → I 1004 (nI (i + k)).toNatClampNeg = xs (i + k) := by
  intro k hk
  rw [nI_clamp (by omega), hs 1004 _ (by omega)]
  rfl
theorem law_0 {L i : Nat} {xs : Nat → Int32} {I : mx_I} {J : mx_J} {P : mx_P} (hL : L ≤ 3072) (hi : i + 6 ≤ L) (hI : Inv L xs I) (cont : ∀ I2 J2, Inv L xs I2 → mx_R k_Law_law (mx_Cal mx_tab 500) 1309 [some (.ref 1004), some (.ref 0), some (.ref 94), some (.int (nI i))] [] (mk I2 J2) P) : mx_R k_Law_law (mx_Cal mx_tab 500) 208 [some (.ref 1004), some (.ref 0), some (.ref 94), some (.int (nI i))] [] (mk I J) P := by
  obtain ⟨v, I1, I2, J1, J2, h1, h2, h3, h4⟩ := op_item hI (xs (i + 1)) (xs (i + 2)) J
  have o := law_ok (i := i) (J := J) hL hi hI.2.2.2.2.2
  have q := law_ok (i := i) (J := J1) hL hi h3
  have a := law_at (i := i) hL hi hI.2.2.2.2.2
  have b := law_at (i := i) hL hi h3
  simp only [x_Law_law_208, x_Law_law_209, x_Law_law_210, x_Law_law_211, x_Law_law_212, x_Law_law_213, x_Law_law_214, x_Law_law_215, x_Law_law_216, x_Law_law_217, x_Law_law_218, x_Law_law_219, x_Law_law_222, x_Law_law_223, x_Law_law_224, x_Law_law_225, x_Law_law_226, x_Law_law_227, x_Law_law_228, x_Law_law_229, x_Law_law_230, x_Law_law_231, x_Law_law_232, x_Law_law_233, x_Law_law_236, x_Law_law_239, x_Law_law_240, mk_I, mk_J, mk_n, Option.toList_some, List.cons_append, List.nil_append, true_and, law_n1, law_n2, law_n3, law_n4, law_n5, o 1 (by omega), o 2 (by omega), o 3 (by omega), o 4 (by omega), o 5 (by omega), q 1 (by omega), q 2 (by omega), q 3 (by omega), q 4 (by omega), q 5 (by omega), a 1 (by omega), a 2 (by omega), a 3 (by omega), a 4 (by omega), a 5 (by omega), b 1 (by omega), b 2 (by omega), b 3 (by omega), b 4 (by omega), b 5 (by omega), mx_call h1 (show 300 ≤ 500 by decide), mx_call h2 (show 300 ≤ 500 by decide), law_cmp, if_true]
  exact cont I2 J2 h4
theorem law_1 {L i : Nat} {xs : Nat → Int32} {I : mx_I} {J : mx_J} {P : mx_P} (hL : L ≤ 3072) (hi : i + 6 ≤ L) (hI : Inv L xs I) (cont : ∀ I2 J2, Inv L xs I2 → mx_R k_Law_law (mx_Cal mx_tab 500) 1309 [some (.ref 1004), some (.ref 0), some (.ref 94), some (.int (nI i))] [] (mk I2 J2) P) : mx_R k_Law_law (mx_Cal mx_tab 500) 241 [some (.ref 1004), some (.ref 0), some (.ref 94), some (.int (nI i))] [] (mk I J) P := by
  obtain ⟨v, I1, I2, J1, J2, h1, h2, h3, h4⟩ := op_itemIs hI (xs (i + 1)) (xs (i + 2)) J
  have o := law_ok (i := i) (J := J) hL hi hI.2.2.2.2.2
  have q := law_ok (i := i) (J := J1) hL hi h3
  have a := law_at (i := i) hL hi hI.2.2.2.2.2
  have b := law_at (i := i) hL hi h3
  simp only [x_Law_law_241, x_Law_law_242, x_Law_law_243, x_Law_law_244, x_Law_law_245, x_Law_law_246, x_Law_law_247, x_Law_law_248, x_Law_law_249, x_Law_law_250, x_Law_law_251, x_Law_law_252, x_Law_law_255, x_Law_law_256, x_Law_law_257, x_Law_law_258, x_Law_law_259, x_Law_law_260, x_Law_law_261, x_Law_law_262, x_Law_law_263, x_Law_law_264, x_Law_law_265, x_Law_law_266, x_Law_law_269, x_Law_law_272, x_Law_law_273, mk_I, mk_J, mk_n, Option.toList_some, List.cons_append, List.nil_append, true_and, law_n1, law_n2, law_n3, law_n4, law_n5, o 1 (by omega), o 2 (by omega), o 3 (by omega), o 4 (by omega), o 5 (by omega), q 1 (by omega), q 2 (by omega), q 3 (by omega), q 4 (by omega), q 5 (by omega), a 1 (by omega), a 2 (by omega), a 3 (by omega), a 4 (by omega), a 5 (by omega), b 1 (by omega), b 2 (by omega), b 3 (by omega), b 4 (by omega), b 5 (by omega), mx_call h1 (show 300 ≤ 500 by decide), mx_call h2 (show 300 ≤ 500 by decide), law_cmp, if_true]
  exact cont I2 J2 h4
theorem law_2 {L i : Nat} {xs : Nat → Int32} {I : mx_I} {J : mx_J} {P : mx_P} (hL : L ≤ 3072) (hi : i + 6 ≤ L) (hI : Inv L xs I) (cont : ∀ I2 J2, Inv L xs I2 → mx_R k_Law_law (mx_Cal mx_tab 500) 1309 [some (.ref 1004), some (.ref 0), some (.ref 94), some (.int (nI i))] [] (mk I2 J2) P) : mx_R k_Law_law (mx_Cal mx_tab 500) 274 [some (.ref 1004), some (.ref 0), some (.ref 94), some (.int (nI i))] [] (mk I J) P := by
  obtain ⟨v, I1, I2, J1, J2, h1, h2, h3, h4⟩ := op_become hI (xs (i + 1)) (xs (i + 2)) J
  have o := law_ok (i := i) (J := J) hL hi hI.2.2.2.2.2
  have q := law_ok (i := i) (J := J1) hL hi h3
  have a := law_at (i := i) hL hi hI.2.2.2.2.2
  have b := law_at (i := i) hL hi h3
  simp only [x_Law_law_274, x_Law_law_275, x_Law_law_276, x_Law_law_277, x_Law_law_278, x_Law_law_279, x_Law_law_280, x_Law_law_281, x_Law_law_282, x_Law_law_283, x_Law_law_284, x_Law_law_285, x_Law_law_288, x_Law_law_289, x_Law_law_290, x_Law_law_291, x_Law_law_292, x_Law_law_293, x_Law_law_294, x_Law_law_295, x_Law_law_296, x_Law_law_297, x_Law_law_298, x_Law_law_299, x_Law_law_302, x_Law_law_305, x_Law_law_306, mk_I, mk_J, mk_n, Option.toList_some, List.cons_append, List.nil_append, true_and, law_n1, law_n2, law_n3, law_n4, law_n5, o 1 (by omega), o 2 (by omega), o 3 (by omega), o 4 (by omega), o 5 (by omega), q 1 (by omega), q 2 (by omega), q 3 (by omega), q 4 (by omega), q 5 (by omega), a 1 (by omega), a 2 (by omega), a 3 (by omega), a 4 (by omega), a 5 (by omega), b 1 (by omega), b 2 (by omega), b 3 (by omega), b 4 (by omega), b 5 (by omega), mx_call h1 (show 300 ≤ 500 by decide), mx_call h2 (show 300 ≤ 500 by decide), law_cmp, if_true]
  exact cont I2 J2 h4
theorem law_3 {L i : Nat} {xs : Nat → Int32} {I : mx_I} {J : mx_J} {P : mx_P} (hL : L ≤ 3072) (hi : i + 6 ≤ L) (hI : Inv L xs I) (cont : ∀ I2 J2, Inv L xs I2 → mx_R k_Law_law (mx_Cal mx_tab 500) 1309 [some (.ref 1004), some (.ref 0), some (.ref 94), some (.int (nI i))] [] (mk I2 J2) P) : mx_R k_Law_law (mx_Cal mx_tab 500) 307 [some (.ref 1004), some (.ref 0), some (.ref 94), some (.int (nI i))] [] (mk I J) P := by
  obtain ⟨v, I1, I2, J1, J2, h1, h2, h3, h4⟩ := op_as hI (xs (i + 1)) (xs (i + 2)) J
  have o := law_ok (i := i) (J := J) hL hi hI.2.2.2.2.2
  have q := law_ok (i := i) (J := J1) hL hi h3
  have a := law_at (i := i) hL hi hI.2.2.2.2.2
  have b := law_at (i := i) hL hi h3
  simp only [x_Law_law_307, x_Law_law_308, x_Law_law_309, x_Law_law_310, x_Law_law_311, x_Law_law_312, x_Law_law_313, x_Law_law_314, x_Law_law_315, x_Law_law_316, x_Law_law_317, x_Law_law_318, x_Law_law_321, x_Law_law_322, x_Law_law_323, x_Law_law_324, x_Law_law_325, x_Law_law_326, x_Law_law_327, x_Law_law_328, x_Law_law_329, x_Law_law_330, x_Law_law_331, x_Law_law_332, x_Law_law_335, x_Law_law_338, x_Law_law_339, mk_I, mk_J, mk_n, Option.toList_some, List.cons_append, List.nil_append, true_and, law_n1, law_n2, law_n3, law_n4, law_n5, o 1 (by omega), o 2 (by omega), o 3 (by omega), o 4 (by omega), o 5 (by omega), q 1 (by omega), q 2 (by omega), q 3 (by omega), q 4 (by omega), q 5 (by omega), a 1 (by omega), a 2 (by omega), a 3 (by omega), a 4 (by omega), a 5 (by omega), b 1 (by omega), b 2 (by omega), b 3 (by omega), b 4 (by omega), b 5 (by omega), mx_call h1 (show 300 ≤ 500 by decide), mx_call h2 (show 300 ≤ 500 by decide), law_cmp, if_true]
  exact cont I2 J2 h4
theorem law_4 {L i : Nat} {xs : Nat → Int32} {I : mx_I} {J : mx_J} {P : mx_P} (hL : L ≤ 3072) (hi : i + 6 ≤ L) (hI : Inv L xs I) (cont : ∀ I2 J2, Inv L xs I2 → mx_R k_Law_law (mx_Cal mx_tab 500) 1309 [some (.ref 1004), some (.ref 0), some (.ref 94), some (.int (nI i))] [] (mk I2 J2) P) : mx_R k_Law_law (mx_Cal mx_tab 500) 340 [some (.ref 1004), some (.ref 0), some (.ref 94), some (.int (nI i))] [] (mk I J) P := by
  obtain ⟨v, I1, I2, J1, J2, h1, h2, h3, h4⟩ := op_truth hI (xs (i + 1)) (xs (i + 2)) J
  have o := law_ok (i := i) (J := J) hL hi hI.2.2.2.2.2
  have q := law_ok (i := i) (J := J1) hL hi h3
  have a := law_at (i := i) hL hi hI.2.2.2.2.2
  have b := law_at (i := i) hL hi h3
  simp only [x_Law_law_340, x_Law_law_341, x_Law_law_342, x_Law_law_343, x_Law_law_344, x_Law_law_345, x_Law_law_346, x_Law_law_347, x_Law_law_348, x_Law_law_349, x_Law_law_350, x_Law_law_351, x_Law_law_354, x_Law_law_355, x_Law_law_356, x_Law_law_357, x_Law_law_358, x_Law_law_359, x_Law_law_360, x_Law_law_361, x_Law_law_362, x_Law_law_363, x_Law_law_364, x_Law_law_365, x_Law_law_368, x_Law_law_371, x_Law_law_372, mk_I, mk_J, mk_n, Option.toList_some, List.cons_append, List.nil_append, true_and, law_n1, law_n2, law_n3, law_n4, law_n5, o 1 (by omega), o 2 (by omega), o 3 (by omega), o 4 (by omega), o 5 (by omega), q 1 (by omega), q 2 (by omega), q 3 (by omega), q 4 (by omega), q 5 (by omega), a 1 (by omega), a 2 (by omega), a 3 (by omega), a 4 (by omega), a 5 (by omega), b 1 (by omega), b 2 (by omega), b 3 (by omega), b 4 (by omega), b 5 (by omega), mx_call h1 (show 300 ≤ 500 by decide), mx_call h2 (show 300 ≤ 500 by decide), law_cmp, if_true]
  exact cont I2 J2 h4
theorem law_5 {L i : Nat} {xs : Nat → Int32} {I : mx_I} {J : mx_J} {P : mx_P} (hL : L ≤ 3072) (hi : i + 6 ≤ L) (hI : Inv L xs I) (cont : ∀ I2 J2, Inv L xs I2 → mx_R k_Law_law (mx_Cal mx_tab 500) 1309 [some (.ref 1004), some (.ref 0), some (.ref 94), some (.int (nI i))] [] (mk I2 J2) P) : mx_R k_Law_law (mx_Cal mx_tab 500) 373 [some (.ref 1004), some (.ref 0), some (.ref 94), some (.int (nI i))] [] (mk I J) P := by
  obtain ⟨v, I1, I2, J1, J2, h1, h2, h3, h4⟩ := op_shift hI (xs (i + 1)) (xs (i + 2)) J
  have o := law_ok (i := i) (J := J) hL hi hI.2.2.2.2.2
  have q := law_ok (i := i) (J := J1) hL hi h3
  have a := law_at (i := i) hL hi hI.2.2.2.2.2
  have b := law_at (i := i) hL hi h3
  simp only [x_Law_law_373, x_Law_law_374, x_Law_law_375, x_Law_law_376, x_Law_law_377, x_Law_law_378, x_Law_law_379, x_Law_law_380, x_Law_law_381, x_Law_law_382, x_Law_law_383, x_Law_law_384, x_Law_law_387, x_Law_law_388, x_Law_law_389, x_Law_law_390, x_Law_law_391, x_Law_law_392, x_Law_law_393, x_Law_law_394, x_Law_law_395, x_Law_law_396, x_Law_law_397, x_Law_law_398, x_Law_law_401, x_Law_law_404, x_Law_law_405, mk_I, mk_J, mk_n, Option.toList_some, List.cons_append, List.nil_append, true_and, law_n1, law_n2, law_n3, law_n4, law_n5, o 1 (by omega), o 2 (by omega), o 3 (by omega), o 4 (by omega), o 5 (by omega), q 1 (by omega), q 2 (by omega), q 3 (by omega), q 4 (by omega), q 5 (by omega), a 1 (by omega), a 2 (by omega), a 3 (by omega), a 4 (by omega), a 5 (by omega), b 1 (by omega), b 2 (by omega), b 3 (by omega), b 4 (by omega), b 5 (by omega), mx_call h1 (show 300 ≤ 500 by decide), mx_call h2 (show 300 ≤ 500 by decide), law_cmp, if_true]
  exact cont I2 J2 h4
theorem law_6 {L i : Nat} {xs : Nat → Int32} {I : mx_I} {J : mx_J} {P : mx_P} (hL : L ≤ 3072) (hi : i + 6 ≤ L) (hI : Inv L xs I) (cont : ∀ I2 J2, Inv L xs I2 → mx_R k_Law_law (mx_Cal mx_tab 500) 1309 [some (.ref 1004), some (.ref 0), some (.ref 94), some (.int (nI i))] [] (mk I2 J2) P) : mx_R k_Law_law (mx_Cal mx_tab 500) 406 [some (.ref 1004), some (.ref 0), some (.ref 94), some (.int (nI i))] [] (mk I J) P := by
  obtain ⟨v, I1, I2, J1, J2, h1, h2, h3, h4⟩ := op_clock hI (xs (i + 1)) (xs (i + 2)) J
  have o := law_ok (i := i) (J := J) hL hi hI.2.2.2.2.2
  have q := law_ok (i := i) (J := J1) hL hi h3
  have a := law_at (i := i) hL hi hI.2.2.2.2.2
  have b := law_at (i := i) hL hi h3
  simp only [x_Law_law_406, x_Law_law_407, x_Law_law_408, x_Law_law_409, x_Law_law_410, x_Law_law_411, x_Law_law_412, x_Law_law_413, x_Law_law_414, x_Law_law_415, x_Law_law_416, x_Law_law_417, x_Law_law_420, x_Law_law_421, x_Law_law_422, x_Law_law_423, x_Law_law_424, x_Law_law_425, x_Law_law_426, x_Law_law_427, x_Law_law_428, x_Law_law_429, x_Law_law_430, x_Law_law_431, x_Law_law_434, x_Law_law_437, x_Law_law_438, mk_I, mk_J, mk_n, Option.toList_some, List.cons_append, List.nil_append, true_and, law_n1, law_n2, law_n3, law_n4, law_n5, o 1 (by omega), o 2 (by omega), o 3 (by omega), o 4 (by omega), o 5 (by omega), q 1 (by omega), q 2 (by omega), q 3 (by omega), q 4 (by omega), q 5 (by omega), a 1 (by omega), a 2 (by omega), a 3 (by omega), a 4 (by omega), a 5 (by omega), b 1 (by omega), b 2 (by omega), b 3 (by omega), b 4 (by omega), b 5 (by omega), mx_call h1 (show 300 ≤ 500 by decide), mx_call h2 (show 300 ≤ 500 by decide), law_cmp, if_true]
  exact cont I2 J2 h4
theorem law_7 {L i : Nat} {xs : Nat → Int32} {I : mx_I} {J : mx_J} {P : mx_P} (hL : L ≤ 3072) (hi : i + 6 ≤ L) (hI : Inv L xs I) (cont : ∀ I2 J2, Inv L xs I2 → mx_R k_Law_law (mx_Cal mx_tab 500) 1309 [some (.ref 1004), some (.ref 0), some (.ref 94), some (.int (nI i))] [] (mk I2 J2) P) : mx_R k_Law_law (mx_Cal mx_tab 500) 439 [some (.ref 1004), some (.ref 0), some (.ref 94), some (.int (nI i))] [] (mk I J) P := by
  obtain ⟨v, I1, I2, J1, J2, h1, h2, h3, h4⟩ := op_feed hI ((xs (i + 1)).toInt64 <<< ((32 : Int32).toInt64 &&& 63) ||| (xs (i + 2)).toInt64 &&& 4294967295) (xs (i + 3)) J
  have o := law_ok (i := i) (J := J) hL hi hI.2.2.2.2.2
  have q := law_ok (i := i) (J := J1) hL hi h3
  have a := law_at (i := i) hL hi hI.2.2.2.2.2
  have b := law_at (i := i) hL hi h3
  simp only [x_Law_law_439, x_Law_law_440, x_Law_law_441, x_Law_law_442, x_Law_law_443, x_Law_law_444, x_Law_law_445, x_Law_law_446, x_Law_law_448, x_Law_law_449, x_Law_law_450, x_Law_law_451, x_Law_law_452, x_Law_law_453, x_Law_law_454, x_Law_law_455, x_Law_law_458, x_Law_law_459, x_Law_law_460, x_Law_law_461, x_Law_law_462, x_Law_law_463, x_Law_law_464, x_Law_law_465, x_Law_law_468, x_Law_law_469, x_Law_law_470, x_Law_law_471, x_Law_law_472, x_Law_law_473, x_Law_law_474, x_Law_law_475, x_Law_law_477, x_Law_law_478, x_Law_law_479, x_Law_law_480, x_Law_law_481, x_Law_law_482, x_Law_law_483, x_Law_law_484, x_Law_law_487, x_Law_law_488, x_Law_law_489, x_Law_law_490, x_Law_law_491, x_Law_law_492, x_Law_law_493, x_Law_law_494, x_Law_law_497, x_Law_law_500, x_Law_law_501, mk_I, mk_J, mk_n, Option.toList_some, List.cons_append, List.nil_append, true_and, law_n1, law_n2, law_n3, law_n4, law_n5, o 1 (by omega), o 2 (by omega), o 3 (by omega), o 4 (by omega), o 5 (by omega), q 1 (by omega), q 2 (by omega), q 3 (by omega), q 4 (by omega), q 5 (by omega), a 1 (by omega), a 2 (by omega), a 3 (by omega), a 4 (by omega), a 5 (by omega), b 1 (by omega), b 2 (by omega), b 3 (by omega), b 4 (by omega), b 5 (by omega), mx_call h1 (show 300 ≤ 500 by decide), mx_call h2 (show 300 ≤ 500 by decide), law_cmp, if_true]
  exact cont I2 J2 h4
theorem law_8 {L i : Nat} {xs : Nat → Int32} {I : mx_I} {J : mx_J} {P : mx_P} (hL : L ≤ 3072) (hi : i + 6 ≤ L) (hI : Inv L xs I) (cont : ∀ I2 J2, Inv L xs I2 → mx_R k_Law_law (mx_Cal mx_tab 500) 1309 [some (.ref 1004), some (.ref 0), some (.ref 94), some (.int (nI i))] [] (mk I2 J2) P) : mx_R k_Law_law (mx_Cal mx_tab 500) 502 [some (.ref 1004), some (.ref 0), some (.ref 94), some (.int (nI i))] [] (mk I J) P := by
  obtain ⟨v, I1, I2, J1, J2, h1, h2, h3, h4⟩ := op_text hI (xs (i + 1)) J
  have o := law_ok (i := i) (J := J) hL hi hI.2.2.2.2.2
  have q := law_ok (i := i) (J := J1) hL hi h3
  have a := law_at (i := i) hL hi hI.2.2.2.2.2
  have b := law_at (i := i) hL hi h3
  simp only [x_Law_law_502, x_Law_law_503, x_Law_law_504, x_Law_law_505, x_Law_law_506, x_Law_law_507, x_Law_law_508, x_Law_law_511, x_Law_law_512, x_Law_law_513, x_Law_law_514, x_Law_law_515, x_Law_law_516, x_Law_law_517, x_Law_law_520, x_Law_law_523, x_Law_law_524, mk_I, mk_J, mk_n, Option.toList_some, List.cons_append, List.nil_append, true_and, law_n1, law_n2, law_n3, law_n4, law_n5, o 1 (by omega), o 2 (by omega), o 3 (by omega), o 4 (by omega), o 5 (by omega), q 1 (by omega), q 2 (by omega), q 3 (by omega), q 4 (by omega), q 5 (by omega), a 1 (by omega), a 2 (by omega), a 3 (by omega), a 4 (by omega), a 5 (by omega), b 1 (by omega), b 2 (by omega), b 3 (by omega), b 4 (by omega), b 5 (by omega), mx_call h1 (show 300 ≤ 500 by decide), mx_call h2 (show 300 ≤ 500 by decide), law_cmp, if_true]
  exact cont I2 J2 h4
theorem law_9 {L i : Nat} {xs : Nat → Int32} {I : mx_I} {J : mx_J} {P : mx_P} (hL : L ≤ 3072) (hi : i + 6 ≤ L) (hI : Inv L xs I) (cont : ∀ I2 J2, Inv L xs I2 → mx_R k_Law_law (mx_Cal mx_tab 500) 1309 [some (.ref 1004), some (.ref 0), some (.ref 94), some (.int (nI i))] [] (mk I2 J2) P) : mx_R k_Law_law (mx_Cal mx_tab 500) 525 [some (.ref 1004), some (.ref 0), some (.ref 94), some (.int (nI i))] [] (mk I J) P := by
  obtain ⟨v, I1, I2, J1, J2, h1, h2, h3, h4⟩ := op_untell hI (xs (i + 1)) J
  have o := law_ok (i := i) (J := J) hL hi hI.2.2.2.2.2
  have q := law_ok (i := i) (J := J1) hL hi h3
  have a := law_at (i := i) hL hi hI.2.2.2.2.2
  have b := law_at (i := i) hL hi h3
  simp only [x_Law_law_525, x_Law_law_526, x_Law_law_527, x_Law_law_528, x_Law_law_529, x_Law_law_530, x_Law_law_531, x_Law_law_534, x_Law_law_535, x_Law_law_536, x_Law_law_537, x_Law_law_538, x_Law_law_539, x_Law_law_540, x_Law_law_543, x_Law_law_546, x_Law_law_547, mk_I, mk_J, mk_n, Option.toList_some, List.cons_append, List.nil_append, true_and, law_n1, law_n2, law_n3, law_n4, law_n5, o 1 (by omega), o 2 (by omega), o 3 (by omega), o 4 (by omega), o 5 (by omega), q 1 (by omega), q 2 (by omega), q 3 (by omega), q 4 (by omega), q 5 (by omega), a 1 (by omega), a 2 (by omega), a 3 (by omega), a 4 (by omega), a 5 (by omega), b 1 (by omega), b 2 (by omega), b 3 (by omega), b 4 (by omega), b 5 (by omega), mx_call h1 (show 300 ≤ 500 by decide), mx_call h2 (show 300 ≤ 500 by decide), law_cmp, if_true]
  exact cont I2 J2 h4
theorem law_10 {L i : Nat} {xs : Nat → Int32} {I : mx_I} {J : mx_J} {P : mx_P} (hL : L ≤ 3072) (hi : i + 6 ≤ L) (hI : Inv L xs I) (cont : ∀ I2 J2, Inv L xs I2 → mx_R k_Law_law (mx_Cal mx_tab 500) 1309 [some (.ref 1004), some (.ref 0), some (.ref 94), some (.int (nI i))] [] (mk I2 J2) P) : mx_R k_Law_law (mx_Cal mx_tab 500) 548 [some (.ref 1004), some (.ref 0), some (.ref 94), some (.int (nI i))] [] (mk I J) P := by
  obtain ⟨v, I1, I2, J1, J2, h1, h2, h3, h4⟩ := op_law hI (xs (i + 1)) (xs (i + 2)) (xs (i + 3)) (xs (i + 4)) J
  have o := law_ok (i := i) (J := J) hL hi hI.2.2.2.2.2
  have q := law_ok (i := i) (J := J1) hL hi h3
  have a := law_at (i := i) hL hi hI.2.2.2.2.2
  have b := law_at (i := i) hL hi h3
  simp only [x_Law_law_548, x_Law_law_549, x_Law_law_550, x_Law_law_551, x_Law_law_552, x_Law_law_553, x_Law_law_554, x_Law_law_555, x_Law_law_556, x_Law_law_557, x_Law_law_558, x_Law_law_559, x_Law_law_560, x_Law_law_561, x_Law_law_562, x_Law_law_563, x_Law_law_564, x_Law_law_565, x_Law_law_566, x_Law_law_567, x_Law_law_568, x_Law_law_569, x_Law_law_572, x_Law_law_573, x_Law_law_574, x_Law_law_575, x_Law_law_576, x_Law_law_577, x_Law_law_578, x_Law_law_579, x_Law_law_580, x_Law_law_581, x_Law_law_582, x_Law_law_583, x_Law_law_584, x_Law_law_585, x_Law_law_586, x_Law_law_587, x_Law_law_588, x_Law_law_589, x_Law_law_590, x_Law_law_591, x_Law_law_592, x_Law_law_593, x_Law_law_596, x_Law_law_599, x_Law_law_600, mk_I, mk_J, mk_n, Option.toList_some, List.cons_append, List.nil_append, true_and, law_n1, law_n2, law_n3, law_n4, law_n5, o 1 (by omega), o 2 (by omega), o 3 (by omega), o 4 (by omega), o 5 (by omega), q 1 (by omega), q 2 (by omega), q 3 (by omega), q 4 (by omega), q 5 (by omega), a 1 (by omega), a 2 (by omega), a 3 (by omega), a 4 (by omega), a 5 (by omega), b 1 (by omega), b 2 (by omega), b 3 (by omega), b 4 (by omega), b 5 (by omega), mx_call h1 (show 300 ≤ 500 by decide), mx_call h2 (show 300 ≤ 500 by decide), law_cmp, if_true]
  exact cont I2 J2 h4
theorem law_11 {L i : Nat} {xs : Nat → Int32} {I : mx_I} {J : mx_J} {P : mx_P} (hL : L ≤ 3072) (hi : i + 6 ≤ L) (hI : Inv L xs I) (cont : ∀ I2 J2, Inv L xs I2 → mx_R k_Law_law (mx_Cal mx_tab 500) 1309 [some (.ref 1004), some (.ref 0), some (.ref 94), some (.int (nI i))] [] (mk I2 J2) P) : mx_R k_Law_law (mx_Cal mx_tab 500) 601 [some (.ref 1004), some (.ref 0), some (.ref 94), some (.int (nI i))] [] (mk I J) P := by
  obtain ⟨v, I1, I2, J1, J2, h1, h2, h3, h4⟩ := op_air hI (xs (i + 1)) J
  have o := law_ok (i := i) (J := J) hL hi hI.2.2.2.2.2
  have q := law_ok (i := i) (J := J1) hL hi h3
  have a := law_at (i := i) hL hi hI.2.2.2.2.2
  have b := law_at (i := i) hL hi h3
  simp only [x_Law_law_601, x_Law_law_602, x_Law_law_603, x_Law_law_604, x_Law_law_605, x_Law_law_606, x_Law_law_607, x_Law_law_610, x_Law_law_611, x_Law_law_612, x_Law_law_613, x_Law_law_614, x_Law_law_615, x_Law_law_616, x_Law_law_619, x_Law_law_622, x_Law_law_623, mk_I, mk_J, mk_n, Option.toList_some, List.cons_append, List.nil_append, true_and, law_n1, law_n2, law_n3, law_n4, law_n5, o 1 (by omega), o 2 (by omega), o 3 (by omega), o 4 (by omega), o 5 (by omega), q 1 (by omega), q 2 (by omega), q 3 (by omega), q 4 (by omega), q 5 (by omega), a 1 (by omega), a 2 (by omega), a 3 (by omega), a 4 (by omega), a 5 (by omega), b 1 (by omega), b 2 (by omega), b 3 (by omega), b 4 (by omega), b 5 (by omega), mx_call h1 (show 300 ≤ 500 by decide), mx_call h2 (show 300 ≤ 500 by decide), law_cmp, if_true]
  exact cont I2 J2 h4
theorem law_12 {L i : Nat} {xs : Nat → Int32} {I : mx_I} {J : mx_J} {P : mx_P} (hL : L ≤ 3072) (hi : i + 6 ≤ L) (hI : Inv L xs I) (cont : ∀ I2 J2, Inv L xs I2 → mx_R k_Law_law (mx_Cal mx_tab 500) 1309 [some (.ref 1004), some (.ref 0), some (.ref 94), some (.int (nI i))] [] (mk I2 J2) P) : mx_R k_Law_law (mx_Cal mx_tab 500) 624 [some (.ref 1004), some (.ref 0), some (.ref 94), some (.int (nI i))] [] (mk I J) P := by
  obtain ⟨v, I1, I2, J1, J2, h1, h2, h3, h4⟩ := op_breaks hI (xs (i + 1)) J
  have o := law_ok (i := i) (J := J) hL hi hI.2.2.2.2.2
  have q := law_ok (i := i) (J := J1) hL hi h3
  have a := law_at (i := i) hL hi hI.2.2.2.2.2
  have b := law_at (i := i) hL hi h3
  simp only [x_Law_law_624, x_Law_law_625, x_Law_law_626, x_Law_law_627, x_Law_law_628, x_Law_law_629, x_Law_law_630, x_Law_law_633, x_Law_law_634, x_Law_law_635, x_Law_law_636, x_Law_law_637, x_Law_law_638, x_Law_law_639, x_Law_law_642, x_Law_law_645, x_Law_law_646, mk_I, mk_J, mk_n, Option.toList_some, List.cons_append, List.nil_append, true_and, law_n1, law_n2, law_n3, law_n4, law_n5, o 1 (by omega), o 2 (by omega), o 3 (by omega), o 4 (by omega), o 5 (by omega), q 1 (by omega), q 2 (by omega), q 3 (by omega), q 4 (by omega), q 5 (by omega), a 1 (by omega), a 2 (by omega), a 3 (by omega), a 4 (by omega), a 5 (by omega), b 1 (by omega), b 2 (by omega), b 3 (by omega), b 4 (by omega), b 5 (by omega), mx_call h1 (show 300 ≤ 500 by decide), mx_call h2 (show 300 ≤ 500 by decide), law_cmp, if_true]
  exact cont I2 J2 h4
theorem law_13 {L i : Nat} {xs : Nat → Int32} {I : mx_I} {J : mx_J} {P : mx_P} (hL : L ≤ 3072) (hi : i + 6 ≤ L) (hI : Inv L xs I) (cont : ∀ I2 J2, Inv L xs I2 → mx_R k_Law_law (mx_Cal mx_tab 500) 1309 [some (.ref 1004), some (.ref 0), some (.ref 94), some (.int (nI i))] [] (mk I2 J2) P) : mx_R k_Law_law (mx_Cal mx_tab 500) 647 [some (.ref 1004), some (.ref 0), some (.ref 94), some (.int (nI i))] [] (mk I J) P := by
  obtain ⟨v, I1, I2, J1, J2, h1, h2, h3, h4⟩ := op_drop hI (xs (i + 1)) J
  have o := law_ok (i := i) (J := J) hL hi hI.2.2.2.2.2
  have q := law_ok (i := i) (J := J1) hL hi h3
  have a := law_at (i := i) hL hi hI.2.2.2.2.2
  have b := law_at (i := i) hL hi h3
  simp only [x_Law_law_647, x_Law_law_648, x_Law_law_649, x_Law_law_650, x_Law_law_651, x_Law_law_652, x_Law_law_653, x_Law_law_656, x_Law_law_657, x_Law_law_658, x_Law_law_659, x_Law_law_660, x_Law_law_661, x_Law_law_662, x_Law_law_665, x_Law_law_668, x_Law_law_669, mk_I, mk_J, mk_n, Option.toList_some, List.cons_append, List.nil_append, true_and, law_n1, law_n2, law_n3, law_n4, law_n5, o 1 (by omega), o 2 (by omega), o 3 (by omega), o 4 (by omega), o 5 (by omega), q 1 (by omega), q 2 (by omega), q 3 (by omega), q 4 (by omega), q 5 (by omega), a 1 (by omega), a 2 (by omega), a 3 (by omega), a 4 (by omega), a 5 (by omega), b 1 (by omega), b 2 (by omega), b 3 (by omega), b 4 (by omega), b 5 (by omega), mx_call h1 (show 300 ≤ 500 by decide), mx_call h2 (show 300 ≤ 500 by decide), law_cmp, if_true]
  exact cont I2 J2 h4
theorem law_14 {L i : Nat} {xs : Nat → Int32} {I : mx_I} {J : mx_J} {P : mx_P} (hL : L ≤ 3072) (hi : i + 6 ≤ L) (hI : Inv L xs I) (cont : ∀ I2 J2, Inv L xs I2 → mx_R k_Law_law (mx_Cal mx_tab 500) 1309 [some (.ref 1004), some (.ref 0), some (.ref 94), some (.int (nI i))] [] (mk I2 J2) P) : mx_R k_Law_law (mx_Cal mx_tab 500) 670 [some (.ref 1004), some (.ref 0), some (.ref 94), some (.int (nI i))] [] (mk I J) P := by
  obtain ⟨v, I1, I2, J1, J2, h1, h2, h3, h4⟩ := op_loose hI (xs (i + 1)) J
  have o := law_ok (i := i) (J := J) hL hi hI.2.2.2.2.2
  have q := law_ok (i := i) (J := J1) hL hi h3
  have a := law_at (i := i) hL hi hI.2.2.2.2.2
  have b := law_at (i := i) hL hi h3
  simp only [x_Law_law_670, x_Law_law_671, x_Law_law_672, x_Law_law_673, x_Law_law_674, x_Law_law_675, x_Law_law_676, x_Law_law_679, x_Law_law_680, x_Law_law_681, x_Law_law_682, x_Law_law_683, x_Law_law_684, x_Law_law_685, x_Law_law_688, x_Law_law_691, x_Law_law_692, mk_I, mk_J, mk_n, Option.toList_some, List.cons_append, List.nil_append, true_and, law_n1, law_n2, law_n3, law_n4, law_n5, o 1 (by omega), o 2 (by omega), o 3 (by omega), o 4 (by omega), o 5 (by omega), q 1 (by omega), q 2 (by omega), q 3 (by omega), q 4 (by omega), q 5 (by omega), a 1 (by omega), a 2 (by omega), a 3 (by omega), a 4 (by omega), a 5 (by omega), b 1 (by omega), b 2 (by omega), b 3 (by omega), b 4 (by omega), b 5 (by omega), mx_call h1 (show 300 ≤ 500 by decide), mx_call h2 (show 300 ≤ 500 by decide), law_cmp, if_true]
  exact cont I2 J2 h4
theorem law_15 {L i : Nat} {xs : Nat → Int32} {I : mx_I} {J : mx_J} {P : mx_P} (hL : L ≤ 3072) (hi : i + 6 ≤ L) (hI : Inv L xs I) (cont : ∀ I2 J2, Inv L xs I2 → mx_R k_Law_law (mx_Cal mx_tab 500) 1309 [some (.ref 1004), some (.ref 0), some (.ref 94), some (.int (nI i))] [] (mk I2 J2) P) : mx_R k_Law_law (mx_Cal mx_tab 500) 693 [some (.ref 1004), some (.ref 0), some (.ref 94), some (.int (nI i))] [] (mk I J) P := by
  obtain ⟨v, I1, I2, J1, J2, h1, h2, h3, h4⟩ := op_anew hI  J
  have o := law_ok (i := i) (J := J) hL hi hI.2.2.2.2.2
  have q := law_ok (i := i) (J := J1) hL hi h3
  have a := law_at (i := i) hL hi hI.2.2.2.2.2
  have b := law_at (i := i) hL hi h3
  simp only [x_Law_law_693, x_Law_law_694, x_Law_law_697, x_Law_law_698, x_Law_law_701, x_Law_law_704, x_Law_law_705, mk_I, mk_J, mk_n, Option.toList_some, List.cons_append, List.nil_append, true_and, law_n1, law_n2, law_n3, law_n4, law_n5, o 1 (by omega), o 2 (by omega), o 3 (by omega), o 4 (by omega), o 5 (by omega), q 1 (by omega), q 2 (by omega), q 3 (by omega), q 4 (by omega), q 5 (by omega), a 1 (by omega), a 2 (by omega), a 3 (by omega), a 4 (by omega), a 5 (by omega), b 1 (by omega), b 2 (by omega), b 3 (by omega), b 4 (by omega), b 5 (by omega), mx_call h1 (show 300 ≤ 500 by decide), mx_call h2 (show 300 ≤ 500 by decide), law_cmp, if_true]
  exact cont I2 J2 h4
theorem law_16 {L i : Nat} {xs : Nat → Int32} {I : mx_I} {J : mx_J} {P : mx_P} (hL : L ≤ 3072) (hi : i + 6 ≤ L) (hI : Inv L xs I) (cont : ∀ I2 J2, Inv L xs I2 → mx_R k_Law_law (mx_Cal mx_tab 500) 1309 [some (.ref 1004), some (.ref 0), some (.ref 94), some (.int (nI i))] [] (mk I2 J2) P) : mx_R k_Law_law (mx_Cal mx_tab 500) 706 [some (.ref 1004), some (.ref 0), some (.ref 94), some (.int (nI i))] [] (mk I J) P := by
  obtain ⟨v, I1, I2, J1, J2, h1, h2, h3, h4⟩ := op_seed hI (xs (i + 1)) J
  have o := law_ok (i := i) (J := J) hL hi hI.2.2.2.2.2
  have q := law_ok (i := i) (J := J1) hL hi h3
  have a := law_at (i := i) hL hi hI.2.2.2.2.2
  have b := law_at (i := i) hL hi h3
  simp only [x_Law_law_706, x_Law_law_707, x_Law_law_708, x_Law_law_709, x_Law_law_710, x_Law_law_711, x_Law_law_712, x_Law_law_715, x_Law_law_716, x_Law_law_717, x_Law_law_718, x_Law_law_719, x_Law_law_720, x_Law_law_721, x_Law_law_724, x_Law_law_727, x_Law_law_728, mk_I, mk_J, mk_n, Option.toList_some, List.cons_append, List.nil_append, true_and, law_n1, law_n2, law_n3, law_n4, law_n5, o 1 (by omega), o 2 (by omega), o 3 (by omega), o 4 (by omega), o 5 (by omega), q 1 (by omega), q 2 (by omega), q 3 (by omega), q 4 (by omega), q 5 (by omega), a 1 (by omega), a 2 (by omega), a 3 (by omega), a 4 (by omega), a 5 (by omega), b 1 (by omega), b 2 (by omega), b 3 (by omega), b 4 (by omega), b 5 (by omega), mx_call h1 (show 300 ≤ 500 by decide), mx_call h2 (show 300 ≤ 500 by decide), law_cmp, if_true]
  exact cont I2 J2 h4
theorem law_17 {L i : Nat} {xs : Nat → Int32} {I : mx_I} {J : mx_J} {P : mx_P} (hL : L ≤ 3072) (hi : i + 6 ≤ L) (hI : Inv L xs I) (cont : ∀ I2 J2, Inv L xs I2 → mx_R k_Law_law (mx_Cal mx_tab 500) 1309 [some (.ref 1004), some (.ref 0), some (.ref 94), some (.int (nI i))] [] (mk I2 J2) P) : mx_R k_Law_law (mx_Cal mx_tab 500) 729 [some (.ref 1004), some (.ref 0), some (.ref 94), some (.int (nI i))] [] (mk I J) P := by
  obtain ⟨v, I1, I2, J1, J2, h1, h2, h3, h4⟩ := op_over hI  J
  have o := law_ok (i := i) (J := J) hL hi hI.2.2.2.2.2
  have q := law_ok (i := i) (J := J1) hL hi h3
  have a := law_at (i := i) hL hi hI.2.2.2.2.2
  have b := law_at (i := i) hL hi h3
  simp only [x_Law_law_729, x_Law_law_730, x_Law_law_733, x_Law_law_734, x_Law_law_737, x_Law_law_740, x_Law_law_741, mk_I, mk_J, mk_n, Option.toList_some, List.cons_append, List.nil_append, true_and, law_n1, law_n2, law_n3, law_n4, law_n5, o 1 (by omega), o 2 (by omega), o 3 (by omega), o 4 (by omega), o 5 (by omega), q 1 (by omega), q 2 (by omega), q 3 (by omega), q 4 (by omega), q 5 (by omega), a 1 (by omega), a 2 (by omega), a 3 (by omega), a 4 (by omega), a 5 (by omega), b 1 (by omega), b 2 (by omega), b 3 (by omega), b 4 (by omega), b 5 (by omega), mx_call h1 (show 300 ≤ 500 by decide), mx_call h2 (show 300 ≤ 500 by decide), law_cmp, if_true]
  exact cont I2 J2 h4
theorem law_18 {L i : Nat} {xs : Nat → Int32} {I : mx_I} {J : mx_J} {P : mx_P} (hL : L ≤ 3072) (hi : i + 6 ≤ L) (hI : Inv L xs I) (cont : ∀ I2 J2, Inv L xs I2 → mx_R k_Law_law (mx_Cal mx_tab 500) 1309 [some (.ref 1004), some (.ref 0), some (.ref 94), some (.int (nI i))] [] (mk I2 J2) P) : mx_R k_Law_law (mx_Cal mx_tab 500) 742 [some (.ref 1004), some (.ref 0), some (.ref 94), some (.int (nI i))] [] (mk I J) P := by
  obtain ⟨v, I1, I2, J1, J2, h1, h2, h3, h4⟩ := op_fits hI  J
  have o := law_ok (i := i) (J := J) hL hi hI.2.2.2.2.2
  have q := law_ok (i := i) (J := J1) hL hi h3
  have a := law_at (i := i) hL hi hI.2.2.2.2.2
  have b := law_at (i := i) hL hi h3
  simp only [x_Law_law_742, x_Law_law_743, x_Law_law_746, x_Law_law_747, x_Law_law_750, x_Law_law_753, x_Law_law_754, mk_I, mk_J, mk_n, Option.toList_some, List.cons_append, List.nil_append, true_and, law_n1, law_n2, law_n3, law_n4, law_n5, o 1 (by omega), o 2 (by omega), o 3 (by omega), o 4 (by omega), o 5 (by omega), q 1 (by omega), q 2 (by omega), q 3 (by omega), q 4 (by omega), q 5 (by omega), a 1 (by omega), a 2 (by omega), a 3 (by omega), a 4 (by omega), a 5 (by omega), b 1 (by omega), b 2 (by omega), b 3 (by omega), b 4 (by omega), b 5 (by omega), mx_call h1 (show 300 ≤ 500 by decide), mx_call h2 (show 300 ≤ 500 by decide), law_cmp, if_true]
  exact cont I2 J2 h4
theorem law_19 {L i : Nat} {xs : Nat → Int32} {I : mx_I} {J : mx_J} {P : mx_P} (hL : L ≤ 3072) (hi : i + 6 ≤ L) (hI : Inv L xs I) (cont : ∀ I2 J2, Inv L xs I2 → mx_R k_Law_law (mx_Cal mx_tab 500) 1309 [some (.ref 1004), some (.ref 0), some (.ref 94), some (.int (nI i))] [] (mk I2 J2) P) : mx_R k_Law_law (mx_Cal mx_tab 500) 755 [some (.ref 1004), some (.ref 0), some (.ref 94), some (.int (nI i))] [] (mk I J) P := by
  obtain ⟨v, I1, I2, J1, J2, h1, h2, h3, h4⟩ := op_spare hI  J
  have o := law_ok (i := i) (J := J) hL hi hI.2.2.2.2.2
  have q := law_ok (i := i) (J := J1) hL hi h3
  have a := law_at (i := i) hL hi hI.2.2.2.2.2
  have b := law_at (i := i) hL hi h3
  simp only [x_Law_law_755, x_Law_law_756, x_Law_law_759, x_Law_law_760, x_Law_law_763, x_Law_law_766, x_Law_law_767, mk_I, mk_J, mk_n, Option.toList_some, List.cons_append, List.nil_append, true_and, law_n1, law_n2, law_n3, law_n4, law_n5, o 1 (by omega), o 2 (by omega), o 3 (by omega), o 4 (by omega), o 5 (by omega), q 1 (by omega), q 2 (by omega), q 3 (by omega), q 4 (by omega), q 5 (by omega), a 1 (by omega), a 2 (by omega), a 3 (by omega), a 4 (by omega), a 5 (by omega), b 1 (by omega), b 2 (by omega), b 3 (by omega), b 4 (by omega), b 5 (by omega), mx_call h1 (show 300 ≤ 500 by decide), mx_call h2 (show 300 ≤ 500 by decide), law_cmp, if_true]
  exact cont I2 J2 h4
theorem law_20 {L i : Nat} {xs : Nat → Int32} {I : mx_I} {J : mx_J} {P : mx_P} (hL : L ≤ 3072) (hi : i + 6 ≤ L) (hI : Inv L xs I) (cont : ∀ I2 J2, Inv L xs I2 → mx_R k_Law_law (mx_Cal mx_tab 500) 1309 [some (.ref 1004), some (.ref 0), some (.ref 94), some (.int (nI i))] [] (mk I2 J2) P) : mx_R k_Law_law (mx_Cal mx_tab 500) 768 [some (.ref 1004), some (.ref 0), some (.ref 94), some (.int (nI i))] [] (mk I J) P := by
  obtain ⟨v, I1, I2, J1, J2, h1, h2, h3, h4⟩ := op_tuned hI  J
  have o := law_ok (i := i) (J := J) hL hi hI.2.2.2.2.2
  have q := law_ok (i := i) (J := J1) hL hi h3
  have a := law_at (i := i) hL hi hI.2.2.2.2.2
  have b := law_at (i := i) hL hi h3
  simp only [x_Law_law_768, x_Law_law_769, x_Law_law_772, x_Law_law_773, x_Law_law_776, x_Law_law_779, x_Law_law_780, mk_I, mk_J, mk_n, Option.toList_some, List.cons_append, List.nil_append, true_and, law_n1, law_n2, law_n3, law_n4, law_n5, o 1 (by omega), o 2 (by omega), o 3 (by omega), o 4 (by omega), o 5 (by omega), q 1 (by omega), q 2 (by omega), q 3 (by omega), q 4 (by omega), q 5 (by omega), a 1 (by omega), a 2 (by omega), a 3 (by omega), a 4 (by omega), a 5 (by omega), b 1 (by omega), b 2 (by omega), b 3 (by omega), b 4 (by omega), b 5 (by omega), mx_call h1 (show 300 ≤ 500 by decide), mx_call h2 (show 300 ≤ 500 by decide), law_cmp, if_true]
  exact cont I2 J2 h4
theorem law_21 {L i : Nat} {xs : Nat → Int32} {I : mx_I} {J : mx_J} {P : mx_P} (hL : L ≤ 3072) (hi : i + 6 ≤ L) (hI : Inv L xs I) (cont : ∀ I2 J2, Inv L xs I2 → mx_R k_Law_law (mx_Cal mx_tab 500) 1309 [some (.ref 1004), some (.ref 0), some (.ref 94), some (.int (nI i))] [] (mk I2 J2) P) : mx_R k_Law_law (mx_Cal mx_tab 500) 781 [some (.ref 1004), some (.ref 0), some (.ref 94), some (.int (nI i))] [] (mk I J) P := by
  obtain ⟨v, I1, I2, J1, J2, h1, h2, h3, h4⟩ := op_plan hI (xs (i + 1)) J
  have o := law_ok (i := i) (J := J) hL hi hI.2.2.2.2.2
  have q := law_ok (i := i) (J := J1) hL hi h3
  have a := law_at (i := i) hL hi hI.2.2.2.2.2
  have b := law_at (i := i) hL hi h3
  simp only [x_Law_law_781, x_Law_law_782, x_Law_law_783, x_Law_law_784, x_Law_law_785, x_Law_law_786, x_Law_law_787, x_Law_law_790, x_Law_law_791, x_Law_law_792, x_Law_law_793, x_Law_law_794, x_Law_law_795, x_Law_law_796, x_Law_law_799, x_Law_law_802, x_Law_law_803, mk_I, mk_J, mk_n, Option.toList_some, List.cons_append, List.nil_append, true_and, law_n1, law_n2, law_n3, law_n4, law_n5, o 1 (by omega), o 2 (by omega), o 3 (by omega), o 4 (by omega), o 5 (by omega), q 1 (by omega), q 2 (by omega), q 3 (by omega), q 4 (by omega), q 5 (by omega), a 1 (by omega), a 2 (by omega), a 3 (by omega), a 4 (by omega), a 5 (by omega), b 1 (by omega), b 2 (by omega), b 3 (by omega), b 4 (by omega), b 5 (by omega), mx_call h1 (show 300 ≤ 500 by decide), mx_call h2 (show 300 ≤ 500 by decide), law_cmp, if_true]
  exact cont I2 J2 h4
theorem law_22 {L i : Nat} {xs : Nat → Int32} {I : mx_I} {J : mx_J} {P : mx_P} (hL : L ≤ 3072) (hi : i + 6 ≤ L) (hI : Inv L xs I) (cont : ∀ I2 J2, Inv L xs I2 → mx_R k_Law_law (mx_Cal mx_tab 500) 1309 [some (.ref 1004), some (.ref 0), some (.ref 94), some (.int (nI i))] [] (mk I2 J2) P) : mx_R k_Law_law (mx_Cal mx_tab 500) 804 [some (.ref 1004), some (.ref 0), some (.ref 94), some (.int (nI i))] [] (mk I J) P := by
  obtain ⟨v, I1, I2, J1, J2, h1, h2, h3, h4⟩ := op_begins hI (xs (i + 1)) (xs (i + 2)) J
  have o := law_ok (i := i) (J := J) hL hi hI.2.2.2.2.2
  have q := law_ok (i := i) (J := J1) hL hi h3
  have a := law_at (i := i) hL hi hI.2.2.2.2.2
  have b := law_at (i := i) hL hi h3
  simp only [x_Law_law_804, x_Law_law_805, x_Law_law_806, x_Law_law_807, x_Law_law_808, x_Law_law_809, x_Law_law_810, x_Law_law_811, x_Law_law_812, x_Law_law_813, x_Law_law_814, x_Law_law_815, x_Law_law_818, x_Law_law_819, x_Law_law_820, x_Law_law_821, x_Law_law_822, x_Law_law_823, x_Law_law_824, x_Law_law_825, x_Law_law_826, x_Law_law_827, x_Law_law_828, x_Law_law_829, x_Law_law_832, x_Law_law_835, x_Law_law_836, mk_I, mk_J, mk_n, Option.toList_some, List.cons_append, List.nil_append, true_and, law_n1, law_n2, law_n3, law_n4, law_n5, o 1 (by omega), o 2 (by omega), o 3 (by omega), o 4 (by omega), o 5 (by omega), q 1 (by omega), q 2 (by omega), q 3 (by omega), q 4 (by omega), q 5 (by omega), a 1 (by omega), a 2 (by omega), a 3 (by omega), a 4 (by omega), a 5 (by omega), b 1 (by omega), b 2 (by omega), b 3 (by omega), b 4 (by omega), b 5 (by omega), mx_call h1 (show 300 ≤ 500 by decide), mx_call h2 (show 300 ≤ 500 by decide), law_cmp, if_true]
  exact cont I2 J2 h4
theorem law_23 {L i : Nat} {xs : Nat → Int32} {I : mx_I} {J : mx_J} {P : mx_P} (hL : L ≤ 3072) (hi : i + 6 ≤ L) (hI : Inv L xs I) (cont : ∀ I2 J2, Inv L xs I2 → mx_R k_Law_law (mx_Cal mx_tab 500) 1309 [some (.ref 1004), some (.ref 0), some (.ref 94), some (.int (nI i))] [] (mk I2 J2) P) : mx_R k_Law_law (mx_Cal mx_tab 500) 837 [some (.ref 1004), some (.ref 0), some (.ref 94), some (.int (nI i))] [] (mk I J) P := by
  obtain ⟨v, I1, I2, J1, J2, h1, h2, h3, h4⟩ := op_drops hI (xs (i + 1)) J
  have o := law_ok (i := i) (J := J) hL hi hI.2.2.2.2.2
  have q := law_ok (i := i) (J := J1) hL hi h3
  have a := law_at (i := i) hL hi hI.2.2.2.2.2
  have b := law_at (i := i) hL hi h3
  simp only [x_Law_law_837, x_Law_law_838, x_Law_law_839, x_Law_law_840, x_Law_law_841, x_Law_law_842, x_Law_law_843, x_Law_law_846, x_Law_law_847, x_Law_law_848, x_Law_law_849, x_Law_law_850, x_Law_law_851, x_Law_law_852, x_Law_law_855, x_Law_law_858, x_Law_law_859, mk_I, mk_J, mk_n, Option.toList_some, List.cons_append, List.nil_append, true_and, law_n1, law_n2, law_n3, law_n4, law_n5, o 1 (by omega), o 2 (by omega), o 3 (by omega), o 4 (by omega), o 5 (by omega), q 1 (by omega), q 2 (by omega), q 3 (by omega), q 4 (by omega), q 5 (by omega), a 1 (by omega), a 2 (by omega), a 3 (by omega), a 4 (by omega), a 5 (by omega), b 1 (by omega), b 2 (by omega), b 3 (by omega), b 4 (by omega), b 5 (by omega), mx_call h1 (show 300 ≤ 500 by decide), mx_call h2 (show 300 ≤ 500 by decide), law_cmp, if_true]
  exact cont I2 J2 h4
theorem law_24 {L i : Nat} {xs : Nat → Int32} {I : mx_I} {J : mx_J} {P : mx_P} (hL : L ≤ 3072) (hi : i + 6 ≤ L) (hI : Inv L xs I) (cont : ∀ I2 J2, Inv L xs I2 → mx_R k_Law_law (mx_Cal mx_tab 500) 1309 [some (.ref 1004), some (.ref 0), some (.ref 94), some (.int (nI i))] [] (mk I2 J2) P) : mx_R k_Law_law (mx_Cal mx_tab 500) 860 [some (.ref 1004), some (.ref 0), some (.ref 94), some (.int (nI i))] [] (mk I J) P := by
  obtain ⟨v, I1, I2, J1, J2, h1, h2, h3, h4⟩ := op_row hI (xs (i + 1)) J
  have o := law_ok (i := i) (J := J) hL hi hI.2.2.2.2.2
  have q := law_ok (i := i) (J := J1) hL hi h3
  have a := law_at (i := i) hL hi hI.2.2.2.2.2
  have b := law_at (i := i) hL hi h3
  simp only [x_Law_law_860, x_Law_law_861, x_Law_law_862, x_Law_law_863, x_Law_law_864, x_Law_law_865, x_Law_law_866, x_Law_law_869, x_Law_law_870, x_Law_law_871, x_Law_law_872, x_Law_law_873, x_Law_law_874, x_Law_law_875, x_Law_law_878, x_Law_law_881, x_Law_law_882, mk_I, mk_J, mk_n, Option.toList_some, List.cons_append, List.nil_append, true_and, law_n1, law_n2, law_n3, law_n4, law_n5, o 1 (by omega), o 2 (by omega), o 3 (by omega), o 4 (by omega), o 5 (by omega), q 1 (by omega), q 2 (by omega), q 3 (by omega), q 4 (by omega), q 5 (by omega), a 1 (by omega), a 2 (by omega), a 3 (by omega), a 4 (by omega), a 5 (by omega), b 1 (by omega), b 2 (by omega), b 3 (by omega), b 4 (by omega), b 5 (by omega), mx_call h1 (show 300 ≤ 500 by decide), mx_call h2 (show 300 ≤ 500 by decide), law_cmp, if_true]
  exact cont I2 J2 h4
theorem law_25 {L i : Nat} {xs : Nat → Int32} {I : mx_I} {J : mx_J} {P : mx_P} (hL : L ≤ 3072) (hi : i + 6 ≤ L) (hI : Inv L xs I) (cont : ∀ I2 J2, Inv L xs I2 → mx_R k_Law_law (mx_Cal mx_tab 500) 1309 [some (.ref 1004), some (.ref 0), some (.ref 94), some (.int (nI i))] [] (mk I2 J2) P) : mx_R k_Law_law (mx_Cal mx_tab 500) 883 [some (.ref 1004), some (.ref 0), some (.ref 94), some (.int (nI i))] [] (mk I J) P := by
  obtain ⟨v, I1, I2, J1, J2, h1, h2, h3, h4⟩ := op_odds hI (xs (i + 1)) J
  have o := law_ok (i := i) (J := J) hL hi hI.2.2.2.2.2
  have q := law_ok (i := i) (J := J1) hL hi h3
  have a := law_at (i := i) hL hi hI.2.2.2.2.2
  have b := law_at (i := i) hL hi h3
  simp only [x_Law_law_883, x_Law_law_884, x_Law_law_885, x_Law_law_886, x_Law_law_887, x_Law_law_888, x_Law_law_889, x_Law_law_892, x_Law_law_893, x_Law_law_894, x_Law_law_895, x_Law_law_896, x_Law_law_897, x_Law_law_898, x_Law_law_901, x_Law_law_902, x_Law_law_905, x_Law_law_906, mk_I, mk_J, mk_n, Option.toList_some, List.cons_append, List.nil_append, true_and, law_n1, law_n2, law_n3, law_n4, law_n5, o 1 (by omega), o 2 (by omega), o 3 (by omega), o 4 (by omega), o 5 (by omega), q 1 (by omega), q 2 (by omega), q 3 (by omega), q 4 (by omega), q 5 (by omega), a 1 (by omega), a 2 (by omega), a 3 (by omega), a 4 (by omega), a 5 (by omega), b 1 (by omega), b 2 (by omega), b 3 (by omega), b 4 (by omega), b 5 (by omega), mx_call h1 (show 300 ≤ 500 by decide), mx_call h2 (show 300 ≤ 500 by decide), law_cmp, if_true]
  exact cont I2 J2 h4
theorem law_26 {L i : Nat} {xs : Nat → Int32} {I : mx_I} {J : mx_J} {P : mx_P} (hL : L ≤ 3072) (hi : i + 6 ≤ L) (hI : Inv L xs I) (cont : ∀ I2 J2, Inv L xs I2 → mx_R k_Law_law (mx_Cal mx_tab 500) 1309 [some (.ref 1004), some (.ref 0), some (.ref 94), some (.int (nI i))] [] (mk I2 J2) P) : mx_R k_Law_law (mx_Cal mx_tab 500) 907 [some (.ref 1004), some (.ref 0), some (.ref 94), some (.int (nI i))] [] (mk I J) P := by
  obtain ⟨v, I1, I2, J1, J2, h1, h2, h3, h4⟩ := op_sums hI (xs (i + 1)) (xs (i + 2)) J
  have o := law_ok (i := i) (J := J) hL hi hI.2.2.2.2.2
  have q := law_ok (i := i) (J := J1) hL hi h3
  have a := law_at (i := i) hL hi hI.2.2.2.2.2
  have b := law_at (i := i) hL hi h3
  simp only [x_Law_law_907, x_Law_law_908, x_Law_law_909, x_Law_law_910, x_Law_law_911, x_Law_law_912, x_Law_law_913, x_Law_law_914, x_Law_law_915, x_Law_law_916, x_Law_law_917, x_Law_law_918, x_Law_law_921, x_Law_law_922, x_Law_law_923, x_Law_law_924, x_Law_law_925, x_Law_law_926, x_Law_law_927, x_Law_law_928, x_Law_law_929, x_Law_law_930, x_Law_law_931, x_Law_law_932, x_Law_law_935, x_Law_law_938, x_Law_law_939, mk_I, mk_J, mk_n, Option.toList_some, List.cons_append, List.nil_append, true_and, law_n1, law_n2, law_n3, law_n4, law_n5, o 1 (by omega), o 2 (by omega), o 3 (by omega), o 4 (by omega), o 5 (by omega), q 1 (by omega), q 2 (by omega), q 3 (by omega), q 4 (by omega), q 5 (by omega), a 1 (by omega), a 2 (by omega), a 3 (by omega), a 4 (by omega), a 5 (by omega), b 1 (by omega), b 2 (by omega), b 3 (by omega), b 4 (by omega), b 5 (by omega), mx_call h1 (show 300 ≤ 500 by decide), mx_call h2 (show 300 ≤ 500 by decide), law_cmp, if_true]
  exact cont I2 J2 h4
theorem law_27 {L i : Nat} {xs : Nat → Int32} {I : mx_I} {J : mx_J} {P : mx_P} (hL : L ≤ 3072) (hi : i + 6 ≤ L) (hI : Inv L xs I) (cont : ∀ I2 J2, Inv L xs I2 → mx_R k_Law_law (mx_Cal mx_tab 500) 1309 [some (.ref 1004), some (.ref 0), some (.ref 94), some (.int (nI i))] [] (mk I2 J2) P) : mx_R k_Law_law (mx_Cal mx_tab 500) 940 [some (.ref 1004), some (.ref 0), some (.ref 94), some (.int (nI i))] [] (mk I J) P := by
  obtain ⟨v, I1, I2, J1, J2, h1, h2, h3, h4⟩ := op_voice hI (xs (i + 1)) (xs (i + 2)) (xs (i + 3)) J
  have o := law_ok (i := i) (J := J) hL hi hI.2.2.2.2.2
  have q := law_ok (i := i) (J := J1) hL hi h3
  have a := law_at (i := i) hL hi hI.2.2.2.2.2
  have b := law_at (i := i) hL hi h3
  simp only [x_Law_law_940, x_Law_law_941, x_Law_law_942, x_Law_law_943, x_Law_law_944, x_Law_law_945, x_Law_law_946, x_Law_law_947, x_Law_law_948, x_Law_law_949, x_Law_law_950, x_Law_law_951, x_Law_law_952, x_Law_law_953, x_Law_law_954, x_Law_law_955, x_Law_law_956, x_Law_law_959, x_Law_law_960, x_Law_law_961, x_Law_law_962, x_Law_law_963, x_Law_law_964, x_Law_law_965, x_Law_law_966, x_Law_law_967, x_Law_law_968, x_Law_law_969, x_Law_law_970, x_Law_law_971, x_Law_law_972, x_Law_law_973, x_Law_law_974, x_Law_law_975, x_Law_law_978, x_Law_law_981, x_Law_law_982, mk_I, mk_J, mk_n, Option.toList_some, List.cons_append, List.nil_append, true_and, law_n1, law_n2, law_n3, law_n4, law_n5, o 1 (by omega), o 2 (by omega), o 3 (by omega), o 4 (by omega), o 5 (by omega), q 1 (by omega), q 2 (by omega), q 3 (by omega), q 4 (by omega), q 5 (by omega), a 1 (by omega), a 2 (by omega), a 3 (by omega), a 4 (by omega), a 5 (by omega), b 1 (by omega), b 2 (by omega), b 3 (by omega), b 4 (by omega), b 5 (by omega), mx_call h1 (show 300 ≤ 500 by decide), mx_call h2 (show 300 ≤ 500 by decide), law_cmp, if_true]
  exact cont I2 J2 h4
theorem law_28 {L i : Nat} {xs : Nat → Int32} {I : mx_I} {J : mx_J} {P : mx_P} (hL : L ≤ 3072) (hi : i + 6 ≤ L) (hI : Inv L xs I) (cont : ∀ I2 J2, Inv L xs I2 → mx_R k_Law_law (mx_Cal mx_tab 500) 1309 [some (.ref 1004), some (.ref 0), some (.ref 94), some (.int (nI i))] [] (mk I2 J2) P) : mx_R k_Law_law (mx_Cal mx_tab 500) 983 [some (.ref 1004), some (.ref 0), some (.ref 94), some (.int (nI i))] [] (mk I J) P := by
  obtain ⟨v, I1, I2, J1, J2, h1, h2, h3, h4⟩ := op_body hI (xs (i + 1)) J
  have o := law_ok (i := i) (J := J) hL hi hI.2.2.2.2.2
  have q := law_ok (i := i) (J := J1) hL hi h3
  have a := law_at (i := i) hL hi hI.2.2.2.2.2
  have b := law_at (i := i) hL hi h3
  simp only [x_Law_law_983, x_Law_law_984, x_Law_law_985, x_Law_law_986, x_Law_law_987, x_Law_law_988, x_Law_law_989, x_Law_law_992, x_Law_law_993, x_Law_law_994, x_Law_law_995, x_Law_law_996, x_Law_law_997, x_Law_law_998, x_Law_law_1001, x_Law_law_1004, x_Law_law_1005, mk_I, mk_J, mk_n, Option.toList_some, List.cons_append, List.nil_append, true_and, law_n1, law_n2, law_n3, law_n4, law_n5, o 1 (by omega), o 2 (by omega), o 3 (by omega), o 4 (by omega), o 5 (by omega), q 1 (by omega), q 2 (by omega), q 3 (by omega), q 4 (by omega), q 5 (by omega), a 1 (by omega), a 2 (by omega), a 3 (by omega), a 4 (by omega), a 5 (by omega), b 1 (by omega), b 2 (by omega), b 3 (by omega), b 4 (by omega), b 5 (by omega), mx_call h1 (show 300 ≤ 500 by decide), mx_call h2 (show 300 ≤ 500 by decide), law_cmp, if_true]
  exact cont I2 J2 h4
theorem law_29 {L i : Nat} {xs : Nat → Int32} {I : mx_I} {J : mx_J} {P : mx_P} (hL : L ≤ 3072) (hi : i + 6 ≤ L) (hI : Inv L xs I) (cont : ∀ I2 J2, Inv L xs I2 → mx_R k_Law_law (mx_Cal mx_tab 500) 1309 [some (.ref 1004), some (.ref 0), some (.ref 94), some (.int (nI i))] [] (mk I2 J2) P) : mx_R k_Law_law (mx_Cal mx_tab 500) 1006 [some (.ref 1004), some (.ref 0), some (.ref 94), some (.int (nI i))] [] (mk I J) P := by
  obtain ⟨v, I1, I2, J1, J2, h1, h2, h3, h4⟩ := op_sheet hI (xs (i + 1)) (xs (i + 2)) (xs (i + 3)) J
  have o := law_ok (i := i) (J := J) hL hi hI.2.2.2.2.2
  have q := law_ok (i := i) (J := J1) hL hi h3
  have a := law_at (i := i) hL hi hI.2.2.2.2.2
  have b := law_at (i := i) hL hi h3
  simp only [x_Law_law_1006, x_Law_law_1007, x_Law_law_1008, x_Law_law_1009, x_Law_law_1010, x_Law_law_1011, x_Law_law_1012, x_Law_law_1013, x_Law_law_1014, x_Law_law_1015, x_Law_law_1016, x_Law_law_1017, x_Law_law_1018, x_Law_law_1019, x_Law_law_1020, x_Law_law_1021, x_Law_law_1022, x_Law_law_1025, x_Law_law_1026, x_Law_law_1027, x_Law_law_1028, x_Law_law_1029, x_Law_law_1030, x_Law_law_1031, x_Law_law_1032, x_Law_law_1033, x_Law_law_1034, x_Law_law_1035, x_Law_law_1036, x_Law_law_1037, x_Law_law_1038, x_Law_law_1039, x_Law_law_1040, x_Law_law_1041, x_Law_law_1044, x_Law_law_1047, x_Law_law_1048, mk_I, mk_J, mk_n, Option.toList_some, List.cons_append, List.nil_append, true_and, law_n1, law_n2, law_n3, law_n4, law_n5, o 1 (by omega), o 2 (by omega), o 3 (by omega), o 4 (by omega), o 5 (by omega), q 1 (by omega), q 2 (by omega), q 3 (by omega), q 4 (by omega), q 5 (by omega), a 1 (by omega), a 2 (by omega), a 3 (by omega), a 4 (by omega), a 5 (by omega), b 1 (by omega), b 2 (by omega), b 3 (by omega), b 4 (by omega), b 5 (by omega), mx_call h1 (show 300 ≤ 500 by decide), mx_call h2 (show 300 ≤ 500 by decide), law_cmp, if_true]
  exact cont I2 J2 h4
theorem law_30 {L i : Nat} {xs : Nat → Int32} {I : mx_I} {J : mx_J} {P : mx_P} (hL : L ≤ 3072) (hi : i + 6 ≤ L) (hI : Inv L xs I) (cont : ∀ I2 J2, Inv L xs I2 → mx_R k_Law_law (mx_Cal mx_tab 500) 1309 [some (.ref 1004), some (.ref 0), some (.ref 94), some (.int (nI i))] [] (mk I2 J2) P) : mx_R k_Law_law (mx_Cal mx_tab 500) 1049 [some (.ref 1004), some (.ref 0), some (.ref 94), some (.int (nI i))] [] (mk I J) P := by
  obtain ⟨v, I1, I2, J1, J2, h1, h2, h3, h4⟩ := op_put hI (xs (i + 1)) (xs (i + 2)) (xs (i + 3)) J
  have o := law_ok (i := i) (J := J) hL hi hI.2.2.2.2.2
  have q := law_ok (i := i) (J := J1) hL hi h3
  have a := law_at (i := i) hL hi hI.2.2.2.2.2
  have b := law_at (i := i) hL hi h3
  simp only [x_Law_law_1049, x_Law_law_1050, x_Law_law_1051, x_Law_law_1052, x_Law_law_1053, x_Law_law_1054, x_Law_law_1055, x_Law_law_1056, x_Law_law_1057, x_Law_law_1058, x_Law_law_1059, x_Law_law_1060, x_Law_law_1061, x_Law_law_1062, x_Law_law_1063, x_Law_law_1064, x_Law_law_1065, x_Law_law_1068, x_Law_law_1069, x_Law_law_1070, x_Law_law_1071, x_Law_law_1072, x_Law_law_1073, x_Law_law_1074, x_Law_law_1075, x_Law_law_1076, x_Law_law_1077, x_Law_law_1078, x_Law_law_1079, x_Law_law_1080, x_Law_law_1081, x_Law_law_1082, x_Law_law_1083, x_Law_law_1084, x_Law_law_1087, x_Law_law_1090, x_Law_law_1091, mk_I, mk_J, mk_n, Option.toList_some, List.cons_append, List.nil_append, true_and, law_n1, law_n2, law_n3, law_n4, law_n5, o 1 (by omega), o 2 (by omega), o 3 (by omega), o 4 (by omega), o 5 (by omega), q 1 (by omega), q 2 (by omega), q 3 (by omega), q 4 (by omega), q 5 (by omega), a 1 (by omega), a 2 (by omega), a 3 (by omega), a 4 (by omega), a 5 (by omega), b 1 (by omega), b 2 (by omega), b 3 (by omega), b 4 (by omega), b 5 (by omega), mx_call h1 (show 300 ≤ 500 by decide), mx_call h2 (show 300 ≤ 500 by decide), law_cmp, if_true]
  exact cont I2 J2 h4
theorem law_31 {L i : Nat} {xs : Nat → Int32} {I : mx_I} {J : mx_J} {P : mx_P} (hL : L ≤ 3072) (hi : i + 6 ≤ L) (hI : Inv L xs I) (cont : ∀ I2 J2, Inv L xs I2 → mx_R k_Law_law (mx_Cal mx_tab 500) 1309 [some (.ref 1004), some (.ref 0), some (.ref 94), some (.int (nI i))] [] (mk I2 J2) P) : mx_R k_Law_law (mx_Cal mx_tab 500) 1092 [some (.ref 1004), some (.ref 0), some (.ref 94), some (.int (nI i))] [] (mk I J) P := by
  obtain ⟨v, I1, I2, J1, J2, h1, h2, h3, h4⟩ := op_move hI (xs (i + 1)) (xs (i + 2)) (xs (i + 3)) (xs (i + 4)) (xs (i + 5)) J
  have o := law_ok (i := i) (J := J) hL hi hI.2.2.2.2.2
  have q := law_ok (i := i) (J := J1) hL hi h3
  have a := law_at (i := i) hL hi hI.2.2.2.2.2
  have b := law_at (i := i) hL hi h3
  simp only [x_Law_law_1092, x_Law_law_1093, x_Law_law_1094, x_Law_law_1095, x_Law_law_1096, x_Law_law_1097, x_Law_law_1098, x_Law_law_1099, x_Law_law_1100, x_Law_law_1101, x_Law_law_1102, x_Law_law_1103, x_Law_law_1104, x_Law_law_1105, x_Law_law_1106, x_Law_law_1107, x_Law_law_1108, x_Law_law_1109, x_Law_law_1110, x_Law_law_1111, x_Law_law_1112, x_Law_law_1113, x_Law_law_1114, x_Law_law_1115, x_Law_law_1116, x_Law_law_1117, x_Law_law_1118, x_Law_law_1121, x_Law_law_1122, x_Law_law_1123, x_Law_law_1124, x_Law_law_1125, x_Law_law_1126, x_Law_law_1127, x_Law_law_1128, x_Law_law_1129, x_Law_law_1130, x_Law_law_1131, x_Law_law_1132, x_Law_law_1133, x_Law_law_1134, x_Law_law_1135, x_Law_law_1136, x_Law_law_1137, x_Law_law_1138, x_Law_law_1139, x_Law_law_1140, x_Law_law_1141, x_Law_law_1142, x_Law_law_1143, x_Law_law_1144, x_Law_law_1145, x_Law_law_1146, x_Law_law_1147, x_Law_law_1150, x_Law_law_1153, x_Law_law_1154, mk_I, mk_J, mk_n, Option.toList_some, List.cons_append, List.nil_append, true_and, law_n1, law_n2, law_n3, law_n4, law_n5, o 1 (by omega), o 2 (by omega), o 3 (by omega), o 4 (by omega), o 5 (by omega), q 1 (by omega), q 2 (by omega), q 3 (by omega), q 4 (by omega), q 5 (by omega), a 1 (by omega), a 2 (by omega), a 3 (by omega), a 4 (by omega), a 5 (by omega), b 1 (by omega), b 2 (by omega), b 3 (by omega), b 4 (by omega), b 5 (by omega), mx_call h1 (show 300 ≤ 500 by decide), mx_call h2 (show 300 ≤ 500 by decide), law_cmp, if_true]
  exact cont I2 J2 h4
theorem law_32 {L i : Nat} {xs : Nat → Int32} {I : mx_I} {J : mx_J} {P : mx_P} (hL : L ≤ 3072) (hi : i + 6 ≤ L) (hI : Inv L xs I) (cont : ∀ I2 J2, Inv L xs I2 → mx_R k_Law_law (mx_Cal mx_tab 500) 1309 [some (.ref 1004), some (.ref 0), some (.ref 94), some (.int (nI i))] [] (mk I2 J2) P) : mx_R k_Law_law (mx_Cal mx_tab 500) 1155 [some (.ref 1004), some (.ref 0), some (.ref 94), some (.int (nI i))] [] (mk I J) P := by
  obtain ⟨v, I1, I2, J1, J2, h1, h2, h3, h4⟩ := op_truths hI (xs (i + 1)) J
  have o := law_ok (i := i) (J := J) hL hi hI.2.2.2.2.2
  have q := law_ok (i := i) (J := J1) hL hi h3
  have a := law_at (i := i) hL hi hI.2.2.2.2.2
  have b := law_at (i := i) hL hi h3
  simp only [x_Law_law_1155, x_Law_law_1156, x_Law_law_1157, x_Law_law_1158, x_Law_law_1159, x_Law_law_1160, x_Law_law_1161, x_Law_law_1164, x_Law_law_1165, x_Law_law_1166, x_Law_law_1167, x_Law_law_1168, x_Law_law_1169, x_Law_law_1170, x_Law_law_1173, x_Law_law_1176, x_Law_law_1177, mk_I, mk_J, mk_n, Option.toList_some, List.cons_append, List.nil_append, true_and, law_n1, law_n2, law_n3, law_n4, law_n5, o 1 (by omega), o 2 (by omega), o 3 (by omega), o 4 (by omega), o 5 (by omega), q 1 (by omega), q 2 (by omega), q 3 (by omega), q 4 (by omega), q 5 (by omega), a 1 (by omega), a 2 (by omega), a 3 (by omega), a 4 (by omega), a 5 (by omega), b 1 (by omega), b 2 (by omega), b 3 (by omega), b 4 (by omega), b 5 (by omega), mx_call h1 (show 300 ≤ 500 by decide), mx_call h2 (show 300 ≤ 500 by decide), law_cmp, if_true]
  exact cont I2 J2 h4
theorem law_33 {L i : Nat} {xs : Nat → Int32} {I : mx_I} {J : mx_J} {P : mx_P} (hL : L ≤ 3072) (hi : i + 6 ≤ L) (hI : Inv L xs I) (cont : ∀ I2 J2, Inv L xs I2 → mx_R k_Law_law (mx_Cal mx_tab 500) 1309 [some (.ref 1004), some (.ref 0), some (.ref 94), some (.int (nI i))] [] (mk I2 J2) P) : mx_R k_Law_law (mx_Cal mx_tab 500) 1178 [some (.ref 1004), some (.ref 0), some (.ref 94), some (.int (nI i))] [] (mk I J) P := by
  obtain ⟨v, I1, I2, J1, J2, h1, h2, h3, h4⟩ := op_judge hI (xs (i + 1)) J
  have o := law_ok (i := i) (J := J) hL hi hI.2.2.2.2.2
  have q := law_ok (i := i) (J := J1) hL hi h3
  have a := law_at (i := i) hL hi hI.2.2.2.2.2
  have b := law_at (i := i) hL hi h3
  simp only [x_Law_law_1178, x_Law_law_1179, x_Law_law_1180, x_Law_law_1181, x_Law_law_1182, x_Law_law_1183, x_Law_law_1184, x_Law_law_1187, x_Law_law_1188, x_Law_law_1189, x_Law_law_1190, x_Law_law_1191, x_Law_law_1192, x_Law_law_1193, x_Law_law_1196, x_Law_law_1199, x_Law_law_1200, mk_I, mk_J, mk_n, Option.toList_some, List.cons_append, List.nil_append, true_and, law_n1, law_n2, law_n3, law_n4, law_n5, o 1 (by omega), o 2 (by omega), o 3 (by omega), o 4 (by omega), o 5 (by omega), q 1 (by omega), q 2 (by omega), q 3 (by omega), q 4 (by omega), q 5 (by omega), a 1 (by omega), a 2 (by omega), a 3 (by omega), a 4 (by omega), a 5 (by omega), b 1 (by omega), b 2 (by omega), b 3 (by omega), b 4 (by omega), b 5 (by omega), mx_call h1 (show 300 ≤ 500 by decide), mx_call h2 (show 300 ≤ 500 by decide), law_cmp, if_true]
  exact cont I2 J2 h4
theorem law_34 {L i : Nat} {xs : Nat → Int32} {I : mx_I} {J : mx_J} {P : mx_P} (hL : L ≤ 3072) (hi : i + 6 ≤ L) (hI : Inv L xs I) (cont : ∀ I2 J2, Inv L xs I2 → mx_R k_Law_law (mx_Cal mx_tab 500) 1309 [some (.ref 1004), some (.ref 0), some (.ref 94), some (.int (nI i))] [] (mk I2 J2) P) : mx_R k_Law_law (mx_Cal mx_tab 500) 1201 [some (.ref 1004), some (.ref 0), some (.ref 94), some (.int (nI i))] [] (mk I J) P := by
  obtain ⟨v, I1, I2, J1, J2, h1, h2, h3, h4⟩ := op_image hI  J
  have o := law_ok (i := i) (J := J) hL hi hI.2.2.2.2.2
  have q := law_ok (i := i) (J := J1) hL hi h3
  have a := law_at (i := i) hL hi hI.2.2.2.2.2
  have b := law_at (i := i) hL hi h3
  simp only [x_Law_law_1201, x_Law_law_1202, x_Law_law_1205, x_Law_law_1206, x_Law_law_1209, x_Law_law_1212, x_Law_law_1213, mk_I, mk_J, mk_n, Option.toList_some, List.cons_append, List.nil_append, true_and, law_n1, law_n2, law_n3, law_n4, law_n5, o 1 (by omega), o 2 (by omega), o 3 (by omega), o 4 (by omega), o 5 (by omega), q 1 (by omega), q 2 (by omega), q 3 (by omega), q 4 (by omega), q 5 (by omega), a 1 (by omega), a 2 (by omega), a 3 (by omega), a 4 (by omega), a 5 (by omega), b 1 (by omega), b 2 (by omega), b 3 (by omega), b 4 (by omega), b 5 (by omega), mx_call h1 (show 300 ≤ 500 by decide), mx_call h2 (show 300 ≤ 500 by decide), law_cmp, if_true]
  exact cont I2 J2 h4
theorem law_35 {L i : Nat} {xs : Nat → Int32} {I : mx_I} {J : mx_J} {P : mx_P} (hL : L ≤ 3072) (hi : i + 6 ≤ L) (hI : Inv L xs I) (cont : ∀ I2 J2, Inv L xs I2 → mx_R k_Law_law (mx_Cal mx_tab 500) 1309 [some (.ref 1004), some (.ref 0), some (.ref 94), some (.int (nI i))] [] (mk I2 J2) P) : mx_R k_Law_law (mx_Cal mx_tab 500) 1214 [some (.ref 1004), some (.ref 0), some (.ref 94), some (.int (nI i))] [] (mk I J) P := by
  obtain ⟨v, I1, I2, J1, J2, h1, h2, h3, h4⟩ := op_restore hI  J
  have o := law_ok (i := i) (J := J) hL hi hI.2.2.2.2.2
  have q := law_ok (i := i) (J := J1) hL hi h3
  have a := law_at (i := i) hL hi hI.2.2.2.2.2
  have b := law_at (i := i) hL hi h3
  simp only [x_Law_law_1214, x_Law_law_1215, x_Law_law_1218, x_Law_law_1219, x_Law_law_1222, x_Law_law_1225, x_Law_law_1226, mk_I, mk_J, mk_n, Option.toList_some, List.cons_append, List.nil_append, true_and, law_n1, law_n2, law_n3, law_n4, law_n5, o 1 (by omega), o 2 (by omega), o 3 (by omega), o 4 (by omega), o 5 (by omega), q 1 (by omega), q 2 (by omega), q 3 (by omega), q 4 (by omega), q 5 (by omega), a 1 (by omega), a 2 (by omega), a 3 (by omega), a 4 (by omega), a 5 (by omega), b 1 (by omega), b 2 (by omega), b 3 (by omega), b 4 (by omega), b 5 (by omega), mx_call h1 (show 300 ≤ 500 by decide), mx_call h2 (show 300 ≤ 500 by decide), law_cmp, if_true]
  exact cont I2 J2 h4
theorem law_36 {L i : Nat} {xs : Nat → Int32} {I : mx_I} {J : mx_J} {P : mx_P} (hL : L ≤ 3072) (hi : i + 6 ≤ L) (hI : Inv L xs I) (cont : ∀ I2 J2, Inv L xs I2 → mx_R k_Law_law (mx_Cal mx_tab 500) 1309 [some (.ref 1004), some (.ref 0), some (.ref 94), some (.int (nI i))] [] (mk I2 J2) P) : mx_R k_Law_law (mx_Cal mx_tab 500) 1227 [some (.ref 1004), some (.ref 0), some (.ref 94), some (.int (nI i))] [] (mk I J) P := by
  obtain ⟨v, I1, I2, J1, J2, h1, h2, h3, h4⟩ := op_tell hI (xs (i + 1)) J
  have o := law_ok (i := i) (J := J) hL hi hI.2.2.2.2.2
  have q := law_ok (i := i) (J := J1) hL hi h3
  have a := law_at (i := i) hL hi hI.2.2.2.2.2
  have b := law_at (i := i) hL hi h3
  simp only [x_Law_law_1227, x_Law_law_1228, x_Law_law_1229, x_Law_law_1230, x_Law_law_1231, x_Law_law_1232, x_Law_law_1233, x_Law_law_1236, x_Law_law_1237, x_Law_law_1238, x_Law_law_1239, x_Law_law_1240, x_Law_law_1241, x_Law_law_1242, x_Law_law_1245, x_Law_law_1248, x_Law_law_1249, mk_I, mk_J, mk_n, Option.toList_some, List.cons_append, List.nil_append, true_and, law_n1, law_n2, law_n3, law_n4, law_n5, o 1 (by omega), o 2 (by omega), o 3 (by omega), o 4 (by omega), o 5 (by omega), q 1 (by omega), q 2 (by omega), q 3 (by omega), q 4 (by omega), q 5 (by omega), a 1 (by omega), a 2 (by omega), a 3 (by omega), a 4 (by omega), a 5 (by omega), b 1 (by omega), b 2 (by omega), b 3 (by omega), b 4 (by omega), b 5 (by omega), mx_call h1 (show 300 ≤ 500 by decide), mx_call h2 (show 300 ≤ 500 by decide), law_cmp, if_true]
  exact cont I2 J2 h4
theorem law_37 {L i : Nat} {xs : Nat → Int32} {I : mx_I} {J : mx_J} {P : mx_P} (hL : L ≤ 3072) (hi : i + 6 ≤ L) (hI : Inv L xs I) (cont : ∀ I2 J2, Inv L xs I2 → mx_R k_Law_law (mx_Cal mx_tab 500) 1309 [some (.ref 1004), some (.ref 0), some (.ref 94), some (.int (nI i))] [] (mk I2 J2) P) : mx_R k_Law_law (mx_Cal mx_tab 500) 1250 [some (.ref 1004), some (.ref 0), some (.ref 94), some (.int (nI i))] [] (mk I J) P := by
  obtain ⟨v, I1, I2, J1, J2, h1, h2, h3, h4⟩ := op_check hI  J
  have o := law_ok (i := i) (J := J) hL hi hI.2.2.2.2.2
  have q := law_ok (i := i) (J := J1) hL hi h3
  have a := law_at (i := i) hL hi hI.2.2.2.2.2
  have b := law_at (i := i) hL hi h3
  simp only [x_Law_law_1250, x_Law_law_1251, x_Law_law_1254, x_Law_law_1255, x_Law_law_1258, x_Law_law_1261, x_Law_law_1262, mk_I, mk_J, mk_n, Option.toList_some, List.cons_append, List.nil_append, true_and, law_n1, law_n2, law_n3, law_n4, law_n5, o 1 (by omega), o 2 (by omega), o 3 (by omega), o 4 (by omega), o 5 (by omega), q 1 (by omega), q 2 (by omega), q 3 (by omega), q 4 (by omega), q 5 (by omega), a 1 (by omega), a 2 (by omega), a 3 (by omega), a 4 (by omega), a 5 (by omega), b 1 (by omega), b 2 (by omega), b 3 (by omega), b 4 (by omega), b 5 (by omega), mx_call h1 (show 300 ≤ 500 by decide), mx_call h2 (show 300 ≤ 500 by decide), law_cmp, if_true]
  exact cont I2 J2 h4
theorem law_38 {L i : Nat} {xs : Nat → Int32} {I : mx_I} {J : mx_J} {P : mx_P} (hL : L ≤ 3072) (hi : i + 6 ≤ L) (hI : Inv L xs I) (cont : ∀ I2 J2, Inv L xs I2 → mx_R k_Law_law (mx_Cal mx_tab 500) 1309 [some (.ref 1004), some (.ref 0), some (.ref 94), some (.int (nI i))] [] (mk I2 J2) P) : mx_R k_Law_law (mx_Cal mx_tab 500) 1263 [some (.ref 1004), some (.ref 0), some (.ref 94), some (.int (nI i))] [] (mk I J) P := by
  obtain ⟨v, I1, I2, J1, J2, h1, h2, h3, h4⟩ := op_count hI (xs (i + 1)) J
  have o := law_ok (i := i) (J := J) hL hi hI.2.2.2.2.2
  have q := law_ok (i := i) (J := J1) hL hi h3
  have a := law_at (i := i) hL hi hI.2.2.2.2.2
  have b := law_at (i := i) hL hi h3
  simp only [x_Law_law_1263, x_Law_law_1264, x_Law_law_1265, x_Law_law_1266, x_Law_law_1267, x_Law_law_1268, x_Law_law_1269, x_Law_law_1272, x_Law_law_1273, x_Law_law_1274, x_Law_law_1275, x_Law_law_1276, x_Law_law_1277, x_Law_law_1278, x_Law_law_1281, x_Law_law_1284, x_Law_law_1285, mk_I, mk_J, mk_n, Option.toList_some, List.cons_append, List.nil_append, true_and, law_n1, law_n2, law_n3, law_n4, law_n5, o 1 (by omega), o 2 (by omega), o 3 (by omega), o 4 (by omega), o 5 (by omega), q 1 (by omega), q 2 (by omega), q 3 (by omega), q 4 (by omega), q 5 (by omega), a 1 (by omega), a 2 (by omega), a 3 (by omega), a 4 (by omega), a 5 (by omega), b 1 (by omega), b 2 (by omega), b 3 (by omega), b 4 (by omega), b 5 (by omega), mx_call h1 (show 300 ≤ 500 by decide), mx_call h2 (show 300 ≤ 500 by decide), law_cmp, if_true]
  exact cont I2 J2 h4
theorem law_39 {L i : Nat} {xs : Nat → Int32} {I : mx_I} {J : mx_J} {P : mx_P} (hL : L ≤ 3072) (hi : i + 6 ≤ L) (hI : Inv L xs I) (cont : ∀ I2 J2, Inv L xs I2 → mx_R k_Law_law (mx_Cal mx_tab 500) 1309 [some (.ref 1004), some (.ref 0), some (.ref 94), some (.int (nI i))] [] (mk I2 J2) P) : mx_R k_Law_law (mx_Cal mx_tab 500) 1286 [some (.ref 1004), some (.ref 0), some (.ref 94), some (.int (nI i))] [] (mk I J) P := by
  obtain ⟨v, I1, I2, J1, J2, h1, h2, h3, h4⟩ := op_told hI (xs (i + 1)) J
  have o := law_ok (i := i) (J := J) hL hi hI.2.2.2.2.2
  have q := law_ok (i := i) (J := J1) hL hi h3
  have a := law_at (i := i) hL hi hI.2.2.2.2.2
  have b := law_at (i := i) hL hi h3
  simp only [x_Law_law_1286, x_Law_law_1287, x_Law_law_1288, x_Law_law_1289, x_Law_law_1290, x_Law_law_1291, x_Law_law_1292, x_Law_law_1295, x_Law_law_1296, x_Law_law_1297, x_Law_law_1298, x_Law_law_1299, x_Law_law_1300, x_Law_law_1301, x_Law_law_1304, x_Law_law_1307, x_Law_law_1308, mk_I, mk_J, mk_n, Option.toList_some, List.cons_append, List.nil_append, true_and, law_n1, law_n2, law_n3, law_n4, law_n5, o 1 (by omega), o 2 (by omega), o 3 (by omega), o 4 (by omega), o 5 (by omega), q 1 (by omega), q 2 (by omega), q 3 (by omega), q 4 (by omega), q 5 (by omega), a 1 (by omega), a 2 (by omega), a 3 (by omega), a 4 (by omega), a 5 (by omega), b 1 (by omega), b 2 (by omega), b 3 (by omega), b 4 (by omega), b 5 (by omega), mx_call h1 (show 300 ≤ 500 by decide), mx_call h2 (show 300 ≤ 500 by decide), law_cmp, if_true]
  exact cont I2 J2 h4
def lawP : mx_P := fun v h => v = some (.int 1) ∧ h.2.2.2 ≤ 110
theorem law_exit {L i : Nat} {xs : Nat → Int32} {I : mx_I} {J : mx_J} (hL : L ≤ 3072) (h1 : L < i + 6) (h2 : i ≤ L + 6) (hs : StatR L xs I) : mx_R k_Law_law (mx_Cal mx_tab 500) 18 [some (.ref 1004), some (.ref 0), some (.ref 94), some (.int (nI i))] [] (mk I J) lawP := by
  have e : nI L - 6 < nI i := by
    rw [Int32.lt_iff_toInt_lt, show (6 : Int32) = nI 6 from rfl, pk_sub_toInt (by omega) (by omega), nI_toInt (by omega)]
    omega
  simp only [x_Law_law_18, x_Law_law_19, x_Law_law_20, x_Law_law_21, x_Law_law_23, x_Law_law_24, x_Law_law_1315, x_Law_law_1316, law_len hL hs, show (mx_isarr 1004 (mk I J) = true) = True from eq_true rfl, true_and]
  rw [if_pos e]
  exact ⟨Or.inr trivial, rfl, Nat.le_refl _⟩
theorem law_loop {L : Nat} {xs : Nat → Int32} (hL : L ≤ 3072) : ∀ (k i : Nat) (I : mx_I) (J : mx_J), L < i + 6 * k + 6 → i ≤ L + 6 → Inv L xs I → mx_R k_Law_law (mx_Cal mx_tab 500) 18 [some (.ref 1004), some (.ref 0), some (.ref 94), some (.int (nI i))] [] (mk I J) lawP
  | 0, i, I, J, h1, h2, hI => law_exit hL (by omega) h2 hI.2.2.2.2.2
  | k + 1, i, I, J, h1, h2, hI => by
    by_cases hx : L < i + 6
    · exact law_exit hL hx h2 hI.2.2.2.2.2
    have hi : i + 6 ≤ L := by omega
    have cont : ∀ I2 J2, Inv L xs I2 → mx_R k_Law_law (mx_Cal mx_tab 500) 1309 [some (.ref 1004), some (.ref 0), some (.ref 94), some (.int (nI i))] [] (mk I2 J2) lawP := by
      intro I2 J2 h
      rw [x_Law_law_1309, x_Law_law_1312, law_n6]
      exact law_loop hL k (i + 6) I2 J2 (by omega) (by omega) h
    have e : ¬ nI L - 6 < nI i := by
      rw [Int32.lt_iff_toInt_lt, show (6 : Int32) = nI 6 from rfl, pk_sub_toInt (by omega) (by omega), nI_toInt (by omega)]
      omega
    have o := law_ok (i := i) (J := J) hL hi hI.2.2.2.2.2 0 (by omega)
    rw [Nat.add_zero] at o
    simp only [x_Law_law_18, x_Law_law_19, x_Law_law_20, x_Law_law_21, x_Law_law_23, x_Law_law_24, law_len hL hI.2.2.2.2.2, show (mx_isarr 1004 (mk I J) = true) = True from eq_true rfl, true_and]
    rw [if_neg e]
    simp only [x_Law_law_27, x_Law_law_28, x_Law_law_29, x_Law_law_30, x_Law_law_32, o, true_and]
    rw [x_Law_law_33]
    simp only [mk_I]
    by_cases hz : I 1004 (nI i).toNatClampNeg &&& 63 = 0
    · rw [if_pos hz]; exact law_0 hL hi hI cont
    rw [if_neg hz]; clear hz
    by_cases hz : I 1004 (nI i).toNatClampNeg &&& 63 = 1
    · rw [if_pos hz]; exact law_1 hL hi hI cont
    rw [if_neg hz]; clear hz
    by_cases hz : I 1004 (nI i).toNatClampNeg &&& 63 = 2
    · rw [if_pos hz]; exact law_2 hL hi hI cont
    rw [if_neg hz]; clear hz
    by_cases hz : I 1004 (nI i).toNatClampNeg &&& 63 = 3
    · rw [if_pos hz]; exact law_3 hL hi hI cont
    rw [if_neg hz]; clear hz
    by_cases hz : I 1004 (nI i).toNatClampNeg &&& 63 = 4
    · rw [if_pos hz]; exact law_4 hL hi hI cont
    rw [if_neg hz]; clear hz
    by_cases hz : I 1004 (nI i).toNatClampNeg &&& 63 = 5
    · rw [if_pos hz]; exact law_5 hL hi hI cont
    rw [if_neg hz]; clear hz
    by_cases hz : I 1004 (nI i).toNatClampNeg &&& 63 = 6
    · rw [if_pos hz]; exact law_6 hL hi hI cont
    rw [if_neg hz]; clear hz
    by_cases hz : I 1004 (nI i).toNatClampNeg &&& 63 = 7
    · rw [if_pos hz]; exact law_7 hL hi hI cont
    rw [if_neg hz]; clear hz
    by_cases hz : I 1004 (nI i).toNatClampNeg &&& 63 = 8
    · rw [if_pos hz]; exact law_8 hL hi hI cont
    rw [if_neg hz]; clear hz
    by_cases hz : I 1004 (nI i).toNatClampNeg &&& 63 = 9
    · rw [if_pos hz]; exact law_9 hL hi hI cont
    rw [if_neg hz]; clear hz
    by_cases hz : I 1004 (nI i).toNatClampNeg &&& 63 = 10
    · rw [if_pos hz]; exact law_10 hL hi hI cont
    rw [if_neg hz]; clear hz
    by_cases hz : I 1004 (nI i).toNatClampNeg &&& 63 = 11
    · rw [if_pos hz]; exact law_11 hL hi hI cont
    rw [if_neg hz]; clear hz
    by_cases hz : I 1004 (nI i).toNatClampNeg &&& 63 = 12
    · rw [if_pos hz]; exact law_12 hL hi hI cont
    rw [if_neg hz]; clear hz
    by_cases hz : I 1004 (nI i).toNatClampNeg &&& 63 = 13
    · rw [if_pos hz]; exact law_13 hL hi hI cont
    rw [if_neg hz]; clear hz
    by_cases hz : I 1004 (nI i).toNatClampNeg &&& 63 = 14
    · rw [if_pos hz]; exact law_14 hL hi hI cont
    rw [if_neg hz]; clear hz
    by_cases hz : I 1004 (nI i).toNatClampNeg &&& 63 = 15
    · rw [if_pos hz]; exact law_15 hL hi hI cont
    rw [if_neg hz]; clear hz
    by_cases hz : I 1004 (nI i).toNatClampNeg &&& 63 = 16
    · rw [if_pos hz]; exact law_16 hL hi hI cont
    rw [if_neg hz]; clear hz
    by_cases hz : I 1004 (nI i).toNatClampNeg &&& 63 = 17
    · rw [if_pos hz]; exact law_17 hL hi hI cont
    rw [if_neg hz]; clear hz
    by_cases hz : I 1004 (nI i).toNatClampNeg &&& 63 = 18
    · rw [if_pos hz]; exact law_18 hL hi hI cont
    rw [if_neg hz]; clear hz
    by_cases hz : I 1004 (nI i).toNatClampNeg &&& 63 = 19
    · rw [if_pos hz]; exact law_19 hL hi hI cont
    rw [if_neg hz]; clear hz
    by_cases hz : I 1004 (nI i).toNatClampNeg &&& 63 = 20
    · rw [if_pos hz]; exact law_20 hL hi hI cont
    rw [if_neg hz]; clear hz
    by_cases hz : I 1004 (nI i).toNatClampNeg &&& 63 = 21
    · rw [if_pos hz]; exact law_21 hL hi hI cont
    rw [if_neg hz]; clear hz
    by_cases hz : I 1004 (nI i).toNatClampNeg &&& 63 = 22
    · rw [if_pos hz]; exact law_22 hL hi hI cont
    rw [if_neg hz]; clear hz
    by_cases hz : I 1004 (nI i).toNatClampNeg &&& 63 = 23
    · rw [if_pos hz]; exact law_23 hL hi hI cont
    rw [if_neg hz]; clear hz
    by_cases hz : I 1004 (nI i).toNatClampNeg &&& 63 = 24
    · rw [if_pos hz]; exact law_24 hL hi hI cont
    rw [if_neg hz]; clear hz
    by_cases hz : I 1004 (nI i).toNatClampNeg &&& 63 = 25
    · rw [if_pos hz]; exact law_25 hL hi hI cont
    rw [if_neg hz]; clear hz
    by_cases hz : I 1004 (nI i).toNatClampNeg &&& 63 = 26
    · rw [if_pos hz]; exact law_26 hL hi hI cont
    rw [if_neg hz]; clear hz
    by_cases hz : I 1004 (nI i).toNatClampNeg &&& 63 = 27
    · rw [if_pos hz]; exact law_27 hL hi hI cont
    rw [if_neg hz]; clear hz
    by_cases hz : I 1004 (nI i).toNatClampNeg &&& 63 = 28
    · rw [if_pos hz]; exact law_28 hL hi hI cont
    rw [if_neg hz]; clear hz
    by_cases hz : I 1004 (nI i).toNatClampNeg &&& 63 = 29
    · rw [if_pos hz]; exact law_29 hL hi hI cont
    rw [if_neg hz]; clear hz
    by_cases hz : I 1004 (nI i).toNatClampNeg &&& 63 = 30
    · rw [if_pos hz]; exact law_30 hL hi hI cont
    rw [if_neg hz]; clear hz
    by_cases hz : I 1004 (nI i).toNatClampNeg &&& 63 = 31
    · rw [if_pos hz]; exact law_31 hL hi hI cont
    rw [if_neg hz]; clear hz
    by_cases hz : I 1004 (nI i).toNatClampNeg &&& 63 = 32
    · rw [if_pos hz]; exact law_32 hL hi hI cont
    rw [if_neg hz]; clear hz
    by_cases hz : I 1004 (nI i).toNatClampNeg &&& 63 = 33
    · rw [if_pos hz]; exact law_33 hL hi hI cont
    rw [if_neg hz]; clear hz
    by_cases hz : I 1004 (nI i).toNatClampNeg &&& 63 = 34
    · rw [if_pos hz]; exact law_34 hL hi hI cont
    rw [if_neg hz]; clear hz
    by_cases hz : I 1004 (nI i).toNatClampNeg &&& 63 = 35
    · rw [if_pos hz]; exact law_35 hL hi hI cont
    rw [if_neg hz]; clear hz
    by_cases hz : I 1004 (nI i).toNatClampNeg &&& 63 = 36
    · rw [if_pos hz]; exact law_36 hL hi hI cont
    rw [if_neg hz]; clear hz
    by_cases hz : I 1004 (nI i).toNatClampNeg &&& 63 = 37
    · rw [if_pos hz]; exact law_37 hL hi hI cont
    rw [if_neg hz]; clear hz
    by_cases hz : I 1004 (nI i).toNatClampNeg &&& 63 = 38
    · rw [if_pos hz]; exact law_38 hL hi hI cont
    rw [if_neg hz]; clear hz
    by_cases hz : I 1004 (nI i).toNatClampNeg &&& 63 = 39
    · rw [if_pos hz]; exact law_39 hL hi hI cont
    rw [if_neg hz]; clear hz
    exact cont I J hI
