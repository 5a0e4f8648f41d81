/-! THE LAW: each call -/
theorem and63 (x : Int32) : ∃ c, c < 64 ∧ x &&& 63 = nI c := ⟨x.toBitVec.toNat % 64, Nat.mod_lt _ (by decide), by
  apply Int32.toBitVec_inj.mp
  rw [Int32.toBitVec_and]
  show x.toBitVec &&& 63#32 = BitVec.ofNat 32 (x.toBitVec.toNat % 64)
  apply BitVec.eq_of_toNat_eq
  rw [BitVec.toNat_and, BitVec.toNat_ofNat, BitVec.toNat_ofNat]
  have : (63 % 2^32) = 2^6 - 1 := by decide
  rw [this, Nat.and_two_pow_sub_one_eq_mod]
  have := Nat.mod_lt x.toBitVec.toNat (show 0 < 64 by decide)
  rw [Nat.mod_eq_of_lt (show x.toBitVec.toNat % 64 < 2 ^ 32 by omega)]⟩
/-- what the law holds while it goes on -/
def LwL (L : aL) (i : Nat) : Prop := e_n2 L ∧ e_ld L 0 = some (.ref 0) ∧ e_ld L 1 = some (.ref 32) ∧ e_ld L 2 = some (.ref 111) ∧ e_ld L 3 = some (.ref 126) ∧ e_ld L 4 = some (.int (nI i))
theorem IV.c1 {sh : List sE} {M X : aM} {B : Nat} (h : IV sh M B) : e_isC (mk sh X) 32 11 = true := by
  obtain ⟨F, kk, ⟨h1, -⟩, -⟩ := h
  exact isC_mk h1.1.1
theorem IV.c2 {sh : List sE} {M X : aM} {B : Nat} (h : IV sh M B) : e_isC (mk sh X) 111 12 = true := by
  obtain ⟨F, kk, ⟨h1, -⟩, -⟩ := h
  exact isC_mk (show shp sh 111 = some (modE 111 0) from h1.2.2.2.2.1 0 (by decide))
section
variable {sc : aS} {d i : Nat} {sh : List sE} {M : aM} {B : Nat} {L : aL}
theorem lw_rd (hi : i + 6 ≤ sc.1) (hs : sc.1 < 2 ^ 31) (h : aH) {k : Nat} (hk : k < 6) : e_ia sc h 0 0 (nI (i + k)) = some (sc.2 (i + k)) := ro_ia (n := sc.1) (f := sc.2) rfl (by decide) (by omega) hs
theorem LC_0 (h : IV sh M B) (hB : B + 1000000 < 2 ^ 31) (hi : i + 6 ≤ sc.1) (hs : sc.1 < 2 ^ 31) (hL : LwL L i) : ∃ sh' M', evp sc (d + 81) 296 220 L [] (mk sh M) = evp sc (d + 81) 296 1668 L [] (mk sh' M') ∧ IV sh' M' (B + 1000000) := by
  obtain ⟨ans, sh', M1, M', t1, t2, h'⟩ := ((V_feed (sc := sc) (d := d) : Cal sc (d + 80) 128 183 [(1, .int (sc.2 (i + 1))), (2, .int (sc.2 (i + 2))), (3, .int (sc.2 (i + 3))), (4, .int (sc.2 (i + 4))), (5, .int (sc.2 (i + 5)))]) sh M B h hB)
  obtain ⟨hN, h0, h1, h2, h3, h4⟩ := hL
  have r1 := fun h => lw_rd hi hs h (show 1 < 6 by decide)
  have r2 := fun h => lw_rd hi hs h (show 2 < 6 by decide)
  have r3 := fun h => lw_rd hi hs h (show 3 < 6 by decide)
  have r4 := fun h => lw_rd hi hs h (show 4 < 6 by decide)
  have r5 := fun h => lw_rd hi hs h (show 5 < 6 by decide)
  refine ⟨sh', M', ?_, h'⟩
  simp (maxDischargeDepth := 9) only [s296_220, s296_221, s296_222, s296_224, s296_225, s296_226, s296_227, s296_228, s296_230, s296_231, s296_232, s296_233, s296_234, s296_236, s296_237, s296_238, s296_239, s296_240, s296_242, s296_243, s296_244, s296_245, s296_246, s296_248, s296_249, s296_250, s296_251, s296_254, s296_255, s296_256, s296_258, s296_259, s296_260, s296_261, s296_262, s296_264, s296_265, s296_266, s296_267, s296_268, s296_270, s296_271, s296_272, s296_273, s296_274, s296_276, s296_277, s296_278, s296_279, s296_280, s296_282, s296_283, s296_284, s296_285, s296_288, nl_sti, nl_str, nl_ci, nl_cr, nl_nil, ld_cons, ld_st, lr_some, li_some, lj_some, n2_nl, n2_ci, n2_cr, n2_nil, n2_sti, n2_str, tl_some, tl_none, cat_le, List.length_cons, List.length_nil, Option.bind_some, Option.bind_none, Option.map_some, cond_true, cond_false, Bool.and_true, Bool.true_and, reduceIte, Nat.reduceEqDiff, Nat.reduceAdd, Nat.reduceLeDiff, Nat.zero_add, Nat.zero_le, Nat.zero_ne_one, Nat.one_ne_zero, Nat.reduceLT, true_or, or_true, false_or, or_false, false_and, true_and, and_false, and_true, not_false_eq_true, not_true_eq_false, eq_self, mA_A, mA_I, mI_A, mI_I, b01, b10, b01n, b10n, i10, i01, im0, ei_max, ei_min, ei_obj, n30, n20, b011, b101, orn, nor, dneg, dnle, dne, dcl, cat0, cat1, cat2, cat3, cat4, hN, h0, h1, h2, h3, h4, nI_1, na2, na3, na4, na5, r1, r2, r3, r4, r5, h.c1, h'.c2, t1, t2]
theorem LC_1 (h : IV sh M B) (hB : B + 1000000 < 2 ^ 31) (hi : i + 6 ≤ sc.1) (hs : sc.1 < 2 ^ 31) (hL : LwL L i) : ∃ sh' M', evp sc (d + 81) 296 293 L [] (mk sh M) = evp sc (d + 81) 296 1668 L [] (mk sh' M') ∧ IV sh' M' (B + 1000000) := by
  obtain ⟨ans, sh', M1, M', t1, t2, h'⟩ := ((V_end (sc := sc) (d := d) : Cal sc (d + 80) 129 184 [(1, .int (sc.2 (i + 1)))]) sh M B h hB)
  obtain ⟨hN, h0, h1, h2, h3, h4⟩ := hL
  have r1 := fun h => lw_rd hi hs h (show 1 < 6 by decide)
  have r2 := fun h => lw_rd hi hs h (show 2 < 6 by decide)
  have r3 := fun h => lw_rd hi hs h (show 3 < 6 by decide)
  have r4 := fun h => lw_rd hi hs h (show 4 < 6 by decide)
  have r5 := fun h => lw_rd hi hs h (show 5 < 6 by decide)
  refine ⟨sh', M', ?_, h'⟩
  simp (maxDischargeDepth := 9) only [s296_293, s296_294, s296_295, s296_297, s296_298, s296_299, s296_300, s296_303, s296_304, s296_305, s296_307, s296_308, s296_309, s296_310, s296_313, nl_sti, nl_str, nl_ci, nl_cr, nl_nil, ld_cons, ld_st, lr_some, li_some, lj_some, n2_nl, n2_ci, n2_cr, n2_nil, n2_sti, n2_str, tl_some, tl_none, cat_le, List.length_cons, List.length_nil, Option.bind_some, Option.bind_none, Option.map_some, cond_true, cond_false, Bool.and_true, Bool.true_and, reduceIte, Nat.reduceEqDiff, Nat.reduceAdd, Nat.reduceLeDiff, Nat.zero_add, Nat.zero_le, Nat.zero_ne_one, Nat.one_ne_zero, Nat.reduceLT, true_or, or_true, false_or, or_false, false_and, true_and, and_false, and_true, not_false_eq_true, not_true_eq_false, eq_self, mA_A, mA_I, mI_A, mI_I, b01, b10, b01n, b10n, i10, i01, im0, ei_max, ei_min, ei_obj, n30, n20, b011, b101, orn, nor, dneg, dnle, dne, dcl, cat0, cat1, cat2, cat3, cat4, hN, h0, h1, h2, h3, h4, nI_1, na2, na3, na4, na5, r1, r2, r3, r4, r5, h.c1, h'.c2, t1, t2]
theorem LC_2 (h : IV sh M B) (hB : B + 1000000 < 2 ^ 31) (hi : i + 6 ≤ sc.1) (hs : sc.1 < 2 ^ 31) (hL : LwL L i) : ∃ sh' M', evp sc (d + 81) 296 318 L [] (mk sh M) = evp sc (d + 81) 296 1668 L [] (mk sh' M') ∧ IV sh' M' (B + 1000000) := by
  obtain ⟨ans, sh', M1, M', t1, t2, h'⟩ := ((V_fault (sc := sc) (d := d) : Cal sc (d + 80) 130 200 [(1, .int (sc.2 (i + 1)))]) sh M B h hB)
  obtain ⟨hN, h0, h1, h2, h3, h4⟩ := hL
  have r1 := fun h => lw_rd hi hs h (show 1 < 6 by decide)
  have r2 := fun h => lw_rd hi hs h (show 2 < 6 by decide)
  have r3 := fun h => lw_rd hi hs h (show 3 < 6 by decide)
  have r4 := fun h => lw_rd hi hs h (show 4 < 6 by decide)
  have r5 := fun h => lw_rd hi hs h (show 5 < 6 by decide)
  refine ⟨sh', M', ?_, h'⟩
  simp (maxDischargeDepth := 9) only [s296_318, s296_319, s296_320, s296_322, s296_323, s296_324, s296_325, s296_328, s296_329, s296_330, s296_332, s296_333, s296_334, s296_335, s296_338, nl_sti, nl_str, nl_ci, nl_cr, nl_nil, ld_cons, ld_st, lr_some, li_some, lj_some, n2_nl, n2_ci, n2_cr, n2_nil, n2_sti, n2_str, tl_some, tl_none, cat_le, List.length_cons, List.length_nil, Option.bind_some, Option.bind_none, Option.map_some, cond_true, cond_false, Bool.and_true, Bool.true_and, reduceIte, Nat.reduceEqDiff, Nat.reduceAdd, Nat.reduceLeDiff, Nat.zero_add, Nat.zero_le, Nat.zero_ne_one, Nat.one_ne_zero, Nat.reduceLT, true_or, or_true, false_or, or_false, false_and, true_and, and_false, and_true, not_false_eq_true, not_true_eq_false, eq_self, mA_A, mA_I, mI_A, mI_I, b01, b10, b01n, b10n, i10, i01, im0, ei_max, ei_min, ei_obj, n30, n20, b011, b101, orn, nor, dneg, dnle, dne, dcl, cat0, cat1, cat2, cat3, cat4, hN, h0, h1, h2, h3, h4, nI_1, na2, na3, na4, na5, r1, r2, r3, r4, r5, h.c1, h'.c2, t1, t2]
theorem LC_3 (h : IV sh M B) (hB : B + 1000000 < 2 ^ 31) (hi : i + 6 ≤ sc.1) (hs : sc.1 < 2 ^ 31) (hL : LwL L i) : ∃ sh' M', evp sc (d + 81) 296 343 L [] (mk sh M) = evp sc (d + 81) 296 1668 L [] (mk sh' M') ∧ IV sh' M' (B + 1000000) := by
  obtain ⟨ans, sh', M1, M', t1, t2, h'⟩ := ((V_text (sc := sc) (d := d) : Cal sc (d + 80) 131 202 [(1, .int (sc.2 (i + 1)))]) sh M B h hB)
  obtain ⟨hN, h0, h1, h2, h3, h4⟩ := hL
  have r1 := fun h => lw_rd hi hs h (show 1 < 6 by decide)
  have r2 := fun h => lw_rd hi hs h (show 2 < 6 by decide)
  have r3 := fun h => lw_rd hi hs h (show 3 < 6 by decide)
  have r4 := fun h => lw_rd hi hs h (show 4 < 6 by decide)
  have r5 := fun h => lw_rd hi hs h (show 5 < 6 by decide)
  refine ⟨sh', M', ?_, h'⟩
  simp (maxDischargeDepth := 9) only [s296_343, s296_344, s296_345, s296_347, s296_348, s296_349, s296_350, s296_353, s296_354, s296_355, s296_357, s296_358, s296_359, s296_360, s296_363, nl_sti, nl_str, nl_ci, nl_cr, nl_nil, ld_cons, ld_st, lr_some, li_some, lj_some, n2_nl, n2_ci, n2_cr, n2_nil, n2_sti, n2_str, tl_some, tl_none, cat_le, List.length_cons, List.length_nil, Option.bind_some, Option.bind_none, Option.map_some, cond_true, cond_false, Bool.and_true, Bool.true_and, reduceIte, Nat.reduceEqDiff, Nat.reduceAdd, Nat.reduceLeDiff, Nat.zero_add, Nat.zero_le, Nat.zero_ne_one, Nat.one_ne_zero, Nat.reduceLT, true_or, or_true, false_or, or_false, false_and, true_and, and_false, and_true, not_false_eq_true, not_true_eq_false, eq_self, mA_A, mA_I, mI_A, mI_I, b01, b10, b01n, b10n, i10, i01, im0, ei_max, ei_min, ei_obj, n30, n20, b011, b101, orn, nor, dneg, dnle, dne, dcl, cat0, cat1, cat2, cat3, cat4, hN, h0, h1, h2, h3, h4, nI_1, na2, na3, na4, na5, r1, r2, r3, r4, r5, h.c1, h'.c2, t1, t2]
theorem LC_4 (h : IV sh M B) (hB : B + 1000000 < 2 ^ 31) (hi : i + 6 ≤ sc.1) (hs : sc.1 < 2 ^ 31) (hL : LwL L i) : ∃ sh' M', evp sc (d + 81) 296 368 L [] (mk sh M) = evp sc (d + 81) 296 1668 L [] (mk sh' M') ∧ IV sh' M' (B + 1000000) := by
  obtain ⟨ans, sh', M1, M', t1, t2, h'⟩ := ((V_rule (sc := sc) (d := d) : Cal sc (d + 80) 133 258 [(1, .int (sc.2 (i + 1)))]) sh M B h hB)
  obtain ⟨hN, h0, h1, h2, h3, h4⟩ := hL
  have r1 := fun h => lw_rd hi hs h (show 1 < 6 by decide)
  have r2 := fun h => lw_rd hi hs h (show 2 < 6 by decide)
  have r3 := fun h => lw_rd hi hs h (show 3 < 6 by decide)
  have r4 := fun h => lw_rd hi hs h (show 4 < 6 by decide)
  have r5 := fun h => lw_rd hi hs h (show 5 < 6 by decide)
  refine ⟨sh', M', ?_, h'⟩
  simp (maxDischargeDepth := 9) only [s296_368, s296_369, s296_370, s296_372, s296_373, s296_374, s296_375, s296_378, s296_379, s296_380, s296_382, s296_383, s296_384, s296_385, s296_388, nl_sti, nl_str, nl_ci, nl_cr, nl_nil, ld_cons, ld_st, lr_some, li_some, lj_some, n2_nl, n2_ci, n2_cr, n2_nil, n2_sti, n2_str, tl_some, tl_none, cat_le, List.length_cons, List.length_nil, Option.bind_some, Option.bind_none, Option.map_some, cond_true, cond_false, Bool.and_true, Bool.true_and, reduceIte, Nat.reduceEqDiff, Nat.reduceAdd, Nat.reduceLeDiff, Nat.zero_add, Nat.zero_le, Nat.zero_ne_one, Nat.one_ne_zero, Nat.reduceLT, true_or, or_true, false_or, or_false, false_and, true_and, and_false, and_true, not_false_eq_true, not_true_eq_false, eq_self, mA_A, mA_I, mI_A, mI_I, b01, b10, b01n, b10n, i10, i01, im0, ei_max, ei_min, ei_obj, n30, n20, b011, b101, orn, nor, dneg, dnle, dne, dcl, cat0, cat1, cat2, cat3, cat4, hN, h0, h1, h2, h3, h4, nI_1, na2, na3, na4, na5, r1, r2, r3, r4, r5, h.c1, h'.c2, t1, t2]
theorem LC_6 (h : IV sh M B) (hB : B + 1000000 < 2 ^ 31) (hi : i + 6 ≤ sc.1) (hs : sc.1 < 2 ^ 31) (hL : LwL L i) : ∃ sh' M', evp sc (d + 81) 296 485 L [] (mk sh M) = evp sc (d + 81) 296 1668 L [] (mk sh' M') ∧ IV sh' M' (B + 1000000) := by
  obtain ⟨ans, sh', M1, M', t1, t2, h'⟩ := ((V_waiting (sc := sc) (d := d) : Cal sc (d + 80) 135 261 [(1, .int (sc.2 (i + 1))), (2, .int (sc.2 (i + 2))), (3, .int (sc.2 (i + 3))), (4, .int (sc.2 (i + 4))), (5, .int (sc.2 (i + 5)))]) sh M B h hB)
  obtain ⟨hN, h0, h1, h2, h3, h4⟩ := hL
  have r1 := fun h => lw_rd hi hs h (show 1 < 6 by decide)
  have r2 := fun h => lw_rd hi hs h (show 2 < 6 by decide)
  have r3 := fun h => lw_rd hi hs h (show 3 < 6 by decide)
  have r4 := fun h => lw_rd hi hs h (show 4 < 6 by decide)
  have r5 := fun h => lw_rd hi hs h (show 5 < 6 by decide)
  refine ⟨sh', M', ?_, h'⟩
  simp (maxDischargeDepth := 9) only [s296_485, s296_486, s296_487, s296_489, s296_490, s296_491, s296_492, s296_493, s296_495, s296_496, s296_497, s296_498, s296_499, s296_501, s296_502, s296_503, s296_504, s296_505, s296_507, s296_508, s296_509, s296_510, s296_511, s296_513, s296_514, s296_515, s296_516, s296_519, s296_520, s296_521, s296_523, s296_524, s296_525, s296_526, s296_527, s296_529, s296_530, s296_531, s296_532, s296_533, s296_535, s296_536, s296_537, s296_538, s296_539, s296_541, s296_542, s296_543, s296_544, s296_545, s296_547, s296_548, s296_549, s296_550, s296_553, nl_sti, nl_str, nl_ci, nl_cr, nl_nil, ld_cons, ld_st, lr_some, li_some, lj_some, n2_nl, n2_ci, n2_cr, n2_nil, n2_sti, n2_str, tl_some, tl_none, cat_le, List.length_cons, List.length_nil, Option.bind_some, Option.bind_none, Option.map_some, cond_true, cond_false, Bool.and_true, Bool.true_and, reduceIte, Nat.reduceEqDiff, Nat.reduceAdd, Nat.reduceLeDiff, Nat.zero_add, Nat.zero_le, Nat.zero_ne_one, Nat.one_ne_zero, Nat.reduceLT, true_or, or_true, false_or, or_false, false_and, true_and, and_false, and_true, not_false_eq_true, not_true_eq_false, eq_self, mA_A, mA_I, mI_A, mI_I, b01, b10, b01n, b10n, i10, i01, im0, ei_max, ei_min, ei_obj, n30, n20, b011, b101, orn, nor, dneg, dnle, dne, dcl, cat0, cat1, cat2, cat3, cat4, hN, h0, h1, h2, h3, h4, nI_1, na2, na3, na4, na5, r1, r2, r3, r4, r5, h.c1, h'.c2, t1, t2]
theorem LC_7 (h : IV sh M B) (hB : B + 1000000 < 2 ^ 31) (hi : i + 6 ≤ sc.1) (hs : sc.1 < 2 ^ 31) (hL : LwL L i) : ∃ sh' M', evp sc (d + 81) 296 558 L [] (mk sh M) = evp sc (d + 81) 296 1668 L [] (mk sh' M') ∧ IV sh' M' (B + 1000000) := by
  obtain ⟨ans, sh', M1, M', t1, t2, h'⟩ := ((V_station (sc := sc) (d := d) : Cal sc (d + 80) 136 262 [(1, .int (sc.2 (i + 1))), (2, .int (sc.2 (i + 2)))]) sh M B h hB)
  obtain ⟨hN, h0, h1, h2, h3, h4⟩ := hL
  have r1 := fun h => lw_rd hi hs h (show 1 < 6 by decide)
  have r2 := fun h => lw_rd hi hs h (show 2 < 6 by decide)
  have r3 := fun h => lw_rd hi hs h (show 3 < 6 by decide)
  have r4 := fun h => lw_rd hi hs h (show 4 < 6 by decide)
  have r5 := fun h => lw_rd hi hs h (show 5 < 6 by decide)
  refine ⟨sh', M', ?_, h'⟩
  simp (maxDischargeDepth := 9) only [s296_558, s296_559, s296_560, s296_562, s296_563, s296_564, s296_565, s296_566, s296_568, s296_569, s296_570, s296_571, s296_574, s296_575, s296_576, s296_578, s296_579, s296_580, s296_581, s296_582, s296_584, s296_585, s296_586, s296_587, s296_590, nl_sti, nl_str, nl_ci, nl_cr, nl_nil, ld_cons, ld_st, lr_some, li_some, lj_some, n2_nl, n2_ci, n2_cr, n2_nil, n2_sti, n2_str, tl_some, tl_none, cat_le, List.length_cons, List.length_nil, Option.bind_some, Option.bind_none, Option.map_some, cond_true, cond_false, Bool.and_true, Bool.true_and, reduceIte, Nat.reduceEqDiff, Nat.reduceAdd, Nat.reduceLeDiff, Nat.zero_add, Nat.zero_le, Nat.zero_ne_one, Nat.one_ne_zero, Nat.reduceLT, true_or, or_true, false_or, or_false, false_and, true_and, and_false, and_true, not_false_eq_true, not_true_eq_false, eq_self, mA_A, mA_I, mI_A, mI_I, b01, b10, b01n, b10n, i10, i01, im0, ei_max, ei_min, ei_obj, n30, n20, b011, b101, orn, nor, dneg, dnle, dne, dcl, cat0, cat1, cat2, cat3, cat4, hN, h0, h1, h2, h3, h4, nI_1, na2, na3, na4, na5, r1, r2, r3, r4, r5, h.c1, h'.c2, t1, t2]
theorem LC_8 (h : IV sh M B) (hB : B + 1000000 < 2 ^ 31) (hi : i + 6 ≤ sc.1) (hs : sc.1 < 2 ^ 31) (hL : LwL L i) : ∃ sh' M', evp sc (d + 81) 296 595 L [] (mk sh M) = evp sc (d + 81) 296 1668 L [] (mk sh' M') ∧ IV sh' M' (B + 1000000) := by
  obtain ⟨ans, sh', M1, M', t1, t2, h'⟩ := ((V_hop (sc := sc) (d := d) : Cal sc (d + 80) 137 264 [(1, .int (sc.2 (i + 1))), (2, .int (sc.2 (i + 2))), (3, .int (sc.2 (i + 3)))]) sh M B h hB)
  obtain ⟨hN, h0, h1, h2, h3, h4⟩ := hL
  have r1 := fun h => lw_rd hi hs h (show 1 < 6 by decide)
  have r2 := fun h => lw_rd hi hs h (show 2 < 6 by decide)
  have r3 := fun h => lw_rd hi hs h (show 3 < 6 by decide)
  have r4 := fun h => lw_rd hi hs h (show 4 < 6 by decide)
  have r5 := fun h => lw_rd hi hs h (show 5 < 6 by decide)
  refine ⟨sh', M', ?_, h'⟩
  simp (maxDischargeDepth := 9) only [s296_595, s296_596, s296_597, s296_599, s296_600, s296_601, s296_602, s296_603, s296_605, s296_606, s296_607, s296_608, s296_609, s296_611, s296_612, s296_613, s296_614, s296_617, s296_618, s296_619, s296_621, s296_622, s296_623, s296_624, s296_625, s296_627, s296_628, s296_629, s296_630, s296_631, s296_633, s296_634, s296_635, s296_636, s296_639, nl_sti, nl_str, nl_ci, nl_cr, nl_nil, ld_cons, ld_st, lr_some, li_some, lj_some, n2_nl, n2_ci, n2_cr, n2_nil, n2_sti, n2_str, tl_some, tl_none, cat_le, List.length_cons, List.length_nil, Option.bind_some, Option.bind_none, Option.map_some, cond_true, cond_false, Bool.and_true, Bool.true_and, reduceIte, Nat.reduceEqDiff, Nat.reduceAdd, Nat.reduceLeDiff, Nat.zero_add, Nat.zero_le, Nat.zero_ne_one, Nat.one_ne_zero, Nat.reduceLT, true_or, or_true, false_or, or_false, false_and, true_and, and_false, and_true, not_false_eq_true, not_true_eq_false, eq_self, mA_A, mA_I, mI_A, mI_I, b01, b10, b01n, b10n, i10, i01, im0, ei_max, ei_min, ei_obj, n30, n20, b011, b101, orn, nor, dneg, dnle, dne, dcl, cat0, cat1, cat2, cat3, cat4, hN, h0, h1, h2, h3, h4, nI_1, na2, na3, na4, na5, r1, r2, r3, r4, r5, h.c1, h'.c2, t1, t2]
theorem LC_9 (h : IV sh M B) (hB : B + 1000000 < 2 ^ 31) (hi : i + 6 ≤ sc.1) (hs : sc.1 < 2 ^ 31) (hL : LwL L i) : ∃ sh' M', evp sc (d + 81) 296 644 L [] (mk sh M) = evp sc (d + 81) 296 1668 L [] (mk sh' M') ∧ IV sh' M' (B + 1000000) := by
  obtain ⟨ans, sh', M1, M', t1, t2, h'⟩ := ((V_come (sc := sc) (d := d + 60) : Cal sc (d + 80) 138 242 [(1, .int (sc.2 (i + 1))), (2, .int (sc.2 (i + 2))), (3, .int (sc.2 (i + 3))), (4, .int (sc.2 (i + 4)))]) sh M B h hB)
  obtain ⟨hN, h0, h1, h2, h3, h4⟩ := hL
  have r1 := fun h => lw_rd hi hs h (show 1 < 6 by decide)
  have r2 := fun h => lw_rd hi hs h (show 2 < 6 by decide)
  have r3 := fun h => lw_rd hi hs h (show 3 < 6 by decide)
  have r4 := fun h => lw_rd hi hs h (show 4 < 6 by decide)
  have r5 := fun h => lw_rd hi hs h (show 5 < 6 by decide)
  refine ⟨sh', M', ?_, h'⟩
  simp (maxDischargeDepth := 9) only [s296_644, s296_645, s296_646, s296_648, s296_649, s296_650, s296_651, s296_652, s296_654, s296_655, s296_656, s296_657, s296_658, s296_660, s296_661, s296_662, s296_663, s296_664, s296_666, s296_667, s296_668, s296_669, s296_672, s296_673, s296_674, s296_676, s296_677, s296_678, s296_679, s296_680, s296_682, s296_683, s296_684, s296_685, s296_686, s296_688, s296_689, s296_690, s296_691, s296_692, s296_694, s296_695, s296_696, s296_697, s296_700, nl_sti, nl_str, nl_ci, nl_cr, nl_nil, ld_cons, ld_st, lr_some, li_some, lj_some, n2_nl, n2_ci, n2_cr, n2_nil, n2_sti, n2_str, tl_some, tl_none, cat_le, List.length_cons, List.length_nil, Option.bind_some, Option.bind_none, Option.map_some, cond_true, cond_false, Bool.and_true, Bool.true_and, reduceIte, Nat.reduceEqDiff, Nat.reduceAdd, Nat.reduceLeDiff, Nat.zero_add, Nat.zero_le, Nat.zero_ne_one, Nat.one_ne_zero, Nat.reduceLT, true_or, or_true, false_or, or_false, false_and, true_and, and_false, and_true, not_false_eq_true, not_true_eq_false, eq_self, mA_A, mA_I, mI_A, mI_I, b01, b10, b01n, b10n, i10, i01, im0, ei_max, ei_min, ei_obj, n30, n20, b011, b101, orn, nor, dneg, dnle, dne, dcl, cat0, cat1, cat2, cat3, cat4, hN, h0, h1, h2, h3, h4, nI_1, na2, na3, na4, na5, r1, r2, r3, r4, r5, h.c1, h'.c2, t1, t2]
theorem LC_10 (h : IV sh M B) (hB : B + 1000000 < 2 ^ 31) (hi : i + 6 ≤ sc.1) (hs : sc.1 < 2 ^ 31) (hL : LwL L i) : ∃ sh' M', evp sc (d + 81) 296 705 L [] (mk sh M) = evp sc (d + 81) 296 1668 L [] (mk sh' M') ∧ IV sh' M' (B + 1000000) := by
  obtain ⟨ans, sh', M1, M', t1, t2, h'⟩ := ((V_tick (sc := sc) (d := d + 60) : Cal sc (d + 80) 139 243 [(1, .int (sc.2 (i + 1)))]) sh M B h hB)
  obtain ⟨hN, h0, h1, h2, h3, h4⟩ := hL
  have r1 := fun h => lw_rd hi hs h (show 1 < 6 by decide)
  have r2 := fun h => lw_rd hi hs h (show 2 < 6 by decide)
  have r3 := fun h => lw_rd hi hs h (show 3 < 6 by decide)
  have r4 := fun h => lw_rd hi hs h (show 4 < 6 by decide)
  have r5 := fun h => lw_rd hi hs h (show 5 < 6 by decide)
  refine ⟨sh', M', ?_, h'⟩
  simp (maxDischargeDepth := 9) only [s296_705, s296_706, s296_707, s296_709, s296_710, s296_711, s296_712, s296_715, s296_716, s296_717, s296_719, s296_720, s296_721, s296_722, s296_725, nl_sti, nl_str, nl_ci, nl_cr, nl_nil, ld_cons, ld_st, lr_some, li_some, lj_some, n2_nl, n2_ci, n2_cr, n2_nil, n2_sti, n2_str, tl_some, tl_none, cat_le, List.length_cons, List.length_nil, Option.bind_some, Option.bind_none, Option.map_some, cond_true, cond_false, Bool.and_true, Bool.true_and, reduceIte, Nat.reduceEqDiff, Nat.reduceAdd, Nat.reduceLeDiff, Nat.zero_add, Nat.zero_le, Nat.zero_ne_one, Nat.one_ne_zero, Nat.reduceLT, true_or, or_true, false_or, or_false, false_and, true_and, and_false, and_true, not_false_eq_true, not_true_eq_false, eq_self, mA_A, mA_I, mI_A, mI_I, b01, b10, b01n, b10n, i10, i01, im0, ei_max, ei_min, ei_obj, n30, n20, b011, b101, orn, nor, dneg, dnle, dne, dcl, cat0, cat1, cat2, cat3, cat4, hN, h0, h1, h2, h3, h4, nI_1, na2, na3, na4, na5, r1, r2, r3, r4, r5, h.c1, h'.c2, t1, t2]
theorem LC_11 (h : IV sh M B) (hB : B + 1000000 < 2 ^ 31) (hi : i + 6 ≤ sc.1) (hs : sc.1 < 2 ^ 31) (hL : LwL L i) : ∃ sh' M', evp sc (d + 81) 296 730 L [] (mk sh M) = evp sc (d + 81) 296 1668 L [] (mk sh' M') ∧ IV sh' M' (B + 1000000) := by
  obtain ⟨ans, sh', M1, M', t1, t2, h'⟩ := ((V_cut (sc := sc) (d := d + 60) : Cal sc (d + 80) 140 244 [(1, .int (sc.2 (i + 1)))]) sh M B h hB)
  obtain ⟨hN, h0, h1, h2, h3, h4⟩ := hL
  have r1 := fun h => lw_rd hi hs h (show 1 < 6 by decide)
  have r2 := fun h => lw_rd hi hs h (show 2 < 6 by decide)
  have r3 := fun h => lw_rd hi hs h (show 3 < 6 by decide)
  have r4 := fun h => lw_rd hi hs h (show 4 < 6 by decide)
  have r5 := fun h => lw_rd hi hs h (show 5 < 6 by decide)
  refine ⟨sh', M', ?_, h'⟩
  simp (maxDischargeDepth := 9) only [s296_730, s296_731, s296_732, s296_734, s296_735, s296_736, s296_737, s296_740, s296_741, s296_742, s296_744, s296_745, s296_746, s296_747, s296_750, nl_sti, nl_str, nl_ci, nl_cr, nl_nil, ld_cons, ld_st, lr_some, li_some, lj_some, n2_nl, n2_ci, n2_cr, n2_nil, n2_sti, n2_str, tl_some, tl_none, cat_le, List.length_cons, List.length_nil, Option.bind_some, Option.bind_none, Option.map_some, cond_true, cond_false, Bool.and_true, Bool.true_and, reduceIte, Nat.reduceEqDiff, Nat.reduceAdd, Nat.reduceLeDiff, Nat.zero_add, Nat.zero_le, Nat.zero_ne_one, Nat.one_ne_zero, Nat.reduceLT, true_or, or_true, false_or, or_false, false_and, true_and, and_false, and_true, not_false_eq_true, not_true_eq_false, eq_self, mA_A, mA_I, mI_A, mI_I, b01, b10, b01n, b10n, i10, i01, im0, ei_max, ei_min, ei_obj, n30, n20, b011, b101, orn, nor, dneg, dnle, dne, dcl, cat0, cat1, cat2, cat3, cat4, hN, h0, h1, h2, h3, h4, nI_1, na2, na3, na4, na5, r1, r2, r3, r4, r5, h.c1, h'.c2, t1, t2]
theorem LC_12 (h : IV sh M B) (hB : B + 1000000 < 2 ^ 31) (hi : i + 6 ≤ sc.1) (hs : sc.1 < 2 ^ 31) (hL : LwL L i) : ∃ sh' M', evp sc (d + 81) 296 755 L [] (mk sh M) = evp sc (d + 81) 296 1668 L [] (mk sh' M') ∧ IV sh' M' (B + 1000000) := by
  obtain ⟨ans, sh', M1, M', t1, t2, h'⟩ := ((V_heal (sc := sc) (d := d + 60) : Cal sc (d + 80) 141 245 [(1, .int (sc.2 (i + 1)))]) sh M B h hB)
  obtain ⟨hN, h0, h1, h2, h3, h4⟩ := hL
  have r1 := fun h => lw_rd hi hs h (show 1 < 6 by decide)
  have r2 := fun h => lw_rd hi hs h (show 2 < 6 by decide)
  have r3 := fun h => lw_rd hi hs h (show 3 < 6 by decide)
  have r4 := fun h => lw_rd hi hs h (show 4 < 6 by decide)
  have r5 := fun h => lw_rd hi hs h (show 5 < 6 by decide)
  refine ⟨sh', M', ?_, h'⟩
  simp (maxDischargeDepth := 9) only [s296_755, s296_756, s296_757, s296_759, s296_760, s296_761, s296_762, s296_765, s296_766, s296_767, s296_769, s296_770, s296_771, s296_772, s296_775, nl_sti, nl_str, nl_ci, nl_cr, nl_nil, ld_cons, ld_st, lr_some, li_some, lj_some, n2_nl, n2_ci, n2_cr, n2_nil, n2_sti, n2_str, tl_some, tl_none, cat_le, List.length_cons, List.length_nil, Option.bind_some, Option.bind_none, Option.map_some, cond_true, cond_false, Bool.and_true, Bool.true_and, reduceIte, Nat.reduceEqDiff, Nat.reduceAdd, Nat.reduceLeDiff, Nat.zero_add, Nat.zero_le, Nat.zero_ne_one, Nat.one_ne_zero, Nat.reduceLT, true_or, or_true, false_or, or_false, false_and, true_and, and_false, and_true, not_false_eq_true, not_true_eq_false, eq_self, mA_A, mA_I, mI_A, mI_I, b01, b10, b01n, b10n, i10, i01, im0, ei_max, ei_min, ei_obj, n30, n20, b011, b101, orn, nor, dneg, dnle, dne, dcl, cat0, cat1, cat2, cat3, cat4, hN, h0, h1, h2, h3, h4, nI_1, na2, na3, na4, na5, r1, r2, r3, r4, r5, h.c1, h'.c2, t1, t2]
theorem LC_13 (h : IV sh M B) (hB : B + 1000000 < 2 ^ 31) (hi : i + 6 ≤ sc.1) (hs : sc.1 < 2 ^ 31) (hL : LwL L i) : ∃ sh' M', evp sc (d + 81) 296 780 L [] (mk sh M) = evp sc (d + 81) 296 1668 L [] (mk sh' M') ∧ IV sh' M' (B + 1000000) := by
  obtain ⟨ans, sh', M1, M', t1, t2, h'⟩ := ((V_eraser (sc := sc) (d := d + 60) : Cal sc (d + 80) 142 246 [(1, .int (sc.2 (i + 1)))]) sh M B h hB)
  obtain ⟨hN, h0, h1, h2, h3, h4⟩ := hL
  have r1 := fun h => lw_rd hi hs h (show 1 < 6 by decide)
  have r2 := fun h => lw_rd hi hs h (show 2 < 6 by decide)
  have r3 := fun h => lw_rd hi hs h (show 3 < 6 by decide)
  have r4 := fun h => lw_rd hi hs h (show 4 < 6 by decide)
  have r5 := fun h => lw_rd hi hs h (show 5 < 6 by decide)
  refine ⟨sh', M', ?_, h'⟩
  simp (maxDischargeDepth := 9) only [s296_780, s296_781, s296_782, s296_784, s296_785, s296_786, s296_787, s296_790, s296_791, s296_792, s296_794, s296_795, s296_796, s296_797, s296_800, nl_sti, nl_str, nl_ci, nl_cr, nl_nil, ld_cons, ld_st, lr_some, li_some, lj_some, n2_nl, n2_ci, n2_cr, n2_nil, n2_sti, n2_str, tl_some, tl_none, cat_le, List.length_cons, List.length_nil, Option.bind_some, Option.bind_none, Option.map_some, cond_true, cond_false, Bool.and_true, Bool.true_and, reduceIte, Nat.reduceEqDiff, Nat.reduceAdd, Nat.reduceLeDiff, Nat.zero_add, Nat.zero_le, Nat.zero_ne_one, Nat.one_ne_zero, Nat.reduceLT, true_or, or_true, false_or, or_false, false_and, true_and, and_false, and_true, not_false_eq_true, not_true_eq_false, eq_self, mA_A, mA_I, mI_A, mI_I, b01, b10, b01n, b10n, i10, i01, im0, ei_max, ei_min, ei_obj, n30, n20, b011, b101, orn, nor, dneg, dnle, dne, dcl, cat0, cat1, cat2, cat3, cat4, hN, h0, h1, h2, h3, h4, nI_1, na2, na3, na4, na5, r1, r2, r3, r4, r5, h.c1, h'.c2, t1, t2]
theorem LC_14 (h : IV sh M B) (hB : B + 1000000 < 2 ^ 31) (hi : i + 6 ≤ sc.1) (hs : sc.1 < 2 ^ 31) (hL : LwL L i) : ∃ sh' M', evp sc (d + 81) 296 805 L [] (mk sh M) = evp sc (d + 81) 296 1668 L [] (mk sh' M') ∧ IV sh' M' (B + 1000000) := by
  obtain ⟨ans, sh', M1, M', t1, t2, h'⟩ := ((V_withdraw (sc := sc) (d := d + 60) : Cal sc (d + 80) 143 248 [(1, .int (sc.2 (i + 1))), (2, .int (sc.2 (i + 2)))]) sh M B h hB)
  obtain ⟨hN, h0, h1, h2, h3, h4⟩ := hL
  have r1 := fun h => lw_rd hi hs h (show 1 < 6 by decide)
  have r2 := fun h => lw_rd hi hs h (show 2 < 6 by decide)
  have r3 := fun h => lw_rd hi hs h (show 3 < 6 by decide)
  have r4 := fun h => lw_rd hi hs h (show 4 < 6 by decide)
  have r5 := fun h => lw_rd hi hs h (show 5 < 6 by decide)
  refine ⟨sh', M', ?_, h'⟩
  simp (maxDischargeDepth := 9) only [s296_805, s296_806, s296_807, s296_809, s296_810, s296_811, s296_812, s296_813, s296_815, s296_816, s296_817, s296_818, s296_821, s296_822, s296_823, s296_825, s296_826, s296_827, s296_828, s296_829, s296_831, s296_832, s296_833, s296_834, s296_837, nl_sti, nl_str, nl_ci, nl_cr, nl_nil, ld_cons, ld_st, lr_some, li_some, lj_some, n2_nl, n2_ci, n2_cr, n2_nil, n2_sti, n2_str, tl_some, tl_none, cat_le, List.length_cons, List.length_nil, Option.bind_some, Option.bind_none, Option.map_some, cond_true, cond_false, Bool.and_true, Bool.true_and, reduceIte, Nat.reduceEqDiff, Nat.reduceAdd, Nat.reduceLeDiff, Nat.zero_add, Nat.zero_le, Nat.zero_ne_one, Nat.one_ne_zero, Nat.reduceLT, true_or, or_true, false_or, or_false, false_and, true_and, and_false, and_true, not_false_eq_true, not_true_eq_false, eq_self, mA_A, mA_I, mI_A, mI_I, b01, b10, b01n, b10n, i10, i01, im0, ei_max, ei_min, ei_obj, n30, n20, b011, b101, orn, nor, dneg, dnle, dne, dcl, cat0, cat1, cat2, cat3, cat4, hN, h0, h1, h2, h3, h4, nI_1, na2, na3, na4, na5, r1, r2, r3, r4, r5, h.c1, h'.c2, t1, t2]
theorem LC_15 (h : IV sh M B) (hB : B + 1000000 < 2 ^ 31) (hi : i + 6 ≤ sc.1) (hs : sc.1 < 2 ^ 31) (hL : LwL L i) : ∃ sh' M', evp sc (d + 81) 296 842 L [] (mk sh M) = evp sc (d + 81) 296 1668 L [] (mk sh' M') ∧ IV sh' M' (B + 1000000) := by
  obtain ⟨ans, sh', M1, M', t1, t2, h'⟩ := ((V_reserve (sc := sc) (d := d + 60) : Cal sc (d + 80) 144 247 [(1, .int (sc.2 (i + 1))), (2, .int (sc.2 (i + 2))), (3, .int (sc.2 (i + 3)))]) sh M B h hB)
  obtain ⟨hN, h0, h1, h2, h3, h4⟩ := hL
  have r1 := fun h => lw_rd hi hs h (show 1 < 6 by decide)
  have r2 := fun h => lw_rd hi hs h (show 2 < 6 by decide)
  have r3 := fun h => lw_rd hi hs h (show 3 < 6 by decide)
  have r4 := fun h => lw_rd hi hs h (show 4 < 6 by decide)
  have r5 := fun h => lw_rd hi hs h (show 5 < 6 by decide)
  refine ⟨sh', M', ?_, h'⟩
  simp (maxDischargeDepth := 9) only [s296_842, s296_843, s296_844, s296_846, s296_847, s296_848, s296_849, s296_850, s296_852, s296_853, s296_854, s296_855, s296_856, s296_858, s296_859, s296_860, s296_861, s296_864, s296_865, s296_866, s296_868, s296_869, s296_870, s296_871, s296_872, s296_874, s296_875, s296_876, s296_877, s296_878, s296_880, s296_881, s296_882, s296_883, s296_886, nl_sti, nl_str, nl_ci, nl_cr, nl_nil, ld_cons, ld_st, lr_some, li_some, lj_some, n2_nl, n2_ci, n2_cr, n2_nil, n2_sti, n2_str, tl_some, tl_none, cat_le, List.length_cons, List.length_nil, Option.bind_some, Option.bind_none, Option.map_some, cond_true, cond_false, Bool.and_true, Bool.true_and, reduceIte, Nat.reduceEqDiff, Nat.reduceAdd, Nat.reduceLeDiff, Nat.zero_add, Nat.zero_le, Nat.zero_ne_one, Nat.one_ne_zero, Nat.reduceLT, true_or, or_true, false_or, or_false, false_and, true_and, and_false, and_true, not_false_eq_true, not_true_eq_false, eq_self, mA_A, mA_I, mI_A, mI_I, b01, b10, b01n, b10n, i10, i01, im0, ei_max, ei_min, ei_obj, n30, n20, b011, b101, orn, nor, dneg, dnle, dne, dcl, cat0, cat1, cat2, cat3, cat4, hN, h0, h1, h2, h3, h4, nI_1, na2, na3, na4, na5, r1, r2, r3, r4, r5, h.c1, h'.c2, t1, t2]
theorem LC_16 (h : IV sh M B) (hB : B + 1000000 < 2 ^ 31) (hi : i + 6 ≤ sc.1) (hs : sc.1 < 2 ^ 31) (hL : LwL L i) : ∃ sh' M', evp sc (d + 81) 296 891 L [] (mk sh M) = evp sc (d + 81) 296 1668 L [] (mk sh' M') ∧ IV sh' M' (B + 1000000) := by
  obtain ⟨ans, sh', M1, M', t1, t2, h'⟩ := ((V_reserved (sc := sc) (d := d) : Cal sc (d + 80) 147 280 [(1, .int (sc.2 (i + 1))), (2, .int (sc.2 (i + 2)))]) sh M B h hB)
  obtain ⟨hN, h0, h1, h2, h3, h4⟩ := hL
  have r1 := fun h => lw_rd hi hs h (show 1 < 6 by decide)
  have r2 := fun h => lw_rd hi hs h (show 2 < 6 by decide)
  have r3 := fun h => lw_rd hi hs h (show 3 < 6 by decide)
  have r4 := fun h => lw_rd hi hs h (show 4 < 6 by decide)
  have r5 := fun h => lw_rd hi hs h (show 5 < 6 by decide)
  refine ⟨sh', M', ?_, h'⟩
  simp (maxDischargeDepth := 9) only [s296_891, s296_892, s296_893, s296_895, s296_896, s296_897, s296_898, s296_899, s296_901, s296_902, s296_903, s296_904, s296_907, s296_908, s296_909, s296_911, s296_912, s296_913, s296_914, s296_915, s296_917, s296_918, s296_919, s296_920, s296_923, nl_sti, nl_str, nl_ci, nl_cr, nl_nil, ld_cons, ld_st, lr_some, li_some, lj_some, n2_nl, n2_ci, n2_cr, n2_nil, n2_sti, n2_str, tl_some, tl_none, cat_le, List.length_cons, List.length_nil, Option.bind_some, Option.bind_none, Option.map_some, cond_true, cond_false, Bool.and_true, Bool.true_and, reduceIte, Nat.reduceEqDiff, Nat.reduceAdd, Nat.reduceLeDiff, Nat.zero_add, Nat.zero_le, Nat.zero_ne_one, Nat.one_ne_zero, Nat.reduceLT, true_or, or_true, false_or, or_false, false_and, true_and, and_false, and_true, not_false_eq_true, not_true_eq_false, eq_self, mA_A, mA_I, mI_A, mI_I, b01, b10, b01n, b10n, i10, i01, im0, ei_max, ei_min, ei_obj, n30, n20, b011, b101, orn, nor, dneg, dnle, dne, dcl, cat0, cat1, cat2, cat3, cat4, hN, h0, h1, h2, h3, h4, nI_1, na2, na3, na4, na5, r1, r2, r3, r4, r5, h.c1, h'.c2, t1, t2]
theorem LC_17 (h : IV sh M B) (hB : B + 1000000 < 2 ^ 31) (hi : i + 6 ≤ sc.1) (hs : sc.1 < 2 ^ 31) (hL : LwL L i) : ∃ sh' M', evp sc (d + 81) 296 928 L [] (mk sh M) = evp sc (d + 81) 296 1668 L [] (mk sh' M') ∧ IV sh' M' (B + 1000000) := by
  obtain ⟨ans, sh', M1, M', t1, t2, h'⟩ := ((V_years (sc := sc) (d := d) : Cal sc (d + 80) 148 251 [(1, .int (sc.2 (i + 1))), (2, .long ((sc.2 (i + 2)).toInt64 <<< (Int32.toInt64 32 &&& 63) ||| (sc.2 (i + 3)).toInt64 &&& 4294967295))]) sh M B h hB)
  obtain ⟨hN, h0, h1, h2, h3, h4⟩ := hL
  have r1 := fun h => lw_rd hi hs h (show 1 < 6 by decide)
  have r2 := fun h => lw_rd hi hs h (show 2 < 6 by decide)
  have r3 := fun h => lw_rd hi hs h (show 3 < 6 by decide)
  have r4 := fun h => lw_rd hi hs h (show 4 < 6 by decide)
  have r5 := fun h => lw_rd hi hs h (show 5 < 6 by decide)
  refine ⟨sh', M', ?_, h'⟩
  simp (maxDischargeDepth := 9) only [s296_928, s296_929, s296_930, s296_932, s296_933, s296_934, s296_935, s296_936, s296_938, s296_939, s296_940, s296_941, s296_942, s296_944, s296_945, s296_946, s296_948, s296_949, s296_950, s296_951, s296_952, s296_955, s296_956, s296_957, s296_960, s296_961, s296_962, s296_964, s296_965, s296_966, s296_967, s296_968, s296_970, s296_971, s296_972, s296_973, s296_974, s296_976, s296_977, s296_978, s296_980, s296_981, s296_982, s296_983, s296_984, s296_987, s296_988, s296_989, s296_992, nl_sti, nl_str, nl_ci, nl_cr, nl_nil, ld_cons, ld_st, lr_some, li_some, lj_some, n2_nl, n2_ci, n2_cr, n2_nil, n2_sti, n2_str, tl_some, tl_none, cat_le, List.length_cons, List.length_nil, Option.bind_some, Option.bind_none, Option.map_some, cond_true, cond_false, Bool.and_true, Bool.true_and, reduceIte, Nat.reduceEqDiff, Nat.reduceAdd, Nat.reduceLeDiff, Nat.zero_add, Nat.zero_le, Nat.zero_ne_one, Nat.one_ne_zero, Nat.reduceLT, true_or, or_true, false_or, or_false, false_and, true_and, and_false, and_true, not_false_eq_true, not_true_eq_false, eq_self, mA_A, mA_I, mI_A, mI_I, b01, b10, b01n, b10n, i10, i01, im0, ei_max, ei_min, ei_obj, n30, n20, b011, b101, orn, nor, dneg, dnle, dne, dcl, cat0, cat1, cat2, cat3, cat4, hN, h0, h1, h2, h3, h4, nI_1, na2, na3, na4, na5, r1, r2, r3, r4, r5, h.c1, h'.c2, t1, t2]
theorem LC_18 (h : IV sh M B) (hB : B + 1000000 < 2 ^ 31) (hi : i + 6 ≤ sc.1) (hs : sc.1 < 2 ^ 31) (hL : LwL L i) : ∃ sh' M', evp sc (d + 81) 296 997 L [] (mk sh M) = evp sc (d + 81) 296 1668 L [] (mk sh' M') ∧ IV sh' M' (B + 1000000) := by
  obtain ⟨ans, sh', M1, M', t1, t2, h'⟩ := ((V_status (sc := sc) (d := d) : Cal sc (d + 80) 149 252 [(1, .int (sc.2 (i + 1)))]) sh M B h hB)
  obtain ⟨hN, h0, h1, h2, h3, h4⟩ := hL
  have r1 := fun h => lw_rd hi hs h (show 1 < 6 by decide)
  have r2 := fun h => lw_rd hi hs h (show 2 < 6 by decide)
  have r3 := fun h => lw_rd hi hs h (show 3 < 6 by decide)
  have r4 := fun h => lw_rd hi hs h (show 4 < 6 by decide)
  have r5 := fun h => lw_rd hi hs h (show 5 < 6 by decide)
  refine ⟨sh', M', ?_, h'⟩
  simp (maxDischargeDepth := 9) only [s296_997, s296_998, s296_999, s296_1001, s296_1002, s296_1003, s296_1004, s296_1007, s296_1008, s296_1009, s296_1011, s296_1012, s296_1013, s296_1014, s296_1017, nl_sti, nl_str, nl_ci, nl_cr, nl_nil, ld_cons, ld_st, lr_some, li_some, lj_some, n2_nl, n2_ci, n2_cr, n2_nil, n2_sti, n2_str, tl_some, tl_none, cat_le, List.length_cons, List.length_nil, Option.bind_some, Option.bind_none, Option.map_some, cond_true, cond_false, Bool.and_true, Bool.true_and, reduceIte, Nat.reduceEqDiff, Nat.reduceAdd, Nat.reduceLeDiff, Nat.zero_add, Nat.zero_le, Nat.zero_ne_one, Nat.one_ne_zero, Nat.reduceLT, true_or, or_true, false_or, or_false, false_and, true_and, and_false, and_true, not_false_eq_true, not_true_eq_false, eq_self, mA_A, mA_I, mI_A, mI_I, b01, b10, b01n, b10n, i10, i01, im0, ei_max, ei_min, ei_obj, n30, n20, b011, b101, orn, nor, dneg, dnle, dne, dcl, cat0, cat1, cat2, cat3, cat4, hN, h0, h1, h2, h3, h4, nI_1, na2, na3, na4, na5, r1, r2, r3, r4, r5, h.c1, h'.c2, t1, t2]
theorem LC_19 (h : IV sh M B) (hB : B + 1000000 < 2 ^ 31) (hi : i + 6 ≤ sc.1) (hs : sc.1 < 2 ^ 31) (hL : LwL L i) : ∃ sh' M', evp sc (d + 81) 296 1022 L [] (mk sh M) = evp sc (d + 81) 296 1668 L [] (mk sh' M') ∧ IV sh' M' (B + 1000000) := by
  obtain ⟨ans, sh', M1, M', t1, t2, h'⟩ := ((V_undo (sc := sc) (d := d) : Cal sc (d + 80) 150 253 []) sh M B h hB)
  obtain ⟨hN, h0, h1, h2, h3, h4⟩ := hL
  have r1 := fun h => lw_rd hi hs h (show 1 < 6 by decide)
  have r2 := fun h => lw_rd hi hs h (show 2 < 6 by decide)
  have r3 := fun h => lw_rd hi hs h (show 3 < 6 by decide)
  have r4 := fun h => lw_rd hi hs h (show 4 < 6 by decide)
  have r5 := fun h => lw_rd hi hs h (show 5 < 6 by decide)
  refine ⟨sh', M', ?_, h'⟩
  simp (maxDischargeDepth := 9) only [s296_1022, s296_1023, s296_1026, s296_1027, s296_1030, nl_sti, nl_str, nl_ci, nl_cr, nl_nil, ld_cons, ld_st, lr_some, li_some, lj_some, n2_nl, n2_ci, n2_cr, n2_nil, n2_sti, n2_str, tl_some, tl_none, cat_le, List.length_cons, List.length_nil, Option.bind_some, Option.bind_none, Option.map_some, cond_true, cond_false, Bool.and_true, Bool.true_and, reduceIte, Nat.reduceEqDiff, Nat.reduceAdd, Nat.reduceLeDiff, Nat.zero_add, Nat.zero_le, Nat.zero_ne_one, Nat.one_ne_zero, Nat.reduceLT, true_or, or_true, false_or, or_false, false_and, true_and, and_false, and_true, not_false_eq_true, not_true_eq_false, eq_self, mA_A, mA_I, mI_A, mI_I, b01, b10, b01n, b10n, i10, i01, im0, ei_max, ei_min, ei_obj, n30, n20, b011, b101, orn, nor, dneg, dnle, dne, dcl, cat0, cat1, cat2, cat3, cat4, hN, h0, h1, h2, h3, h4, nI_1, na2, na3, na4, na5, r1, r2, r3, r4, r5, h.c1, h'.c2, t1, t2]
theorem LC_20 (h : IV sh M B) (hB : B + 1000000 < 2 ^ 31) (hi : i + 6 ≤ sc.1) (hs : sc.1 < 2 ^ 31) (hL : LwL L i) : ∃ sh' M', evp sc (d + 81) 296 1035 L [] (mk sh M) = evp sc (d + 81) 296 1668 L [] (mk sh' M') ∧ IV sh' M' (B + 1000000) := by
  obtain ⟨ans, sh', M1, M', t1, t2, h'⟩ := ((V_log (sc := sc) (d := d) : Cal sc (d + 80) 151 254 [(1, .int (sc.2 (i + 1))), (2, .int (sc.2 (i + 2)))]) sh M B h hB)
  obtain ⟨hN, h0, h1, h2, h3, h4⟩ := hL
  have r1 := fun h => lw_rd hi hs h (show 1 < 6 by decide)
  have r2 := fun h => lw_rd hi hs h (show 2 < 6 by decide)
  have r3 := fun h => lw_rd hi hs h (show 3 < 6 by decide)
  have r4 := fun h => lw_rd hi hs h (show 4 < 6 by decide)
  have r5 := fun h => lw_rd hi hs h (show 5 < 6 by decide)
  refine ⟨sh', M', ?_, h'⟩
  simp (maxDischargeDepth := 9) only [s296_1035, s296_1036, s296_1037, s296_1039, s296_1040, s296_1041, s296_1042, s296_1043, s296_1045, s296_1046, s296_1047, s296_1048, s296_1051, s296_1052, s296_1053, s296_1055, s296_1056, s296_1057, s296_1058, s296_1059, s296_1061, s296_1062, s296_1063, s296_1064, s296_1067, nl_sti, nl_str, nl_ci, nl_cr, nl_nil, ld_cons, ld_st, lr_some, li_some, lj_some, n2_nl, n2_ci, n2_cr, n2_nil, n2_sti, n2_str, tl_some, tl_none, cat_le, List.length_cons, List.length_nil, Option.bind_some, Option.bind_none, Option.map_some, cond_true, cond_false, Bool.and_true, Bool.true_and, reduceIte, Nat.reduceEqDiff, Nat.reduceAdd, Nat.reduceLeDiff, Nat.zero_add, Nat.zero_le, Nat.zero_ne_one, Nat.one_ne_zero, Nat.reduceLT, true_or, or_true, false_or, or_false, false_and, true_and, and_false, and_true, not_false_eq_true, not_true_eq_false, eq_self, mA_A, mA_I, mI_A, mI_I, b01, b10, b01n, b10n, i10, i01, im0, ei_max, ei_min, ei_obj, n30, n20, b011, b101, orn, nor, dneg, dnle, dne, dcl, cat0, cat1, cat2, cat3, cat4, hN, h0, h1, h2, h3, h4, nI_1, na2, na3, na4, na5, r1, r2, r3, r4, r5, h.c1, h'.c2, t1, t2]
theorem LC_21 (h : IV sh M B) (hB : B + 1000000 < 2 ^ 31) (hi : i + 6 ≤ sc.1) (hs : sc.1 < 2 ^ 31) (hL : LwL L i) : ∃ sh' M', evp sc (d + 81) 296 1072 L [] (mk sh M) = evp sc (d + 81) 296 1668 L [] (mk sh' M') ∧ IV sh' M' (B + 1000000) := by
  obtain ⟨ans, sh', M1, M', t1, t2, h'⟩ := ((V_arrival (sc := sc) (d := d) : Cal sc (d + 80) 152 255 [(1, .int (sc.2 (i + 1))), (2, .int (sc.2 (i + 2)))]) sh M B h hB)
  obtain ⟨hN, h0, h1, h2, h3, h4⟩ := hL
  have r1 := fun h => lw_rd hi hs h (show 1 < 6 by decide)
  have r2 := fun h => lw_rd hi hs h (show 2 < 6 by decide)
  have r3 := fun h => lw_rd hi hs h (show 3 < 6 by decide)
  have r4 := fun h => lw_rd hi hs h (show 4 < 6 by decide)
  have r5 := fun h => lw_rd hi hs h (show 5 < 6 by decide)
  refine ⟨sh', M', ?_, h'⟩
  simp (maxDischargeDepth := 9) only [s296_1072, s296_1073, s296_1074, s296_1076, s296_1077, s296_1078, s296_1079, s296_1080, s296_1082, s296_1083, s296_1084, s296_1085, s296_1088, s296_1089, s296_1090, s296_1092, s296_1093, s296_1094, s296_1095, s296_1096, s296_1098, s296_1099, s296_1100, s296_1101, s296_1104, nl_sti, nl_str, nl_ci, nl_cr, nl_nil, ld_cons, ld_st, lr_some, li_some, lj_some, n2_nl, n2_ci, n2_cr, n2_nil, n2_sti, n2_str, tl_some, tl_none, cat_le, List.length_cons, List.length_nil, Option.bind_some, Option.bind_none, Option.map_some, cond_true, cond_false, Bool.and_true, Bool.true_and, reduceIte, Nat.reduceEqDiff, Nat.reduceAdd, Nat.reduceLeDiff, Nat.zero_add, Nat.zero_le, Nat.zero_ne_one, Nat.one_ne_zero, Nat.reduceLT, true_or, or_true, false_or, or_false, false_and, true_and, and_false, and_true, not_false_eq_true, not_true_eq_false, eq_self, mA_A, mA_I, mI_A, mI_I, b01, b10, b01n, b10n, i10, i01, im0, ei_max, ei_min, ei_obj, n30, n20, b011, b101, orn, nor, dneg, dnle, dne, dcl, cat0, cat1, cat2, cat3, cat4, hN, h0, h1, h2, h3, h4, nI_1, na2, na3, na4, na5, r1, r2, r3, r4, r5, h.c1, h'.c2, t1, t2]
theorem LC_22 (h : IV sh M B) (hB : B + 1000000 < 2 ^ 31) (hi : i + 6 ≤ sc.1) (hs : sc.1 < 2 ^ 31) (hL : LwL L i) : ∃ sh' M', evp sc (d + 81) 296 1109 L [] (mk sh M) = evp sc (d + 81) 296 1668 L [] (mk sh' M') ∧ IV sh' M' (B + 1000000) := by
  obtain ⟨ans, sh', M1, M', t1, t2, h'⟩ := ((V_ahead (sc := sc) (d := d) : Cal sc (d + 80) 153 266 [(1, .int (sc.2 (i + 1))), (2, .int (sc.2 (i + 2)))]) sh M B h hB)
  obtain ⟨hN, h0, h1, h2, h3, h4⟩ := hL
  have r1 := fun h => lw_rd hi hs h (show 1 < 6 by decide)
  have r2 := fun h => lw_rd hi hs h (show 2 < 6 by decide)
  have r3 := fun h => lw_rd hi hs h (show 3 < 6 by decide)
  have r4 := fun h => lw_rd hi hs h (show 4 < 6 by decide)
  have r5 := fun h => lw_rd hi hs h (show 5 < 6 by decide)
  refine ⟨sh', M', ?_, h'⟩
  simp (maxDischargeDepth := 9) only [s296_1109, s296_1110, s296_1111, s296_1113, s296_1114, s296_1115, s296_1116, s296_1117, s296_1119, s296_1120, s296_1121, s296_1122, s296_1125, s296_1126, s296_1127, s296_1129, s296_1130, s296_1131, s296_1132, s296_1133, s296_1135, s296_1136, s296_1137, s296_1138, s296_1141, nl_sti, nl_str, nl_ci, nl_cr, nl_nil, ld_cons, ld_st, lr_some, li_some, lj_some, n2_nl, n2_ci, n2_cr, n2_nil, n2_sti, n2_str, tl_some, tl_none, cat_le, List.length_cons, List.length_nil, Option.bind_some, Option.bind_none, Option.map_some, cond_true, cond_false, Bool.and_true, Bool.true_and, reduceIte, Nat.reduceEqDiff, Nat.reduceAdd, Nat.reduceLeDiff, Nat.zero_add, Nat.zero_le, Nat.zero_ne_one, Nat.one_ne_zero, Nat.reduceLT, true_or, or_true, false_or, or_false, false_and, true_and, and_false, and_true, not_false_eq_true, not_true_eq_false, eq_self, mA_A, mA_I, mI_A, mI_I, b01, b10, b01n, b10n, i10, i01, im0, ei_max, ei_min, ei_obj, n30, n20, b011, b101, orn, nor, dneg, dnle, dne, dcl, cat0, cat1, cat2, cat3, cat4, hN, h0, h1, h2, h3, h4, nI_1, na2, na3, na4, na5, r1, r2, r3, r4, r5, h.c1, h'.c2, t1, t2]
theorem LC_23 (h : IV sh M B) (hB : B + 1000000 < 2 ^ 31) (hi : i + 6 ≤ sc.1) (hs : sc.1 < 2 ^ 31) (hL : LwL L i) : ∃ sh' M', evp sc (d + 81) 296 1146 L [] (mk sh M) = evp sc (d + 81) 296 1668 L [] (mk sh' M') ∧ IV sh' M' (B + 1000000) := by
  obtain ⟨ans, sh', M1, M', t1, t2, h'⟩ := ((V_when (sc := sc) (d := d) : Cal sc (d + 80) 154 269 [(1, .int (sc.2 (i + 1)))]) sh M B h hB)
  obtain ⟨hN, h0, h1, h2, h3, h4⟩ := hL
  have r1 := fun h => lw_rd hi hs h (show 1 < 6 by decide)
  have r2 := fun h => lw_rd hi hs h (show 2 < 6 by decide)
  have r3 := fun h => lw_rd hi hs h (show 3 < 6 by decide)
  have r4 := fun h => lw_rd hi hs h (show 4 < 6 by decide)
  have r5 := fun h => lw_rd hi hs h (show 5 < 6 by decide)
  refine ⟨sh', M', ?_, h'⟩
  simp (maxDischargeDepth := 9) only [s296_1146, s296_1147, s296_1148, s296_1150, s296_1151, s296_1152, s296_1153, s296_1156, s296_1157, s296_1158, s296_1160, s296_1161, s296_1162, s296_1163, s296_1166, nl_sti, nl_str, nl_ci, nl_cr, nl_nil, ld_cons, ld_st, lr_some, li_some, lj_some, n2_nl, n2_ci, n2_cr, n2_nil, n2_sti, n2_str, tl_some, tl_none, cat_le, List.length_cons, List.length_nil, Option.bind_some, Option.bind_none, Option.map_some, cond_true, cond_false, Bool.and_true, Bool.true_and, reduceIte, Nat.reduceEqDiff, Nat.reduceAdd, Nat.reduceLeDiff, Nat.zero_add, Nat.zero_le, Nat.zero_ne_one, Nat.one_ne_zero, Nat.reduceLT, true_or, or_true, false_or, or_false, false_and, true_and, and_false, and_true, not_false_eq_true, not_true_eq_false, eq_self, mA_A, mA_I, mI_A, mI_I, b01, b10, b01n, b10n, i10, i01, im0, ei_max, ei_min, ei_obj, n30, n20, b011, b101, orn, nor, dneg, dnle, dne, dcl, cat0, cat1, cat2, cat3, cat4, hN, h0, h1, h2, h3, h4, nI_1, na2, na3, na4, na5, r1, r2, r3, r4, r5, h.c1, h'.c2, t1, t2]
theorem LC_24 (h : IV sh M B) (hB : B + 1000000 < 2 ^ 31) (hi : i + 6 ≤ sc.1) (hs : sc.1 < 2 ^ 31) (hL : LwL L i) : ∃ sh' M', evp sc (d + 81) 296 1171 L [] (mk sh M) = evp sc (d + 81) 296 1668 L [] (mk sh' M') ∧ IV sh' M' (B + 1000000) := by
  obtain ⟨ans, sh', M1, M', t1, t2, h'⟩ := ((V_next (sc := sc) (d := d) : Cal sc (d + 80) 155 270 [(1, .int (sc.2 (i + 1)))]) sh M B h hB)
  obtain ⟨hN, h0, h1, h2, h3, h4⟩ := hL
  have r1 := fun h => lw_rd hi hs h (show 1 < 6 by decide)
  have r2 := fun h => lw_rd hi hs h (show 2 < 6 by decide)
  have r3 := fun h => lw_rd hi hs h (show 3 < 6 by decide)
  have r4 := fun h => lw_rd hi hs h (show 4 < 6 by decide)
  have r5 := fun h => lw_rd hi hs h (show 5 < 6 by decide)
  refine ⟨sh', M', ?_, h'⟩
  simp (maxDischargeDepth := 9) only [s296_1171, s296_1172, s296_1173, s296_1175, s296_1176, s296_1177, s296_1178, s296_1181, s296_1182, s296_1183, s296_1185, s296_1186, s296_1187, s296_1188, s296_1191, nl_sti, nl_str, nl_ci, nl_cr, nl_nil, ld_cons, ld_st, lr_some, li_some, lj_some, n2_nl, n2_ci, n2_cr, n2_nil, n2_sti, n2_str, tl_some, tl_none, cat_le, List.length_cons, List.length_nil, Option.bind_some, Option.bind_none, Option.map_some, cond_true, cond_false, Bool.and_true, Bool.true_and, reduceIte, Nat.reduceEqDiff, Nat.reduceAdd, Nat.reduceLeDiff, Nat.zero_add, Nat.zero_le, Nat.zero_ne_one, Nat.one_ne_zero, Nat.reduceLT, true_or, or_true, false_or, or_false, false_and, true_and, and_false, and_true, not_false_eq_true, not_true_eq_false, eq_self, mA_A, mA_I, mI_A, mI_I, b01, b10, b01n, b10n, i10, i01, im0, ei_max, ei_min, ei_obj, n30, n20, b011, b101, orn, nor, dneg, dnle, dne, dcl, cat0, cat1, cat2, cat3, cat4, hN, h0, h1, h2, h3, h4, nI_1, na2, na3, na4, na5, r1, r2, r3, r4, r5, h.c1, h'.c2, t1, t2]
theorem LC_25 (h : IV sh M B) (hB : B + 1000000 < 2 ^ 31) (hi : i + 6 ≤ sc.1) (hs : sc.1 < 2 ^ 31) (hL : LwL L i) : ∃ sh' M', evp sc (d + 81) 296 1196 L [] (mk sh M) = evp sc (d + 81) 296 1668 L [] (mk sh' M') ∧ IV sh' M' (B + 1000000) := by
  obtain ⟨ans, sh', M1, M', t1, t2, h'⟩ := ((V_drained (sc := sc) (d := d) : Cal sc (d + 80) 156 271 []) sh M B h hB)
  obtain ⟨hN, h0, h1, h2, h3, h4⟩ := hL
  have r1 := fun h => lw_rd hi hs h (show 1 < 6 by decide)
  have r2 := fun h => lw_rd hi hs h (show 2 < 6 by decide)
  have r3 := fun h => lw_rd hi hs h (show 3 < 6 by decide)
  have r4 := fun h => lw_rd hi hs h (show 4 < 6 by decide)
  have r5 := fun h => lw_rd hi hs h (show 5 < 6 by decide)
  refine ⟨sh', M', ?_, h'⟩
  simp (maxDischargeDepth := 9) only [s296_1196, s296_1197, s296_1200, s296_1201, s296_1204, nl_sti, nl_str, nl_ci, nl_cr, nl_nil, ld_cons, ld_st, lr_some, li_some, lj_some, n2_nl, n2_ci, n2_cr, n2_nil, n2_sti, n2_str, tl_some, tl_none, cat_le, List.length_cons, List.length_nil, Option.bind_some, Option.bind_none, Option.map_some, cond_true, cond_false, Bool.and_true, Bool.true_and, reduceIte, Nat.reduceEqDiff, Nat.reduceAdd, Nat.reduceLeDiff, Nat.zero_add, Nat.zero_le, Nat.zero_ne_one, Nat.one_ne_zero, Nat.reduceLT, true_or, or_true, false_or, or_false, false_and, true_and, and_false, and_true, not_false_eq_true, not_true_eq_false, eq_self, mA_A, mA_I, mI_A, mI_I, b01, b10, b01n, b10n, i10, i01, im0, ei_max, ei_min, ei_obj, n30, n20, b011, b101, orn, nor, dneg, dnle, dne, dcl, cat0, cat1, cat2, cat3, cat4, hN, h0, h1, h2, h3, h4, nI_1, na2, na3, na4, na5, r1, r2, r3, r4, r5, h.c1, h'.c2, t1, t2]
theorem LC_26 (h : IV sh M B) (hB : B + 1000000 < 2 ^ 31) (hi : i + 6 ≤ sc.1) (hs : sc.1 < 2 ^ 31) (hL : LwL L i) : ∃ sh' M', evp sc (d + 81) 296 1209 L [] (mk sh M) = evp sc (d + 81) 296 1668 L [] (mk sh' M') ∧ IV sh' M' (B + 1000000) := by
  obtain ⟨ans, sh', M1, M', t1, t2, h'⟩ := ((V_share (sc := sc) (d := d) : Cal sc (d + 80) 157 272 [(1, .int (sc.2 (i + 1))), (2, .int (sc.2 (i + 2)))]) sh M B h hB)
  obtain ⟨hN, h0, h1, h2, h3, h4⟩ := hL
  have r1 := fun h => lw_rd hi hs h (show 1 < 6 by decide)
  have r2 := fun h => lw_rd hi hs h (show 2 < 6 by decide)
  have r3 := fun h => lw_rd hi hs h (show 3 < 6 by decide)
  have r4 := fun h => lw_rd hi hs h (show 4 < 6 by decide)
  have r5 := fun h => lw_rd hi hs h (show 5 < 6 by decide)
  refine ⟨sh', M', ?_, h'⟩
  simp (maxDischargeDepth := 9) only [s296_1209, s296_1210, s296_1211, s296_1213, s296_1214, s296_1215, s296_1216, s296_1217, s296_1219, s296_1220, s296_1221, s296_1222, s296_1225, s296_1226, s296_1227, s296_1229, s296_1230, s296_1231, s296_1232, s296_1233, s296_1235, s296_1236, s296_1237, s296_1238, s296_1241, nl_sti, nl_str, nl_ci, nl_cr, nl_nil, ld_cons, ld_st, lr_some, li_some, lj_some, n2_nl, n2_ci, n2_cr, n2_nil, n2_sti, n2_str, tl_some, tl_none, cat_le, List.length_cons, List.length_nil, Option.bind_some, Option.bind_none, Option.map_some, cond_true, cond_false, Bool.and_true, Bool.true_and, reduceIte, Nat.reduceEqDiff, Nat.reduceAdd, Nat.reduceLeDiff, Nat.zero_add, Nat.zero_le, Nat.zero_ne_one, Nat.one_ne_zero, Nat.reduceLT, true_or, or_true, false_or, or_false, false_and, true_and, and_false, and_true, not_false_eq_true, not_true_eq_false, eq_self, mA_A, mA_I, mI_A, mI_I, b01, b10, b01n, b10n, i10, i01, im0, ei_max, ei_min, ei_obj, n30, n20, b011, b101, orn, nor, dneg, dnle, dne, dcl, cat0, cat1, cat2, cat3, cat4, hN, h0, h1, h2, h3, h4, nI_1, na2, na3, na4, na5, r1, r2, r3, r4, r5, h.c1, h'.c2, t1, t2]
theorem LC_27 (h : IV sh M B) (hB : B + 1000000 < 2 ^ 31) (hi : i + 6 ≤ sc.1) (hs : sc.1 < 2 ^ 31) (hL : LwL L i) : ∃ sh' M', evp sc (d + 81) 296 1246 L [] (mk sh M) = evp sc (d + 81) 296 1668 L [] (mk sh' M') ∧ IV sh' M' (B + 1000000) := by
  obtain ⟨ans, sh', M1, M', t1, t2, h'⟩ := ((V_fair (sc := sc) (d := d) : Cal sc (d + 80) 158 274 [(1, .int (sc.2 (i + 1))), (2, .int (sc.2 (i + 2)))]) sh M B h hB)
  obtain ⟨hN, h0, h1, h2, h3, h4⟩ := hL
  have r1 := fun h => lw_rd hi hs h (show 1 < 6 by decide)
  have r2 := fun h => lw_rd hi hs h (show 2 < 6 by decide)
  have r3 := fun h => lw_rd hi hs h (show 3 < 6 by decide)
  have r4 := fun h => lw_rd hi hs h (show 4 < 6 by decide)
  have r5 := fun h => lw_rd hi hs h (show 5 < 6 by decide)
  refine ⟨sh', M', ?_, h'⟩
  simp (maxDischargeDepth := 9) only [s296_1246, s296_1247, s296_1248, s296_1250, s296_1251, s296_1252, s296_1253, s296_1254, s296_1256, s296_1257, s296_1258, s296_1259, s296_1262, s296_1263, s296_1264, s296_1266, s296_1267, s296_1268, s296_1269, s296_1270, s296_1272, s296_1273, s296_1274, s296_1275, s296_1278, nl_sti, nl_str, nl_ci, nl_cr, nl_nil, ld_cons, ld_st, lr_some, li_some, lj_some, n2_nl, n2_ci, n2_cr, n2_nil, n2_sti, n2_str, tl_some, tl_none, cat_le, List.length_cons, List.length_nil, Option.bind_some, Option.bind_none, Option.map_some, cond_true, cond_false, Bool.and_true, Bool.true_and, reduceIte, Nat.reduceEqDiff, Nat.reduceAdd, Nat.reduceLeDiff, Nat.zero_add, Nat.zero_le, Nat.zero_ne_one, Nat.one_ne_zero, Nat.reduceLT, true_or, or_true, false_or, or_false, false_and, true_and, and_false, and_true, not_false_eq_true, not_true_eq_false, eq_self, mA_A, mA_I, mI_A, mI_I, b01, b10, b01n, b10n, i10, i01, im0, ei_max, ei_min, ei_obj, n30, n20, b011, b101, orn, nor, dneg, dnle, dne, dcl, cat0, cat1, cat2, cat3, cat4, hN, h0, h1, h2, h3, h4, nI_1, na2, na3, na4, na5, r1, r2, r3, r4, r5, h.c1, h'.c2, t1, t2]
theorem LC_28 (hFC : Cal sc (d + 80) 159 276 []) (h : IV sh M B) (hB : B + 1000000 < 2 ^ 31) (hi : i + 6 ≤ sc.1) (hs : sc.1 < 2 ^ 31) (hL : LwL L i) : ∃ sh' M', evp sc (d + 81) 296 1283 L [] (mk sh M) = evp sc (d + 81) 296 1668 L [] (mk sh' M') ∧ IV sh' M' (B + 1000000) := by
  obtain ⟨ans, sh', M1, M', t1, t2, h'⟩ := (hFC sh M B h hB)
  obtain ⟨hN, h0, h1, h2, h3, h4⟩ := hL
  have r1 := fun h => lw_rd hi hs h (show 1 < 6 by decide)
  have r2 := fun h => lw_rd hi hs h (show 2 < 6 by decide)
  have r3 := fun h => lw_rd hi hs h (show 3 < 6 by decide)
  have r4 := fun h => lw_rd hi hs h (show 4 < 6 by decide)
  have r5 := fun h => lw_rd hi hs h (show 5 < 6 by decide)
  refine ⟨sh', M', ?_, h'⟩
  simp (maxDischargeDepth := 9) only [s296_1283, s296_1284, s296_1287, s296_1288, s296_1291, nl_sti, nl_str, nl_ci, nl_cr, nl_nil, ld_cons, ld_st, lr_some, li_some, lj_some, n2_nl, n2_ci, n2_cr, n2_nil, n2_sti, n2_str, tl_some, tl_none, cat_le, List.length_cons, List.length_nil, Option.bind_some, Option.bind_none, Option.map_some, cond_true, cond_false, Bool.and_true, Bool.true_and, reduceIte, Nat.reduceEqDiff, Nat.reduceAdd, Nat.reduceLeDiff, Nat.zero_add, Nat.zero_le, Nat.zero_ne_one, Nat.one_ne_zero, Nat.reduceLT, true_or, or_true, false_or, or_false, false_and, true_and, and_false, and_true, not_false_eq_true, not_true_eq_false, eq_self, mA_A, mA_I, mI_A, mI_I, b01, b10, b01n, b10n, i10, i01, im0, ei_max, ei_min, ei_obj, n30, n20, b011, b101, orn, nor, dneg, dnle, dne, dcl, cat0, cat1, cat2, cat3, cat4, hN, h0, h1, h2, h3, h4, nI_1, na2, na3, na4, na5, r1, r2, r3, r4, r5, h.c1, h'.c2, t1, t2]
theorem LC_29 (h : IV sh M B) (hB : B + 1000000 < 2 ^ 31) (hi : i + 6 ≤ sc.1) (hs : sc.1 < 2 ^ 31) (hL : LwL L i) : ∃ sh' M', evp sc (d + 81) 296 1296 L [] (mk sh M) = evp sc (d + 81) 296 1668 L [] (mk sh' M') ∧ IV sh' M' (B + 1000000) := by
  obtain ⟨ans, sh', M1, M', t1, t2, h'⟩ := ((V_worst (sc := sc) (d := d) : Cal sc (d + 80) 160 278 [(1, .int (sc.2 (i + 1)))]) sh M B h hB)
  obtain ⟨hN, h0, h1, h2, h3, h4⟩ := hL
  have r1 := fun h => lw_rd hi hs h (show 1 < 6 by decide)
  have r2 := fun h => lw_rd hi hs h (show 2 < 6 by decide)
  have r3 := fun h => lw_rd hi hs h (show 3 < 6 by decide)
  have r4 := fun h => lw_rd hi hs h (show 4 < 6 by decide)
  have r5 := fun h => lw_rd hi hs h (show 5 < 6 by decide)
  refine ⟨sh', M', ?_, h'⟩
  simp (maxDischargeDepth := 9) only [s296_1296, s296_1297, s296_1298, s296_1300, s296_1301, s296_1302, s296_1303, s296_1306, s296_1307, s296_1308, s296_1310, s296_1311, s296_1312, s296_1313, s296_1316, nl_sti, nl_str, nl_ci, nl_cr, nl_nil, ld_cons, ld_st, lr_some, li_some, lj_some, n2_nl, n2_ci, n2_cr, n2_nil, n2_sti, n2_str, tl_some, tl_none, cat_le, List.length_cons, List.length_nil, Option.bind_some, Option.bind_none, Option.map_some, cond_true, cond_false, Bool.and_true, Bool.true_and, reduceIte, Nat.reduceEqDiff, Nat.reduceAdd, Nat.reduceLeDiff, Nat.zero_add, Nat.zero_le, Nat.zero_ne_one, Nat.one_ne_zero, Nat.reduceLT, true_or, or_true, false_or, or_false, false_and, true_and, and_false, and_true, not_false_eq_true, not_true_eq_false, eq_self, mA_A, mA_I, mI_A, mI_I, b01, b10, b01n, b10n, i10, i01, im0, ei_max, ei_min, ei_obj, n30, n20, b011, b101, orn, nor, dneg, dnle, dne, dcl, cat0, cat1, cat2, cat3, cat4, hN, h0, h1, h2, h3, h4, nI_1, na2, na3, na4, na5, r1, r2, r3, r4, r5, h.c1, h'.c2, t1, t2]
theorem LC_30 (h : IV sh M B) (hB : B + 1000000 < 2 ^ 31) (hi : i + 6 ≤ sc.1) (hs : sc.1 < 2 ^ 31) (hL : LwL L i) : ∃ sh' M', evp sc (d + 81) 296 1321 L [] (mk sh M) = evp sc (d + 81) 296 1668 L [] (mk sh' M') ∧ IV sh' M' (B + 1000000) := by
  obtain ⟨ans, sh', M1, M', t1, t2, h'⟩ := ((V_gain (sc := sc) (d := d) : Cal sc (d + 80) 161 279 [(1, .int (sc.2 (i + 1))), (2, .int (sc.2 (i + 2)))]) sh M B h hB)
  obtain ⟨hN, h0, h1, h2, h3, h4⟩ := hL
  have r1 := fun h => lw_rd hi hs h (show 1 < 6 by decide)
  have r2 := fun h => lw_rd hi hs h (show 2 < 6 by decide)
  have r3 := fun h => lw_rd hi hs h (show 3 < 6 by decide)
  have r4 := fun h => lw_rd hi hs h (show 4 < 6 by decide)
  have r5 := fun h => lw_rd hi hs h (show 5 < 6 by decide)
  refine ⟨sh', M', ?_, h'⟩
  simp (maxDischargeDepth := 9) only [s296_1321, s296_1322, s296_1323, s296_1325, s296_1326, s296_1327, s296_1328, s296_1329, s296_1331, s296_1332, s296_1333, s296_1334, s296_1337, s296_1338, s296_1339, s296_1341, s296_1342, s296_1343, s296_1344, s296_1345, s296_1347, s296_1348, s296_1349, s296_1350, s296_1353, nl_sti, nl_str, nl_ci, nl_cr, nl_nil, ld_cons, ld_st, lr_some, li_some, lj_some, n2_nl, n2_ci, n2_cr, n2_nil, n2_sti, n2_str, tl_some, tl_none, cat_le, List.length_cons, List.length_nil, Option.bind_some, Option.bind_none, Option.map_some, cond_true, cond_false, Bool.and_true, Bool.true_and, reduceIte, Nat.reduceEqDiff, Nat.reduceAdd, Nat.reduceLeDiff, Nat.zero_add, Nat.zero_le, Nat.zero_ne_one, Nat.one_ne_zero, Nat.reduceLT, true_or, or_true, false_or, or_false, false_and, true_and, and_false, and_true, not_false_eq_true, not_true_eq_false, eq_self, mA_A, mA_I, mI_A, mI_I, b01, b10, b01n, b10n, i10, i01, im0, ei_max, ei_min, ei_obj, n30, n20, b011, b101, orn, nor, dneg, dnle, dne, dcl, cat0, cat1, cat2, cat3, cat4, hN, h0, h1, h2, h3, h4, nI_1, na2, na3, na4, na5, r1, r2, r3, r4, r5, h.c1, h'.c2, t1, t2]
theorem LC_31 (h : IV sh M B) (hB : B + 1000000 < 2 ^ 31) (hi : i + 6 ≤ sc.1) (hs : sc.1 < 2 ^ 31) (hL : LwL L i) : ∃ sh' M', evp sc (d + 81) 296 1358 L [] (mk sh M) = evp sc (d + 81) 296 1668 L [] (mk sh' M') ∧ IV sh' M' (B + 1000000) := by
  obtain ⟨ans, sh', M1, M', t1, t2, h'⟩ := ((V_spread (sc := sc) (d := d) : Cal sc (d + 80) 162 283 [(1, .int (sc.2 (i + 1)))]) sh M B h hB)
  obtain ⟨hN, h0, h1, h2, h3, h4⟩ := hL
  have r1 := fun h => lw_rd hi hs h (show 1 < 6 by decide)
  have r2 := fun h => lw_rd hi hs h (show 2 < 6 by decide)
  have r3 := fun h => lw_rd hi hs h (show 3 < 6 by decide)
  have r4 := fun h => lw_rd hi hs h (show 4 < 6 by decide)
  have r5 := fun h => lw_rd hi hs h (show 5 < 6 by decide)
  refine ⟨sh', M', ?_, h'⟩
  simp (maxDischargeDepth := 9) only [s296_1358, s296_1359, s296_1360, s296_1362, s296_1363, s296_1364, s296_1365, s296_1368, s296_1369, s296_1370, s296_1372, s296_1373, s296_1374, s296_1375, s296_1378, nl_sti, nl_str, nl_ci, nl_cr, nl_nil, ld_cons, ld_st, lr_some, li_some, lj_some, n2_nl, n2_ci, n2_cr, n2_nil, n2_sti, n2_str, tl_some, tl_none, cat_le, List.length_cons, List.length_nil, Option.bind_some, Option.bind_none, Option.map_some, cond_true, cond_false, Bool.and_true, Bool.true_and, reduceIte, Nat.reduceEqDiff, Nat.reduceAdd, Nat.reduceLeDiff, Nat.zero_add, Nat.zero_le, Nat.zero_ne_one, Nat.one_ne_zero, Nat.reduceLT, true_or, or_true, false_or, or_false, false_and, true_and, and_false, and_true, not_false_eq_true, not_true_eq_false, eq_self, mA_A, mA_I, mI_A, mI_I, b01, b10, b01n, b10n, i10, i01, im0, ei_max, ei_min, ei_obj, n30, n20, b011, b101, orn, nor, dneg, dnle, dne, dcl, cat0, cat1, cat2, cat3, cat4, hN, h0, h1, h2, h3, h4, nI_1, na2, na3, na4, na5, r1, r2, r3, r4, r5, h.c1, h'.c2, t1, t2]
theorem LC_32 (h : IV sh M B) (hB : B + 1000000 < 2 ^ 31) (hi : i + 6 ≤ sc.1) (hs : sc.1 < 2 ^ 31) (hL : LwL L i) : ∃ sh' M', evp sc (d + 81) 296 1383 L [] (mk sh M) = evp sc (d + 81) 296 1668 L [] (mk sh' M') ∧ IV sh' M' (B + 1000000) := by
  obtain ⟨ans, sh', M1, M', t1, t2, h'⟩ := ((V_mean (sc := sc) (d := d) : Cal sc (d + 80) 163 284 [(1, .int (sc.2 (i + 1))), (2, .int (sc.2 (i + 2)))]) sh M B h hB)
  obtain ⟨hN, h0, h1, h2, h3, h4⟩ := hL
  have r1 := fun h => lw_rd hi hs h (show 1 < 6 by decide)
  have r2 := fun h => lw_rd hi hs h (show 2 < 6 by decide)
  have r3 := fun h => lw_rd hi hs h (show 3 < 6 by decide)
  have r4 := fun h => lw_rd hi hs h (show 4 < 6 by decide)
  have r5 := fun h => lw_rd hi hs h (show 5 < 6 by decide)
  refine ⟨sh', M', ?_, h'⟩
  simp (maxDischargeDepth := 9) only [s296_1383, s296_1384, s296_1385, s296_1387, s296_1388, s296_1389, s296_1390, s296_1391, s296_1393, s296_1394, s296_1395, s296_1396, s296_1399, s296_1400, s296_1401, s296_1403, s296_1404, s296_1405, s296_1406, s296_1407, s296_1409, s296_1410, s296_1411, s296_1412, s296_1415, nl_sti, nl_str, nl_ci, nl_cr, nl_nil, ld_cons, ld_st, lr_some, li_some, lj_some, n2_nl, n2_ci, n2_cr, n2_nil, n2_sti, n2_str, tl_some, tl_none, cat_le, List.length_cons, List.length_nil, Option.bind_some, Option.bind_none, Option.map_some, cond_true, cond_false, Bool.and_true, Bool.true_and, reduceIte, Nat.reduceEqDiff, Nat.reduceAdd, Nat.reduceLeDiff, Nat.zero_add, Nat.zero_le, Nat.zero_ne_one, Nat.one_ne_zero, Nat.reduceLT, true_or, or_true, false_or, or_false, false_and, true_and, and_false, and_true, not_false_eq_true, not_true_eq_false, eq_self, mA_A, mA_I, mI_A, mI_I, b01, b10, b01n, b10n, i10, i01, im0, ei_max, ei_min, ei_obj, n30, n20, b011, b101, orn, nor, dneg, dnle, dne, dcl, cat0, cat1, cat2, cat3, cat4, hN, h0, h1, h2, h3, h4, nI_1, na2, na3, na4, na5, r1, r2, r3, r4, r5, h.c1, h'.c2, t1, t2]
theorem LC_33 (h : IV sh M B) (hB : B + 1000000 < 2 ^ 31) (hi : i + 6 ≤ sc.1) (hs : sc.1 < 2 ^ 31) (hL : LwL L i) : ∃ sh' M', evp sc (d + 81) 296 1420 L [] (mk sh M) = evp sc (d + 81) 296 1668 L [] (mk sh' M') ∧ IV sh' M' (B + 1000000) := by
  obtain ⟨ans, sh', M1, M', t1, t2, h'⟩ := ((V_hurt (sc := sc) (d := d) : Cal sc (d + 80) 164 285 [(1, .int (sc.2 (i + 1))), (2, .int (sc.2 (i + 2))), (3, .int (sc.2 (i + 3))), (4, .int (sc.2 (i + 4)))]) sh M B h hB)
  obtain ⟨hN, h0, h1, h2, h3, h4⟩ := hL
  have r1 := fun h => lw_rd hi hs h (show 1 < 6 by decide)
  have r2 := fun h => lw_rd hi hs h (show 2 < 6 by decide)
  have r3 := fun h => lw_rd hi hs h (show 3 < 6 by decide)
  have r4 := fun h => lw_rd hi hs h (show 4 < 6 by decide)
  have r5 := fun h => lw_rd hi hs h (show 5 < 6 by decide)
  refine ⟨sh', M', ?_, h'⟩
  simp (maxDischargeDepth := 9) only [s296_1420, s296_1421, s296_1422, s296_1424, s296_1425, s296_1426, s296_1427, s296_1428, s296_1430, s296_1431, s296_1432, s296_1433, s296_1434, s296_1436, s296_1437, s296_1438, s296_1439, s296_1440, s296_1442, s296_1443, s296_1444, s296_1445, s296_1448, s296_1449, s296_1450, s296_1452, s296_1453, s296_1454, s296_1455, s296_1456, s296_1458, s296_1459, s296_1460, s296_1461, s296_1462, s296_1464, s296_1465, s296_1466, s296_1467, s296_1468, s296_1470, s296_1471, s296_1472, s296_1473, s296_1476, nl_sti, nl_str, nl_ci, nl_cr, nl_nil, ld_cons, ld_st, lr_some, li_some, lj_some, n2_nl, n2_ci, n2_cr, n2_nil, n2_sti, n2_str, tl_some, tl_none, cat_le, List.length_cons, List.length_nil, Option.bind_some, Option.bind_none, Option.map_some, cond_true, cond_false, Bool.and_true, Bool.true_and, reduceIte, Nat.reduceEqDiff, Nat.reduceAdd, Nat.reduceLeDiff, Nat.zero_add, Nat.zero_le, Nat.zero_ne_one, Nat.one_ne_zero, Nat.reduceLT, true_or, or_true, false_or, or_false, false_and, true_and, and_false, and_true, not_false_eq_true, not_true_eq_false, eq_self, mA_A, mA_I, mI_A, mI_I, b01, b10, b01n, b10n, i10, i01, im0, ei_max, ei_min, ei_obj, n30, n20, b011, b101, orn, nor, dneg, dnle, dne, dcl, cat0, cat1, cat2, cat3, cat4, hN, h0, h1, h2, h3, h4, nI_1, na2, na3, na4, na5, r1, r2, r3, r4, r5, h.c1, h'.c2, t1, t2]
theorem LC_34 (h : IV sh M B) (hB : B + 1000000 < 2 ^ 31) (hi : i + 6 ≤ sc.1) (hs : sc.1 < 2 ^ 31) (hL : LwL L i) : ∃ sh' M', evp sc (d + 81) 296 1481 L [] (mk sh M) = evp sc (d + 81) 296 1668 L [] (mk sh' M') ∧ IV sh' M' (B + 1000000) := by
  obtain ⟨ans, sh', M1, M', t1, t2, h'⟩ := ((V_step (sc := sc) (d := d) : Cal sc (d + 80) 165 287 [(1, .int (sc.2 (i + 1))), (2, .int (sc.2 (i + 2))), (3, .int (sc.2 (i + 3)))]) sh M B h hB)
  obtain ⟨hN, h0, h1, h2, h3, h4⟩ := hL
  have r1 := fun h => lw_rd hi hs h (show 1 < 6 by decide)
  have r2 := fun h => lw_rd hi hs h (show 2 < 6 by decide)
  have r3 := fun h => lw_rd hi hs h (show 3 < 6 by decide)
  have r4 := fun h => lw_rd hi hs h (show 4 < 6 by decide)
  have r5 := fun h => lw_rd hi hs h (show 5 < 6 by decide)
  refine ⟨sh', M', ?_, h'⟩
  simp (maxDischargeDepth := 9) only [s296_1481, s296_1482, s296_1483, s296_1485, s296_1486, s296_1487, s296_1488, s296_1489, s296_1491, s296_1492, s296_1493, s296_1494, s296_1495, s296_1497, s296_1498, s296_1499, s296_1500, s296_1503, s296_1504, s296_1505, s296_1507, s296_1508, s296_1509, s296_1510, s296_1511, s296_1513, s296_1514, s296_1515, s296_1516, s296_1517, s296_1519, s296_1520, s296_1521, s296_1522, s296_1525, nl_sti, nl_str, nl_ci, nl_cr, nl_nil, ld_cons, ld_st, lr_some, li_some, lj_some, n2_nl, n2_ci, n2_cr, n2_nil, n2_sti, n2_str, tl_some, tl_none, cat_le, List.length_cons, List.length_nil, Option.bind_some, Option.bind_none, Option.map_some, cond_true, cond_false, Bool.and_true, Bool.true_and, reduceIte, Nat.reduceEqDiff, Nat.reduceAdd, Nat.reduceLeDiff, Nat.zero_add, Nat.zero_le, Nat.zero_ne_one, Nat.one_ne_zero, Nat.reduceLT, true_or, or_true, false_or, or_false, false_and, true_and, and_false, and_true, not_false_eq_true, not_true_eq_false, eq_self, mA_A, mA_I, mI_A, mI_I, b01, b10, b01n, b10n, i10, i01, im0, ei_max, ei_min, ei_obj, n30, n20, b011, b101, orn, nor, dneg, dnle, dne, dcl, cat0, cat1, cat2, cat3, cat4, hN, h0, h1, h2, h3, h4, nI_1, na2, na3, na4, na5, r1, r2, r3, r4, r5, h.c1, h'.c2, t1, t2]
theorem LC_35 (h : IV sh M B) (hB : B + 1000000 < 2 ^ 31) (hi : i + 6 ≤ sc.1) (hs : sc.1 < 2 ^ 31) (hL : LwL L i) : ∃ sh' M', evp sc (d + 81) 296 1530 L [] (mk sh M) = evp sc (d + 81) 296 1668 L [] (mk sh' M') ∧ IV sh' M' (B + 1000000) := by
  obtain ⟨ans, sh', M1, M', t1, t2, h'⟩ := ((V_run (sc := sc) (d := d) : Cal sc (d + 80) 166 288 [(1, .int (sc.2 (i + 1))), (2, .int (sc.2 (i + 2)))]) sh M B h hB)
  obtain ⟨hN, h0, h1, h2, h3, h4⟩ := hL
  have r1 := fun h => lw_rd hi hs h (show 1 < 6 by decide)
  have r2 := fun h => lw_rd hi hs h (show 2 < 6 by decide)
  have r3 := fun h => lw_rd hi hs h (show 3 < 6 by decide)
  have r4 := fun h => lw_rd hi hs h (show 4 < 6 by decide)
  have r5 := fun h => lw_rd hi hs h (show 5 < 6 by decide)
  refine ⟨sh', M', ?_, h'⟩
  simp (maxDischargeDepth := 9) only [s296_1530, s296_1531, s296_1532, s296_1534, s296_1535, s296_1536, s296_1537, s296_1538, s296_1540, s296_1541, s296_1542, s296_1543, s296_1546, s296_1547, s296_1548, s296_1550, s296_1551, s296_1552, s296_1553, s296_1554, s296_1556, s296_1557, s296_1558, s296_1559, s296_1562, nl_sti, nl_str, nl_ci, nl_cr, nl_nil, ld_cons, ld_st, lr_some, li_some, lj_some, n2_nl, n2_ci, n2_cr, n2_nil, n2_sti, n2_str, tl_some, tl_none, cat_le, List.length_cons, List.length_nil, Option.bind_some, Option.bind_none, Option.map_some, cond_true, cond_false, Bool.and_true, Bool.true_and, reduceIte, Nat.reduceEqDiff, Nat.reduceAdd, Nat.reduceLeDiff, Nat.zero_add, Nat.zero_le, Nat.zero_ne_one, Nat.one_ne_zero, Nat.reduceLT, true_or, or_true, false_or, or_false, false_and, true_and, and_false, and_true, not_false_eq_true, not_true_eq_false, eq_self, mA_A, mA_I, mI_A, mI_I, b01, b10, b01n, b10n, i10, i01, im0, ei_max, ei_min, ei_obj, n30, n20, b011, b101, orn, nor, dneg, dnle, dne, dcl, cat0, cat1, cat2, cat3, cat4, hN, h0, h1, h2, h3, h4, nI_1, na2, na3, na4, na5, r1, r2, r3, r4, r5, h.c1, h'.c2, t1, t2]
theorem LC_36 (h : IV sh M B) (hB : B + 1000000 < 2 ^ 31) (hi : i + 6 ≤ sc.1) (hs : sc.1 < 2 ^ 31) (hL : LwL L i) : ∃ sh' M', evp sc (d + 81) 296 1567 L [] (mk sh M) = evp sc (d + 81) 296 1668 L [] (mk sh' M') ∧ IV sh' M' (B + 1000000) := by
  obtain ⟨ans, sh', M1, M', t1, t2, h'⟩ := ((V_perform (sc := sc) (d := d) : Cal sc (d + 80) 167 289 [(1, .int (sc.2 (i + 1)))]) sh M B h hB)
  obtain ⟨hN, h0, h1, h2, h3, h4⟩ := hL
  have r1 := fun h => lw_rd hi hs h (show 1 < 6 by decide)
  have r2 := fun h => lw_rd hi hs h (show 2 < 6 by decide)
  have r3 := fun h => lw_rd hi hs h (show 3 < 6 by decide)
  have r4 := fun h => lw_rd hi hs h (show 4 < 6 by decide)
  have r5 := fun h => lw_rd hi hs h (show 5 < 6 by decide)
  refine ⟨sh', M', ?_, h'⟩
  simp (maxDischargeDepth := 9) only [s296_1567, s296_1568, s296_1569, s296_1571, s296_1572, s296_1573, s296_1574, s296_1577, s296_1578, s296_1579, s296_1581, s296_1582, s296_1583, s296_1584, s296_1587, nl_sti, nl_str, nl_ci, nl_cr, nl_nil, ld_cons, ld_st, lr_some, li_some, lj_some, n2_nl, n2_ci, n2_cr, n2_nil, n2_sti, n2_str, tl_some, tl_none, cat_le, List.length_cons, List.length_nil, Option.bind_some, Option.bind_none, Option.map_some, cond_true, cond_false, Bool.and_true, Bool.true_and, reduceIte, Nat.reduceEqDiff, Nat.reduceAdd, Nat.reduceLeDiff, Nat.zero_add, Nat.zero_le, Nat.zero_ne_one, Nat.one_ne_zero, Nat.reduceLT, true_or, or_true, false_or, or_false, false_and, true_and, and_false, and_true, not_false_eq_true, not_true_eq_false, eq_self, mA_A, mA_I, mI_A, mI_I, b01, b10, b01n, b10n, i10, i01, im0, ei_max, ei_min, ei_obj, n30, n20, b011, b101, orn, nor, dneg, dnle, dne, dcl, cat0, cat1, cat2, cat3, cat4, hN, h0, h1, h2, h3, h4, nI_1, na2, na3, na4, na5, r1, r2, r3, r4, r5, h.c1, h'.c2, t1, t2]
theorem LC_37 (h : IV sh M B) (hB : B + 1000000 < 2 ^ 31) (hi : i + 6 ≤ sc.1) (hs : sc.1 < 2 ^ 31) (hL : LwL L i) : ∃ sh' M', evp sc (d + 81) 296 1592 L [] (mk sh M) = evp sc (d + 81) 296 1668 L [] (mk sh' M') ∧ IV sh' M' (B + 1000000) := by
  obtain ⟨ans, sh', M1, M', t1, t2, h'⟩ := ((V_all (sc := sc) (d := d) : Cal sc (d + 80) 168 293 [(1, .int (sc.2 (i + 1)))]) sh M B h hB)
  obtain ⟨hN, h0, h1, h2, h3, h4⟩ := hL
  have r1 := fun h => lw_rd hi hs h (show 1 < 6 by decide)
  have r2 := fun h => lw_rd hi hs h (show 2 < 6 by decide)
  have r3 := fun h => lw_rd hi hs h (show 3 < 6 by decide)
  have r4 := fun h => lw_rd hi hs h (show 4 < 6 by decide)
  have r5 := fun h => lw_rd hi hs h (show 5 < 6 by decide)
  refine ⟨sh', M', ?_, h'⟩
  simp (maxDischargeDepth := 9) only [s296_1592, s296_1593, s296_1594, s296_1596, s296_1597, s296_1598, s296_1599, s296_1602, s296_1603, s296_1604, s296_1606, s296_1607, s296_1608, s296_1609, s296_1612, nl_sti, nl_str, nl_ci, nl_cr, nl_nil, ld_cons, ld_st, lr_some, li_some, lj_some, n2_nl, n2_ci, n2_cr, n2_nil, n2_sti, n2_str, tl_some, tl_none, cat_le, List.length_cons, List.length_nil, Option.bind_some, Option.bind_none, Option.map_some, cond_true, cond_false, Bool.and_true, Bool.true_and, reduceIte, Nat.reduceEqDiff, Nat.reduceAdd, Nat.reduceLeDiff, Nat.zero_add, Nat.zero_le, Nat.zero_ne_one, Nat.one_ne_zero, Nat.reduceLT, true_or, or_true, false_or, or_false, false_and, true_and, and_false, and_true, not_false_eq_true, not_true_eq_false, eq_self, mA_A, mA_I, mI_A, mI_I, b01, b10, b01n, b10n, i10, i01, im0, ei_max, ei_min, ei_obj, n30, n20, b011, b101, orn, nor, dneg, dnle, dne, dcl, cat0, cat1, cat2, cat3, cat4, hN, h0, h1, h2, h3, h4, nI_1, na2, na3, na4, na5, r1, r2, r3, r4, r5, h.c1, h'.c2, t1, t2]
theorem LC_38 (h : IV sh M B) (hB : B + 1000000 < 2 ^ 31) (hi : i + 6 ≤ sc.1) (hs : sc.1 < 2 ^ 31) (hL : LwL L i) : ∃ sh' M', evp sc (d + 81) 296 1617 L [] (mk sh M) = evp sc (d + 81) 296 1668 L [] (mk sh' M') ∧ IV sh' M' (B + 1000000) := by
  obtain ⟨ans, sh', M1, M', t1, t2, h'⟩ := ((V_image (sc := sc) (d := d) : Cal sc (d + 80) 169 256 []) sh M B h hB)
  obtain ⟨hN, h0, h1, h2, h3, h4⟩ := hL
  have r1 := fun h => lw_rd hi hs h (show 1 < 6 by decide)
  have r2 := fun h => lw_rd hi hs h (show 2 < 6 by decide)
  have r3 := fun h => lw_rd hi hs h (show 3 < 6 by decide)
  have r4 := fun h => lw_rd hi hs h (show 4 < 6 by decide)
  have r5 := fun h => lw_rd hi hs h (show 5 < 6 by decide)
  refine ⟨sh', M', ?_, h'⟩
  simp (maxDischargeDepth := 9) only [s296_1617, s296_1618, s296_1621, s296_1622, s296_1625, nl_sti, nl_str, nl_ci, nl_cr, nl_nil, ld_cons, ld_st, lr_some, li_some, lj_some, n2_nl, n2_ci, n2_cr, n2_nil, n2_sti, n2_str, tl_some, tl_none, cat_le, List.length_cons, List.length_nil, Option.bind_some, Option.bind_none, Option.map_some, cond_true, cond_false, Bool.and_true, Bool.true_and, reduceIte, Nat.reduceEqDiff, Nat.reduceAdd, Nat.reduceLeDiff, Nat.zero_add, Nat.zero_le, Nat.zero_ne_one, Nat.one_ne_zero, Nat.reduceLT, true_or, or_true, false_or, or_false, false_and, true_and, and_false, and_true, not_false_eq_true, not_true_eq_false, eq_self, mA_A, mA_I, mI_A, mI_I, b01, b10, b01n, b10n, i10, i01, im0, ei_max, ei_min, ei_obj, n30, n20, b011, b101, orn, nor, dneg, dnle, dne, dcl, cat0, cat1, cat2, cat3, cat4, hN, h0, h1, h2, h3, h4, nI_1, na2, na3, na4, na5, r1, r2, r3, r4, r5, h.c1, h'.c2, t1, t2]
theorem LC_39 (h : IV sh M B) (hB : B + 1000000 < 2 ^ 31) (hi : i + 6 ≤ sc.1) (hs : sc.1 < 2 ^ 31) (hL : LwL L i) : ∃ sh' M', evp sc (d + 81) 296 1630 L [] (mk sh M) = evp sc (d + 81) 296 1668 L [] (mk sh' M') ∧ IV sh' M' (B + 1000000) := by
  obtain ⟨ans, sh', M1, M', t1, t2, h'⟩ := ((V_back (sc := sc) (d := d) : Cal sc (d + 80) 170 257 []) sh M B h hB)
  obtain ⟨hN, h0, h1, h2, h3, h4⟩ := hL
  have r1 := fun h => lw_rd hi hs h (show 1 < 6 by decide)
  have r2 := fun h => lw_rd hi hs h (show 2 < 6 by decide)
  have r3 := fun h => lw_rd hi hs h (show 3 < 6 by decide)
  have r4 := fun h => lw_rd hi hs h (show 4 < 6 by decide)
  have r5 := fun h => lw_rd hi hs h (show 5 < 6 by decide)
  refine ⟨sh', M', ?_, h'⟩
  simp (maxDischargeDepth := 9) only [s296_1630, s296_1631, s296_1634, s296_1635, s296_1638, nl_sti, nl_str, nl_ci, nl_cr, nl_nil, ld_cons, ld_st, lr_some, li_some, lj_some, n2_nl, n2_ci, n2_cr, n2_nil, n2_sti, n2_str, tl_some, tl_none, cat_le, List.length_cons, List.length_nil, Option.bind_some, Option.bind_none, Option.map_some, cond_true, cond_false, Bool.and_true, Bool.true_and, reduceIte, Nat.reduceEqDiff, Nat.reduceAdd, Nat.reduceLeDiff, Nat.zero_add, Nat.zero_le, Nat.zero_ne_one, Nat.one_ne_zero, Nat.reduceLT, true_or, or_true, false_or, or_false, false_and, true_and, and_false, and_true, not_false_eq_true, not_true_eq_false, eq_self, mA_A, mA_I, mI_A, mI_I, b01, b10, b01n, b10n, i10, i01, im0, ei_max, ei_min, ei_obj, n30, n20, b011, b101, orn, nor, dneg, dnle, dne, dcl, cat0, cat1, cat2, cat3, cat4, hN, h0, h1, h2, h3, h4, nI_1, na2, na3, na4, na5, r1, r2, r3, r4, r5, h.c1, h'.c2, t1, t2]
theorem LC_40 (h : IV sh M B) (hB : B + 1000000 < 2 ^ 31) (hi : i + 6 ≤ sc.1) (hs : sc.1 < 2 ^ 31) (hL : LwL L i) : ∃ sh' M', evp sc (d + 81) 296 1643 L [] (mk sh M) = evp sc (d + 81) 296 1668 L [] (mk sh' M') ∧ IV sh' M' (B + 1000000) := by
  obtain ⟨ans, sh', M1, M', t1, t2, h'⟩ := ((V_count (sc := sc) (d := d) : Cal sc (d + 80) 171 294 [(1, .int (sc.2 (i + 1)))]) sh M B h hB)
  obtain ⟨hN, h0, h1, h2, h3, h4⟩ := hL
  have r1 := fun h => lw_rd hi hs h (show 1 < 6 by decide)
  have r2 := fun h => lw_rd hi hs h (show 2 < 6 by decide)
  have r3 := fun h => lw_rd hi hs h (show 3 < 6 by decide)
  have r4 := fun h => lw_rd hi hs h (show 4 < 6 by decide)
  have r5 := fun h => lw_rd hi hs h (show 5 < 6 by decide)
  refine ⟨sh', M', ?_, h'⟩
  simp (maxDischargeDepth := 9) only [s296_1643, s296_1644, s296_1645, s296_1647, s296_1648, s296_1649, s296_1650, s296_1653, s296_1654, s296_1655, s296_1657, s296_1658, s296_1659, s296_1660, s296_1663, nl_sti, nl_str, nl_ci, nl_cr, nl_nil, ld_cons, ld_st, lr_some, li_some, lj_some, n2_nl, n2_ci, n2_cr, n2_nil, n2_sti, n2_str, tl_some, tl_none, cat_le, List.length_cons, List.length_nil, Option.bind_some, Option.bind_none, Option.map_some, cond_true, cond_false, Bool.and_true, Bool.true_and, reduceIte, Nat.reduceEqDiff, Nat.reduceAdd, Nat.reduceLeDiff, Nat.zero_add, Nat.zero_le, Nat.zero_ne_one, Nat.one_ne_zero, Nat.reduceLT, true_or, or_true, false_or, or_false, false_and, true_and, and_false, and_true, not_false_eq_true, not_true_eq_false, eq_self, mA_A, mA_I, mI_A, mI_I, b01, b10, b01n, b10n, i10, i01, im0, ei_max, ei_min, ei_obj, n30, n20, b011, b101, orn, nor, dneg, dnle, dne, dcl, cat0, cat1, cat2, cat3, cat4, hN, h0, h1, h2, h3, h4, nI_1, na2, na3, na4, na5, r1, r2, r3, r4, r5, h.c1, h'.c2, t1, t2]
end
