theorem i0p1 : (0 : Int32) + 1 = 1 := rfl
theorem i1p1 : (1 : Int32) + 1 = 2 := rfl
theorem l20 : ((2 : Int32) ≤ 0) = False := by decide
theorem l21 : ((2 : Int32) ≤ 1) = False := by decide
theorem l22 : ((2 : Int32) ≤ 2) = True := by decide
section
variable {sc : aS} {d : Nat} {sh : List sE} {M R : aM} {a b : Nat}
def cp0 (R Ro : aM) : aM := mA (mA (mA (mA (mA (mA (mI (mI (mI (mI (mI (mI (mI R 0 0 (Ro.1 0 0)) 0 1 (Ro.1 0 1)) 0 2 (Ro.1 0 2)) 0 3 (Ro.1 0 3)) 0 4 (Ro.1 0 4)) 0 5 (Ro.1 0 5)) 0 6 (Ro.1 0 6)) 1 0 (Ro.2.1 1 0)) 2 0 (Ro.2.1 2 0)) 3 0 (Ro.2.1 3 0)) 1 1 (Ro.2.1 1 1)) 2 1 (Ro.2.1 2 1)) 3 1 (Ro.2.1 3 1)
def rCopy (R Ro : aM) : aM :=
  let R1 := cpL (cp0 R Ro) Ro
  let R2 := mR R1 18 (cpA 448 (Ro.2.1 18) (R1.2.1 18))
  let R3 := cpT R2 Ro
  let R4 := mR (mI (mI R3 26 3 (Ro.1 26 3)) 26 4 (Ro.1 26 4)) 27 (cpA 180 (Ro.2.1 27) (R3.2.1 27))
  mR (mI (mI R4 28 3 (Ro.1 28 3)) 28 4 (Ro.1 28 4)) 29 (cpA 200 (Ro.2.1 29) (R4.2.1 29))
set_option maxRecDepth 100000 in
theorem R_cp0 (hS : RowSh sh a) (hT : RowSh sh b) (hD : b + 31 ≤ a ∨ a + 31 ≤ b) : evp sc (d + 2) 57 0 [(0, .ref a), (1, .ref b)] [] (mk sh (gl M a 31 R)) = evp sc (d + 2) 57 105 (e_st1 (e_st1 (e_st1 [(0, .ref a), (1, .ref b)] 2 (.int 0)) 2 (.int 1)) 2 (.int 2)) [] (mk sh (gl M a 31 (cp0 R (lc M b)))) := by
  simp only [s57_0, s57_1, s57_2, s57_5, s57_8, s57_9, s57_10, s57_13, s57_16, s57_17, s57_18, s57_21, s57_24, s57_25, s57_26, s57_29, s57_32, s57_33, s57_34, s57_37, s57_40, s57_41, s57_42, s57_45, s57_48, s57_49, s57_50, s57_53, s57_56, s57_57, s57_58, s57_59, s57_60, s57_63, s57_64, s57_67, s57_68, s57_69, s57_72, s57_73, s57_74, s57_75, s57_76, s57_79, s57_80, s57_81, s57_84, s57_85, s57_86, s57_87, s57_88, s57_91, s57_92, s57_93, s57_96, s57_97, s57_98, s57_99, s57_102, s57_106, s57_109, s57_110, s57_113, s57_116, s57_117, s57_120, s57_121, s57_124, s57_127, s57_128, s57_131, s57_132, s57_135, s57_138, s57_139, s57_142, s57_143, s57_146, s57_149, s57_150, s57_153, s57_154, s57_157, s57_160, nl_sti, nl_str, nl_ci, nl_cr, nl_nil, ld_cons, ld_st, lr_some, li_some, lj_some, n2_nl, n2_ci, n2_cr, n2_nil, n2_sti, n2_str, tl_some, tl_none, cat_le, List.length_cons, List.length_nil, Option.bind_some, Option.bind_none, Option.map_some, cond_true, cond_false, Bool.and_true, Bool.true_and, reduceIte, Nat.reduceEqDiff, Nat.reduceAdd, Nat.reduceLeDiff, Nat.zero_add, Nat.zero_le, Nat.zero_ne_one, Nat.one_ne_zero, Nat.reduceLT, true_or, or_true, false_or, or_false, false_and, true_and, and_false, and_true, not_false_eq_true, not_true_eq_false, eq_self, mA_A, mA_I, mI_A, mI_I, b01, b10, b01n, b10n, i10, i01, im0, ei_max, ei_min, ei_obj, n30, n20, b011, b101, orn, nor, dneg, dnle, dne, dcl, cat0, cat1, cat2, cat3, cat4, gR0_0, pR0_0, gR0_1, pR0_1, gR0_2, pR0_2, gR0_3, pR0_3, gR0_4, pR0_4, gR0_5, pR0_5, gR0_6, pR0_6, gR0_7, gR0_8, gR0_9, gR0_10, gR0_11, gR0_12, gR0_13, gR0_14, gR0_15, gR0_16, cR0, aR1, wR1, aR2, wR2, aR3, wR3, cR5, cR17, cR19, cR26, cR28, cR30, gF0_0, gF0_1, gF0_2, gF0_3, gF0_4, gF0_5, gF0_6, gF0_7, gF0_8, gF0_9, gF0_10, gF0_11, gF0_12, gF0_13, gF0_14, gF0_15, gF0_16, aF1, aF2, aF3, hS, hT, hD, i0p1, i1p1, l20, l21, l22, cl0, ng0, cl1, ng1, cp0]
  rfl
theorem R_copy (hS : RowSh sh a) (hT : RowSh sh b) (hD : b + 31 ≤ a ∨ a + 31 ≤ b) : evp sc (d + 2) 57 0 [(0, .ref a), (1, .ref b)] [] (mk sh (gl M a 31 R)) = some (none, mk sh (gl M a 31 (rCopy R (lc M b)))) := by
  rw [R_cp0 hS hT hD]
  simp only [s57_0, s57_1, s57_2, s57_5, s57_8, s57_9, s57_10, s57_13, s57_16, s57_17, s57_18, s57_21, s57_24, s57_25, s57_26, s57_29, s57_32, s57_33, s57_34, s57_37, s57_40, s57_41, s57_42, s57_45, s57_48, s57_49, s57_50, s57_53, s57_56, s57_57, s57_58, s57_59, s57_60, s57_63, s57_64, s57_67, s57_68, s57_69, s57_72, s57_73, s57_74, s57_75, s57_76, s57_79, s57_80, s57_81, s57_84, s57_85, s57_86, s57_87, s57_88, s57_91, s57_92, s57_93, s57_96, s57_97, s57_98, s57_99, s57_102, s57_105, s57_106, s57_109, s57_110, s57_113, s57_116, s57_117, s57_120, s57_121, s57_124, s57_127, s57_128, s57_131, s57_132, s57_135, s57_138, s57_139, s57_142, s57_143, s57_146, s57_149, s57_150, s57_153, s57_154, s57_157, s57_160, nl_sti, nl_str, nl_ci, nl_cr, nl_nil, ld_cons, ld_st, lr_some, li_some, lj_some, n2_nl, n2_ci, n2_cr, n2_nil, n2_sti, n2_str, tl_some, tl_none, cat_le, List.length_cons, List.length_nil, Option.bind_some, Option.bind_none, Option.map_some, cond_true, cond_false, Bool.and_true, Bool.true_and, reduceIte, Nat.reduceEqDiff, Nat.reduceAdd, Nat.reduceLeDiff, Nat.zero_add, Nat.zero_le, Nat.zero_ne_one, Nat.one_ne_zero, Nat.reduceLT, true_or, or_true, false_or, or_false, false_and, true_and, and_false, and_true, not_false_eq_true, not_true_eq_false, eq_self, mA_A, mA_I, mI_A, mI_I, b01, b10, b01n, b10n, i10, i01, im0, ei_max, ei_min, ei_obj, n30, n20, b011, b101, orn, nor, dneg, dnle, dne, dcl, cat0, cat1, cat2, cat3, cat4, gR0_0, pR0_0, gR0_1, pR0_1, gR0_2, pR0_2, gR0_3, pR0_3, gR0_4, pR0_4, gR0_5, pR0_5, gR0_6, pR0_6, gR0_7, gR0_8, gR0_9, gR0_10, gR0_11, gR0_12, gR0_13, gR0_14, gR0_15, gR0_16, cR0, cR5, cR17, cR19, cR26, cR28, cR30, gF0_0, gF0_1, gF0_2, gF0_3, gF0_4, gF0_5, gF0_6, gF0_7, gF0_8, gF0_9, gF0_10, gF0_11, gF0_12, gF0_13, gF0_14, gF0_15, gF0_16, hS, hT, hD, R_cpL hS hT hD, R_cpH hS hT hD, R_cpT hS hT hD, R_cpA hS hT hD, R_cpG hS hT hD, rCopy]
  rfl
end
theorem rCopy_agr (R Ro : aM) : Agr Ro (rCopy R Ro) := by
  refine ⟨fun j hj => ?_, fun j hj => ?_, fun j hj => ?_, fun j hj => ?_, fun k j hj => ?_⟩
  · rcases (show j = 0 ∨ j = 1 ∨ j = 2 ∨ j = 3 ∨ j = 4 ∨ j = 5 ∨ j = 6 by omega) with rfl | rfl | rfl | rfl | rfl | rfl | rfl <;> simp [rCopy, cpT, cpL, cp0, mR, mI, mA, up2]
  · rcases hj with rfl | rfl <;> simp [rCopy, cpT, cpL, cp0, mR, mI, mA, up2]
  · rcases (show j = 0 ∨ j = 1 ∨ j = 2 ∨ j = 3 ∨ j = 4 ∨ j = 5 by omega) with rfl | rfl | rfl | rfl | rfl | rfl <;> simp [rCopy, cpT, cpL, cp0, mR, mI, mA, up2]
  · rcases hj with rfl | rfl <;> simp [rCopy, cpT, cpL, cp0, mR, mI, mA, up2]
  · unfold alen at hj
    split at hj
    · rcases (show j = 0 ∨ j = 1 by omega) with rfl | rfl <;> simp [rCopy, cpT, cpL, cp0, mR, mI, mA, up2]
    · rcases (show j = 0 ∨ j = 1 by omega) with rfl | rfl <;> simp [rCopy, cpT, cpL, cp0, mR, mI, mA, up2]
    · rcases (show j = 0 ∨ j = 1 by omega) with rfl | rfl <;> simp [rCopy, cpT, cpL, cp0, mR, mI, mA, up2]
    all_goals first
      | exact absurd hj (Nat.not_lt_zero j)
      | simp [rCopy, cpT, cpL, cp0, mR, mI, mA, up2, cpA, hj]
theorem rCopy_td (R Ro : aM) (h : TdC R) : TdC (rCopy R Ro) := by
  obtain ⟨h1, h2, h3, h4⟩ := h
  refine ⟨?_, ?_, ?_, ?_⟩ <;> simp [rCopy, cpT, cpL, cp0, mR, mI, mA, up2] <;> assumption
