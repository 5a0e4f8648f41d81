/-! A ROW COPIED -/
def alen : Nat → Nat
  | 1 => 2
  | 2 => 2
  | 3 => 2
  | 6 => 48
  | 7 => 48
  | 8 => 48
  | 9 => 48
  | 10 => 48
  | 11 => 48
  | 12 => 240
  | 13 => 240
  | 14 => 240
  | 15 => 240
  | 16 => 8
  | 18 => 448
  | 20 => 8
  | 21 => 8
  | 22 => 16
  | 23 => 8
  | 24 => 8
  | 25 => 8
  | 27 => 180
  | 29 => 200
  | _ => 0
/-- R tells what R0 tells -/
def Agr (R0 R : aM) : Prop := (∀ j, j < 7 → R.1 0 j = R0.1 0 j) ∧ (∀ j, (j = 11 ∨ j = 12) → R.1 5 j = R0.1 5 j) ∧ (∀ j, j < 6 → R.1 19 j = R0.1 19 j) ∧ (∀ j, (j = 3 ∨ j = 4) → R.1 26 j = R0.1 26 j ∧ R.1 28 j = R0.1 28 j) ∧ ∀ k j, j < alen k → R.2.1 k j = R0.2.1 k j
/-- the sizes of the rings -/
def TdC (R : aM) : Prop := R.1 26 1 = nI 60 ∧ R.1 26 2 = nI 3 ∧ R.1 28 1 = nI 40 ∧ R.1 28 2 = nI 5
section
variable {sc : aS} {d : Nat} {sh : List sE} {M R : aM} {a b : Nat}
def cpL (R Ro : aM) : aM := mI (mI (mR (mR (mR (mR (mR (mR (mR (mR (mR (mR (mR R 6 (cpA 48 (Ro.2.1 6) (R.2.1 6))) 7 (cpA 48 (Ro.2.1 7) (R.2.1 7))) 8 (cpA 48 (Ro.2.1 8) (R.2.1 8))) 9 (cpA 48 (Ro.2.1 9) (R.2.1 9))) 10 (cpA 48 (Ro.2.1 10) (R.2.1 10))) 11 (cpA 48 (Ro.2.1 11) (R.2.1 11))) 12 (cpA 240 (Ro.2.1 12) (R.2.1 12))) 13 (cpA 240 (Ro.2.1 13) (R.2.1 13))) 14 (cpA 240 (Ro.2.1 14) (R.2.1 14))) 15 (cpA 240 (Ro.2.1 15) (R.2.1 15))) 16 (cpA 8 (Ro.2.1 16) (R.2.1 16))) 5 11 (Ro.1 5 11)) 5 12 (Ro.1 5 12)
theorem mR_Ao {R : aM} {k w : Nat} {f : Nat → Int32} (h : ¬ k = w) : (mR R w f).2.1 k = R.2.1 k := mR_o h
theorem R_cpL (hS : RowSh sh a) (hT : RowSh sh b) (hD : b + 31 ≤ a ∨ a + 31 ≤ b) : evp sc (d + 1) 17 0 [(0, .ref (a + 5)), (1, .ref (b + 5))] [] (mk sh (gl M a 31 R)) = some (none, mk sh (gl M a 31 (cpL R (lc M b)))) := by
  simp only [s17_0, s17_1, s17_4, s17_5, s17_6, s17_9, s17_10, s17_12, s17_15, s17_16, s17_19, s17_20, s17_21, s17_24, s17_25, s17_27, s17_30, s17_31, s17_34, s17_35, s17_36, s17_39, s17_40, s17_42, s17_45, s17_46, s17_49, s17_50, s17_51, s17_54, s17_55, s17_57, s17_60, s17_61, s17_64, s17_65, s17_66, s17_69, s17_70, s17_72, s17_75, s17_76, s17_79, s17_80, s17_81, s17_84, s17_85, s17_87, s17_90, s17_91, s17_94, s17_95, s17_96, s17_99, s17_100, s17_103, s17_106, s17_107, s17_110, s17_111, s17_112, s17_115, s17_116, s17_119, s17_122, s17_123, s17_126, s17_127, s17_128, s17_131, s17_132, s17_135, s17_138, s17_139, s17_142, s17_143, s17_144, s17_147, s17_148, s17_151, s17_154, s17_155, s17_158, s17_159, s17_160, s17_163, s17_164, s17_166, s17_169, s17_170, s17_171, s17_174, s17_177, s17_178, s17_179, s17_182, s17_185, nl_sti, nl_str, nl_ci, nl_cr, nl_nil, ld_cons, ld_st, lr_some, li_some, lj_some, n2_nl, n2_ci, n2_cr, n2_nil, n2_sti, n2_str, tl_some, tl_none, cat_le, List.length_cons, List.length_nil, Option.bind_some, Option.bind_none, Option.map_some, cond_true, cond_false, Bool.and_true, Bool.true_and, reduceIte, Nat.reduceEqDiff, Nat.reduceAdd, Nat.reduceLeDiff, Nat.zero_add, Nat.zero_le, Nat.zero_ne_one, Nat.one_ne_zero, Nat.reduceLT, true_or, or_true, false_or, or_false, false_and, true_and, and_false, and_true, not_false_eq_true, not_true_eq_false, eq_self, mA_A, mA_I, mI_A, mI_I, b01, b10, b01n, b10n, i10, i01, im0, ei_max, ei_min, ei_obj, n30, n20, gR5_0, gR5_1, gR5_2, gR5_3, gR5_4, gR5_5, gR5_6, gR5_7, gR5_8, gR5_9, gR5_10, gR5_11, pR5_11, gR5_12, pR5_12, cR5, cR0, cR17, cR19, cR26, cR28, cR30, gF5_0, gF5_1, gF5_2, gF5_3, gF5_4, gF5_5, gF5_6, gF5_7, gF5_8, gF5_9, gF5_10, gF5_11, gF5_12, cF6, cF7, cF8, cF9, cF10, cF11, cF12, cF13, cF14, cF15, cF16, hS, hT, hD, cpL, mR_Ao]
  rfl
theorem R_cpH (hS : RowSh sh a) (hT : RowSh sh b) (hD : b + 31 ≤ a ∨ a + 31 ≤ b) : evp sc (d + 1) 6 0 [(0, .ref (a + 17)), (1, .ref (b + 17))] [] (mk sh (gl M a 31 R)) = some (none, mk sh (gl M a 31 (mR R 18 (cpA 448 (M.2.1 (b + 18)) (R.2.1 18))))) := by
  simp only [s6_0, s6_1, s6_4, s6_5, s6_6, s6_9, s6_10, s6_13, s6_16, nl_sti, nl_str, nl_ci, nl_cr, nl_nil, ld_cons, ld_st, lr_some, li_some, lj_some, n2_nl, n2_ci, n2_cr, n2_nil, n2_sti, n2_str, tl_some, tl_none, cat_le, List.length_cons, List.length_nil, Option.bind_some, Option.bind_none, Option.map_some, cond_true, cond_false, Bool.and_true, Bool.true_and, reduceIte, Nat.reduceEqDiff, Nat.reduceAdd, Nat.reduceLeDiff, Nat.zero_add, Nat.zero_le, Nat.zero_ne_one, Nat.one_ne_zero, Nat.reduceLT, true_or, or_true, false_or, or_false, false_and, true_and, and_false, and_true, not_false_eq_true, not_true_eq_false, eq_self, mA_A, mA_I, mI_A, mI_I, b01, b10, b01n, b10n, i10, i01, im0, ei_max, ei_min, ei_obj, n30, n20, gR17_0, cR17, cR0, cR5, cR19, cR26, cR28, cR30, gF17_0, cF18, hS, hT, hD]
def cpT (R Ro : aM) : aM := mR (mR (mR (mR (mR (mR (mI (mI (mI (mI (mI (mI R 19 0 (Ro.1 19 0)) 19 1 (Ro.1 19 1)) 19 2 (Ro.1 19 2)) 19 3 (Ro.1 19 3)) 19 4 (Ro.1 19 4)) 19 5 (Ro.1 19 5)) 20 (cpA 8 (Ro.2.1 20) (R.2.1 20))) 21 (cpA 8 (Ro.2.1 21) (R.2.1 21))) 22 (cpA 16 (Ro.2.1 22) (R.2.1 22))) 23 (cpA 8 (Ro.2.1 23) (R.2.1 23))) 24 (cpA 8 (Ro.2.1 24) (R.2.1 24))) 25 (cpA 8 (Ro.2.1 25) (R.2.1 25))
theorem R_cpT (hS : RowSh sh a) (hT : RowSh sh b) (hD : b + 31 ≤ a ∨ a + 31 ≤ b) : evp sc (d + 1) 101 0 [(0, .ref (a + 19)), (1, .ref (b + 19))] [] (mk sh (gl M a 31 R)) = some (none, mk sh (gl M a 31 (cpT R (lc M b)))) := by
  simp only [s101_0, s101_1, s101_2, s101_5, s101_8, s101_9, s101_10, s101_13, s101_16, s101_17, s101_18, s101_21, s101_24, s101_25, s101_26, s101_29, s101_32, s101_33, s101_34, s101_37, s101_40, s101_41, s101_42, s101_45, s101_48, s101_49, s101_52, s101_53, s101_54, s101_57, s101_58, s101_60, s101_63, s101_64, s101_67, s101_68, s101_69, s101_72, s101_73, s101_75, s101_78, s101_79, s101_82, s101_83, s101_84, s101_87, s101_88, s101_90, s101_93, s101_94, s101_97, s101_98, s101_99, s101_102, s101_103, s101_105, s101_108, s101_109, s101_112, s101_113, s101_114, s101_117, s101_118, s101_120, s101_123, s101_124, s101_127, s101_128, s101_129, s101_132, s101_133, s101_135, s101_138, nl_sti, nl_str, nl_ci, nl_cr, nl_nil, ld_cons, ld_st, lr_some, li_some, lj_some, n2_nl, n2_ci, n2_cr, n2_nil, n2_sti, n2_str, tl_some, tl_none, cat_le, List.length_cons, List.length_nil, Option.bind_some, Option.bind_none, Option.map_some, cond_true, cond_false, Bool.and_true, Bool.true_and, reduceIte, Nat.reduceEqDiff, Nat.reduceAdd, Nat.reduceLeDiff, Nat.zero_add, Nat.zero_le, Nat.zero_ne_one, Nat.one_ne_zero, Nat.reduceLT, true_or, or_true, false_or, or_false, false_and, true_and, and_false, and_true, not_false_eq_true, not_true_eq_false, eq_self, mA_A, mA_I, mI_A, mI_I, b01, b10, b01n, b10n, i10, i01, im0, ei_max, ei_min, ei_obj, n30, n20, gR19_0, pR19_0, gR19_1, pR19_1, gR19_2, pR19_2, gR19_3, pR19_3, gR19_4, pR19_4, gR19_5, pR19_5, gR19_6, gR19_7, gR19_8, gR19_9, gR19_10, gR19_11, cR19, cR0, cR5, cR17, cR26, cR28, cR30, gF19_0, gF19_1, gF19_2, gF19_3, gF19_4, gF19_5, gF19_6, gF19_7, gF19_8, gF19_9, gF19_10, gF19_11, cF20, cF21, cF22, cF23, cF24, cF25, hS, hT, hD, cpT, mR_Ao]
  rfl
theorem R_cpA (hS : RowSh sh a) (hT : RowSh sh b) (hD : b + 31 ≤ a ∨ a + 31 ≤ b) : evp sc (d + 1) 121 0 [(0, .ref (a + 28)), (1, .ref (b + 28))] [] (mk sh (gl M a 31 R)) = some (none, mk sh (gl M a 31 (mR (mI (mI R 28 3 (M.1 (b + 28) 3)) 28 4 (M.1 (b + 28) 4)) 29 (cpA 200 (M.2.1 (b + 29)) (R.2.1 29))))) := by
  have e1 : (if (Int32.ofNat 200) < (Int32.ofNat 200) then (Int32.ofNat 200) else (Int32.ofNat 200)) = (200 : Int32) := by decide
  simp only [s121_0, s121_1, s121_2, s121_5, s121_8, s121_9, s121_10, s121_13, s121_16, s121_17, s121_20, s121_21, s121_22, s121_25, s121_26, s121_27, s121_30, s121_31, s121_32, s121_35, s121_36, s121_39, s121_42, nl_sti, nl_str, nl_ci, nl_cr, nl_nil, ld_cons, ld_st, lr_some, li_some, lj_some, n2_nl, n2_ci, n2_cr, n2_nil, n2_sti, n2_str, tl_some, tl_none, cat_le, List.length_cons, List.length_nil, Option.bind_some, Option.bind_none, Option.map_some, cond_true, cond_false, Bool.and_true, Bool.true_and, reduceIte, Nat.reduceEqDiff, Nat.reduceAdd, Nat.reduceLeDiff, Nat.zero_add, Nat.zero_le, Nat.zero_ne_one, Nat.one_ne_zero, Nat.reduceLT, true_or, or_true, false_or, or_false, false_and, true_and, and_false, and_true, not_false_eq_true, not_true_eq_false, eq_self, mA_A, mA_I, mI_A, mI_I, b01, b10, b01n, b10n, i10, i01, im0, ei_max, ei_min, ei_obj, n30, n20, gR28_0, gR28_1, gR28_2, gR28_3, pR28_3, gR28_4, pR28_4, cR28, cR0, cR5, cR17, cR19, cR26, cR30, gF28_0, gF28_1, gF28_2, gF28_3, gF28_4, cF29, lF29, lF29 hS, lF29 hT, hS, hT, hD, e1]
theorem R_cpG (hS : RowSh sh a) (hT : RowSh sh b) (hD : b + 31 ≤ a ∨ a + 31 ≤ b) : evp sc (d + 1) 121 0 [(0, .ref (a + 26)), (1, .ref (b + 26))] [] (mk sh (gl M a 31 R)) = some (none, mk sh (gl M a 31 (mR (mI (mI R 26 3 (M.1 (b + 26) 3)) 26 4 (M.1 (b + 26) 4)) 27 (cpA 180 (M.2.1 (b + 27)) (R.2.1 27))))) := by
  have e1 : (if (Int32.ofNat 180) < (Int32.ofNat 180) then (Int32.ofNat 180) else (Int32.ofNat 180)) = (180 : Int32) := by decide
  simp only [s121_0, s121_1, s121_2, s121_5, s121_8, s121_9, s121_10, s121_13, s121_16, s121_17, s121_20, s121_21, s121_22, s121_25, s121_26, s121_27, s121_30, s121_31, s121_32, s121_35, s121_36, s121_39, s121_42, nl_sti, nl_str, nl_ci, nl_cr, nl_nil, ld_cons, ld_st, lr_some, li_some, lj_some, n2_nl, n2_ci, n2_cr, n2_nil, n2_sti, n2_str, tl_some, tl_none, cat_le, List.length_cons, List.length_nil, Option.bind_some, Option.bind_none, Option.map_some, cond_true, cond_false, Bool.and_true, Bool.true_and, reduceIte, Nat.reduceEqDiff, Nat.reduceAdd, Nat.reduceLeDiff, Nat.zero_add, Nat.zero_le, Nat.zero_ne_one, Nat.one_ne_zero, Nat.reduceLT, true_or, or_true, false_or, or_false, false_and, true_and, and_false, and_true, not_false_eq_true, not_true_eq_false, eq_self, mA_A, mA_I, mI_A, mI_I, b01, b10, b01n, b10n, i10, i01, im0, ei_max, ei_min, ei_obj, n30, n20, gR26_0, gR26_1, gR26_2, gR26_3, pR26_3, gR26_4, pR26_4, cR26, cR0, cR5, cR17, cR19, cR28, cR30, gF26_0, gF26_1, gF26_2, gF26_3, gF26_4, cF27, lF27, lF27 hS, lF27 hT, hS, hT, hD, e1]
end
