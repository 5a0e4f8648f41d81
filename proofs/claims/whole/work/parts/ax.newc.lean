/-! THE START: what the constructors leave -/
theorem nw1 : (¬ (1 : Int32) < 0 ∧ (1 : Nat) * 8 ≤ 536870912) = True := eq_true (by decide)
theorem nc1 : (1 : Int32).toNatClampNeg = 1 := by decide
theorem nw4 : (¬ (4 : Int32) < 0 ∧ (4 : Nat) * 8 ≤ 536870912) = True := eq_true (by decide)
theorem nc4 : (4 : Int32).toNatClampNeg = 4 := by decide
theorem nw5 : (¬ (5 : Int32) < 0 ∧ (5 : Nat) * 8 ≤ 536870912) = True := eq_true (by decide)
theorem nc5 : (5 : Int32).toNatClampNeg = 5 := by decide
theorem nw6 : (¬ (6 : Int32) < 0 ∧ (6 : Nat) * 8 ≤ 536870912) = True := eq_true (by decide)
theorem nc6 : (6 : Int32).toNatClampNeg = 6 := by decide
theorem nw32 : (¬ (32 : Int32) < 0 ∧ (32 : Nat) * 8 ≤ 536870912) = True := eq_true (by decide)
theorem nc32 : (32 : Int32).toNatClampNeg = 32 := by decide
theorem nw40 : (¬ (40 : Int32) < 0 ∧ (40 : Nat) * 8 ≤ 536870912) = True := eq_true (by decide)
theorem nc40 : (40 : Int32).toNatClampNeg = 40 := by decide
theorem nw80 : (¬ (80 : Int32) < 0 ∧ (80 : Nat) * 8 ≤ 536870912) = True := eq_true (by decide)
theorem nc80 : (80 : Int32).toNatClampNeg = 80 := by decide
theorem nw320 : (¬ (320 : Int32) < 0 ∧ (320 : Nat) * 8 ≤ 536870912) = True := eq_true (by decide)
theorem nc320 : (320 : Int32).toNatClampNeg = 320 := by decide
theorem nw400 : (¬ (400 : Int32) < 0 ∧ (400 : Nat) * 8 ≤ 536870912) = True := eq_true (by decide)
theorem nc400 : (400 : Int32).toNatClampNeg = 400 := by decide
theorem nw1922 : (¬ (1922 : Int32) < 0 ∧ (1922 : Nat) * 8 ≤ 536870912) = True := eq_true (by decide)
theorem nc1922 : (1922 : Int32).toNatClampNeg = 1922 := by decide
theorem nw3300 : (¬ (3300 : Int32) < 0 ∧ (3300 : Nat) * 8 ≤ 536870912) = True := eq_true (by decide)
theorem nc3300 : (3300 : Int32).toNatClampNeg = 3300 := by decide
theorem nw76880 : (¬ (76880 : Int32) < 0 ∧ (76880 : Nat) * 8 ≤ 536870912) = True := eq_true (by decide)
theorem nc76880 : (76880 : Int32).toNatClampNeg = 76880 := by decide
section
variable {sc : aS} {d : Nat} {h : aH}
def tapC (b : Nat) : aH := [.inr (9, [.ref (b + 1), .ref (b + 2), .ref (b + 3), .ref (b + 4), .int 0, .int 0, .int 0, .int 0]), za 240, za 5, za 32, za 80]
theorem pFx9 : pF 9 = [.null, .null, .null, .null, .int 0, .int 0, .int 0, .int 0] := rfl
theorem N_tape : evp sc (d + 1) 106 0 [(0, .ref (32 + h.length))] [] (h ++ [.inr (9, pF 9)]) = some (none, h ++ tapC (32 + h.length)) := by
  have ft : ∀ j r, (j = 0 ∨ j = 1 ∨ j = 2 ∨ j = 3) → e_fit (pTy 9 j) (.ref r) = true := fun j r hj => by
    rcases hj with rfl | rfl | rfl | rfl <;> rfl
  have e : ∀ j fs r (C : aH), fs.length = 8 → (j = 0 ∨ j = 1 ∨ j = 2 ∨ j = 3) → cPut (.inr (9, fs) :: C) 0 9 j (.ref r) = some (.inr (9, fs.set j (.ref r)) :: C) := fun j fs r C hl hj => cPut_0 (by rw [hl]; exact Nat.blt_eq.mpr (by omega)) (ft j r hj)
  have fi : ∀ j, (j = 4 ∨ j = 5 ∨ j = 6 ∨ j = 7) → e_fit (pTy 9 j) (.int 0) = true := fun j hj => by
    rcases hj with rfl | rfl | rfl | rfl <;> rfl
  have ei : ∀ j fs (C : aH), fs.length = 8 → (j = 4 ∨ j = 5 ∨ j = 6 ∨ j = 7) → cPut (.inr (9, fs) :: C) 0 9 j (.int 0) = some (.inr (9, fs.set j (.int 0)) :: C) := fun j fs C hl hj => cPut_0 (by rw [hl]; exact Nat.blt_eq.mpr (by omega)) (fi j hj)
  rw [pFx9]
  simp (disch := first | decide | simp only [List.length_cons, List.length_nil, Nat.reduceAdd]) only [s106_0, s106_1, s106_4, s106_5, s106_8, s106_10, s106_13, s106_14, s106_15, s106_17, s106_20, s106_21, s106_23, s106_25, s106_28, s106_29, s106_31, s106_33, s106_36, s106_37, s106_38, s106_41, s106_42, s106_43, s106_46, s106_47, s106_48, s106_51, s106_52, s106_53, s106_56, nl_sti, nl_str, nl_ci, nl_cr, nl_nil, ld_cons, ld_st, lr_some, li_some, lj_some, n2_nl, n2_ci, n2_cr, n2_nil, n2_sti, n2_str, tl_some, tl_none, cat_le, List.length_cons, List.length_nil, Option.bind_some, Option.bind_none, Option.map_some, cond_true, cond_false, Bool.and_true, Bool.true_and, reduceIte, Nat.reduceEqDiff, Nat.reduceAdd, Nat.reduceLeDiff, Nat.zero_add, Nat.zero_le, Nat.zero_ne_one, Nat.one_ne_zero, Nat.reduceLT, true_or, or_true, false_or, or_false, false_and, true_and, and_false, and_true, not_false_eq_true, not_true_eq_false, eq_self, mA_A, mA_I, mI_A, mI_I, b01, b10, b01n, b10n, i10, i01, im0, ei_max, ei_min, ei_obj, n30, n20, int1000, al_ap, na_ap, List.cons_append, List.nil_append, nw1, nc1, nw4, nc4, nw5, nc5, nw6, nc6, nw32, nc32, nw40, nc40, nw80, nc80, nw320, nc320, nw400, nc400, nw1922, nc1922, nw3300, nc3300, nw76880, nc76880, nw2, nc2, nw7, nc7, nw8, nc8, nw16, nc16, nw48, nc48, nw180, nc180, nw200, nc200, nw240, nc240, nw448, nc448, pf_ap0, e, ei, List.set_cons_zero, List.set_cons_succ, ad_ad, tapC]
def scrC (b : Nat) : aH := [.inr (6, [.ref (b + 1), .ref (b + 2), .int 0]), za 320, za 4]
theorem pFx6 : pF 6 = [.null, .null, .int 0] := rfl
theorem N_scr : evp sc (d + 1) 89 0 [(0, .ref (32 + h.length))] [] (h ++ [.inr (6, pF 6)]) = some (none, h ++ scrC (32 + h.length)) := by
  have ft : ∀ j r, (j = 0 ∨ j = 1) → e_fit (pTy 6 j) (.ref r) = true := fun j r hj => by
    rcases hj with rfl | rfl <;> rfl
  have e : ∀ j fs r (C : aH), fs.length = 3 → (j = 0 ∨ j = 1) → cPut (.inr (6, fs) :: C) 0 6 j (.ref r) = some (.inr (6, fs.set j (.ref r)) :: C) := fun j fs r C hl hj => cPut_0 (by rw [hl]; exact Nat.blt_eq.mpr (by omega)) (ft j r hj)
  have fi : ∀ j, (j = 2) → e_fit (pTy 6 j) (.int 0) = true := fun j hj => by
    rcases hj with rfl <;> rfl
  have ei : ∀ j fs (C : aH), fs.length = 3 → (j = 2) → cPut (.inr (6, fs) :: C) 0 6 j (.int 0) = some (.inr (6, fs.set j (.int 0)) :: C) := fun j fs C hl hj => cPut_0 (by rw [hl]; exact Nat.blt_eq.mpr (by omega)) (fi j hj)
  rw [pFx6]
  simp (disch := first | decide | simp only [List.length_cons, List.length_nil, Nat.reduceAdd]) only [s89_0, s89_1, s89_4, s89_5, s89_8, s89_10, s89_13, s89_14, s89_15, s89_17, s89_20, s89_21, s89_22, s89_25, nl_sti, nl_str, nl_ci, nl_cr, nl_nil, ld_cons, ld_st, lr_some, li_some, lj_some, n2_nl, n2_ci, n2_cr, n2_nil, n2_sti, n2_str, tl_some, tl_none, cat_le, List.length_cons, List.length_nil, Option.bind_some, Option.bind_none, Option.map_some, cond_true, cond_false, Bool.and_true, Bool.true_and, reduceIte, Nat.reduceEqDiff, Nat.reduceAdd, Nat.reduceLeDiff, Nat.zero_add, Nat.zero_le, Nat.zero_ne_one, Nat.one_ne_zero, Nat.reduceLT, true_or, or_true, false_or, or_false, false_and, true_and, and_false, and_true, not_false_eq_true, not_true_eq_false, eq_self, mA_A, mA_I, mI_A, mI_I, b01, b10, b01n, b10n, i10, i01, im0, ei_max, ei_min, ei_obj, n30, n20, int1000, al_ap, na_ap, List.cons_append, List.nil_append, nw1, nc1, nw4, nc4, nw5, nc5, nw6, nc6, nw32, nc32, nw40, nc40, nw80, nc80, nw320, nc320, nw400, nc400, nw1922, nc1922, nw3300, nc3300, nw76880, nc76880, nw2, nc2, nw7, nc7, nw8, nc8, nw16, nc16, nw48, nc48, nw180, nc180, nw200, nc200, nw240, nc240, nw448, nc448, pf_ap0, e, ei, List.set_cons_zero, List.set_cons_succ, ad_ad, scrC]
def pasC (b : Nat) : aH := [.inr (4, [.ref (b + 1), .int 0, .int 0]), .inl (3, 40, .inr (.inr (fun _ => none)))]
theorem pFx4 : pF 4 = [.null, .int 0, .int 0] := rfl
theorem N_past : evp sc (d + 1) 51 0 [(0, .ref (32 + h.length))] [] (h ++ [.inr (4, pF 4)]) = some (none, h ++ pasC (32 + h.length)) := by
  have ft : ∀ j r, (j = 0) → e_fit (pTy 4 j) (.ref r) = true := fun j r hj => by
    rcases hj with rfl <;> rfl
  have e : ∀ j fs r (C : aH), fs.length = 3 → (j = 0) → cPut (.inr (4, fs) :: C) 0 4 j (.ref r) = some (.inr (4, fs.set j (.ref r)) :: C) := fun j fs r C hl hj => cPut_0 (by rw [hl]; exact Nat.blt_eq.mpr (by omega)) (ft j r hj)
  have fi : ∀ j, (j = 1 ∨ j = 2) → e_fit (pTy 4 j) (.int 0) = true := fun j hj => by
    rcases hj with rfl | rfl <;> rfl
  have ei : ∀ j fs (C : aH), fs.length = 3 → (j = 1 ∨ j = 2) → cPut (.inr (4, fs) :: C) 0 4 j (.int 0) = some (.inr (4, fs.set j (.int 0)) :: C) := fun j fs C hl hj => cPut_0 (by rw [hl]; exact Nat.blt_eq.mpr (by omega)) (fi j hj)
  rw [pFx4]
  simp (disch := first | decide | simp only [List.length_cons, List.length_nil, Nat.reduceAdd]) only [s51_0, s51_1, s51_4, s51_5, s51_7, s51_10, s51_13, s51_14, s51_15, s51_18, s51_19, s51_20, s51_23, nl_sti, nl_str, nl_ci, nl_cr, nl_nil, ld_cons, ld_st, lr_some, li_some, lj_some, n2_nl, n2_ci, n2_cr, n2_nil, n2_sti, n2_str, tl_some, tl_none, cat_le, List.length_cons, List.length_nil, Option.bind_some, Option.bind_none, Option.map_some, cond_true, cond_false, Bool.and_true, Bool.true_and, reduceIte, Nat.reduceEqDiff, Nat.reduceAdd, Nat.reduceLeDiff, Nat.zero_add, Nat.zero_le, Nat.zero_ne_one, Nat.one_ne_zero, Nat.reduceLT, true_or, or_true, false_or, or_false, false_and, true_and, and_false, and_true, not_false_eq_true, not_true_eq_false, eq_self, mA_A, mA_I, mI_A, mI_I, b01, b10, b01n, b10n, i10, i01, im0, ei_max, ei_min, ei_obj, n30, n20, int1000, al_ap, na_ap, List.cons_append, List.nil_append, nw1, nc1, nw4, nc4, nw5, nc5, nw6, nc6, nw32, nc32, nw40, nc40, nw80, nc80, nw320, nc320, nw400, nc400, nw1922, nc1922, nw3300, nc3300, nw76880, nc76880, nw2, nc2, nw7, nc7, nw8, nc8, nw16, nc16, nw48, nc48, nw180, nc180, nw200, nc200, nw240, nc240, nw448, nc448, pf_ap0, e, ei, List.set_cons_zero, List.set_cons_succ, ad_ad, pasC]
def drwC (b : Nat) : aH := [.inr (0, [.long 0, .int 0, .int 0, .int 0, .int 0, .int 0])]
theorem pFx0 : pF 0 = [.long 0, .int 0, .int 0, .int 0, .int 0, .int 0] := rfl
theorem N_draw : evp sc (d + 1) 0 0 [(0, .ref (32 + h.length))] [] (h ++ [.inr (0, pF 0)]) = some (none, h ++ drwC (32 + h.length)) := by
  have fi : ∀ j, (j = 1 ∨ j = 2 ∨ j = 3 ∨ j = 4 ∨ j = 5) → e_fit (pTy 0 j) (.int 0) = true := fun j hj => by
    rcases hj with rfl | rfl | rfl | rfl | rfl <;> rfl
  have ei : ∀ j fs (C : aH), fs.length = 6 → (j = 1 ∨ j = 2 ∨ j = 3 ∨ j = 4 ∨ j = 5) → cPut (.inr (0, fs) :: C) 0 0 j (.int 0) = some (.inr (0, fs.set j (.int 0)) :: C) := fun j fs C hl hj => cPut_0 (by rw [hl]; exact Nat.blt_eq.mpr (by omega)) (fi j hj)
  have ej : ∀ fs (C : aH), fs.length = 6 → cPut (.inr (0, fs) :: C) 0 0 0 (.long 0) = some (.inr (0, fs.set 0 (.long 0)) :: C) := fun fs C hl => cPut_0 (by rw [hl]; rfl) rfl
  rw [pFx0]
  simp (disch := first | decide | simp only [List.length_cons, List.length_nil, Nat.reduceAdd]) only [s0_0, s0_1, s0_4, s0_5, s0_6, s0_9, s0_10, s0_11, s0_14, s0_15, s0_16, s0_19, s0_20, s0_21, s0_24, s0_25, s0_26, s0_29, s0_30, s0_31, s0_34, nl_sti, nl_str, nl_ci, nl_cr, nl_nil, ld_cons, ld_st, lr_some, li_some, lj_some, n2_nl, n2_ci, n2_cr, n2_nil, n2_sti, n2_str, tl_some, tl_none, cat_le, List.length_cons, List.length_nil, Option.bind_some, Option.bind_none, Option.map_some, cond_true, cond_false, Bool.and_true, Bool.true_and, reduceIte, Nat.reduceEqDiff, Nat.reduceAdd, Nat.reduceLeDiff, Nat.zero_add, Nat.zero_le, Nat.zero_ne_one, Nat.one_ne_zero, Nat.reduceLT, true_or, or_true, false_or, or_false, false_and, true_and, and_false, and_true, not_false_eq_true, not_true_eq_false, eq_self, mA_A, mA_I, mI_A, mI_I, b01, b10, b01n, b10n, i10, i01, im0, ei_max, ei_min, ei_obj, n30, n20, int1000, al_ap, na_ap, List.cons_append, List.nil_append, nw1, nc1, nw4, nc4, nw5, nc5, nw6, nc6, nw32, nc32, nw40, nc40, nw80, nc80, nw320, nc320, nw400, nc400, nw1922, nc1922, nw3300, nc3300, nw76880, nc76880, nw2, nc2, nw7, nc7, nw8, nc8, nw16, nc16, nw48, nc48, nw180, nc180, nw200, nc200, nw240, nc240, nw448, nc448, pf_ap0, ei, ej, List.set_cons_zero, List.set_cons_succ, ad_ad, drwC]
def modC (b : Nat) : aH := [.inr (12, [.int 0, .ref (b + 1), .int 0, .int 0, .int 0, .ref (b + 2), .ref (b + 3), .ref (b + 4), .ref (b + 5), .ref (b + 6), .ref (b + 7), .int 0, .int 0, .int 0, .ref (b + 8), .ref (b + 9), .ref (b + 10), .ref (b + 11), .int 0, .int 0, .int 0, .int 0, .int 0, .int 0, .int 0, .int 0, .int 0, .int 0, .int 0, .ref (b + 12), .ref (b + 13), .int 0, .int 0, .int 0, .long 0, .ref (b + 14)]), .inl (1, 240, .inl (fun _ => 0)), za 5, za 5, za 32, za 4, za 400, za 5, za 1922, za 1922, za 1922, za 76880, za 3300, za 3300, za 40]
theorem pFx12 : pF 12 = [.int 0, .null, .int 0, .int 0, .int 0, .null, .null, .null, .null, .null, .null, .int 0, .int 0, .int 0, .null, .null, .null, .null, .int 0, .int 0, .int 0, .int 0, .int 0, .int 0, .int 0, .int 0, .int 0, .int 0, .int 0, .null, .null, .int 0, .int 0, .int 0, .long 0, .null] := rfl
theorem N_mod : evp sc (d + 1) 176 0 [(0, .ref (32 + h.length))] [] (h ++ [.inr (12, pF 12)]) = some (none, h ++ modC (32 + h.length)) := by
  have ft : ∀ j r, (j = 1 ∨ j = 5 ∨ j = 6 ∨ j = 7 ∨ j = 8 ∨ j = 9 ∨ j = 10 ∨ j = 14 ∨ j = 15 ∨ j = 16 ∨ j = 17 ∨ j = 29 ∨ j = 30 ∨ j = 35) → e_fit (pTy 12 j) (.ref r) = true := fun j r hj => by
    rcases hj with rfl | rfl | rfl | rfl | rfl | rfl | rfl | rfl | rfl | rfl | rfl | rfl | rfl | rfl <;> rfl
  have e : ∀ j fs r (C : aH), fs.length = 36 → (j = 1 ∨ j = 5 ∨ j = 6 ∨ j = 7 ∨ j = 8 ∨ j = 9 ∨ j = 10 ∨ j = 14 ∨ j = 15 ∨ j = 16 ∨ j = 17 ∨ j = 29 ∨ j = 30 ∨ j = 35) → cPut (.inr (12, fs) :: C) 0 12 j (.ref r) = some (.inr (12, fs.set j (.ref r)) :: C) := fun j fs r C hl hj => cPut_0 (by rw [hl]; exact Nat.blt_eq.mpr (by omega)) (ft j r hj)
  have fi : ∀ j, (j = 0 ∨ j = 2 ∨ j = 3 ∨ j = 4 ∨ j = 11 ∨ j = 12 ∨ j = 13 ∨ j = 18 ∨ j = 19 ∨ j = 20 ∨ j = 21 ∨ j = 22 ∨ j = 23 ∨ j = 24 ∨ j = 25 ∨ j = 26 ∨ j = 27 ∨ j = 28 ∨ j = 31 ∨ j = 32 ∨ j = 33) → e_fit (pTy 12 j) (.int 0) = true := fun j hj => by
    rcases hj with rfl | rfl | rfl | rfl | rfl | rfl | rfl | rfl | rfl | rfl | rfl | rfl | rfl | rfl | rfl | rfl | rfl | rfl | rfl | rfl | rfl <;> rfl
  have ei : ∀ j fs (C : aH), fs.length = 36 → (j = 0 ∨ j = 2 ∨ j = 3 ∨ j = 4 ∨ j = 11 ∨ j = 12 ∨ j = 13 ∨ j = 18 ∨ j = 19 ∨ j = 20 ∨ j = 21 ∨ j = 22 ∨ j = 23 ∨ j = 24 ∨ j = 25 ∨ j = 26 ∨ j = 27 ∨ j = 28 ∨ j = 31 ∨ j = 32 ∨ j = 33) → cPut (.inr (12, fs) :: C) 0 12 j (.int 0) = some (.inr (12, fs.set j (.int 0)) :: C) := fun j fs C hl hj => cPut_0 (by rw [hl]; exact Nat.blt_eq.mpr (by omega)) (fi j hj)
  rw [pFx12]
  simp (disch := first | decide | simp only [List.length_cons, List.length_nil, Nat.reduceAdd]) only [s176_0, s176_1, s176_4, s176_5, s176_8, s176_10, s176_13, s176_14, s176_15, s176_17, s176_20, s176_21, s176_22, s176_24, s176_27, s176_28, s176_30, s176_32, s176_35, s176_36, s176_37, s176_39, s176_42, s176_43, s176_46, s176_48, s176_51, s176_52, s176_53, s176_55, s176_58, s176_59, s176_62, s176_64, s176_67, s176_68, s176_71, s176_73, s176_76, s176_77, s176_80, s176_82, s176_85, s176_86, s176_88, s176_90, s176_93, s176_94, s176_97, s176_99, s176_102, s176_103, s176_106, s176_108, s176_111, s176_112, s176_114, s176_116, s176_119, nl_sti, nl_str, nl_ci, nl_cr, nl_nil, ld_cons, ld_st, lr_some, li_some, lj_some, n2_nl, n2_ci, n2_cr, n2_nil, n2_sti, n2_str, tl_some, tl_none, cat_le, List.length_cons, List.length_nil, Option.bind_some, Option.bind_none, Option.map_some, cond_true, cond_false, Bool.and_true, Bool.true_and, reduceIte, Nat.reduceEqDiff, Nat.reduceAdd, Nat.reduceLeDiff, Nat.zero_add, Nat.zero_le, Nat.zero_ne_one, Nat.one_ne_zero, Nat.reduceLT, true_or, or_true, false_or, or_false, false_and, true_and, and_false, and_true, not_false_eq_true, not_true_eq_false, eq_self, mA_A, mA_I, mI_A, mI_I, b01, b10, b01n, b10n, i10, i01, im0, ei_max, ei_min, ei_obj, n30, n20, int1000, al_ap, na_ap, List.cons_append, List.nil_append, nw1, nc1, nw4, nc4, nw5, nc5, nw6, nc6, nw32, nc32, nw40, nc40, nw80, nc80, nw320, nc320, nw400, nc400, nw1922, nc1922, nw3300, nc3300, nw76880, nc76880, nw2, nc2, nw7, nc7, nw8, nc8, nw16, nc16, nw48, nc48, nw180, nc180, nw200, nc200, nw240, nc240, nw448, nc448, pf_ap0, e, ei, List.set_cons_zero, List.set_cons_succ, ad_ad, modC]
def outC (b : Nat) : aH := .inr (3, [.ref (b + 1), .ref (b + 32), .ref (b + 33), .ref (b + 34)]) :: (rowC (b + 1) ++ [za 6, za 6, za 40])
theorem pFx3 : pF 3 = [.null, .null, .null, .null] := rfl
theorem rowC_len (b : Nat) : (rowC b).length = 31 := rfl
theorem N_out : evp sc (d + 3) 36 0 [(0, .ref (32 + h.length))] [] (h ++ [.inr (3, pF 3)]) = some (none, h ++ outC (32 + h.length)) := by
  have ft : ∀ j r, (j = 0 ∨ j = 1 ∨ j = 2 ∨ j = 3) → e_fit (pTy 3 j) (.ref r) = true := fun j r hj => by
    rcases hj with rfl | rfl | rfl | rfl <;> rfl
  have e : ∀ j fs r (C : aH), fs.length = 4 → (j = 0 ∨ j = 1 ∨ j = 2 ∨ j = 3) → cPut (.inr (3, fs) :: C) 0 3 j (.ref r) = some (.inr (3, fs.set j (.ref r)) :: C) := fun j fs r C hl hj => cPut_0 (by rw [hl]; exact Nat.blt_eq.mpr (by omega)) (ft j r hj)
  have tr := N_row (sc := sc) (d := d) (h := h ++ [.inr (3, [.null, .null, .null, .null])])
  rw [al_ap, List.length_singleton] at tr
  simp only [List.append_assoc, List.cons_append, List.nil_append, ad_ad] at tr
  have ct : ∀ x y, e_cat [Value.ref x, Value.ref y] = true := fun _ _ => rfl
  rw [pFx3]
  simp (disch := first | decide | simp only [List.length_cons, List.length_nil, Nat.reduceAdd]) only [s36_0, s36_1, s36_4, s36_5, s36_8, s36_8r, s36_9, s36_12, s36_15, s36_16, s36_18, s36_20, s36_23, s36_24, s36_26, s36_28, s36_31, s36_32, s36_34, s36_36, s36_39, nl_sti, nl_str, nl_ci, nl_cr, nl_nil, ld_cons, ld_st, lr_some, li_some, lj_some, n2_nl, n2_ci, n2_cr, n2_nil, n2_sti, n2_str, tl_some, tl_none, cat_le, List.length_cons, List.length_nil, Option.bind_some, Option.bind_none, Option.map_some, cond_true, cond_false, Bool.and_true, Bool.true_and, reduceIte, Nat.reduceEqDiff, Nat.reduceAdd, Nat.reduceLeDiff, Nat.zero_add, Nat.zero_le, Nat.zero_ne_one, Nat.one_ne_zero, Nat.reduceLT, true_or, or_true, false_or, or_false, false_and, true_and, and_false, and_true, not_false_eq_true, not_true_eq_false, eq_self, mA_A, mA_I, mI_A, mI_I, b01, b10, b01n, b10n, i10, i01, im0, ei_max, ei_min, ei_obj, n30, n20, int1000, al_ap, na_ap, List.cons_append, List.nil_append, List.append_assoc, nw1, nc1, nw4, nc4, nw5, nc5, nw6, nc6, nw32, nc32, nw40, nc40, nw80, nc80, nw320, nc320, nw400, nc400, nw1922, nc1922, nw3300, nc3300, nw76880, nc76880, nw2, nc2, nw7, nc7, nw8, nc8, nw16, nc16, nw48, nc48, nw180, nc180, nw200, nc200, nw240, nc240, nw448, nc448, pf_ap0, e, List.set_cons_zero, List.set_cons_succ, ad_ad, ct, tr, rowC_len, List.length_append, outC]
end
