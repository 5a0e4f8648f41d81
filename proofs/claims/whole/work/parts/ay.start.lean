/-! THE START: the class, the reference, the law up to its loop -/
section
variable {sc : aS} {d : Nat}
theorem pf_c0 {fs : List Value} {C : aH} {j : Nat} {v : Value} (hj : Nat.blt j fs.length = true) (hf : e_fit (pTy 11 j) v = true) : e_pf (.inr (11, fs) :: C) 32 11 j v = some (.inr (11, fs.set j v) :: C) := by
  have := pf_ap0 [] (.inr (11, fs) :: C) 11 j v
  rw [List.nil_append, List.length_nil, cPut_0 hj hf] at this
  exact this
theorem tapC_len (b : Nat) : (tapC b).length = 5 := rfl
theorem scrC_len (b : Nat) : (scrC b).length = 3 := rfl
theorem pasC_len (b : Nat) : (pasC b).length = 2 := rfl
theorem drwC_len (b : Nat) : (drwC b).length = 1 := rfl
theorem outC_len (b : Nat) : (outC b).length = 35 := rfl
theorem modC_len (b : Nat) : (modC b).length = 15 := rfl

theorem bs_4 {fs : List Value} {C : aH} (hf : fs.length = 10) : evp sc (d + 4) 127 4 [(0, .ref 32)] [] (.inr (11, fs) :: C) = evp sc (d + 4) 127 15 [(0, .ref 32)] [] (.inr (11, fs.set 0 (.ref (32 + (C.length + 1)))) :: (C ++ tapC (32 + (C.length + 1)))) := by
  have t := N_tape (sc := sc) (d := d + 2) (h := .inr (11, fs) :: C)
  simp only [List.cons_append, List.length_cons] at t
  have p : ∀ C' r, e_pf (.inr (11, fs) :: C') 32 11 0 (.ref r) = some (.inr (11, fs.set 0 (.ref r)) :: C') := fun C' r => pf_c0 (by rw [hf]; rfl) rfl
  have ct : ∀ x y, e_cat [Value.ref x, Value.ref y] = true := fun _ _ => rfl
  simp only [s127_4, s127_5, s127_8r, s127_9, s127_12, nl_sti, nl_str, nl_ci, nl_cr, nl_nil, ld_cons, ld_st, lr_some, li_some, lj_some, n2_nl, n2_ci, n2_cr, n2_nil, n2_sti, n2_str, tl_some, tl_none, cat_le, List.length_cons, List.length_nil, Option.bind_some, Option.bind_none, Option.map_some, cond_true, cond_false, Bool.and_true, Bool.true_and, reduceIte, Nat.reduceEqDiff, Nat.reduceAdd, Nat.reduceLeDiff, Nat.zero_add, Nat.zero_le, Nat.zero_ne_one, Nat.one_ne_zero, Nat.reduceLT, true_or, or_true, false_or, or_false, false_and, true_and, and_false, and_true, not_false_eq_true, not_true_eq_false, eq_self, mA_A, mA_I, mI_A, mI_I, b01, b10, b01n, b10n, i10, i01, im0, ei_max, ei_min, ei_obj, n30, n20, List.cons_append, List.length_cons, t, p, ct]
theorem bs_15 {fs : List Value} {C : aH} (hf : fs.length = 10) : evp sc (d + 4) 127 15 [(0, .ref 32)] [] (.inr (11, fs) :: C) = evp sc (d + 4) 127 26 [(0, .ref 32)] [] (.inr (11, fs.set 1 (.ref (32 + (C.length + 1)))) :: (C ++ scrC (32 + (C.length + 1)))) := by
  have t := N_scr (sc := sc) (d := d + 2) (h := .inr (11, fs) :: C)
  simp only [List.cons_append, List.length_cons] at t
  have p : ∀ C' r, e_pf (.inr (11, fs) :: C') 32 11 1 (.ref r) = some (.inr (11, fs.set 1 (.ref r)) :: C') := fun C' r => pf_c0 (by rw [hf]; rfl) rfl
  have ct : ∀ x y, e_cat [Value.ref x, Value.ref y] = true := fun _ _ => rfl
  simp only [s127_15, s127_16, s127_19r, s127_20, s127_23, nl_sti, nl_str, nl_ci, nl_cr, nl_nil, ld_cons, ld_st, lr_some, li_some, lj_some, n2_nl, n2_ci, n2_cr, n2_nil, n2_sti, n2_str, tl_some, tl_none, cat_le, List.length_cons, List.length_nil, Option.bind_some, Option.bind_none, Option.map_some, cond_true, cond_false, Bool.and_true, Bool.true_and, reduceIte, Nat.reduceEqDiff, Nat.reduceAdd, Nat.reduceLeDiff, Nat.zero_add, Nat.zero_le, Nat.zero_ne_one, Nat.one_ne_zero, Nat.reduceLT, true_or, or_true, false_or, or_false, false_and, true_and, and_false, and_true, not_false_eq_true, not_true_eq_false, eq_self, mA_A, mA_I, mI_A, mI_I, b01, b10, b01n, b10n, i10, i01, im0, ei_max, ei_min, ei_obj, n30, n20, List.cons_append, List.length_cons, t, p, ct]
theorem bs_26 {fs : List Value} {C : aH} (hf : fs.length = 10) : evp sc (d + 4) 127 26 [(0, .ref 32)] [] (.inr (11, fs) :: C) = evp sc (d + 4) 127 37 [(0, .ref 32)] [] (.inr (11, fs.set 2 (.ref (32 + (C.length + 1)))) :: (C ++ rowC (32 + (C.length + 1)))) := by
  have t := N_row (sc := sc) (d := d + 1) (h := .inr (11, fs) :: C)
  simp only [List.cons_append, List.length_cons] at t
  have p : ∀ C' r, e_pf (.inr (11, fs) :: C') 32 11 2 (.ref r) = some (.inr (11, fs.set 2 (.ref r)) :: C') := fun C' r => pf_c0 (by rw [hf]; rfl) rfl
  have ct : ∀ x y, e_cat [Value.ref x, Value.ref y] = true := fun _ _ => rfl
  simp only [s127_26, s127_27, s127_30r, s127_31, s127_34, nl_sti, nl_str, nl_ci, nl_cr, nl_nil, ld_cons, ld_st, lr_some, li_some, lj_some, n2_nl, n2_ci, n2_cr, n2_nil, n2_sti, n2_str, tl_some, tl_none, cat_le, List.length_cons, List.length_nil, Option.bind_some, Option.bind_none, Option.map_some, cond_true, cond_false, Bool.and_true, Bool.true_and, reduceIte, Nat.reduceEqDiff, Nat.reduceAdd, Nat.reduceLeDiff, Nat.zero_add, Nat.zero_le, Nat.zero_ne_one, Nat.one_ne_zero, Nat.reduceLT, true_or, or_true, false_or, or_false, false_and, true_and, and_false, and_true, not_false_eq_true, not_true_eq_false, eq_self, mA_A, mA_I, mI_A, mI_I, b01, b10, b01n, b10n, i10, i01, im0, ei_max, ei_min, ei_obj, n30, n20, List.cons_append, List.length_cons, t, p, ct]
theorem bs_37 {fs : List Value} {C : aH} (hf : fs.length = 10) : evp sc (d + 4) 127 37 [(0, .ref 32)] [] (.inr (11, fs) :: C) = evp sc (d + 4) 127 48 [(0, .ref 32)] [] (.inr (11, fs.set 3 (.ref (32 + (C.length + 1)))) :: (C ++ pasC (32 + (C.length + 1)))) := by
  have t := N_past (sc := sc) (d := d + 2) (h := .inr (11, fs) :: C)
  simp only [List.cons_append, List.length_cons] at t
  have p : ∀ C' r, e_pf (.inr (11, fs) :: C') 32 11 3 (.ref r) = some (.inr (11, fs.set 3 (.ref r)) :: C') := fun C' r => pf_c0 (by rw [hf]; rfl) rfl
  have ct : ∀ x y, e_cat [Value.ref x, Value.ref y] = true := fun _ _ => rfl
  simp only [s127_37, s127_38, s127_41r, s127_42, s127_45, nl_sti, nl_str, nl_ci, nl_cr, nl_nil, ld_cons, ld_st, lr_some, li_some, lj_some, n2_nl, n2_ci, n2_cr, n2_nil, n2_sti, n2_str, tl_some, tl_none, cat_le, List.length_cons, List.length_nil, Option.bind_some, Option.bind_none, Option.map_some, cond_true, cond_false, Bool.and_true, Bool.true_and, reduceIte, Nat.reduceEqDiff, Nat.reduceAdd, Nat.reduceLeDiff, Nat.zero_add, Nat.zero_le, Nat.zero_ne_one, Nat.one_ne_zero, Nat.reduceLT, true_or, or_true, false_or, or_false, false_and, true_and, and_false, and_true, not_false_eq_true, not_true_eq_false, eq_self, mA_A, mA_I, mI_A, mI_I, b01, b10, b01n, b10n, i10, i01, im0, ei_max, ei_min, ei_obj, n30, n20, List.cons_append, List.length_cons, t, p, ct]
theorem bs_48 {fs : List Value} {C : aH} (hf : fs.length = 10) : evp sc (d + 4) 127 48 [(0, .ref 32)] [] (.inr (11, fs) :: C) = evp sc (d + 4) 127 59 [(0, .ref 32)] [] (.inr (11, fs.set 4 (.ref (32 + (C.length + 1)))) :: (C ++ outC (32 + (C.length + 1)))) := by
  have t := N_out (sc := sc) (d := d) (h := .inr (11, fs) :: C)
  simp only [List.cons_append, List.length_cons] at t
  have p : ∀ C' r, e_pf (.inr (11, fs) :: C') 32 11 4 (.ref r) = some (.inr (11, fs.set 4 (.ref r)) :: C') := fun C' r => pf_c0 (by rw [hf]; rfl) rfl
  have ct : ∀ x y, e_cat [Value.ref x, Value.ref y] = true := fun _ _ => rfl
  simp only [s127_48, s127_49, s127_52r, s127_53, s127_56, nl_sti, nl_str, nl_ci, nl_cr, nl_nil, ld_cons, ld_st, lr_some, li_some, lj_some, n2_nl, n2_ci, n2_cr, n2_nil, n2_sti, n2_str, tl_some, tl_none, cat_le, List.length_cons, List.length_nil, Option.bind_some, Option.bind_none, Option.map_some, cond_true, cond_false, Bool.and_true, Bool.true_and, reduceIte, Nat.reduceEqDiff, Nat.reduceAdd, Nat.reduceLeDiff, Nat.zero_add, Nat.zero_le, Nat.zero_ne_one, Nat.one_ne_zero, Nat.reduceLT, true_or, or_true, false_or, or_false, false_and, true_and, and_false, and_true, not_false_eq_true, not_true_eq_false, eq_self, mA_A, mA_I, mI_A, mI_I, b01, b10, b01n, b10n, i10, i01, im0, ei_max, ei_min, ei_obj, n30, n20, List.cons_append, List.length_cons, t, p, ct]
theorem bs_59 {fs : List Value} {C : aH} (hf : fs.length = 10) : evp sc (d + 4) 127 59 [(0, .ref 32)] [] (.inr (11, fs) :: C) = evp sc (d + 4) 127 70 [(0, .ref 32)] [] (.inr (11, fs.set 5 (.ref (32 + (C.length + 1)))) :: (C ++ drwC (32 + (C.length + 1)))) := by
  have t := N_draw (sc := sc) (d := d + 2) (h := .inr (11, fs) :: C)
  simp only [List.cons_append, List.length_cons] at t
  have p : ∀ C' r, e_pf (.inr (11, fs) :: C') 32 11 5 (.ref r) = some (.inr (11, fs.set 5 (.ref r)) :: C') := fun C' r => pf_c0 (by rw [hf]; rfl) rfl
  have ct : ∀ x y, e_cat [Value.ref x, Value.ref y] = true := fun _ _ => rfl
  simp only [s127_59, s127_60, s127_63r, s127_64, s127_67, nl_sti, nl_str, nl_ci, nl_cr, nl_nil, ld_cons, ld_st, lr_some, li_some, lj_some, n2_nl, n2_ci, n2_cr, n2_nil, n2_sti, n2_str, tl_some, tl_none, cat_le, List.length_cons, List.length_nil, Option.bind_some, Option.bind_none, Option.map_some, cond_true, cond_false, Bool.and_true, Bool.true_and, reduceIte, Nat.reduceEqDiff, Nat.reduceAdd, Nat.reduceLeDiff, Nat.zero_add, Nat.zero_le, Nat.zero_ne_one, Nat.one_ne_zero, Nat.reduceLT, true_or, or_true, false_or, or_false, false_and, true_and, and_false, and_true, not_false_eq_true, not_true_eq_false, eq_self, mA_A, mA_I, mI_A, mI_I, b01, b10, b01n, b10n, i10, i01, im0, ei_max, ei_min, ei_obj, n30, n20, List.cons_append, List.length_cons, t, p, ct]
def busF : List Value := [.ref 33, .ref 38, .ref 41, .ref 72, .ref 74, .ref 109, .ref 110, .null, .int 0, .int (-1)]
def busC : aH := .inr (11, busF) :: (tapC 33 ++ scrC 38 ++ rowC 41 ++ pasC 72 ++ outC 74 ++ drwC 109 ++ [za 4])
theorem pFx11 : pF 11 = [.null, .null, .null, .null, .null, .null, .null, .null, .int 0, .int 0] := rfl
theorem N_bus : evp sc (d + 4) 127 0 [(0, .ref 32)] [] [.inr (11, pF 11)] = some (none, busC) := by
  have p6 : ∀ fs (C' : aH) r, fs.length = 10 → e_pf (.inr (11, fs) :: C') 32 11 6 (.ref r) = some (.inr (11, fs.set 6 (.ref r)) :: C') := fun fs C' r hf => pf_c0 (by rw [hf]; rfl) rfl
  have p7 : ∀ fs (C' : aH), fs.length = 10 → e_pf (.inr (11, fs) :: C') 32 11 7 .null = some (.inr (11, fs.set 7 .null) :: C') := fun fs C' hf => pf_c0 (by rw [hf]; rfl) rfl
  have p8 : ∀ fs (C' : aH), fs.length = 10 → e_pf (.inr (11, fs) :: C') 32 11 8 (.int 0) = some (.inr (11, fs.set 8 (.int 0)) :: C') := fun fs C' hf => pf_c0 (by rw [hf]; rfl) rfl
  have p9 : ∀ fs (C' : aH), fs.length = 10 → e_pf (.inr (11, fs) :: C') 32 11 9 (.int (-1)) = some (.inr (11, fs.set 9 (.int (-1))) :: C') := fun fs C' hf => pf_c0 (by rw [hf]; rfl) rfl
  have ct : e_cat [Value.ref 32] = true := rfl
  rw [pFx11]
  simp (disch := first | decide | simp only [List.length_cons, List.length_nil, Nat.reduceAdd]) only [s127_0, s127_1, nl_sti, nl_str, nl_ci, nl_cr, nl_nil, ld_cons, ld_st, lr_some, li_some, lj_some, n2_nl, n2_ci, n2_cr, n2_nil, n2_sti, n2_str, tl_some, tl_none, cat_le, List.length_cons, List.length_nil, Option.bind_some, Option.bind_none, Option.map_some, cond_true, cond_false, Bool.and_true, Bool.true_and, reduceIte, Nat.reduceEqDiff, Nat.reduceAdd, Nat.reduceLeDiff, Nat.zero_add, Nat.zero_le, Nat.zero_ne_one, Nat.one_ne_zero, Nat.reduceLT, true_or, or_true, false_or, or_false, false_and, true_and, and_false, and_true, not_false_eq_true, not_true_eq_false, eq_self, mA_A, mA_I, mI_A, mI_I, b01, b10, b01n, b10n, i10, i01, im0, ei_max, ei_min, ei_obj, n30, n20, int1000, ct, bs_4, bs_15, bs_26, bs_37, bs_48, bs_59, List.set_cons_zero, List.set_cons_succ, List.nil_append, List.length_nil, List.length_append, tapC_len, scrC_len, rowC_len, pasC_len, outC_len, drwC_len, Nat.reduceAdd]
  simp (disch := first | decide | simp only [List.length_cons, List.length_nil, Nat.reduceAdd]) only [s127_70, s127_71, s127_72, s127_74, s127_77, s127_78, s127_79, s127_82, s127_83, s127_84, s127_87, s127_88, s127_89, s127_92, nl_sti, nl_str, nl_ci, nl_cr, nl_nil, ld_cons, ld_st, lr_some, li_some, lj_some, n2_nl, n2_ci, n2_cr, n2_nil, n2_sti, n2_str, tl_some, tl_none, cat_le, List.length_cons, List.length_nil, Option.bind_some, Option.bind_none, Option.map_some, cond_true, cond_false, Bool.and_true, Bool.true_and, reduceIte, Nat.reduceEqDiff, Nat.reduceAdd, Nat.reduceLeDiff, Nat.zero_add, Nat.zero_le, Nat.zero_ne_one, Nat.one_ne_zero, Nat.reduceLT, true_or, or_true, false_or, or_false, false_and, true_and, and_false, and_true, not_false_eq_true, not_true_eq_false, eq_self, mA_A, mA_I, mI_A, mI_I, b01, b10, b01n, b10n, i10, i01, im0, ei_max, ei_min, ei_obj, n30, n20, nw4, nc4, p6, p7, p8, p9, List.cons_append, List.length_cons, List.set_cons_zero, List.set_cons_succ, List.length_append, tapC_len, scrC_len, rowC_len, pasC_len, outC_len, drwC_len, Nat.reduceAdd]
  rfl
end
