section
variable {sc : aS} {d : Nat} {sh : List sE} {M R : aM} {a : Nat}
set_option maxHeartbeats 1000000 in
theorem L_indexOf {s b v : Int32} {h : aH} : evp sc d 15 0 [(0, .int s), (1, .int b), (2, .int v)] [] h = some (some (.int ((s * 2 + b) * 3 + v)), h) := by
  simp only [s15_0, s15_1, s15_2, s15_3, s15_4, s15_5, s15_6, s15_7, s15_8, s15_9, ld_cons, ld_st, lr_some, li_some, lj_some, n2_nl, n2_ci, n2_cr, n2_nil, n2_sti, n2_str, tl_some, tl_none, cat_le, List.length_cons, List.length_nil, Option.bind_some, Option.bind_none, Option.map_some, cond_true, cond_false, Bool.and_true, Bool.true_and, reduceIte, Nat.reduceEqDiff, Nat.reduceAdd, Nat.reduceLeDiff, Nat.zero_add, Nat.zero_le, Nat.zero_ne_one, Nat.one_ne_zero, Nat.reduceLT]
set_option maxHeartbeats 1000000 in
theorem L_isCell {c : Int32} {h : aH} : evp sc d 21 0 [(0, .int c)] [] h = some (some (.int (if c < 0 then 0 else if 240 ≤ c then 0 else 1)), h) := by
  simp only [s21_0, s21_1, s21_4, s21_5, s21_8, s21_11, s21_12, s21_15, s21_16, ld_cons, ld_st, lr_some, li_some, lj_some, n2_nl, n2_ci, n2_cr, n2_nil, n2_sti, n2_str, tl_some, tl_none, cat_le, List.length_cons, List.length_nil, Option.bind_some, Option.bind_none, Option.map_some, cond_true, cond_false, Bool.and_true, Bool.true_and, reduceIte, Nat.reduceEqDiff, Nat.reduceAdd, Nat.reduceLeDiff, Nat.zero_add, Nat.zero_le, Nat.zero_ne_one, Nat.one_ne_zero, Nat.reduceLT]
  split <;> (try split) <;> simp
set_option maxHeartbeats 1000000 in
theorem L_isActive (hS : RowSh sh a) {l : Nat} (hl : l < 48) : evp sc d 18 0 [(0, .ref (a + 5)), (1, .int (nI l))] [] (mk sh (gl M a 31 R)) = some (some (.int (if R.2.1 9 l ≤ 0 then 0 else 1)), mk sh (gl M a 31 R)) := by
  have h1 := in_nI hl (by decide : 48 < 2 ^ 31)
  have h2 := nI_clamp (show l < 2 ^ 31 by omega)
  simp only [s18_0, s18_1, s18_4, s18_5, s18_6, s18_9, s18_10, s18_13, s18_14, ld_cons, ld_st, lr_some, li_some, lj_some, n2_nl, n2_ci, n2_cr, n2_nil, n2_sti, n2_str, tl_some, tl_none, cat_le, List.length_cons, List.length_nil, Option.bind_some, Option.bind_none, Option.map_some, cond_true, cond_false, Bool.and_true, Bool.true_and, reduceIte, Nat.reduceEqDiff, Nat.reduceAdd, Nat.reduceLeDiff, Nat.zero_add, Nat.zero_le, Nat.zero_ne_one, Nat.one_ne_zero, Nat.reduceLT, gR5_0, gR5_1, gR5_2, gR5_3, gR5_4, gR5_5, gR5_6, gR5_7, gR5_8, gR5_9, gR5_10, gR5_11, pR5_11, gR5_12, pR5_12, cR5, aR9, wR9, hS, h1, h2, not_false_eq_true]
  split <;> simp
end
