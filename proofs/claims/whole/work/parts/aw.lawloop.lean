/-! THE LAW: its loop -/
theorem len6 {n i : Nat} (hn : n < 2 ^ 31) (hi : i < 2 ^ 31) : (Int32.ofNat n - 6 < nI i) = (n < i + 6) := by
  show (nI n - 6 < nI i) = (n < i + 6)
  rcases Nat.lt_or_ge n 6 with q | q
  · have h0 : (0 : Int32) ≤ nI i := Int32.not_lt.mp (nI_pos hi)
    have hl : nI n - 6 < 0 := by
      rcases (show n = 0 ∨ n = 1 ∨ n = 2 ∨ n = 3 ∨ n = 4 ∨ n = 5 by omega) with rfl | rfl | rfl | rfl | rfl | rfl <;> decide
    exact propext ⟨fun _ => by omega, fun _ => Int32.lt_of_lt_of_le hl h0⟩
  · rw [show (6 : Int32) = nI 6 from rfl, nI_sub q, nI_ltE (by omega) hi]
    exact propext ⟨fun z => by omega, fun z => by omega⟩
section
variable {sc : aS} {d : Nat}
set_option maxRecDepth 20000 in
theorem law_one (hFC : Cal sc (d + 80) 159 276 []) {i : Nat} {sh : List sE} {M : aM} {B : Nat} {L : aL} (h : IV sh M B) (hB : B + 1000000 < 2 ^ 31) (hi : i + 6 ≤ sc.1) (hs : sc.1 < 2 ^ 31) (hL : LwL L i) : ∃ sh' M' L', evp sc (d + 81) 296 23 L [] (mk sh M) = evp sc (d + 81) 296 1668 L' [] (mk sh' M') ∧ LwL L' i ∧ IV sh' M' (B + 1000000) := by
  have hL' := hL
  obtain ⟨hN, h0, h1, h2, h3, h4⟩ := hL'
  obtain ⟨c, hc, ec⟩ := and63 (sc.2 i)
  have r0 := fun h => lw_rd hi hs h (show 0 < 6 by decide)
  simp only [Nat.add_zero] at r0
  have ea : e_arr sc (mk sh M) 0 0 = some sc := rfl
  have c1 : (Int32.ofNat sc.1 - 6 < nI i) = False := by
    rw [len6 hs (by omega)]
    exact eq_false (by omega)
  have tp : evp sc (d + 81) 296 23 L [] (mk sh M) = evp sc (d + 81) 296 40 L [.int (nI c)] (mk sh M) := by
    rw [s296_23]
    simp (maxDischargeDepth := 9) only [s296_25, s296_26, s296_27, s296_29, s296_30, s296_33, s296_34, s296_36, s296_37, s296_39, nl_sti, nl_str, nl_ci, nl_cr, nl_nil, ld_cons, ld_st, lr_some, li_some, lj_some, n2_nl, n2_ci, n2_cr, n2_nil, n2_sti, n2_str, tl_some, tl_none, cat_le, List.length_cons, List.length_nil, Option.bind_some, Option.bind_none, Option.map_some, cond_true, cond_false, Bool.and_true, Bool.true_and, reduceIte, Nat.reduceEqDiff, Nat.reduceAdd, Nat.reduceLeDiff, Nat.zero_add, Nat.zero_le, Nat.zero_ne_one, Nat.one_ne_zero, Nat.reduceLT, true_or, or_true, false_or, or_false, false_and, true_and, and_false, and_true, not_false_eq_true, not_true_eq_false, eq_self, mA_A, mA_I, mI_A, mI_I, b01, b10, b01n, b10n, i10, i01, im0, ei_max, ei_min, ei_obj, n30, n20, b011, b101, orn, nor, dneg, dnle, dne, dcl, cat0, cat1, cat2, cat3, cat4, hN, h0, h1, h2, h3, h4, ea, c1, r0, ec]
  rw [tp]
  rcases Nat.lt_or_ge 40 c with q | q
  · refine ⟨sh, M, L, s296_40d (Or.inr ?_), hL, IP.mono h (by omega)⟩
    rw [nI_toInt (by omega)]
    omega
  · rcases (show c = 0 ∨ c = 1 ∨ c = 2 ∨ c = 3 ∨ c = 4 ∨ c = 5 ∨ c = 6 ∨ c = 7 ∨ c = 8 ∨ c = 9 ∨ c = 10 ∨ c = 11 ∨ c = 12 ∨ c = 13 ∨ c = 14 ∨ c = 15 ∨ c = 16 ∨ c = 17 ∨ c = 18 ∨ c = 19 ∨ c = 20 ∨ c = 21 ∨ c = 22 ∨ c = 23 ∨ c = 24 ∨ c = 25 ∨ c = 26 ∨ c = 27 ∨ c = 28 ∨ c = 29 ∨ c = 30 ∨ c = 31 ∨ c = 32 ∨ c = 33 ∨ c = 34 ∨ c = 35 ∨ c = 36 ∨ c = 37 ∨ c = 38 ∨ c = 39 ∨ c = 40 by omega) with rfl | rfl | rfl | rfl | rfl | rfl | rfl | rfl | rfl | rfl | rfl | rfl | rfl | rfl | rfl | rfl | rfl | rfl | rfl | rfl | rfl | rfl | rfl | rfl | rfl | rfl | rfl | rfl | rfl | rfl | rfl | rfl | rfl | rfl | rfl | rfl | rfl | rfl | rfl | rfl | rfl
    · obtain ⟨sh', M', t, t3⟩ := LC_0 (d := d) h hB hi hs hL
      exact ⟨sh', M', L, (s296_40k0).trans t, hL, t3⟩
    · obtain ⟨sh', M', t, t3⟩ := LC_1 (d := d) h hB hi hs hL
      exact ⟨sh', M', L, (s296_40k1).trans t, hL, t3⟩
    · obtain ⟨sh', M', t, t3⟩ := LC_2 (d := d) h hB hi hs hL
      exact ⟨sh', M', L, (s296_40k2).trans t, hL, t3⟩
    · obtain ⟨sh', M', t, t3⟩ := LC_3 (d := d) h hB hi hs hL
      exact ⟨sh', M', L, (s296_40k3).trans t, hL, t3⟩
    · obtain ⟨sh', M', t, t3⟩ := LC_4 (d := d) h hB hi hs hL
      exact ⟨sh', M', L, (s296_40k4).trans t, hL, t3⟩
    · obtain ⟨sh', M', L', t, t2, t3⟩ := LC_5 (d := d) h hB hi hs hL
      exact ⟨sh', M', L', (s296_40k5).trans t, t2, t3⟩
    · obtain ⟨sh', M', t, t3⟩ := LC_6 (d := d) h hB hi hs hL
      exact ⟨sh', M', L, (s296_40k6).trans t, hL, t3⟩
    · obtain ⟨sh', M', t, t3⟩ := LC_7 (d := d) h hB hi hs hL
      exact ⟨sh', M', L, (s296_40k7).trans t, hL, t3⟩
    · obtain ⟨sh', M', t, t3⟩ := LC_8 (d := d) h hB hi hs hL
      exact ⟨sh', M', L, (s296_40k8).trans t, hL, t3⟩
    · obtain ⟨sh', M', t, t3⟩ := LC_9 (d := d) h hB hi hs hL
      exact ⟨sh', M', L, (s296_40k9).trans t, hL, t3⟩
    · obtain ⟨sh', M', t, t3⟩ := LC_10 (d := d) h hB hi hs hL
      exact ⟨sh', M', L, (s296_40k10).trans t, hL, t3⟩
    · obtain ⟨sh', M', t, t3⟩ := LC_11 (d := d) h hB hi hs hL
      exact ⟨sh', M', L, (s296_40k11).trans t, hL, t3⟩
    · obtain ⟨sh', M', t, t3⟩ := LC_12 (d := d) h hB hi hs hL
      exact ⟨sh', M', L, (s296_40k12).trans t, hL, t3⟩
    · obtain ⟨sh', M', t, t3⟩ := LC_13 (d := d) h hB hi hs hL
      exact ⟨sh', M', L, (s296_40k13).trans t, hL, t3⟩
    · obtain ⟨sh', M', t, t3⟩ := LC_14 (d := d) h hB hi hs hL
      exact ⟨sh', M', L, (s296_40k14).trans t, hL, t3⟩
    · obtain ⟨sh', M', t, t3⟩ := LC_15 (d := d) h hB hi hs hL
      exact ⟨sh', M', L, (s296_40k15).trans t, hL, t3⟩
    · obtain ⟨sh', M', t, t3⟩ := LC_16 (d := d) h hB hi hs hL
      exact ⟨sh', M', L, (s296_40k16).trans t, hL, t3⟩
    · obtain ⟨sh', M', t, t3⟩ := LC_17 (d := d) h hB hi hs hL
      exact ⟨sh', M', L, (s296_40k17).trans t, hL, t3⟩
    · obtain ⟨sh', M', t, t3⟩ := LC_18 (d := d) h hB hi hs hL
      exact ⟨sh', M', L, (s296_40k18).trans t, hL, t3⟩
    · obtain ⟨sh', M', t, t3⟩ := LC_19 (d := d) h hB hi hs hL
      exact ⟨sh', M', L, (s296_40k19).trans t, hL, t3⟩
    · obtain ⟨sh', M', t, t3⟩ := LC_20 (d := d) h hB hi hs hL
      exact ⟨sh', M', L, (s296_40k20).trans t, hL, t3⟩
    · obtain ⟨sh', M', t, t3⟩ := LC_21 (d := d) h hB hi hs hL
      exact ⟨sh', M', L, (s296_40k21).trans t, hL, t3⟩
    · obtain ⟨sh', M', t, t3⟩ := LC_22 (d := d) h hB hi hs hL
      exact ⟨sh', M', L, (s296_40k22).trans t, hL, t3⟩
    · obtain ⟨sh', M', t, t3⟩ := LC_23 (d := d) h hB hi hs hL
      exact ⟨sh', M', L, (s296_40k23).trans t, hL, t3⟩
    · obtain ⟨sh', M', t, t3⟩ := LC_24 (d := d) h hB hi hs hL
      exact ⟨sh', M', L, (s296_40k24).trans t, hL, t3⟩
    · obtain ⟨sh', M', t, t3⟩ := LC_25 (d := d) h hB hi hs hL
      exact ⟨sh', M', L, (s296_40k25).trans t, hL, t3⟩
    · obtain ⟨sh', M', t, t3⟩ := LC_26 (d := d) h hB hi hs hL
      exact ⟨sh', M', L, (s296_40k26).trans t, hL, t3⟩
    · obtain ⟨sh', M', t, t3⟩ := LC_27 (d := d) h hB hi hs hL
      exact ⟨sh', M', L, (s296_40k27).trans t, hL, t3⟩
    · obtain ⟨sh', M', t, t3⟩ := LC_28 (d := d) hFC h hB hi hs hL
      exact ⟨sh', M', L, (s296_40k28).trans t, hL, t3⟩
    · obtain ⟨sh', M', t, t3⟩ := LC_29 (d := d) h hB hi hs hL
      exact ⟨sh', M', L, (s296_40k29).trans t, hL, t3⟩
    · obtain ⟨sh', M', t, t3⟩ := LC_30 (d := d) h hB hi hs hL
      exact ⟨sh', M', L, (s296_40k30).trans t, hL, t3⟩
    · obtain ⟨sh', M', t, t3⟩ := LC_31 (d := d) h hB hi hs hL
      exact ⟨sh', M', L, (s296_40k31).trans t, hL, t3⟩
    · obtain ⟨sh', M', t, t3⟩ := LC_32 (d := d) h hB hi hs hL
      exact ⟨sh', M', L, (s296_40k32).trans t, hL, t3⟩
    · obtain ⟨sh', M', t, t3⟩ := LC_33 (d := d) h hB hi hs hL
      exact ⟨sh', M', L, (s296_40k33).trans t, hL, t3⟩
    · obtain ⟨sh', M', t, t3⟩ := LC_34 (d := d) h hB hi hs hL
      exact ⟨sh', M', L, (s296_40k34).trans t, hL, t3⟩
    · obtain ⟨sh', M', t, t3⟩ := LC_35 (d := d) h hB hi hs hL
      exact ⟨sh', M', L, (s296_40k35).trans t, hL, t3⟩
    · obtain ⟨sh', M', t, t3⟩ := LC_36 (d := d) h hB hi hs hL
      exact ⟨sh', M', L, (s296_40k36).trans t, hL, t3⟩
    · obtain ⟨sh', M', t, t3⟩ := LC_37 (d := d) h hB hi hs hL
      exact ⟨sh', M', L, (s296_40k37).trans t, hL, t3⟩
    · obtain ⟨sh', M', t, t3⟩ := LC_38 (d := d) h hB hi hs hL
      exact ⟨sh', M', L, (s296_40k38).trans t, hL, t3⟩
    · obtain ⟨sh', M', t, t3⟩ := LC_39 (d := d) h hB hi hs hL
      exact ⟨sh', M', L, (s296_40k39).trans t, hL, t3⟩
    · obtain ⟨sh', M', t, t3⟩ := LC_40 (d := d) h hB hi hs hL
      exact ⟨sh', M', L, (s296_40k40).trans t, hL, t3⟩
set_option maxRecDepth 20000 in
theorem law_loop (hFC : Cal sc (d + 80) 159 276 []) (hs : sc.1 < 2 ^ 31) : ∀ (k i : Nat) (sh : List sE) (M : aM) (B : Nat) (L : aL), i + 6 * k ≤ sc.1 → sc.1 < i + 6 * k + 6 → IV sh M B → B + 1000000 * k < 2 ^ 31 → LwL L i → ∃ sh' M', evp sc (d + 81) 296 23 L [] (mk sh M) = some (some (.int 1), mk sh' M') ∧ IV sh' M' (B + 1000000 * k) := fun k => by
  induction k with
  | zero =>
    intro i sh M B L h1' h2' h hB hL
    obtain ⟨hN, h0, h1, h2, h3, h4⟩ := hL
    have ea : e_arr sc (mk sh M) 0 0 = some sc := rfl
    have c1 : (Int32.ofNat sc.1 - 6 < nI i) = True := by
      rw [len6 hs (by omega)]
      exact eq_true (by omega)
    refine ⟨sh, M, ?_, h⟩
    rw [s296_23]
    simp (maxDischargeDepth := 9) (decide := true) only [s296_25, s296_26, s296_27, s296_29, s296_30, s296_1674, s296_1675, nl_sti, nl_str, nl_ci, nl_cr, nl_nil, ld_cons, ld_st, lr_some, li_some, lj_some, n2_nl, n2_ci, n2_cr, n2_nil, n2_sti, n2_str, tl_some, tl_none, cat_le, List.length_cons, List.length_nil, Option.bind_some, Option.bind_none, Option.map_some, cond_true, cond_false, Bool.and_true, Bool.true_and, reduceIte, Nat.reduceEqDiff, Nat.reduceAdd, Nat.reduceLeDiff, Nat.zero_add, Nat.zero_le, Nat.zero_ne_one, Nat.one_ne_zero, Nat.reduceLT, true_or, or_true, false_or, or_false, false_and, true_and, and_false, and_true, not_false_eq_true, not_true_eq_false, eq_self, mA_A, mA_I, mI_A, mI_I, b01, b10, b01n, b10n, i10, i01, im0, ei_max, ei_min, ei_obj, n30, n20, b011, b101, orn, nor, dneg, dnle, dne, dcl, cat0, cat1, cat2, cat3, cat4, hN, h0, h1, h2, h3, h4, ea, c1, if_true]
  | succ k ih =>
    intro i sh M B L h1' h2' h hB hL
    rw [Nat.mul_add, Nat.mul_one] at hB
    have hB1 : B + 1000000 < 2 ^ 31 := Nat.lt_of_le_of_lt (Nat.add_le_add_left (Nat.le_add_left _ _) _) hB
    have hB2 : B + 1000000 + 1000000 * k < 2 ^ 31 := by rw [Nat.add_assoc, Nat.add_comm 1000000]; exact hB
    have hi6 : i + 6 ≤ sc.1 := by omega
    obtain ⟨sh1, M1, L1, t1, l1, v1⟩ := law_one hFC h hB1 hi6 hs hL
    obtain ⟨hN, h0, h1, h2, h3, h4⟩ := l1
    obtain ⟨sh2, M2, t2, v2⟩ := ih (i + 6) sh1 M1 (B + 1000000) (e_st1 L1 4 (.int (nI (i + 6)))) (by omega) (by omega) v1 hB2 ⟨by simp (maxDischargeDepth := 9) only [nl_sti, nl_str, nl_ci, nl_cr, nl_nil, ld_cons, ld_st, lr_some, li_some, lj_some, n2_nl, n2_ci, n2_cr, n2_nil, n2_sti, n2_str, tl_some, tl_none, cat_le, List.length_cons, List.length_nil, Option.bind_some, Option.bind_none, Option.map_some, cond_true, cond_false, Bool.and_true, Bool.true_and, reduceIte, Nat.reduceEqDiff, Nat.reduceAdd, Nat.reduceLeDiff, Nat.zero_add, Nat.zero_le, Nat.zero_ne_one, Nat.one_ne_zero, Nat.reduceLT, true_or, or_true, false_or, or_false, false_and, true_and, and_false, and_true, not_false_eq_true, not_true_eq_false, eq_self, mA_A, mA_I, mI_A, mI_I, b01, b10, b01n, b10n, i10, i01, im0, ei_max, ei_min, ei_obj, n30, n20, hN], by simp only [nl_sti, nl_str, nl_ci, nl_cr, nl_nil, ld_cons, ld_st, lr_some, li_some, lj_some, n2_nl, n2_ci, n2_cr, n2_nil, n2_sti, n2_str, tl_some, tl_none, cat_le, List.length_cons, List.length_nil, Option.bind_some, Option.bind_none, Option.map_some, cond_true, cond_false, Bool.and_true, Bool.true_and, reduceIte, Nat.reduceEqDiff, Nat.reduceAdd, Nat.reduceLeDiff, Nat.zero_add, Nat.zero_le, Nat.zero_ne_one, Nat.one_ne_zero, Nat.reduceLT, true_or, or_true, false_or, or_false, false_and, true_and, and_false, and_true, not_false_eq_true, not_true_eq_false, eq_self, mA_A, mA_I, mI_A, mI_I, b01, b10, b01n, b10n, i10, i01, im0, ei_max, ei_min, ei_obj, n30, n20, h0], by simp only [nl_sti, nl_str, nl_ci, nl_cr, nl_nil, ld_cons, ld_st, lr_some, li_some, lj_some, n2_nl, n2_ci, n2_cr, n2_nil, n2_sti, n2_str, tl_some, tl_none, cat_le, List.length_cons, List.length_nil, Option.bind_some, Option.bind_none, Option.map_some, cond_true, cond_false, Bool.and_true, Bool.true_and, reduceIte, Nat.reduceEqDiff, Nat.reduceAdd, Nat.reduceLeDiff, Nat.zero_add, Nat.zero_le, Nat.zero_ne_one, Nat.one_ne_zero, Nat.reduceLT, true_or, or_true, false_or, or_false, false_and, true_and, and_false, and_true, not_false_eq_true, not_true_eq_false, eq_self, mA_A, mA_I, mI_A, mI_I, b01, b10, b01n, b10n, i10, i01, im0, ei_max, ei_min, ei_obj, n30, n20, h1], by simp only [nl_sti, nl_str, nl_ci, nl_cr, nl_nil, ld_cons, ld_st, lr_some, li_some, lj_some, n2_nl, n2_ci, n2_cr, n2_nil, n2_sti, n2_str, tl_some, tl_none, cat_le, List.length_cons, List.length_nil, Option.bind_some, Option.bind_none, Option.map_some, cond_true, cond_false, Bool.and_true, Bool.true_and, reduceIte, Nat.reduceEqDiff, Nat.reduceAdd, Nat.reduceLeDiff, Nat.zero_add, Nat.zero_le, Nat.zero_ne_one, Nat.one_ne_zero, Nat.reduceLT, true_or, or_true, false_or, or_false, false_and, true_and, and_false, and_true, not_false_eq_true, not_true_eq_false, eq_self, mA_A, mA_I, mI_A, mI_I, b01, b10, b01n, b10n, i10, i01, im0, ei_max, ei_min, ei_obj, n30, n20, h2], by simp only [nl_sti, nl_str, nl_ci, nl_cr, nl_nil, ld_cons, ld_st, lr_some, li_some, lj_some, n2_nl, n2_ci, n2_cr, n2_nil, n2_sti, n2_str, tl_some, tl_none, cat_le, List.length_cons, List.length_nil, Option.bind_some, Option.bind_none, Option.map_some, cond_true, cond_false, Bool.and_true, Bool.true_and, reduceIte, Nat.reduceEqDiff, Nat.reduceAdd, Nat.reduceLeDiff, Nat.zero_add, Nat.zero_le, Nat.zero_ne_one, Nat.one_ne_zero, Nat.reduceLT, true_or, or_true, false_or, or_false, false_and, true_and, and_false, and_true, not_false_eq_true, not_true_eq_false, eq_self, mA_A, mA_I, mI_A, mI_I, b01, b10, b01n, b10n, i10, i01, im0, ei_max, ei_min, ei_obj, n30, n20, h3], by simp only [nl_sti, nl_str, nl_ci, nl_cr, nl_nil, ld_cons, ld_st, lr_some, li_some, lj_some, n2_nl, n2_ci, n2_cr, n2_nil, n2_sti, n2_str, tl_some, tl_none, cat_le, List.length_cons, List.length_nil, Option.bind_some, Option.bind_none, Option.map_some, cond_true, cond_false, Bool.and_true, Bool.true_and, reduceIte, Nat.reduceEqDiff, Nat.reduceAdd, Nat.reduceLeDiff, Nat.zero_add, Nat.zero_le, Nat.zero_ne_one, Nat.one_ne_zero, Nat.reduceLT, true_or, or_true, false_or, or_false, false_and, true_and, and_false, and_true, not_false_eq_true, not_true_eq_false, eq_self, mA_A, mA_I, mI_A, mI_I, b01, b10, b01n, b10n, i10, i01, im0, ei_max, ei_min, ei_obj, n30, n20]⟩
    refine ⟨sh2, M2, ?_, by rw [Nat.mul_add, Nat.mul_one, Nat.add_comm (1000000 * k), ← Nat.add_assoc]; exact v2⟩
    rw [t1, ← t2, s296_1668]
    simp (maxDischargeDepth := 9) only [s296_1671, nl_sti, nl_str, nl_ci, nl_cr, nl_nil, ld_cons, ld_st, lr_some, li_some, lj_some, n2_nl, n2_ci, n2_cr, n2_nil, n2_sti, n2_str, tl_some, tl_none, cat_le, List.length_cons, List.length_nil, Option.bind_some, Option.bind_none, Option.map_some, cond_true, cond_false, Bool.and_true, Bool.true_and, reduceIte, Nat.reduceEqDiff, Nat.reduceAdd, Nat.reduceLeDiff, Nat.zero_add, Nat.zero_le, Nat.zero_ne_one, Nat.one_ne_zero, Nat.reduceLT, true_or, or_true, false_or, or_false, false_and, true_and, and_false, and_true, not_false_eq_true, not_true_eq_false, eq_self, mA_A, mA_I, mI_A, mI_I, b01, b10, b01n, b10n, i10, i01, im0, ei_max, ei_min, ei_obj, n30, n20, b011, b101, orn, nor, dneg, dnle, dne, dcl, cat0, cat1, cat2, cat3, cat4, hN, h4, na6]
end
