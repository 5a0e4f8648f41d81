/-! A SCRIPT, a ROW: the class's readers as wholes -/
section
variable {sc : aS} {d : Nat} {sh : List sE} {M W : aM} {a : Nat} {T r : List Nat} {v u f : Int32} {c t : Nat}
theorem T_step (h33 : shp sh 33 = some (.inl (9, [37, 38, 39, 40, 0, 0, 0, 0]))) (h34 : shp sh 34 = some (.inr (.inl (0, 240)))) (h37 : shp sh 37 = some (.inr (.inl (0, 80)))) (hT : CTp M T) {b : Nat} {g : Nat → Int32} (hb : b + 5 ≤ 80) (hr : Sx T r) : CSn (evp sc (d + 8 + 1) 114 0 [(0, .ref 33), (1, .int (nI b))] [] (mk sh (pS (mR M 37 g) (po T r) v c))) sh M c T g b (stP T r) := by
  have hT' : CTp (mR M 37 g) T := hT.mR (by decide)
  have ts := T_sign (sc := sc) (d := d + 8) (v := v) (c := c) h33 h34 hT' r hr
  have hrs := hr.skp
  have cn : ((-1 : Int32) < 0) = True := by decide
  have cm : ((0 : Int32) ≤ -1) = False := by decide
  unfold stP
  cases e : sk r with
  | nil =>
    rw [e] at ts
    refine ⟨g, v, ?_⟩
    simp (maxDischargeDepth := 9) only [s114_0, s114_1, s114_4, s114_5, s114_6, s114_9, s114_10, s114_20, s114_21, s114_22, s114_25, s114_26, nl_sti, nl_str, nl_ci, nl_cr, nl_nil, ld_cons, ld_st, lr_some, li_some, lj_some, n2_nl, n2_ci, n2_cr, n2_nil, n2_sti, n2_str, tl_some, tl_none, cat_le, List.length_cons, List.length_nil, Option.bind_some, Option.bind_none, Option.map_some, cond_true, cond_false, Bool.and_true, Bool.true_and, reduceIte, Nat.reduceEqDiff, Nat.reduceAdd, Nat.reduceLeDiff, Nat.zero_add, Nat.zero_le, Nat.zero_ne_one, Nat.one_ne_zero, Nat.reduceLT, true_or, or_true, false_or, or_false, false_and, true_and, and_false, and_true, not_false_eq_true, not_true_eq_false, eq_self, mA_A, mA_I, mI_A, mI_I, b01, b10, b01n, b10n, i10, i01, im0, ei_max, ei_min, ei_obj, n30, n20, b011, b101, orn, nor, dneg, dnle, dne, dcl, cat0, cat1, cat2, cat3, cat4, Tp_c h33, nl_cj, ts, hd0, cn, cm]
  | cons x r2 =>
    rw [e] at ts hrs
    obtain ⟨-, hx0, hx⟩ := hT.2.2 _ _ hrs.get
    have x0 : (nI x = 0) = False := eq_false (nI_ne0 (by omega) (by omega))
    have tx := i1006 (sc := sc) (h := mk sh (pS (mR M 37 g) (po T (x :: r2)) v c)) tx18 (by decide) hx
    show CSn _ sh M c T g b (match ix qls x with
      | none => .error (po T (x :: r2))
      | some kd => match snP T kd (nuf kd) 4 1 r2 with
        | .error p => .error p
        | .ok q => .ok (nI kd :: q.1, q.2))
    cases hi : ix qls x with
    | none =>
      rw [hi] at tx
      refine ⟨g, v, ?_⟩
      simp (maxDischargeDepth := 9) only [s114_0, s114_1, s114_4, s114_5, s114_6, s114_13, s114_15, s114_16, s114_17, s114_20, s114_21, s114_22, s114_25, s114_26, nl_sti, nl_str, nl_ci, nl_cr, nl_nil, ld_cons, ld_st, lr_some, li_some, lj_some, n2_nl, n2_ci, n2_cr, n2_nil, n2_sti, n2_str, tl_some, tl_none, cat_le, List.length_cons, List.length_nil, Option.bind_some, Option.bind_none, Option.map_some, cond_true, cond_false, Bool.and_true, Bool.true_and, reduceIte, Nat.reduceEqDiff, Nat.reduceAdd, Nat.reduceLeDiff, Nat.zero_add, Nat.zero_le, Nat.zero_ne_one, Nat.one_ne_zero, Nat.reduceLT, true_or, or_true, false_or, or_false, false_and, true_and, and_false, and_true, not_false_eq_true, not_true_eq_false, eq_self, mA_A, mA_I, mI_A, mI_I, b01, b10, b01n, b10n, i10, i01, im0, ei_max, ei_min, ei_obj, n30, n20, b011, b101, orn, nor, dneg, dnle, dne, dcl, cat0, cat1, cat2, cat3, cat4, Tp_c h33, nl_cj, ts, hd0, x0, i2c8 x hx, tx, oI, cn, cm]
    | some kd =>
      rw [hi] at tx
      have hkd : kd < 7 := ix_lt hi
      have c1 : ((0 : Int32) ≤ nI kd) = True := eq_true (Int32.not_lt.mp (nI_pos (by omega)))
      have c2 : (nI kd < 0) = False := eq_false (nI_pos (by omega))
      have hnu : nuf kd ≤ 4 := by
        rcases (show kd = 0 ∨ kd = 1 ∨ kd = 2 ∨ kd = 3 ∨ kd = 4 ∨ kd = 5 ∨ kd = 6 by omega) with rfl | rfl | rfl | rfl | rfl | rfl | rfl <;> decide
      have rn : ∀ h : aH, e_ia sc h 7 0 (nI kd) = some (nI (nuf kd)) := fun h => by
        rw [ro_ia (sc := sc) (h := h) (k := 7) (j := kd) (n := 7) (f := fun j => ([4, 1, 1, 1, 1, 2, 3] : List Int32).getD j 0) rfl (by decide) hkd (by decide)]
        rcases (show kd = 0 ∨ kd = 1 ∨ kd = 2 ∨ kd = 3 ∨ kd = 4 ∨ kd = 5 ∨ kd = 6 by omega) with rfl | rfl | rfl | rfl | rfl | rfl | rfl <;> rfl
      have w1 := fun (u v : Int32) (p : Nat) => T_w37 (M := M) (v := v) (u := u) (c := c) (g := g) (p := p) h37 (show b < 80 by omega)
      have ih := T_sn_loop (sc := sc) (d := d + 6) (M := M) (c := c) h33 h34 h37 hT hb hkd hnu 4 1 (up g b (nI kd)) r2 v (e_st1 (e_st1 (e_st1 (e_st1 [(0, .ref 33), (1, .int (nI b))] 2 (.int (nI x))) 3 (.int (nI kd))) 4 (.int (nI (nuf kd)))) 5 (.int 1)) (by omega) (by omega) hrs.tl (by simp (maxDischargeDepth := 9) only [nl_sti, nl_str, nl_ci, nl_cr, nl_nil, ld_cons, ld_st, lr_some, li_some, lj_some, n2_nl, n2_ci, n2_cr, n2_nil, n2_sti, n2_str, tl_some, tl_none, cat_le, List.length_cons, List.length_nil, Option.bind_some, Option.bind_none, Option.map_some, cond_true, cond_false, Bool.and_true, Bool.true_and, reduceIte, Nat.reduceEqDiff, Nat.reduceAdd, Nat.reduceLeDiff, Nat.zero_add, Nat.zero_le, Nat.zero_ne_one, Nat.one_ne_zero, Nat.reduceLT, true_or, or_true, false_or, or_false, false_and, true_and, and_false, and_true, not_false_eq_true, not_true_eq_false, eq_self, mA_A, mA_I, mI_A, mI_I, b01, b10, b01n, b10n, i10, i01, im0, ei_max, ei_min, ei_obj, n30, n20, nl_cj]) (by simp only [nl_sti, nl_str, nl_ci, nl_cr, nl_nil, ld_cons, ld_st, lr_some, li_some, lj_some, n2_nl, n2_ci, n2_cr, n2_nil, n2_sti, n2_str, tl_some, tl_none, cat_le, List.length_cons, List.length_nil, Option.bind_some, Option.bind_none, Option.map_some, cond_true, cond_false, Bool.and_true, Bool.true_and, reduceIte, Nat.reduceEqDiff, Nat.reduceAdd, Nat.reduceLeDiff, Nat.zero_add, Nat.zero_le, Nat.zero_ne_one, Nat.one_ne_zero, Nat.reduceLT, true_or, or_true, false_or, or_false, false_and, true_and, and_false, and_true, not_false_eq_true, not_true_eq_false, eq_self, mA_A, mA_I, mI_A, mI_I, b01, b10, b01n, b10n, i10, i01, im0, ei_max, ei_min, ei_obj, n30, n20]) (by simp only [nl_sti, nl_str, nl_ci, nl_cr, nl_nil, ld_cons, ld_st, lr_some, li_some, lj_some, n2_nl, n2_ci, n2_cr, n2_nil, n2_sti, n2_str, tl_some, tl_none, cat_le, List.length_cons, List.length_nil, Option.bind_some, Option.bind_none, Option.map_some, cond_true, cond_false, Bool.and_true, Bool.true_and, reduceIte, Nat.reduceEqDiff, Nat.reduceAdd, Nat.reduceLeDiff, Nat.zero_add, Nat.zero_le, Nat.zero_ne_one, Nat.one_ne_zero, Nat.reduceLT, true_or, or_true, false_or, or_false, false_and, true_and, and_false, and_true, not_false_eq_true, not_true_eq_false, eq_self, mA_A, mA_I, mI_A, mI_I, b01, b10, b01n, b10n, i10, i01, im0, ei_max, ei_min, ei_obj, n30, n20]) (by simp only [nl_sti, nl_str, nl_ci, nl_cr, nl_nil, ld_cons, ld_st, lr_some, li_some, lj_some, n2_nl, n2_ci, n2_cr, n2_nil, n2_sti, n2_str, tl_some, tl_none, cat_le, List.length_cons, List.length_nil, Option.bind_some, Option.bind_none, Option.map_some, cond_true, cond_false, Bool.and_true, Bool.true_and, reduceIte, Nat.reduceEqDiff, Nat.reduceAdd, Nat.reduceLeDiff, Nat.zero_add, Nat.zero_le, Nat.zero_ne_one, Nat.one_ne_zero, Nat.reduceLT, true_or, or_true, false_or, or_false, false_and, true_and, and_false, and_true, not_false_eq_true, not_true_eq_false, eq_self, mA_A, mA_I, mI_A, mI_I, b01, b10, b01n, b10n, i10, i01, im0, ei_max, ei_min, ei_obj, n30, n20]) (by simp only [nl_sti, nl_str, nl_ci, nl_cr, nl_nil, ld_cons, ld_st, lr_some, li_some, lj_some, n2_nl, n2_ci, n2_cr, n2_nil, n2_sti, n2_str, tl_some, tl_none, cat_le, List.length_cons, List.length_nil, Option.bind_some, Option.bind_none, Option.map_some, cond_true, cond_false, Bool.and_true, Bool.true_and, reduceIte, Nat.reduceEqDiff, Nat.reduceAdd, Nat.reduceLeDiff, Nat.zero_add, Nat.zero_le, Nat.zero_ne_one, Nat.one_ne_zero, Nat.reduceLT, true_or, or_true, false_or, or_false, false_and, true_and, and_false, and_true, not_false_eq_true, not_true_eq_false, eq_self, mA_A, mA_I, mI_A, mI_I, b01, b10, b01n, b10n, i10, i01, im0, ei_max, ei_min, ei_obj, n30, n20]) (by simp only [nl_sti, nl_str, nl_ci, nl_cr, nl_nil, ld_cons, ld_st, lr_some, li_some, lj_some, n2_nl, n2_ci, n2_cr, n2_nil, n2_sti, n2_str, tl_some, tl_none, cat_le, List.length_cons, List.length_nil, Option.bind_some, Option.bind_none, Option.map_some, cond_true, cond_false, Bool.and_true, Bool.true_and, reduceIte, Nat.reduceEqDiff, Nat.reduceAdd, Nat.reduceLeDiff, Nat.zero_add, Nat.zero_le, Nat.zero_ne_one, Nat.one_ne_zero, Nat.reduceLT, true_or, or_true, false_or, or_false, false_and, true_and, and_false, and_true, not_false_eq_true, not_true_eq_false, eq_self, mA_A, mA_I, mI_A, mI_I, b01, b10, b01n, b10n, i10, i01, im0, ei_max, ei_min, ei_obj, n30, n20]; rfl)
      have tp : evp sc (d + 8 + 1) 114 0 [(0, .ref 33), (1, .int (nI b))] [] (mk sh (pS (mR M 37 g) (po T r) v c)) = evp sc (d + 6 + 3) 114 54 (e_st1 (e_st1 (e_st1 (e_st1 [(0, .ref 33), (1, .int (nI b))] 2 (.int (nI x))) 3 (.int (nI kd))) 4 (.int (nI (nuf kd)))) 5 (.int 1)) [] (mk sh (pS (mR M 37 (up g b (nI kd))) (po T r2) v c)) := by
        simp (maxDischargeDepth := 9) only [s114_0, s114_1, s114_4, s114_5, s114_6, s114_13, s114_15, s114_16, s114_17, s114_20, s114_21, s114_22, s114_27, s114_28r, s114_29, s114_32, s114_33, s114_34, s114_37, s114_38, s114_41, s114_42, s114_43, s114_44, s114_47, s114_48, s114_49, s114_51, s114_52, nl_sti, nl_str, nl_ci, nl_cr, nl_nil, ld_cons, ld_st, lr_some, li_some, lj_some, n2_nl, n2_ci, n2_cr, n2_nil, n2_sti, n2_str, tl_some, tl_none, cat_le, List.length_cons, List.length_nil, Option.bind_some, Option.bind_none, Option.map_some, cond_true, cond_false, Bool.and_true, Bool.true_and, reduceIte, Nat.reduceEqDiff, Nat.reduceAdd, Nat.reduceLeDiff, Nat.zero_add, Nat.zero_le, Nat.zero_ne_one, Nat.one_ne_zero, Nat.reduceLT, true_or, or_true, false_or, or_false, false_and, true_and, and_false, and_true, not_false_eq_true, not_true_eq_false, eq_self, mA_A, mA_I, mI_A, mI_I, b01, b10, b01n, b10n, i10, i01, im0, ei_max, ei_min, ei_obj, n30, n20, b011, b101, orn, nor, dneg, dnle, dne, dcl, cat0, cat1, cat2, cat3, cat4, Tp_c h33, Tp_g3 h33, Tp_g5 h33, Tp_p5 h33, pS_5, pS_w5, nl_cj, ts, hd0, x0, i2c8 x hx, tx, oI, c1, c2, nI_1, hrs.po1, w1, rn]
      rw [tp]
      show CSn _ sh M c T g b (match snP T kd (nuf kd) 4 1 r2 with
        | .error p => .error p
        | .ok q => .ok (nI kd :: q.1, q.2))
      cases ho : snP T kd (nuf kd) 4 1 r2 with
      | error p => rw [ho] at ih; exact ih
      | ok q => rw [ho] at ih; exact ih
theorem T_sc_loop (h33 : shp sh 33 = some (.inl (9, [37, 38, 39, 40, 0, 0, 0, 0]))) (h34 : shp sh 34 = some (.inr (.inl (0, 240)))) (h37 : shp sh 37 = some (.inr (.inl (0, 80)))) (hT : CTp M T) : ∀ (k i : Nat) (g : Nat → Int32) (r : List Nat) (v : Int32) (L : aL), i + k = 16 → 1 ≤ k → Sx T r → e_n2 L → e_ld L 0 = some (.ref 33) → e_ld L 1 = some (.int (nI i)) → CSc (evp sc (d + 8 + 1 + 1) 113 12 L [] (mk sh (pS (mR M 37 g) (po T r) v i))) sh M g i (scP T k i r)
  | 0, i, g, r, v, L, hi, hk, hr, hN, h0, h1 => by omega
  | k + 1, i, g, r, v, L, hi, hk, hr, hN, h0, h1 => by
    have c1 : ((16 : Int32) ≤ nI i) = False := eq_false (nI_ge (b := 16) (by omega) (by omega))
    have m5 : nI i * 5 = nI (5 * i) := by rw [nm5, Nat.mul_comm]
    have e10 : ((1 : Int32) = 0) = False := by decide
    have tst := T_step (sc := sc) (d := d) (M := M) (v := v) (c := i) (g := g) (b := 5 * i) h33 h34 h37 hT (by omega) hr
    rw [scP]
    cases ho : stP T r with
    | error p =>
      rw [ho] at tst
      obtain ⟨g', v', tt⟩ := tst
      refine ⟨g', p, v', i, ?_⟩
      rw [s113_12]
      simp (maxDischargeDepth := 9) only [s113_13, s113_15, s113_18, s113_19, s113_20, s113_21, s113_22, s113_25, s113_28, s113_29, s113_32, nl_sti, nl_str, nl_ci, nl_cr, nl_nil, ld_cons, ld_st, lr_some, li_some, lj_some, n2_nl, n2_ci, n2_cr, n2_nil, n2_sti, n2_str, tl_some, tl_none, cat_le, List.length_cons, List.length_nil, Option.bind_some, Option.bind_none, Option.map_some, cond_true, cond_false, Bool.and_true, Bool.true_and, reduceIte, Nat.reduceEqDiff, Nat.reduceAdd, Nat.reduceLeDiff, Nat.zero_add, Nat.zero_le, Nat.zero_ne_one, Nat.one_ne_zero, Nat.reduceLT, true_or, or_true, false_or, or_false, false_and, true_and, and_false, and_true, not_false_eq_true, not_true_eq_false, eq_self, mA_A, mA_I, mI_A, mI_I, b01, b10, b01n, b10n, i10, i01, im0, ei_max, ei_min, ei_obj, n30, n20, b011, b101, orn, nor, dneg, dnle, dne, dcl, cat0, cat1, cat2, cat3, cat4, Tp_c h33, Tp_g5 h33, pS_5, hN, h0, h1, c1, m5, tt]
    | ok q =>
      obtain ⟨l5, r1⟩ := q
      rw [ho] at tst
      obtain ⟨v', tt⟩ := tst
      obtain ⟨s1, s2, s3, kd, l', s4, s5⟩ := stP_suf ho
      have s1 : Sx r r1 := s1
      have s2 : l5.length = 5 := s2
      have hr1 : Sx T r1 := hr.tr s1
      have hT2 : CTp (mR M 37 (wr g (5 * i) l5)) T := hT.mR (by decide)
      have ts := T_sign (sc := sc) (d := d + 8 + 1) (v := v') (c := i + 1) h33 h34 hT2 r1 hr1
      have tt : evp sc (d + 8 + 1) 114 0 [(0, .ref 33), (1, .int (nI (5 * i)))] [] (mk sh (pS (mR M 37 g) (po T r) v i)) = some (some (.int 1), mk sh (pS (mR M 37 (wr g (5 * i) l5)) (po T r1) v' i)) := tt
      show CSc _ sh M g i (match sk r1 with
        | [] => .ok l5
        | y :: r2 => if y = 59 ∧ ¬ i + 1 = 16 then
            (match scP T k (i + 1) r2 with
            | .error p => .error p
            | .ok l => .ok (l5 ++ l))
          else .error (po T (y :: r2)))
      have hrs := hr1.skp
      cases e : sk r1 with
      | nil =>
        rw [e] at ts hrs
        have lt' : (nI (po T []) < nI T.length) = False := eq_false (by show ¬ nI (T.length - 0) < nI T.length; exact Int32.lt_irrefl)
        refine ⟨po T [], v', 1, by omega, Nat.le_refl _, by omega, ?_⟩
        rw [s113_12]
        simp (maxDischargeDepth := 9) only [s113_13, s113_15, s113_18, s113_19, s113_20, s113_21, s113_22, s113_25, s113_33, s113_34r, s113_35, s113_38, s113_39, s113_40, s113_43, s113_44, s113_47, s113_48, s113_49, s113_52, s113_53, s113_56, s113_59, s113_60, nl_sti, nl_str, nl_ci, nl_cr, nl_nil, ld_cons, ld_st, lr_some, li_some, lj_some, n2_nl, n2_ci, n2_cr, n2_nil, n2_sti, n2_str, tl_some, tl_none, cat_le, List.length_cons, List.length_nil, Option.bind_some, Option.bind_none, Option.map_some, cond_true, cond_false, Bool.and_true, Bool.true_and, reduceIte, Nat.reduceEqDiff, Nat.reduceAdd, Nat.reduceLeDiff, Nat.zero_add, Nat.zero_le, Nat.zero_ne_one, Nat.one_ne_zero, Nat.reduceLT, true_or, or_true, false_or, or_false, false_and, true_and, and_false, and_true, not_false_eq_true, not_true_eq_false, eq_self, mA_A, mA_I, mI_A, mI_I, b01, b10, b01n, b10n, i10, i01, im0, ei_max, ei_min, ei_obj, n30, n20, b011, b101, orn, nor, dneg, dnle, dne, dcl, cat0, cat1, cat2, cat3, cat4, Tp_c h33, Tp_g4 h33, Tp_g5 h33, Tp_g7 h33, Tp_p7 h33, pS_4, pS_5, pS_7, pS_w7, hT2.1, hN, h0, h1, c1, m5, tt, e10, ts, hd0, lt', nI_1]
      | cons y r2 =>
        rw [e] at ts hrs
        obtain ⟨-, hx0, hx⟩ := hT.2.2 _ _ hrs.get
        have lt' : (nI (po T (y :: r2)) < nI T.length) = True := eq_true (by
          have := hrs.le
          rw [List.length_cons] at this
          rw [nI_ltE (by have := hT.2.1; unfold po; omega) (by have := hT.2.1; omega)]
          unfold po
          rw [List.length_cons]
          omega)
        have e16 : (nI (i + 1) = 16) = (i + 1 = 16) := propext (nI_eq (b := 16) (by omega) (by decide))
        by_cases qy : y = 59
        · have t59 : (nI y = 59) = True := eq_true (by rw [qy]; rfl)
          by_cases q16 : i + 1 = 16
          · have t16 : (nI (i + 1) = 16) = True := by rw [e16]; exact eq_true q16
            show CSc _ sh M g i (if y = 59 ∧ ¬ i + 1 = 16 then _ else .error (po T (y :: r2)))
            rw [if_neg (fun z => z.2 q16)]
            refine ⟨wr g (5 * i) l5, po T (y :: r2), v', i + 1, ?_⟩
            rw [s113_12]
            simp (maxDischargeDepth := 9) only [s113_13, s113_15, s113_18, s113_19, s113_20, s113_21, s113_22, s113_25, s113_33, s113_34r, s113_35, s113_38, s113_39, s113_40, s113_43, s113_44, s113_47, s113_48, s113_49, s113_52, s113_53, s113_56, s113_61, s113_62, s113_64, s113_67, s113_68, s113_71, s113_73, s113_76, s113_77, s113_80, nl_sti, nl_str, nl_ci, nl_cr, nl_nil, ld_cons, ld_st, lr_some, li_some, lj_some, n2_nl, n2_ci, n2_cr, n2_nil, n2_sti, n2_str, tl_some, tl_none, cat_le, List.length_cons, List.length_nil, Option.bind_some, Option.bind_none, Option.map_some, cond_true, cond_false, Bool.and_true, Bool.true_and, reduceIte, Nat.reduceEqDiff, Nat.reduceAdd, Nat.reduceLeDiff, Nat.zero_add, Nat.zero_le, Nat.zero_ne_one, Nat.one_ne_zero, Nat.reduceLT, true_or, or_true, false_or, or_false, false_and, true_and, and_false, and_true, not_false_eq_true, not_true_eq_false, eq_self, mA_A, mA_I, mI_A, mI_I, b01, b10, b01n, b10n, i10, i01, im0, ei_max, ei_min, ei_obj, n30, n20, b011, b101, orn, nor, dneg, dnle, dne, dcl, cat0, cat1, cat2, cat3, cat4, Tp_c h33, Tp_g4 h33, Tp_g5 h33, Tp_g7 h33, Tp_p7 h33, pS_4, pS_5, pS_7, pS_w7, hT2.1, hN, h0, h1, c1, m5, tt, e10, ts, hd0, lt', nI_1, t59, t16]
          · have t16 : (nI (i + 1) = 16) = False := by rw [e16]; exact eq_false q16
            show CSc _ sh M g i (if y = 59 ∧ ¬ i + 1 = 16 then (match scP T k (i + 1) r2 with
              | .error p => .error p
              | .ok l => .ok (l5 ++ l)) else .error (po T (y :: r2)))
            rw [if_pos ⟨qy, q16⟩]
            have ih := T_sc_loop h33 h34 h37 hT k (i + 1) (wr g (5 * i) l5) r2 v' (e_st1 (e_st1 L 2 (.int (nI y))) 1 (.int (nI (i + 1)))) (by omega) (by omega) hrs.tl (by simp (maxDischargeDepth := 9) only [nl_sti, nl_str, nl_ci, nl_cr, nl_nil, ld_cons, ld_st, lr_some, li_some, lj_some, n2_nl, n2_ci, n2_cr, n2_nil, n2_sti, n2_str, tl_some, tl_none, cat_le, List.length_cons, List.length_nil, Option.bind_some, Option.bind_none, Option.map_some, cond_true, cond_false, Bool.and_true, Bool.true_and, reduceIte, Nat.reduceEqDiff, Nat.reduceAdd, Nat.reduceLeDiff, Nat.zero_add, Nat.zero_le, Nat.zero_ne_one, Nat.one_ne_zero, Nat.reduceLT, true_or, or_true, false_or, or_false, false_and, true_and, and_false, and_true, not_false_eq_true, not_true_eq_false, eq_self, mA_A, mA_I, mI_A, mI_I, b01, b10, b01n, b10n, i10, i01, im0, ei_max, ei_min, ei_obj, n30, n20, hN]) (by simp only [nl_sti, nl_str, nl_ci, nl_cr, nl_nil, ld_cons, ld_st, lr_some, li_some, lj_some, n2_nl, n2_ci, n2_cr, n2_nil, n2_sti, n2_str, tl_some, tl_none, cat_le, List.length_cons, List.length_nil, Option.bind_some, Option.bind_none, Option.map_some, cond_true, cond_false, Bool.and_true, Bool.true_and, reduceIte, Nat.reduceEqDiff, Nat.reduceAdd, Nat.reduceLeDiff, Nat.zero_add, Nat.zero_le, Nat.zero_ne_one, Nat.one_ne_zero, Nat.reduceLT, true_or, or_true, false_or, or_false, false_and, true_and, and_false, and_true, not_false_eq_true, not_true_eq_false, eq_self, mA_A, mA_I, mI_A, mI_I, b01, b10, b01n, b10n, i10, i01, im0, ei_max, ei_min, ei_obj, n30, n20, h0]) (by simp only [nl_sti, nl_str, nl_ci, nl_cr, nl_nil, ld_cons, ld_st, lr_some, li_some, lj_some, n2_nl, n2_ci, n2_cr, n2_nil, n2_sti, n2_str, tl_some, tl_none, cat_le, List.length_cons, List.length_nil, Option.bind_some, Option.bind_none, Option.map_some, cond_true, cond_false, Bool.and_true, Bool.true_and, reduceIte, Nat.reduceEqDiff, Nat.reduceAdd, Nat.reduceLeDiff, Nat.zero_add, Nat.zero_le, Nat.zero_ne_one, Nat.one_ne_zero, Nat.reduceLT, true_or, or_true, false_or, or_false, false_and, true_and, and_false, and_true, not_false_eq_true, not_true_eq_false, eq_self, mA_A, mA_I, mI_A, mI_I, b01, b10, b01n, b10n, i10, i01, im0, ei_max, ei_min, ei_obj, n30, n20])
            have tp : evp sc (d + 8 + 1 + 1) 113 12 L [] (mk sh (pS (mR M 37 g) (po T r) v i)) = evp sc (d + 8 + 1 + 1) 113 12 (e_st1 (e_st1 L 2 (.int (nI y))) 1 (.int (nI (i + 1)))) [] (mk sh (pS (mR M 37 (wr g (5 * i) l5)) (po T r2) v' (i + 1))) := by
              rw [s113_12]
              simp (maxDischargeDepth := 9) only [s113_13, s113_15, s113_18, s113_19, s113_20, s113_21, s113_22, s113_25, s113_33, s113_34r, s113_35, s113_38, s113_39, s113_40, s113_43, s113_44, s113_47, s113_48, s113_49, s113_52, s113_53, s113_56, s113_61, s113_62, s113_64, s113_67, s113_68, s113_71, s113_73, s113_81, s113_82r, s113_83, s113_86, s113_87, s113_88, s113_91, s113_94, nl_sti, nl_str, nl_ci, nl_cr, nl_nil, ld_cons, ld_st, lr_some, li_some, lj_some, n2_nl, n2_ci, n2_cr, n2_nil, n2_sti, n2_str, tl_some, tl_none, cat_le, List.length_cons, List.length_nil, Option.bind_some, Option.bind_none, Option.map_some, cond_true, cond_false, Bool.and_true, Bool.true_and, reduceIte, Nat.reduceEqDiff, Nat.reduceAdd, Nat.reduceLeDiff, Nat.zero_add, Nat.zero_le, Nat.zero_ne_one, Nat.one_ne_zero, Nat.reduceLT, true_or, or_true, false_or, or_false, false_and, true_and, and_false, and_true, not_false_eq_true, not_true_eq_false, eq_self, mA_A, mA_I, mI_A, mI_I, b01, b10, b01n, b10n, i10, i01, im0, ei_max, ei_min, ei_obj, n30, n20, b011, b101, orn, nor, dneg, dnle, dne, dcl, cat0, cat1, cat2, cat3, cat4, Tp_c h33, Tp_g4 h33, Tp_g5 h33, Tp_g7 h33, Tp_p5 h33, Tp_p7 h33, pS_4, pS_5, pS_7, pS_w5, pS_w7, hT2.1, hN, h0, h1, c1, m5, tt, e10, ts, hd0, lt', nI_1, t59, t16, hrs.po1]
            rw [tp]
            cases ho2 : scP T k (i + 1) r2 with
            | error p => rw [ho2] at ih; exact ih
            | ok l =>
              rw [ho2] at ih
              obtain ⟨p', v2, n, n1, n2, n3, n4⟩ := ih
              refine ⟨p', v2, n + 1, by rw [List.length_append, s2, n1]; omega, by omega, by omega, ?_⟩
              rw [n4, wr_app, s2, show 5 * (i + 1) = 5 * i + 5 by omega, show i + 1 + n = i + (n + 1) by omega]
        · have t59 : (nI y = 59) = False := eq_false (fun z => qy ((nI_eq (b := 59) (by omega) (by decide)).mp z))
          show CSc _ sh M g i (if y = 59 ∧ ¬ i + 1 = 16 then _ else .error (po T (y :: r2)))
          rw [if_neg (fun z => qy z.1)]
          refine ⟨wr g (5 * i) l5, po T (y :: r2), v', i + 1, ?_⟩
          rw [s113_12]
          simp (maxDischargeDepth := 9) only [s113_13, s113_15, s113_18, s113_19, s113_20, s113_21, s113_22, s113_25, s113_33, s113_34r, s113_35, s113_38, s113_39, s113_40, s113_43, s113_44, s113_47, s113_48, s113_49, s113_52, s113_53, s113_56, s113_61, s113_62, s113_64, s113_76, s113_77, s113_80, nl_sti, nl_str, nl_ci, nl_cr, nl_nil, ld_cons, ld_st, lr_some, li_some, lj_some, n2_nl, n2_ci, n2_cr, n2_nil, n2_sti, n2_str, tl_some, tl_none, cat_le, List.length_cons, List.length_nil, Option.bind_some, Option.bind_none, Option.map_some, cond_true, cond_false, Bool.and_true, Bool.true_and, reduceIte, Nat.reduceEqDiff, Nat.reduceAdd, Nat.reduceLeDiff, Nat.zero_add, Nat.zero_le, Nat.zero_ne_one, Nat.one_ne_zero, Nat.reduceLT, true_or, or_true, false_or, or_false, false_and, true_and, and_false, and_true, not_false_eq_true, not_true_eq_false, eq_self, mA_A, mA_I, mI_A, mI_I, b01, b10, b01n, b10n, i10, i01, im0, ei_max, ei_min, ei_obj, n30, n20, b011, b101, orn, nor, dneg, dnle, dne, dcl, cat0, cat1, cat2, cat3, cat4, Tp_c h33, Tp_g4 h33, Tp_g5 h33, Tp_g7 h33, Tp_p7 h33, pS_4, pS_5, pS_7, pS_w7, hT2.1, hN, h0, h1, c1, m5, tt, e10, ts, hd0, lt', nI_1, t59]
theorem mI_self (M : aM) (b j : Nat) : mI M b j (M.1 b j) = M := by
  have e : up2 M.1 b j (M.1 b j) = M.1 := by
    funext x y
    simp only [up2]
    split
    · rename_i h
      rw [h.1, h.2]
    · rfl
  show (up2 M.1 b j (M.1 b j), M.2.1, M.2.2) = M
  rw [e]
theorem pS_in (M : aM) (p c : Nat) : mI (mI M 33 5 (nI p)) 33 7 (nI c) = pS M p (M.1 33 6) c := by
  unfold pS
  rw [show M.1 33 6 = (mI M 33 5 (nI p)).1 33 6 by rw [mI_At, if_neg (by decide)], mI_self]
theorem po_T (T : List Nat) : po T T = 0 := Nat.sub_self _
theorem T_script (h33 : shp sh 33 = some (.inl (9, [37, 38, 39, 40, 0, 0, 0, 0]))) (h34 : shp sh 34 = some (.inr (.inl (0, 240)))) (h37 : shp sh 37 = some (.inr (.inl (0, 80)))) (hT : CTp M T) : CSc (evp sc (d + 8 + 1 + 1) 113 0 [(0, .ref 33)] [] (mk sh M)) sh M (M.2.1 37) 0 (scP T 16 0 T) := by
  have t := T_sc_loop (sc := sc) (d := d) (M := M) h33 h34 h37 hT 16 0 (M.2.1 37) T (M.1 33 6) (e_st1 [(0, .ref 33)] 1 (.int 0)) (by omega) (by omega) (Sx.rf T) (by simp (maxDischargeDepth := 9) only [nl_sti, nl_str, nl_ci, nl_cr, nl_nil, ld_cons, ld_st, lr_some, li_some, lj_some, n2_nl, n2_ci, n2_cr, n2_nil, n2_sti, n2_str, tl_some, tl_none, cat_le, List.length_cons, List.length_nil, Option.bind_some, Option.bind_none, Option.map_some, cond_true, cond_false, Bool.and_true, Bool.true_and, reduceIte, Nat.reduceEqDiff, Nat.reduceAdd, Nat.reduceLeDiff, Nat.zero_add, Nat.zero_le, Nat.zero_ne_one, Nat.one_ne_zero, Nat.reduceLT, true_or, or_true, false_or, or_false, false_and, true_and, and_false, and_true, not_false_eq_true, not_true_eq_false, eq_self, mA_A, mA_I, mI_A, mI_I, b01, b10, b01n, b10n, i10, i01, im0, ei_max, ei_min, ei_obj, n30, n20, nl_cj]) (by simp only [nl_sti, nl_str, nl_ci, nl_cr, nl_nil, ld_cons, ld_st, lr_some, li_some, lj_some, n2_nl, n2_ci, n2_cr, n2_nil, n2_sti, n2_str, tl_some, tl_none, cat_le, List.length_cons, List.length_nil, Option.bind_some, Option.bind_none, Option.map_some, cond_true, cond_false, Bool.and_true, Bool.true_and, reduceIte, Nat.reduceEqDiff, Nat.reduceAdd, Nat.reduceLeDiff, Nat.zero_add, Nat.zero_le, Nat.zero_ne_one, Nat.one_ne_zero, Nat.reduceLT, true_or, or_true, false_or, or_false, false_and, true_and, and_false, and_true, not_false_eq_true, not_true_eq_false, eq_self, mA_A, mA_I, mI_A, mI_I, b01, b10, b01n, b10n, i10, i01, im0, ei_max, ei_min, ei_obj, n30, n20]) (by simp only [nl_sti, nl_str, nl_ci, nl_cr, nl_nil, ld_cons, ld_st, lr_some, li_some, lj_some, n2_nl, n2_ci, n2_cr, n2_nil, n2_sti, n2_str, tl_some, tl_none, cat_le, List.length_cons, List.length_nil, Option.bind_some, Option.bind_none, Option.map_some, cond_true, cond_false, Bool.and_true, Bool.true_and, reduceIte, Nat.reduceEqDiff, Nat.reduceAdd, Nat.reduceLeDiff, Nat.zero_add, Nat.zero_le, Nat.zero_ne_one, Nat.one_ne_zero, Nat.reduceLT, true_or, or_true, false_or, or_false, false_and, true_and, and_false, and_true, not_false_eq_true, not_true_eq_false, eq_self, mA_A, mA_I, mI_A, mI_I, b01, b10, b01n, b10n, i10, i01, im0, ei_max, ei_min, ei_obj, n30, n20, nz0])
  rw [mR_self, po_T, ← pS_in, nz0] at t
  simp (maxDischargeDepth := 9) only [s113_0, s113_1, s113_2, s113_5, s113_6, s113_7, s113_10, s113_11, nl_sti, nl_str, nl_ci, nl_cr, nl_nil, ld_cons, ld_st, lr_some, li_some, lj_some, n2_nl, n2_ci, n2_cr, n2_nil, n2_sti, n2_str, tl_some, tl_none, cat_le, List.length_cons, List.length_nil, Option.bind_some, Option.bind_none, Option.map_some, cond_true, cond_false, Bool.and_true, Bool.true_and, reduceIte, Nat.reduceEqDiff, Nat.reduceAdd, Nat.reduceLeDiff, Nat.zero_add, Nat.zero_le, Nat.zero_ne_one, Nat.one_ne_zero, Nat.reduceLT, true_or, or_true, false_or, or_false, false_and, true_and, and_false, and_true, not_false_eq_true, not_true_eq_false, eq_self, mA_A, mA_I, mI_A, mI_I, b01, b10, b01n, b10n, i10, i01, im0, ei_max, ei_min, ei_obj, n30, n20, b011, b101, orn, nor, dneg, dnle, dne, dcl, cat0, cat1, cat2, cat3, cat4, Tp_p5 h33, Tp_p7 h33, nl_cj]
  exact t
theorem T_row (h33 : shp sh 33 = some (.inl (9, [37, 38, 39, 40, 0, 0, 0, 0]))) (h34 : shp sh 34 = some (.inr (.inl (0, 240)))) (h35 : shp sh 35 = some (.inr (.inl (0, 5)))) (h36 : shp sh 36 = some (.inr (.inl (0, 32)))) (hT : CTp M T) : CRw (evp sc (d + 8 + 1 + 1) 111 0 [(0, .ref 33)] [] (mk sh M)) sh M (rwP T 241 false 0 (rdf (M.2.1 35)) (M.2.1 36) T) := by
  have t := T_row_loop (sc := sc) (d := d) (M := M) h33 h34 h35 h36 hT 241 0 false 0 (rdf (M.2.1 35)) (M.2.1 36) T (M.1 33 6) (e_st1 (e_st1 [(0, .ref 33)] 1 (.int 0)) 2 (.int 0)) (by omega) (by have := hT.2.1; omega) (by omega) (Sx.rf T) (by simp (maxDischargeDepth := 9) only [nl_sti, nl_str, nl_ci, nl_cr, nl_nil, ld_cons, ld_st, lr_some, li_some, lj_some, n2_nl, n2_ci, n2_cr, n2_nil, n2_sti, n2_str, tl_some, tl_none, cat_le, List.length_cons, List.length_nil, Option.bind_some, Option.bind_none, Option.map_some, cond_true, cond_false, Bool.and_true, Bool.true_and, reduceIte, Nat.reduceEqDiff, Nat.reduceAdd, Nat.reduceLeDiff, Nat.zero_add, Nat.zero_le, Nat.zero_ne_one, Nat.one_ne_zero, Nat.reduceLT, true_or, or_true, false_or, or_false, false_and, true_and, and_false, and_true, not_false_eq_true, not_true_eq_false, eq_self, mA_A, mA_I, mI_A, mI_I, b01, b10, b01n, b10n, i10, i01, im0, ei_max, ei_min, ei_obj, n30, n20, nl_cj]) (by simp only [nl_sti, nl_str, nl_ci, nl_cr, nl_nil, ld_cons, ld_st, lr_some, li_some, lj_some, n2_nl, n2_ci, n2_cr, n2_nil, n2_sti, n2_str, tl_some, tl_none, cat_le, List.length_cons, List.length_nil, Option.bind_some, Option.bind_none, Option.map_some, cond_true, cond_false, Bool.and_true, Bool.true_and, reduceIte, Nat.reduceEqDiff, Nat.reduceAdd, Nat.reduceLeDiff, Nat.zero_add, Nat.zero_le, Nat.zero_ne_one, Nat.one_ne_zero, Nat.reduceLT, true_or, or_true, false_or, or_false, false_and, true_and, and_false, and_true, not_false_eq_true, not_true_eq_false, eq_self, mA_A, mA_I, mI_A, mI_I, b01, b10, b01n, b10n, i10, i01, im0, ei_max, ei_min, ei_obj, n30, n20]) (by simp only [nl_sti, nl_str, nl_ci, nl_cr, nl_nil, ld_cons, ld_st, lr_some, li_some, lj_some, n2_nl, n2_ci, n2_cr, n2_nil, n2_sti, n2_str, tl_some, tl_none, cat_le, List.length_cons, List.length_nil, Option.bind_some, Option.bind_none, Option.map_some, cond_true, cond_false, Bool.and_true, Bool.true_and, reduceIte, Nat.reduceEqDiff, Nat.reduceAdd, Nat.reduceLeDiff, Nat.zero_add, Nat.zero_le, Nat.zero_ne_one, Nat.one_ne_zero, Nat.reduceLT, true_or, or_true, false_or, or_false, false_and, true_and, and_false, and_true, not_false_eq_true, not_true_eq_false, eq_self, mA_A, mA_I, mI_A, mI_I, b01, b10, b01n, b10n, i10, i01, im0, ei_max, ei_min, ei_obj, n30, n20]; rfl) (by simp only [nl_sti, nl_str, nl_ci, nl_cr, nl_nil, ld_cons, ld_st, lr_some, li_some, lj_some, n2_nl, n2_ci, n2_cr, n2_nil, n2_sti, n2_str, tl_some, tl_none, cat_le, List.length_cons, List.length_nil, Option.bind_some, Option.bind_none, Option.map_some, cond_true, cond_false, Bool.and_true, Bool.true_and, reduceIte, Nat.reduceEqDiff, Nat.reduceAdd, Nat.reduceLeDiff, Nat.zero_add, Nat.zero_le, Nat.zero_ne_one, Nat.one_ne_zero, Nat.reduceLT, true_or, or_true, false_or, or_false, false_and, true_and, and_false, and_true, not_false_eq_true, not_true_eq_false, eq_self, mA_A, mA_I, mI_A, mI_I, b01, b10, b01n, b10n, i10, i01, im0, ei_max, ei_min, ei_obj, n30, n20, nz0])
  have e36 : mR (mR M 35 (rdf (M.2.1 35))) 36 (M.2.1 36) = mR M 35 (rdf (M.2.1 35)) := by
    have := mR_self (mR M 35 (rdf (M.2.1 35))) 36
    rw [mR_o (by decide)] at this
    exact this
  rw [e36, po_T, show M.1 33 6 = (mR M 35 (rdf (M.2.1 35))).1 33 6 from rfl, ← pS_in, nz0] at t
  have tc := cpy_to (sc := sc) (sh := sh) (M := mI (mI M 33 5 0) 33 7 0) (A := 35) (k := 1) (dp := 0) (n := 5) (n0 := 5) (n1 := 5) (f := fun j => ([4, 0, 0, 1, 0] : List Int32).getD j 0) rfl h35 (by decide) (by decide) (by decide)
  have tc2 : mR (mI (mI M 33 5 0) 33 7 0) 35 (va_cpy (fun j => ([4, 0, 0, 1, 0] : List Int32).getD j 0) ((mI (mI M 33 5 0) 33 7 0).2.1 35) 0 0 5) = mI (mI (mR M 35 (rdf (M.2.1 35))) 33 5 0) 33 7 0 := by
    rw [rdf_eq]
    rfl
  rw [tc2, show nI 0 = (0 : Int32) from rfl, show nI 5 = (5 : Int32) from rfl] at tc
  simp (maxDischargeDepth := 9) only [s111_0, s111_1, s111_2, s111_5, s111_6, s111_7, s111_10, s111_11, s111_12, s111_15, s111_16, s111_17, s111_20, s111_21, s111_22, s111_25, s111_26, nl_sti, nl_str, nl_ci, nl_cr, nl_nil, ld_cons, ld_st, lr_some, li_some, lj_some, n2_nl, n2_ci, n2_cr, n2_nil, n2_sti, n2_str, tl_some, tl_none, cat_le, List.length_cons, List.length_nil, Option.bind_some, Option.bind_none, Option.map_some, cond_true, cond_false, Bool.and_true, Bool.true_and, reduceIte, Nat.reduceEqDiff, Nat.reduceAdd, Nat.reduceLeDiff, Nat.zero_add, Nat.zero_le, Nat.zero_ne_one, Nat.one_ne_zero, Nat.reduceLT, true_or, or_true, false_or, or_false, false_and, true_and, and_false, and_true, not_false_eq_true, not_true_eq_false, eq_self, mA_A, mA_I, mI_A, mI_I, b01, b10, b01n, b10n, i10, i01, im0, ei_max, ei_min, ei_obj, n30, n20, b011, b101, orn, nor, dneg, dnle, dne, dcl, cat0, cat1, cat2, cat3, cat4, Tp_g1 h33, Tp_p5 h33, Tp_p7 h33, nl_cj, tc]
  exact t
end
