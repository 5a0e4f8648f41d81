/-! A SCRIPT as a text: the class -/
def CSn (E : aR) (sh : List sE) (M : aM) (c : Nat) (T : List Nat) (g : Nat → Int32) (b : Nat) (q : Except Nat (List Int32 × List Nat)) : Prop := match q with
  | .error p => ∃ g' v', E = some (some (.int 0), mk sh (pS (mR M 37 g') p v' c))
  | .ok q => ∃ v', E = some (some (.int 1), mk sh (pS (mR M 37 (wr g b q.1)) (po T q.2) v' c))
def CSc (E : aR) (sh : List sE) (M : aM) (g : Nat → Int32) (i : Nat) (q : Except Nat (List Int32)) : Prop := match q with
  | .error p => ∃ g' p' v' c', E = some (some (.int (nI p)), mk sh (pS (mR M 37 g') p' v' c'))
  | .ok l => ∃ p' v' n, l.length = 5 * n ∧ 1 ≤ n ∧ i + n ≤ 16 ∧ E = some (some (.int (-1)), mk sh (pS (mR M 37 (wr g (5 * i) l)) p' v' (i + n)))
theorem tx18 : e_txt 18 = some (qls.map nI) := by decide +kernel
theorem tx21 : e_txt 21 = some (qls.map nI) := by decide +kernel
section
variable {sc : aS} {d : Nat} {sh : List sE} {M W : aM} {a : Nat} {T r : List Nat} {v u f : Int32} {c t : Nat}
theorem T_comma_y (h33 : shp sh 33 = some (.inl (9, [37, 38, 39, 40, 0, 0, 0, 0]))) (h34 : shp sh 34 = some (.inr (.inl (0, 240)))) (hT : CTp M T) {r1 : List Nat} (hr : Sx T r) (h : cmP r = some r1) : evp sc (d + 1) 115 0 [(0, .ref 33)] [] (mk sh (pS M (po T r) v c)) = some (some (.int 1), mk sh (pS M (po T r1) v c)) := by
  have ts := T_sign (sc := sc) (d := d) (v := v) (c := c) h33 h34 hT r hr
  have hrs := hr.skp
  unfold cmP at h
  cases e : sk r with
  | nil => rw [e] at h; cases h
  | cons x r2 =>
    rw [e] at h ts hrs
    simp only at h
    split at h
    · rename_i q
      have e2 := Option.some.inj h
      subst e2
      have t44 : (nI x = 44) = True := eq_true (by rw [q]; rfl)
      simp (maxDischargeDepth := 9) only [s115_0, s115_1, s115_4, s115_6, s115_9, s115_10, s115_11, s115_12, s115_12r, s115_13, s115_16, s115_17, s115_18, s115_21, s115_22, nl_sti, nl_str, nl_ci, nl_cr, nl_nil, ld_cons, ld_st, lr_some, li_some, lj_some, n2_nl, n2_ci, n2_cr, n2_nil, n2_sti, n2_str, tl_some, tl_none, cat_le, List.length_cons, List.length_nil, Option.bind_some, Option.bind_none, Option.map_some, cond_true, cond_false, Bool.and_true, Bool.true_and, reduceIte, Nat.reduceEqDiff, Nat.reduceAdd, Nat.reduceLeDiff, Nat.zero_add, Nat.zero_le, Nat.zero_ne_one, Nat.one_ne_zero, Nat.reduceLT, true_or, or_true, false_or, or_false, false_and, true_and, and_false, and_true, not_false_eq_true, not_true_eq_false, eq_self, mA_A, mA_I, mI_A, mI_I, b01, b10, b01n, b10n, i10, i01, im0, ei_max, ei_min, ei_obj, n30, n20, b011, b101, orn, nor, dneg, dnle, dne, dcl, cat0, cat1, cat2, cat3, cat4, Tp_c h33, Tp_g5 h33, Tp_p5 h33, pS_5, pS_w5, ts, hd0, t44, nI_1, hrs.po1]
    · cases h
theorem T_comma_n (h33 : shp sh 33 = some (.inl (9, [37, 38, 39, 40, 0, 0, 0, 0]))) (h34 : shp sh 34 = some (.inr (.inl (0, 240)))) (hT : CTp M T) (hr : Sx T r) (h : cmP r = none) : evp sc (d + 1) 115 0 [(0, .ref 33)] [] (mk sh (pS M (po T r) v c)) = some (some (.int 0), mk sh (pS M (po T (sk r)) v c)) := by
  have ts := T_sign (sc := sc) (d := d) (v := v) (c := c) h33 h34 hT r hr
  have hrs := hr.skp
  unfold cmP at h
  cases e : sk r with
  | nil =>
    rw [e] at ts
    have z : ((0 : Int32) = 44) = False := by decide
    simp (maxDischargeDepth := 9) only [s115_0, s115_1, s115_4, s115_6, s115_9, s115_10, s115_11, s115_12, s115_12r, s115_13, s115_16, s115_17, s115_18, s115_21, s115_22, nl_sti, nl_str, nl_ci, nl_cr, nl_nil, ld_cons, ld_st, lr_some, li_some, lj_some, n2_nl, n2_ci, n2_cr, n2_nil, n2_sti, n2_str, tl_some, tl_none, cat_le, List.length_cons, List.length_nil, Option.bind_some, Option.bind_none, Option.map_some, cond_true, cond_false, Bool.and_true, Bool.true_and, reduceIte, Nat.reduceEqDiff, Nat.reduceAdd, Nat.reduceLeDiff, Nat.zero_add, Nat.zero_le, Nat.zero_ne_one, Nat.one_ne_zero, Nat.reduceLT, true_or, or_true, false_or, or_false, false_and, true_and, and_false, and_true, not_false_eq_true, not_true_eq_false, eq_self, mA_A, mA_I, mI_A, mI_I, b01, b10, b01n, b10n, i10, i01, im0, ei_max, ei_min, ei_obj, n30, n20, b011, b101, orn, nor, dneg, dnle, dne, dcl, cat0, cat1, cat2, cat3, cat4, Tp_c h33, ts, hd0, z]
  | cons x r2 =>
    rw [e] at h ts hrs
    simp only at h
    split at h
    · cases h
    · rename_i q
      obtain ⟨-, hx0, hx⟩ := hT.2.2 _ _ hrs.get
      have t44 : (nI x = 44) = False := eq_false (fun z => q ((nI_eq (b := 44) (by omega) (by decide)).mp z))
      simp (maxDischargeDepth := 9) only [s115_0, s115_1, s115_4, s115_6, s115_9, s115_10, s115_11, s115_12, s115_12r, s115_13, s115_16, s115_17, s115_18, s115_21, s115_22, nl_sti, nl_str, nl_ci, nl_cr, nl_nil, ld_cons, ld_st, lr_some, li_some, lj_some, n2_nl, n2_ci, n2_cr, n2_nil, n2_sti, n2_str, tl_some, tl_none, cat_le, List.length_cons, List.length_nil, Option.bind_some, Option.bind_none, Option.map_some, cond_true, cond_false, Bool.and_true, Bool.true_and, reduceIte, Nat.reduceEqDiff, Nat.reduceAdd, Nat.reduceLeDiff, Nat.zero_add, Nat.zero_le, Nat.zero_ne_one, Nat.one_ne_zero, Nat.reduceLT, true_or, or_true, false_or, or_false, false_and, true_and, and_false, and_true, not_false_eq_true, not_true_eq_false, eq_self, mA_A, mA_I, mI_A, mI_I, b01, b10, b01n, b10n, i10, i01, im0, ei_max, ei_min, ei_obj, n30, n20, b011, b101, orn, nor, dneg, dnle, dne, dcl, cat0, cat1, cat2, cat3, cat4, Tp_c h33, ts, hd0, t44]
theorem T_num9 (h33 : shp sh 33 = some (.inl (9, [37, 38, 39, 40, 0, 0, 0, 0]))) (h34 : shp sh 34 = some (.inr (.inl (0, 240)))) (hT : CTp M T) {kd : Nat} (hr : Sx T r) : evp sc (d + 2) 116 0 [(0, .ref 33), (1, .int (nI (mdg kd))), (2, .int 0), (3, .int (if kd = 1 then 99 else 9))] [] (mk sh (pS M (po T r) u c)) = some (some (.int (if nok (mdg kd) r = true then 1 else 0)), mk sh (pS M (po T (nr (mdg kd) r)) (nI (nv (mdg kd) r)) c)) := by
  by_cases q : kd = 1
  · have em : mdg kd = 2 := if_pos q
    rw [em, if_pos q]
    have hv := nv_le 2 r
    have tn := T_num (sc := sc) (d := d) (u := u) (c := c) h33 h34 hT (m := 2) (l := 0) (h := 99) (by decide) (by decide) (by decide) (by decide) hr
    have e : (0 ≤ nv 2 r ∧ nv 2 r ≤ 99) = True := eq_true ⟨Nat.zero_le _, by have : nv 2 r < 100 := hv; omega⟩
    simp only [e, and_true, not_true, and_false, if_false] at tn
    exact tn
  · have em : mdg kd = 1 := if_neg q
    rw [em, if_neg q]
    have hv := nv_le 1 r
    have tn := T_num (sc := sc) (d := d) (u := u) (c := c) h33 h34 hT (m := 1) (l := 0) (h := 9) (by decide) (by decide) (by decide) (by decide) hr
    have e : (0 ≤ nv 1 r ∧ nv 1 r ≤ 9) = True := eq_true ⟨Nat.zero_le _, by have : nv 1 r < 10 := hv; omega⟩
    simp only [e, and_true, not_true, and_false, if_false] at tn
    exact tn
theorem T_w37 (h37 : shp sh 37 = some (.inr (.inl (0, 80)))) {g : Nat → Int32} {j p : Nat} (hj : j < 80) : e_is (mk sh (pS (mR M 37 g) p v c)) 37 (nI j) u = some (mk sh (pS (mR M 37 (up g j u)) p v c)) := by
  rw [is_mk h37, cl_nI hj (by decide), if_pos (fun z => z.elim (nI_pos (by omega)) (by omega)), ← mA_mR]
  rfl
set_option maxRecDepth 20000 in
theorem T_sn_loop (h33 : shp sh 33 = some (.inl (9, [37, 38, 39, 40, 0, 0, 0, 0]))) (h34 : shp sh 34 = some (.inr (.inl (0, 240)))) (h37 : shp sh 37 = some (.inr (.inl (0, 80)))) (hT : CTp M T) {b kd nu : Nat} (hb : b + 5 ≤ 80) (hkd : kd < 7) (hnu : nu ≤ 4) : ∀ (k i : Nat) (g : Nat → Int32) (r : List Nat) (v : Int32) (L : aL), i + k = 5 → 1 ≤ i → Sx T r → e_n2 L → e_ld L 0 = some (.ref 33) → e_ld L 1 = some (.int (nI b)) → e_ld L 3 = some (.int (nI kd)) → e_ld L 4 = some (.int (nI nu)) → e_ld L 5 = some (.int (nI i)) → CSn (evp sc (d + 3) 114 54 L [] (mk sh (pS (mR M 37 g) (po T r) v c))) sh M c T g (b + i) (snP T kd nu k i r)
  | 0, i, g, r, v, L, hi, hi1, hr, hN, h0, h1, h3, h4, h5 => by
    have c1 : ((5 : Int32) ≤ nI i) = True := eq_true (nI_le (a := 5) (by omega) (by omega))
    refine ⟨v, ?_⟩
    rw [s114_54]
    simp (maxDischargeDepth := 9) only [s114_56, s114_57, s114_143, s114_144, nl_sti, nl_str, nl_ci, nl_cr, nl_nil, ld_cons, ld_st, lr_some, li_some, lj_some, n2_nl, n2_ci, n2_cr, n2_nil, n2_sti, n2_str, tl_some, tl_none, cat_le, List.length_cons, List.length_nil, Option.bind_some, Option.bind_none, Option.map_some, cond_true, cond_false, Bool.and_true, Bool.true_and, reduceIte, Nat.reduceEqDiff, Nat.reduceAdd, Nat.reduceLeDiff, Nat.zero_add, Nat.zero_le, Nat.zero_ne_one, Nat.one_ne_zero, Nat.reduceLT, true_or, or_true, false_or, or_false, false_and, true_and, and_false, and_true, not_false_eq_true, not_true_eq_false, eq_self, mA_A, mA_I, mI_A, mI_I, b01, b10, b01n, b10n, i10, i01, im0, ei_max, ei_min, ei_obj, n30, n20, b011, b101, orn, nor, dneg, dnle, dne, dcl, cat0, cat1, cat2, cat3, cat4, hN, h0, h1, h3, h4, h5, c1, wr]
  | k + 1, i, g, r, v, L, hi, hi1, hr, hN, h0, h1, h3, h4, h5 => by
    have c1 : ((5 : Int32) ≤ nI i) = False := eq_false (nI_ge (b := 5) (by omega) (by omega))
    have hT' : ∀ g, CTp (mR M 37 g) T := fun g => hT.mR (by decide)
    have w1 := fun (g : Nat → Int32) (u v : Int32) (p : Nat) => T_w37 (M := M) (v := v) (u := u) (c := c) (g := g) (p := p) h37 (show b + i < 80 by omega)
    have go := fun g' r' v' (hr' : Sx T r') => T_sn_loop h33 h34 h37 hT hb hkd hnu k (i + 1) g' r' v' (e_st1 L 5 (.int (nI (i + 1)))) (by omega) (by omega) hr' (by simp (maxDischargeDepth := 9) only [nl_sti, nl_str, nl_ci, nl_cr, nl_nil, ld_cons, ld_st, lr_some, li_some, lj_some, n2_nl, n2_ci, n2_cr, n2_nil, n2_sti, n2_str, tl_some, tl_none, cat_le, List.length_cons, List.length_nil, Option.bind_some, Option.bind_none, Option.map_some, cond_true, cond_false, Bool.and_true, Bool.true_and, reduceIte, Nat.reduceEqDiff, Nat.reduceAdd, Nat.reduceLeDiff, Nat.zero_add, Nat.zero_le, Nat.zero_ne_one, Nat.one_ne_zero, Nat.reduceLT, true_or, or_true, false_or, or_false, false_and, true_and, and_false, and_true, not_false_eq_true, not_true_eq_false, eq_self, mA_A, mA_I, mI_A, mI_I, b01, b10, b01n, b10n, i10, i01, im0, ei_max, ei_min, ei_obj, n30, n20, hN]) (by simp only [nl_sti, nl_str, nl_ci, nl_cr, nl_nil, ld_cons, ld_st, lr_some, li_some, lj_some, n2_nl, n2_ci, n2_cr, n2_nil, n2_sti, n2_str, tl_some, tl_none, cat_le, List.length_cons, List.length_nil, Option.bind_some, Option.bind_none, Option.map_some, cond_true, cond_false, Bool.and_true, Bool.true_and, reduceIte, Nat.reduceEqDiff, Nat.reduceAdd, Nat.reduceLeDiff, Nat.zero_add, Nat.zero_le, Nat.zero_ne_one, Nat.one_ne_zero, Nat.reduceLT, true_or, or_true, false_or, or_false, false_and, true_and, and_false, and_true, not_false_eq_true, not_true_eq_false, eq_self, mA_A, mA_I, mI_A, mI_I, b01, b10, b01n, b10n, i10, i01, im0, ei_max, ei_min, ei_obj, n30, n20, h0]) (by simp only [nl_sti, nl_str, nl_ci, nl_cr, nl_nil, ld_cons, ld_st, lr_some, li_some, lj_some, n2_nl, n2_ci, n2_cr, n2_nil, n2_sti, n2_str, tl_some, tl_none, cat_le, List.length_cons, List.length_nil, Option.bind_some, Option.bind_none, Option.map_some, cond_true, cond_false, Bool.and_true, Bool.true_and, reduceIte, Nat.reduceEqDiff, Nat.reduceAdd, Nat.reduceLeDiff, Nat.zero_add, Nat.zero_le, Nat.zero_ne_one, Nat.one_ne_zero, Nat.reduceLT, true_or, or_true, false_or, or_false, false_and, true_and, and_false, and_true, not_false_eq_true, not_true_eq_false, eq_self, mA_A, mA_I, mI_A, mI_I, b01, b10, b01n, b10n, i10, i01, im0, ei_max, ei_min, ei_obj, n30, n20, h1]) (by simp only [nl_sti, nl_str, nl_ci, nl_cr, nl_nil, ld_cons, ld_st, lr_some, li_some, lj_some, n2_nl, n2_ci, n2_cr, n2_nil, n2_sti, n2_str, tl_some, tl_none, cat_le, List.length_cons, List.length_nil, Option.bind_some, Option.bind_none, Option.map_some, cond_true, cond_false, Bool.and_true, Bool.true_and, reduceIte, Nat.reduceEqDiff, Nat.reduceAdd, Nat.reduceLeDiff, Nat.zero_add, Nat.zero_le, Nat.zero_ne_one, Nat.one_ne_zero, Nat.reduceLT, true_or, or_true, false_or, or_false, false_and, true_and, and_false, and_true, not_false_eq_true, not_true_eq_false, eq_self, mA_A, mA_I, mI_A, mI_I, b01, b10, b01n, b10n, i10, i01, im0, ei_max, ei_min, ei_obj, n30, n20, h3]) (by simp only [nl_sti, nl_str, nl_ci, nl_cr, nl_nil, ld_cons, ld_st, lr_some, li_some, lj_some, n2_nl, n2_ci, n2_cr, n2_nil, n2_sti, n2_str, tl_some, tl_none, cat_le, List.length_cons, List.length_nil, Option.bind_some, Option.bind_none, Option.map_some, cond_true, cond_false, Bool.and_true, Bool.true_and, reduceIte, Nat.reduceEqDiff, Nat.reduceAdd, Nat.reduceLeDiff, Nat.zero_add, Nat.zero_le, Nat.zero_ne_one, Nat.one_ne_zero, Nat.reduceLT, true_or, or_true, false_or, or_false, false_and, true_and, and_false, and_true, not_false_eq_true, not_true_eq_false, eq_self, mA_A, mA_I, mI_A, mI_I, b01, b10, b01n, b10n, i10, i01, im0, ei_max, ei_min, ei_obj, n30, n20, h4]) (by simp only [nl_sti, nl_str, nl_ci, nl_cr, nl_nil, ld_cons, ld_st, lr_some, li_some, lj_some, n2_nl, n2_ci, n2_cr, n2_nil, n2_sti, n2_str, tl_some, tl_none, cat_le, List.length_cons, List.length_nil, Option.bind_some, Option.bind_none, Option.map_some, cond_true, cond_false, Bool.and_true, Bool.true_and, reduceIte, Nat.reduceEqDiff, Nat.reduceAdd, Nat.reduceLeDiff, Nat.zero_add, Nat.zero_le, Nat.zero_ne_one, Nat.one_ne_zero, Nat.reduceLT, true_or, or_true, false_or, or_false, false_and, true_and, and_false, and_true, not_false_eq_true, not_true_eq_false, eq_self, mA_A, mA_I, mI_A, mI_I, b01, b10, b01n, b10n, i10, i01, im0, ei_max, ei_min, ei_obj, n30, n20])
    rw [snP]
    by_cases q1 : i ≤ nu
    · rw [if_pos q1]
      have c2 : (nI nu < nI i) = False := eq_false (by rw [nI_ltE (by omega) (by omega)]; omega)
      have tn := fun (g : Nat → Int32) (r1 : List Nat) (v : Int32) (hr1 : Sx T r1) => T_num9 (sc := sc) (d := d) (u := v) (c := c) (kd := kd) h33 h34 (hT' g) hr1
      have num : ∀ r1, Sx T r1 → evp sc (d + 3) 114 92 L [] (mk sh (pS (mR M 37 (up g (b + i) (-1))) (po T r1) v c)) = if nok (mdg kd) r1 = true then evp sc (d + 3) 114 54 (e_st1 L 5 (.int (nI (i + 1)))) [] (mk sh (pS (mR M 37 (up g (b + i) (nI (nv (mdg kd) r1)))) (po T (nr (mdg kd) r1)) (nI (nv (mdg kd) r1)) c)) else some (some (.int 0), mk sh (pS (mR M 37 (up g (b + i) (-1))) (po T (nr (mdg kd) r1)) (nI (nv (mdg kd) r1)) c)) := fun r1 hr1 => by
        have t := tn (up g (b + i) (-1)) r1 v hr1
        have e10 : ((1 : Int32) = 0) = False := by decide
        by_cases qk : kd = 1
        · have em : mdg kd = 2 := if_pos qk
          have tk : (nI kd = 1) = True := eq_true (by rw [qk]; rfl)
          rw [if_pos qk] at t
          rw [em] at t ⊢
          rw [show nI 2 = (2 : Int32) from rfl] at t
          by_cases qn : nok 2 r1 = true
          · rw [if_pos qn] at t ⊢
            rw [s114_92]
            simp (maxDischargeDepth := 9) only [s114_93, s114_94, s114_97, s114_98, s114_99, s114_100, s114_102, s114_105, s114_108, s114_124, s114_125, s114_128, s114_129, s114_131, s114_132, s114_133, s114_136, s114_137, s114_140, nl_sti, nl_str, nl_ci, nl_cr, nl_nil, ld_cons, ld_st, lr_some, li_some, lj_some, n2_nl, n2_ci, n2_cr, n2_nil, n2_sti, n2_str, tl_some, tl_none, cat_le, List.length_cons, List.length_nil, Option.bind_some, Option.bind_none, Option.map_some, cond_true, cond_false, Bool.and_true, Bool.true_and, reduceIte, Nat.reduceEqDiff, Nat.reduceAdd, Nat.reduceLeDiff, Nat.zero_add, Nat.zero_le, Nat.zero_ne_one, Nat.one_ne_zero, Nat.reduceLT, true_or, or_true, false_or, or_false, false_and, true_and, and_false, and_true, not_false_eq_true, not_true_eq_false, eq_self, mA_A, mA_I, mI_A, mI_I, b01, b10, b01n, b10n, i10, i01, im0, ei_max, ei_min, ei_obj, n30, n20, b011, b101, orn, nor, dneg, dnle, dne, dcl, cat0, cat1, cat2, cat3, cat4, Tp_c h33, Tp_g3 h33, Tp_g6 h33, pS_6, hN, h0, h1, h3, h4, h5, tk, t, e10, nI_add, w1, up_up, nI_1]
          · rw [if_neg qn] at t ⊢
            rw [s114_92]
            simp (maxDischargeDepth := 9) only [s114_93, s114_94, s114_97, s114_98, s114_99, s114_100, s114_102, s114_105, s114_122, s114_123, nl_sti, nl_str, nl_ci, nl_cr, nl_nil, ld_cons, ld_st, lr_some, li_some, lj_some, n2_nl, n2_ci, n2_cr, n2_nil, n2_sti, n2_str, tl_some, tl_none, cat_le, List.length_cons, List.length_nil, Option.bind_some, Option.bind_none, Option.map_some, cond_true, cond_false, Bool.and_true, Bool.true_and, reduceIte, Nat.reduceEqDiff, Nat.reduceAdd, Nat.reduceLeDiff, Nat.zero_add, Nat.zero_le, Nat.zero_ne_one, Nat.one_ne_zero, Nat.reduceLT, true_or, or_true, false_or, or_false, false_and, true_and, and_false, and_true, not_false_eq_true, not_true_eq_false, eq_self, mA_A, mA_I, mI_A, mI_I, b01, b10, b01n, b10n, i10, i01, im0, ei_max, ei_min, ei_obj, n30, n20, b011, b101, orn, nor, dneg, dnle, dne, dcl, cat0, cat1, cat2, cat3, cat4, Tp_c h33, hN, h0, h1, h3, h4, h5, tk, t]
        · have em : mdg kd = 1 := if_neg qk
          have tk : (nI kd = 1) = False := eq_false (fun z => qk ((nI_eq (b := 1) (by omega) (by decide)).mp z))
          rw [if_neg qk] at t
          rw [em] at t ⊢
          rw [show nI 1 = (1 : Int32) from rfl] at t
          by_cases qn : nok 1 r1 = true
          · rw [if_pos qn] at t ⊢
            rw [s114_92]
            simp (maxDischargeDepth := 9) only [s114_93, s114_94, s114_111, s114_112, s114_113, s114_114, s114_116, s114_119, s114_124, s114_125, s114_128, s114_129, s114_131, s114_132, s114_133, s114_136, s114_137, s114_140, nl_sti, nl_str, nl_ci, nl_cr, nl_nil, ld_cons, ld_st, lr_some, li_some, lj_some, n2_nl, n2_ci, n2_cr, n2_nil, n2_sti, n2_str, tl_some, tl_none, cat_le, List.length_cons, List.length_nil, Option.bind_some, Option.bind_none, Option.map_some, cond_true, cond_false, Bool.and_true, Bool.true_and, reduceIte, Nat.reduceEqDiff, Nat.reduceAdd, Nat.reduceLeDiff, Nat.zero_add, Nat.zero_le, Nat.zero_ne_one, Nat.one_ne_zero, Nat.reduceLT, true_or, or_true, false_or, or_false, false_and, true_and, and_false, and_true, not_false_eq_true, not_true_eq_false, eq_self, mA_A, mA_I, mI_A, mI_I, b01, b10, b01n, b10n, i10, i01, im0, ei_max, ei_min, ei_obj, n30, n20, b011, b101, orn, nor, dneg, dnle, dne, dcl, cat0, cat1, cat2, cat3, cat4, Tp_c h33, Tp_g3 h33, Tp_g6 h33, pS_6, hN, h0, h1, h3, h4, h5, tk, t, e10, nI_add, w1, up_up, nI_1]
          · rw [if_neg qn] at t ⊢
            rw [s114_92]
            simp (maxDischargeDepth := 9) only [s114_93, s114_94, s114_111, s114_112, s114_113, s114_114, s114_116, s114_119, s114_122, s114_123, nl_sti, nl_str, nl_ci, nl_cr, nl_nil, ld_cons, ld_st, lr_some, li_some, lj_some, n2_nl, n2_ci, n2_cr, n2_nil, n2_sti, n2_str, tl_some, tl_none, cat_le, List.length_cons, List.length_nil, Option.bind_some, Option.bind_none, Option.map_some, cond_true, cond_false, Bool.and_true, Bool.true_and, reduceIte, Nat.reduceEqDiff, Nat.reduceAdd, Nat.reduceLeDiff, Nat.zero_add, Nat.zero_le, Nat.zero_ne_one, Nat.one_ne_zero, Nat.reduceLT, true_or, or_true, false_or, or_false, false_and, true_and, and_false, and_true, not_false_eq_true, not_true_eq_false, eq_self, mA_A, mA_I, mI_A, mI_I, b01, b10, b01n, b10n, i10, i01, im0, ei_max, ei_min, ei_obj, n30, n20, b011, b101, orn, nor, dneg, dnle, dne, dcl, cat0, cat1, cat2, cat3, cat4, Tp_c h33, hN, h0, h1, h3, h4, h5, tk, t]
      have fin : ∀ r1, Sx T r1 → CSn (evp sc (d + 3) 114 92 L [] (mk sh (pS (mR M 37 (up g (b + i) (-1))) (po T r1) v c))) sh M c T g (b + i) (if nok (mdg kd) r1 = true then
          (match snP T kd nu k (i + 1) (nr (mdg kd) r1) with
          | .error p => .error p
          | .ok q => .ok (nI (nv (mdg kd) r1) :: q.1, q.2))
        else .error (po T (nr (mdg kd) r1))) := fun r1 hr1 => by
        rw [num r1 hr1]
        by_cases qn : nok (mdg kd) r1 = true
        · rw [if_pos qn, if_pos qn]
          have ih := go (up g (b + i) (nI (nv (mdg kd) r1))) (nr (mdg kd) r1) (nI (nv (mdg kd) r1)) hr1.skp.rd
          cases ho : snP T kd nu k (i + 1) (nr (mdg kd) r1) with
          | error p => rw [ho] at ih; exact ih
          | ok q => rw [ho] at ih; exact ih
        · rw [if_neg qn, if_neg qn]
          exact ⟨_, _, rfl⟩
      by_cases q2 : 1 < i
      · have c3 : (nI i ≤ 1) = False := eq_false (nI_ge (a := 1) (b := i) q2 (by omega))
        unfold cmI
        rw [if_pos q2]
        cases hc : cmP r with
        | none =>
          have t := T_comma_n (sc := sc) (d := d + 1) (v := v) (c := c) h33 h34 (hT' (up g (b + i) (-1))) hr hc
          refine ⟨up g (b + i) (-1), v, ?_⟩
          rw [s114_54]
          simp (maxDischargeDepth := 9) only [s114_56, s114_57, s114_60, s114_61, s114_64, s114_65, s114_67, s114_68, s114_69, s114_70, s114_72, s114_74, s114_77, s114_79, s114_80, s114_83, s114_84, s114_87, s114_90, s114_91, nl_sti, nl_str, nl_ci, nl_cr, nl_nil, ld_cons, ld_st, lr_some, li_some, lj_some, n2_nl, n2_ci, n2_cr, n2_nil, n2_sti, n2_str, tl_some, tl_none, cat_le, List.length_cons, List.length_nil, Option.bind_some, Option.bind_none, Option.map_some, cond_true, cond_false, Bool.and_true, Bool.true_and, reduceIte, Nat.reduceEqDiff, Nat.reduceAdd, Nat.reduceLeDiff, Nat.zero_add, Nat.zero_le, Nat.zero_ne_one, Nat.one_ne_zero, Nat.reduceLT, true_or, or_true, false_or, or_false, false_and, true_and, and_false, and_true, not_false_eq_true, not_true_eq_false, eq_self, mA_A, mA_I, mI_A, mI_I, b01, b10, b01n, b10n, i10, i01, im0, ei_max, ei_min, ei_obj, n30, n20, b011, b101, orn, nor, dneg, dnle, dne, dcl, cat0, cat1, cat2, cat3, cat4, Tp_c h33, Tp_g3 h33, hN, h0, h1, h3, h4, h5, c1, c2, c3, nI_add, w1, t]
        | some r1 =>
          have t := T_comma_y (sc := sc) (d := d + 1) (v := v) (c := c) h33 h34 (hT' (up g (b + i) (-1))) hr hc
          have e10 : ((1 : Int32) = 0) = False := by decide
          have tp : evp sc (d + 3) 114 54 L [] (mk sh (pS (mR M 37 g) (po T r) v c)) = evp sc (d + 3) 114 92 L [] (mk sh (pS (mR M 37 (up g (b + i) (-1))) (po T r1) v c)) := by
            rw [s114_54]
            simp (maxDischargeDepth := 9) only [s114_56, s114_57, s114_60, s114_61, s114_64, s114_65, s114_67, s114_68, s114_69, s114_70, s114_72, s114_74, s114_77, s114_79, s114_80, s114_83, s114_84, s114_87, nl_sti, nl_str, nl_ci, nl_cr, nl_nil, ld_cons, ld_st, lr_some, li_some, lj_some, n2_nl, n2_ci, n2_cr, n2_nil, n2_sti, n2_str, tl_some, tl_none, cat_le, List.length_cons, List.length_nil, Option.bind_some, Option.bind_none, Option.map_some, cond_true, cond_false, Bool.and_true, Bool.true_and, reduceIte, Nat.reduceEqDiff, Nat.reduceAdd, Nat.reduceLeDiff, Nat.zero_add, Nat.zero_le, Nat.zero_ne_one, Nat.one_ne_zero, Nat.reduceLT, true_or, or_true, false_or, or_false, false_and, true_and, and_false, and_true, not_false_eq_true, not_true_eq_false, eq_self, mA_A, mA_I, mI_A, mI_I, b01, b10, b01n, b10n, i10, i01, im0, ei_max, ei_min, ei_obj, n30, n20, b011, b101, orn, nor, dneg, dnle, dne, dcl, cat0, cat1, cat2, cat3, cat4, Tp_c h33, Tp_g3 h33, hN, h0, h1, h3, h4, h5, c1, c2, c3, nI_add, w1, t, e10]
          rw [tp]
          exact fin r1 (hr.tr (cmP_suf hc))
      · have c3 : (nI i ≤ 1) = True := eq_true (nI_le (b := 1) (by omega) (by decide))
        unfold cmI
        rw [if_neg q2]
        have tp : evp sc (d + 3) 114 54 L [] (mk sh (pS (mR M 37 g) (po T r) v c)) = evp sc (d + 3) 114 92 L [] (mk sh (pS (mR M 37 (up g (b + i) (-1))) (po T r) v c)) := by
          rw [s114_54]
          simp (maxDischargeDepth := 9) only [s114_56, s114_57, s114_60, s114_61, s114_64, s114_65, s114_67, s114_68, s114_69, s114_70, s114_72, s114_74, s114_77, s114_79, s114_80, nl_sti, nl_str, nl_ci, nl_cr, nl_nil, ld_cons, ld_st, lr_some, li_some, lj_some, n2_nl, n2_ci, n2_cr, n2_nil, n2_sti, n2_str, tl_some, tl_none, cat_le, List.length_cons, List.length_nil, Option.bind_some, Option.bind_none, Option.map_some, cond_true, cond_false, Bool.and_true, Bool.true_and, reduceIte, Nat.reduceEqDiff, Nat.reduceAdd, Nat.reduceLeDiff, Nat.zero_add, Nat.zero_le, Nat.zero_ne_one, Nat.one_ne_zero, Nat.reduceLT, true_or, or_true, false_or, or_false, false_and, true_and, and_false, and_true, not_false_eq_true, not_true_eq_false, eq_self, mA_A, mA_I, mI_A, mI_I, b01, b10, b01n, b10n, i10, i01, im0, ei_max, ei_min, ei_obj, n30, n20, b011, b101, orn, nor, dneg, dnle, dne, dcl, cat0, cat1, cat2, cat3, cat4, Tp_g3 h33, hN, h0, h1, h3, h4, h5, c1, c2, c3, nI_add, w1]
        rw [tp]
        exact fin r hr
    · rw [if_neg q1]
      have c2 : (nI nu < nI i) = True := eq_true (by rw [nI_ltE (by omega) (by omega)]; omega)
      have ih := go (up g (b + i) (-1)) r v hr
      have tp : evp sc (d + 3) 114 54 L [] (mk sh (pS (mR M 37 g) (po T r) v c)) = evp sc (d + 3) 114 54 (e_st1 L 5 (.int (nI (i + 1)))) [] (mk sh (pS (mR M 37 (up g (b + i) (-1))) (po T r) v c)) := by
        rw [s114_54]
        simp (maxDischargeDepth := 9) only [s114_56, s114_57, s114_60, s114_61, s114_64, s114_65, s114_67, s114_68, s114_69, s114_70, s114_72, s114_74, s114_137, s114_140, nl_sti, nl_str, nl_ci, nl_cr, nl_nil, ld_cons, ld_st, lr_some, li_some, lj_some, n2_nl, n2_ci, n2_cr, n2_nil, n2_sti, n2_str, tl_some, tl_none, cat_le, List.length_cons, List.length_nil, Option.bind_some, Option.bind_none, Option.map_some, cond_true, cond_false, Bool.and_true, Bool.true_and, reduceIte, Nat.reduceEqDiff, Nat.reduceAdd, Nat.reduceLeDiff, Nat.zero_add, Nat.zero_le, Nat.zero_ne_one, Nat.one_ne_zero, Nat.reduceLT, true_or, or_true, false_or, or_false, false_and, true_and, and_false, and_true, not_false_eq_true, not_true_eq_false, eq_self, mA_A, mA_I, mI_A, mI_I, b01, b10, b01n, b10n, i10, i01, im0, ei_max, ei_min, ei_obj, n30, n20, b011, b101, orn, nor, dneg, dnle, dne, dcl, cat0, cat1, cat2, cat3, cat4, Tp_g3 h33, hN, h0, h1, h3, h4, h5, c1, c2, nI_add, w1, nI_1]
      rw [tp]
      cases ho : snP T kd nu k (i + 1) r with
      | error p => rw [ho] at ih; exact ih
      | ok q => rw [ho] at ih; exact ih
end
