/-! WHEN, NEXT -/
theorem fold_A : ∀ (k : Nat) (nw al : List (Nat → Int32)), nw.length = k → nw.length ≤ 40 → al.length ≤ 40 → ∃ pre, nw.foldl RgA_p al = pre ++ nw ∧ (nw.foldl RgA_p al).length ≤ 40
  | 0, nw, al, hk, _, h => by
    have : nw = [] := List.length_eq_zero_iff.mp hk
    subst this
    exact ⟨al, (List.append_nil _).symm, h⟩
  | k + 1, nw, al, hk, h1, h2 => by
    have hne : nw ≠ [] := fun q => by rw [q] at hk; cases hk
    obtain ⟨r, x, enw⟩ : ∃ r x, nw = r ++ [x] := ⟨nw.dropLast, nw.getLast hne, (List.dropLast_concat_getLast hne).symm⟩
    subst enw
    rw [List.length_append, List.length_singleton] at h1 hk
    obtain ⟨pre, e, hl⟩ := fold_A k r al (by omega) (by omega) h2
    rw [List.foldl_append]
    show ∃ pre, RgA_p (r.foldl RgA_p al) x = pre ++ (r ++ [x]) ∧ (RgA_p (r.foldl RgA_p al) x).length ≤ 40
    have hl2 := RgA_pl (x := x) hl
    refine ⟨if (r.foldl RgA_p al).length < 40 then pre else pre.tail, ?_, by rw [hl2]; split <;> omega⟩
    unfold RgA_p
    by_cases c : (r.foldl RgA_p al).length < 40
    · have c' : (List.foldl (fun al x => if al.length < 40 then al ++ [x] else al.tail ++ [x]) al r).length < 40 := c
      rw [if_pos c', if_pos c']
      have e' : List.foldl (fun al x => if al.length < 40 then al ++ [x] else al.tail ++ [x]) al r = pre ++ r := e
      rw [e', List.append_assoc]
    · have c' : ¬ (List.foldl (fun al x => if al.length < 40 then al ++ [x] else al.tail ++ [x]) al r).length < 40 := c
      have e' : List.foldl (fun al x => if al.length < 40 then al ++ [x] else al.tail ++ [x]) al r = pre ++ r := e
      rw [if_neg c', if_neg c']
      rw [e', List.length_append] at c'
      cases pre with
      | nil => simp at c'; omega
      | cons u pre => rw [e']; simp
def fnd (x : Int32) : Int32 → List (List (Nat → Int32)) → Int32
  | _, [] => -1
  | tk, nw :: r => if nw.any (fun y => y 0 == x) then tk + 1 else fnd x (tk + 1) r
theorem fnd_nil (x : Int32) : ∀ (nws : List (List (Nat → Int32))) (tk : Int32), nws.flatten = [] → fnd x tk nws = -1
  | [], _, _ => rfl
  | nw :: r, tk, h => by
    rw [List.flatten_cons, List.append_eq_nil_iff] at h
    show (if nw.any _ then _ else _) = _
    rw [h.1, if_neg (by simp)]
    exact fnd_nil x r _ h.2
section
variable {sc sc2 : aS} {d d2 : Nat} {sh sh2 : List sE} {M M2 W R : aM} {a a2 s tp sr p o dr rf kk ap x1 x2 x3 b : Nat} {n dl bal lv t B : Nat} {wl : Nat → List Sg} {al l : List (Nat → Int32)} {lg : LgT} {Ln : Nat → List (Option Se)} {x y v m w : Int32} {g : Nat → Int32}
theorem told_new {f : Nat → Int32} {pre nw : List (Nat → Int32)} (hS : RowSh sh ap) (hA : RgA R f (pre ++ nw)) {i c : Nat} {z : Nat → Int32} (hi : i < nw.length) (hz : nw[nw.length - 1 - i]? = some z) (hc : c < 5) : evp sc (d + 1) 125 0 [(0, .ref (ap + 28)), (1, .int (nI i)), (2, .int (nI c))] [] (mk sh (gl M ap 31 R)) = some (some (.int (z c)), mk sh (gl M ap 31 R)) := by
  obtain ⟨z', P, p1, p2, p3, p4, p5⟩ := RgA_told hA (show i < (pre ++ nw).length by rw [List.length_append]; omega)
  have e : z' = z := by
    rw [List.length_append, List.getElem?_append_right (by omega), show pre.length + nw.length - 1 - i - pre.length = nw.length - 1 - i by omega, hz] at p1
    cases p1
    rfl
  subst e
  have t1 := D28_told (sc := sc) (d := d) (M := M) (R := R) (i := nI i) (w := nI c) (P := P + c) hS (by rw [p2, nI_add]) (by omega)
  rw [p4 c hc] at t1
  exact t1
theorem In_loop (hS : RowSh sh ap) (ho : shp sh o = some (.inl (3, [ap + 3, x1 + 3, x2 + 3, x3 + 3]))) {f : Nat → Int32} {pre nw : List (Nat → Int32)} (hA : RgA R f (pre ++ nw)) (hm : nw.length ≤ 16) {tv N : Int32} : ∀ (c i : Nat) (L : aL), i + c = nw.length → e_n2 L → e_ld L 0 = some (.ref o) → e_ld L 2 = some (.int x) → e_ld L 3 = some (.int N) → e_ld L 4 = some (.int tv) → e_ld L 5 = some (.int (nI nw.length)) → e_ld L 6 = some (.int (nI i)) →
    ((nw.take c).any (fun y => y 0 == x) = true → evp sc (d + 2) 40 45 L [] (mk sh (gl M ap 31 R)) = some (some (.int tv), mk sh (gl M ap 31 R))) ∧ ((nw.take c).any (fun y => y 0 == x) = false → ∃ L', e_n2 L' ∧ e_ld L' 0 = some (.ref o) ∧ e_ld L' 2 = some (.int x) ∧ e_ld L' 3 = some (.int N) ∧ e_ld L' 4 = some (.int tv) ∧ evp sc (d + 2) 40 45 L [] (mk sh (gl M ap 31 R)) = evp sc (d + 2) 40 93 L' [] (mk sh (gl M ap 31 R)))
  | 0, i, L, hi, hL, h0, h2, h3, h4, h5, h6 => by
    have c1 : (nI nw.length ≤ nI i) = True := eq_true (nI_le (by omega) (by omega))
    refine ⟨fun q => (by simp at q), fun _ => ⟨L, hL, h0, h2, h3, h4, ?_⟩⟩
    rw [s40_45]
    simp only [s40_0, s40_1, s40_4, s40_5, s40_8, s40_9, s40_12, s40_13, s40_14, s40_18, s40_19, s40_22, s40_23, s40_26, s40_29, s40_32, s40_33, s40_36, s40_37, s40_40, s40_42, s40_43, s40_47, s40_49, s40_52, s40_54, s40_55, s40_58, s40_61, s40_64, s40_67, s40_68, s40_71, s40_74, s40_76, s40_77, s40_80, s40_81, s40_84, s40_86, s40_87, s40_90, s40_96, s40_99, s40_100, nl_sti, nl_str, nl_ci, nl_cr, nl_nil, ld_cons, ld_st, lr_some, li_some, lj_some, n2_nl, n2_ci, n2_cr, n2_nil, n2_sti, n2_str, tl_some, tl_none, cat_le, List.length_cons, List.length_nil, Option.bind_some, Option.bind_none, Option.map_some, cond_true, cond_false, Bool.and_true, Bool.true_and, reduceIte, Nat.reduceEqDiff, Nat.reduceAdd, Nat.reduceLeDiff, Nat.zero_add, Nat.zero_le, Nat.zero_ne_one, Nat.one_ne_zero, Nat.reduceLT, true_or, or_true, false_or, or_false, false_and, true_and, and_false, and_true, not_false_eq_true, not_true_eq_false, eq_self, mA_A, mA_I, mI_A, mI_I, b01, b10, b01n, b10n, i10, i01, im0, ei_max, ei_min, ei_obj, n30, n20, b011, b101, orn, nor, dneg, dnle, dne, dcl, cat0, cat1, cat2, cat3, cat4, hL, h0, h2, h3, h4, h5, h6, c1]
  | c + 1, i, L, hi, hL, h0, h2, h3, h4, h5, h6 => by
    have c1 : (nI nw.length ≤ nI i) = False := eq_false (nI_ge (by omega) (by omega))
    have hA' := hA
    obtain ⟨st, b1, b2, b3, b4, b5, b6, b7, b8⟩ := hA'
    have c2 : (nI (pre ++ nw).length ≤ nI i) = False := eq_false (nI_ge (by rw [List.length_append]; omega) (by omega))
    obtain ⟨z, hz⟩ : ∃ z, nw[nw.length - 1 - i]? = some z := ⟨nw[nw.length - 1 - i]'(by omega), List.getElem?_eq_getElem (by omega)⟩
    have tt := told_new (sc := sc) (d := d) (M := M) (c := 0) hS hA (show i < nw.length by omega) hz (by decide)
    rw [show nI 0 = (0 : Int32) from rfl] at tt
    have etk : nw.take (c + 1) = nw.take c ++ [z] := by
      rw [show nw.length - 1 - i = c by omega] at hz
      rw [List.take_succ, hz]
      rfl
    obtain ⟨r1, r2⟩ := In_loop (tv := tv) (N := N) hS ho hA hm c (i + 1) (e_st1 L 6 (.int (nI (i + 1)))) (by omega) (by simp (maxDischargeDepth := 9) only [nl_sti, nl_str, nl_ci, nl_cr, nl_nil, ld_cons, ld_st, lr_some, li_some, lj_some, n2_nl, n2_ci, n2_cr, n2_nil, n2_sti, n2_str, tl_some, tl_none, cat_le, List.length_cons, List.length_nil, Option.bind_some, Option.bind_none, Option.map_some, cond_true, cond_false, Bool.and_true, Bool.true_and, reduceIte, Nat.reduceEqDiff, Nat.reduceAdd, Nat.reduceLeDiff, Nat.zero_add, Nat.zero_le, Nat.zero_ne_one, Nat.one_ne_zero, Nat.reduceLT, true_or, or_true, false_or, or_false, false_and, true_and, and_false, and_true, not_false_eq_true, not_true_eq_false, eq_self, mA_A, mA_I, mI_A, mI_I, b01, b10, b01n, b10n, i10, i01, im0, ei_max, ei_min, ei_obj, n30, n20, hL]) (by simp only [nl_sti, nl_str, nl_ci, nl_cr, nl_nil, ld_cons, ld_st, lr_some, li_some, lj_some, n2_nl, n2_ci, n2_cr, n2_nil, n2_sti, n2_str, tl_some, tl_none, cat_le, List.length_cons, List.length_nil, Option.bind_some, Option.bind_none, Option.map_some, cond_true, cond_false, Bool.and_true, Bool.true_and, reduceIte, Nat.reduceEqDiff, Nat.reduceAdd, Nat.reduceLeDiff, Nat.zero_add, Nat.zero_le, Nat.zero_ne_one, Nat.one_ne_zero, Nat.reduceLT, true_or, or_true, false_or, or_false, false_and, true_and, and_false, and_true, not_false_eq_true, not_true_eq_false, eq_self, mA_A, mA_I, mI_A, mI_I, b01, b10, b01n, b10n, i10, i01, im0, ei_max, ei_min, ei_obj, n30, n20, h0]) (by simp only [nl_sti, nl_str, nl_ci, nl_cr, nl_nil, ld_cons, ld_st, lr_some, li_some, lj_some, n2_nl, n2_ci, n2_cr, n2_nil, n2_sti, n2_str, tl_some, tl_none, cat_le, List.length_cons, List.length_nil, Option.bind_some, Option.bind_none, Option.map_some, cond_true, cond_false, Bool.and_true, Bool.true_and, reduceIte, Nat.reduceEqDiff, Nat.reduceAdd, Nat.reduceLeDiff, Nat.zero_add, Nat.zero_le, Nat.zero_ne_one, Nat.one_ne_zero, Nat.reduceLT, true_or, or_true, false_or, or_false, false_and, true_and, and_false, and_true, not_false_eq_true, not_true_eq_false, eq_self, mA_A, mA_I, mI_A, mI_I, b01, b10, b01n, b10n, i10, i01, im0, ei_max, ei_min, ei_obj, n30, n20, h2]) (by simp only [nl_sti, nl_str, nl_ci, nl_cr, nl_nil, ld_cons, ld_st, lr_some, li_some, lj_some, n2_nl, n2_ci, n2_cr, n2_nil, n2_sti, n2_str, tl_some, tl_none, cat_le, List.length_cons, List.length_nil, Option.bind_some, Option.bind_none, Option.map_some, cond_true, cond_false, Bool.and_true, Bool.true_and, reduceIte, Nat.reduceEqDiff, Nat.reduceAdd, Nat.reduceLeDiff, Nat.zero_add, Nat.zero_le, Nat.zero_ne_one, Nat.one_ne_zero, Nat.reduceLT, true_or, or_true, false_or, or_false, false_and, true_and, and_false, and_true, not_false_eq_true, not_true_eq_false, eq_self, mA_A, mA_I, mI_A, mI_I, b01, b10, b01n, b10n, i10, i01, im0, ei_max, ei_min, ei_obj, n30, n20, h3]) (by simp only [nl_sti, nl_str, nl_ci, nl_cr, nl_nil, ld_cons, ld_st, lr_some, li_some, lj_some, n2_nl, n2_ci, n2_cr, n2_nil, n2_sti, n2_str, tl_some, tl_none, cat_le, List.length_cons, List.length_nil, Option.bind_some, Option.bind_none, Option.map_some, cond_true, cond_false, Bool.and_true, Bool.true_and, reduceIte, Nat.reduceEqDiff, Nat.reduceAdd, Nat.reduceLeDiff, Nat.zero_add, Nat.zero_le, Nat.zero_ne_one, Nat.one_ne_zero, Nat.reduceLT, true_or, or_true, false_or, or_false, false_and, true_and, and_false, and_true, not_false_eq_true, not_true_eq_false, eq_self, mA_A, mA_I, mI_A, mI_I, b01, b10, b01n, b10n, i10, i01, im0, ei_max, ei_min, ei_obj, n30, n20, h4]) (by simp only [nl_sti, nl_str, nl_ci, nl_cr, nl_nil, ld_cons, ld_st, lr_some, li_some, lj_some, n2_nl, n2_ci, n2_cr, n2_nil, n2_sti, n2_str, tl_some, tl_none, cat_le, List.length_cons, List.length_nil, Option.bind_some, Option.bind_none, Option.map_some, cond_true, cond_false, Bool.and_true, Bool.true_and, reduceIte, Nat.reduceEqDiff, Nat.reduceAdd, Nat.reduceLeDiff, Nat.zero_add, Nat.zero_le, Nat.zero_ne_one, Nat.one_ne_zero, Nat.reduceLT, true_or, or_true, false_or, or_false, false_and, true_and, and_false, and_true, not_false_eq_true, not_true_eq_false, eq_self, mA_A, mA_I, mI_A, mI_I, b01, b10, b01n, b10n, i10, i01, im0, ei_max, ei_min, ei_obj, n30, n20, h5]) (by simp only [nl_sti, nl_str, nl_ci, nl_cr, nl_nil, ld_cons, ld_st, lr_some, li_some, lj_some, n2_nl, n2_ci, n2_cr, n2_nil, n2_sti, n2_str, tl_some, tl_none, cat_le, List.length_cons, List.length_nil, Option.bind_some, Option.bind_none, Option.map_some, cond_true, cond_false, Bool.and_true, Bool.true_and, reduceIte, Nat.reduceEqDiff, Nat.reduceAdd, Nat.reduceLeDiff, Nat.zero_add, Nat.zero_le, Nat.zero_ne_one, Nat.one_ne_zero, Nat.reduceLT, true_or, or_true, false_or, or_false, false_and, true_and, and_false, and_true, not_false_eq_true, not_true_eq_false, eq_self, mA_A, mA_I, mI_A, mI_I, b01, b10, b01n, b10n, i10, i01, im0, ei_max, ei_min, ei_obj, n30, n20])
    rw [etk, List.any_append]
    by_cases q : z 0 = x
    · refine ⟨fun _ => ?_, fun z2 => ?_⟩
      · rw [s40_45]
        simp (maxDischargeDepth := 9) only [s40_0, s40_1, s40_4, s40_5, s40_8, s40_9, s40_12, s40_13, s40_14, s40_18, s40_19, s40_22, s40_23, s40_26, s40_29, s40_32, s40_33, s40_36, s40_37, s40_40, s40_42, s40_43, s40_47, s40_49, s40_52, s40_54, s40_55, s40_58, s40_61, s40_64, s40_67, s40_68, s40_71, s40_74, s40_76, s40_77, s40_80, s40_81, s40_84, s40_86, s40_87, s40_90, s40_96, s40_99, s40_100, nl_sti, nl_str, nl_ci, nl_cr, nl_nil, ld_cons, ld_st, lr_some, li_some, lj_some, n2_nl, n2_ci, n2_cr, n2_nil, n2_sti, n2_str, tl_some, tl_none, cat_le, List.length_cons, List.length_nil, Option.bind_some, Option.bind_none, Option.map_some, cond_true, cond_false, Bool.and_true, Bool.true_and, reduceIte, Nat.reduceEqDiff, Nat.reduceAdd, Nat.reduceLeDiff, Nat.zero_add, Nat.zero_le, Nat.zero_ne_one, Nat.one_ne_zero, Nat.reduceLT, true_or, or_true, false_or, or_false, false_and, true_and, and_false, and_true, not_false_eq_true, not_true_eq_false, eq_self, mA_A, mA_I, mI_A, mI_I, b01, b10, b01n, b10n, i10, i01, im0, ei_max, ei_min, ei_obj, n30, n20, b011, b101, orn, nor, dneg, dnle, dne, dcl, cat0, cat1, cat2, cat3, cat4, gR0_0, pR0_0, gR0_1, pR0_1, gR0_2, pR0_2, gR0_3, pR0_3, gR0_4, pR0_4, gR0_5, pR0_5, gR0_6, pR0_6, gR0_7, gR0_8, gR0_9, gR0_10, gR0_11, gR0_12, gR0_13, gR0_14, gR0_15, gR0_16, cR0, gR28_0, gR28_1, gR28_2, gR28_3, pR28_3, gR28_4, pR28_4, cR28, cR5, cR17, cR19, cR26, cR30, hS, Ou_g0 ho, hL, h0, h2, h3, h4, h5, h6, c1, b4, c2, tt, q]
      · simp [q] at z2
    · have e2 : ((nw.take c).any (fun y => y 0 == x) || [z].any (fun y => y 0 == x)) = (nw.take c).any (fun y => y 0 == x) := by simp [q]
      rw [e2]
      have step : evp sc (d + 2) 40 45 L [] (mk sh (gl M ap 31 R)) = evp sc (d + 2) 40 45 (e_st1 L 6 (.int (nI (i + 1)))) [] (mk sh (gl M ap 31 R)) := by
        rw [s40_45]
        simp (maxDischargeDepth := 9) only [s40_0, s40_1, s40_4, s40_5, s40_8, s40_9, s40_12, s40_13, s40_14, s40_18, s40_19, s40_22, s40_23, s40_26, s40_29, s40_32, s40_33, s40_36, s40_37, s40_40, s40_42, s40_43, s40_47, s40_49, s40_52, s40_54, s40_55, s40_58, s40_61, s40_64, s40_67, s40_68, s40_71, s40_74, s40_76, s40_77, s40_80, s40_81, s40_84, s40_86, s40_87, s40_90, s40_96, s40_99, s40_100, nl_sti, nl_str, nl_ci, nl_cr, nl_nil, ld_cons, ld_st, lr_some, li_some, lj_some, n2_nl, n2_ci, n2_cr, n2_nil, n2_sti, n2_str, tl_some, tl_none, cat_le, List.length_cons, List.length_nil, Option.bind_some, Option.bind_none, Option.map_some, cond_true, cond_false, Bool.and_true, Bool.true_and, reduceIte, Nat.reduceEqDiff, Nat.reduceAdd, Nat.reduceLeDiff, Nat.zero_add, Nat.zero_le, Nat.zero_ne_one, Nat.one_ne_zero, Nat.reduceLT, true_or, or_true, false_or, or_false, false_and, true_and, and_false, and_true, not_false_eq_true, not_true_eq_false, eq_self, mA_A, mA_I, mI_A, mI_I, b01, b10, b01n, b10n, i10, i01, im0, ei_max, ei_min, ei_obj, n30, n20, b011, b101, orn, nor, dneg, dnle, dne, dcl, cat0, cat1, cat2, cat3, cat4, gR0_0, pR0_0, gR0_1, pR0_1, gR0_2, pR0_2, gR0_3, pR0_3, gR0_4, pR0_4, gR0_5, pR0_5, gR0_6, pR0_6, gR0_7, gR0_8, gR0_9, gR0_10, gR0_11, gR0_12, gR0_13, gR0_14, gR0_15, gR0_16, cR0, gR28_0, gR28_1, gR28_2, gR28_3, pR28_3, gR28_4, pR28_4, cR28, cR5, cR17, cR19, cR26, cR30, hS, Ou_g0 ho, hL, h0, h2, h3, h4, h5, h6, c1, b4, c2, tt, q, nI_1]
      rw [step]
      exact ⟨r1, r2⟩
set_option maxRecDepth 100000 in
theorem W_loop (hS : RowSh sh ap) (ho : shp sh o = some (.inl (3, [ap + 3, x1 + 3, x2 + 3, x3 + 3]))) (hn8 : n ≤ 8) {N : Nat} (hN : N ≤ 200) : ∀ (k j : Nat) (R : aM) (P : aP) (t B : Nat) (wl : Nat → List Sg) (al : List (Nat → Int32)) (LL : List (Int32 × Int32)) (Ln : Nat → List (Option Se)) (L : aL), j + k = N → TI R P n dl bal lv t B wl al lg LL Ln → t + k ≤ 10000 → B + 400 * k < 2 ^ 31 → LL.length + 16 * k ≤ 3300 → e_n2 L → e_ld L 0 = some (.ref o) → e_ld L 2 = some (.int x) → e_ld L 3 = some (.int (nI N)) → e_ld L 4 = some (.int (nI (j + 1))) →
    ∃ nws, GoOk n dl lv k P ∧ (∃ t' B' wl' al' Ln', TI (rGo n lv k R) (mGo n dl lv k P) n dl bal lv t' B' wl' al' lg (LL ++ lnd (P.1.1 0 32) nws) Ln') ∧ nws.flatten.length ≤ 16 * k ∧ ∃ R', TdC R' ∧ evp sc (d + 7) 40 16 L [] (mk sh (gl M ap 31 R)) = some (some (.int (fnd x (nI j) nws)), mk sh (gl M ap 31 R'))
  | 0, j, R, P, t, B, wl, al, LL, Ln, L, hj, h, ht, hB, hLL, hL, h0, h2, h3, h4 => by
    have c1 : (nI N < nI (j + 1)) = True := eq_true (by rw [Int32.lt_iff_toInt_lt, nI_toInt (by omega), nI_toInt (by omega)]; omega)
    refine ⟨[], trivial, ⟨t, B, wl, al, Ln, by show TI R P n dl bal lv t B wl al lg (LL ++ []) Ln; rw [List.append_nil]; exact h⟩, Nat.zero_le _, R, (TI_RI.mp h).1.td, ?_⟩
    rw [s40_16]
    simp only [s40_0, s40_1, s40_4, s40_5, s40_8, s40_9, s40_12, s40_13, s40_14, s40_18, s40_19, s40_22, s40_23, s40_26, s40_29, s40_32, s40_33, s40_36, s40_37, s40_40, s40_42, s40_43, s40_47, s40_49, s40_52, s40_54, s40_55, s40_58, s40_61, s40_64, s40_67, s40_68, s40_71, s40_74, s40_76, s40_77, s40_80, s40_81, s40_84, s40_86, s40_87, s40_90, s40_96, s40_99, s40_100, nl_sti, nl_str, nl_ci, nl_cr, nl_nil, ld_cons, ld_st, lr_some, li_some, lj_some, n2_nl, n2_ci, n2_cr, n2_nil, n2_sti, n2_str, tl_some, tl_none, cat_le, List.length_cons, List.length_nil, Option.bind_some, Option.bind_none, Option.map_some, cond_true, cond_false, Bool.and_true, Bool.true_and, reduceIte, Nat.reduceEqDiff, Nat.reduceAdd, Nat.reduceLeDiff, Nat.zero_add, Nat.zero_le, Nat.zero_ne_one, Nat.one_ne_zero, Nat.reduceLT, true_or, or_true, false_or, or_false, false_and, true_and, and_false, and_true, not_false_eq_true, not_true_eq_false, eq_self, mA_A, mA_I, mI_A, mI_I, b01, b10, b01n, b10n, i10, i01, im0, ei_max, ei_min, ei_obj, n30, n20, b011, b101, orn, nor, dneg, dnle, dne, dcl, cat0, cat1, cat2, cat3, cat4, hL, h0, h2, h3, h4, c1, fnd]
  | k + 1, j, R, P, t, B, wl, al, LL, Ln, L, hj, h, ht, hB, hLL, hL, h0, h2, h3, h4 => by
    have c1 : (nI N < nI (j + 1)) = False := eq_false (by rw [Int32.lt_iff_toInt_lt, nI_toInt (by omega), nI_toInt (by omega)]; omega)
    by_cases q : Qt R
    · obtain ⟨-, ok, nws, wl', Ln', j1, j2, j3, j4, j5, j6⟩ := S_go (k + 1) R P t B wl al LL Ln h (by omega) (by omega) (by omega)
      have hL0 := TI_qt h q (TI_us h)
      have f0 : nws.flatten.length = 0 := by
        have := j5 tt
        rw [hL0, ca_tt] at this
        omega
      refine ⟨nws, ok, ⟨_, _, _, _, _, j3⟩, by omega, R, (TI_RI.mp h).1.td, ?_⟩
      rw [fnd_nil x nws _ (List.length_eq_zero_iff.mp f0)]
      have c2 : ¬ (¬ R.1 5 12 = 0 ∨ ¬ R.1 19 4 = 0) := fun z => z.elim (fun z => z q.1) (fun z => z q.2)
      have tq := R_isQuiet (sc := sc) (d := d + 6) (M := M) (R := R) hS
      rw [if_neg c2] at tq
      rw [s40_16]
      simp only [s40_0, s40_1, s40_4, s40_5, s40_8, s40_9, s40_12, s40_13, s40_14, s40_18, s40_19, s40_22, s40_23, s40_26, s40_29, s40_32, s40_33, s40_36, s40_37, s40_40, s40_42, s40_43, s40_47, s40_49, s40_52, s40_54, s40_55, s40_58, s40_61, s40_64, s40_67, s40_68, s40_71, s40_74, s40_76, s40_77, s40_80, s40_81, s40_84, s40_86, s40_87, s40_90, s40_96, s40_99, s40_100, nl_sti, nl_str, nl_ci, nl_cr, nl_nil, ld_cons, ld_st, lr_some, li_some, lj_some, n2_nl, n2_ci, n2_cr, n2_nil, n2_sti, n2_str, tl_some, tl_none, cat_le, List.length_cons, List.length_nil, Option.bind_some, Option.bind_none, Option.map_some, cond_true, cond_false, Bool.and_true, Bool.true_and, reduceIte, Nat.reduceEqDiff, Nat.reduceAdd, Nat.reduceLeDiff, Nat.zero_add, Nat.zero_le, Nat.zero_ne_one, Nat.one_ne_zero, Nat.reduceLT, true_or, or_true, false_or, or_false, false_and, true_and, and_false, and_true, not_false_eq_true, not_true_eq_false, eq_self, mA_A, mA_I, mI_A, mI_I, b01, b10, b01n, b10n, i10, i01, im0, ei_max, ei_min, ei_obj, n30, n20, b011, b101, orn, nor, dneg, dnle, dne, dcl, cat0, cat1, cat2, cat3, cat4, gR0_0, pR0_0, gR0_1, pR0_1, gR0_2, pR0_2, gR0_3, pR0_3, gR0_4, pR0_4, gR0_5, pR0_5, gR0_6, pR0_6, gR0_7, gR0_8, gR0_9, gR0_10, gR0_11, gR0_12, gR0_13, gR0_14, gR0_15, gR0_16, cR0, cR5, cR17, cR19, cR26, cR28, cR30, hS, Ou_g0 ho, hL, h0, h2, h3, h4, c1, tq]
    · have c2 : ¬ R.1 5 12 = 0 ∨ ¬ R.1 19 4 = 0 := by
        by_cases z : R.1 5 12 = 0
        · exact Or.inr (fun z2 => q ⟨z, z2⟩)
        · exact Or.inl z
      have tq := R_isQuiet (sc := sc) (d := d + 6) (M := M) (R := R) hS
      rw [if_pos c2] at tq
      obtain ⟨k1, k2, nw, wl1, Ln1, k3, k4, k5, k6, k7, k8, k9⟩ := S_tick h (by omega) (by omega) (by omega)
      have tp := R_pass1 (sc := sc) (d := d + 1) (M := M) (R := R) hS hn8 k1
      have earr : (rTick R n lv).1 19 1 - R.1 19 1 = nI nw.length := by rw [k4, Int32.add_comm, Int32.add_sub_cancel]
      rw [earr] at tp
      have hal : al.length ≤ 40 := by
        obtain ⟨st, b1, b2, b3, b4, b5, b6, b7, b8⟩ := h.1.2.2.2.2.2.2.2.1
        exact b6
      obtain ⟨pre, e1, e2⟩ := fold_A nw.length nw al rfl (by omega) hal
      have hA := k3.1.2.2.2.2.2.2.2.1
      rw [e1] at hA
      have hI := In_loop (sc := sc) (d := d + 5) (M := M) (x := x) (tv := nI (j + 1)) (N := nI N) hS ho hA k5 nw.length 0 (e_st1 (e_st1 L 5 (.int (nI nw.length))) 6 (.int (nI 0))) (by omega) (by simp (maxDischargeDepth := 9) only [nl_sti, nl_str, nl_ci, nl_cr, nl_nil, ld_cons, ld_st, lr_some, li_some, lj_some, n2_nl, n2_ci, n2_cr, n2_nil, n2_sti, n2_str, tl_some, tl_none, cat_le, List.length_cons, List.length_nil, Option.bind_some, Option.bind_none, Option.map_some, cond_true, cond_false, Bool.and_true, Bool.true_and, reduceIte, Nat.reduceEqDiff, Nat.reduceAdd, Nat.reduceLeDiff, Nat.zero_add, Nat.zero_le, Nat.zero_ne_one, Nat.one_ne_zero, Nat.reduceLT, true_or, or_true, false_or, or_false, false_and, true_and, and_false, and_true, not_false_eq_true, not_true_eq_false, eq_self, mA_A, mA_I, mI_A, mI_I, b01, b10, b01n, b10n, i10, i01, im0, ei_max, ei_min, ei_obj, n30, n20, hL]) (by simp only [nl_sti, nl_str, nl_ci, nl_cr, nl_nil, ld_cons, ld_st, lr_some, li_some, lj_some, n2_nl, n2_ci, n2_cr, n2_nil, n2_sti, n2_str, tl_some, tl_none, cat_le, List.length_cons, List.length_nil, Option.bind_some, Option.bind_none, Option.map_some, cond_true, cond_false, Bool.and_true, Bool.true_and, reduceIte, Nat.reduceEqDiff, Nat.reduceAdd, Nat.reduceLeDiff, Nat.zero_add, Nat.zero_le, Nat.zero_ne_one, Nat.one_ne_zero, Nat.reduceLT, true_or, or_true, false_or, or_false, false_and, true_and, and_false, and_true, not_false_eq_true, not_true_eq_false, eq_self, mA_A, mA_I, mI_A, mI_I, b01, b10, b01n, b10n, i10, i01, im0, ei_max, ei_min, ei_obj, n30, n20, h0]) (by simp only [nl_sti, nl_str, nl_ci, nl_cr, nl_nil, ld_cons, ld_st, lr_some, li_some, lj_some, n2_nl, n2_ci, n2_cr, n2_nil, n2_sti, n2_str, tl_some, tl_none, cat_le, List.length_cons, List.length_nil, Option.bind_some, Option.bind_none, Option.map_some, cond_true, cond_false, Bool.and_true, Bool.true_and, reduceIte, Nat.reduceEqDiff, Nat.reduceAdd, Nat.reduceLeDiff, Nat.zero_add, Nat.zero_le, Nat.zero_ne_one, Nat.one_ne_zero, Nat.reduceLT, true_or, or_true, false_or, or_false, false_and, true_and, and_false, and_true, not_false_eq_true, not_true_eq_false, eq_self, mA_A, mA_I, mI_A, mI_I, b01, b10, b01n, b10n, i10, i01, im0, ei_max, ei_min, ei_obj, n30, n20, h2]) (by simp only [nl_sti, nl_str, nl_ci, nl_cr, nl_nil, ld_cons, ld_st, lr_some, li_some, lj_some, n2_nl, n2_ci, n2_cr, n2_nil, n2_sti, n2_str, tl_some, tl_none, cat_le, List.length_cons, List.length_nil, Option.bind_some, Option.bind_none, Option.map_some, cond_true, cond_false, Bool.and_true, Bool.true_and, reduceIte, Nat.reduceEqDiff, Nat.reduceAdd, Nat.reduceLeDiff, Nat.zero_add, Nat.zero_le, Nat.zero_ne_one, Nat.one_ne_zero, Nat.reduceLT, true_or, or_true, false_or, or_false, false_and, true_and, and_false, and_true, not_false_eq_true, not_true_eq_false, eq_self, mA_A, mA_I, mI_A, mI_I, b01, b10, b01n, b10n, i10, i01, im0, ei_max, ei_min, ei_obj, n30, n20, h3]) (by simp only [nl_sti, nl_str, nl_ci, nl_cr, nl_nil, ld_cons, ld_st, lr_some, li_some, lj_some, n2_nl, n2_ci, n2_cr, n2_nil, n2_sti, n2_str, tl_some, tl_none, cat_le, List.length_cons, List.length_nil, Option.bind_some, Option.bind_none, Option.map_some, cond_true, cond_false, Bool.and_true, Bool.true_and, reduceIte, Nat.reduceEqDiff, Nat.reduceAdd, Nat.reduceLeDiff, Nat.zero_add, Nat.zero_le, Nat.zero_ne_one, Nat.one_ne_zero, Nat.reduceLT, true_or, or_true, false_or, or_false, false_and, true_and, and_false, and_true, not_false_eq_true, not_true_eq_false, eq_self, mA_A, mA_I, mI_A, mI_I, b01, b10, b01n, b10n, i10, i01, im0, ei_max, ei_min, ei_obj, n30, n20, h4]) (by simp only [nl_sti, nl_str, nl_ci, nl_cr, nl_nil, ld_cons, ld_st, lr_some, li_some, lj_some, n2_nl, n2_ci, n2_cr, n2_nil, n2_sti, n2_str, tl_some, tl_none, cat_le, List.length_cons, List.length_nil, Option.bind_some, Option.bind_none, Option.map_some, cond_true, cond_false, Bool.and_true, Bool.true_and, reduceIte, Nat.reduceEqDiff, Nat.reduceAdd, Nat.reduceLeDiff, Nat.zero_add, Nat.zero_le, Nat.zero_ne_one, Nat.one_ne_zero, Nat.reduceLT, true_or, or_true, false_or, or_false, false_and, true_and, and_false, and_true, not_false_eq_true, not_true_eq_false, eq_self, mA_A, mA_I, mI_A, mI_I, b01, b10, b01n, b10n, i10, i01, im0, ei_max, ei_min, ei_obj, n30, n20]) (by simp only [nl_sti, nl_str, nl_ci, nl_cr, nl_nil, ld_cons, ld_st, lr_some, li_some, lj_some, n2_nl, n2_ci, n2_cr, n2_nil, n2_sti, n2_str, tl_some, tl_none, cat_le, List.length_cons, List.length_nil, Option.bind_some, Option.bind_none, Option.map_some, cond_true, cond_false, Bool.and_true, Bool.true_and, reduceIte, Nat.reduceEqDiff, Nat.reduceAdd, Nat.reduceLeDiff, Nat.zero_add, Nat.zero_le, Nat.zero_ne_one, Nat.one_ne_zero, Nat.reduceLT, true_or, or_true, false_or, or_false, false_and, true_and, and_false, and_true, not_false_eq_true, not_true_eq_false, eq_self, mA_A, mA_I, mI_A, mI_I, b01, b10, b01n, b10n, i10, i01, im0, ei_max, ei_min, ei_obj, n30, n20])
      rw [List.take_length] at hI
      have pre45 : evp sc (d + 7) 40 16 L [] (mk sh (gl M ap 31 R)) = evp sc (d + 7) 40 45 (e_st1 (e_st1 L 5 (.int (nI nw.length))) 6 (.int (nI 0))) [] (mk sh (gl M ap 31 (rTick R n lv))) := by
        rw [s40_16]
        simp (maxDischargeDepth := 9) only [s40_0, s40_1, s40_4, s40_5, s40_8, s40_9, s40_12, s40_13, s40_14, s40_18, s40_19, s40_22, s40_23, s40_26, s40_29, s40_32, s40_33, s40_36, s40_37, s40_40, s40_42, s40_43, s40_47, s40_49, s40_52, s40_54, s40_55, s40_58, s40_61, s40_64, s40_67, s40_68, s40_71, s40_74, s40_76, s40_77, s40_80, s40_81, s40_84, s40_86, s40_87, s40_90, s40_96, s40_99, s40_100, nl_sti, nl_str, nl_ci, nl_cr, nl_nil, ld_cons, ld_st, lr_some, li_some, lj_some, n2_nl, n2_ci, n2_cr, n2_nil, n2_sti, n2_str, tl_some, tl_none, cat_le, List.length_cons, List.length_nil, Option.bind_some, Option.bind_none, Option.map_some, cond_true, cond_false, Bool.and_true, Bool.true_and, reduceIte, Nat.reduceEqDiff, Nat.reduceAdd, Nat.reduceLeDiff, Nat.zero_add, Nat.zero_le, Nat.zero_ne_one, Nat.one_ne_zero, Nat.reduceLT, true_or, or_true, false_or, or_false, false_and, true_and, and_false, and_true, not_false_eq_true, not_true_eq_false, eq_self, mA_A, mA_I, mI_A, mI_I, b01, b10, b01n, b10n, i10, i01, im0, ei_max, ei_min, ei_obj, n30, n20, b011, b101, orn, nor, dneg, dnle, dne, dcl, cat0, cat1, cat2, cat3, cat4, gR0_0, pR0_0, gR0_1, pR0_1, gR0_2, pR0_2, gR0_3, pR0_3, gR0_4, pR0_4, gR0_5, pR0_5, gR0_6, pR0_6, gR0_7, gR0_8, gR0_9, gR0_10, gR0_11, gR0_12, gR0_13, gR0_14, gR0_15, gR0_16, cR0, cR5, cR17, cR19, cR26, cR28, cR30, hS, Ou_g0 ho, hL, h0, h2, h3, h4, c1, tq, tp]
        rfl
      by_cases ca' : nw.any (fun y => y 0 == x) = true
      · obtain ⟨-, ok, nws, wl', Ln', j1, j2, j3, j4, j5, j6⟩ := S_go k _ _ (t + 1) (B + 400) wl1 _ _ Ln1 k3 (by omega) (by omega) (by rw [List.length_append, List.length_map]; omega)
        have hfl : nws.flatten.length ≤ 16 * k := by
          rw [← j1]
          clear j3 j4 j5 j6 j1 ok
          induction nws with
          | nil => exact Nat.zero_le _
          | cons u r ih =>
            rw [List.flatten_cons, List.length_append, List.length_cons]
            have z1 := j2 u (List.mem_cons_self ..)
            have z2 := ih (fun nw hn => j2 nw (List.mem_cons_of_mem _ hn))
            omega
        refine ⟨nw :: nws, ⟨k2, ok⟩, ⟨t + 1 + k, B + 400 + 400 * k, wl', nws.flatten.foldl RgA_p (nw.foldl RgA_p al), Ln', ?_⟩, by rw [List.flatten_cons, List.length_append]; omega, rTick R n lv, (TI_RI.mp k3).1.td, ?_⟩
        · show TI (rGo n lv k (rTick R n lv)) (mGo n dl lv k (mTick P n dl lv)) n dl bal lv _ _ _ _ lg (LL ++ (nw.map (fun x => (x 0, P.1.1 0 32 + 1)) ++ lnd (P.1.1 0 32 + 1) nws)) _
          rw [← List.append_assoc]
          rw [k6] at j3
          exact j3
        · rw [pre45, hI.1 ca']
          show _ = some (some (Value.int (if nw.any (fun y => y 0 == x) then nI j + 1 else _)), _)
          rw [if_pos ca', nI_1]
      · have ca2 : nw.any (fun y => y 0 == x) = false := by simpa using ca'
        obtain ⟨L', l1, l2, l3, l4, l5, l6⟩ := hI.2 ca2
        obtain ⟨nws, ok, ⟨t', B', wl', al', Ln', j3⟩, hfl, R', r1, r2⟩ := W_loop hS ho hn8 hN k (j + 1) (rTick R n lv) (mTick P n dl lv) (t + 1) (B + 400) wl1 _ _ Ln1 (e_st1 L' 4 (.int (nI (j + 1 + 1)))) (by omega) k3 (by omega) (by omega) (by rw [List.length_append, List.length_map]; omega) (by simp (maxDischargeDepth := 9) only [nl_sti, nl_str, nl_ci, nl_cr, nl_nil, ld_cons, ld_st, lr_some, li_some, lj_some, n2_nl, n2_ci, n2_cr, n2_nil, n2_sti, n2_str, tl_some, tl_none, cat_le, List.length_cons, List.length_nil, Option.bind_some, Option.bind_none, Option.map_some, cond_true, cond_false, Bool.and_true, Bool.true_and, reduceIte, Nat.reduceEqDiff, Nat.reduceAdd, Nat.reduceLeDiff, Nat.zero_add, Nat.zero_le, Nat.zero_ne_one, Nat.one_ne_zero, Nat.reduceLT, true_or, or_true, false_or, or_false, false_and, true_and, and_false, and_true, not_false_eq_true, not_true_eq_false, eq_self, mA_A, mA_I, mI_A, mI_I, b01, b10, b01n, b10n, i10, i01, im0, ei_max, ei_min, ei_obj, n30, n20, l1]) (by simp only [nl_sti, nl_str, nl_ci, nl_cr, nl_nil, ld_cons, ld_st, lr_some, li_some, lj_some, n2_nl, n2_ci, n2_cr, n2_nil, n2_sti, n2_str, tl_some, tl_none, cat_le, List.length_cons, List.length_nil, Option.bind_some, Option.bind_none, Option.map_some, cond_true, cond_false, Bool.and_true, Bool.true_and, reduceIte, Nat.reduceEqDiff, Nat.reduceAdd, Nat.reduceLeDiff, Nat.zero_add, Nat.zero_le, Nat.zero_ne_one, Nat.one_ne_zero, Nat.reduceLT, true_or, or_true, false_or, or_false, false_and, true_and, and_false, and_true, not_false_eq_true, not_true_eq_false, eq_self, mA_A, mA_I, mI_A, mI_I, b01, b10, b01n, b10n, i10, i01, im0, ei_max, ei_min, ei_obj, n30, n20, l2]) (by simp only [nl_sti, nl_str, nl_ci, nl_cr, nl_nil, ld_cons, ld_st, lr_some, li_some, lj_some, n2_nl, n2_ci, n2_cr, n2_nil, n2_sti, n2_str, tl_some, tl_none, cat_le, List.length_cons, List.length_nil, Option.bind_some, Option.bind_none, Option.map_some, cond_true, cond_false, Bool.and_true, Bool.true_and, reduceIte, Nat.reduceEqDiff, Nat.reduceAdd, Nat.reduceLeDiff, Nat.zero_add, Nat.zero_le, Nat.zero_ne_one, Nat.one_ne_zero, Nat.reduceLT, true_or, or_true, false_or, or_false, false_and, true_and, and_false, and_true, not_false_eq_true, not_true_eq_false, eq_self, mA_A, mA_I, mI_A, mI_I, b01, b10, b01n, b10n, i10, i01, im0, ei_max, ei_min, ei_obj, n30, n20, l3]) (by simp only [nl_sti, nl_str, nl_ci, nl_cr, nl_nil, ld_cons, ld_st, lr_some, li_some, lj_some, n2_nl, n2_ci, n2_cr, n2_nil, n2_sti, n2_str, tl_some, tl_none, cat_le, List.length_cons, List.length_nil, Option.bind_some, Option.bind_none, Option.map_some, cond_true, cond_false, Bool.and_true, Bool.true_and, reduceIte, Nat.reduceEqDiff, Nat.reduceAdd, Nat.reduceLeDiff, Nat.zero_add, Nat.zero_le, Nat.zero_ne_one, Nat.one_ne_zero, Nat.reduceLT, true_or, or_true, false_or, or_false, false_and, true_and, and_false, and_true, not_false_eq_true, not_true_eq_false, eq_self, mA_A, mA_I, mI_A, mI_I, b01, b10, b01n, b10n, i10, i01, im0, ei_max, ei_min, ei_obj, n30, n20, l4]) (by simp only [nl_sti, nl_str, nl_ci, nl_cr, nl_nil, ld_cons, ld_st, lr_some, li_some, lj_some, n2_nl, n2_ci, n2_cr, n2_nil, n2_sti, n2_str, tl_some, tl_none, cat_le, List.length_cons, List.length_nil, Option.bind_some, Option.bind_none, Option.map_some, cond_true, cond_false, Bool.and_true, Bool.true_and, reduceIte, Nat.reduceEqDiff, Nat.reduceAdd, Nat.reduceLeDiff, Nat.zero_add, Nat.zero_le, Nat.zero_ne_one, Nat.one_ne_zero, Nat.reduceLT, true_or, or_true, false_or, or_false, false_and, true_and, and_false, and_true, not_false_eq_true, not_true_eq_false, eq_self, mA_A, mA_I, mI_A, mI_I, b01, b10, b01n, b10n, i10, i01, im0, ei_max, ei_min, ei_obj, n30, n20])
        refine ⟨nw :: nws, ⟨k2, ok⟩, ⟨t', B', wl', al', Ln', ?_⟩, by rw [List.flatten_cons, List.length_append]; omega, R', r1, ?_⟩
        · show TI (rGo n lv k (rTick R n lv)) (mGo n dl lv k (mTick P n dl lv)) n dl bal lv _ _ _ _ lg (LL ++ (nw.map (fun x => (x 0, P.1.1 0 32 + 1)) ++ lnd (P.1.1 0 32 + 1) nws)) _
          rw [← List.append_assoc]
          rw [k6] at j3
          exact j3
        · rw [pre45, l6]
          simp (maxDischargeDepth := 9) only [s40_93, s40_96, nl_sti, nl_str, nl_ci, nl_cr, nl_nil, ld_cons, ld_st, lr_some, li_some, lj_some, n2_nl, n2_ci, n2_cr, n2_nil, n2_sti, n2_str, tl_some, tl_none, cat_le, List.length_cons, List.length_nil, Option.bind_some, Option.bind_none, Option.map_some, cond_true, cond_false, Bool.and_true, Bool.true_and, reduceIte, Nat.reduceEqDiff, Nat.reduceAdd, Nat.reduceLeDiff, Nat.zero_add, Nat.zero_le, Nat.zero_ne_one, Nat.one_ne_zero, Nat.reduceLT, true_or, or_true, false_or, or_false, false_and, true_and, and_false, and_true, not_false_eq_true, not_true_eq_false, eq_self, mA_A, mA_I, mI_A, mI_I, b01, b10, b01n, b10n, i10, i01, im0, ei_max, ei_min, ei_obj, n30, n20, b011, b101, orn, nor, dneg, dnle, dne, dcl, cat0, cat1, cat2, cat3, cat4, l1, l2, l3, l4, l5, nI_1]
          show _ = some (some (Value.int (if nw.any (fun y => y 0 == x) then nI j + 1 else fnd x (nI j + 1) nws)), _)
          rw [if_neg ca', nI_1]
          exact r2
/-! the reference: all that lands, and when -/
theorem M_foresees (hS : ModSh sh a) (ht : t ≤ 9999) (h52 : W.2.1 8 1552 = nI t) (hn : n ≤ 8) (hdl : dl ≤ 3) (hlv : lv ≤ 3) (ok : GoOk n dl lv (lft t) (mI (mI W 0 31 0) 0 32 0, cpF (W.2.1 8) (W.2.1 9) 0 0 1922)) : evp sc (d + 9) 267 0 [(0, .ref a)] [] (mk sh (gl M a 15 W)) = some (none, mk sh (gl M a 15 (mR (mGo n dl lv (lft t) (mI (mI W 0 31 0) 0 32 0, cpF (W.2.1 8) (W.2.1 9) 0 0 1922)).1 9 (mGo n dl lv (lft t) (mI (mI W 0 31 0) 0 32 0, cpF (W.2.1 8) (W.2.1 9) 0 0 1922)).2))) := by
  have hl : lft t ≤ 200 := by unfold lft; split <;> omega
  obtain ⟨t1, t2⟩ := M_trial (sc := sc) (d := d) (M := M) hS hn hdl hlv hl ok
  have i1 : ((1552 : Int32) < 0 ∨ 1922 ≤ (1552 : Int32).toNatClampNeg) = False := by decide
  have e200 : nI t + 200 = nI (t + 200) := nI_add t 200
  by_cases c : t + 200 ≤ 9999
  · have c1 : (nI (t + 200) ≤ 9999) = True := eq_true (nI_le (b := 9999) c (by omega))
    have el : lft t = 200 := by unfold lft; split <;> omega
    rw [el] at t2 ⊢
    rw [show nI 200 = (200 : Int32) from rfl] at t2
    simp only [s267_0, s267_1, s267_4, s267_5, s267_6, s267_9, s267_10, s267_13, s267_14, s267_15, s267_18, s267_19, s267_22, s267_25, s267_26, s267_29, s267_30, s267_33, s267_36, s267_39, s267_40, s267_43, s267_46, s267_47, s267_48, s267_51, s267_54, s267_57, nl_sti, nl_str, nl_ci, nl_cr, nl_nil, ld_cons, ld_st, lr_some, li_some, lj_some, n2_nl, n2_ci, n2_cr, n2_nil, n2_sti, n2_str, tl_some, tl_none, cat_le, List.length_cons, List.length_nil, Option.bind_some, Option.bind_none, Option.map_some, cond_true, cond_false, Bool.and_true, Bool.true_and, reduceIte, Nat.reduceEqDiff, Nat.reduceAdd, Nat.reduceLeDiff, Nat.zero_add, Nat.zero_le, Nat.zero_ne_one, Nat.one_ne_zero, Nat.reduceLT, true_or, or_true, false_or, or_false, false_and, true_and, and_false, and_true, not_false_eq_true, not_true_eq_false, eq_self, mA_A, mA_I, mI_A, mI_I, b01, b10, b01n, b10n, i10, i01, im0, ei_max, ei_min, ei_obj, n30, n20, b011, b101, orn, nor, dneg, dnle, dne, dcl, cat0, cat1, cat2, cat3, cat4, cl0, ng0, cl1, ng1, cl2, ng2, cl3, ng3, cl4, ng4, cl5, ng5, cl6, ng6, cl7, ng7, cl8, ng8, cl39, ng39, cl40, ng40, cl60, ng60, cl1550, ng1550, cl1551, ng1551, cl1552, ng1552, cl1553, ng1553, cl1554, ng1554, cl1555, ng1555, cl1556, ng1556, cl1557, ng1557, cl1580, ng1580, cl1741, ng1741, gM14, gM15, cM, aM8, wM8, hS, t1, mR_o (show ¬ 8 = 9 by decide), h52, i1, e200, c1, t2]
  · have c1 : (nI (t + 200) ≤ 9999) = False := eq_false (by rw [show (9999 : Int32) = nI 9999 from rfl, Int32.le_iff_toInt_le, nI_toInt (by omega), nI_toInt (by omega)]; omega)
    have el : lft t = 9999 - t := by unfold lft; split <;> omega
    have e9 : (9999 : Int32) - nI t = nI (lft t) := by rw [el]; exact nI_sub ht
    simp only [s267_0, s267_1, s267_4, s267_5, s267_6, s267_9, s267_10, s267_13, s267_14, s267_15, s267_18, s267_19, s267_22, s267_25, s267_26, s267_29, s267_30, s267_33, s267_36, s267_39, s267_40, s267_43, s267_46, s267_47, s267_48, s267_51, s267_54, s267_57, nl_sti, nl_str, nl_ci, nl_cr, nl_nil, ld_cons, ld_st, lr_some, li_some, lj_some, n2_nl, n2_ci, n2_cr, n2_nil, n2_sti, n2_str, tl_some, tl_none, cat_le, List.length_cons, List.length_nil, Option.bind_some, Option.bind_none, Option.map_some, cond_true, cond_false, Bool.and_true, Bool.true_and, reduceIte, Nat.reduceEqDiff, Nat.reduceAdd, Nat.reduceLeDiff, Nat.zero_add, Nat.zero_le, Nat.zero_ne_one, Nat.one_ne_zero, Nat.reduceLT, true_or, or_true, false_or, or_false, false_and, true_and, and_false, and_true, not_false_eq_true, not_true_eq_false, eq_self, mA_A, mA_I, mI_A, mI_I, b01, b10, b01n, b10n, i10, i01, im0, ei_max, ei_min, ei_obj, n30, n20, b011, b101, orn, nor, dneg, dnle, dne, dcl, cat0, cat1, cat2, cat3, cat4, cl0, ng0, cl1, ng1, cl2, ng2, cl3, ng3, cl4, ng4, cl5, ng5, cl6, ng6, cl7, ng7, cl8, ng8, cl39, ng39, cl40, ng40, cl60, ng60, cl1550, ng1550, cl1551, ng1551, cl1552, ng1552, cl1553, ng1553, cl1554, ng1554, cl1555, ng1555, cl1556, ng1556, cl1557, ng1557, cl1580, ng1580, cl1741, ng1741, gM14, gM15, cM, aM8, wM8, hS, t1, mR_o (show ¬ 8 = 9 by decide), h52, i1, e200, c1, e9, t2]
/-- where a number landed first -/
def plc (x : Int32) : Nat → List (Int32 × Int32) → Option (Nat × Int32)
  | _, [] => none
  | i, z :: r => if z.1 = x then some (i, z.2) else plc x (i + 1) r
theorem M_place_loop (hS : ModSh sh a) {LL : List (Int32 × Int32)} (hl : cLd W LL) (hlen : LL.length ≤ 3300) : ∀ (suf pre : List (Int32 × Int32)) (L : aL), pre ++ suf = LL → e_n2 L → e_ld L 0 = some (.ref a) → e_ld L 1 = some (.int x) → e_ld L 2 = some (.int (nI pre.length)) → evp sc d 268 2 L [] (mk sh (gl M a 15 W)) = some (some (.int (match plc x pre.length suf with
    | some (i, _) => nI i
    | none => -1)), mk sh (gl M a 15 W))
  | [], pre, L, hp, hL, h0, h1, h2 => by
    rw [List.append_nil] at hp
    subst hp
    have c1 : (nI pre.length ≤ nI pre.length) = True := eq_true (Int32.le_refl _)
    rw [s268_2]
    simp only [s268_0, s268_1, s268_3, s268_4, s268_7, s268_10, s268_11, s268_14, s268_15, s268_16, s268_17, s268_20, s268_21, s268_22, s268_25, s268_28, s268_29, nl_sti, nl_str, nl_ci, nl_cr, nl_nil, ld_cons, ld_st, lr_some, li_some, lj_some, n2_nl, n2_ci, n2_cr, n2_nil, n2_sti, n2_str, tl_some, tl_none, cat_le, List.length_cons, List.length_nil, Option.bind_some, Option.bind_none, Option.map_some, cond_true, cond_false, Bool.and_true, Bool.true_and, reduceIte, Nat.reduceEqDiff, Nat.reduceAdd, Nat.reduceLeDiff, Nat.zero_add, Nat.zero_le, Nat.zero_ne_one, Nat.one_ne_zero, Nat.reduceLT, true_or, or_true, false_or, or_false, false_and, true_and, and_false, and_true, not_false_eq_true, not_true_eq_false, eq_self, mA_A, mA_I, mI_A, mI_I, b01, b10, b01n, b10n, i10, i01, im0, ei_max, ei_min, ei_obj, n30, n20, b011, b101, orn, nor, dneg, dnle, dne, dcl, cat0, cat1, cat2, cat3, cat4, gM31, pM31, cM, hS, hL, h0, h1, h2, hl.1, c1, plc]
  | z :: suf, pre, L, hp, hL, h0, h1, h2 => by
    have hln : LL.length = pre.length + (suf.length + 1) := by rw [← hp, List.length_append, List.length_cons]
    have c1 : (nI LL.length ≤ nI pre.length) = False := eq_false (nI_ge (by omega) (by omega))
    have hz : LL[pre.length]? = some z := by rw [← hp]; simp
    obtain ⟨e1, e2⟩ := hl.2 _ z hz
    have i1 := in_nI (show pre.length < 3300 by omega) (by decide : 3300 < 2 ^ 31)
    have i2 := cl_nI (show pre.length < 3300 by omega) (by decide : 3300 < 2 ^ 31)
    rw [s268_2]
    by_cases q : z.1 = x
    · simp only [s268_0, s268_1, s268_3, s268_4, s268_7, s268_10, s268_11, s268_14, s268_15, s268_16, s268_17, s268_20, s268_21, s268_22, s268_25, s268_28, s268_29, nl_sti, nl_str, nl_ci, nl_cr, nl_nil, ld_cons, ld_st, lr_some, li_some, lj_some, n2_nl, n2_ci, n2_cr, n2_nil, n2_sti, n2_str, tl_some, tl_none, cat_le, List.length_cons, List.length_nil, Option.bind_some, Option.bind_none, Option.map_some, cond_true, cond_false, Bool.and_true, Bool.true_and, reduceIte, Nat.reduceEqDiff, Nat.reduceAdd, Nat.reduceLeDiff, Nat.zero_add, Nat.zero_le, Nat.zero_ne_one, Nat.one_ne_zero, Nat.reduceLT, true_or, or_true, false_or, or_false, false_and, true_and, and_false, and_true, not_false_eq_true, not_true_eq_false, eq_self, mA_A, mA_I, mI_A, mI_I, b01, b10, b01n, b10n, i10, i01, im0, ei_max, ei_min, ei_obj, n30, n20, b011, b101, orn, nor, dneg, dnle, dne, dcl, cat0, cat1, cat2, cat3, cat4, gM29, gM31, pM31, cM, aM12, wM12, hS, hL, h0, h1, h2, hl.1, c1, i1, i2, e1, q, plc]
    · have ih := M_place_loop hS hl hlen suf (pre ++ [z]) (e_st1 L 2 (.int (nI (pre ++ [z]).length))) (by rw [List.append_assoc]; exact hp) (by simp (maxDischargeDepth := 9) only [nl_sti, nl_str, nl_ci, nl_cr, nl_nil, ld_cons, ld_st, lr_some, li_some, lj_some, n2_nl, n2_ci, n2_cr, n2_nil, n2_sti, n2_str, tl_some, tl_none, cat_le, List.length_cons, List.length_nil, Option.bind_some, Option.bind_none, Option.map_some, cond_true, cond_false, Bool.and_true, Bool.true_and, reduceIte, Nat.reduceEqDiff, Nat.reduceAdd, Nat.reduceLeDiff, Nat.zero_add, Nat.zero_le, Nat.zero_ne_one, Nat.one_ne_zero, Nat.reduceLT, true_or, or_true, false_or, or_false, false_and, true_and, and_false, and_true, not_false_eq_true, not_true_eq_false, eq_self, mA_A, mA_I, mI_A, mI_I, b01, b10, b01n, b10n, i10, i01, im0, ei_max, ei_min, ei_obj, n30, n20, hL]) (by simp only [nl_sti, nl_str, nl_ci, nl_cr, nl_nil, ld_cons, ld_st, lr_some, li_some, lj_some, n2_nl, n2_ci, n2_cr, n2_nil, n2_sti, n2_str, tl_some, tl_none, cat_le, List.length_cons, List.length_nil, Option.bind_some, Option.bind_none, Option.map_some, cond_true, cond_false, Bool.and_true, Bool.true_and, reduceIte, Nat.reduceEqDiff, Nat.reduceAdd, Nat.reduceLeDiff, Nat.zero_add, Nat.zero_le, Nat.zero_ne_one, Nat.one_ne_zero, Nat.reduceLT, true_or, or_true, false_or, or_false, false_and, true_and, and_false, and_true, not_false_eq_true, not_true_eq_false, eq_self, mA_A, mA_I, mI_A, mI_I, b01, b10, b01n, b10n, i10, i01, im0, ei_max, ei_min, ei_obj, n30, n20, h0]) (by simp only [nl_sti, nl_str, nl_ci, nl_cr, nl_nil, ld_cons, ld_st, lr_some, li_some, lj_some, n2_nl, n2_ci, n2_cr, n2_nil, n2_sti, n2_str, tl_some, tl_none, cat_le, List.length_cons, List.length_nil, Option.bind_some, Option.bind_none, Option.map_some, cond_true, cond_false, Bool.and_true, Bool.true_and, reduceIte, Nat.reduceEqDiff, Nat.reduceAdd, Nat.reduceLeDiff, Nat.zero_add, Nat.zero_le, Nat.zero_ne_one, Nat.one_ne_zero, Nat.reduceLT, true_or, or_true, false_or, or_false, false_and, true_and, and_false, and_true, not_false_eq_true, not_true_eq_false, eq_self, mA_A, mA_I, mI_A, mI_I, b01, b10, b01n, b10n, i10, i01, im0, ei_max, ei_min, ei_obj, n30, n20, h1]) (by simp only [nl_sti, nl_str, nl_ci, nl_cr, nl_nil, ld_cons, ld_st, lr_some, li_some, lj_some, n2_nl, n2_ci, n2_cr, n2_nil, n2_sti, n2_str, tl_some, tl_none, cat_le, List.length_cons, List.length_nil, Option.bind_some, Option.bind_none, Option.map_some, cond_true, cond_false, Bool.and_true, Bool.true_and, reduceIte, Nat.reduceEqDiff, Nat.reduceAdd, Nat.reduceLeDiff, Nat.zero_add, Nat.zero_le, Nat.zero_ne_one, Nat.one_ne_zero, Nat.reduceLT, true_or, or_true, false_or, or_false, false_and, true_and, and_false, and_true, not_false_eq_true, not_true_eq_false, eq_self, mA_A, mA_I, mI_A, mI_I, b01, b10, b01n, b10n, i10, i01, im0, ei_max, ei_min, ei_obj, n30, n20])
      rw [List.length_append, List.length_singleton] at ih
      simp (maxDischargeDepth := 9) only [s268_0, s268_1, s268_3, s268_4, s268_7, s268_10, s268_11, s268_14, s268_15, s268_16, s268_17, s268_20, s268_21, s268_22, s268_25, s268_28, s268_29, nl_sti, nl_str, nl_ci, nl_cr, nl_nil, ld_cons, ld_st, lr_some, li_some, lj_some, n2_nl, n2_ci, n2_cr, n2_nil, n2_sti, n2_str, tl_some, tl_none, cat_le, List.length_cons, List.length_nil, Option.bind_some, Option.bind_none, Option.map_some, cond_true, cond_false, Bool.and_true, Bool.true_and, reduceIte, Nat.reduceEqDiff, Nat.reduceAdd, Nat.reduceLeDiff, Nat.zero_add, Nat.zero_le, Nat.zero_ne_one, Nat.one_ne_zero, Nat.reduceLT, true_or, or_true, false_or, or_false, false_and, true_and, and_false, and_true, not_false_eq_true, not_true_eq_false, eq_self, mA_A, mA_I, mI_A, mI_I, b01, b10, b01n, b10n, i10, i01, im0, ei_max, ei_min, ei_obj, n30, n20, b011, b101, orn, nor, dneg, dnle, dne, dcl, cat0, cat1, cat2, cat3, cat4, gM29, gM31, pM31, cM, aM12, wM12, hS, hL, h0, h1, h2, hl.1, c1, i1, i2, e1, q, plc, nI_1]
      exact ih
theorem plc_lnd : ∀ (nws : List (List (Nat → Int32))) (tk : Int32) (i : Nat), (match plc x i (lnd tk nws) with
    | some (_, v) => v
    | none => -1) = fnd x tk nws
  | [], tk, i => rfl
  | nw :: r, tk, i => by
    show (match plc x i (nw.map (fun y => (y 0, tk + 1)) ++ lnd (tk + 1) r) with
      | some (_, v) => v
      | none => -1) = if nw.any (fun y => y 0 == x) then tk + 1 else fnd x (tk + 1) r
    have key : ∀ (nw : List (Nat → Int32)) (i : Nat), (match plc x i (nw.map (fun y => (y 0, tk + 1)) ++ lnd (tk + 1) r) with
      | some (_, v) => v
      | none => -1) = if nw.any (fun y => y 0 == x) then tk + 1 else fnd x (tk + 1) r := by
      intro nw
      induction nw with
      | nil => exact fun i => plc_lnd r (tk + 1) i
      | cons u s ih =>
        intro i
        rw [List.map_cons, List.cons_append, List.any_cons]
        by_cases q : u 0 = x
        · simp [plc, q]
        · have := ih (i + 1)
          simp only [plc, q, if_false]
          rw [this]
          simp [q]
    exact key nw i
theorem plc_get : ∀ (l : List (Int32 × Int32)) (i j : Nat) (v : Int32), plc x i l = some (j, v) → i ≤ j ∧ ∃ u, l[j - i]? = some (u, v)
  | [], i, j, v, h => by cases h
  | z :: r, i, j, v, h => by
    unfold plc at h
    by_cases q : z.1 = x
    · rw [if_pos q] at h
      cases h
      exact ⟨Nat.le_refl _, z.1, by rw [Nat.sub_self]; rfl⟩
    · rw [if_neg q] at h
      obtain ⟨h1, u, h2⟩ := plc_get r (i + 1) j v h
      refine ⟨by omega, u, ?_⟩
      rw [show j - i = (j - (i + 1)) + 1 by omega, List.getElem?_cons_succ]
      exact h2
end
