/-! FIRST COME: the reference's half -/
def bdB (LL : List (Int32 × Int32)) (s1 : Nat) (x : Sg) (s2 : Nat) (y : Sg) : Bool := decide (x.1 < y.1) && (decide (x.2.2.1 = y.2.2.1) && (decide (bs s1 x.2.1 = bs s2 y.2.1) && (match plc x.1 0 LL, plc y.1 0 LL with
  | some (_, tx), some (_, ty) => decide (ty < tx)
  | _, _ => false)))
section
variable {sc : aS} {d : Nat} {sh : List sE} {M W : aM} {a n : Nat} {wl : Nat → List Sg} {LL : List (Int32 × Int32)}
theorem M_place (hS : ModSh sh a) (hl : cLd W LL) (hlen : LL.length ≤ 3300) {x : Int32} : evp sc d 268 0 [(0, .ref a), (1, .int x)] [] (mk sh (gl M a 15 W)) = some (some (.int (match plc x 0 LL with
    | some (i, _) => nI i
    | none => -1)), mk sh (gl M a 15 W)) := by
  have t := M_place_loop (sc := sc) (d := d) (M := M) (x := x) hS hl hlen LL [] (e_st1 [(0, .ref a), (1, .int x)] 2 (.int (nI 0))) rfl (by simp (maxDischargeDepth := 9) only [nl_sti, nl_str, nl_ci, nl_cr, nl_nil, ld_cons, ld_st, lr_some, li_some, lj_some, n2_nl, n2_ci, n2_cr, n2_nil, n2_sti, n2_str, tl_some, tl_none, cat_le, List.length_cons, List.length_nil, Option.bind_some, Option.bind_none, Option.map_some, cond_true, cond_false, Bool.and_true, Bool.true_and, reduceIte, Nat.reduceEqDiff, Nat.reduceAdd, Nat.reduceLeDiff, Nat.zero_add, Nat.zero_le, Nat.zero_ne_one, Nat.one_ne_zero, Nat.reduceLT, true_or, or_true, false_or, or_false, false_and, true_and, and_false, and_true, not_false_eq_true, not_true_eq_false, eq_self, mA_A, mA_I, mI_A, mI_I, b01, b10, b01n, b10n, i10, i01, im0, ei_max, ei_min, ei_obj, n30, n20]) (by simp only [nl_sti, nl_str, nl_ci, nl_cr, nl_nil, ld_cons, ld_st, lr_some, li_some, lj_some, n2_nl, n2_ci, n2_cr, n2_nil, n2_sti, n2_str, tl_some, tl_none, cat_le, List.length_cons, List.length_nil, Option.bind_some, Option.bind_none, Option.map_some, cond_true, cond_false, Bool.and_true, Bool.true_and, reduceIte, Nat.reduceEqDiff, Nat.reduceAdd, Nat.reduceLeDiff, Nat.zero_add, Nat.zero_le, Nat.zero_ne_one, Nat.one_ne_zero, Nat.reduceLT, true_or, or_true, false_or, or_false, false_and, true_and, and_false, and_true, not_false_eq_true, not_true_eq_false, eq_self, mA_A, mA_I, mI_A, mI_I, b01, b10, b01n, b10n, i10, i01, im0, ei_max, ei_min, ei_obj, n30, n20]) (by simp only [nl_sti, nl_str, nl_ci, nl_cr, nl_nil, ld_cons, ld_st, lr_some, li_some, lj_some, n2_nl, n2_ci, n2_cr, n2_nil, n2_sti, n2_str, tl_some, tl_none, cat_le, List.length_cons, List.length_nil, Option.bind_some, Option.bind_none, Option.map_some, cond_true, cond_false, Bool.and_true, Bool.true_and, reduceIte, Nat.reduceEqDiff, Nat.reduceAdd, Nat.reduceLeDiff, Nat.zero_add, Nat.zero_le, Nat.zero_ne_one, Nat.one_ne_zero, Nat.reduceLT, true_or, or_true, false_or, or_false, false_and, true_and, and_false, and_true, not_false_eq_true, not_true_eq_false, eq_self, mA_A, mA_I, mI_A, mI_I, b01, b10, b01n, b10n, i10, i01, im0, ei_max, ei_min, ei_obj, n30, n20]) (by simp only [nl_sti, nl_str, nl_ci, nl_cr, nl_nil, ld_cons, ld_st, lr_some, li_some, lj_some, n2_nl, n2_ci, n2_cr, n2_nil, n2_sti, n2_str, tl_some, tl_none, cat_le, List.length_cons, List.length_nil, Option.bind_some, Option.bind_none, Option.map_some, cond_true, cond_false, Bool.and_true, Bool.true_and, reduceIte, Nat.reduceEqDiff, Nat.reduceAdd, Nat.reduceLeDiff, Nat.zero_add, Nat.zero_le, Nat.zero_ne_one, Nat.one_ne_zero, Nat.reduceLT, true_or, or_true, false_or, or_false, false_and, true_and, and_false, and_true, not_false_eq_true, not_true_eq_false, eq_self, mA_A, mA_I, mI_A, mI_I, b01, b10, b01n, b10n, i10, i01, im0, ei_max, ei_min, ei_obj, n30, n20, List.length_nil])
  rw [List.length_nil, show nI 0 = (0 : Int32) from rfl] at t
  simp only [s268_0, s268_1, s268_3, s268_4, s268_7, s268_10, s268_11, s268_14, s268_15, s268_16, s268_17, s268_20, s268_21, s268_22, s268_25, s268_28, s268_29, nl_sti, nl_str, nl_ci, nl_cr, nl_nil, ld_cons, ld_st, lr_some, li_some, lj_some, n2_nl, n2_ci, n2_cr, n2_nil, n2_sti, n2_str, tl_some, tl_none, cat_le, List.length_cons, List.length_nil, Option.bind_some, Option.bind_none, Option.map_some, cond_true, cond_false, Bool.and_true, Bool.true_and, reduceIte, Nat.reduceEqDiff, Nat.reduceAdd, Nat.reduceLeDiff, Nat.zero_add, Nat.zero_le, Nat.zero_ne_one, Nat.one_ne_zero, Nat.reduceLT, true_or, or_true, false_or, or_false, false_and, true_and, and_false, and_true, not_false_eq_true, not_true_eq_false, eq_self, mA_A, mA_I, mI_A, mI_I, b01, b10, b01n, b10n, i10, i01, im0, ei_max, ei_min, ei_obj, n30, n20, b011, b101, orn, nor, dneg, dnle, dne, dcl, cat0, cat1, cat2, cat3, cat4]
  exact t
theorem rd8 (hS : ModSh sh a) {p : Nat} (hp : p < 1922) : e_ia sc (mk sh (gl M a 15 W)) (a + 8) 0 (nI p) = some (W.2.1 8 p) := by
  rw [ia_mk (show shp sh (a + 8) = some (.inr (.inl (0, 1922))) from hS 8 (by decide)), cl_nI hp (by decide), if_pos (fun z => z.elim (nI_pos (by omega)) (by omega)), gl_A (by decide)]
theorem rd13 (hS : ModSh sh a) {p : Nat} (hp : p < 3300) : e_ia sc (mk sh (gl M a 15 W)) (a + 13) 0 (nI p) = some (W.2.1 13 p) := by
  rw [ia_mk (show shp sh (a + 13) = some (.inr (.inl (0, 3300))) from hS 13 (by decide)), cl_nI hp (by decide), if_pos (fun z => z.elim (nI_pos (by omega)) (by omega)), gl_A (by decide)]
theorem bs_I {s g : Nat} (hs : s < 8) (hg : g < 8) : (if nI g ≤ nI s then (1 : Int32) else 0) = nI (bs s g) := by
  unfold bs
  by_cases q : g ≤ s
  · rw [if_pos (nI_le q (by omega)), if_pos q]; rfl
  · rw [if_neg (nI_ge (by omega) (by omega)), if_neg q]; rfl
theorem M_pair (hS : ModSh sh a) (hl : cLd W LL) (hlen : LL.length ≤ 3300) {s1 s2 k1 k2 : Nat} {x y : Sg} (hs1 : s1 < 8) (hs2 : s2 < 8) (hk1 : k1 < 30) (hk2 : k2 < 30) (hx : sgR (W.2.1 8) s1 k1 x) (hy : sgR (W.2.1 8) s2 k2 y) (gx : x.2.1 < 8 ∧ x.2.2.1 < 3) (gy : y.2.1 < 8 ∧ y.2.2.1 < 3) : evp sc (d + 1) 275 0 [(0, .ref a), (1, .int (nI s1)), (2, .int (nI s2)), (3, .int (nI k1)), (4, .int (nI k2))] [] (mk sh (gl M a 15 W)) = some (some (.int (if bdB LL s1 x s2 y = true then 0 else 1)), mk sh (gl M a 15 W)) := by
  obtain ⟨x0, x1, x2, -⟩ := hx
  obtain ⟨y0, y1, y2, -⟩ := hy
  have p1 : 8 + 4 * (30 * s1 + k1) + 2 < 1922 := by omega
  have p2 : 8 + 4 * (30 * s2 + k2) + 2 < 1922 := by omega
  have w1 := M_waits (sc := sc) (d := d) (h := mk sh (gl M a 15 W)) (s := s1) (i := k1)
  have w2 := M_waits (sc := sc) (d := d) (h := mk sh (gl M a 15 W)) (s := s2) (i := k2)
  generalize 8 + 4 * (30 * s1 + k1) = b1 at x0 x1 x2 p1 w1
  generalize 8 + 4 * (30 * s2 + k2) = b2 at y0 y1 y2 p2 w2
  have rx0 := rd8 (sc := sc) (M := M) (W := W) hS (show b1 < 1922 by omega)
  have rx1 := rd8 (sc := sc) (M := M) (W := W) hS (show b1 + 1 < 1922 by omega)
  have rx2 := rd8 (sc := sc) (M := M) (W := W) hS (show b1 + 2 < 1922 by omega)
  have ry0 := rd8 (sc := sc) (M := M) (W := W) hS (show b2 < 1922 by omega)
  have ry1 := rd8 (sc := sc) (M := M) (W := W) hS (show b2 + 1 < 1922 by omega)
  have ry2 := rd8 (sc := sc) (M := M) (W := W) hS (show b2 + 2 < 1922 by omega)
  rw [x0] at rx0
  rw [x1, ← nI_1] at rx1
  rw [x2, show nI (b1 + 2) = nI b1 + 2 from (nI_add b1 2).symm] at rx2
  rw [y0] at ry0
  rw [y1, ← nI_1] at ry1
  rw [y2, show nI (b2 + 2) = nI b2 + 2 from (nI_add b2 2).symm] at ry2
  have bx := bs_I hs1 gx.1
  have byy := bs_I hs2 gy.1
  have hb1 : bs s1 x.2.1 < 2 := by unfold bs; split <;> omega
  have hb2 : bs s2 y.2.1 < 2 := by unfold bs; split <;> omega
  by_cases c1 : x.1 < y.1
  · have c1' : (y.1 ≤ x.1) = False := eq_false (Int32.not_le.mpr c1)
    by_cases c2 : x.2.2.1 = y.2.2.1
    · have c2' : (nI x.2.2.1 = nI y.2.2.1) = True := eq_true (by rw [c2])
      by_cases c3 : bs s1 x.2.1 = bs s2 y.2.1
      · have c3' : (nI (bs s1 x.2.1) = nI (bs s2 y.2.1)) = True := eq_true (by rw [c3])
        have tx := M_place (sc := sc) (d := d) (M := M) (x := x.1) hS hl hlen
        have ty := M_place (sc := sc) (d := d) (M := M) (x := y.1) hS hl hlen
        unfold bdB
        rw [decide_eq_true c1, decide_eq_true c2, decide_eq_true c3]
        simp only [Bool.true_and]
        cases ex : plc x.1 0 LL with
        | none =>
          rw [ex] at tx
          simp only at tx
          cases ey : plc y.1 0 LL with
          | none =>
            rw [ey] at ty
            simp only at ty
            simp only [s275_0, s275_1, s275_2, s275_5, s275_7, s275_8, s275_10, s275_13, s275_15, s275_16, s275_19, s275_21, s275_22, s275_23, s275_26, s275_28, s275_29, s275_32, s275_33, s275_36, s275_38, s275_39, s275_40, s275_41, s275_42, s275_45, s275_47, s275_48, s275_49, s275_50, s275_53, s275_54, s275_55, s275_58, s275_60, s275_61, s275_62, s275_63, s275_66, s275_67, s275_68, s275_71, s275_73, s275_74, s275_75, s275_76, s275_79, s275_82, s275_83, s275_84, s275_85, s275_86, s275_89, s275_91, s275_92, s275_95, s275_97, s275_98, s275_99, s275_102, s275_104, s275_105, s275_108, s275_110, s275_112, s275_113, s275_116, s275_118, s275_119, s275_122, s275_123, s275_126, s275_128, s275_129, s275_130, s275_133, s275_135, s275_136, s275_139, s275_140, s275_143, s275_144, nl_sti, nl_str, nl_ci, nl_cr, nl_nil, ld_cons, ld_st, lr_some, li_some, lj_some, n2_nl, n2_ci, n2_cr, n2_nil, n2_sti, n2_str, tl_some, tl_none, cat_le, List.length_cons, List.length_nil, Option.bind_some, Option.bind_none, Option.map_some, cond_true, cond_false, Bool.and_true, Bool.true_and, reduceIte, Nat.reduceEqDiff, Nat.reduceAdd, Nat.reduceLeDiff, Nat.zero_add, Nat.zero_le, Nat.zero_ne_one, Nat.one_ne_zero, Nat.reduceLT, true_or, or_true, false_or, or_false, false_and, true_and, and_false, and_true, not_false_eq_true, not_true_eq_false, eq_self, mA_A, mA_I, mI_A, mI_I, b01, b10, b01n, b10n, i10, i01, im0, ei_max, ei_min, ei_obj, n30, n20, b011, b101, orn, nor, dneg, dnle, dne, dcl, cat0, cat1, cat2, cat3, cat4, gM14, gM30, cM, hS, w1, w2, rx0, rx1, rx2, ry0, ry1, ry2, M_busOf, bx, byy, c1', c2', c3', tx, ty]
            rfl
          | some q =>
            obtain ⟨j, t2⟩ := q
            rw [ey] at ty
            simp only at ty
            simp only [s275_0, s275_1, s275_2, s275_5, s275_7, s275_8, s275_10, s275_13, s275_15, s275_16, s275_19, s275_21, s275_22, s275_23, s275_26, s275_28, s275_29, s275_32, s275_33, s275_36, s275_38, s275_39, s275_40, s275_41, s275_42, s275_45, s275_47, s275_48, s275_49, s275_50, s275_53, s275_54, s275_55, s275_58, s275_60, s275_61, s275_62, s275_63, s275_66, s275_67, s275_68, s275_71, s275_73, s275_74, s275_75, s275_76, s275_79, s275_82, s275_83, s275_84, s275_85, s275_86, s275_89, s275_91, s275_92, s275_95, s275_97, s275_98, s275_99, s275_102, s275_104, s275_105, s275_108, s275_110, s275_112, s275_113, s275_116, s275_118, s275_119, s275_122, s275_123, s275_126, s275_128, s275_129, s275_130, s275_133, s275_135, s275_136, s275_139, s275_140, s275_143, s275_144, nl_sti, nl_str, nl_ci, nl_cr, nl_nil, ld_cons, ld_st, lr_some, li_some, lj_some, n2_nl, n2_ci, n2_cr, n2_nil, n2_sti, n2_str, tl_some, tl_none, cat_le, List.length_cons, List.length_nil, Option.bind_some, Option.bind_none, Option.map_some, cond_true, cond_false, Bool.and_true, Bool.true_and, reduceIte, Nat.reduceEqDiff, Nat.reduceAdd, Nat.reduceLeDiff, Nat.zero_add, Nat.zero_le, Nat.zero_ne_one, Nat.one_ne_zero, Nat.reduceLT, true_or, or_true, false_or, or_false, false_and, true_and, and_false, and_true, not_false_eq_true, not_true_eq_false, eq_self, mA_A, mA_I, mI_A, mI_I, b01, b10, b01n, b10n, i10, i01, im0, ei_max, ei_min, ei_obj, n30, n20, b011, b101, orn, nor, dneg, dnle, dne, dcl, cat0, cat1, cat2, cat3, cat4, gM14, gM30, cM, hS, w1, w2, rx0, rx1, rx2, ry0, ry1, ry2, M_busOf, bx, byy, c1', c2', c3', tx, ty]
            rfl
        | some q =>
          obtain ⟨i, t1⟩ := q
          rw [ex] at tx
          simp only at tx
          obtain ⟨-, u, hu⟩ := plc_get _ _ _ _ ex
          rw [Nat.sub_zero] at hu
          have hi := (List.getElem?_eq_some_iff.mp hu).1
          have ni : (nI i = -1) = False := eq_false (nI_nm1 (by omega))
          have r1 := rd13 (sc := sc) (M := M) (W := W) hS (show i < 3300 by omega)
          rw [(hl.2 i _ hu).2] at r1
          cases ey : plc y.1 0 LL with
          | none =>
            rw [ey] at ty
            simp only at ty
            simp only [s275_0, s275_1, s275_2, s275_5, s275_7, s275_8, s275_10, s275_13, s275_15, s275_16, s275_19, s275_21, s275_22, s275_23, s275_26, s275_28, s275_29, s275_32, s275_33, s275_36, s275_38, s275_39, s275_40, s275_41, s275_42, s275_45, s275_47, s275_48, s275_49, s275_50, s275_53, s275_54, s275_55, s275_58, s275_60, s275_61, s275_62, s275_63, s275_66, s275_67, s275_68, s275_71, s275_73, s275_74, s275_75, s275_76, s275_79, s275_82, s275_83, s275_84, s275_85, s275_86, s275_89, s275_91, s275_92, s275_95, s275_97, s275_98, s275_99, s275_102, s275_104, s275_105, s275_108, s275_110, s275_112, s275_113, s275_116, s275_118, s275_119, s275_122, s275_123, s275_126, s275_128, s275_129, s275_130, s275_133, s275_135, s275_136, s275_139, s275_140, s275_143, s275_144, nl_sti, nl_str, nl_ci, nl_cr, nl_nil, ld_cons, ld_st, lr_some, li_some, lj_some, n2_nl, n2_ci, n2_cr, n2_nil, n2_sti, n2_str, tl_some, tl_none, cat_le, List.length_cons, List.length_nil, Option.bind_some, Option.bind_none, Option.map_some, cond_true, cond_false, Bool.and_true, Bool.true_and, reduceIte, Nat.reduceEqDiff, Nat.reduceAdd, Nat.reduceLeDiff, Nat.zero_add, Nat.zero_le, Nat.zero_ne_one, Nat.one_ne_zero, Nat.reduceLT, true_or, or_true, false_or, or_false, false_and, true_and, and_false, and_true, not_false_eq_true, not_true_eq_false, eq_self, mA_A, mA_I, mI_A, mI_I, b01, b10, b01n, b10n, i10, i01, im0, ei_max, ei_min, ei_obj, n30, n20, b011, b101, orn, nor, dneg, dnle, dne, dcl, cat0, cat1, cat2, cat3, cat4, gM14, gM30, cM, hS, w1, w2, rx0, rx1, rx2, ry0, ry1, ry2, M_busOf, bx, byy, c1', c2', c3', tx, ty, ni]
            rfl
          | some q =>
            obtain ⟨j, t2⟩ := q
            rw [ey] at ty
            simp only at ty
            obtain ⟨-, u2, hu2⟩ := plc_get _ _ _ _ ey
            rw [Nat.sub_zero] at hu2
            have hj := (List.getElem?_eq_some_iff.mp hu2).1
            have nj : (nI j = -1) = False := eq_false (nI_nm1 (by omega))
            have r2 := rd13 (sc := sc) (M := M) (W := W) hS (show j < 3300 by omega)
            rw [(hl.2 j _ hu2).2] at r2
            by_cases c4 : t2 < t1
            · have c4' : (t2 < t1) = True := eq_true c4
              simp only [s275_0, s275_1, s275_2, s275_5, s275_7, s275_8, s275_10, s275_13, s275_15, s275_16, s275_19, s275_21, s275_22, s275_23, s275_26, s275_28, s275_29, s275_32, s275_33, s275_36, s275_38, s275_39, s275_40, s275_41, s275_42, s275_45, s275_47, s275_48, s275_49, s275_50, s275_53, s275_54, s275_55, s275_58, s275_60, s275_61, s275_62, s275_63, s275_66, s275_67, s275_68, s275_71, s275_73, s275_74, s275_75, s275_76, s275_79, s275_82, s275_83, s275_84, s275_85, s275_86, s275_89, s275_91, s275_92, s275_95, s275_97, s275_98, s275_99, s275_102, s275_104, s275_105, s275_108, s275_110, s275_112, s275_113, s275_116, s275_118, s275_119, s275_122, s275_123, s275_126, s275_128, s275_129, s275_130, s275_133, s275_135, s275_136, s275_139, s275_140, s275_143, s275_144, nl_sti, nl_str, nl_ci, nl_cr, nl_nil, ld_cons, ld_st, lr_some, li_some, lj_some, n2_nl, n2_ci, n2_cr, n2_nil, n2_sti, n2_str, tl_some, tl_none, cat_le, List.length_cons, List.length_nil, Option.bind_some, Option.bind_none, Option.map_some, cond_true, cond_false, Bool.and_true, Bool.true_and, reduceIte, Nat.reduceEqDiff, Nat.reduceAdd, Nat.reduceLeDiff, Nat.zero_add, Nat.zero_le, Nat.zero_ne_one, Nat.one_ne_zero, Nat.reduceLT, true_or, or_true, false_or, or_false, false_and, true_and, and_false, and_true, not_false_eq_true, not_true_eq_false, eq_self, mA_A, mA_I, mI_A, mI_I, b01, b10, b01n, b10n, i10, i01, im0, ei_max, ei_min, ei_obj, n30, n20, b011, b101, orn, nor, dneg, dnle, dne, dcl, cat0, cat1, cat2, cat3, cat4, gM14, gM30, cM, hS, w1, w2, rx0, rx1, rx2, ry0, ry1, ry2, M_busOf, bx, byy, c1', c2', c3', tx, ty, ni, nj, r1, r2, c4', decide_true]
            · have c4' : (t2 < t1) = False := eq_false c4
              simp only [s275_0, s275_1, s275_2, s275_5, s275_7, s275_8, s275_10, s275_13, s275_15, s275_16, s275_19, s275_21, s275_22, s275_23, s275_26, s275_28, s275_29, s275_32, s275_33, s275_36, s275_38, s275_39, s275_40, s275_41, s275_42, s275_45, s275_47, s275_48, s275_49, s275_50, s275_53, s275_54, s275_55, s275_58, s275_60, s275_61, s275_62, s275_63, s275_66, s275_67, s275_68, s275_71, s275_73, s275_74, s275_75, s275_76, s275_79, s275_82, s275_83, s275_84, s275_85, s275_86, s275_89, s275_91, s275_92, s275_95, s275_97, s275_98, s275_99, s275_102, s275_104, s275_105, s275_108, s275_110, s275_112, s275_113, s275_116, s275_118, s275_119, s275_122, s275_123, s275_126, s275_128, s275_129, s275_130, s275_133, s275_135, s275_136, s275_139, s275_140, s275_143, s275_144, nl_sti, nl_str, nl_ci, nl_cr, nl_nil, ld_cons, ld_st, lr_some, li_some, lj_some, n2_nl, n2_ci, n2_cr, n2_nil, n2_sti, n2_str, tl_some, tl_none, cat_le, List.length_cons, List.length_nil, Option.bind_some, Option.bind_none, Option.map_some, cond_true, cond_false, Bool.and_true, Bool.true_and, reduceIte, Nat.reduceEqDiff, Nat.reduceAdd, Nat.reduceLeDiff, Nat.zero_add, Nat.zero_le, Nat.zero_ne_one, Nat.one_ne_zero, Nat.reduceLT, true_or, or_true, false_or, or_false, false_and, true_and, and_false, and_true, not_false_eq_true, not_true_eq_false, eq_self, mA_A, mA_I, mI_A, mI_I, b01, b10, b01n, b10n, i10, i01, im0, ei_max, ei_min, ei_obj, n30, n20, b011, b101, orn, nor, dneg, dnle, dne, dcl, cat0, cat1, cat2, cat3, cat4, gM14, gM30, cM, hS, w1, w2, rx0, rx1, rx2, ry0, ry1, ry2, M_busOf, bx, byy, c1', c2', c3', tx, ty, ni, nj, r1, r2, c4', decide_false]
              rfl
      · have c3' : (nI (bs s1 x.2.1) = nI (bs s2 y.2.1)) = False := eq_false (fun q => c3 ((nI_eq (by omega) (by omega)).mp q))
        have e : bdB LL s1 x s2 y = false := by unfold bdB; rw [decide_eq_false c3, Bool.false_and, Bool.and_false, Bool.and_false]
        rw [e]
        simp only [s275_0, s275_1, s275_2, s275_5, s275_7, s275_8, s275_10, s275_13, s275_15, s275_16, s275_19, s275_21, s275_22, s275_23, s275_26, s275_28, s275_29, s275_32, s275_33, s275_36, s275_38, s275_39, s275_40, s275_41, s275_42, s275_45, s275_47, s275_48, s275_49, s275_50, s275_53, s275_54, s275_55, s275_58, s275_60, s275_61, s275_62, s275_63, s275_66, s275_67, s275_68, s275_71, s275_73, s275_74, s275_75, s275_76, s275_79, s275_82, s275_83, s275_84, s275_85, s275_86, s275_89, s275_91, s275_92, s275_95, s275_97, s275_98, s275_99, s275_102, s275_104, s275_105, s275_108, s275_110, s275_112, s275_113, s275_116, s275_118, s275_119, s275_122, s275_123, s275_126, s275_128, s275_129, s275_130, s275_133, s275_135, s275_136, s275_139, s275_140, s275_143, s275_144, nl_sti, nl_str, nl_ci, nl_cr, nl_nil, ld_cons, ld_st, lr_some, li_some, lj_some, n2_nl, n2_ci, n2_cr, n2_nil, n2_sti, n2_str, tl_some, tl_none, cat_le, List.length_cons, List.length_nil, Option.bind_some, Option.bind_none, Option.map_some, cond_true, cond_false, Bool.and_true, Bool.true_and, reduceIte, Nat.reduceEqDiff, Nat.reduceAdd, Nat.reduceLeDiff, Nat.zero_add, Nat.zero_le, Nat.zero_ne_one, Nat.one_ne_zero, Nat.reduceLT, true_or, or_true, false_or, or_false, false_and, true_and, and_false, and_true, not_false_eq_true, not_true_eq_false, eq_self, mA_A, mA_I, mI_A, mI_I, b01, b10, b01n, b10n, i10, i01, im0, ei_max, ei_min, ei_obj, n30, n20, b011, b101, orn, nor, dneg, dnle, dne, dcl, cat0, cat1, cat2, cat3, cat4, gM14, gM30, cM, hS, w1, w2, rx0, rx1, rx2, ry0, ry1, ry2, M_busOf, bx, byy, c1', c2', c3']
        rfl
    · have c2' : (nI x.2.2.1 = nI y.2.2.1) = False := eq_false (fun q => c2 ((nI_eq (by omega) (by omega)).mp q))
      have e : bdB LL s1 x s2 y = false := by unfold bdB; rw [decide_eq_false c2, Bool.false_and, Bool.and_false]
      rw [e]
      simp only [s275_0, s275_1, s275_2, s275_5, s275_7, s275_8, s275_10, s275_13, s275_15, s275_16, s275_19, s275_21, s275_22, s275_23, s275_26, s275_28, s275_29, s275_32, s275_33, s275_36, s275_38, s275_39, s275_40, s275_41, s275_42, s275_45, s275_47, s275_48, s275_49, s275_50, s275_53, s275_54, s275_55, s275_58, s275_60, s275_61, s275_62, s275_63, s275_66, s275_67, s275_68, s275_71, s275_73, s275_74, s275_75, s275_76, s275_79, s275_82, s275_83, s275_84, s275_85, s275_86, s275_89, s275_91, s275_92, s275_95, s275_97, s275_98, s275_99, s275_102, s275_104, s275_105, s275_108, s275_110, s275_112, s275_113, s275_116, s275_118, s275_119, s275_122, s275_123, s275_126, s275_128, s275_129, s275_130, s275_133, s275_135, s275_136, s275_139, s275_140, s275_143, s275_144, nl_sti, nl_str, nl_ci, nl_cr, nl_nil, ld_cons, ld_st, lr_some, li_some, lj_some, n2_nl, n2_ci, n2_cr, n2_nil, n2_sti, n2_str, tl_some, tl_none, cat_le, List.length_cons, List.length_nil, Option.bind_some, Option.bind_none, Option.map_some, cond_true, cond_false, Bool.and_true, Bool.true_and, reduceIte, Nat.reduceEqDiff, Nat.reduceAdd, Nat.reduceLeDiff, Nat.zero_add, Nat.zero_le, Nat.zero_ne_one, Nat.one_ne_zero, Nat.reduceLT, true_or, or_true, false_or, or_false, false_and, true_and, and_false, and_true, not_false_eq_true, not_true_eq_false, eq_self, mA_A, mA_I, mI_A, mI_I, b01, b10, b01n, b10n, i10, i01, im0, ei_max, ei_min, ei_obj, n30, n20, b011, b101, orn, nor, dneg, dnle, dne, dcl, cat0, cat1, cat2, cat3, cat4, gM14, gM30, cM, hS, w1, w2, rx0, rx1, rx2, ry0, ry1, ry2, M_busOf, bx, byy, c1', c2']
      rfl
  · have c1' : (y.1 ≤ x.1) = True := eq_true (Int32.not_lt.mp c1)
    have e : bdB LL s1 x s2 y = false := by unfold bdB; rw [decide_eq_false c1, Bool.false_and]
    rw [e]
    simp only [s275_0, s275_1, s275_2, s275_5, s275_7, s275_8, s275_10, s275_13, s275_15, s275_16, s275_19, s275_21, s275_22, s275_23, s275_26, s275_28, s275_29, s275_32, s275_33, s275_36, s275_38, s275_39, s275_40, s275_41, s275_42, s275_45, s275_47, s275_48, s275_49, s275_50, s275_53, s275_54, s275_55, s275_58, s275_60, s275_61, s275_62, s275_63, s275_66, s275_67, s275_68, s275_71, s275_73, s275_74, s275_75, s275_76, s275_79, s275_82, s275_83, s275_84, s275_85, s275_86, s275_89, s275_91, s275_92, s275_95, s275_97, s275_98, s275_99, s275_102, s275_104, s275_105, s275_108, s275_110, s275_112, s275_113, s275_116, s275_118, s275_119, s275_122, s275_123, s275_126, s275_128, s275_129, s275_130, s275_133, s275_135, s275_136, s275_139, s275_140, s275_143, s275_144, nl_sti, nl_str, nl_ci, nl_cr, nl_nil, ld_cons, ld_st, lr_some, li_some, lj_some, n2_nl, n2_ci, n2_cr, n2_nil, n2_sti, n2_str, tl_some, tl_none, cat_le, List.length_cons, List.length_nil, Option.bind_some, Option.bind_none, Option.map_some, cond_true, cond_false, Bool.and_true, Bool.true_and, reduceIte, Nat.reduceEqDiff, Nat.reduceAdd, Nat.reduceLeDiff, Nat.zero_add, Nat.zero_le, Nat.zero_ne_one, Nat.one_ne_zero, Nat.reduceLT, true_or, or_true, false_or, or_false, false_and, true_and, and_false, and_true, not_false_eq_true, not_true_eq_false, eq_self, mA_A, mA_I, mI_A, mI_I, b01, b10, b01n, b10n, i10, i01, im0, ei_max, ei_min, ei_obj, n30, n20, b011, b101, orn, nor, dneg, dnle, dne, dcl, cat0, cat1, cat2, cat3, cat4, gM14, gM30, cM, hS, w1, w2, rx0, ry0, c1']
    rfl
end
